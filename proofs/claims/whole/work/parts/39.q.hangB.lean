/-! bounds of the hang's numbers; fewer hung, more may hang -/
theorem lp_lt_b {h : lh_HS} (I : lh_I h) {w : Nat} (hw : w < lh_N h 6) : 0 ≤ (lp_lt h w).toInt ∧ (lp_lt h w).toInt ≤ 200 := by
  have hN := I.1.1.2
  obtain ⟨⟨r, hr, er⟩, ⟨y, hy, ey⟩, -⟩ := I.2.2.2.2.2 w hw
  unfold lp_lt fX4_lightEnd
  rw [er, ey, show (nI r * 10 + nI y).toNatClampNeg = r * 10 + y from by rw [lh_ry, nI_clamp (by omega)], nI_clamp (by omega), if_neg (show ¬ (1 : Int32) = 0 by decide)]
  obtain ⟨w1, w2⟩ := I.2.1 r hr
  have w3 := w2 y hy
  by_cases c4 : h 8 (r * 10 + y) = -1
  · rw [if_pos c4]
    exact ⟨by have := w1.1; omega, w1.2⟩
  · rw [if_neg c4]
    have q : ¬ h 8 (r * 10 + y) < 0 := fun z => c4 ((lh_neg1 w3).mp z)
    rw [Int32.lt_iff_toInt_lt, show (0 : Int32).toInt = 0 from by decide] at q
    exact ⟨by omega, by have := w3.2; have := w1.2; omega⟩
theorem lp_lf_e {h : lh_HS} (I : lh_I h) {s : Nat} (hs : s < lh_N h 3) : lp_lf h s = h 9 s - lb_sp h (nI s) 9 1 := by
  have hM := I.1.2.1.2
  unfold lp_lf
  rw [(lb_cls I (nI s)).2 0, if_pos rfl, nI_clamp (by omega)]
theorem lp_lf_b {h : lh_HS} (I : lh_I h) {s : Nat} (hs : s < lh_N h 3) : -17000 ≤ (lp_lf h s).toInt ∧ (lp_lf h s).toInt ≤ 2000 := by
  have z := lb_sp_b I (s := nI s) ⟨s, hs, rfl⟩ 9 1
  have q := (I.2.2.1 s hs).1
  rw [lp_lf_e I hs]
  have e : (h 9 s - lb_sp h (nI s) 9 1).toInt = (h 9 s).toInt - (lb_sp h (nI s) 9 1).toInt := by
    rw [Int32.toInt_sub]
    exact Int.bmod_eq_of_le (by have := q.1; omega) (by have := q.2; omega)
  rw [e]
  exact ⟨by have := q.1; omega, by have := q.2; omega⟩
theorem lp_sp_b {h : lh_HS} (I : lh_I h) {s : Nat} (hs : s < lh_N h 3) (c : Nat → Int32) : ∀ w, w ≤ lh_N h 6 → -17000 - 200 * (w : Int) ≤ (lp_sp h c s w).toInt ∧ (lp_sp h c s w).toInt ≤ 2000 := by
  have hW := I.1.2.2.2.2.2
  intro w
  induction w with
  | zero =>
    intro _
    have := lp_lf_b I hs
    show -17000 - 200 * ((0 : Nat) : Int) ≤ (lp_lf h s).toInt ∧ (lp_lf h s).toInt ≤ 2000
    omega
  | succ w ih =>
    intro hw
    obtain ⟨a, b⟩ := ih (by omega)
    simp only [lp_sp]
    by_cases e : c w = nI s
    · rw [if_pos e]
      have l := lp_lt_b I (w := w) (by omega)
      have q : (lp_sp h c s w - lp_lt h w).toInt = (lp_sp h c s w).toInt - (lp_lt h w).toInt := by
        rw [Int32.toInt_sub]
        exact Int.bmod_eq_of_le (by omega) (by omega)
      rw [q]
      omega
    · rw [if_neg e]
      omega
theorem lp_ne4 {s : Nat} (hs : s < 100) : ¬ (-4 : Int32) = nI s := by
  rw [← Int32.toInt_inj, nI_toInt (by omega), show (-4 : Int32).toInt = -4 from by decide]
  omega
theorem lp_sp_m {h : lh_HS} (I : lh_I h) {s : Nat} (hs : s < lh_N h 3) {w0 : Nat} {c c0 : Nat → Int32} (r : lp_rl w0 c c0) : ∀ w, w ≤ lh_N h 6 → (lp_sp h c s w).toInt ≤ (lp_sp h c0 s w).toInt := by
  have hW := I.1.2.2.2.2.2
  have hS := I.1.2.1.2
  intro w
  induction w with
  | zero => intro _; exact Int.le_refl _
  | succ w ih =>
    intro hw
    have z := ih (by omega)
    have l := lp_lt_b I (w := w) (by omega)
    have b1 := lp_sp_b I hs c w (by omega)
    have b2 := lp_sp_b I hs c0 w (by omega)
    have q1 : (lp_sp h c s w - lp_lt h w).toInt = (lp_sp h c s w).toInt - (lp_lt h w).toInt := by
      rw [Int32.toInt_sub]
      exact Int.bmod_eq_of_le (by omega) (by omega)
    have q2 : (lp_sp h c0 s w - lp_lt h w).toInt = (lp_sp h c0 s w).toInt - (lp_lt h w).toInt := by
      rw [Int32.toInt_sub]
      exact Int.bmod_eq_of_le (by omega) (by omega)
    simp only [lp_sp]
    by_cases e : w < w0
    · rw [r.1 w e, if_neg (lp_ne4 (by omega))]
      by_cases f : c w = nI s
      · rw [if_pos f, q1]; omega
      · rw [if_neg f]; exact z
    · rw [r.2 w (by omega)]
      by_cases f : c w = nI s
      · rw [if_pos f, if_pos f, q1, q2]; omega
      · rw [if_neg f, if_neg f]; exact z
theorem lp_ok_m {h : lh_HS} (I : lh_I h) {w0 : Nat} {c c0 : Nat → Int32} (r : lp_rl w0 c c0) {w s : Nat} (hs : s < lh_N h 3) (hw : w ≤ lh_N h 6) (q : lp_okb h c w s = true) : lp_okb h c0 w s = true := by
  have hS := I.1.2.1.2
  rw [lp_okb_iff] at q ⊢
  obtain ⟨q1, q2, q3, q4⟩ := q
  refine ⟨q1, q2, ?_, fun v hv z => ?_⟩
  · rw [Int32.le_iff_toInt_le] at q3 ⊢
    exact Int.le_trans q3 (lp_sp_m I hs r w hw)
  · by_cases e : v < w0
    · unfold lp_cf at z
      rw [r.1 v e] at z
      rcases z with z | z
      · exact lp_ne4 (by omega) z.1
      · exact z.1 rfl
    · unfold lp_cf at z
      rw [r.2 v (by omega)] at z
      exact q4 v hv z
