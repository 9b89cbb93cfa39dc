/-! KEEP and BACK -/
def lk_hs (h h' : lh_HS) : Prop := (∀ q, 2 ≤ q → q ≤ 6 → h' q 0 = h q 0) ∧ (∀ q z, 7 ≤ q → q ≤ 26 → (z < 30 ∨ (q = 8 ∧ z < 40)) → h' q z = h q z)
def lk_ms (h h' : lh_HS) : Prop := (∀ z, z < 5 → h' 38 z = h 38 z) ∧ (∀ z, z < 4 → h' 39 z = h 39 z) ∧ (∀ z, z < 40 → h' 40 z = h 40 z) ∧ (∀ z, z < 56 → h' 41 z = h 41 z) ∧ (∀ z, z < 150 → h' 42 z = h 42 z) ∧ (∀ z, z < 36 → h' 43 z = h 43 z) ∧ (∀ z, z < 15 → h' 44 z = h 44 z)
theorem lk_hs.N {h h' : lh_HS} (s : lk_hs h h') {c : Nat} (h1 : 2 ≤ c) (h2 : c ≤ 6) : lh_N h' c = lh_N h c := by unfold lh_N; rw [s.1 c h1 h2]
theorem lk_hs.I {h h' : lh_HS} (s : lk_hs h h') (I : lh_I h) : lh_I h' := by
  obtain ⟨⟨c2, c3, c4, c5, c6⟩, iR, iS, iB, iT, iW⟩ := I
  have n2 := s.N (c := 2) (by decide) (by decide)
  have n3 := s.N (c := 3) (by decide) (by decide)
  have n4 := s.N (c := 4) (by decide) (by decide)
  have n5 := s.N (c := 5) (by decide) (by decide)
  have n6 := s.N (c := 6) (by decide) (by decide)
  have b2 := c2.2
  have b3 := c3.2
  have b4 := c4.2
  have b5 := c5.2
  have b6 := c6.2
  refine ⟨⟨?_, ?_, ?_, ?_, ?_⟩, fun r hr => ?_, fun r hr => ?_, fun r hr => ?_, fun r hr => ?_, fun r hr => ?_⟩
  · unfold lh_cn; rw [n2, s.1 2 (by decide) (by decide)]; exact c2
  · unfold lh_cn; rw [n3, s.1 3 (by decide) (by decide)]; exact c3
  · unfold lh_cn; rw [n4, s.1 4 (by decide) (by decide)]; exact c4
  · unfold lh_cn; rw [n5, s.1 5 (by decide) (by decide)]; exact c5
  · unfold lh_cn; rw [n6, s.1 6 (by decide) (by decide)]; exact c6
  · rw [n2] at hr
    rw [s.2 7 r (by decide) (by decide) (by omega)]
    refine ⟨(iR r hr).1, fun y hy => ?_⟩
    rw [s.2 8 (r * 10 + y) (by decide) (by decide) (by omega)]
    exact (iR r hr).2 y hy
  · rw [n3] at hr ⊢
    rw [s.2 9 r (by decide) (by decide) (by omega), s.2 10 r (by decide) (by decide) (by omega), s.2 11 r (by decide) (by decide) (by omega), s.2 12 r (by decide) (by decide) (by omega), s.2 13 r (by decide) (by decide) (by omega), s.2 14 r (by decide) (by decide) (by omega), s.2 15 r (by decide) (by decide) (by omega)]
    exact iS r hr
  · rw [n4] at hr
    rw [n2, n3, s.2 16 r (by decide) (by decide) (by omega), s.2 17 r (by decide) (by decide) (by omega), s.2 18 r (by decide) (by decide) (by omega), s.2 19 r (by decide) (by decide) (by omega), s.2 20 r (by decide) (by decide) (by omega)]
    exact iB r hr
  · rw [n5] at hr
    rw [n3, s.2 21 r (by decide) (by decide) (by omega), s.2 22 r (by decide) (by decide) (by omega), s.2 23 r (by decide) (by decide) (by omega)]
    exact iT r hr
  · rw [n6] at hr
    rw [n2, s.2 24 r (by decide) (by decide) (by omega), s.2 25 r (by decide) (by decide) (by omega), s.2 26 r (by decide) (by decide) (by omega)]
    exact iW r hr
theorem lk_hs.R {h h' : lh_HS} (s : lk_hs h h') (t : lk_ms h h') (I : lh_I h) (R : lh_RM h) : lh_RM h' := by
  obtain ⟨⟨c2, c3, c4, c5, c6⟩, -⟩ := I
  obtain ⟨⟨r0, r1, r2, r3, r4⟩, iR, iS, iB, iT, iW⟩ := R
  obtain ⟨t8, t9, t0, t1, t2, t3, t4⟩ := t
  have n2 := s.N (c := 2) (by decide) (by decide)
  have n3 := s.N (c := 3) (by decide) (by decide)
  have n4 := s.N (c := 4) (by decide) (by decide)
  have n5 := s.N (c := 5) (by decide) (by decide)
  have n6 := s.N (c := 6) (by decide) (by decide)
  have b2 := c2.2
  have b3 := c3.2
  have b4 := c4.2
  have b5 := c5.2
  have b6 := c6.2
  refine ⟨⟨?_, ?_, ?_, ?_, ?_⟩, fun r hr => ?_, fun r hr => ?_, fun r hr => ?_, fun r hr => ?_, fun r hr => ?_⟩
  · rw [t8 0 (by decide), s.1 2 (by decide) (by decide)]; exact r0
  · rw [t8 1 (by decide), s.1 3 (by decide) (by decide)]; exact r1
  · rw [t8 2 (by decide), s.1 4 (by decide) (by decide)]; exact r2
  · rw [t8 3 (by decide), s.1 5 (by decide) (by decide)]; exact r3
  · rw [t8 4 (by decide), s.1 6 (by decide) (by decide)]; exact r4
  · rw [n2] at hr
    rw [t9 r (by omega), s.2 7 r (by decide) (by decide) (by omega)]
    refine ⟨(iR r hr).1, fun y hy => ?_⟩
    rw [t0 (10 * r + y) (by omega), s.2 8 (r * 10 + y) (by decide) (by decide) (by omega)]
    exact (iR r hr).2 y hy
  · rw [n3] at hr
    rw [t1 (7 * r) (by omega), t1 (7 * r + 1) (by omega), t1 (7 * r + 2) (by omega), t1 (7 * r + 3) (by omega), t1 (7 * r + 4) (by omega), t1 (7 * r + 5) (by omega), t1 (7 * r + 6) (by omega), s.2 9 r (by decide) (by decide) (by omega), s.2 10 r (by decide) (by decide) (by omega), s.2 11 r (by decide) (by decide) (by omega), s.2 12 r (by decide) (by decide) (by omega), s.2 13 r (by decide) (by decide) (by omega), s.2 14 r (by decide) (by decide) (by omega), s.2 15 r (by decide) (by decide) (by omega)]
    exact iS r hr
  · rw [n4] at hr
    rw [t2 (5 * r) (by omega), t2 (5 * r + 1) (by omega), t2 (5 * r + 2) (by omega), t2 (5 * r + 3) (by omega), t2 (5 * r + 4) (by omega), s.2 16 r (by decide) (by decide) (by omega), s.2 17 r (by decide) (by decide) (by omega), s.2 18 r (by decide) (by decide) (by omega), s.2 19 r (by decide) (by decide) (by omega), s.2 20 r (by decide) (by decide) (by omega)]
    exact iB r hr
  · rw [n5] at hr
    rw [t3 (3 * r) (by omega), t3 (3 * r + 1) (by omega), t3 (3 * r + 2) (by omega), s.2 21 r (by decide) (by decide) (by omega), s.2 22 r (by decide) (by decide) (by omega), s.2 23 r (by decide) (by decide) (by omega)]
    exact iT r hr
  · rw [n6] at hr
    rw [t4 (3 * r) (by omega), t4 (3 * r + 1) (by omega), t4 (3 * r + 2) (by omega), s.2 24 r (by decide) (by decide) (by omega), s.2 25 r (by decide) (by decide) (by omega), s.2 26 r (by decide) (by decide) (by omega)]
    exact iW r hr
def lm_K (c p i n : Nat) (h g : lh_HS) : Prop := (∀ q, q ≠ 46 → q ≠ 37 → g q = h q) ∧ (∀ z, z ≠ 17 → g 37 z = h 37 z) ∧ g 37 17 = nI (p + n) ∧ (∀ z, z < p → g 46 z = h 46 z) ∧ ∀ d, d < n → g 46 (p + d) = h c (i + d)
def lm_B (c p i n : Nat) (h g : lh_HS) : Prop := (∀ q, q ≠ c → q ≠ 37 → g q = h q) ∧ (∀ z, z ≠ 17 → g 37 z = h 37 z) ∧ g 37 17 = nI (p + n) ∧ (∀ z, z < i → g c z = h c z) ∧ ∀ d, d < n → g c (i + d) = h 46 (p + d)
theorem lm_K0 {c p i : Nat} {h : lh_HS} (e : h 37 17 = nI p) : lm_K c p i 0 h h := ⟨fun _ _ _ => rfl, fun _ _ => rfl, e, fun _ _ => rfl, fun d hd => absurd hd (Nat.not_lt_zero d)⟩
theorem lm_B0 {c p i : Nat} {h : lh_HS} (e : h 37 17 = nI p) : lm_B c p i 0 h h := ⟨fun _ _ _ => rfl, fun _ _ => rfl, e, fun _ _ => rfl, fun d hd => absurd hd (Nat.not_lt_zero d)⟩
theorem lm_KS {c p i n : Nat} {h g : lh_HS} (hc : c ≠ 46 ∧ c ≠ 37) (x : lm_K c (p + 1) (i + 1) n (lh_up (lh_up h 46 p (h c i)) 37 17 (nI (p + 1))) g) : lm_K c p i (n + 1) h g := by
  obtain ⟨x1, x2, x3, x4, x5⟩ := x
  refine ⟨fun q h1 h2 => ?_, fun z hz => ?_, ?_, fun z hz => ?_, fun d hd => ?_⟩
  · rw [x1 q h1 h2, lh_up_r, if_neg h2, lh_up_r, if_neg h1]
  · rw [x2 z hz, lh_up_ne (Or.inr hz), lh_up_ne (Or.inl (by decide))]
  · rw [x3, show p + 1 + n = p + (n + 1) from by omega]
  · rw [x4 z (by omega), lh_up_ne (Or.inl (by decide)), lh_up_ne (Or.inr (by omega))]
  · cases d with
    | zero => rw [Nat.add_zero, Nat.add_zero, x4 p (by omega), lh_up_ne (Or.inl (by decide)), lh_up_eq]
    | succ d => rw [show p + (d + 1) = p + 1 + d from by omega, show i + (d + 1) = i + 1 + d from by omega, x5 d (by omega), lh_up_r, if_neg hc.2, lh_up_r, if_neg hc.1]
theorem lm_BS {c p i n : Nat} {h g : lh_HS} (hc : c ≠ 46 ∧ c ≠ 37) (x : lm_B c (p + 1) (i + 1) n (lh_up (lh_up h c i (h 46 p)) 37 17 (nI (p + 1))) g) : lm_B c p i (n + 1) h g := by
  obtain ⟨x1, x2, x3, x4, x5⟩ := x
  refine ⟨fun q h1 h2 => ?_, fun z hz => ?_, ?_, fun z hz => ?_, fun d hd => ?_⟩
  · rw [x1 q h1 h2, lh_up_r, if_neg h2, lh_up_r, if_neg h1]
  · rw [x2 z hz, lh_up_ne (Or.inr hz), lh_up_ne (Or.inl (fun e => hc.2 e.symm))]
  · rw [x3, show p + 1 + n = p + (n + 1) from by omega]
  · rw [x4 z (by omega), lh_up_ne (Or.inl hc.2), lh_up_ne (Or.inr (by omega))]
  · cases d with
    | zero => rw [Nat.add_zero, Nat.add_zero, x4 i (by omega), lh_up_ne (Or.inl hc.2), lh_up_eq]
    | succ d => rw [show p + (d + 1) = p + 1 + d from by omega, show i + (d + 1) = i + 1 + d from by omega, x5 d (by omega), lh_up_r, if_neg (by decide), lh_up_r, if_neg (fun e => hc.1 e.symm)]
theorem lm_K38 : ∀ (n i p : Nat) (h : lh_HS), h 37 17 = nI p → p + n ≤ 400 → i + n ≤ 400 → lm_K 38 p i n h (LX9_move_38_h 1 n i h) := by
  intro n
  induction n with
  | zero => intro i p h e _ _; exact lm_K0 e
  | succ n ih =>
    intro i p h e h1 h2
    simp only [LX9_move_38_h]
    rw [if_neg (by decide), e, nI_1, nI_clamp (by omega), nI_clamp (by omega)]
    exact lm_KS ⟨by decide, by decide⟩ (ih (i + 1) (p + 1) _ (lh_up_eq _ 37 17 _) (by omega) (by omega))
theorem lm_B38 : ∀ (n i p : Nat) (h : lh_HS), h 37 17 = nI p → p + n ≤ 400 → i + n ≤ 400 → lm_B 38 p i n h (LX9_move_38_h 0 n i h) := by
  intro n
  induction n with
  | zero => intro i p h e _ _; exact lm_B0 e
  | succ n ih =>
    intro i p h e h1 h2
    simp only [LX9_move_38_h]
    rw [if_pos trivial, e, nI_1, nI_clamp (by omega), nI_clamp (by omega)]
    exact lm_BS ⟨by decide, by decide⟩ (ih (i + 1) (p + 1) _ (lh_up_eq _ 37 17 _) (by omega) (by omega))
theorem lm_K39 : ∀ (n i p : Nat) (h : lh_HS), h 37 17 = nI p → p + n ≤ 400 → i + n ≤ 400 → lm_K 39 p i n h (LX9_move_39_h 1 n i h) := by
  intro n
  induction n with
  | zero => intro i p h e _ _; exact lm_K0 e
  | succ n ih =>
    intro i p h e h1 h2
    simp only [LX9_move_39_h]
    rw [if_neg (by decide), e, nI_1, nI_clamp (by omega), nI_clamp (by omega)]
    exact lm_KS ⟨by decide, by decide⟩ (ih (i + 1) (p + 1) _ (lh_up_eq _ 37 17 _) (by omega) (by omega))
theorem lm_B39 : ∀ (n i p : Nat) (h : lh_HS), h 37 17 = nI p → p + n ≤ 400 → i + n ≤ 400 → lm_B 39 p i n h (LX9_move_39_h 0 n i h) := by
  intro n
  induction n with
  | zero => intro i p h e _ _; exact lm_B0 e
  | succ n ih =>
    intro i p h e h1 h2
    simp only [LX9_move_39_h]
    rw [if_pos trivial, e, nI_1, nI_clamp (by omega), nI_clamp (by omega)]
    exact lm_BS ⟨by decide, by decide⟩ (ih (i + 1) (p + 1) _ (lh_up_eq _ 37 17 _) (by omega) (by omega))
theorem lm_K40 : ∀ (n i p : Nat) (h : lh_HS), h 37 17 = nI p → p + n ≤ 400 → i + n ≤ 400 → lm_K 40 p i n h (LX9_move_40_h 1 n i h) := by
  intro n
  induction n with
  | zero => intro i p h e _ _; exact lm_K0 e
  | succ n ih =>
    intro i p h e h1 h2
    simp only [LX9_move_40_h]
    rw [if_neg (by decide), e, nI_1, nI_clamp (by omega), nI_clamp (by omega)]
    exact lm_KS ⟨by decide, by decide⟩ (ih (i + 1) (p + 1) _ (lh_up_eq _ 37 17 _) (by omega) (by omega))
theorem lm_B40 : ∀ (n i p : Nat) (h : lh_HS), h 37 17 = nI p → p + n ≤ 400 → i + n ≤ 400 → lm_B 40 p i n h (LX9_move_40_h 0 n i h) := by
  intro n
  induction n with
  | zero => intro i p h e _ _; exact lm_B0 e
  | succ n ih =>
    intro i p h e h1 h2
    simp only [LX9_move_40_h]
    rw [if_pos trivial, e, nI_1, nI_clamp (by omega), nI_clamp (by omega)]
    exact lm_BS ⟨by decide, by decide⟩ (ih (i + 1) (p + 1) _ (lh_up_eq _ 37 17 _) (by omega) (by omega))
theorem lm_K41 : ∀ (n i p : Nat) (h : lh_HS), h 37 17 = nI p → p + n ≤ 400 → i + n ≤ 400 → lm_K 41 p i n h (LX9_move_41_h 1 n i h) := by
  intro n
  induction n with
  | zero => intro i p h e _ _; exact lm_K0 e
  | succ n ih =>
    intro i p h e h1 h2
    simp only [LX9_move_41_h]
    rw [if_neg (by decide), e, nI_1, nI_clamp (by omega), nI_clamp (by omega)]
    exact lm_KS ⟨by decide, by decide⟩ (ih (i + 1) (p + 1) _ (lh_up_eq _ 37 17 _) (by omega) (by omega))
theorem lm_B41 : ∀ (n i p : Nat) (h : lh_HS), h 37 17 = nI p → p + n ≤ 400 → i + n ≤ 400 → lm_B 41 p i n h (LX9_move_41_h 0 n i h) := by
  intro n
  induction n with
  | zero => intro i p h e _ _; exact lm_B0 e
  | succ n ih =>
    intro i p h e h1 h2
    simp only [LX9_move_41_h]
    rw [if_pos trivial, e, nI_1, nI_clamp (by omega), nI_clamp (by omega)]
    exact lm_BS ⟨by decide, by decide⟩ (ih (i + 1) (p + 1) _ (lh_up_eq _ 37 17 _) (by omega) (by omega))
theorem lm_K42 : ∀ (n i p : Nat) (h : lh_HS), h 37 17 = nI p → p + n ≤ 400 → i + n ≤ 400 → lm_K 42 p i n h (LX9_move_42_h 1 n i h) := by
  intro n
  induction n with
  | zero => intro i p h e _ _; exact lm_K0 e
  | succ n ih =>
    intro i p h e h1 h2
    simp only [LX9_move_42_h]
    rw [if_neg (by decide), e, nI_1, nI_clamp (by omega), nI_clamp (by omega)]
    exact lm_KS ⟨by decide, by decide⟩ (ih (i + 1) (p + 1) _ (lh_up_eq _ 37 17 _) (by omega) (by omega))
theorem lm_B42 : ∀ (n i p : Nat) (h : lh_HS), h 37 17 = nI p → p + n ≤ 400 → i + n ≤ 400 → lm_B 42 p i n h (LX9_move_42_h 0 n i h) := by
  intro n
  induction n with
  | zero => intro i p h e _ _; exact lm_B0 e
  | succ n ih =>
    intro i p h e h1 h2
    simp only [LX9_move_42_h]
    rw [if_pos trivial, e, nI_1, nI_clamp (by omega), nI_clamp (by omega)]
    exact lm_BS ⟨by decide, by decide⟩ (ih (i + 1) (p + 1) _ (lh_up_eq _ 37 17 _) (by omega) (by omega))
theorem lm_K43 : ∀ (n i p : Nat) (h : lh_HS), h 37 17 = nI p → p + n ≤ 400 → i + n ≤ 400 → lm_K 43 p i n h (LX9_move_43_h 1 n i h) := by
  intro n
  induction n with
  | zero => intro i p h e _ _; exact lm_K0 e
  | succ n ih =>
    intro i p h e h1 h2
    simp only [LX9_move_43_h]
    rw [if_neg (by decide), e, nI_1, nI_clamp (by omega), nI_clamp (by omega)]
    exact lm_KS ⟨by decide, by decide⟩ (ih (i + 1) (p + 1) _ (lh_up_eq _ 37 17 _) (by omega) (by omega))
theorem lm_B43 : ∀ (n i p : Nat) (h : lh_HS), h 37 17 = nI p → p + n ≤ 400 → i + n ≤ 400 → lm_B 43 p i n h (LX9_move_43_h 0 n i h) := by
  intro n
  induction n with
  | zero => intro i p h e _ _; exact lm_B0 e
  | succ n ih =>
    intro i p h e h1 h2
    simp only [LX9_move_43_h]
    rw [if_pos trivial, e, nI_1, nI_clamp (by omega), nI_clamp (by omega)]
    exact lm_BS ⟨by decide, by decide⟩ (ih (i + 1) (p + 1) _ (lh_up_eq _ 37 17 _) (by omega) (by omega))
theorem lm_K44 : ∀ (n i p : Nat) (h : lh_HS), h 37 17 = nI p → p + n ≤ 400 → i + n ≤ 400 → lm_K 44 p i n h (LX9_move_44_h 1 n i h) := by
  intro n
  induction n with
  | zero => intro i p h e _ _; exact lm_K0 e
  | succ n ih =>
    intro i p h e h1 h2
    simp only [LX9_move_44_h]
    rw [if_neg (by decide), e, nI_1, nI_clamp (by omega), nI_clamp (by omega)]
    exact lm_KS ⟨by decide, by decide⟩ (ih (i + 1) (p + 1) _ (lh_up_eq _ 37 17 _) (by omega) (by omega))
theorem lm_B44 : ∀ (n i p : Nat) (h : lh_HS), h 37 17 = nI p → p + n ≤ 400 → i + n ≤ 400 → lm_B 44 p i n h (LX9_move_44_h 0 n i h) := by
  intro n
  induction n with
  | zero => intro i p h e _ _; exact lm_B0 e
  | succ n ih =>
    intro i p h e h1 h2
    simp only [LX9_move_44_h]
    rw [if_pos trivial, e, nI_1, nI_clamp (by omega), nI_clamp (by omega)]
    exact lm_BS ⟨by decide, by decide⟩ (ih (i + 1) (p + 1) _ (lh_up_eq _ 37 17 _) (by omega) (by omega))
theorem lm_keep (h : lh_HS) : (∀ q, q ≠ 46 → q ≠ 37 → gX9_moveAll h 1 q = h q) ∧ (∀ z, z ≠ 17 → gX9_moveAll h 1 37 z = h 37 z) ∧ (∀ d, d < 5 → gX9_moveAll h 1 46 d = h 38 d) ∧ (∀ d, d < 4 → gX9_moveAll h 1 46 (5 + d) = h 39 d) ∧ (∀ d, d < 40 → gX9_moveAll h 1 46 (9 + d) = h 40 d) ∧ (∀ d, d < 56 → gX9_moveAll h 1 46 (49 + d) = h 41 d) ∧ (∀ d, d < 150 → gX9_moveAll h 1 46 (105 + d) = h 42 d) ∧ (∀ d, d < 36 → gX9_moveAll h 1 46 (255 + d) = h 43 d) ∧ (∀ d, d < 15 → gX9_moveAll h 1 46 (291 + d) = h 44 d) := by
  unfold gX9_moveAll gX9_move_44 gX9_move_43 gX9_move_42 gX9_move_41 gX9_move_40 gX9_move_39 gX9_move_38
  have x38 := lm_K38 5 0 0 (lh_up h 37 17 0) (lh_up_eq h 37 17 0) (by omega) (by omega)
  generalize hg38 : LX9_move_38_h 1 5 0 (lh_up h 37 17 0) = g38 at x38
  have y38 : g38 37 17 = nI 5 := x38.2.2.1
  have x39 := lm_K39 4 0 5 g38 y38 (by omega) (by omega)
  generalize hg39 : LX9_move_39_h 1 4 0 g38 = g39 at x39
  have y39 : g39 37 17 = nI 9 := x39.2.2.1
  have x40 := lm_K40 40 0 9 g39 y39 (by omega) (by omega)
  generalize hg40 : LX9_move_40_h 1 40 0 g39 = g40 at x40
  have y40 : g40 37 17 = nI 49 := x40.2.2.1
  have x41 := lm_K41 56 0 49 g40 y40 (by omega) (by omega)
  generalize hg41 : LX9_move_41_h 1 56 0 g40 = g41 at x41
  have y41 : g41 37 17 = nI 105 := x41.2.2.1
  have x42 := lm_K42 150 0 105 g41 y41 (by omega) (by omega)
  generalize hg42 : LX9_move_42_h 1 150 0 g41 = g42 at x42
  have y42 : g42 37 17 = nI 255 := x42.2.2.1
  have x43 := lm_K43 36 0 255 g42 y42 (by omega) (by omega)
  generalize hg43 : LX9_move_43_h 1 36 0 g42 = g43 at x43
  have y43 : g43 37 17 = nI 291 := x43.2.2.1
  have x44 := lm_K44 15 0 291 g43 y43 (by omega) (by omega)
  generalize hg44 : LX9_move_44_h 1 15 0 g43 = g44 at x44
  have y44 : g44 37 17 = nI 306 := x44.2.2.1
  have r38 : ∀ q, q ≠ 46 → q ≠ 37 → g38 q = h q := fun q a b => by rw [x38.1 q a b, lh_up_r, if_neg b]
  have r39 : ∀ q, q ≠ 46 → q ≠ 37 → g39 q = h q := fun q a b => by rw [x39.1 q a b, r38 q a b]
  have r40 : ∀ q, q ≠ 46 → q ≠ 37 → g40 q = h q := fun q a b => by rw [x40.1 q a b, r39 q a b]
  have r41 : ∀ q, q ≠ 46 → q ≠ 37 → g41 q = h q := fun q a b => by rw [x41.1 q a b, r40 q a b]
  have r42 : ∀ q, q ≠ 46 → q ≠ 37 → g42 q = h q := fun q a b => by rw [x42.1 q a b, r41 q a b]
  have r43 : ∀ q, q ≠ 46 → q ≠ 37 → g43 q = h q := fun q a b => by rw [x43.1 q a b, r42 q a b]
  refine ⟨fun q a b => by rw [x44.1 q a b, r43 q a b], fun z hz => ?_, fun d hd => ?_, fun d hd => ?_, fun d hd => ?_, fun d hd => ?_, fun d hd => ?_, fun d hd => ?_, fun d hd => ?_⟩
  · rw [x44.2.1 z hz, x43.2.1 z hz, x42.2.1 z hz, x41.2.1 z hz, x40.2.1 z hz, x39.2.1 z hz, x38.2.1 z hz, lh_up_ne (Or.inr hz)]
  · have q := x38.2.2.2.2 d hd
    rw [Nat.zero_add] at q
    rw [x44.2.2.2.1 _ (by omega), x43.2.2.2.1 _ (by omega), x42.2.2.2.1 _ (by omega), x41.2.2.2.1 _ (by omega), x40.2.2.2.1 _ (by omega), x39.2.2.2.1 _ (by omega), q]; rfl
  · rw [x44.2.2.2.1 _ (by omega), x43.2.2.2.1 _ (by omega), x42.2.2.2.1 _ (by omega), x41.2.2.2.1 _ (by omega), x40.2.2.2.1 _ (by omega), x39.2.2.2.2 d hd, Nat.zero_add, r38 39 (by decide) (by decide)]
  · rw [x44.2.2.2.1 _ (by omega), x43.2.2.2.1 _ (by omega), x42.2.2.2.1 _ (by omega), x41.2.2.2.1 _ (by omega), x40.2.2.2.2 d hd, Nat.zero_add, r39 40 (by decide) (by decide)]
  · rw [x44.2.2.2.1 _ (by omega), x43.2.2.2.1 _ (by omega), x42.2.2.2.1 _ (by omega), x41.2.2.2.2 d hd, Nat.zero_add, r40 41 (by decide) (by decide)]
  · rw [x44.2.2.2.1 _ (by omega), x43.2.2.2.1 _ (by omega), x42.2.2.2.2 d hd, Nat.zero_add, r41 42 (by decide) (by decide)]
  · rw [x44.2.2.2.1 _ (by omega), x43.2.2.2.2 d hd, Nat.zero_add, r42 43 (by decide) (by decide)]
  · rw [x44.2.2.2.2 d hd, Nat.zero_add, r43 44 (by decide) (by decide)]
theorem lm_back (h : lh_HS) : (∀ q, (q < 38 ∨ 44 < q) → q ≠ 37 → gX9_moveAll h 0 q = h q) ∧ (∀ z, z ≠ 17 → gX9_moveAll h 0 37 z = h 37 z) ∧ (∀ d, d < 5 → gX9_moveAll h 0 38 d = h 46 d) ∧ (∀ d, d < 4 → gX9_moveAll h 0 39 d = h 46 (5 + d)) ∧ (∀ d, d < 40 → gX9_moveAll h 0 40 d = h 46 (9 + d)) ∧ (∀ d, d < 56 → gX9_moveAll h 0 41 d = h 46 (49 + d)) ∧ (∀ d, d < 150 → gX9_moveAll h 0 42 d = h 46 (105 + d)) ∧ (∀ d, d < 36 → gX9_moveAll h 0 43 d = h 46 (255 + d)) ∧ (∀ d, d < 15 → gX9_moveAll h 0 44 d = h 46 (291 + d)) := by
  unfold gX9_moveAll gX9_move_44 gX9_move_43 gX9_move_42 gX9_move_41 gX9_move_40 gX9_move_39 gX9_move_38
  have x38 := lm_B38 5 0 0 (lh_up h 37 17 0) (lh_up_eq h 37 17 0) (by omega) (by omega)
  generalize hg38 : LX9_move_38_h 0 5 0 (lh_up h 37 17 0) = g38 at x38
  have y38 : g38 37 17 = nI 5 := x38.2.2.1
  have x39 := lm_B39 4 0 5 g38 y38 (by omega) (by omega)
  generalize hg39 : LX9_move_39_h 0 4 0 g38 = g39 at x39
  have y39 : g39 37 17 = nI 9 := x39.2.2.1
  have x40 := lm_B40 40 0 9 g39 y39 (by omega) (by omega)
  generalize hg40 : LX9_move_40_h 0 40 0 g39 = g40 at x40
  have y40 : g40 37 17 = nI 49 := x40.2.2.1
  have x41 := lm_B41 56 0 49 g40 y40 (by omega) (by omega)
  generalize hg41 : LX9_move_41_h 0 56 0 g40 = g41 at x41
  have y41 : g41 37 17 = nI 105 := x41.2.2.1
  have x42 := lm_B42 150 0 105 g41 y41 (by omega) (by omega)
  generalize hg42 : LX9_move_42_h 0 150 0 g41 = g42 at x42
  have y42 : g42 37 17 = nI 255 := x42.2.2.1
  have x43 := lm_B43 36 0 255 g42 y42 (by omega) (by omega)
  generalize hg43 : LX9_move_43_h 0 36 0 g42 = g43 at x43
  have y43 : g43 37 17 = nI 291 := x43.2.2.1
  have x44 := lm_B44 15 0 291 g43 y43 (by omega) (by omega)
  generalize hg44 : LX9_move_44_h 0 15 0 g43 = g44 at x44
  have y44 : g44 37 17 = nI 306 := x44.2.2.1
  have s38 : g38 46 = h 46 := x38.1 46 (by decide) (by decide)
  have s39 : g39 46 = h 46 := (x39.1 46 (by decide) (by decide)).trans s38
  have s40 : g40 46 = h 46 := (x40.1 46 (by decide) (by decide)).trans s39
  have s41 : g41 46 = h 46 := (x41.1 46 (by decide) (by decide)).trans s40
  have s42 : g42 46 = h 46 := (x42.1 46 (by decide) (by decide)).trans s41
  have s43 : g43 46 = h 46 := (x43.1 46 (by decide) (by decide)).trans s42
  refine ⟨fun q a b => by rw [x44.1 q (by omega) b, x43.1 q (by omega) b, x42.1 q (by omega) b, x41.1 q (by omega) b, x40.1 q (by omega) b, x39.1 q (by omega) b, x38.1 q (by omega) b, lh_up_r, if_neg b], fun z hz => ?_, fun d hd => ?_, fun d hd => ?_, fun d hd => ?_, fun d hd => ?_, fun d hd => ?_, fun d hd => ?_, fun d hd => ?_⟩
  · rw [x44.2.1 z hz, x43.2.1 z hz, x42.2.1 z hz, x41.2.1 z hz, x40.2.1 z hz, x39.2.1 z hz, x38.2.1 z hz, lh_up_ne (Or.inr hz)]
  · have q := x38.2.2.2.2 d hd
    rw [Nat.zero_add] at q
    rw [x44.1 38 (by decide) (by decide), x43.1 38 (by decide) (by decide), x42.1 38 (by decide) (by decide), x41.1 38 (by decide) (by decide), x40.1 38 (by decide) (by decide), x39.1 38 (by decide) (by decide), q]; rfl
  · have q := x39.2.2.2.2 d hd
    rw [Nat.zero_add, s38] at q
    rw [x44.1 39 (by decide) (by decide), x43.1 39 (by decide) (by decide), x42.1 39 (by decide) (by decide), x41.1 39 (by decide) (by decide), x40.1 39 (by decide) (by decide), q]
  · have q := x40.2.2.2.2 d hd
    rw [Nat.zero_add, s39] at q
    rw [x44.1 40 (by decide) (by decide), x43.1 40 (by decide) (by decide), x42.1 40 (by decide) (by decide), x41.1 40 (by decide) (by decide), q]
  · have q := x41.2.2.2.2 d hd
    rw [Nat.zero_add, s40] at q
    rw [x44.1 41 (by decide) (by decide), x43.1 41 (by decide) (by decide), x42.1 41 (by decide) (by decide), q]
  · have q := x42.2.2.2.2 d hd
    rw [Nat.zero_add, s41] at q
    rw [x44.1 42 (by decide) (by decide), x43.1 42 (by decide) (by decide), q]
  · have q := x43.2.2.2.2 d hd
    rw [Nat.zero_add, s42] at q
    rw [x44.1 43 (by decide) (by decide), q]
  · have q := x44.2.2.2.2 d hd
    rw [Nat.zero_add, s43] at q
    exact q
