/-! THE LAW'S INVARIANT: class and reference hold the same house -/
def lh_RMr (h : lh_HS) : Prop := ∀ r, r < lh_N h 2 → h 39 r = h 7 r ∧ ∀ y, y < 10 → h 40 (10 * r + y) = h 8 (r * 10 + y)
def lh_n4 (x : Int32) : Int32 := if x = -4 then -1 else x
def lh_RMs (h : lh_HS) : Prop := ∀ s, s < lh_N h 3 → h 41 (7 * s) = h 9 s ∧ h 41 (7 * s + 1) = h 10 s ∧ h 41 (7 * s + 2) = h 11 s ∧ h 41 (7 * s + 3) = h 12 s ∧ h 41 (7 * s + 4) = lh_n4 (h 13 s) ∧ h 41 (7 * s + 5) = h 14 s ∧ h 41 (7 * s + 6) = h 15 s
def lh_RMb (h : lh_HS) : Prop := ∀ b, b < lh_N h 4 → h 42 (5 * b) = h 16 b ∧ h 42 (5 * b + 1) = lh_n4 (h 17 b) ∧ h 42 (5 * b + 2) = h 18 b ∧ h 42 (5 * b + 3) = h 19 b ∧ h 42 (5 * b + 4) = h 20 b
def lh_RMt (h : lh_HS) : Prop := ∀ t, t < lh_N h 5 → h 43 (3 * t) = h 21 t ∧ h 43 (3 * t + 1) = h 22 t ∧ h 43 (3 * t + 2) = h 23 t
def lh_RMw (h : lh_HS) : Prop := ∀ w, w < lh_N h 6 → h 44 (3 * w) = h 24 w ∧ h 44 (3 * w + 1) = h 25 w ∧ h 44 (3 * w + 2) = h 26 w
def lh_RM (h : lh_HS) : Prop := (h 38 0 = h 2 0 ∧ h 38 1 = h 3 0 ∧ h 38 2 = h 4 0 ∧ h 38 3 = h 5 0 ∧ h 38 4 = h 6 0) ∧ lh_RMr h ∧ lh_RMs h ∧ lh_RMb h ∧ lh_RMt h ∧ lh_RMw h
def lh_ST (h : lh_HS) : Prop := ∀ j, j < 9 → h 45 j = lh_T j
def lh_Zc (h : lh_HS) (c : Nat) : Prop := ∀ j, j < 30 → h c j = 0 ∨ h c j = 1
/-- the kept house, and what the reference keeps, as a house -/
def lh_kv (h : lh_HS) : lh_HS := fun i => if i ≤ 26 then h (i + 49) else match i with
  | 38 => fun j => h 46 j
  | 39 => fun j => h 46 (5 + j)
  | 40 => fun j => h 46 (9 + j)
  | 41 => fun j => h 46 (49 + j)
  | 42 => fun j => h 46 (105 + j)
  | 43 => fun j => h 46 (255 + j)
  | 44 => fun j => h 46 (291 + j)
  | _ => h i
theorem lh_n4_ix {x : Int32} {n : Nat} (hn : n < 2 ^ 31) (h : lh_ix x n) : lh_n4 x = x := by
  unfold lh_n4
  rw [if_neg]
  intro e
  rw [e, lh_ix_iff hn] at h
  have : (-4 : Int32).toInt = -4 := by decide
  omega
theorem lh_n4_neg : lh_n4 (-4) = -1 := rfl
theorem lh_RM.m {h : lh_HS} (R : lh_RM h) : lh_m h 0 = lh_N h 2 ∧ lh_m h 1 = lh_N h 3 ∧ lh_m h 2 = lh_N h 4 ∧ lh_m h 3 = lh_N h 5 ∧ lh_m h 4 = lh_N h 6 := by
  unfold lh_m lh_N
  rw [R.1.1, R.1.2.1, R.1.2.2.1, R.1.2.2.2.1, R.1.2.2.2.2]
  exact ⟨rfl, rfl, rfl, rfl, rfl⟩
theorem lh_J_of {h : lh_HS} (I : lh_I h) (R : lh_RM h) (S : lh_ST h) : lh_J h := by
  obtain ⟨e0, e1, e2, e3, e4⟩ := R.m
  obtain ⟨⟨c0, c1, c2, c3, c4⟩, iR, iS, iB, iT, iW⟩ := I
  refine ⟨⟨⟨?_, ?_⟩, ⟨?_, ?_⟩, ⟨?_, ?_⟩, ⟨?_, ?_⟩, ⟨?_, ?_⟩⟩, fun b hb => ?_, fun t ht => ?_, fun w hw => ?_, S⟩
  · rw [e0, R.1.1]; exact c0.1
  · rw [e0]; exact c0.2
  · rw [e1, R.1.2.1]; exact c1.1
  · rw [e1]; exact c1.2
  · rw [e2, R.1.2.2.1]; exact c2.1
  · rw [e2]; exact c2.2
  · rw [e3, R.1.2.2.2.1]; exact c3.1
  · rw [e3]; exact c3.2
  · rw [e4, R.1.2.2.2.2]; exact c4.1
  · rw [e4]; exact c4.2
  · rw [e2] at hb
    obtain ⟨-, g1, g2, -⟩ := R.2.2.2.1 b hb
    obtain ⟨-, k1, k2, -⟩ := iB b hb
    rw [g1, g2]
    refine ⟨?_, k2⟩
    rcases k1 with k1 | k1
    · left; rw [k1, lh_n4_neg]; decide
    · right; rw [lh_n4_ix (by have := c0.2; omega) k1]; exact k1.mono c0.2
  · rw [e3] at ht
    obtain ⟨-, g1, g2⟩ := R.2.2.2.2.1 t ht
    rw [g1, g2]
    exact (iT t ht).2
  · rw [e4] at hw
    obtain ⟨g0, g1, -⟩ := R.2.2.2.2.2 w hw
    rw [g0, g1]
    exact ⟨(iW w hw).1.mono c0.2, (iW w hw).2.1⟩
/-- what the class knows of THE HANG is right, as long as it is known (filled by the hang's part) -/
def lh_CV (h : lh_HS) : Prop := h 30 2 = 0 ∨ h 30 2 = 1
def lh_INV (k : Bool) (h : lh_HS) : Prop := lh_I h ∧ lh_Zc h 20 ∧ (k = true → lh_Zc h 69) ∧ lh_RM h ∧ lh_ST h ∧ lh_CV h ∧ h 37 8 = cond k 1 0 ∧ (k = true → lh_I (lh_kv h) ∧ lh_RM (lh_kv h))
