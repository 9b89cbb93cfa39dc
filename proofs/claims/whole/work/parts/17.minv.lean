/-! THE INVARIANT of the reference's house (its cells 38..45), for the places that it reads -/
def lh_m (h : lh_HS) (k : Nat) : Nat := (h 38 k).toNatClampNeg
def lh_mc (h : lh_HS) (k M : Nat) : Prop := h 38 k = nI (lh_m h k) ∧ lh_m h k ≤ M
def lh_JB (h : lh_HS) : Prop := ∀ b, b < lh_m h 2 → (h 42 (5 * b + 1) < 0 ∨ lh_ix (h 42 (5 * b + 1)) 4) ∧ lh_ix (h 42 (5 * b + 2)) 10
def lh_JT (h : lh_HS) : Prop := ∀ t, t < lh_m h 3 → lh_ix (h 43 (3 * t + 1)) 10 ∧ lh_ix (h 43 (3 * t + 2)) 8
def lh_JW (h : lh_HS) : Prop := ∀ w, w < lh_m h 4 → lh_ix (h 44 (3 * w)) 4 ∧ lh_ix (h 44 (3 * w + 1)) 10
def lh_J (h : lh_HS) : Prop := (lh_mc h 0 4 ∧ lh_mc h 1 8 ∧ lh_mc h 2 30 ∧ lh_mc h 3 12 ∧ lh_mc h 4 5) ∧ lh_JB h ∧ lh_JT h ∧ lh_JW h ∧ ∀ j, j < 9 → h 45 j = lh_T j
def lh_fm (h h' : lh_HS) : Prop := ∀ q, 38 ≤ q → q ≤ 45 → h' q = h q
theorem lh_fm.rf (h : lh_HS) : lh_fm h h := fun _ _ _ => rfl
theorem lh_fm.tr {a b c : lh_HS} (x : lh_fm a b) (y : lh_fm b c) : lh_fm a c := fun q h1 h2 => by rw [y q h1 h2, x q h1 h2]
theorem lh_fm.up {a b : lh_HS} (x : lh_fm a b) {i j : Nat} {v : Int32} (hi : i < 38 ∨ 45 < i) : lh_fm a (lh_up b i j v) := fun q h1 h2 => by
  rw [← x q h1 h2]; funext z; exact lh_up_ne (Or.inl (by omega))
theorem lh_fm.m {a b : lh_HS} (x : lh_fm a b) (c : Nat) : lh_m b c = lh_m a c := by unfold lh_m; rw [x 38 (by decide) (by decide)]
theorem lh_J.fm {h h' : lh_HS} (J : lh_J h) (f : lh_fm h h') : lh_J h' := by
  have e : ∀ q, 38 ≤ q → q ≤ 45 → h' q = h q := f
  unfold lh_J lh_mc lh_JB lh_JT lh_JW lh_m at *
  simp only [e 38 (by decide) (by decide), e 42 (by decide) (by decide), e 43 (by decide) (by decide), e 44 (by decide) (by decide), e 45 (by decide) (by decide)]
  exact J
theorem lh_lin {b : Int32} {n N : Nat} (k c : Nat) (hb : lh_ix b n) (hN : c + k * (n - 1) < N) (h31 : N < 2 ^ 31) : vp_in (nI k * b + nI c) N := by
  obtain ⟨j, hj, rfl⟩ := hb
  rw [pk_mul, nI_add]
  have : k * j ≤ k * (n - 1) := Nat.mul_le_mul_left k (by omega)
  exact vp_in_nI (by omega) h31
theorem lh_lin0 {b : Int32} {n N : Nat} (k : Nat) (hb : lh_ix b n) (hN : k * (n - 1) < N) (h31 : N < 2 ^ 31) : vp_in (nI k * b) N := by
  obtain ⟨j, hj, rfl⟩ := hb
  rw [pk_mul]
  have : k * j ≤ k * (n - 1) := Nat.mul_le_mul_left k (by omega)
  exact vp_in_nI (by omega) h31
theorem lh_lin2 {a b : Int32} (ha : lh_ix a 4) (hb : lh_ix b 10) : vp_in (10 * a + b) 40 := by
  obtain ⟨i, hi, rfl⟩ := ha
  obtain ⟨j, hj, rfl⟩ := hb
  rw [show (10 : Int32) = nI 10 from rfl, pk_mul, nI_add]
  exact vp_in_nI (by omega) (by omega)
/-- places by number -/
theorem lh_at {k j c : Nat} (h : k * j + c < 2 ^ 31) : (nI k * nI j + nI c).toNatClampNeg = k * j + c := by rw [pk_mul, nI_add, nI_clamp h]
theorem lh_at0 {k j : Nat} (h : k * j < 2 ^ 31) : (nI k * nI j).toNatClampNeg = k * j := by rw [pk_mul, nI_clamp h]
