/-! THE INVARIANT of the class's house: counts, and what the cells hold below them -/
def lh_N (h : lh_HS) (c : Nat) : Nat := (h c 0).toNatClampNeg
def lh_cn (h : lh_HS) (c M : Nat) : Prop := h c 0 = nI (lh_N h c) ∧ lh_N h c ≤ M
def lh_rng (x : Int32) (a b : Int) : Prop := a ≤ x.toInt ∧ x.toInt ≤ b
def lh_ix (x : Int32) (n : Nat) : Prop := ∃ j, j < n ∧ x = nI j
def lh_IR (h : lh_HS) : Prop := ∀ r, r < lh_N h 2 → lh_rng (h 7 r) 1 200 ∧ ∀ y, y < 10 → lh_rng (h 8 (r * 10 + y)) (-1) (h 7 r).toInt
def lh_IS (h : lh_HS) : Prop := ∀ s, s < lh_N h 3 → lh_rng (h 9 s) 1 2000 ∧ lh_rng (h 10 s) 1 15 ∧ lh_rng (h 11 s) 1 9 ∧ lh_rng (h 12 s) 0 3 ∧ (h 13 s = -4 ∨ lh_ix (h 13 s) (lh_N h 3)) ∧ lh_rng (h 14 s) 0 2000 ∧ lh_rng (h 15 s) 0 2000
def lh_IB (h : lh_HS) : Prop := ∀ b, b < lh_N h 4 → lh_ix (h 16 b) (lh_N h 3) ∧ (h 17 b = -4 ∨ lh_ix (h 17 b) (lh_N h 2)) ∧ lh_ix (h 18 b) 10 ∧ lh_rng (h 19 b) 0 500 ∧ (h 20 b = 0 ∨ h 20 b = 1)
def lh_IT (h : lh_HS) : Prop := ∀ t, t < lh_N h 5 → lh_ix (h 21 t) (lh_N h 3) ∧ lh_ix (h 22 t) 10 ∧ lh_ix (h 23 t) 8
def lh_IW (h : lh_HS) : Prop := ∀ w, w < lh_N h 6 → lh_ix (h 24 w) (lh_N h 2) ∧ lh_ix (h 25 w) 10 ∧ lh_ix (h 26 w) 4
def lh_I (h : lh_HS) : Prop := (lh_cn h 2 4 ∧ lh_cn h 3 8 ∧ lh_cn h 4 30 ∧ lh_cn h 5 12 ∧ lh_cn h 6 5) ∧ lh_IR h ∧ lh_IS h ∧ lh_IB h ∧ lh_IT h ∧ lh_IW h
/-- h and h' have the same house -/
def lh_fr (h h' : lh_HS) : Prop := ∀ q, 2 ≤ q → q ≤ 26 → h' q = h q
theorem lh_fr.rf (h : lh_HS) : lh_fr h h := fun _ _ _ => rfl
theorem lh_fr.tr {a b c : lh_HS} (x : lh_fr a b) (y : lh_fr b c) : lh_fr a c := fun q h1 h2 => by rw [y q h1 h2, x q h1 h2]
theorem lh_fr.sy {a b : lh_HS} (x : lh_fr a b) : lh_fr b a := fun q h1 h2 => (x q h1 h2).symm
theorem lh_fr.up {a b : lh_HS} (x : lh_fr a b) {i j : Nat} {v : Int32} (hi : 26 < i) : lh_fr a (lh_up b i j v) := fun q h1 h2 => by
  rw [← x q h1 h2]; funext z; exact lh_up_ne (Or.inl (by omega))
theorem lh_fr.row {a b : lh_HS} (x : lh_fr a b) {i : Nat} {v : Nat → Int32} (hi : 26 < i) : lh_fr a (lh_row b i v) := fun q h1 h2 => by
  rw [← x q h1 h2]; exact lh_row_ne (by omega)
theorem lh_fr.N {a b : lh_HS} (x : lh_fr a b) {c : Nat} (h1 : 2 ≤ c) (h2 : c ≤ 26) : lh_N b c = lh_N a c := by unfold lh_N; rw [x c h1 h2]
theorem lh_I.fr {h h' : lh_HS} (I : lh_I h) (f : lh_fr h h') : lh_I h' := by
  have e : ∀ q, 2 ≤ q → q ≤ 26 → h' q = h q := f
  unfold lh_I lh_cn lh_IR lh_IS lh_IB lh_IT lh_IW lh_N at *
  simp only [e 2 (by decide) (by decide), e 3 (by decide) (by decide), e 4 (by decide) (by decide), e 5 (by decide) (by decide), e 6 (by decide) (by decide), e 7 (by decide) (by decide), e 8 (by decide) (by decide), e 9 (by decide) (by decide), e 10 (by decide) (by decide), e 11 (by decide) (by decide), e 12 (by decide) (by decide), e 13 (by decide) (by decide), e 14 (by decide) (by decide), e 15 (by decide) (by decide), e 16 (by decide) (by decide), e 17 (by decide) (by decide), e 18 (by decide) (by decide), e 19 (by decide) (by decide), e 20 (by decide) (by decide), e 21 (by decide) (by decide), e 22 (by decide) (by decide), e 23 (by decide) (by decide), e 24 (by decide) (by decide), e 25 (by decide) (by decide), e 26 (by decide) (by decide)]
  exact I
theorem lh_ix.cl {x : Int32} {n : Nat} (h : lh_ix x n) (hn : n < 2 ^ 31) : x.toNatClampNeg < n ∧ x = nI x.toNatClampNeg := by
  obtain ⟨j, hj, rfl⟩ := h
  rw [nI_clamp (by omega)]
  exact ⟨hj, rfl⟩
theorem lh_ix.vp {x : Int32} {n M : Nat} (h : lh_ix x n) (hn : n ≤ M) (hM : M < 2 ^ 31) : vp_in x M := by
  obtain ⟨j, hj, rfl⟩ := h
  exact vp_in_nI (by omega) hM
theorem lh_ix.mono {x : Int32} {n M : Nat} (h : lh_ix x n) (hn : n ≤ M) : lh_ix x M := by
  obtain ⟨j, hj, rfl⟩ := h
  exact ⟨j, by omega, rfl⟩
theorem lh_ix_nI {j n : Nat} (h : j < n) : lh_ix (nI j) n := ⟨j, h, rfl⟩
theorem lh_ry (a b : Nat) : nI a * 10 + nI b = nI (a * 10 + b) := by
  rw [show (10 : Int32) = nI 10 from rfl, pk_mul, nI_add]
theorem lh_ix_ry {x y : Int32} (hx : lh_ix x 4) (hy : lh_ix y 10) : vp_in (x * 10 + y) 40 := by
  obtain ⟨a, ha, rfl⟩ := hx
  obtain ⟨b, hb, rfl⟩ := hy
  rw [lh_ry]
  exact vp_in_nI (by omega) (by omega)
theorem lh_hasix {x c : Int32} {n : Nat} (hc : c = nI n) (hn : n < 2 ^ 31) (h0 : ¬ x < 0) (h1 : ¬ c ≤ x) : lh_ix x n := by
  obtain ⟨j, hj, rfl⟩ := nI_of h0
  refine ⟨j, ?_, rfl⟩
  rw [hc, nI_leI hn hj] at h1
  omega
theorem lh_has_of {x c : Int32} {n : Nat} (hc : c = nI n) (hn : n < 2 ^ 31) (h : ¬ (if x < 0 then (0 : Int32) else if c ≤ x then 0 else 1) = 0) : lh_ix x n := by
  by_cases h0 : x < 0
  · simp [h0] at h
  · by_cases h1 : c ≤ x
    · simp [h0, h1] at h
    · exact lh_hasix hc hn h0 h1
theorem lh_has_iff {x c : Int32} {n : Nat} (hc : c = nI n) (hn : n < 2 ^ 31) : (if x < 0 then (0 : Int32) else if c ≤ x then 0 else 1) = 0 ↔ ¬ lh_ix x n := by
  constructor
  · rintro h ⟨j, hj, rfl⟩
    rw [hc] at h
    have h1 : ¬ nI j < 0 := nI_pos (by omega)
    have h2 : ¬ nI n ≤ nI j := nI_ge hj hn
    rw [if_neg h1, if_neg h2] at h
    cases h
  · intro h
    by_cases c0 : (if x < 0 then (0 : Int32) else if c ≤ x then 0 else 1) = 0
    · exact c0
    · exact absurd (lh_has_of hc hn c0) h
theorem lh_rooms {h : lh_HS} (I : lh_I h) {x : Int32} (c : ¬ fX4_has h x = 0) : lh_ix x (lh_N h 2) := lh_has_of I.1.1.1 (by have := I.1.1.2; omega) c
theorem lh_sheets {h : lh_HS} (I : lh_I h) {x : Int32} (c : ¬ fX5_has h x = 0) : lh_ix x (lh_N h 3) := lh_has_of I.1.2.1.1 (by have := I.1.2.1.2; omega) c
theorem lh_bookings {h : lh_HS} (I : lh_I h) {x : Int32} (c : ¬ fX0_has h x = 0) : lh_ix x (lh_N h 4) := lh_has_of I.1.2.2.1.1 (by have := I.1.2.2.1.2; omega) c
theorem lh_walls {h : lh_HS} (I : lh_I h) {x : Int32} (c : ¬ fX7_has h x = 0) : lh_ix x (lh_N h 6) := lh_has_of I.1.2.2.2.2.1 (by have := I.1.2.2.2.2.2; omega) c
theorem lh_within_iff {h : lh_HS} {x a b : Int32} : ¬ fX8_within h x a b = 0 ↔ a.toInt ≤ x.toInt ∧ x.toInt ≤ b.toInt := by
  unfold fX8_within
  simp only [Int32.lt_iff_toInt_lt]
  by_cases h1 : x.toInt < a.toInt
  · rw [if_pos h1]; simp; omega
  · rw [if_neg h1]
    by_cases h2 : b.toInt < x.toInt
    · rw [if_pos h2]; simp; omega
    · rw [if_neg h2]
      constructor
      · intro _; omega
      · intro _ q; cases q
theorem lh_ix_iff {x : Int32} {n : Nat} (hn : n < 2 ^ 31) : lh_ix x n ↔ 0 ≤ x.toInt ∧ x.toInt < n := by
  constructor
  · rintro ⟨j, hj, rfl⟩
    rw [nI_toInt (by omega)]
    omega
  · intro hx
    obtain ⟨j, hj, rfl⟩ := nI_of (x := x) (by rw [Int32.lt_iff_toInt_lt]; show ¬ x.toInt < 0; omega)
    rw [nI_toInt hj] at hx
    exact ⟨j, by omega, rfl⟩
theorem lh_years {h : lh_HS} {x : Int32} (c : ¬ fX8_isYear h x = 0) : lh_ix x 10 := by
  have := lh_within_iff.mp c
  rw [lh_ix_iff (by omega)]
  have e0 : (0 : Int32).toInt = 0 := by decide
  have e9 : (9 : Int32).toInt = 9 := by decide
  omega
/-- what a booking spends can be read -/
theorem lh_spendpre {h : lh_HS} (I : lh_I h) {b : Int32} (hb : lh_ix b (lh_N h 4)) : vp_in b 30 ∧ (fX0_isLoan h b = 0 → vp_in (h 17 b.toNatClampNeg * 10 + h 18 b.toNatClampNeg) 40) ∧ (fX0_isLoan h b = 0 → vp_in (h 17 b.toNatClampNeg) 4) := by
  obtain ⟨j, hj, rfl⟩ := hb
  have hM : lh_N h 4 ≤ 30 := I.1.2.2.1.2
  have hR : lh_N h 2 ≤ 4 := I.1.1.2
  refine ⟨vp_in_nI (by omega) (by omega), ?_⟩
  unfold fX0_isLoan
  rw [nI_clamp (by omega)]
  obtain ⟨-, h17, h18, -⟩ := I.2.2.2.1 j hj
  rcases h17 with h17 | h17
  · rw [if_pos h17]
    exact ⟨fun q => absurd q (by decide), fun q => absurd q (by decide)⟩
  · exact ⟨fun _ => lh_ix_ry (h17.mono hR) h18, fun _ => h17.vp hR (by omega)⟩
