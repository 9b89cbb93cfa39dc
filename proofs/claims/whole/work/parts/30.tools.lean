/-! tools for the calls: what a call leaves as it was -/
theorem lh_up_r (h : lh_HS) (i j : Nat) (x : Int32) (a : Nat) : lh_up h i j x a = if a = i then upd (h i) j x else h a := by unfold lh_up lh_row; rfl
theorem lh_RM.fr {h h' : lh_HS} (R : lh_RM h) (f : lh_fr h h') (g : ∀ q, 38 ≤ q → q ≤ 44 → h' q = h q) : lh_RM h' := by
  have e : ∀ q, 2 ≤ q → q ≤ 26 → h' q = h q := f
  unfold lh_RM lh_RMr lh_RMs lh_RMb lh_RMt lh_RMw lh_N at *
  simp only [e 2 (by decide) (by decide), e 3 (by decide) (by decide), e 4 (by decide) (by decide), e 5 (by decide) (by decide), e 6 (by decide) (by decide), e 7 (by decide) (by decide), e 8 (by decide) (by decide), e 9 (by decide) (by decide), e 10 (by decide) (by decide), e 11 (by decide) (by decide), e 12 (by decide) (by decide), e 13 (by decide) (by decide), e 14 (by decide) (by decide), e 15 (by decide) (by decide), e 16 (by decide) (by decide), e 17 (by decide) (by decide), e 18 (by decide) (by decide), e 19 (by decide) (by decide), e 20 (by decide) (by decide), e 21 (by decide) (by decide), e 22 (by decide) (by decide), e 23 (by decide) (by decide), e 24 (by decide) (by decide), e 25 (by decide) (by decide), e 26 (by decide) (by decide), g 38 (by decide) (by decide), g 39 (by decide) (by decide), g 40 (by decide) (by decide), g 41 (by decide) (by decide), g 42 (by decide) (by decide), g 43 (by decide) (by decide), g 44 (by decide) (by decide)]
  exact R
/-- what is kept stays -/
def lh_kp (h h2 : lh_HS) : Prop := (∀ q, 50 ≤ q → h2 q = h q) ∧ h2 46 = h 46 ∧ h2 37 8 = h 37 8 ∧ h2 45 = h 45
theorem lh_kp.rf (h : lh_HS) : lh_kp h h := ⟨fun _ _ => rfl, rfl, rfl, rfl⟩
theorem lh_kp.tr {a b c : lh_HS} (x : lh_kp a b) (y : lh_kp b c) : lh_kp a c := ⟨fun q hq => (y.1 q hq).trans (x.1 q hq), y.2.1.trans x.2.1, y.2.2.1.trans x.2.2.1, y.2.2.2.trans x.2.2.2⟩
theorem lh_kp.up {h h2 : lh_HS} (x : lh_kp h h2) {i j : Nat} {v : Int32} (hi : i < 50 ∧ i ≠ 46 ∧ i ≠ 45 ∧ (i ≠ 37 ∨ j ≠ 8)) : lh_kp h (lh_up h2 i j v) := by
  obtain ⟨x1, x2, x3, x4⟩ := x
  refine ⟨fun q hq => ?_, ?_, ?_, ?_⟩
  · rw [lh_up_r, if_neg (by omega), x1 q hq]
  · rw [lh_up_r, if_neg (by omega), x2]
  · rw [lh_up_ne (by omega), x3]
  · rw [lh_up_r, if_neg (by omega), x4]
theorem lh_kv_fr {h h2 : lh_HS} (x : lh_kp h h2) : lh_fr (lh_kv h) (lh_kv h2) ∧ ∀ q, 38 ≤ q → q ≤ 44 → lh_kv h2 q = lh_kv h q := by
  refine ⟨fun q h1 h3 => ?_, fun q h1 h3 => ?_⟩
  · unfold lh_kv
    rw [if_pos h3, if_pos h3, x.1 (q + 49) (by omega)]
  · rcases (show q = 38 ∨ q = 39 ∨ q = 40 ∨ q = 41 ∨ q = 42 ∨ q = 43 ∨ q = 44 by omega) with rfl | rfl | rfl | rfl | rfl | rfl | rfl <;> (funext z; show h2 46 _ = h 46 _; rw [x.2.1])
theorem lh_INV_of {k : Bool} {h h2 : lh_HS} (L : lh_INV k h) (hI : lh_I h2) (hz : lh_Zc h2 20) (hR : lh_RM h2) (hC : lh_CV h2) (x : lh_kp h h2) : lh_INV k h2 := by
  obtain ⟨-, -, z9, -, hS, -, h8, hk⟩ := L
  refine ⟨hI, hz, fun e j hj => ?_, hR, fun j hj => ?_, hC, x.2.2.1.trans h8, fun e => ?_⟩
  · rw [x.1 69 (by decide)]; exact z9 e j hj
  · rw [x.2.2.2]; exact hS j hj
  · obtain ⟨y1, y2⟩ := hk e
    obtain ⟨f, g⟩ := lh_kv_fr x
    exact ⟨y1.fr f, y2.fr f g⟩
/-- a call that asks only -/
def lh_q (h h2 : lh_HS) : Prop := ∀ q z, q ≠ 27 → q ≠ 28 → q ≠ 29 → (q ≠ 37 ∨ (z ≠ 10 ∧ z ≠ 11 ∧ z ≠ 12)) → h2 q z = h q z
theorem lh_q.rf (h : lh_HS) : lh_q h h := fun _ _ _ _ _ _ => rfl
theorem lh_q.tr {a b c : lh_HS} (x : lh_q a b) (y : lh_q b c) : lh_q a c := fun q z h1 h2 h3 h4 => (y q z h1 h2 h3 h4).trans (x q z h1 h2 h3 h4)
theorem lh_q.row {h h2 : lh_HS} (x : lh_q h h2) {q : Nat} (h1 : q ≠ 27 ∧ q ≠ 28 ∧ q ≠ 29 ∧ q ≠ 37) : h2 q = h q := by
  funext z; exact x q z h1.1 h1.2.1 h1.2.2.1 (Or.inl h1.2.2.2)
theorem lh_q.fr {h h2 : lh_HS} (x : lh_q h h2) : lh_fr h h2 := fun q h1 h3 => x.row (by omega)
theorem lh_q.fm {h h2 : lh_HS} (x : lh_q h h2) : lh_fm h h2 := fun q h1 h3 => x.row (by omega)
theorem lh_q.kp {h h2 : lh_HS} (x : lh_q h h2) : lh_kp h h2 := ⟨fun q hq => x.row (by omega), x.row (by decide), x 37 8 (by decide) (by decide) (by decide) (Or.inr (by decide)), x.row (by decide)⟩
theorem lh_q.INV {k : Bool} {h h2 : lh_HS} (x : lh_q h h2) (L : lh_INV k h) : lh_INV k h2 :=
  lh_INV_of L (L.1.fr x.fr) (by unfold lh_Zc; rw [x.row (q := 20) (by decide)]; exact L.2.1) (L.2.2.2.1.fr x.fr (fun q h1 h3 => x.row (by omega))) (L.2.2.2.2.2.1.fr x.fr (x.row (by decide)) (x.row (by decide)) (x.row (by decide))) x.kp
theorem lh_q.openAt (h : lh_HS) (x : Int32) : lh_q h (gX3_openAt h x) := fun q z h1 h2 h3 _ => by rw [fr_openAt h x q h1 h2 h3]
theorem lh_q.findPast (h : lh_HS) (x : Int32) : lh_q h (gX9_findPast h x) := fun q z _ _ _ h4 => ne_findPast h x q z h4
theorem lh_q.leastLeft (h : lh_HS) (x : Int32) : lh_q h (gX9_leastLeft h x) := by rw [ge_leastLeft]; exact lh_q.findPast h x
theorem lh_q.spentOf (h : lh_HS) (x y z : Int32) : lh_q h (gX9_spentOf h x y z) := by rw [ge_spentOf]; exact lh_q.findPast h x
/-- numbers -/
theorem lh_is_eq {x a : Int32} {n : Nat} (hx : x = nI n) (hn : n ≤ 100) (h : lh_HS) : fX9_in h a 0 (x - 1) = (if a < 0 then 0 else if x ≤ a then 0 else 1) := by
  unfold fX9_in
  have e1 : (x - 1).toInt = (n : Int) - 1 := by rw [hx]; exact pk_sub_toInt (a := n) (b := 1) (by omega) (by omega)
  have e2 : x.toInt = (n : Int) := by rw [hx]; exact nI_toInt (by omega)
  by_cases c0 : a < 0
  · rw [if_pos c0, if_pos c0]
  · rw [if_neg c0, if_neg c0]
    by_cases c1 : x ≤ a
    · rw [if_pos c1, if_pos (by rw [Int32.lt_iff_toInt_lt, e1]; rw [Int32.le_iff_toInt_le, e2] at c1; omega)]
    · rw [if_neg c1, if_neg (by rw [Int32.lt_iff_toInt_lt, e1]; rw [Int32.le_iff_toInt_le, e2] at c1; omega)]
theorem lh_full {n M : Nat} (hn : n ≤ M) (hM : M ≤ 100) : nI n < nI M ↔ ¬ nI n = nI M := by
  rw [Int32.lt_iff_toInt_lt, nI_toInt (by omega), nI_toInt (by omega), nI_eq (by omega) (by omega)]
  omega
theorem lh_gets0 {n M : Nat} (hn : n ≤ M) (hM : M ≤ 100) : 0 < nI n ↔ ¬ nI n = 0 := by
  rw [show (0 : Int32) = nI 0 from rfl, Int32.lt_iff_toInt_lt, nI_toInt (by omega), nI_toInt (by omega), nI_eq (by omega) (by omega)]
  omega
theorem lh_isR {k : Bool} {h g : lh_HS} (L : lh_INV k h) (e : g 38 = h 38) (a : Int32) : fX9_is g 0 a = fX4_has h a := by
  have hx : h 2 0 = nI (lh_N h 2) := L.1.1.1.1
  have hn := L.1.1.1.2
  show fX9_in g a 0 (g 38 0 - 1) = _
  rw [e, L.2.2.2.1.1.1, lh_is_eq hx (by omega)]; rfl
theorem lh_isS {k : Bool} {h g : lh_HS} (L : lh_INV k h) (e : g 38 = h 38) (a : Int32) : fX9_is g 1 a = fX5_has h a := by
  have hx : h 3 0 = nI (lh_N h 3) := L.1.1.2.1.1
  have hn := L.1.1.2.1.2
  show fX9_in g a 0 (g 38 1 - 1) = _
  rw [e, L.2.2.2.1.1.2.1, lh_is_eq hx (by omega)]; rfl
theorem lh_isB {k : Bool} {h g : lh_HS} (L : lh_INV k h) (e : g 38 = h 38) (a : Int32) : fX9_is g 2 a = fX0_has h a := by
  have hx : h 4 0 = nI (lh_N h 4) := L.1.1.2.2.1.1
  have hn := L.1.1.2.2.1.2
  show fX9_in g a 0 (g 38 2 - 1) = _
  rw [e, L.2.2.2.1.1.2.2.1, lh_is_eq hx (by omega)]; rfl
theorem lh_isW {k : Bool} {h g : lh_HS} (L : lh_INV k h) (e : g 38 = h 38) (a : Int32) : fX9_is g 4 a = fX7_has h a := by
  have hx : h 6 0 = nI (lh_N h 6) := L.1.1.2.2.2.2.1
  have hn := L.1.1.2.2.2.2.2
  show fX9_in g a 0 (g 38 4 - 1) = _
  rw [e, L.2.2.2.1.1.2.2.2.2, lh_is_eq hx (by omega)]; rfl
theorem lh_inE (g h : lh_HS) (a x y : Int32) : fX9_in g a x y = fX8_within h a x y := rfl
theorem lh_yrE (g h : lh_HS) (a : Int32) : fX9_isYear g a = fX8_isYear h a := rfl
theorem lh_rngW {h : lh_HS} {x a b : Int32} {A B : Int} (c : ¬ fX8_within h x a b = 0) (ha : a.toInt = A) (hb : b.toInt = B) : lh_rng x A B := by
  have := lh_within_iff.mp c
  unfold lh_rng
  omega
