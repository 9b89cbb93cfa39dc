/-! hang: the class's cells beside the reference's -/
def lm_g (c r : lh_HS) : lh_HS := fun q => if q < 37 then c q else r q
theorem lm_l (c r : lh_HS) {q : Nat} (h : q < 37) : lm_g c r q = c q := if_pos h
theorem lm_r (c r : lh_HS) {q : Nat} (h : ¬ q < 37) : lm_g c r q = r q := if_neg h
theorem lm_upl (c r : lh_HS) {i : Nat} (j : Nat) (x : Int32) (h : i < 37) : lh_up (lm_g c r) i j x = lm_g (lh_up c i j x) r := by
  funext q
  rw [lh_up_r, lm_l c r h]
  by_cases e : q = i
  · rw [if_pos e, e, lm_l _ _ h, lh_up_r, if_pos rfl]
  · rw [if_neg e]
    by_cases l : q < 37
    · rw [lm_l _ _ l, lm_l _ _ l, lh_up_r, if_neg e]
    · rw [lm_r _ _ l, lm_r _ _ l]
theorem lm_upr (c r : lh_HS) {i : Nat} (j : Nat) (x : Int32) (h : ¬ i < 37) : lh_up (lm_g c r) i j x = lm_g c (lh_up r i j x) := by
  funext q
  rw [lh_up_r, lm_r c r h]
  by_cases e : q = i
  · rw [if_pos e, e, lm_r _ _ h, lh_up_r, if_pos rfl]
  · rw [if_neg e]
    by_cases l : q < 37
    · rw [lm_l _ _ l, lm_l _ _ l]
    · rw [lm_r _ _ l, lm_r _ _ l, lh_up_r, if_neg e]
theorem lm_add (c r : lh_HS) (a b y z : Int32) : gX0_add (lm_g c r) a b y z = lm_g (gX0_add c a b y z) r := by
  unfold gX0_add
  rw [lm_l c r (q := 4) (by decide)]
  by_cases e : c 4 0 < 30
  · rw [if_pos e, if_pos e, lm_upl _ _ _ _ (by decide), lm_upl _ _ _ _ (by decide), lm_upl _ _ _ _ (by decide), lm_upl _ _ _ _ (by decide), lm_upl _ _ _ _ (by decide), lm_upl _ _ _ _ (by decide)]
  · rw [if_neg e, if_neg e]
theorem lm_books (c r : lh_HS) (a b y z : Int32) : gX9_books (lm_g c r) a b y z = lm_g c (gX9_books r a b y z) := by
  unfold gX9_books gX9_came
  rw [lm_r c r (q := 38) (by decide), lm_upr _ _ _ _ (by decide), lm_upr _ _ _ _ (by decide), lm_upr _ _ _ _ (by decide), lm_upr _ _ _ _ (by decide), lm_upr _ _ _ _ (by decide), lm_r _ _ (q := 38) (by decide), lm_upr _ _ _ _ (by decide)]
theorem lh_up_sw (h : lh_HS) {i i' : Nat} (n : i ≠ i') (j j' : Nat) (x x' : Int32) : lh_up (lh_up h i j x) i' j' x' = lh_up (lh_up h i' j' x') i j x := by
  unfold lh_up
  rw [lh_row_ne (Ne.symm n), lh_row_ne n, lh_row_sw h n]
theorem lh_up_tw (h : lh_HS) (i j : Nat) (x : Int32) : lh_up (lh_up h i j x) i j x = lh_up h i j x := by
  unfold lh_up
  rw [lh_row_eq, lh_row_row]
  congr 1
  funext v
  by_cases e : v = j
  · rw [e, lh_ue, lh_ue]
  · rw [lh_un e]
theorem lm_known (c : lh_HS) (a b y z : Int32) : gX0_add (lh_up c 30 2 0) a b y z = lh_up (gX0_add c a b y z) 30 2 0 := by
  unfold gX0_add
  rw [lh_up_ne (h := c) (i := 30) (j := 2) (a := 4) (b := 0) (Or.inl (by decide))]
  by_cases e : c 4 0 < 30
  · rw [if_pos e, if_pos e, lh_up_sw c (by decide), lh_up_sw _ (i := 30) (i' := 17) (by decide), lh_up_sw _ (i := 30) (i' := 18) (by decide), lh_up_sw _ (i := 30) (i' := 19) (by decide), lh_up_sw _ (i := 30) (i' := 20) (by decide), lh_up_sw _ (i := 30) (i' := 4) (by decide)]
  · rw [if_neg e, if_neg e]
theorem lm_clear {k : Bool} {h : lh_HS} (L : lh_INV k h) (z : h 30 2 = 0) : lh_INV k (lh_up (lh_up h 6 0 0) 38 4 0) := by
  have I := L.1
  have R := L.2.2.2.1
  have hlt : ∀ t, ¬ t < (0 : Int32).toNatClampNeg := fun t ht => by
    rw [show (0 : Int32).toNatClampNeg = 0 from by decide] at ht
    omega
  refine lh_INV_of L ⟨⟨I.1.1, I.1.2.1, I.1.2.2.1, I.1.2.2.2.1, ⟨?_, ?_⟩⟩, I.2.1, I.2.2.1, I.2.2.2.1, I.2.2.2.2.1, fun t ht => absurd ht (hlt t)⟩ L.2.1 ⟨⟨R.1.1, R.1.2.1, R.1.2.2.1, R.1.2.2.2.1, ?_⟩, R.2.1, R.2.2.1, R.2.2.2.1, R.2.2.2.2.1, fun t ht => absurd ht (hlt t)⟩ (Or.inl z) (((lh_kp.rf h).up (by omega)).up (by omega))
  · show (0 : Int32) = nI (0 : Int32).toNatClampNeg
    decide
  · show (0 : Int32).toNatClampNeg ≤ 5
    decide
  · rfl
def lm_cnt (B : Nat → Int32) : Nat → Nat → Nat
  | 0, _ => 0
  | n + 1, i => (if B i = -4 then 0 else 1) + lm_cnt B n (i + 1)
theorem lm_cnt_b (B : Nat → Int32) : ∀ n i, lm_cnt B n i ≤ n := by
  intro n
  induction n with
  | zero => intro i; exact Nat.le_refl _
  | succ n ih =>
    intro i
    have := ih (i + 1)
    simp only [lm_cnt]
    by_cases e : B i = -4
    · rw [if_pos e]; omega
    · rw [if_neg e]; omega
theorem lm_hang {k : Bool} {g : lh_HS} (I : lh_I g) {B : Nat → Int32} (hB : ∀ v, lr_v g (B v)) (mn nn : Int32) : ∀ (n i : Nat) (c r : lh_HS), i + n = lh_N g 6 → lh_INV k (lm_g (lh_up c 30 2 0) r) → (∀ q, q = 2 ∨ q = 3 ∨ q = 6 ∨ q = 24 ∨ q = 25 → c q = g q) → (∀ v, v < lh_N g 6 → c 31 v = B v ∧ r 48 v = lr_n g (B v)) → lh_N c 4 + lm_cnt B n i ≤ 30 → lh_INV k (lm_g (LX8_hang_h mn n i c) (LX9_hang2_h nn n i r)) := by
  have hW := I.1.2.2.2.2.2
  have hS := I.1.2.1.2
  intro n
  induction n with
  | zero =>
    intro i c r hi L _ _ _
    simp only [LX8_hang_h, LX9_hang2_h]
    have e : gX8_changed (lh_up c 6 0 0) mn = lh_up (lh_up c 30 2 0) 6 0 0 := by
      unfold gX8_changed gX1_forget
      exact lh_up_sw c (by decide) _ _ _ _
    rw [e, ← lm_upr _ _ _ _ (by decide), ← lm_upl _ _ _ _ (by decide)]
    refine lm_clear L ?_
    rw [lm_l _ _ (by decide), lh_up_eq]
  | succ n ih =>
    intro i c r hi L hc hb hn
    have hI := L.1
    have hR := L.2.2.2.1
    have ml : ∀ q, q < 30 → lm_g (lh_up c 30 2 0) r q = c q := fun q hq => by rw [lm_l _ _ (by omega), lh_up_r, if_neg (by omega)]
    have mN : ∀ q, q < 30 → lh_N (lm_g (lh_up c 30 2 0) r) q = lh_N c q := fun q hq => by unfold lh_N; rw [ml q hq]
    have gN : ∀ q, q = 2 ∨ q = 3 ∨ q = 6 ∨ q = 24 ∨ q = 25 → lh_N c q = lh_N g q := fun q hq => by unfold lh_N; rw [hc q hq]
    have e38 : r 38 1 = nI (lh_N g 3) := by
      have := hR.1.2.1
      rw [lm_r _ _ (by decide), ml 3 (by decide), hc 3 (by decide)] at this
      rw [this]
      exact I.1.2.1.1
    have hw6 : i < lh_N (lm_g (lh_up c 30 2 0) r) 6 := by rw [mN 6 (by decide), gN 6 (by decide)]; omega
    obtain ⟨w0, w1, -⟩ := hR.2.2.2.2.2 i hw6
    obtain ⟨v0, v1, -⟩ := hI.2.2.2.2.2 i hw6
    rw [lm_r _ _ (by decide), ml 24 (by decide)] at w0
    rw [lm_r _ _ (by decide), ml 25 (by decide)] at w1
    rw [ml 24 (by decide)] at v0
    rw [ml 25 (by decide)] at v1
    obtain ⟨t0, t1, -, t3⟩ := lr_w I (j := i) (by omega)
    simp only [LX8_hang_h, LX9_hang2_h]
    rw [t0, t1, t3, w0, w1, e38, (hb i (by omega)).1, (hb i (by omega)).2]
    simp only [lm_cnt] at hn
    rcases hB i with v | ⟨s, hs, es⟩
    · rw [v, lr_n4 I, if_pos rfl, if_pos (by rw [Int32.le_iff_toInt_le]; exact Int.le_refl _)]
      rw [if_pos v] at hn
      exact ih (i + 1) c r (by omega) L hc hb (by omega)
    · have n4 : ¬ B i = -4 := fun z => lp_ne4 (s := s) (by omega) (z.symm.trans es)
      rw [if_neg n4] at hn
      rw [if_neg n4, lr_nn n4, es, if_neg (show ¬ nI (lh_N g 3) ≤ nI s by rw [Int32.le_iff_toInt_le, nI_toInt (by omega), nI_toInt (by omega)]; omega)]
      have b4 : lh_N (lm_g (lh_up c 30 2 0) r) 4 = lh_N c 4 := mN 4 (by decide)
      have q := (lh_addB L b4 (by omega) (a := nI s) (b := c 24 i) (y := c 25 i) (z := 0) ⟨s, by rw [mN 3 (by decide), gN 3 (by decide)]; exact hs, rfl⟩ (Or.inr v0) v1 (by unfold lh_rng; decide) 0).2.2
      rw [lh_n4_ix (by have := hI.1.1.2; omega) v0, lm_add, lm_known] at q
      unfold gX8_changed gX1_forget at q
      rw [lm_upl _ _ _ _ (by decide), lh_up_tw, lm_books] at q
      have e40 : c 4 0 = nI (lh_N c 4) := by
        have := hI.1.2.2.1.1
        rw [mN 4 (by decide), ml 4 (by decide)] at this
        exact this
      have c30 : c 4 0 < 30 := by
        rw [e40, Int32.lt_iff_toInt_lt, nI_toInt (by omega), show (30 : Int32).toInt = 30 from by decide]
        omega
      have e4 : lh_N (gX0_add c (nI s) (c 24 i) (c 25 i) 0) 4 = lh_N c 4 + 1 := by
        unfold lh_N gX0_add
        rw [if_pos c30, lh_up_eq, e40, nI_1, nI_clamp (by omega), nI_clamp (by omega)]
      unfold gX0_addShow
      refine ih (i + 1) _ _ (by omega) q (fun q hq => by rw [ne_add (by omega) (by omega)]; exact hc q hq) (fun v hv => ?_) (by rw [e4]; omega)
      rw [ne_add (q := 31) (by decide) (by decide), ne_books _ _ _ _ _ 48 v (by decide) (Or.inl (by decide))]
      exact hb v hv
theorem lm_fL (mn : Int32) : ∀ (n i : Nat) (c : lh_HS), (∀ q, 36 < q → LX8_hang_h mn n i c q = c q) ∧ LX8_hang mn n i c = mn := by
  intro n
  induction n with
  | zero =>
    intro i c
    refine ⟨fun q hq => ?_, rfl⟩
    simp only [LX8_hang_h]
    unfold gX8_changed gX1_forget
    rw [lh_up_r, if_neg (by omega), lh_up_r, if_neg (by omega)]
  | succ n ih =>
    intro i c
    simp only [LX8_hang_h, LX8_hang]
    by_cases e : c 31 (nI i).toNatClampNeg = -4
    · rw [if_pos e, if_pos e]; exact ih _ _
    · rw [if_neg e, if_neg e]
      refine ⟨fun q hq => ?_, (ih _ _).2⟩
      rw [(ih _ _).1 q hq]
      unfold gX0_addShow
      exact ne_add (by omega) (by omega) _ _ _ _
theorem lm_h2 (nn : Int32) : ∀ (n i : Nat) (r : lh_HS), (∀ q, q < 37 → LX9_hang2_h nn n i r q = r q) ∧ LX9_hang2 nn n i r = nn := by
  intro n
  induction n with
  | zero =>
    intro i r
    refine ⟨fun q hq => ?_, rfl⟩
    simp only [LX9_hang2_h]
    rw [lh_up_r, if_neg (by omega)]
  | succ n ih =>
    intro i r
    simp only [LX9_hang2_h, LX9_hang2]
    by_cases e : r 38 1 ≤ r 48 (nI i).toNatClampNeg
    · rw [if_pos e, if_pos e]; exact ih _ _
    · rw [if_neg e, if_neg e]
      refine ⟨fun q hq => ?_, (ih _ _).2⟩
      rw [(ih _ _).1 q hq]
      exact funext fun z => ne_books _ _ _ _ _ q z (by omega) (Or.inl (by omega))
theorem lm_cls {g : lh_HS} {B : Nat → Int32} {N : Nat} (hN : N ≤ 5) (hb : ∀ v, v < N → g 31 v = B v) : ∀ (n i a : Nat), i + n = N → LX1_countHung g n i (nI a) = nI (a + lm_cnt B n i) := by
  intro n
  induction n with
  | zero => intro i a hi; rfl
  | succ n ih =>
    intro i a hi
    simp only [LX1_countHung, lm_cnt]
    rw [nI_clamp (n := i) (by omega), hb i (by omega), nI_1]
    by_cases e : B i = -4
    · rw [if_pos e, if_pos e, ih _ _ (by omega), Nat.zero_add]
    · rw [if_neg e, if_neg e, ih _ _ (by omega), Nat.add_assoc]
theorem lm_ref {g r : lh_HS} (I : lh_I g) {B : Nat → Int32} (hB : ∀ v, lr_v g (B v)) (e38 : r 38 1 = nI (lh_N g 3)) (hb : ∀ v, v < lh_N g 6 → r 48 v = lr_n g (B v)) (N9 : Nat) : ∀ (n i a : Nat), i + n = lh_N g 6 → LX9_hang1 N9 n i (nI a) r = (if r 38 2 + nI (a + lm_cnt B n i) ≤ 30 then LX9_hang2 (nI (a + lm_cnt B n i)) N9 0 r else -2) ∧ LX9_hang1_h N9 n i (nI a) r = (if r 38 2 + nI (a + lm_cnt B n i) ≤ 30 then LX9_hang2_h (nI (a + lm_cnt B n i)) N9 0 r else r) ∧ lh_cnt9 r n i (nI a) = nI (a + lm_cnt B n i) ∧ lh_rem r n i = lm_cnt B n i := by
  have hW := I.1.2.2.2.2.2
  have hS := I.1.2.1.2
  intro n
  induction n with
  | zero => intro i a hi; exact ⟨rfl, rfl, rfl, rfl⟩
  | succ n ih =>
    intro i a hi
    have s0 : B i = -4 → lm_cnt B (n + 1) i = lm_cnt B n (i + 1) := fun v => by
      simp only [lm_cnt]
      rw [if_pos v, Nat.zero_add]
    have s1 : ¬ B i = -4 → lm_cnt B (n + 1) i = 1 + lm_cnt B n (i + 1) := fun v => by
      simp only [lm_cnt]
      rw [if_neg v]
    simp only [LX9_hang1, LX9_hang1_h, lh_cnt9, lh_rem]
    rw [nI_clamp (n := i) (by omega), hb i (by omega), e38, nI_1, Int32.add_zero]
    rcases hB i with v | ⟨s, hs, es⟩
    · obtain ⟨i1, i2, i3, i4⟩ := ih (i + 1) a (by omega)
      rw [s0 v, v, lr_n4 I, if_pos rfl, if_pos rfl, if_pos rfl, if_neg (show ¬ nI (lh_N g 3) < nI (lh_N g 3) by rw [Int32.lt_iff_toInt_lt]; exact Int.lt_irrefl _), Nat.zero_add]
      exact ⟨i1, i2, i3, i4⟩
    · have n4 : ¬ B i = -4 := fun z => lp_ne4 (s := s) (by omega) (z.symm.trans es)
      have ne : ¬ nI s = nI (lh_N g 3) := fun z => by rw [nI_eq (by omega) (by omega)] at z; omega
      obtain ⟨i1, i2, i3, i4⟩ := ih (i + 1) (a + 1) (by omega)
      rw [s1 n4, lr_nn n4, es, if_neg ne, if_neg ne, if_neg ne, if_pos (show nI s < nI (lh_N g 3) by rw [Int32.lt_iff_toInt_lt, nI_toInt (by omega), nI_toInt (by omega)]; omega), ← Nat.add_assoc, i4]
      exact ⟨i1, i2, i3, rfl⟩
theorem op_hang {k : Bool} {h : lh_HS} (L : lh_INV k h) : (lh_J (gX8_hang h) ∧ (gX9_findHang (gX8_hang h) 38 2 + lh_cnt9 (gX9_findHang (gX8_hang h)) (lh_m (gX8_hang h) 4) 0 0 ≤ 30 → lh_cap (gX9_findHang (gX8_hang h)) (lh_m (gX8_hang h) 4) 0)) ∧ fX8_hang h = fX9_hang (gX8_hang h) ∧ lh_INV k (gX9_hang (gX8_hang h)) := by
  obtain ⟨L1, fr, fm, e4, e31⟩ := lc_INV L
  unfold gX8_hang fX8_hang fX9_hang gX9_hang
  generalize gX1_find h = g at L1 fr fm e4 e31 ⊢
  have I := L1.1
  have R := L1.2.2.2.1
  have S := L1.2.2.2.2.1
  have hW := I.1.2.2.2.2.2
  have hS := I.1.2.1.2
  have n4 := I.1.2.2.1.2
  have hB := (lp_SPv I).2
  have cb := lm_cnt_b (lp_SP g).2 (lh_N g 6) 0
  have ec : fX1_countHung g = nI (lm_cnt (lp_SP g).2 (lh_N g 6) 0) := by
    unfold fX1_countHung
    have := lm_cls hW (fun v hv => (e31 v hv).1) (lh_N g 6) 0 0 (by omega)
    rw [Nat.zero_add] at this
    exact this
  have e40 : g 4 0 = nI (lh_N g 4) := I.1.2.2.1.1
  have le30 : ∀ x, x ≤ 100 → (nI x ≤ 30 ↔ x ≤ 30) := fun x hx => by
    rw [Int32.le_iff_toInt_le, nI_toInt (by omega), show (30 : Int32).toInt = 30 from by decide]
    omega
  rw [ec, e40, nI_add]
  -- what holds of the reference at any state with this house in it
  have ref : ∀ H, lh_fm g H → lh_m H 4 = lh_N g 6 ∧ lr_f H (gX9_findHang H) ∧ gX9_findHang H 38 2 = nI (lh_N g 4) ∧ gX9_findHang H 38 1 = nI (lh_N g 3) ∧ ∀ v, v < lh_N g 6 → gX9_findHang H 48 v = lr_n g ((lp_SP g).2 v) := by
    intro H f
    obtain ⟨p1, p2, p3⟩ := lr_fh I R S f
    refine ⟨by rw [f.m, R.m.2.2.2.2], p3, ?_, ?_, p2⟩
    · rw [p3 38 2 (Or.inl (by decide)) (by decide) (by decide) (by decide), f 38 (by decide) (by decide), R.1.2.2.1]; exact e40
    · rw [p3 38 1 (Or.inl (by decide)) (by decide) (by decide) (by decide)]; exact lr_e38 I R f
  have cap : ∀ H, lh_fm g H → gX9_findHang H 38 2 + lh_cnt9 (gX9_findHang H) (lh_m H 4) 0 0 ≤ 30 → lh_cap (gX9_findHang H) (lh_m H 4) 0 := by
    intro H f
    obtain ⟨q1, q2, q3, q4, q5⟩ := ref H f
    obtain ⟨-, -, m3, m4⟩ := lm_ref I hB q4 q5 (lh_N g 6) (lh_N g 6) 0 0 (by omega)
    rw [Nat.zero_add] at m3
    rw [q1, q3, show lh_cnt9 (gX9_findHang H) (lh_N g 6) 0 0 = nI (lm_cnt (lp_SP g).2 (lh_N g 6) 0) from m3, nI_add, le30 _ (by omega)]
    exact fun z => ⟨lh_N g 4, q3, by rw [m4]; exact z⟩
  by_cases z : nI (lh_N g 4 + lm_cnt (lp_SP g).2 (lh_N g 6) 0) ≤ 30
  · rw [if_pos z, if_pos z, (lm_fL _ _ _ _).2]
    have z2 := (le30 _ (by omega)).mp z
    obtain ⟨fH, -⟩ := lm_fL (nI (lm_cnt (lp_SP g).2 (lh_N g 6) 0)) (lh_N g 6) 0 g
    have f : lh_fm g (LX8_hang_h (nI (lm_cnt (lp_SP g).2 (lh_N g 6) 0)) (lh_N g 6) 0 g) := fun q h1 h2 => fH q (by omega)
    refine ⟨⟨L1.J.fm f, cap _ f⟩, ?_⟩
    obtain ⟨q1, q2, q3, q4, q5⟩ := ref _ f
    obtain ⟨m1, m2, -, -⟩ := lm_ref I hB q4 q5 (lh_N g 6) (lh_N g 6) 0 0 (by omega)
    rw [Nat.zero_add, q3, nI_add, if_pos z] at m1 m2
    rw [q1, show LX9_hang1 (lh_N g 6) (lh_N g 6) 0 0 _ = _ from m1, show LX9_hang1_h (lh_N g 6) (lh_N g 6) 0 0 _ = _ from m2, (lm_h2 _ _ _ _).2]
    refine ⟨rfl, ?_⟩
    have fin := fun x => lm_hang (k := k) I hB (nI (lm_cnt (lp_SP g).2 (lh_N g 6) 0)) (nI (lm_cnt (lp_SP g).2 (lh_N g 6) 0)) (lh_N g 6) 0 g _ (by omega) x (fun _ _ => rfl) (fun v hv => ⟨(e31 v hv).1, q5 v hv⟩) (by omega)
    generalize LX8_hang_h (nI (lm_cnt (lp_SP g).2 (lh_N g 6) 0)) (lh_N g 6) 0 g = H at fH f q2 fin ⊢
    generalize gX9_findHang H = r at q2 fin ⊢
    have rr : ∀ q, q ≠ 37 → q ≠ 47 → q ≠ 48 → q ≠ 49 → r q = H q := fun q h1 h2 h3 h4 => funext fun z => q2 q z (Or.inl h1) h2 h3 h4
    have h2 := (lm_h2 (nI (lm_cnt (lp_SP g).2 (lh_N g 6) 0)) (lh_N g 6) 0 r).1
    have em : lm_g H (LX9_hang2_h (nI (lm_cnt (lp_SP g).2 (lh_N g 6) 0)) (lh_N g 6) 0 r) = LX9_hang2_h (nI (lm_cnt (lp_SP g).2 (lh_N g 6) 0)) (lh_N g 6) 0 r := by
      funext q
      by_cases l : q < 37
      · rw [lm_l _ _ l, h2 q l, rr q (by omega) (by omega) (by omega) (by omega)]
      · rw [lm_r _ _ l]
    rw [em] at fin
    refine fin ?_
    have ml : ∀ q, q < 37 → q ≠ 30 → lm_g (lh_up g 30 2 0) r q = g q := fun q hq h0 => by rw [lm_l _ _ hq, lh_up_r, if_neg h0]
    have mr : ∀ q, 37 < q → q ≠ 47 → q ≠ 48 → q ≠ 49 → lm_g (lh_up g 30 2 0) r q = g q := fun q hq h1 h3 h4 => by rw [lm_r _ _ (by omega), rr q (by omega) h1 h3 h4, fH q (by omega)]
    have fr2 : lh_fr g (lm_g (lh_up g 30 2 0) r) := fun q h1 h2 => ml q (by omega) (by omega)
    refine lh_INV_of L1 (I.fr fr2) ?_ (R.fr fr2 (fun q h1 h2 => mr q (by omega) (by omega) (by omega) (by omega))) (Or.inl ?_) ⟨fun q hq => mr q (by omega) (by omega) (by omega) (by omega), mr 46 (by decide) (by decide) (by decide) (by decide), ?_, mr 45 (by decide) (by decide) (by decide) (by decide)⟩
    · unfold lh_Zc
      rw [ml 20 (by decide) (by decide)]
      exact L1.2.1
    · rw [lm_l _ _ (by decide), lh_up_eq]
    · rw [lm_r _ _ (by decide), q2 37 8 (Or.inr (by decide)) (by decide) (by decide) (by decide), fH 37 (by decide)]
  · rw [if_neg z, if_neg z]
    have f := lh_fm.rf g
    refine ⟨⟨L1.J, cap _ f⟩, ?_⟩
    obtain ⟨q1, q2, q3, q4, q5⟩ := ref _ f
    obtain ⟨m1, m2, -, -⟩ := lm_ref I hB q4 q5 (lh_N g 6) (lh_N g 6) 0 0 (by omega)
    rw [Nat.zero_add, q3, nI_add, if_neg z] at m1 m2
    rw [q1, show LX9_hang1 (lh_N g 6) (lh_N g 6) 0 0 _ = _ from m1, show LX9_hang1_h (lh_N g 6) (lh_N g 6) 0 0 _ = _ from m2]
    exact ⟨rfl, lr_INV L1 q2⟩
