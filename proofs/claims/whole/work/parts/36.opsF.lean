theorem lh_kp.row {h h2 : lh_HS} (x : lh_kp h h2) {i : Nat} {r : Nat → Int32} (hi : i < 50 ∧ i ≠ 46 ∧ i ≠ 45 ∧ i ≠ 37) : lh_kp h (lh_row h2 i r) := by
  obtain ⟨x1, x2, x3, x4⟩ := x
  exact ⟨fun q hq => by rw [lh_row_ne (by omega), x1 q hq], by rw [lh_row_ne (by omega), x2], by rw [lh_row_ne (by omega), x3], by rw [lh_row_ne (by omega), x4]⟩
theorem lh_fm.row {a b : lh_HS} (x : lh_fm a b) {i : Nat} {r : Nat → Int32} (hi : i < 38 ∨ 45 < i) : lh_fm a (lh_row b i r) := fun q h1 h2 => by
  rw [← x q h1 h2]; exact lh_row_ne (by omega)
def lh_blk (p n : Nat) (f : Nat → Int32) : Nat → Int32 := fun z => if p ≤ z ∧ z < p + n then -1 else f z
theorem lh_blk0 (p : Nat) (f : Nat → Int32) : lh_blk p 0 f = f := by
  funext z; unfold lh_blk; rw [if_neg (by omega)]
theorem lh_blkS (p n : Nat) (f : Nat → Int32) : lh_blk (p + 1) n (upd f p (-1)) = lh_blk p (n + 1) f := by
  funext z
  unfold lh_blk
  by_cases c : p + 1 ≤ z ∧ z < p + 1 + n
  · rw [if_pos c, if_pos (by omega)]
  · rw [if_neg c]
    by_cases e : z = p
    · rw [e, lh_ue, if_pos (by omega)]
    · rw [lh_un e, if_neg (by omega)]
theorem lh_row_row (h : lh_HS) (i : Nat) (r r' : Nat → Int32) : lh_row (lh_row h i r) i r' = lh_row h i r' := by
  funext q
  unfold lh_row
  by_cases e : q = i
  · rw [if_pos e, if_pos e]
  · rw [if_neg e, if_neg e, if_neg e]
theorem lh_row_sw (h : lh_HS) {i j : Nat} (n : i ≠ j) (r r' : Nat → Int32) : lh_row (lh_row h i r) j r' = lh_row (lh_row h j r') i r := by
  funext q
  unfold lh_row
  by_cases e : q = i
  · rw [if_neg (by omega), if_pos e, if_pos e]
  · by_cases e2 : q = j
    · rw [if_pos e2, if_neg e, if_pos e2]
    · rw [if_neg e2, if_neg e, if_neg e, if_neg e2]
theorem lh_row_id (h : lh_HS) (i : Nat) : lh_row h i (h i) = h := by
  funext q
  unfold lh_row
  by_cases e : q = i
  · rw [if_pos e, e]
  · rw [if_neg e]
theorem lh_LX4 (wo : Int32) {r : Nat} (hr : r < 4) : ∀ (n i : Nat) (h : lh_HS), h 2 0 = nI r → i + n ≤ 10 → LX4_add_h wo n i h = lh_row (lh_up h 2 0 (nI (r + 1))) 8 (lh_blk (r * 10 + i) n (h 8)) ∧ LX4_add wo n i h = nI r := by
  intro n
  induction n with
  | zero =>
    intro i h e hi
    refine ⟨?_, ?_⟩
    · simp only [LX4_add_h]
      rw [lh_blk0, e, nI_1, show h 8 = lh_up h 2 0 (nI (r + 1)) 8 from rfl, lh_row_id]
    · simp only [LX4_add]
      rw [e]; simp
  | succ n ih =>
    intro i h e hi
    have p2 : (nI r * 10 + nI i).toNatClampNeg = r * 10 + i := by rw [lh_ry, nI_clamp (by omega)]
    simp only [LX4_add_h, LX4_add]
    obtain ⟨a1, a2⟩ := ih (i + 1) (gX4_read h (h 2 0) (nI i) (-1)) e (by omega)
    refine ⟨?_, a2⟩
    rw [a1]
    unfold gX4_read
    rw [e, p2, show lh_up h 8 (r * 10 + i) (-1) 8 = upd (h 8) (r * 10 + i) (-1) from rfl, show r * 10 + (i + 1) = r * 10 + i + 1 from by omega, lh_blkS]
    unfold lh_up
    rw [show lh_row h 8 (upd (h 8) (r * 10 + i) (-1)) 2 = h 2 from rfl, lh_row_sw _ (show 8 ≠ 2 by decide), lh_row_row]
theorem lh_LX9r (wo : Int32) {r : Nat} (hr : r < 4) : ∀ (n i : Nat) (h : lh_HS), h 38 0 = nI r → i + n ≤ 10 → LX9_room_h wo (nI r) n i h = lh_row (lh_up h 38 0 (nI (r + 1))) 40 (lh_blk (10 * r + i) n (h 40)) ∧ LX9_room wo (nI r) n i h = nI r := by
  intro n
  induction n with
  | zero =>
    intro i h e hi
    refine ⟨?_, ?_⟩
    · simp only [LX9_room_h]
      unfold gX9_came
      rw [show (0 : Int32).toNatClampNeg = 0 from rfl, lh_blk0, e, nI_1, show h 40 = lh_up h 38 0 (nI (r + 1)) 40 from rfl, lh_row_id]
    · simp only [LX9_room]
      show upd (h 38) 0 (h 38 0 + 1) 0 - 1 = nI r
      rw [lh_ue, e]; simp
  | succ n ih =>
    intro i h e hi
    have p2 : (10 * nI r + nI i).toNatClampNeg = 10 * r + i := lh_at (k := 10) (by omega)
    simp only [LX9_room_h, LX9_room]
    rw [p2]
    obtain ⟨a1, a2⟩ := ih (i + 1) (lh_up h 40 (10 * r + i) (-1)) e (by omega)
    refine ⟨?_, a2⟩
    rw [a1]
    rw [show lh_up h 40 (10 * r + i) (-1) 40 = upd (h 40) (10 * r + i) (-1) from rfl, show 10 * r + (i + 1) = 10 * r + i + 1 from by omega, lh_blkS]
    unfold lh_up
    rw [show lh_row h 40 (upd (h 40) (10 * r + i) (-1)) 38 = h 38 from rfl, lh_row_sw _ (show 40 ≠ 38 by decide), lh_row_row]
theorem op_room {k : Bool} {h : lh_HS} (L : lh_INV k h) (a : Int32) : lh_J (gX8_room h a) ∧ fX8_room h a = fX9_room (gX8_room h a) a ∧ lh_INV k (gX9_room (gX8_room h a) a) := by
  have I := L.1
  have R := L.2.2.2.1
  unfold gX8_room fX8_room fX9_room gX9_room
  by_cases c1 : fX8_within h a 1 200 = 0
  · simp only [if_pos c1]
    rw [lh_inE h h a, if_pos c1, if_pos c1]
    exact ⟨L.J, rfl, L⟩
  simp only [if_neg c1]
  have e5 := I.1.1.1
  have n5 := I.1.1.2
  have e38 := R.1.1
  have fl := lh_full (n := lh_N h 2) (M := 4) n5 (by omega)
  rw [← e5] at fl
  by_cases c4 : h 2 0 < 4
  · simp only [if_pos c4]
    have w1 := lh_rngW c1 (A := 1) (B := 200) (by decide) (by decide)
    generalize hn : lh_N h 2 = n at *
    have hn2 : n < 4 := by
      rw [e5, Int32.lt_iff_toInt_lt, nI_toInt (by omega)] at c4
      have q1 : (4 : Int32).toInt = 4 := by decide
      omega
    unfold gX4_add fX4_add
    simp only [if_pos c4]
    simp only [e5, nI_clamp (show n < 2 ^ 31 by omega)]
    obtain ⟨a1, a2⟩ := lh_LX4 a hn2 10 0 (lh_up h 7 n a) e5 (by omega)
    rw [a1, a2, show lh_up h 7 n a 8 = h 8 from rfl, Nat.add_zero]
    generalize hF : lh_blk (n * 10) 10 (h 8) = F
    generalize hg1 : gX8_changed (lh_row (lh_up (lh_up h 7 n a) 2 0 (nI (n + 1))) 8 F) (nI n) = h1
    have f38 : h1 38 = h 38 := by rw [← hg1]; rfl
    have f40 : h1 40 = h 40 := by rw [← hg1]; rfl
    have fJ : lh_fm h h1 := by rw [← hg1]; exact ((((lh_fm.rf h).up (i := 7) (Or.inl (by decide))).up (i := 2) (Or.inl (by decide))).row (i := 8) (Or.inl (by decide))).up (i := 30) (Or.inl (by decide))
    have g38 : h1 38 0 = nI n := by rw [f38, e38, e5]
    have ng : ¬ nI n = 4 := by rw [← e5]; exact fl.mp c4
    obtain ⟨b1, b2⟩ := lh_LX9r a hn2 10 0 (lh_up h1 39 n a) g38 (by omega)
    rw [lh_inE _ h a, if_neg c1, if_neg c1, g38, if_neg ng, if_neg ng, nI_clamp (by omega), b1, b2, show lh_up h1 39 n a 40 = h1 40 from rfl, f40, Nat.add_zero]
    generalize hG : lh_blk (10 * n) 10 (h 40) = G
    refine ⟨L.J.fm fJ, rfl, ?_⟩
    have hNN : lh_N (lh_row (lh_up (lh_up h1 39 n a) 38 0 (nI (n + 1))) 40 G) 2 = n + 1 := by
      rw [← hg1]
      show (nI (n + 1)).toNatClampNeg = n + 1
      rw [nI_clamp (by omega)]
    have hlt : ∀ t, t < lh_N (lh_row (lh_up (lh_up h1 39 n a) 38 0 (nI (n + 1))) 40 G) 2 → t = n ∨ t < n := fun t ht => by
      rw [hNN] at ht
      omega
    have up1 : ∀ x : Int32, lh_ix x n → lh_ix x (lh_N (lh_row (lh_up (lh_up h1 39 n a) 38 0 (nI (n + 1))) 40 G) 2) := fun x hx => by rw [hNN]; exact hx.mono (by omega)
    have I2 := I.2.1
    have I4 := I.2.2.2.1
    have I6 := I.2.2.2.2.2
    have R2 := R.2.1
    unfold lh_IR at I2
    unfold lh_IB at I4
    unfold lh_IW at I6
    unfold lh_RMr at R2
    rw [hn] at I2 I4 I6 R2
    subst hg1
    refine lh_INV_of (h2 := lh_row (lh_up (lh_up (gX8_changed (lh_row (lh_up (lh_up h 7 n a) 2 0 (nI (n + 1))) 8 F) (nI n)) 39 n a) 38 0 (nI (n + 1))) 40 G) L ⟨⟨⟨?_, ?_⟩, I.1.2⟩, fun t ht => ?_, I.2.2.1, fun t ht => ⟨(I4 t ht).1, (I4 t ht).2.1.elim Or.inl (fun z => Or.inr (up1 _ z)), (I4 t ht).2.2⟩, I.2.2.2.2.1, fun t ht => ⟨up1 _ (I6 t ht).1, (I6 t ht).2⟩⟩ L.2.1 ⟨⟨?_, R.1.2⟩, fun t ht => ?_, R.2.2⟩ (Or.inl rfl) ((((((((lh_kp.rf h).up (by omega)).up (by omega)).row (by omega)).up (by omega)).up (by omega)).up (by omega)).row (by omega))
    · show nI (n + 1) = nI (nI (n + 1)).toNatClampNeg
      rw [nI_clamp (by omega)]
    · rw [hNN]
      omega
    · show lh_rng (upd (h 7) n a t) 1 200 ∧ ∀ y, y < 10 → lh_rng (F (t * 10 + y)) (-1) (upd (h 7) n a t).toInt
      rcases hlt t ht with e | e
      · rw [e, lh_ue]
        refine ⟨w1, fun y hy => ?_⟩
        rw [← hF]
        unfold lh_blk
        rw [if_pos (by omega)]
        have q1 : (-1 : Int32).toInt = -1 := by decide
        have := w1.1
        exact ⟨by omega, by omega⟩
      · rw [lh_un (by omega)]
        refine ⟨(I2 t e).1, fun y hy => ?_⟩
        rw [← hF]
        unfold lh_blk
        rw [if_neg (by omega)]
        exact (I2 t e).2 y hy
    · show upd (h 38) 0 (nI (n + 1)) 0 = nI (n + 1)
      rw [lh_ue]
    · show upd (h 39) n a t = upd (h 7) n a t ∧ ∀ y, y < 10 → G (10 * t + y) = F (t * 10 + y)
      rcases hlt t ht with e | e
      · rw [e, lh_ue, lh_ue]
        refine ⟨rfl, fun y hy => ?_⟩
        rw [← hF, ← hG]
        unfold lh_blk
        rw [if_pos (by omega), if_pos (by omega)]
      · rw [lh_un (by omega), lh_un (by omega)]
        refine ⟨(R2 t e).1, fun y hy => ?_⟩
        rw [← hF, ← hG]
        unfold lh_blk
        rw [if_neg (by omega), if_neg (by omega)]
        exact (R2 t e).2 y hy
  · simp only [if_neg c4]
    have z : h 2 0 = 4 := by
      by_cases z : h 2 0 = 4
      · exact z
      · exact absurd (fl.mpr z) c4
    rw [lh_inE _ h a, if_neg c1, if_neg c1, e38, if_pos z, if_pos z]
    exact ⟨L.J, rfl, L⟩
