/-! THE LAW'S INVARIANT: class and reference hold the same house -/
def lh_RMr (h : lh_HS) : Prop := ∀ r, r < lh_N h 2 → h 39 r = h 7 r ∧ ∀ y, y < 10 → h 40 (10 * r + y) = h 8 (r * 10 + y)
def lh_n4 (x : Int32) : Int32 := if x = -4 then -1 else x
def lh_RMs (h : lh_HS) : Prop := ∀ s, s < lh_N h 3 → h 41 (7 * s) = h 9 s ∧ h 41 (7 * s + 1) = h 10 s ∧ h 41 (7 * s + 2) = h 11 s ∧ h 41 (7 * s + 3) = h 12 s ∧ h 41 (7 * s + 4) = lh_n4 (h 13 s) ∧ h 41 (7 * s + 5) = h 14 s ∧ h 41 (7 * s + 6) = h 15 s
def lh_RMb (h : lh_HS) : Prop := ∀ b, b < lh_N h 4 → h 42 (5 * b) = h 16 b ∧ h 42 (5 * b + 1) = lh_n4 (h 17 b) ∧ h 42 (5 * b + 2) = h 18 b ∧ h 42 (5 * b + 3) = h 19 b ∧ h 42 (5 * b + 4) = h 20 b
def lh_RMt (h : lh_HS) : Prop := ∀ t, t < lh_N h 5 → h 43 (3 * t) = h 21 t ∧ h 43 (3 * t + 1) = h 22 t ∧ h 43 (3 * t + 2) = h 23 t
def lh_RMw (h : lh_HS) : Prop := ∀ w, w < lh_N h 6 → h 44 (3 * w) = h 24 w ∧ h 44 (3 * w + 1) = h 25 w ∧ h 44 (3 * w + 2) = h 26 w
def lh_RM (h : lh_HS) : Prop := (h 38 0 = h 2 0 ∧ h 38 1 = h 3 0 ∧ h 38 2 = h 4 0 ∧ h 38 3 = h 5 0 ∧ h 38 4 = h 6 0) ∧ lh_RMr h ∧ lh_RMs h ∧ lh_RMb h ∧ lh_RMt h ∧ lh_RMw h
def lh_ST (h : lh_HS) : Prop := ∀ j, j < 9 → h 45 j = lh_T j
def lh_Zc (h : lh_HS) (c : Nat) : Prop := ∀ j, j < 30 → h c j = 0 ∨ h c j = 1
/-- the kept house, and what the reference keeps, as a house -/
def lh_kv (h : lh_HS) : lh_HS := fun i => if i ≤ 26 then h (i + 49) else match i with
  | 38 => fun j => h 46 j
  | 39 => fun j => h 46 (5 + j)
  | 40 => fun j => h 46 (9 + j)
  | 41 => fun j => h 46 (49 + j)
  | 42 => fun j => h 46 (105 + j)
  | 43 => fun j => h 46 (255 + j)
  | 44 => fun j => h 46 (291 + j)
  | _ => h i
theorem lh_n4_ix {x : Int32} {n : Nat} (hn : n < 2 ^ 31) (h : lh_ix x n) : lh_n4 x = x := by
  unfold lh_n4
  rw [if_neg]
  intro e
  rw [e, lh_ix_iff hn] at h
  have : (-4 : Int32).toInt = -4 := by decide
  omega
theorem lh_n4_neg : lh_n4 (-4) = -1 := rfl
theorem lh_RM.m {h : lh_HS} (R : lh_RM h) : lh_m h 0 = lh_N h 2 ∧ lh_m h 1 = lh_N h 3 ∧ lh_m h 2 = lh_N h 4 ∧ lh_m h 3 = lh_N h 5 ∧ lh_m h 4 = lh_N h 6 := by
  unfold lh_m lh_N
  rw [R.1.1, R.1.2.1, R.1.2.2.1, R.1.2.2.2.1, R.1.2.2.2.2]
  exact ⟨rfl, rfl, rfl, rfl, rfl⟩
theorem lh_J_of {h : lh_HS} (I : lh_I h) (R : lh_RM h) (S : lh_ST h) : lh_J h := by
  obtain ⟨e0, e1, e2, e3, e4⟩ := R.m
  obtain ⟨⟨c0, c1, c2, c3, c4⟩, iR, iS, iB, iT, iW⟩ := I
  refine ⟨⟨⟨?_, ?_⟩, ⟨?_, ?_⟩, ⟨?_, ?_⟩, ⟨?_, ?_⟩, ⟨?_, ?_⟩⟩, fun b hb => ?_, fun t ht => ?_, fun w hw => ?_, S⟩
  · rw [e0, R.1.1]; exact c0.1
  · rw [e0]; exact c0.2
  · rw [e1, R.1.2.1]; exact c1.1
  · rw [e1]; exact c1.2
  · rw [e2, R.1.2.2.1]; exact c2.1
  · rw [e2]; exact c2.2
  · rw [e3, R.1.2.2.2.1]; exact c3.1
  · rw [e3]; exact c3.2
  · rw [e4, R.1.2.2.2.2]; exact c4.1
  · rw [e4]; exact c4.2
  · rw [e2] at hb
    obtain ⟨-, g1, g2, -⟩ := R.2.2.2.1 b hb
    obtain ⟨-, k1, k2, -⟩ := iB b hb
    rw [g1, g2]
    refine ⟨?_, k2⟩
    rcases k1 with k1 | k1
    · left; rw [k1, lh_n4_neg]; decide
    · right; rw [lh_n4_ix (by have := c0.2; omega) k1]; exact k1.mono c0.2
  · rw [e3] at ht
    obtain ⟨-, g1, g2⟩ := R.2.2.2.2.1 t ht
    rw [g1, g2]
    exact (iT t ht).2
  · rw [e4] at hw
    obtain ⟨g0, g1, -⟩ := R.2.2.2.2.2 w hw
    rw [g0, g1]
    exact ⟨(iW w hw).1.mono c0.2, (iW w hw).2.1⟩
/-! THE HANG, as a plain search: the first of the best, sheets in their order, none last -/
def lp_lt (h : lh_HS) (w : Nat) : Int32 := fX4_lightEnd h (h 24 w) (h 25 w) 1
def lp_lf (h : lh_HS) (s : Nat) : Int32 := fX3_leftEnd (gX3_openAt h (nI s)) 0
def lp_sp (h : lh_HS) (c : Nat → Int32) (s : Nat) : Nat → Int32
  | 0 => lp_lf h s
  | w + 1 => if c w = nI s then lp_sp h c s w - lp_lt h w else lp_sp h c s w
def lp_aw (a b : Int32) : Int32 := if 0 ≤ a - b then a - b else 0 - (a - b)
def lp_cf (h : lh_HS) (c : Nat → Int32) (w s v : Nat) : Prop := (c v = nI s ∧ ¬ h 12 s < lp_aw (h 25 v) (h 25 w)) ∨ (¬ c v = -4 ∧ c v = h 13 s ∧ lp_aw (h 25 v) (h 25 w) = 0)
def lp_cfb (h : lh_HS) (c : Nat → Int32) (w s v : Nat) : Bool := (decide (c v = nI s) && !decide (h 12 s < lp_aw (h 25 v) (h 25 w))) || (!decide (c v = -4) && (decide (c v = h 13 s) && decide (lp_aw (h 25 v) (h 25 w) = 0)))
theorem lp_cfb_iff {h : lh_HS} {c : Nat → Int32} {w s v : Nat} : lp_cfb h c w s v = true ↔ lp_cf h c w s v := by simp [lp_cfb, lp_cf]
def lp_ok (h : lh_HS) (c : Nat → Int32) (w s : Nat) : Prop := ¬ fX5_hasTheme h (nI s) (h 26 w) = 0 ∧ fX1_shownTooNear h (nI s) (h 25 w) = 0 ∧ lp_lt h w ≤ lp_sp h c s w ∧ ∀ v, v < w → ¬ lp_cf h c w s v
def lp_okb (h : lh_HS) (c : Nat → Int32) (w s : Nat) : Bool := !decide (fX5_hasTheme h (nI s) (h 26 w) = 0) && (decide (fX1_shownTooNear h (nI s) (h 25 w) = 0) && (decide (lp_lt h w ≤ lp_sp h c s w) && (List.range w).all (fun v => !lp_cfb h c w s v)))
theorem lp_okb_iff {h : lh_HS} {c : Nat → Int32} {w s : Nat} : lp_okb h c w s = true ↔ lp_ok h c w s := by
  unfold lp_okb lp_ok
  simp only [Bool.and_eq_true, Bool.not_eq_true', decide_eq_false_iff_not, decide_eq_true_eq, List.all_eq_true, List.mem_range]
  refine and_congr_right fun _ => and_congr_right fun _ => and_congr_right fun _ => ⟨fun a v hv z => ?_, fun a v hv => ?_⟩
  · have := a v hv
    rw [lp_cfb_iff.mpr z] at this
    cases this
  · cases e : lp_cfb h c w s v with
    | false => rfl
    | true => exact absurd (lp_cfb_iff.mp e) (a v hv)
abbrev lp_A : Type := Int32 × (Nat → Int32)
def lp_L (G : Int32 → (Nat → Int32) → lp_A → lp_A) (ok : Nat → Bool) (val : Nat → Int32) (w : Nat) (ws : Int32) (c : Nat → Int32) : Nat → Nat → lp_A → lp_A
  | 0, _, a => G ws (upd c w (-4)) a
  | n + 1, i, a => lp_L G ok val w ws c n (i + 1) (if ok i then G (ws + val i) (upd c w (nI i)) a else a)
def lp_B (nS : Nat) (ok : (Nat → Int32) → Nat → Nat → Bool) (val : Nat → Int32) : Nat → Nat → Int32 → (Nat → Int32) → lp_A → lp_A
  | 0, _, ws, c, a => if a.1 < ws then (ws, c) else a
  | d + 1, w, ws, c, a => lp_L (lp_B nS ok val d (w + 1)) (fun s => ok c w s) val w ws c nS 0 a
def lh_hm (h : lh_HS) : lh_HS := fun i => if 2 ≤ i ∧ i ≤ 26 then h i else fun _ => 0
def lp_SP0 (h : lh_HS) : lp_A := lp_B (lh_N h 3) (lp_okb h) (h 11) (lh_N h 6) 0 0 (fun _ => -4) (-1, fun _ => 0)
def lp_SP (h : lh_HS) : lp_A := lp_SP0 (lh_hm h)
theorem lh_hm_fr {h h' : lh_HS} (f : lh_fr h h') : lh_hm h' = lh_hm h := by
  funext i
  unfold lh_hm
  by_cases c : 2 ≤ i ∧ i ≤ 26
  · rw [if_pos c, if_pos c, f i c.1 c.2]
  · rw [if_neg c, if_neg c]
theorem lp_SP_fr {h h' : lh_HS} (f : lh_fr h h') : lp_SP h' = lp_SP h := by unfold lp_SP; rw [lh_hm_fr f]
theorem lp_lt_fr {h h' : lh_HS} (f : lh_fr h h') (w : Nat) : lp_lt h' w = lp_lt h w := by
  unfold lp_lt fX4_lightEnd
  rw [f 24 (by decide) (by decide), f 25 (by decide) (by decide), f 8 (by decide) (by decide), f 7 (by decide) (by decide)]
/-- what the class knows of THE HANG is right, as long as it is known -/
def lh_CV (h : lh_HS) : Prop := h 30 2 = 0 ∨ (h 30 2 = 1 ∧ h 30 4 = (lp_SP h).1 ∧ ∀ w, w < lh_N h 6 → h 31 w = (lp_SP h).2 w ∧ h 34 w = lp_lt h w)
theorem lh_CV.fr {h h' : lh_HS} (C : lh_CV h) (f : lh_fr h h') (e0 : h' 30 = h 30) (e1 : h' 31 = h 31) (e4 : h' 34 = h 34) : lh_CV h' := by
  unfold lh_CV
  rw [e0, e1, e4, lp_SP_fr f, f.N (c := 6) (by decide) (by decide)]
  simp only [lp_lt_fr f]
  exact C
def lh_INV (k : Bool) (h : lh_HS) : Prop := lh_I h ∧ lh_Zc h 20 ∧ (k = true → lh_Zc h 69) ∧ lh_RM h ∧ lh_ST h ∧ lh_CV h ∧ h 37 8 = cond k 1 0 ∧ (k = true → lh_I (lh_kv h) ∧ lh_RM (lh_kv h))
theorem lh_INV.J {k : Bool} {h : lh_HS} (L : lh_INV k h) : lh_J h := lh_J_of L.1 L.2.2.2.1 L.2.2.2.2.1
