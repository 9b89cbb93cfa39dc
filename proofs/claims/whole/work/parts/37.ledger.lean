/-! THE LEDGER: sums, and the past narrowed -/
def lb_tm (h : lh_HS) (s g : Int32) (P : Nat → Bool) (i : Nat) : Int32 := if fX0_standsFor h (nI i) s = 0 then 0 else if P (h 18 i).toNatClampNeg = true then fX2_spendEnd h (nI i) g else 0
def lb_S (h : lh_HS) (s g : Int32) (P : Nat → Bool) : Nat → Nat → Int32
  | 0, _ => 0
  | n + 1, i => lb_tm h s g P i + lb_S h s g P n (i + 1)
abbrev lb_E (y : Nat) : Nat → Bool := fun z => decide (z = y)
abbrev lb_U (y : Nat) : Nat → Bool := fun z => decide (z ≤ y)
theorem lb_split (h : lh_HS) (s g : Int32) (y : Nat) : ∀ n i, lb_S h s g (lb_U (y + 1)) n i = lb_S h s g (lb_E (y + 1)) n i + lb_S h s g (lb_U y) n i := by
  intro n
  induction n with
  | zero => intro i; simp only [lb_S]; rfl
  | succ n ih =>
    intro i
    have e : lb_tm h s g (lb_U (y + 1)) i = lb_tm h s g (lb_E (y + 1)) i + lb_tm h s g (lb_U y) i := by
      unfold lb_tm
      by_cases c : fX0_standsFor h (nI i) s = 0
      · rw [if_pos c, if_pos c, if_pos c]; rfl
      · rw [if_neg c, if_neg c, if_neg c]
        simp only [decide_eq_true_eq]
        by_cases c1 : (h 18 i).toNatClampNeg ≤ y
        · rw [if_pos (show (h 18 i).toNatClampNeg ≤ y + 1 by omega), if_neg (show ¬ (h 18 i).toNatClampNeg = y + 1 by omega), if_pos c1, Int32.zero_add]
        · by_cases c2 : (h 18 i).toNatClampNeg = y + 1
          · rw [if_pos (show (h 18 i).toNatClampNeg ≤ y + 1 by omega), if_pos c2, if_neg c1, Int32.add_zero]
          · rw [if_neg (show ¬ (h 18 i).toNatClampNeg ≤ y + 1 by omega), if_neg c2, if_neg c1]; rfl
    simp only [lb_S]
    rw [e, ih]
    ac_rfl
theorem lb_zero (h : lh_HS) (s g : Int32) (n i : Nat) : lb_S h s g (lb_U 0) n i = lb_S h s g (lb_E 0) n i := by
  rw [show lb_U 0 = lb_E 0 from by funext z; simp [lb_U, lb_E]]
theorem lb_sp_fr {h h' : lh_HS} (f : lh_fr h h') (b g : Int32) : fX2_spendEnd h' b g = fX2_spendEnd h b g := by
  unfold fX2_spendEnd fX0_isLoan fX4_lightEnd
  rw [f 17 (by decide) (by decide), f 18 (by decide) (by decide), f 19 (by decide) (by decide), f 7 (by decide) (by decide), f 8 (by decide) (by decide)]
theorem lb_sf_fr {h h' : lh_HS} (f : lh_fr h h') (b s : Int32) : fX0_standsFor h' b s = fX0_standsFor h b s := by
  unfold fX0_standsFor
  rw [f 16 (by decide) (by decide), f 20 (by decide) (by decide)]
theorem lb_S_fr {h h' : lh_HS} (f : lh_fr h h') (s g : Int32) (P : Nat → Bool) : ∀ n i, lb_S h' s g P n i = lb_S h s g P n i := by
  intro n
  induction n with
  | zero => intro i; rfl
  | succ n ih =>
    intro i
    simp only [lb_S]
    rw [ih, show lb_tm h' s g P i = lb_tm h s g P i from by unfold lb_tm; rw [lb_sf_fr f, lb_sp_fr f, f 18 (by decide) (by decide)]]
theorem lh_rr {h h' : lh_HS} (e : ∀ q, q ≠ 28 → q ≠ 29 → h' q = h q) (A B : Nat → Int32) : lh_row (lh_row h' 28 A) 29 B = lh_row (lh_row h 28 A) 29 B := by
  funext q
  by_cases c9 : q = 29
  · rw [c9, lh_row_eq, lh_row_eq]
  · rw [lh_row_ne c9, lh_row_ne c9]
    by_cases c8 : q = 28
    · rw [c8, lh_row_eq, lh_row_eq]
    · rw [lh_row_ne c8, lh_row_ne c8, e q c8 c9]
theorem lb_sum2 (s : Int32) : ∀ (n i : Nat) (h : lh_HS), h 27 1 = s → i + n ≤ 30 → LX3_sum2_h n i h = LX3_sum3_h 9 1 (lh_row (lh_row h 28 (fun y => h 28 y + lb_S h s 0 (lb_E y) n i)) 29 (fun y => h 29 y + lb_S h s 1 (lb_E y) n i)) := by
  intro n
  induction n with
  | zero =>
    intro i h e hi
    simp only [LX3_sum2_h, lb_S, Int32.add_zero]
    congr 1
    rw [show lh_row h 28 (h 28) = h from lh_row_id h 28, lh_row_id]
  | succ n ih =>
    intro i h e hi
    have ci : (nI i).toNatClampNeg = i := nI_clamp (by omega)
    simp only [LX3_sum2_h]
    rw [e, ci]
    by_cases c : fX0_standsFor h (nI i) s = 0
    · rw [if_pos c, ih (i + 1) h e (by omega)]
      have z : ∀ g y, lb_S h s g (lb_E y) (n + 1) i = lb_S h s g (lb_E y) n (i + 1) := fun g y => by
        simp only [lb_S, lb_tm]
        rw [if_pos c, Int32.zero_add]
      simp only [z]
    · rw [if_neg c]
      generalize hX : (h 18 i).toNatClampNeg = X
      have f1 : lh_fr h (lh_up h 28 X (h 28 X + fX2_spendEnd h (nI i) 0)) := (lh_fr.rf h).up (by decide)
      rw [lb_sp_fr f1]
      generalize hg : lh_up (lh_up h 28 X (h 28 X + fX2_spendEnd h (nI i) 0)) 29 X (h 29 X + fX2_spendEnd h (nI i) 1) = h'
      have f2 : lh_fr h h' := by rw [← hg]; exact f1.up (by decide)
      have e8 : h' 28 = upd (h 28) X (h 28 X + fX2_spendEnd h (nI i) 0) := by rw [← hg]; rfl
      have e9 : h' 29 = upd (h 29) X (h 29 X + fX2_spendEnd h (nI i) 1) := by rw [← hg]; rfl
      rw [ih (i + 1) h' (by rw [← hg]; exact e) (by omega)]
      rw [lh_rr (h := h) (h' := h') (fun q c8 c9 => by rw [← hg, lh_up_r, if_neg c9, lh_up_r, if_neg c8])]
      have key : ∀ (a g : Int32) (f : Nat → Int32), (fun y => upd f X (f X + fX2_spendEnd h (nI i) g) y + lb_S h' s g (lb_E y) n (i + 1)) = (fun y => f y + lb_S h s g (lb_E y) (n + 1) i) := fun a g f => by
        funext y
        rw [lb_S_fr f2]
        simp only [lb_S, lb_tm]
        rw [if_neg c, hX]
        by_cases cy : y = X
        · rw [cy, lh_ue, if_pos (by simp [lb_E]), Int32.add_assoc]
        · rw [lh_un cy, if_neg (by simp [lb_E]; omega), Int32.zero_add]
      rw [e8, e9, key 0 0 (h 28), key 0 1 (h 29)]
def lb_z (p n : Nat) (f : Nat → Int32) : Nat → Int32 := fun z => if p ≤ z ∧ z < p + n then 0 else f z
theorem lb_z0 (p : Nat) (f : Nat → Int32) : lb_z p 0 f = f := by
  funext z; unfold lb_z; rw [if_neg (by omega)]
theorem lb_zS (p n : Nat) (f : Nat → Int32) : lb_z (p + 1) n (upd f p 0) = lb_z p (n + 1) f := by
  funext z
  unfold lb_z
  by_cases c : p + 1 ≤ z ∧ z < p + 1 + n
  · rw [if_pos c, if_pos (by omega)]
  · rw [if_neg c]
    by_cases e : z = p
    · rw [e, lh_ue, if_pos (by omega)]
    · rw [lh_un e, if_neg (by omega)]
theorem lb_sum1 : ∀ (n i : Nat) (h : lh_HS), i + n ≤ 10 → LX3_sum1_h n i h = LX3_sum2_h (lh_N h 4) 0 (lh_row (lh_row h 28 (lb_z i n (h 28))) 29 (lb_z i n (h 29))) := by
  intro n
  induction n with
  | zero =>
    intro i h hi
    simp only [LX3_sum1_h]
    rw [lb_z0, lb_z0, show lh_row h 28 (h 28) = h from lh_row_id h 28, lh_row_id]
  | succ n ih =>
    intro i h hi
    have ci : (nI i).toNatClampNeg = i := nI_clamp (by omega)
    simp only [LX3_sum1_h]
    rw [ci, ih (i + 1) _ (by omega), show lh_up (lh_up h 28 i 0) 29 i 0 28 = upd (h 28) i 0 from rfl, show lh_up (lh_up h 28 i 0) 29 i 0 29 = upd (h 29) i 0 from rfl, lb_zS, lb_zS, show lh_N (lh_up (lh_up h 28 i 0) 29 i 0) 4 = lh_N h 4 from rfl]
    rw [lh_rr (h := h) (fun q c8 c9 => by rw [lh_up_r, if_neg c9, lh_up_r, if_neg c8])]
theorem lb_sum3 {A0 A1 f0 f1 : Nat → Int32} (s0 : ∀ y, A0 (y + 1) = f0 (y + 1) + A0 y) (s1 : ∀ y, A1 (y + 1) = f1 (y + 1) + A1 y) : ∀ (n i : Nat) (h : lh_HS), i + 1 + n ≤ 10 → (∀ y, y < i + 1 → h 28 y = A0 y ∧ h 29 y = A1 y) → (∀ y, i + 1 ≤ y → y < i + 1 + n → h 28 y = f0 y ∧ h 29 y = f1 y) → ∀ y, y < i + 1 + n → LX3_sum3_h n (i + 1) h 28 y = A0 y ∧ LX3_sum3_h n (i + 1) h 29 y = A1 y := by
  intro n
  induction n with
  | zero => intro i h hi h1 h2 y hy; exact h1 y hy
  | succ n ih =>
    intro i h hi h1 h2 y hy
    have ci : (nI (i + 1)).toNatClampNeg = i + 1 := nI_clamp (by omega)
    have cm : (nI (i + 1) - 1).toNatClampNeg = i := by rw [← nI_1, show nI i + 1 - 1 = nI i from by simp, nI_clamp (by omega)]
    simp only [LX3_sum3_h]
    rw [ci, cm]
    obtain ⟨a8, a9⟩ := h2 (i + 1) (by omega) (by omega)
    obtain ⟨b8, b9⟩ := h1 i (by omega)
    rw [a8, a9, b8, b9, ← s0, ← s1]
    refine ih (i + 1) _ (by omega) (fun z hz => ?_) (fun z hz hz2 => ?_) y (by omega)
    · show upd (h 28) (i + 1) (A0 (i + 1)) z = A0 z ∧ upd (h 29) (i + 1) (A1 (i + 1)) z = A1 z
      by_cases e : z = i + 1
      · rw [e, lh_ue, lh_ue]; exact ⟨rfl, rfl⟩
      · rw [lh_un e, lh_un e]; exact h1 z (by omega)
    · show upd (h 28) (i + 1) (A0 (i + 1)) z = f0 z ∧ upd (h 29) (i + 1) (A1 (i + 1)) z = f1 z
      rw [lh_un (by omega), lh_un (by omega)]
      exact h2 z (by omega) (by omega)
theorem lb_sums {h : lh_HS} (hN : lh_N h 4 ≤ 30) {s : Int32} (hs : h 27 1 = s) {y : Nat} (hy : y < 10) : gX3_sumSpends h 28 y = lb_S h s 0 (lb_U y) (lh_N h 4) 0 ∧ gX3_sumSpends h 29 y = lb_S h s 1 (lb_U y) (lh_N h 4) 0 := by
  unfold gX3_sumSpends
  rw [lb_sum1 10 0 h (by omega)]
  generalize hg : lh_row (lh_row h 28 (lb_z 0 10 (h 28))) 29 (lb_z 0 10 (h 29)) = g
  have fg : lh_fr h g := by rw [← hg]; exact ((lh_fr.rf h).row (by decide)).row (by decide)
  have e8 : ∀ z, z < 10 → g 28 z = 0 := fun z hz => by rw [← hg]; show lb_z 0 10 (h 28) z = 0; unfold lb_z; rw [if_pos (by omega)]
  have e9 : ∀ z, z < 10 → g 29 z = 0 := fun z hz => by rw [← hg]; show lb_z 0 10 (h 29) z = 0; unfold lb_z; rw [if_pos (by omega)]
  rw [lb_sum2 s _ 0 g (by rw [← hg]; exact hs) (by omega)]
  refine lb_sum3 (A0 := fun y => lb_S h s 0 (lb_U y) (lh_N h 4) 0) (A1 := fun y => lb_S h s 1 (lb_U y) (lh_N h 4) 0) (f0 := fun y => lb_S h s 0 (lb_E y) (lh_N h 4) 0) (f1 := fun y => lb_S h s 1 (lb_E y) (lh_N h 4) 0) (fun y => lb_split h s 0 y _ _) (fun y => lb_split h s 1 y _ _) 9 0 _ (by omega) (fun z hz => ?_) (fun z hz hz2 => ?_) y (by omega)
  · have z0 : z = 0 := by omega
    subst z0
    show g 28 0 + lb_S g s 0 (lb_E 0) (lh_N h 4) 0 = _ ∧ g 29 0 + lb_S g s 1 (lb_E 0) (lh_N h 4) 0 = _
    rw [e8 0 (by omega), e9 0 (by omega), lb_S_fr fg, lb_S_fr fg, Int32.zero_add, Int32.zero_add]
    exact ⟨(lb_zero h s 0 _ _).symm, (lb_zero h s 1 _ _).symm⟩
  · show g 28 z + lb_S g s 0 (lb_E z) (lh_N h 4) 0 = _ ∧ g 29 z + lb_S g s 1 (lb_E z) (lh_N h 4) 0 = _
    rw [e8 z (by omega), e9 z (by omega), lb_S_fr fg, lb_S_fr fg, Int32.zero_add, Int32.zero_add]
    exact ⟨rfl, rfl⟩
