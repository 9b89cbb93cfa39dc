/-! THE HANG, as the reference finds it: what fits -/
def lr_n (h : lh_HS) (x : Int32) : Int32 := if x = -4 then h 3 0 else x
def lr_v (h : lh_HS) (x : Int32) : Prop := x = -4 ∨ lh_ix x (lh_N h 3)
theorem lr_n4 {h : lh_HS} (I : lh_I h) : lr_n h (-4) = nI (lh_N h 3) := by
  unfold lr_n
  rw [if_pos rfl]
  exact I.1.2.1.1
theorem lr_nn {h : lh_HS} {x : Int32} (e : ¬ x = -4) : lr_n h x = x := by
  unfold lr_n
  rw [if_neg e]
theorem lr_n_s {h : lh_HS} (I : lh_I h) {x : Int32} {s : Nat} (hs : s < lh_N h 3) : lr_n h x = nI s ↔ x = nI s := by
  have hS := I.1.2.1.2
  by_cases e : x = -4
  · rw [e, lr_n4 I, nI_eq (by omega) (by omega)]
    exact ⟨fun z => by omega, fun z => absurd z (lp_ne4 (by omega))⟩
  · rw [lr_nn e]
theorem lr_m1 {t : Nat} (ht : t < 100) : ¬ nI t = -1 := by
  rw [← Int32.toInt_inj, nI_toInt (by omega), show (-1 : Int32).toInt = -1 from by decide]
  omega
theorem lr_n_si {h : lh_HS} (I : lh_I h) {x : Int32} (v : lr_v h x) {s : Nat} (hs : s < lh_N h 3) : lr_n h x = lh_n4 (h 13 s) ↔ (¬ x = -4 ∧ x = h 13 s) := by
  have hS := I.1.2.1.2
  have q := (I.2.2.1 s hs).2.2.2.2.1
  by_cases e : x = -4
  · rw [e, lr_n4 I]
    refine ⟨fun z => ?_, fun z => absurd rfl z.1⟩
    exfalso
    rcases q with q | q
    · rw [q, lh_n4_neg] at z
      exact lr_m1 (by omega) z
    · rw [lh_n4_ix (by omega) q] at z
      obtain ⟨t, ht, et⟩ := q
      rw [et, nI_eq (by omega) (by omega)] at z
      omega
  · rw [lr_nn e]
    rcases q with q | q
    · rw [q, lh_n4_neg]
      refine ⟨fun z => ?_, fun z => absurd z.2 e⟩
      rcases v with v | ⟨t, ht, et⟩
      · exact absurd v e
      · rw [et] at z
        exact absurd z (lr_m1 (by omega))
    · rw [lh_n4_ix (by omega) q]
      exact ⟨fun z => ⟨e, z⟩, fun z => z.2⟩
theorem lr_w {h : lh_HS} (I : lh_I h) {j : Nat} (hj : j < lh_N h 6) : (3 * nI j).toNatClampNeg = 3 * j ∧ (3 * nI j + 1).toNatClampNeg = 3 * j + 1 ∧ (3 * nI j + 2).toNatClampNeg = 3 * j + 2 ∧ (nI j).toNatClampNeg = j := by
  have hN := I.1.2.2.2.2.2
  exact ⟨lh_at0 (k := 3) (by omega), lh_at (k := 3) (c := 1) (by omega), lh_at (k := 3) (c := 2) (by omega), nI_clamp (by omega)⟩
theorem lr_wl {h g : lh_HS} (I : lh_I h) (R : lh_RM h) (f : lh_fm h g) {w : Nat} (hw : w < lh_N h 6) : g 44 (3 * w) = h 24 w ∧ g 44 (3 * w + 1) = h 25 w ∧ g 44 (3 * w + 2) = h 26 w ∧ fX9_lightOf g (h 24 w) (h 25 w) 1 = lp_lt h w := by
  obtain ⟨r0, r1, r2⟩ := R.2.2.2.2.2 w hw
  obtain ⟨i0, i1, -⟩ := I.2.2.2.2.2 w hw
  rw [f 44 (by decide) (by decide)]
  refine ⟨r0, r1, r2, ?_⟩
  have e : fX9_lightOf g (h 24 w) (h 25 w) 1 = fX9_lightOf h (h 24 w) (h 25 w) 1 := by
    unfold fX9_lightOf
    rw [f 40 (by decide) (by decide), f 39 (by decide) (by decide)]
  rw [e, lh_lightE I R i0 i1]
  rfl
theorem lr_f0 (g : lh_HS) (wl sv yr si : Int32) (n i : Nat) (li : Int32) : LX9_fits g wl sv yr si n i 0 li = 0 := by
  cases n with
  | zero => unfold LX9_fits; rw [if_pos rfl]
  | succ n => unfold LX9_fits; rw [if_pos rfl]
theorem lr_fL {h g : lh_HS} (I : lh_I h) (R : lh_RM h) (f : lh_fm h g) {w s : Nat} {c : Nat → Int32} (hw : w < lh_N h 6) (hs : s < lh_N h 3) (hv : ∀ v, v < w → lr_v h (c v)) (hc : ∀ v, v < w → g 47 v = lr_n h (c v)) (h49 : g 49 s = lp_lf h s) : ∀ (n i : Nat) (gd li : Int32), i + n = w → li.toInt = (lp_lt h w).toInt + (lp_lf h s).toInt - (lp_sp h c s i).toInt → (¬ LX9_fits g (nI w) (nI s) (h 25 w) (lh_n4 (h 13 s)) n i gd li = 0 ↔ ¬ gd = 0 ∧ lp_lt h w ≤ lp_sp h c s w ∧ ∀ v, i ≤ v → v < w → ¬ lp_cf h c w s v) := by
  have hW := I.1.2.2.2.2.2
  have hS := I.1.2.1.2
  have y1 := (I.2.2.2.2.2 w hw).2.1
  have s3 := (R.2.2.1 s hs).2.2.2.1
  have bw := lp_lt_b I hw
  have bf := lp_lf_b I hs
  intro n
  induction n with
  | zero =>
    intro i gd li hi hl
    unfold LX9_fits
    rw [nI_clamp (n := s) (by omega), h49]
    have e : i = w := by omega
    rw [e] at hl
    by_cases g0 : gd = 0
    · rw [if_pos g0]
      exact ⟨fun x => absurd rfl x, fun x => absurd g0 x.1⟩
    · rw [if_neg g0]
      by_cases l : lp_lf h s < li
      · rw [if_pos l]
        refine ⟨fun x => absurd rfl x, fun x => absurd x.2.1 ?_⟩
        rw [Int32.le_iff_toInt_le]
        rw [Int32.lt_iff_toInt_lt] at l
        omega
      · rw [if_neg l]
        refine ⟨fun _ => ⟨g0, ?_, fun v h1 h2 => by omega⟩, fun _ => by decide⟩
        rw [Int32.le_iff_toInt_le]
        rw [Int32.lt_iff_toInt_lt] at l
        omega
  | succ n ih =>
    intro i gd li hi hl
    obtain ⟨t0, t1, -, t3⟩ := lr_w I (j := i) (by omega)
    obtain ⟨u0, u1, -, u3⟩ := lr_wl I R f (w := i) (by omega)
    have x1 := (I.2.2.2.2.2 i (by omega)).2.1
    have b1 := lp_lt_b I (w := i) (by omega)
    have b2 := lp_sp_b I hs c i (by omega)
    have aw : lp_aw (h 25 i) (h 25 w) = fX9_away g (h 25 i) (h 25 w) := (lh_awE x1 y1 g).1
    have aw0 := (lh_awE x1 y1 g).2.2
    have el : (li + lp_lt h i).toInt = li.toInt + (lp_lt h i).toInt := by
      rw [Int32.toInt_add]
      exact Int.bmod_eq_of_le (by omega) (by omega)
    have es : (lp_sp h c s i - lp_lt h i).toInt = (lp_sp h c s i).toInt - (lp_lt h i).toInt := by
      rw [Int32.toInt_sub]
      exact Int.bmod_eq_of_le (by omega) (by omega)
    have n1 := lr_n_s I (x := c i) hs
    have n2 := lr_n_si I (hv i (by omega)) hs
    have ihA : c i = nI s → ∀ gd, (¬ LX9_fits g (nI w) (nI s) (h 25 w) (lh_n4 (h 13 s)) n (i + 1) gd (li + lp_lt h i) = 0 ↔ ¬ gd = 0 ∧ lp_lt h w ≤ lp_sp h c s w ∧ ∀ v, i + 1 ≤ v → v < w → ¬ lp_cf h c w s v) := fun e gd => ih (i + 1) gd (li + lp_lt h i) (by omega) (by simp only [lp_sp]; rw [if_pos e, el, es]; omega)
    have ihB : ¬ c i = nI s → ∀ gd, (¬ LX9_fits g (nI w) (nI s) (h 25 w) (lh_n4 (h 13 s)) n (i + 1) gd li = 0 ↔ ¬ gd = 0 ∧ lp_lt h w ≤ lp_sp h c s w ∧ ∀ v, i + 1 ≤ v → v < w → ¬ lp_cf h c w s v) := fun e gd => ih (i + 1) gd li (by omega) (by simp only [lp_sp]; rw [if_neg e]; exact hl)
    have z0 := lr_f0 g (nI w) (nI s) (h 25 w) (lh_n4 (h 13 s)) n (i + 1)
    unfold LX9_fits
    rw [t0, t1, t3, u0, u1, u3, (lh_st I hs).2.2.2.1, f 41 (by decide) (by decide), s3, hc i (by omega)]
    generalize LX9_fits g (nI w) (nI s) (h 25 w) (lh_n4 (h 13 s)) n (i + 1) = F at ihA ihB z0 ⊢
    by_cases g0 : gd = 0
    · rw [if_pos g0]
      exact ⟨fun x => absurd rfl x, fun x => absurd g0 x.1⟩
    rw [if_neg g0]
    have rest : ∀ X : Int32, ¬ lp_cf h c w s i → (¬ X = 0 ↔ ¬ (1 : Int32) = 0 ∧ lp_lt h w ≤ lp_sp h c s w ∧ ∀ v, i + 1 ≤ v → v < w → ¬ lp_cf h c w s v) → (¬ X = 0 ↔ ¬ gd = 0 ∧ lp_lt h w ≤ lp_sp h c s w ∧ ∀ v, i ≤ v → v < w → ¬ lp_cf h c w s v) := by
      intro X z q
      rw [q]
      refine ⟨fun x => ⟨g0, x.2.1, fun v h1 h2 => ?_⟩, fun x => ⟨by decide, x.2.1, fun v h1 h2 => x.2.2 v (by omega) h2⟩⟩
      by_cases e : v = i
      · rw [e]; exact z
      · exact x.2.2 v (by omega) h2
    have bad : lp_cf h c w s i → ((¬ (0 : Int32) = 0) ↔ ¬ gd = 0 ∧ lp_lt h w ≤ lp_sp h c s w ∧ ∀ v, i ≤ v → v < w → ¬ lp_cf h c w s v) := fun z => ⟨fun x => absurd rfl x, fun x => absurd z (x.2.2 i (by omega) (by omega))⟩
    have cfE : lp_cf h c w s i ↔ (c i = nI s ∧ ¬ h 12 s < fX9_away g (h 25 i) (h 25 w)) ∨ (lr_n h (c i) = lh_n4 (h 13 s) ∧ h 25 i = h 25 w) := by
      unfold lp_cf
      rw [aw, n2, aw0, and_assoc]
    have nle : ∀ A : Int32, A ≤ h 12 s ↔ ¬ h 12 s < A := fun A => by rw [Int32.lt_iff_toInt_lt, Int32.le_iff_toInt_le]; omega
    by_cases p1 : c i = nI s
    · rw [if_pos (n1.mpr p1)]
      by_cases p2 : fX9_away g (h 25 i) (h 25 w) ≤ h 12 s
      · rw [if_pos p2, z0]
        exact bad (cfE.mpr (Or.inl ⟨p1, (nle _).mp p2⟩))
      · rw [if_neg p2]
        by_cases p3 : lr_n h (c i) = lh_n4 (h 13 s)
        · rw [if_pos p3]
          by_cases p4 : h 25 i = h 25 w
          · rw [if_pos p4, z0]
            exact bad (cfE.mpr (Or.inr ⟨p3, p4⟩))
          · rw [if_neg p4]
            exact rest _ (fun z => (cfE.mp z).elim (fun x => p2 ((nle _).mpr x.2)) (fun x => p4 x.2)) (ihA p1 1)
        · rw [if_neg p3]
          exact rest _ (fun z => (cfE.mp z).elim (fun x => p2 ((nle _).mpr x.2)) (fun x => p3 x.1)) (ihA p1 1)
    · rw [if_neg (fun x => p1 (n1.mp x))]
      by_cases p3 : lr_n h (c i) = lh_n4 (h 13 s)
      · rw [if_pos p3]
        by_cases p4 : h 25 i = h 25 w
        · rw [if_pos p4, z0]
          exact bad (cfE.mpr (Or.inr ⟨p3, p4⟩))
        · rw [if_neg p4]
          exact rest _ (fun z => (cfE.mp z).elim (fun x => p1 x.1) (fun x => p4 x.2)) (ihB p1 1)
      · rw [if_neg p3]
        exact rest _ (fun z => (cfE.mp z).elim (fun x => p1 x.1) (fun x => p3 x.1)) (ihB p1 1)
theorem lr_restL {h : lh_HS} (I : lh_I h) (R : lh_RM h) {s : Nat} (hs : s < lh_N h 3) {y : Int32} (hy : lh_ix y 10) : ∀ n i, i + n ≤ lh_N h 4 → LX9_rests h (nI s) y n i 0 = 0 ∧ LX9_rests h (nI s) y n i 1 = (if LX0_shownWithin h (nI s) y (h 12 s) n i = 0 then 1 else 0) := by
  have s3 := (R.2.2.1 s hs).2.2.2.1
  intro n
  induction n with
  | zero => intro i hi; exact ⟨rfl, rfl⟩
  | succ n ih =>
    intro i hi
    have hj : i < lh_N h 4 := by omega
    obtain ⟨p0, p1, p2, p3, p4, p5⟩ := lh_bk I R hj
    obtain ⟨r0, r1, r2, r3, r4⟩ := R.2.2.2.1 i hj
    obtain ⟨b0, b1, b2, b3, b4⟩ := I.2.2.2.1 i hj
    have hN := I.1.1.2
    obtain ⟨m1, m2⟩ := lh_n4_ge (by omega) b1
    obtain ⟨i0, i1⟩ := ih (i + 1) (by omega)
    have aw : (if 0 ≤ h 18 i - y then h 18 i - y else 0 - (h 18 i - y)) = fX9_away h (h 18 i) y := (lh_awE b2 hy h).1
    unfold LX9_rests LX0_shownWithin
    rw [lh_hereE I R hj, p1, p2, p5, r1, r2, (lh_st I hs).2.2.2.1, s3, aw, i0, i1]
    generalize LX0_shownWithin h (nI s) y (h 12 s) n (i + 1) = F
    unfold fX0_isLoan
    rw [p5]
    have e10 : ¬ (1 : Int32) = 0 := by decide
    refine ⟨?_, ?_⟩
    · rw [if_pos rfl, if_pos rfl, ite_self, ite_self]
    · rw [if_neg e10, if_neg e10]
      by_cases c1 : fX0_standsFor h (nI i) (nI s) = 0
      · rw [if_pos c1, if_pos c1]
      rw [if_neg c1, if_neg c1]
      by_cases c2 : h 17 i = -4
      · rw [if_pos ((lh_ltz _).mpr (fun z => (m1.mp z) c2)), if_pos c2, if_neg e10]
      · rw [if_neg (fun z => (lh_ltz _).mp z (m1.mpr c2)), if_neg c2, if_pos rfl]
        by_cases c3 : h 12 s < fX9_away h (h 18 i) y
        · rw [if_pos c3, if_neg (fun z => by rw [Int32.lt_iff_toInt_lt] at c3; rw [Int32.le_iff_toInt_le] at z; omega)]
        · rw [if_neg c3, if_pos (by rw [Int32.lt_iff_toInt_lt] at c3; rw [Int32.le_iff_toInt_le]; omega), if_neg e10]
theorem lr_restf {h g : lh_HS} (f : lh_fm h g) (s y : Int32) : ∀ n i a, LX9_rests g s y n i a = LX9_rests h s y n i a := by
  intro n
  induction n with
  | zero => intro i a; rfl
  | succ n ih =>
    intro i a
    have eH : fX9_isHere g (nI i) s = fX9_isHere h (nI i) s := by unfold fX9_isHere; rw [f 42 (by decide) (by decide)]
    have eA : ∀ a b, fX9_away g a b = fX9_away h a b := fun _ _ => rfl
    unfold LX9_rests
    rw [eH, f 42 (by decide) (by decide), f 41 (by decide) (by decide), eA, ih (i + 1) 0, ih (i + 1) 1]
theorem lr_rest {h g : lh_HS} (I : lh_I h) (R : lh_RM h) (f : lh_fm h g) {s : Nat} (hs : s < lh_N h 3) {y : Int32} (hy : lh_ix y 10) : fX9_rests g (nI s) y = (if fX0_shownWithin h (nI s) y (h 12 s) = 0 then 1 else 0) := by
  unfold fX9_rests fX0_shownWithin
  rw [f.m, lr_restf f, R.m.2.2.1]
  exact (lr_restL I R hs hy _ 0 (by omega)).2
theorem lr_fitE {h g : lh_HS} (I : lh_I h) (R : lh_RM h) (f : lh_fm h g) {w s : Nat} {c : Nat → Int32} (hw : w < lh_N h 6) (hs : s < lh_N h 3) (hv : ∀ v, v < w → lr_v h (c v)) (hc : ∀ v, v < w → g 47 v = lr_n h (c v)) (h47 : g 47 w = nI s) (h49 : g 49 s = lp_lf h s) : ¬ fX9_fits g (nI w) = 0 ↔ lp_okb h c w s = true := by
  have hW := I.1.2.2.2.2.2
  have hS := I.1.2.1.2
  have y1 := (I.2.2.2.2.2 w hw).2.1
  obtain ⟨q0, q1, q2, q3, q4, q5, q6⟩ := R.2.2.1 s hs
  obtain ⟨t0, t1, t2, t3⟩ := lr_w I hw
  obtain ⟨u0, u1, u2, u3⟩ := lr_wl I R f hw
  have ls := lh_st I hs
  have l1 := lr_fL I R f hw hs hv hc h49 w 0 1 (lp_lt h w) (by omega) (by show _ = _ + _ - (lp_lf h s).toInt; omega)
  have z0 := lr_f0 g (nI w) (nI s) (h 25 w) (lh_n4 (h 13 s)) w 0 (lp_lt h w)
  have e38 : g 38 1 = nI (lh_N h 3) := by rw [f 38 (by decide) (by decide), R.1.2.1]; exact I.1.2.1.1
  have hsi := (I.2.2.1 s hs).2.2.2.2.1
  have m := lh_n4_ge (by omega) hsi
  rw [lp_okb_iff]
  unfold lp_ok fX1_shownTooNear fX5_hasTheme
  unfold fX9_fits fX9_sisterOf
  rw [t3, h47, ls.2.1, ls.2.2.2.2.1, t0, t1, t2, u0, u1, u2, u3, e38, f 41 (by decide) (by decide), q1, q4, lr_rest I R f hs y1, lh_isShown_fm f, lh_shownE I R _ y1, nI_clamp (n := s) (by omega)]
  rw [if_neg (show ¬ nI s = nI (lh_N h 3) from fun x => by rw [nI_eq (by omega) (by omega)] at x; omega)]
  generalize LX9_fits g (nI w) (nI s) (h 25 w) (lh_n4 (h 13 s)) w 0 = F at l1 z0 ⊢
  rw [z0]
  have e10 : ¬ (1 : Int32) = 0 := by decide
  by_cases th : (h 10 s >>> (h 26 w &&& 31)) &&& 1 = 1
  · rw [if_pos th, if_pos th]
    by_cases c1 : fX0_shownWithin h (nI s) (h 25 w) (h 12 s) = 0
    · rw [if_pos c1, if_pos c1, if_neg e10]
      by_cases c2 : h 13 s = -4
      · rw [if_pos ((lh_ltz _).mpr (fun z => (m.1.mp z) c2)), if_pos c2, l1]
        exact ⟨fun x => ⟨e10, rfl, x.2.1, fun v hv => x.2.2 v (by omega) hv⟩, fun x => ⟨e10, x.2.2.1, fun v _ hv => x.2.2.2 v hv⟩⟩
      · rw [if_neg (fun z => (lh_ltz _).mp z (m.1.mpr c2)), if_neg c2, m.2 c2]
        by_cases c3 : fX0_shownWithin h (h 13 s) (h 25 w) 0 = 0
        · rw [if_pos c3, if_pos c3]
          rw [l1]
          exact ⟨fun x => ⟨e10, rfl, x.2.1, fun v hv => x.2.2 v (by omega) hv⟩, fun x => ⟨e10, x.2.2.1, fun v _ hv => x.2.2.2 v hv⟩⟩
        · rw [if_neg c3, if_neg c3]
          exact ⟨fun x => absurd rfl x, fun x => absurd x.2.1 e10⟩
    · rw [if_neg c1, if_neg c1, if_pos rfl]
      exact ⟨fun x => absurd rfl x, fun x => absurd x.2.1 e10⟩
  · rw [if_neg th, if_neg th]
    exact ⟨fun x => absurd rfl x, fun x => absurd rfl x.1⟩
