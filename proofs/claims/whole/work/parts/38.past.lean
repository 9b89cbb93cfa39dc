/-! THE PAST, narrowed by the threads -/
def lb_st (h : lh_HS) (s : Int32) (i : Nat) (p : Int32 × Int32) : Int32 × Int32 :=
  if h 21 i = s then ((if p.1 < lh_T (h 23 i).toNatClampNeg - lb_S h s 1 (lb_U (h 22 i).toNatClampNeg) (lh_N h 4) 0 then lh_T (h 23 i).toNatClampNeg - lb_S h s 1 (lb_U (h 22 i).toNatClampNeg) (lh_N h 4) 0 else p.1), (if lh_T (h 23 i + 1).toNatClampNeg - 1 - lb_S h s 0 (lb_U (h 22 i).toNatClampNeg) (lh_N h 4) 0 < p.2 then lh_T (h 23 i + 1).toNatClampNeg - 1 - lb_S h s 0 (lb_U (h 22 i).toNatClampNeg) (lh_N h 4) 0 else p.2)) else p
def lb_N (h : lh_HS) (s : Int32) : Nat → Nat → Int32 × Int32 → Int32 × Int32
  | 0, _, p => p
  | n + 1, i, p => lb_N h s n (i + 1) (lb_st h s i p)
def lb_P (h : lh_HS) (s : Int32) : Int32 × Int32 := lb_N h s (lh_N h 5) 0 (h 14 s.toNatClampNeg, h 15 s.toNatClampNeg)
def lb_q (h : lh_HS) (s : Int32) : Int32 := if (lb_P h s).1 ≤ (lb_P h s).2 then 0 else 1
def lb_le (h : lh_HS) (s : Int32) : Int32 := if (lb_P h s).1 ≤ (lb_P h s).2 then (lb_P h s).1 else h 14 s.toNatClampNeg
def lb_gr (h : lh_HS) (s : Int32) : Int32 := if (lb_P h s).1 ≤ (lb_P h s).2 then (lb_P h s).2 else h 15 s.toNatClampNeg
theorem lb_N_s (h : lh_HS) (s : Int32) (n i : Nat) (p : Int32 × Int32) : lb_N h s (n + 1) i p = lb_N h s n (i + 1) (lb_st h s i p) := rfl
theorem lb_N_z (h : lh_HS) (s : Int32) (i : Nat) (p : Int32 × Int32) : lb_N h s 0 i p = p := rfl
theorem lb_st_fr {h h' : lh_HS} (f : lh_fr h h') (s : Int32) (i : Nat) (p : Int32 × Int32) : lb_st h' s i p = lb_st h s i p := by
  unfold lb_st
  rw [f 21 (by decide) (by decide), f 22 (by decide) (by decide), f 23 (by decide) (by decide), f.N (c := 4) (by decide) (by decide), lb_S_fr f, lb_S_fr f]
theorem lb_N_fr {h h' : lh_HS} (f : lh_fr h h') (s : Int32) : ∀ n i p, lb_N h' s n i p = lb_N h s n i p := by
  intro n
  induction n with
  | zero => intro i p; rfl
  | succ n ih => intro i p; simp only [lb_N]; rw [ih, lb_st_fr f]
theorem lb_P_fr {h h' : lh_HS} (f : lh_fr h h') (s : Int32) : lb_P h' s = lb_P h s := by
  unfold lb_P
  rw [lb_N_fr f, f.N (c := 5) (by decide) (by decide), f 14 (by decide) (by decide), f 15 (by decide) (by decide)]
theorem lb_q_fr {h h' : lh_HS} (f : lh_fr h h') (s : Int32) : lb_q h' s = lb_q h s := by unfold lb_q; rw [lb_P_fr f]
theorem lb_le_fr {h h' : lh_HS} (f : lh_fr h h') (s : Int32) : lb_le h' s = lb_le h s := by unfold lb_le; rw [lb_P_fr f, f 14 (by decide) (by decide)]
theorem lb_gr_fr {h h' : lh_HS} (f : lh_fr h h') (s : Int32) : lb_gr h' s = lb_gr h s := by unfold lb_gr; rw [lb_P_fr f, f 15 (by decide) (by decide)]
def lb_F (g : lh_HS) (q : Int32 × Int32) : lh_HS := LX3_nar_h 0 0 q.1 q.2 g
theorem lb_narL {h g : lh_HS} (I : lh_I h) (f : lh_fr h g) {s : Int32} (hs : g 27 1 = s) (e8 : ∀ y, y < 10 → g 28 y = lb_S h s 0 (lb_U y) (lh_N h 4) 0) (e9 : ∀ y, y < 10 → g 29 y = lb_S h s 1 (lb_U y) (lh_N h 4) 0) : ∀ (n i : Nat) (p : Int32 × Int32), i + n ≤ lh_N h 5 → LX3_nar_h n i p.1 p.2 g = lb_F g (lb_N h s n i p) := by
  intro n
  induction n with
  | zero => intro i p hi; rfl
  | succ n ih =>
    intro i p hi
    have hM := I.1.2.2.2.1.2
    have ci : (nI i).toNatClampNeg = i := nI_clamp (by omega)
    obtain ⟨t0, t1, t2⟩ := I.2.2.2.2.1 i (by omega)
    obtain ⟨y, hy, ey⟩ := t1
    have cy : (h 22 i).toNatClampNeg = y := by rw [ey, nI_clamp (by omega)]
    rw [lb_N_s]
    have est : lb_st h s i p = if h 21 i = s then ((if p.1 < lh_T (h 23 i).toNatClampNeg - lb_S h s 1 (lb_U y) (lh_N h 4) 0 then lh_T (h 23 i).toNatClampNeg - lb_S h s 1 (lb_U y) (lh_N h 4) 0 else p.1), (if lh_T (h 23 i + 1).toNatClampNeg - 1 - lb_S h s 0 (lb_U y) (lh_N h 4) 0 < p.2 then lh_T (h 23 i + 1).toNatClampNeg - 1 - lb_S h s 0 (lb_U y) (lh_N h 4) 0 else p.2)) else p := by
      unfold lb_st
      rw [cy]
    rw [est, LX3_nar_h]
    rw [ci, hs, f 21 (by decide) (by decide), f 22 (by decide) (by decide), f 23 (by decide) (by decide), cy, e8 y hy, e9 y hy]
    by_cases c : h 21 i = s
    · rw [if_pos c, if_pos c]
      exact ih (i + 1) (_, _) (by omega)
    · rw [if_neg c, if_neg c]
      exact ih (i + 1) p (by omega)
/-- what the class's ledger holds, opened at a sheet -/
theorem lb_open {h : lh_HS} (I : lh_I h) (s : Int32) : gX3_openAt h s 27 1 = s ∧ gX3_openAt h s 27 2 = lb_q h s ∧ gX3_openAt h s 27 3 = lb_le h s ∧ gX3_openAt h s 27 4 = lb_gr h s ∧ ∀ y, y < 10 → gX3_openAt h s 28 y = lb_S h s 0 (lb_U y) (lh_N h 4) 0 ∧ gX3_openAt h s 29 y = lb_S h s 1 (lb_U y) (lh_N h 4) 0 := by
  have hM := I.1.2.2.1.2
  have f1 : lh_fr h (lh_up h 27 1 s) := (lh_fr.rf h).up (by decide)
  generalize hg : gX3_sumSpends (lh_up h 27 1 s) = g
  have f2 : lh_fr h g := by rw [← hg]; exact fun q h1 h2 => by rw [fr_sumSpends _ q (by omega) (by omega)]; exact f1 q h1 h2
  have g27 : g 27 = lh_up h 27 1 s 27 := by rw [← hg]; exact fr_sumSpends _ 27 (by decide) (by decide)
  have hs : g 27 1 = s := by rw [g27]; exact lh_up_eq h 27 1 s
  have e89 : ∀ y, y < 10 → g 28 y = lb_S h s 0 (lb_U y) (lh_N h 4) 0 ∧ g 29 y = lb_S h s 1 (lb_U y) (lh_N h 4) 0 := fun y hy => by
    rw [← hg]
    have z := lb_sums (h := lh_up h 27 1 s) (by rw [f1.N (by decide) (by decide)]; exact hM) (lh_up_eq h 27 1 s) hy
    rw [f1.N (by decide) (by decide), lb_S_fr f1, lb_S_fr f1] at z
    exact z
  have key : gX3_openAt h s = lb_F g (lb_P h s) := by
    unfold gX3_openAt gX3_narrowPast
    rw [hg, hs, f2.N (c := 5) (by decide) (by decide), f2 14 (by decide) (by decide), f2 15 (by decide) (by decide)]
    exact lb_narL I f2 hs (fun y hy => (e89 y hy).1) (fun y hy => (e89 y hy).2) _ 0 (h 14 s.toNatClampNeg, h 15 s.toNatClampNeg) (by omega)
  rw [key]
  unfold lb_q lb_le lb_gr lb_F
  rw [LX3_nar_h]
  by_cases c : (lb_P h s).1 ≤ (lb_P h s).2
  · rw [if_pos c, if_pos c, if_pos c, if_pos c]
    refine ⟨hs, rfl, rfl, rfl, e89⟩
  · rw [if_neg c, if_neg c, if_neg c, if_neg c]
    refine ⟨hs, rfl, ?_, ?_, e89⟩
    · show g 14 (g 27 1).toNatClampNeg = _
      rw [hs, f2 14 (by decide) (by decide)]
    · show g 15 (g 27 1).toNatClampNeg = _
      rw [hs, f2 15 (by decide) (by decide)]
/-- the reference's sums -/
theorem lb_bookedL {h : lh_HS} (I : lh_I h) (R : lh_RM h) (s : Int32) {y : Nat} (hy : y < 10) (g : Int32) : ∀ n i a, i + n ≤ lh_N h 4 → LX9_booked h s (nI y) g n i a = a + lb_S h s g (lb_U y) n i := by
  intro n
  induction n with
  | zero => intro i a hi; simp only [LX9_booked, lb_S, Int32.add_zero]
  | succ n ih =>
    intro i a hi
    have hj : i < lh_N h 4 := by omega
    obtain ⟨p0, p1, p2, p3, p4, p5⟩ := lh_bk I R hj
    obtain ⟨r0, r1, r2, r3, r4⟩ := R.2.2.2.1 i hj
    obtain ⟨b0, b1, ⟨z, hz, ez⟩, b3, b4⟩ := I.2.2.2.1 i hj
    simp only [LX9_booked, lb_S, lb_tm]
    rw [lh_hereE I R hj, lh_spendsE I R hj, p2, r2, ez, nI_clamp (by omega)]
    by_cases c : fX0_standsFor h (nI i) s = 0
    · rw [if_pos c, if_pos c, ih _ _ (by omega), Int32.add_zero, Int32.zero_add]
    · rw [if_neg c, if_neg c]
      have cz : nI y < nI z ↔ ¬ z ≤ y := by rw [Int32.lt_iff_toInt_lt, nI_toInt (by omega), nI_toInt (by omega)]; omega
      by_cases c2 : z ≤ y
      · rw [if_neg (fun q => (cz.mp q) c2), if_pos (by simp [lb_U, c2]), ih _ _ (by omega), Int32.add_assoc]
      · rw [if_pos (cz.mpr c2), if_neg (by simp [lb_U]; omega), ih _ _ (by omega), Int32.add_zero, Int32.zero_add]
theorem lb_booked {h : lh_HS} (I : lh_I h) (R : lh_RM h) (s : Int32) {y : Int32} (hy : lh_ix y 10) (g : Int32) : fX9_booked h s y g = lb_S h s g (lb_U y.toNatClampNeg) (lh_N h 4) 0 := by
  obtain ⟨z, hz, rfl⟩ := hy
  unfold fX9_booked
  rw [R.m.2.2.1, lb_bookedL I R s hz g _ 0 0 (by omega), Int32.zero_add, nI_clamp (by omega)]
theorem lb_Lbooked_fm {h g : lh_HS} (f : lh_fm h g) (s y r : Int32) : ∀ n i a, LX9_booked g s y r n i a = LX9_booked h s y r n i a := by
  intro n
  induction n with
  | zero => intro i a; rfl
  | succ n ih =>
    intro i a
    have e42 := f 42 (by decide) (by decide)
    have eH : fX9_isHere g (nI i) s = fX9_isHere h (nI i) s := by unfold fX9_isHere; rw [e42]
    have eS : fX9_spends g (nI i) r = fX9_spends h (nI i) r := by unfold fX9_spends fX9_lightOf; rw [e42, f 40 (by decide) (by decide), f 39 (by decide) (by decide)]
    simp only [LX9_booked]
    rw [eH, eS, e42, ih, ih]
theorem lb_booked_fm {h g : lh_HS} (f : lh_fm h g) (s y r : Int32) : fX9_booked g s y r = fX9_booked h s y r := by
  unfold fX9_booked
  rw [f.m, lb_Lbooked_fm f]
theorem lb_fpL {h : lh_HS} (I : lh_I h) (R : lh_RM h) (S : lh_ST h) {j : Nat} (hj : j < lh_N h 3) : ∀ (n i : Nat) (g : lh_HS) (p : Int32 × Int32), lh_fm h g → g 37 10 = p.1 → g 37 11 = p.2 → i + n ≤ lh_N h 5 →
    LX9_findPast_h (nI j) n i g 37 12 = (if (lb_N h (nI j) n i p).1 ≤ (lb_N h (nI j) n i p).2 then 0 else 1) ∧ LX9_findPast_h (nI j) n i g 37 10 = (if (lb_N h (nI j) n i p).1 ≤ (lb_N h (nI j) n i p).2 then (lb_N h (nI j) n i p).1 else h 14 j) ∧ LX9_findPast_h (nI j) n i g 37 11 = (if (lb_N h (nI j) n i p).1 ≤ (lb_N h (nI j) n i p).2 then (lb_N h (nI j) n i p).2 else h 15 j) := by
  intro n
  induction n with
  | zero =>
    intro i g p f e0 e1 hi
    obtain ⟨p0, p1, p2, p3, p4, p5, p6, p7⟩ := lh_st I hj
    obtain ⟨s0, s1, s2, s3, s4, s5, s6⟩ := R.2.2.1 j hj
    rw [lb_N_z, LX9_findPast_h]
    rw [e0, e1, p5, p6, f 41 (by decide) (by decide), s5, s6]
    by_cases c : p.1 ≤ p.2
    · rw [if_pos c, if_pos c, if_pos c, if_pos c]
      exact ⟨rfl, e0, e1⟩
    · rw [if_neg c, if_neg c, if_neg c, if_neg c]
      exact ⟨rfl, rfl, rfl⟩
  | succ n ih =>
    intro i g p f e0 e1 hi
    have hM := I.1.2.2.2.1.2
    have q0 : (3 * nI i).toNatClampNeg = 3 * i := lh_at0 (k := 3) (by omega)
    have q1 : (3 * nI i + 1).toNatClampNeg = 3 * i + 1 := lh_at (k := 3) (c := 1) (by omega)
    have q2 : (3 * nI i + 2).toNatClampNeg = 3 * i + 2 := lh_at (k := 3) (c := 2) (by omega)
    obtain ⟨x0, x1, x2⟩ := R.2.2.2.2.1 i (by omega)
    obtain ⟨t0, t1, t2⟩ := I.2.2.2.2.1 i (by omega)
    obtain ⟨z, hz, ez⟩ := t2
    have est : lb_st h (nI j) i p = if h 21 i = nI j then ((if p.1 < lh_T z - lb_S h (nI j) 1 (lb_U (h 22 i).toNatClampNeg) (lh_N h 4) 0 then lh_T z - lb_S h (nI j) 1 (lb_U (h 22 i).toNatClampNeg) (lh_N h 4) 0 else p.1), (if lh_T (z + 1) - 1 - lb_S h (nI j) 0 (lb_U (h 22 i).toNatClampNeg) (lh_N h 4) 0 < p.2 then lh_T (z + 1) - 1 - lb_S h (nI j) 0 (lb_U (h 22 i).toNatClampNeg) (lh_N h 4) 0 else p.2)) else p := by
      unfold lb_st
      rw [ez, nI_1, nI_clamp (by omega), nI_clamp (by omega)]
    rw [lb_N_s, est, LX9_findPast_h]
    rw [q0, q1, q2, e0, e1, f 43 (by decide) (by decide), f 45 (by decide) (by decide), x0, x1, x2, lb_booked_fm f, lb_booked_fm f, lb_booked I R _ t1, lb_booked I R _ t1, ez, nI_1, nI_clamp (by omega), nI_clamp (by omega), S z (by omega), S (z + 1) (by omega)]
    generalize lh_T z - lb_S h (nI j) 1 (lb_U (h 22 i).toNatClampNeg) (lh_N h 4) 0 = X
    generalize lh_T (z + 1) - 1 - lb_S h (nI j) 0 (lb_U (h 22 i).toNatClampNeg) (lh_N h 4) 0 = Y
    have nl : ∀ a b : Int32, a < b ↔ ¬ b ≤ a := fun a b => by rw [Int32.lt_iff_toInt_lt, Int32.le_iff_toInt_le]; omega
    have fx : ∀ a b : Int32, lh_fm h (lh_up (lh_up g 37 10 a) 37 11 b) := fun a b => (f.up (i := 37) (Or.inl (by decide))).up (i := 37) (Or.inl (by decide))
    by_cases c : h 21 i = nI j
    · rw [if_pos c, if_pos c]
      by_cases cX : X ≤ p.1
      · rw [if_pos cX, if_neg (fun q => (nl _ _).mp q cX)]
        by_cases cY : p.2 ≤ Y
        · rw [if_pos cY, if_neg (fun q => (nl _ _).mp q cY)]
          exact ih (i + 1) _ (_, _) (fx _ _) rfl rfl (by omega)
        · rw [if_neg cY, if_pos ((nl _ _).mpr cY)]
          exact ih (i + 1) _ (_, _) (fx _ _) rfl rfl (by omega)
      · rw [if_neg cX, if_pos ((nl _ _).mpr cX)]
        by_cases cY : p.2 ≤ Y
        · rw [if_pos cY, if_neg (fun q => (nl _ _).mp q cY)]
          exact ih (i + 1) _ (_, _) (fx _ _) rfl rfl (by omega)
        · rw [if_neg cY, if_pos ((nl _ _).mpr cY)]
          exact ih (i + 1) _ (_, _) (fx _ _) rfl rfl (by omega)
    · rw [if_neg c, if_neg c]
      exact ih (i + 1) g p f e0 e1 (by omega)
theorem lb_fp {h : lh_HS} (I : lh_I h) (R : lh_RM h) (S : lh_ST h) {s : Int32} (hs : lh_ix s (lh_N h 3)) : gX9_findPast h s 37 12 = lb_q h s ∧ gX9_findPast h s 37 10 = lb_le h s ∧ gX9_findPast h s 37 11 = lb_gr h s := by
  obtain ⟨j, hj, rfl⟩ := hs
  obtain ⟨p0, p1, p2, p3, p4, p5, p6, p7⟩ := lh_st I hj
  obtain ⟨s0, s1, s2, s3, s4, s5, s6⟩ := R.2.2.1 j hj
  unfold gX9_findPast
  rw [p5, p6, s5, s6, R.m.2.2.2.1]
  have z := lb_fpL I R S hj (lh_N h 5) 0 (lh_up (lh_up h 37 10 (h 14 j)) 37 11 (h 15 j)) (h 14 j, h 15 j) (((lh_fm.rf h).up (i := 37) (Or.inl (by decide))).up (i := 37) (Or.inl (by decide))) rfl rfl (by omega)
  unfold lb_q lb_le lb_gr lb_P
  rw [p7]
  exact z
