/-! THE HANG, as the class finds it: the search -/
def lc_e (g g' : lh_HS) : Prop := ∀ q z, q ≠ 31 → (q ≠ 30 ∨ z ≠ 4) → g' q z = g q z
def lc_f (g g' : lh_HS) : Prop := ∀ q z, q ≠ 30 → q ≠ 31 → q ≠ 35 → g' q z = g q z
theorem lc_e.rf (g : lh_HS) : lc_e g g := fun _ _ _ _ => rfl
theorem lc_e.tr {a b c : lh_HS} (x : lc_e a b) (y : lc_e b c) : lc_e a c := fun q z h1 h2 => (y q z h1 h2).trans (x q z h1 h2)
theorem lc_e.f {a b : lh_HS} (x : lc_e a b) : lc_f a b := fun q z h1 h2 _ => x q z h2 (Or.inl h1)
theorem lc_f.tr {a b c : lh_HS} (x : lc_f a b) (y : lc_f b c) : lc_f a c := fun q z h1 h2 h3 => (y q z h1 h2 h3).trans (x q z h1 h2 h3)
theorem lc_f.row {a b : lh_HS} (x : lc_f a b) {q : Nat} (h1 : q ≠ 30 ∧ q ≠ 31 ∧ q ≠ 35) : b q = a q := funext fun z => x q z h1.1 h1.2.1 h1.2.2
def lc_K (h : lh_HS) (c : Nat → Int32) (w : Nat) (g : lh_HS) : Prop := lh_fr h g ∧ (∀ v, v < lh_N h 6 → g 33 v = fX1_sheetsFor h (nI v) ∧ g 34 v = lp_lt h v) ∧ (∀ v, v < lh_N h 6 → g 32 v = c v) ∧ ∀ s, s < lh_N h 3 → g 36 s = lp_sp h c s w
theorem lc_K.f {h : lh_HS} {c : Nat → Int32} {w : Nat} {g g' : lh_HS} (K : lc_K h c w g) (e : lc_f g g') : lc_K h c w g' := by
  obtain ⟨k1, k2, k3, k4⟩ := K
  refine ⟨k1.tr (fun q h1 h2 => e.row ⟨by omega, by omega, by omega⟩), ?_, ?_, ?_⟩
  · rw [e.row (q := 33) (by decide), e.row (q := 34) (by decide)]; exact k2
  · rw [e.row (q := 32) (by decide)]; exact k3
  · rw [e.row (q := 36) (by decide)]; exact k4
def lc_R (W : Nat) (g : lh_HS) (a : lp_A) : Prop := g 30 4 = a.1 ∧ ∀ v, v < W → g 31 v = a.2 v
def lc_bd (h : lh_HS) (M : Int32) (v : Nat) : Prop := 0 ≤ M.toInt ∧ M.toInt ≤ 1000 ∧ lp_le (lh_N h 3) (lp_okb h) (h 11) M.toInt (lh_N h 6 - v) v 0 (fun _ => -4)
theorem lc_vals {h : lh_HS} (I : lh_I h) : ∀ s, s < lh_N h 3 → 0 ≤ (h 11 s).toInt ∧ (h 11 s).toInt ≤ 9 := fun s hs => by
  have := (I.2.2.1 s hs).2.2.1
  exact ⟨by have := this.1; omega, this.2⟩
theorem lc_dom {h : lh_HS} (I : lh_I h) {d w : Nat} {ws ws0 : Int32} {c c0 : Nat → Int32} {M K : Int} (hd : w + d ≤ lh_N h 6) (r : lp_rl w c c0) (e : ws.toInt = ws0.toInt + K) (h0 : 0 ≤ ws0.toInt) (hK : 0 ≤ K) (hb : ws.toInt ≤ 1000) (x : lp_le (lh_N h 3) (lp_okb h) (h 11) M d w ws0 c0) : lp_le (lh_N h 3) (lp_okb h) (h 11) (M + K) d w ws c := by
  have hW := I.1.2.2.2.2.2
  have H : ∀ c c0 w' s, lp_rl w c c0 → w ≤ w' → w' < lh_N h 6 → s < lh_N h 3 → lp_okb h c w' s = true → lp_okb h c0 w' s = true := fun c c0 w' s r h1 h2 h3 q => lp_ok_m I r h3 (Nat.le_of_lt h2) q
  have hb2 : ws.toInt + 9 * (d : Int) < 2 ^ 31 := by omega
  exact lp_dom (lc_vals I) H d w ws ws0 c c0 M K (Nat.le_refl _) hd r e h0 hK hb2 x
theorem lc_cut {h : lh_HS} (I : lh_I h) {c : Nat → Int32} {d w : Nat} {ws M : Int32} (hd : w + d = lh_N h 6) (hc : ∀ v, w ≤ v → c v = -4) (h0 : 0 ≤ ws.toInt) (h1 : ws.toInt ≤ 100) (B : lc_bd h M w) (a : lp_A) (q : ¬ a.1 < ws + M) : lp_B (lh_N h 3) (lp_okb h) (h 11) d w ws c a = a := by
  obtain ⟨b0, b1, b2⟩ := B
  have e : (ws + M).toInt = ws.toInt + M.toInt := by
    rw [Int32.toInt_add]
    exact Int.bmod_eq_of_le (by omega) (by omega)
  rw [Int32.lt_iff_toInt_lt, e] at q
  have ed : lh_N h 6 - w = d := by omega
  rw [ed] at b2
  have r : lp_rl w c (fun _ => -4) := ⟨fun _ _ => rfl, fun v hv => (hc v hv).symm⟩
  have e0 : ws.toInt = (0 : Int32).toInt + ws.toInt := by rw [show (0 : Int32).toInt = 0 from by decide, Int.zero_add]
  have dm := lc_dom I (Nat.le_of_eq hd) r e0 (by decide) h0 (by omega) b2
  exact lp_cut d w ws c a dm (by omega)
theorem lc_place {h : lh_HS} (I : lh_I h) : ∀ (d w : Nat) (ws : Int32) (c : Nat → Int32) (g : lh_HS) (a : lp_A), w + d = lh_N h 6 → (∀ v, w ≤ v → c v = -4) → 0 ≤ ws.toInt → ws.toInt ≤ 9 * (w : Int) → lc_K h c w g → lc_R (lh_N h 6) g a → (∀ v, w ≤ v → v < lh_N h 6 → lc_bd h (g 35 v) v) → lc_e g (gX1_place d w ws g) ∧ lc_R (lh_N h 6) (gX1_place d w ws g) (lp_B (lh_N h 3) (lp_okb h) (h 11) d w ws c a) := by
  have hW := I.1.2.2.2.2.2
  have hS := I.1.2.1.2
  intro d
  induction d with
  | zero =>
    intro w ws c g a hd hc h0 h1 K R U
    simp only [gX1_place, lp_B]
    unfold gX1_takeIfBetter
    rw [R.1]
    by_cases q : a.1 < ws
    · rw [if_neg (show ¬ ws ≤ a.1 by rw [Int32.lt_iff_toInt_lt] at q; rw [Int32.le_iff_toInt_le]; omega), if_pos q]
      refine ⟨fun x z h1 h2 => ?_, ?_, fun v hv => ?_⟩
      · rw [lh_row_ne h1, lh_up_ne h2]
      · rw [lh_row_ne (by decide), lh_up_eq]
      · rw [lh_row_eq]; exact K.2.2.1 v hv
    · rw [if_pos (show ws ≤ a.1 by rw [Int32.lt_iff_toInt_lt] at q; rw [Int32.le_iff_toInt_le]; omega), if_neg q]
      exact ⟨lc_e.rf g, R⟩
  | succ d ih =>
    intro w ws c g a hd hc h0 h1 K R U
    have hw : w < lh_N h 6 := by omega
    have cw : (nI w).toNatClampNeg = w := nI_clamp (by omega)
    have key : ∀ n i (g : lh_HS) (a : lp_A), i + n = lh_N h 3 → lc_K h c w g → lc_R (lh_N h 6) g a → (∀ v, w ≤ v → v < lh_N h 6 → lc_bd h (g 35 v) v) → lc_e g (LX1_place_h w ws (gX1_place d (w + 1)) n i g) ∧ lc_R (lh_N h 6) (LX1_place_h w ws (gX1_place d (w + 1)) n i g) (lp_L (lp_B (lh_N h 3) (lp_okb h) (h 11) d (w + 1)) (fun s => lp_okb h c w s) (h 11) w ws c n i a) := by
      intro n
      induction n with
      | zero =>
        intro i g a hi K R U
        have cu : upd c w (-4) = c := by
          funext v
          by_cases e : v = w
          · rw [e, lh_ue]; exact (hc w (Nat.le_refl _)).symm
          · rw [lh_un e]
        simp only [LX1_place_h, lp_L]
        rw [cu]
        refine ih (w + 1) ws c g a (by omega) (fun v hv => hc v (by omega)) h0 (by omega) ⟨K.1, K.2.1, K.2.2.1, fun s hs => ?_⟩ R (fun v h1 h2 => U v (by omega) h2)
        rw [K.2.2.2 s hs]
        simp only [lp_sp]
        rw [hc w (Nat.le_refl _), if_neg (lp_ne4 (by omega))]
      | succ n ihn =>
        intro i g a hi K R U
        have ci : (nI i).toNatClampNeg = i := nI_clamp (by omega)
        have fe := lp_fitE I K.1 hw (s := i) (by omega) (fun v hv => K.2.2.1 v (by omega)) (K.2.1 w hw).1 (K.2.1 w hw).2 (K.2.2.2 i (by omega))
        simp only [LX1_place_h, lp_L]
        rw [cw, ci]
        by_cases q : lp_okb h c w i = true
        · have e11 : g 11 i = h 11 i := by rw [K.1 11 (by decide) (by decide)]
          have vi := lc_vals I i (by omega)
          have ea : (ws + h 11 i).toInt = ws.toInt + (h 11 i).toInt := by
            rw [Int32.toInt_add]
            exact Int.bmod_eq_of_le (by omega) (by omega)
          rw [if_neg (fe.mpr q), if_pos q, e11]
          generalize hg1 : lh_up (lh_up g 32 w (nI i)) 36 i (g 36 i - g 34 w) = g1
          have r1 : ∀ q z, (q ≠ 32 ∨ z ≠ w) → (q ≠ 36 ∨ z ≠ i) → g1 q z = g q z := by
            intro q z a b
            rw [← hg1, lh_up_ne b, lh_up_ne a]
          have K1 : lc_K h (upd c w (nI i)) (w + 1) g1 := by
            refine ⟨?_, fun v hv => ?_, fun v hv => ?_, fun s hs => ?_⟩
            · rw [← hg1]; exact (K.1.up (by decide)).up (by decide)
            · rw [r1 33 v (Or.inl (by decide)) (Or.inl (by decide)), r1 34 v (Or.inl (by decide)) (Or.inl (by decide))]
              exact K.2.1 v hv
            · by_cases e : v = w
              · rw [e, ← hg1, lh_up_ne (Or.inl (by decide)), lh_up_eq, lh_ue]
              · rw [r1 32 v (Or.inr e) (Or.inl (by decide)), lh_un e]
                exact K.2.2.1 v hv
            · simp only [lp_sp]
              rw [lh_ue, lp_sp_cg (c := c) w (fun v hv => lh_un (by omega))]
              by_cases e : s = i
              · rw [e, if_pos rfl, ← hg1, lh_up_eq, K.2.2.2 i (by omega), (K.2.1 w hw).2]
              · rw [if_neg (fun x => e ((nI_eq (by omega) (by omega)).mp x).symm), r1 36 s (Or.inl (by decide)) (Or.inr e), K.2.2.2 s hs]
          have p := ih (w + 1) (ws + h 11 i) (upd c w (nI i)) g1 a (by omega) (fun v hv => by rw [lh_un (by omega)]; exact hc v (by omega)) (by omega) (by omega) K1 ⟨by rw [r1 30 4 (Or.inl (by decide)) (Or.inl (by decide))]; exact R.1, fun v hv => by rw [r1 31 v (Or.inl (by decide)) (Or.inl (by decide))]; exact R.2 v hv⟩ (fun v h1 h2 => by rw [r1 35 v (Or.inl (by decide)) (Or.inl (by decide))]; exact U v (by omega) h2)
          generalize lp_B (lh_N h 3) (lp_okb h) (h 11) d (w + 1) (ws + h 11 i) (upd c w (nI i)) a = a2 at p ⊢
          generalize gX1_place d (w + 1) (ws + h 11 i) g1 = g2 at p ⊢
          generalize hg3 : lh_up (lh_up g2 36 i (g2 36 i + g2 34 w)) 32 w (-4) = g3
          have e3 : lc_e g g3 := by
            intro q z n1 n2
            by_cases x : q = 32 ∧ z = w
            · rw [x.1, x.2, ← hg3, lh_up_eq, K.2.2.1 w hw, hc w (Nat.le_refl _)]
            · by_cases y : q = 36 ∧ z = i
              · rw [y.1, y.2, ← hg3, lh_up_ne (Or.inl (by decide)), lh_up_eq, p.1 36 i (by decide) (Or.inl (by decide)), p.1 34 w (by decide) (Or.inl (by decide)), r1 34 w (Or.inl (by decide)) (Or.inl (by decide)), ← hg1, lh_up_eq, Int32.sub_add_cancel]
              · rw [← hg3, lh_up_ne (by omega), lh_up_ne (by omega), p.1 q z n1 n2, r1 q z (by omega) (by omega)]
          have p3 := ihn (i + 1) g3 a2 (by omega) (K.f e3.f) ⟨by rw [← hg3, lh_up_ne (Or.inl (by decide)), lh_up_ne (Or.inl (by decide))]; exact p.2.1, fun v hv => by rw [← hg3, lh_up_ne (Or.inl (by decide)), lh_up_ne (Or.inl (by decide))]; exact p.2.2 v hv⟩ (fun v h1 h2 => by rw [e3 35 v (by decide) (Or.inl (by decide))]; exact U v h1 h2)
          exact ⟨e3.tr p3.1, p3.2⟩
        · have fz : fX1_fits g (nI w) (nI i) = 0 := Classical.byContradiction fun x => q (fe.mp x)
          rw [if_pos fz, if_neg q]
          exact ihn (i + 1) g a (by omega) K R U
    simp only [gX1_place]
    rw [cw]
    by_cases q : g 30 4 < ws + g 35 w
    · rw [if_pos q, K.1.N (c := 3) (by decide) (by decide)]
      exact key (lh_N h 3) 0 g a (by omega) K R U
    · rw [if_neg q, lc_cut I hd hc h0 (by omega) (U w (Nat.le_refl _) hw) a (by rw [← R.1]; exact q)]
      exact ⟨lc_e.rf g, R⟩
theorem lp_none {nS : Nat} {ok : (Nat → Int32) → Nat → Nat → Bool} {val : Nat → Int32} {M : Int} : ∀ (d w : Nat) (ws : Int32) (c : Nat → Int32), lp_le nS ok val M d w ws c → ws.toInt ≤ M := by
  intro d
  induction d with
  | zero => intro w ws c x; exact x
  | succ d ih => intro w ws c x; exact ih _ _ _ x.1
theorem lp_ub {nS : Nat} {ok : (Nat → Int32) → Nat → Nat → Bool} {val : Nat → Int32} (hv : ∀ s, s < nS → 0 ≤ (val s).toInt ∧ (val s).toInt ≤ 9) {B : Int} (hB : B < 2 ^ 31) : ∀ (d w : Nat) (ws : Int32) (c : Nat → Int32) (a : lp_A), 0 ≤ ws.toInt → ws.toInt + 9 * d ≤ B → a.1.toInt ≤ B → (lp_B nS ok val d w ws c a).1.toInt ≤ B := by
  intro d
  induction d with
  | zero =>
    intro w ws c a h0 h1 h2
    simp only [lp_B]
    by_cases q : a.1 < ws
    · rw [if_pos q]; show ws.toInt ≤ B; omega
    · rw [if_neg q]; exact h2
  | succ d ih =>
    intro w ws c a h0 h1 h2
    have key : ∀ n i (a : lp_A), i + n ≤ nS → a.1.toInt ≤ B → (lp_L (lp_B nS ok val d (w + 1)) (fun s => ok c w s) val w ws c n i a).1.toInt ≤ B := by
      intro n
      induction n with
      | zero => intro i a _ h2; exact ih _ _ _ _ h0 (by omega) h2
      | succ n ihn =>
        intro i a hi h2
        simp only [lp_L]
        by_cases q : ok c w i = true
        · obtain ⟨v1, v2⟩ := hv i (by omega)
          have ea : (ws + val i).toInt = ws.toInt + (val i).toInt := by
            rw [Int32.toInt_add]
            exact Int.bmod_eq_of_le (by omega) (by omega)
          rw [if_pos q]
          exact ihn _ _ (by omega) (ih _ _ _ _ (by omega) (by omega) h2)
        · rw [if_neg q]
          exact ihn _ _ (by omega) h2
    exact key nS 0 a (by omega) h2
theorem lp_ind {nS : Nat} {ok : (Nat → Int32) → Nat → Nat → Bool} {val : Nat → Int32} : ∀ (d w : Nat) (ws : Int32) (c : Nat → Int32) (a a' : lp_A), a.1 = a'.1 → lp_B nS ok val d w ws c a = lp_B nS ok val d w ws c a' ∨ (lp_B nS ok val d w ws c a = a ∧ lp_B nS ok val d w ws c a' = a') := by
  intro d
  induction d with
  | zero =>
    intro w ws c a a' e
    simp only [lp_B]
    rw [← e]
    by_cases q : a.1 < ws
    · left; rw [if_pos q, if_pos q]
    · right; rw [if_neg q, if_neg q]; exact ⟨rfl, rfl⟩
  | succ d ih =>
    intro w ws c a a' e
    have key : ∀ n i (a a' : lp_A), a.1 = a'.1 → lp_L (lp_B nS ok val d (w + 1)) (fun s => ok c w s) val w ws c n i a = lp_L (lp_B nS ok val d (w + 1)) (fun s => ok c w s) val w ws c n i a' ∨ (lp_L (lp_B nS ok val d (w + 1)) (fun s => ok c w s) val w ws c n i a = a ∧ lp_L (lp_B nS ok val d (w + 1)) (fun s => ok c w s) val w ws c n i a' = a') := by
      intro n
      induction n with
      | zero => intro i a a' e; exact ih _ _ _ _ _ e
      | succ n ihn =>
        intro i a a' e
        simp only [lp_L]
        by_cases q : ok c w i = true
        · rw [if_pos q, if_pos q]
          rcases ih (w + 1) (ws + val i) (upd c w (nI i)) a a' e with x | ⟨x, y⟩
          · left; rw [x]
          · rw [x, y]; exact ihn _ a a' e
        · rw [if_neg q, if_neg q]; exact ihn _ a a' e
    exact key nS 0 a a' e
theorem lc_find {h : lh_HS} (I : lh_I h) {W : Nat} (eW : lh_N h 6 = W) : ∀ (n : Nat) (g : lh_HS), n ≤ W → lc_K h (fun _ => -4) 0 g → (∀ v, n ≤ v → v ≤ W → (g 35 v).toInt ≤ 100 ∧ lc_bd h (g 35 v) v) → ((n < W ∨ W = 0) → lc_R W g (lp_B (lh_N h 3) (lp_okb h) (h 11) (W - n) n 0 (fun _ => -4) (-1, fun _ => 0))) → lc_f g (LX1_find_h W n g) ∧ LX1_find_h W n g 30 2 = 1 ∧ lc_R W (LX1_find_h W n g) (lp_B (lh_N h 3) (lp_okb h) (h 11) W 0 0 (fun _ => -4) (-1, fun _ => 0)) := by
  have hW := I.1.2.2.2.2.2
  have hS := I.1.2.1.2
  have z0 : (0 : Int32).toInt = 0 := by decide
  intro n
  induction n with
  | zero =>
    intro g hn K U R
    have R := R (by omega)
    simp only [LX1_find_h]
    refine ⟨fun q z h1 h2 h3 => lh_up_ne (Or.inl h1), lh_up_eq _ _ _ _, ?_, fun v hv => ?_⟩
    · rw [lh_up_ne (Or.inr (by decide))]; exact R.1
    · rw [lh_up_ne (Or.inl (by decide))]; exact R.2 v hv
  | succ n ih =>
    intro g hn K U _
    have cn : (nI n).toNatClampNeg = n := nI_clamp (by omega)
    have cn1 : (nI n + 1).toNatClampNeg = n + 1 := by rw [nI_1, nI_clamp (by omega)]
    simp only [LX1_find_h]
    rw [cn, cn1]
    generalize hg0 : lh_up (lh_up g 30 4 (-1)) 35 n (g 35 (n + 1) + 9) = g0
    have r0 : ∀ q z, (q ≠ 30 ∨ z ≠ 4) → (q ≠ 35 ∨ z ≠ n) → g0 q z = g q z := by
      intro q z a b
      rw [← hg0, lh_up_ne b, lh_up_ne a]
    have f0 : lc_f g g0 := fun q z h1 h2 h3 => r0 q z (Or.inl h1) (Or.inl h3)
    obtain ⟨d, hd⟩ : ∃ d, W - n = d + 1 := ⟨W - n - 1, by omega⟩
    obtain ⟨m1, m2, m3, m4⟩ := U (n + 1) (by omega) (by omega)
    have em : (g 35 (n + 1) + 9).toInt = (g 35 (n + 1)).toInt + 9 := by
      rw [Int32.toInt_add, show (9 : Int32).toInt = 9 from by decide]
      exact Int.bmod_eq_of_le (by omega) (by omega)
    have K0 : lc_K h (fun _ => -4) n g0 := by
      obtain ⟨k1, k2, k3, k4⟩ := K.f f0
      exact ⟨k1, k2, k3, fun s hs => by rw [lp_sp_n (by omega) n, k4 s hs]; rfl⟩
    have B0 : lc_bd h (g 35 (n + 1) + 9) n := by
      refine ⟨by omega, by omega, ?_⟩
      rw [em, eW, hd]
      rw [eW, show W - (n + 1) = d by omega] at m4
      refine ⟨lp_le.mono (M := (g 35 (n + 1)).toInt) (by omega) _ _ _ _ ?_, fun s hs q => ?_⟩
      · rw [show upd (fun _ => (-4 : Int32)) n (-4) = fun _ => -4 from by funext v; by_cases e : v = n; (rw [e, lh_ue]); (rw [lh_un e])]
        exact m4
      · have vs := lc_vals I s hs
        have ea : ((0 : Int32) + h 11 s).toInt = (h 11 s).toInt := by rw [Int32.zero_add]
        refine lp_le.mono (M := (g 35 (n + 1)).toInt + (h 11 s).toInt) (by omega) _ _ _ _ ?_
        have e0 : ((0 : Int32) + h 11 s).toInt = (0 : Int32).toInt + (h 11 s).toInt := by rw [ea, z0, Int.zero_add]
        have r : lp_rl (n + 1) (upd (fun _ => (-4 : Int32)) n (nI s)) (fun _ => -4) := ⟨fun _ _ => rfl, fun v hv => by rw [lh_un (by omega)]⟩
        exact lc_dom I (by omega) r e0 (by decide) vs.1 (by omega) m4
    have p := lc_place I (W - n) n 0 (fun _ => -4) g0 (-1, g 31) (by omega) (fun _ _ => rfl) (by decide) (by omega) K0 ⟨by rw [← hg0, lh_up_ne (Or.inl (by decide)), lh_up_eq], fun v hv => r0 31 v (Or.inl (by decide)) (Or.inl (by decide))⟩ (fun v h1 h2 => by
      by_cases e : v = n
      · rw [e, ← hg0, lh_up_eq]; exact B0
      · rw [r0 35 v (Or.inl (by decide)) (Or.inr e)]; exact (U v (by omega) (by omega)).2)
    have gt := lp_got (nS := lh_N h 3) (ok := lp_okb h) (val := h 11) (W - n) n 0 (fun _ => -4) (-1, g 31)
    have ub := lp_ub (ok := lp_okb h) (lc_vals I) (B := 100) (by decide) (W - n) n 0 (fun _ => -4) (-1, g 31) (by decide) (by omega) (show (-1 : Int32).toInt ≤ 100 by decide)
    have nn := lp_none _ _ _ _ gt.2
    have ei : lp_B (lh_N h 3) (lp_okb h) (h 11) (W - n) n 0 (fun _ => -4) (-1, g 31) = lp_B (lh_N h 3) (lp_okb h) (h 11) (W - n) n 0 (fun _ => -4) (-1, fun _ => 0) := by
      rcases lp_ind (nS := lh_N h 3) (ok := lp_okb h) (val := h 11) (W - n) n 0 (fun _ => -4) (-1, g 31) (-1, fun _ => 0) rfl with x | ⟨x, -⟩
      · exact x
      · rw [x] at nn
        exact absurd nn (show ¬ (0 : Int32).toInt ≤ (-1 : Int32).toInt by decide)
    rw [eW] at p
    rw [ei] at p gt ub nn
    generalize hr : lp_B (lh_N h 3) (lp_okb h) (h 11) (W - n) n 0 (fun _ => -4) (-1, fun _ => 0) = r at p gt ub nn
    generalize gX1_place (W - n) n 0 g0 = g2 at p ⊢
    generalize hg3 : lh_up g2 35 n (g2 30 4) = g3
    have f3 : lc_f g g3 := fun q z h1 h2 h3 => by
      rw [← hg3, lh_up_ne (Or.inl h3), p.1 q z h2 (Or.inl h1), f0 q z h1 h2 h3]
    have p3 := ih g3 (by omega) (K.f f3) (fun v h1 h2 => by
      by_cases e : v = n
      · rw [e, ← hg3, lh_up_eq, p.2.1]
        refine ⟨ub, by omega, by omega, ?_⟩
        rw [eW]
        exact gt.2
      · rw [← hg3, lh_up_ne (Or.inr e), p.1 35 v (by decide) (Or.inl (by decide)), r0 35 v (Or.inl (by decide)) (Or.inr e)]
        exact U v (by omega) h2) (fun _ => by
      rw [hr]
      refine ⟨?_, fun v hv => ?_⟩
      · rw [← hg3, lh_up_ne (Or.inl (by decide))]; exact p.2.1
      · rw [← hg3, lh_up_ne (Or.inl (by decide))]; exact p.2.2 v hv)
    exact ⟨f3.tr p3.1, p3.2⟩
theorem lc_prep2 {h : lh_HS} (I : lh_I h) : ∀ (n i : Nat) (g : lh_HS), i + n = lh_N h 6 → lh_fr h g → (∀ q z, q ≠ 32 → q ≠ 33 → q ≠ 34 → LX1_prep2_h n i g q z = g q z) ∧ (∀ q v, v < i → LX1_prep2_h n i g q v = g q v) ∧ ∀ v, i ≤ v → v < i + n → LX1_prep2_h n i g 32 v = -4 ∧ LX1_prep2_h n i g 34 v = lp_lt h v ∧ LX1_prep2_h n i g 33 v = fX1_sheetsFor h (nI v) := by
  have hW := I.1.2.2.2.2.2
  intro n
  induction n with
  | zero =>
    intro i g hi f
    exact ⟨fun _ _ _ _ _ => rfl, fun _ _ _ => rfl, fun v h1 h2 => by omega⟩
  | succ n ih =>
    intro i g hi f
    have ci : (nI i).toNatClampNeg = i := nI_clamp (by omega)
    have f1 : lh_fr h (lh_up g 32 i (-4)) := f.up (by decide)
    simp only [LX1_prep2_h]
    rw [ci]
    have e1 : fX4_lightEnd (lh_up g 32 i (-4)) (g 24 i) (g 25 i) 1 = lp_lt h i := by
      rw [← lp_lt_fr f1 i]
      unfold lp_lt
      rw [f1 24 (by decide) (by decide), f1 25 (by decide) (by decide), f 24 (by decide) (by decide), f 25 (by decide) (by decide)]
    rw [e1]
    have f2 : lh_fr h (lh_up (lh_up g 32 i (-4)) 34 i (lp_lt h i)) := f1.up (by decide)
    rw [lp_ss_fr f2]
    generalize hg1 : lh_up (lh_up (lh_up g 32 i (-4)) 34 i (lp_lt h i)) 33 i (fX1_sheetsFor h (nI i)) = g1
    have f3 : lh_fr h g1 := by rw [← hg1]; exact f2.up (by decide)
    obtain ⟨p1, p2, p3⟩ := ih (i + 1) g1 (by omega) f3
    refine ⟨fun q z h1 h2 h3 => ?_, fun q v hv => ?_, fun v h1 h2 => ?_⟩
    · rw [p1 q z h1 h2 h3, ← hg1, lh_up_ne (Or.inl h2), lh_up_ne (Or.inl h3), lh_up_ne (Or.inl h1)]
    · rw [p2 q v (by omega), ← hg1, lh_up_ne (Or.inr (by omega)), lh_up_ne (Or.inr (by omega)), lh_up_ne (Or.inr (by omega))]
    · by_cases e : v = i
      · rw [e, p2 32 i (by omega), p2 33 i (by omega), p2 34 i (by omega), ← hg1]
        refine ⟨?_, ?_, ?_⟩
        · rw [lh_up_ne (Or.inl (by decide)), lh_up_ne (Or.inl (by decide)), lh_up_eq]
        · rw [lh_up_ne (Or.inl (by decide)), lh_up_eq]
        · rw [lh_up_eq]
      · exact p3 v (by omega) (by omega)
theorem lc_prep1 {h : lh_HS} (I : lh_I h) : ∀ (n i : Nat) (g : lh_HS), i + n = lh_N h 3 → lh_fr h g → (∀ q z, q < 27 ∨ 36 < q ∨ q = 30 → LX1_prep1_h n i g q z = g q z) ∧ (∀ v, v < i → LX1_prep1_h n i g 36 v = g 36 v) ∧ (∀ v, i ≤ v → v < i + n → LX1_prep1_h n i g 36 v = lp_lf h v) ∧ ∀ v, v < lh_N h 6 → LX1_prep1_h n i g 32 v = -4 ∧ LX1_prep1_h n i g 34 v = lp_lt h v ∧ LX1_prep1_h n i g 33 v = fX1_sheetsFor h (nI v) := by
  have hS := I.1.2.1.2
  intro n
  induction n with
  | zero =>
    intro i g hi f
    simp only [LX1_prep1_h]
    obtain ⟨p1, -, p3⟩ := lc_prep2 I (lh_N g 6) 0 g (by rw [f.N (c := 6) (by decide) (by decide)]; omega) f
    refine ⟨fun q z hq => p1 q z (by omega) (by omega) (by omega), fun v _ => p1 36 v (by decide) (by decide) (by decide), fun v h1 h2 => by omega, fun v hv => p3 v (by omega) (by rw [f.N (c := 6) (by decide) (by decide)]; omega)⟩
  | succ n ih =>
    intro i g hi f
    have ci : (nI i).toNatClampNeg = i := nI_clamp (by omega)
    have f1 : lh_fr h (gX3_openAt g (nI i)) := f.tr (lh_q.openAt g (nI i)).fr
    simp only [LX1_prep1_h]
    rw [ci, show fX3_leftEnd (gX3_openAt g (nI i)) 0 = lp_lf h i from lp_lf_fr I f (by omega)]
    generalize hg1 : lh_up (gX3_openAt g (nI i)) 36 i (lp_lf h i) = g1
    have f2 : lh_fr h g1 := by rw [← hg1]; exact f1.up (by decide)
    obtain ⟨p1, p2, p3, p4⟩ := ih (i + 1) g1 (by omega) f2
    refine ⟨fun q z hq => ?_, fun v hv => ?_, fun v h1 h2 => ?_, p4⟩
    · rw [p1 q z hq, ← hg1, lh_up_ne (Or.inl (by omega)), fr_openAt _ _ q (by omega) (by omega) (by omega)]
    · rw [p2 v (by omega), ← hg1, lh_up_ne (Or.inr (by omega)), fr_openAt _ _ 36 (by decide) (by decide) (by decide)]
    · by_cases e : v = i
      · rw [e, p2 i (by omega), ← hg1, lh_up_eq]
      · exact p3 v (by omega) (by omega)
/-- what find leaves: the hang is known, and nothing of the house or of the reference has changed -/
theorem lc_fd {h : lh_HS} (I : lh_I h) (C : lh_CV h) : gX1_find h 30 2 = 1 ∧ lc_R (lh_N h 6) (gX1_find h) (lp_SP h) ∧ (∀ w, w < lh_N h 6 → gX1_find h 34 w = lp_lt h w) ∧ ∀ q z, q < 27 ∨ 36 < q → gX1_find h q z = h q z := by
  have hW := I.1.2.2.2.2.2
  unfold gX1_find
  by_cases c0 : h 30 2 = 0
  · rw [if_pos c0]
    obtain ⟨p1, -, p3, p4⟩ := lc_prep1 I (lh_N h 3) 0 h (by omega) (lh_fr.rf h)
    have fp : lh_fr h (gX1_prepare h) := fr_prepare (lh_fr.rf h)
    have e6 : (gX1_prepare h 6 0).toNatClampNeg = lh_N h 6 := fp.N (c := 6) (by decide) (by decide)
    rw [e6]
    rw [show LX1_prep1_h (lh_N h 3) 0 h = gX1_prepare h from rfl] at p1 p3 p4
    generalize gX1_prepare h = g at fp p1 p3 p4 ⊢
    generalize hg0 : lh_up (lh_up g 30 4 0) 35 (lh_N h 6) 0 = g0
    have f0 : lc_f g g0 := fun q z h1 h2 h3 => by rw [← hg0, lh_up_ne (Or.inl h3), lh_up_ne (Or.inl h1)]
    have K : lc_K h (fun _ => -4) 0 g := ⟨fp, fun v hv => ⟨(p4 v hv).2.2, (p4 v hv).2.1⟩, fun v hv => (p4 v hv).1, fun s hs => p3 s (by omega) (by omega)⟩
    obtain ⟨q1, q2, q3⟩ := lc_find I rfl (lh_N h 6) g0 (Nat.le_refl _) (K.f f0) (fun v h1 h2 => by
      rw [show v = lh_N h 6 by omega, ← hg0, lh_up_eq]
      refine ⟨by decide, by decide, by decide, ?_⟩
      rw [Nat.sub_self]
      show (0 : Int32).toInt ≤ (0 : Int32).toInt
      exact Int.le_refl _) (fun x => by
      have x : lh_N h 6 = 0 := by omega
      rw [x]
      refine ⟨?_, fun v hv => by omega⟩
      rw [← hg0, lh_up_ne (Or.inl (by decide)), lh_up_eq]
      rfl)
    have q3' : lc_R (lh_N h 6) (LX1_find_h (lh_N h 6) (lh_N h 6) g0) (lp_SP h) := by rw [lp_SPe I]; exact q3
    refine ⟨q2, q3', fun w hw => ?_, fun q z hq => ?_⟩
    · rw [q1 34 w (by decide) (by decide) (by decide), f0 34 w (by decide) (by decide) (by decide)]
      exact (p4 w hw).2.1
    · rw [q1 q z (by omega) (by omega) (by omega), f0 q z (by omega) (by omega) (by omega), p1 q z (by omega)]
  · rw [if_neg c0]
    rcases C with C | ⟨C1, C2, C3⟩
    · exact absurd C c0
    · exact ⟨C1, ⟨C2, fun v hv => (C3 v hv).1⟩, fun w hw => (C3 w hw).2, fun _ _ _ => rfl⟩
