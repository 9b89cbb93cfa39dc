/-! THE HANG, as the class finds it: what is read, and what fits -/
theorem lp_th_fr {h h' : lh_HS} (f : lh_fr h h') (n t : Int32) : fX5_hasTheme h' n t = fX5_hasTheme h n t := by
  unfold fX5_hasTheme
  rw [f 10 (by decide) (by decide)]
theorem lp_sw_fr {h h' : lh_HS} (f : lh_fr h h') (s y a : Int32) : ∀ n i, LX0_shownWithin h' s y a n i = LX0_shownWithin h s y a n i := by
  have e : ∀ b, fX0_isLoan h' b = fX0_isLoan h b := fun b => by unfold fX0_isLoan; rw [f 17 (by decide) (by decide)]
  intro n
  induction n with
  | zero => intro i; rfl
  | succ n ih =>
    intro i
    simp only [LX0_shownWithin]
    rw [lb_sf_fr f, e, f 18 (by decide) (by decide), ih]
theorem lp_tn_fr {h h' : lh_HS} (f : lh_fr h h') (s y : Int32) : fX1_shownTooNear h' s y = fX1_shownTooNear h s y := by
  unfold fX1_shownTooNear fX0_shownWithin
  rw [f 12 (by decide) (by decide), f 13 (by decide) (by decide), f.N (c := 4) (by decide) (by decide), lp_sw_fr f, lp_sw_fr f]
theorem lp_ssL_fr {h h' : lh_HS} (f : lh_fr h h') (wl : Int32) : ∀ n i a, LX1_sheetsFor h' wl n i a = LX1_sheetsFor h wl n i a := by
  intro n
  induction n with
  | zero => intro i a; rfl
  | succ n ih =>
    intro i a
    simp only [LX1_sheetsFor]
    rw [lp_th_fr f, lp_tn_fr f, f 26 (by decide) (by decide), f 25 (by decide) (by decide), ih, ih]
theorem lp_ss_fr {h h' : lh_HS} (f : lh_fr h h') (wl : Int32) : fX1_sheetsFor h' wl = fX1_sheetsFor h wl := by
  unfold fX1_sheetsFor
  rw [f.N (c := 3) (by decide) (by decide), lp_ssL_fr f]
theorem lp_lf_fr {h h' : lh_HS} (I : lh_I h) (f : lh_fr h h') {s : Nat} (hs : s < lh_N h 3) : lp_lf h' s = lp_lf h s := by
  rw [lp_lf_e (I.fr f) (by rw [f.N (c := 3) (by decide) (by decide)]; exact hs), lp_lf_e I hs, lb_sp_fr' f, f 9 (by decide) (by decide)]
theorem lp_spw_fr {h h' : lh_HS} (I : lh_I h) (f : lh_fr h h') {s : Nat} (hs : s < lh_N h 3) (c : Nat → Int32) : ∀ w, lp_sp h' c s w = lp_sp h c s w := by
  intro w
  induction w with
  | zero => exact lp_lf_fr I f hs
  | succ w ih => simp only [lp_sp]; rw [ih, lp_lt_fr f]
theorem lp_cfb_fr {h h' : lh_HS} (f : lh_fr h h') (c : Nat → Int32) (w s v : Nat) : lp_cfb h' c w s v = lp_cfb h c w s v := by
  unfold lp_cfb
  rw [f 12 (by decide) (by decide), f 25 (by decide) (by decide), f 13 (by decide) (by decide)]
theorem lp_okb_fr {h h' : lh_HS} (I : lh_I h) (f : lh_fr h h') {s : Nat} (hs : s < lh_N h 3) (c : Nat → Int32) (w : Nat) : lp_okb h' c w s = lp_okb h c w s := by
  unfold lp_okb
  rw [lp_th_fr f, lp_tn_fr f, f 26 (by decide) (by decide), f 25 (by decide) (by decide), lp_lt_fr f, lp_spw_fr I f hs]
  simp only [lp_cfb_fr f]
theorem lp_B_cg {nS : Nat} {ok ok' : (Nat → Int32) → Nat → Nat → Bool} {val val' : Nat → Int32} (H : ∀ c w s, s < nS → ok' c w s = ok c w s) (hv : ∀ s, s < nS → val' s = val s) : ∀ (d w : Nat) (ws : Int32) (c : Nat → Int32) (a : lp_A), lp_B nS ok' val' d w ws c a = lp_B nS ok val d w ws c a := by
  intro d
  induction d with
  | zero => intro w ws c a; rfl
  | succ d ih =>
    intro w ws c a
    have key : ∀ n i (a : lp_A), i + n ≤ nS → lp_L (lp_B nS ok' val' d (w + 1)) (fun s => ok' c w s) val' w ws c n i a = lp_L (lp_B nS ok val d (w + 1)) (fun s => ok c w s) val w ws c n i a := by
      intro n
      induction n with
      | zero => intro i a _; exact ih _ _ _ _
      | succ n ihn =>
        intro i a hi
        simp only [lp_L]
        have e := H c w i (by omega)
        by_cases q : ok c w i = true
        · rw [if_pos (e.trans q), if_pos q, hv i (by omega), ih, ihn _ _ (by omega)]
        · rw [if_neg (fun x => q (e.symm.trans x)), if_neg q, ihn _ _ (by omega)]
    exact key nS 0 a (by omega)
theorem lh_fr_hm (h : lh_HS) : lh_fr h (lh_hm h) := fun q h1 h2 => by unfold lh_hm; rw [if_pos ⟨h1, h2⟩]
theorem lp_SPe {h : lh_HS} (I : lh_I h) : lp_SP h = lp_SP0 h := by
  have f := lh_fr_hm h
  unfold lp_SP lp_SP0
  rw [f.N (c := 3) (by decide) (by decide), f.N (c := 6) (by decide) (by decide), f 11 (by decide) (by decide)]
  exact lp_B_cg (fun c w s hs => lp_okb_fr I f hs c w) (fun _ _ => rfl) _ _ _ _ _
theorem lp_sp_cg {h : lh_HS} {c c' : Nat → Int32} {s : Nat} : ∀ w, (∀ v, v < w → c' v = c v) → lp_sp h c' s w = lp_sp h c s w := by
  intro w
  induction w with
  | zero => intro _; rfl
  | succ w ih =>
    intro e
    simp only [lp_sp]
    rw [ih (fun v hv => e v (by omega)), e w (by omega)]
theorem lp_sp_n {h : lh_HS} {s : Nat} (hs : s < 100) : ∀ w, lp_sp h (fun _ => -4) s w = lp_lf h s := by
  intro w
  induction w with
  | zero => rfl
  | succ w ih => simp only [lp_sp]; rw [if_neg (lp_ne4 hs), ih]
theorem lp_bit (x y k : Int32) : (((x ||| y) >>> k) &&& 1 = 0) ↔ ((x >>> k) &&& 1 = 0 ∧ (y >>> k) &&& 1 = 0) := by
  have e : ((x >>> k) ||| (y >>> k)) &&& 1 = ((x >>> k) &&& 1) ||| ((y >>> k) &&& 1) := Int32.toBitVec_inj.1 BitVec.and_or_distrib_right
  rw [Int32.shiftRight_or, e, Int32.or_eq_zero_iff]
set_option maxRecDepth 100000 in
theorem lp_one : ∀ i, i < 8 → ∀ s, s < 8 → ((((1 : Int32) <<< (nI i &&& 31)) >>> (nI s &&& 31)) &&& 1 = 0 ↔ ¬ i = s) := by decide
theorem lp_zbit : ∀ s, s < 8 → (((0 : Int32) >>> (nI s &&& 31)) &&& 1 = 0) := by decide
theorem lp_sfb {h : lh_HS} {wl : Int32} : ∀ n i a, i + n ≤ 8 → ∀ s, s < 8 → ((LX1_sheetsFor h wl n i a >>> (nI s &&& 31)) &&& 1 = 0 ↔ ((a >>> (nI s &&& 31)) &&& 1 = 0 ∧ ¬ (i ≤ s ∧ s < i + n ∧ ¬ fX5_hasTheme h (nI s) (h 26 wl.toNatClampNeg) = 0 ∧ fX1_shownTooNear h (nI s) (h 25 wl.toNatClampNeg) = 0))) := by
  intro n
  induction n with
  | zero =>
    intro i a hi s hs
    simp only [LX1_sheetsFor]
    exact ⟨fun z => ⟨z, fun x => by omega⟩, fun z => z.1⟩
  | succ n ih =>
    intro i a hi s hs
    simp only [LX1_sheetsFor]
    by_cases c1 : fX5_hasTheme h (nI i) (h 26 wl.toNatClampNeg) = 0
    · rw [if_pos c1, ih (i + 1) a (by omega) s hs]
      refine and_congr_right fun _ => not_congr ⟨fun x => ⟨by omega, by omega, x.2.2⟩, fun x => ?_⟩
      by_cases e : s = i
      · rw [e] at x; exact absurd c1 x.2.2.1
      · exact ⟨by omega, by omega, x.2.2⟩
    · by_cases c2 : fX1_shownTooNear h (nI i) (h 25 wl.toNatClampNeg) = 0
      · rw [if_neg c1, if_pos c2, ih (i + 1) _ (by omega) s hs, lp_bit, lp_one i (by omega) s hs]
        refine ⟨fun x => ⟨x.1.1, fun y => ?_⟩, fun x => ⟨⟨x.1, fun e => ?_⟩, fun y => x.2 ⟨by omega, by omega, y.2.2⟩⟩⟩
        · have := x.1.2
          exact x.2 ⟨by omega, by omega, y.2.2⟩
        · rw [e] at c1 c2
          exact x.2 ⟨by omega, by omega, c1, c2⟩
      · rw [if_neg c1, if_neg c2, ih (i + 1) a (by omega) s hs]
        refine and_congr_right fun _ => not_congr ⟨fun x => ⟨by omega, by omega, x.2.2⟩, fun x => ?_⟩
        by_cases e : s = i
        · rw [e] at x; exact absurd x.2.2.2 c2
        · exact ⟨by omega, by omega, x.2.2⟩
theorem lp_fL {h g : lh_HS} (I : lh_I h) (f : lh_fr h g) {w s : Nat} {c : Nat → Int32} (hw : w < lh_N h 6) (hs : s < lh_N h 3) (hc : ∀ v, v < w → g 32 v = c v) : ∀ n i, i + n ≤ w → (¬ LX1_fits g (nI w) (nI s) (h 25 w) n i = 0 ↔ ∀ v, i ≤ v → v < i + n → ¬ lp_cf h c w s v) := by
  have hW := I.1.2.2.2.2.2
  have hS := I.1.2.1.2
  intro n
  induction n with
  | zero =>
    intro i hi
    simp only [LX1_fits]
    exact ⟨fun _ v h1 h2 => by omega, fun _ => by decide⟩
  | succ n ih =>
    intro i hi
    have q := ih (i + 1) (by omega)
    simp only [LX1_fits]
    rw [nI_clamp (n := i) (by omega), nI_clamp (n := s) (by omega), hc i (by omega), f 12 (by decide) (by decide), f 25 (by decide) (by decide), f 13 (by decide) (by decide), show (if 0 ≤ (h 25 i - h 25 w) then h 25 i - h 25 w else 0 - (h 25 i - h 25 w)) = lp_aw (h 25 i) (h 25 w) from rfl]
    generalize LX1_fits g (nI w) (nI s) (h 25 w) n (i + 1) = R at q ⊢
    by_cases z : lp_cf h c w s i
    · refine ⟨fun x => absurd ?_ x, fun x => absurd z (x i (by omega) (by omega))⟩
      rcases z with ⟨e, l⟩ | ⟨n4, e, l⟩
      · rw [if_pos e, if_neg l]
      · have t : (if c i = -4 then R else if c i = h 13 s then (if lp_aw (h 25 i) (h 25 w) = 0 then 0 else R) else R) = 0 := by rw [if_neg n4, if_pos e, if_pos l]
        rw [t, ite_self, ite_self]
    · have t : (if c i = -4 then R else if c i = h 13 s then (if lp_aw (h 25 i) (h 25 w) = 0 then 0 else R) else R) = R := by
        by_cases n4 : c i = -4
        · rw [if_pos n4]
        · rw [if_neg n4]
          by_cases e : c i = h 13 s
          · rw [if_pos e, if_neg (fun l => z (Or.inr ⟨n4, e, l⟩))]
          · rw [if_neg e]
      have t2 : (if c i = nI s then (if h 12 s < lp_aw (h 25 i) (h 25 w) then R else 0) else R) = R := by
        by_cases e : c i = nI s
        · rw [if_pos e]
          by_cases l : h 12 s < lp_aw (h 25 i) (h 25 w)
          · rw [if_pos l]
          · exact absurd (Or.inl ⟨e, l⟩) z
        · rw [if_neg e]
      rw [t, t2, q]
      refine ⟨fun x v h1 h2 => ?_, fun x v h1 h2 => x v (by omega) (by omega)⟩
      by_cases e : v = i
      · rw [e]; exact z
      · exact x v (by omega) (by omega)
theorem lp_fitE {h g : lh_HS} (I : lh_I h) (f : lh_fr h g) {w s : Nat} {c : Nat → Int32} (hw : w < lh_N h 6) (hs : s < lh_N h 3) (hc : ∀ v, v < w → g 32 v = c v) (h33 : g 33 w = fX1_sheetsFor h (nI w)) (h34 : g 34 w = lp_lt h w) (h36 : g 36 s = lp_sp h c s w) : ¬ fX1_fits g (nI w) (nI s) = 0 ↔ lp_okb h c w s = true := by
  have hW := I.1.2.2.2.2.2
  have hS := I.1.2.1.2
  have q := lp_sfb (h := h) (wl := nI w) (lh_N h 3) 0 0 (by omega) s (by omega)
  have l := lp_fL I f hw hs hc w 0 (by omega)
  rw [lp_okb_iff]
  unfold fX1_fits lp_ok
  rw [nI_clamp (n := w) (by omega)] at q ⊢
  rw [nI_clamp (n := s) (by omega), h33, h34, h36, f 25 (by decide) (by decide)]
  unfold fX1_sheetsFor
  by_cases b : (LX1_sheetsFor h (nI w) (lh_N h 3) 0 0 >>> (nI s &&& 31)) &&& 1 = 0
  · rw [if_pos b]
    refine ⟨fun x => absurd rfl x, fun x => absurd ?_ (q.mp b).2⟩
    exact ⟨by omega, by omega, x.1, x.2.1⟩
  · have t : ¬ fX5_hasTheme h (nI s) (h 26 w) = 0 ∧ fX1_shownTooNear h (nI s) (h 25 w) = 0 := by
      refine Classical.byContradiction fun x => b (q.mpr ⟨lp_zbit s (by omega), fun y => x y.2.2⟩)
    rw [if_neg b]
    by_cases m : lp_lt h w ≤ lp_sp h c s w
    · rw [if_pos m, l]
      exact ⟨fun x => ⟨t.1, t.2, m, fun v hv => x v (by omega) (by omega)⟩, fun x v _ hv => x.2.2.2 v (by omega)⟩
    · rw [if_neg m]
      exact ⟨fun x => absurd rfl x, fun x => absurd x.2.2.1 m⟩
