/-! THE HANG, as the reference finds it: the search -/
def lr_val (h : lh_HS) (x : Int32) : Int32 := if x = -4 then 0 else h 11 x.toNatClampNeg
def lr_sum (h : lh_HS) (c : Nat → Int32) : Nat → Int32
  | 0 => 0
  | w + 1 => lr_sum h c w + lr_val h (c w)
theorem lr_sum_cg {h : lh_HS} {c c' : Nat → Int32} : ∀ w, (∀ v, v < w → c' v = c v) → lr_sum h c' w = lr_sum h c w := by
  intro w
  induction w with
  | zero => intro _; rfl
  | succ w ih =>
    intro e
    simp only [lr_sum]
    rw [ih (fun v hv => e v (by omega)), e w (by omega)]
def lr_R (h g : lh_HS) (a : lp_A) : Prop := g 37 16 = a.1 ∧ (a.1 = -1 ∨ ∀ v, v < lh_N h 6 → g 48 v = lr_n h (a.2 v))
theorem lr_R.up {h g : lh_HS} {a : lp_A} (x : lr_R h g a) (j : Nat) (v : Int32) : lr_R h (lh_up g 47 j v) a := by
  refine ⟨?_, x.2.imp id fun y v hv => ?_⟩
  · rw [lh_up_ne (Or.inl (by decide))]; exact x.1
  · rw [lh_up_ne (Or.inl (by decide))]; exact y v hv
def lr_K (h : lh_HS) (c : Nat → Int32) (w : Nat) (g : lh_HS) : Prop := lh_fm h g ∧ (∀ v, v < w → g 47 v = lr_n h (c v)) ∧ ∀ s, s < lh_N h 3 → g 49 s = lp_lf h s
theorem lr_e38 {h g : lh_HS} (I : lh_I h) (R : lh_RM h) (f : lh_fm h g) : g 38 1 = nI (lh_N h 3) := by
  rw [f 38 (by decide) (by decide), R.1.2.1]
  exact I.1.2.1.1
theorem lr_valE {h g : lh_HS} (I : lh_I h) (R : lh_RM h) (f : lh_fm h g) {i : Nat} (hi : i < 100) {x : Int32} (v : lr_v h x) (e : g 47 i = lr_n h x) : fX9_valueOf g (nI i) = lr_val h x := by
  have hS := I.1.2.1.2
  unfold fX9_valueOf lr_val
  rw [nI_clamp (n := i) (by omega), e, lr_e38 I R f]
  rcases v with v | ⟨t, ht, et⟩
  · rw [v, lr_n4 I, if_pos rfl, if_pos rfl]
  · have n4 : ¬ x = -4 := fun z => lp_ne4 (s := t) (by omega) (z.symm.trans et)
    rw [lr_nn n4, if_neg n4, et, if_neg (fun z => by rw [nI_eq (by omega) (by omega)] at z; omega), (lh_st I ht).2.2.1, f 41 (by decide) (by decide), nI_clamp (by omega)]
    exact (R.2.2.1 t ht).2.2.1
theorem lr_t1 {h g : lh_HS} (I : lh_I h) (R : lh_RM h) (f : lh_fm h g) {c : Nat → Int32} {N : Nat} (hN : N ≤ 5) (hv : ∀ v, v < N → lr_v h (c v)) (hc : ∀ v, v < N → g 47 v = lr_n h (c v)) : ∀ (n i : Nat), i + n = N → LX9_takes1_h n i (lr_sum h c i) g = LX9_takes1_h 0 N (lr_sum h c N) g := by
  intro n
  induction n with
  | zero => intro i hi; rw [show i = N by omega]
  | succ n ih =>
    intro i hi
    rw [← ih (i + 1) (by omega)]
    simp only [LX9_takes1_h, lr_sum]
    rw [lr_valE I R f (by omega) (hv i (by omega)) (hc i (by omega))]
theorem lr_t2 (wo : Int32) : ∀ (n i : Nat) (g : lh_HS), i + n ≤ 5 → (∀ v, v < i → LX9_takes2_h wo n i g 48 v = g 48 v) ∧ ∀ v, i ≤ v → v < i + n → LX9_takes2_h wo n i g 48 v = g 47 v := by
  intro n
  induction n with
  | zero => intro i g hi; exact ⟨fun _ _ => rfl, fun v h1 h2 => by omega⟩
  | succ n ih =>
    intro i g hi
    simp only [LX9_takes2_h]
    rw [nI_clamp (n := i) (by omega)]
    obtain ⟨p1, p2⟩ := ih (i + 1) (lh_up g 48 i (g 47 i)) (by omega)
    refine ⟨fun v hv => ?_, fun v h1 h2 => ?_⟩
    · rw [p1 v (by omega), lh_up_ne (Or.inr (by omega))]
    · by_cases e : v = i
      · rw [e, p1 i (by omega), lh_up_eq]
      · rw [p2 v (by omega) (by omega), lh_up_ne (Or.inl (by decide))]
theorem lr_takes {h g : lh_HS} (I : lh_I h) (R : lh_RM h) (f : lh_fm h g) {c : Nat → Int32} (hv : ∀ v, v < lh_N h 6 → lr_v h (c v)) (hc : ∀ v, v < lh_N h 6 → g 47 v = lr_n h (c v)) {a : lp_A} (Ra : lr_R h g a) : lr_R h (gX9_takes g) (if a.1 < lr_sum h c (lh_N h 6) then (lr_sum h c (lh_N h 6), c) else a) := by
  have hW := I.1.2.2.2.2.2
  have e : gX9_takes g = LX9_takes1_h 0 (lh_N h 6) (lr_sum h c (lh_N h 6)) g := by
    unfold gX9_takes
    rw [f.m, R.m.2.2.2.2]
    exact lr_t1 I R f hW hv hc (lh_N h 6) 0 (by omega)
  rw [e]
  simp only [LX9_takes1_h]
  rw [Ra.1]
  generalize lr_sum h c (lh_N h 6) = ws
  by_cases q : a.1 < ws
  · rw [if_pos q, if_neg (show ¬ ws ≤ a.1 by rw [Int32.lt_iff_toInt_lt] at q; rw [Int32.le_iff_toInt_le]; omega)]
    refine ⟨?_, Or.inr fun v hv => ?_⟩
    · rw [ne_takes2 _ _ _ _ _ (by decide), lh_up_eq]
    · rw [(lr_t2 ws 5 0 _ (by decide)).2 v (by omega) (by omega), lh_up_ne (Or.inl (by decide))]
      exact hc v hv
  · rw [if_neg q, if_pos (show ws ≤ a.1 by rw [Int32.lt_iff_toInt_lt] at q; rw [Int32.le_iff_toInt_le]; omega)]
    exact Ra
theorem lr_place {h : lh_HS} (I : lh_I h) (R : lh_RM h) : ∀ (d w : Nat) (c : Nat → Int32) (g : lh_HS) (a : lp_A), w + d = lh_N h 6 → (∀ v, v < w → lr_v h (c v)) → lr_K h c w g → (0 < d → g 47 w = -1) → lr_R h g a → lr_R h (gS d w g) (lp_B (lh_N h 3) (lp_okb h) (h 11) d w (lr_sum h c w) c a) := by
  have hW := I.1.2.2.2.2.2
  have hS := I.1.2.1.2
  intro d
  induction d with
  | zero =>
    intro w c g a hd hv K _ Ra
    have e : w = lh_N h 6 := by omega
    rw [e] at hv K ⊢
    exact lr_takes I R K.1 hv K.2.1 Ra
  | succ d ih =>
    intro w c g a hd hv K hm Ra
    have hw : w < lh_N h 6 := by omega
    have cw : (nI w).toNatClampNeg = w := nI_clamp (by omega)
    have cw1 : (nI w + 1).toNatClampNeg = w + 1 := by rw [nI_1, nI_clamp (by omega)]
    have key : ∀ n i (g : lh_HS) (a : lp_A), i + n = lh_N h 3 → lr_K h c w g → g 47 w = nI i - 1 → lr_R h g a → lr_R h (gS_L (gS d (w + 1)) w (n + 1) g) (lp_L (lp_B (lh_N h 3) (lp_okb h) (h 11) d (w + 1)) (fun s => lp_okb h c w s) (h 11) w (lr_sum h c w) c n i a) := by
      have down : ∀ i (g : lh_HS) (a : lp_A) (x : Int32), lr_v h x → lr_n h x = nI i → lr_K h c w g → g 47 w = nI i - 1 → lr_R h g a → lr_R h (gS d (w + 1) (lh_up (lh_up g 47 w (nI i)) 47 (w + 1) (-1))) (lp_B (lh_N h 3) (lp_okb h) (h 11) d (w + 1) (lr_sum h c w + lr_val h x) (upd c w x) a) := by
        intro i g a x vx nx K e47 Ra
        have es : lr_sum h c w + lr_val h x = lr_sum h (upd c w x) (w + 1) := by
          simp only [lr_sum]
          rw [lr_sum_cg (c := c) w (fun v hv => lh_un (by omega)), lh_ue]
        rw [es]
        refine ih (w + 1) (upd c w x) _ a (by omega) (fun v hv' => ?_) ⟨(K.1.up (by decide)).up (by decide), fun v hv' => ?_, fun s hs => ?_⟩ (fun _ => lh_up_eq _ _ _ _) ((Ra.up _ _).up _ _)
        · by_cases e : v = w
          · rw [e, lh_ue]; exact vx
          · rw [lh_un e]; exact hv v (by omega)
        · rw [lh_up_ne (Or.inr (by omega))]
          by_cases e : v = w
          · rw [e, lh_ue, lh_up_eq]; exact nx.symm
          · rw [lh_un e, lh_up_ne (Or.inr e)]; exact K.2.1 v (by omega)
        · rw [lh_up_ne (Or.inl (by decide)), lh_up_ne (Or.inl (by decide))]; exact K.2.2 s hs
      intro n
      induction n with
      | zero =>
        intro i g a hi K e47 Ra
        have ei : i = lh_N h 3 := by omega
        have e1 : g 47 w + 1 = nI i := by rw [e47, Int32.sub_add_cancel]
        have F1 : ¬ fX9_fits (lh_up g 47 w (nI i)) (nI w) = 0 := by
          unfold fX9_fits
          rw [cw, lh_up_eq, lr_e38 I R (K.1.up (i := 47) (j := w) (v := nI i) (by decide)), ei, if_pos rfl]
          decide
        have p := down i g a (-4) (Or.inl rfl) (by rw [lr_n4 I, ei]) K e47 Ra
        rw [show lr_val h (-4) = 0 from by unfold lr_val; rw [if_pos rfl], Int32.add_zero] at p
        simp only [gS_L, lp_L]
        rw [cw, cw1, e1, if_neg F1]
        exact p.up _ _
      | succ n ihn =>
        intro i g a hi K e47 Ra
        have hs : i < lh_N h 3 := by omega
        have e1 : g 47 w + 1 = nI i := by rw [e47, Int32.sub_add_cancel]
        have e2 : nI i = nI (i + 1) - 1 := by rw [← nI_1, Int32.add_sub_cancel]
        have K1 : lr_K h c w (lh_up g 47 w (nI i)) := ⟨K.1.up (by decide), fun v hv' => by rw [lh_up_ne (Or.inr (by omega))]; exact K.2.1 v hv', fun s hs => by rw [lh_up_ne (Or.inl (by decide))]; exact K.2.2 s hs⟩
        have fe := lr_fitE I R K1.1 hw hs hv K1.2.1 (lh_up_eq _ _ _ _) (K1.2.2 i hs)
        unfold gS_L
        simp only [lp_L]
        rw [cw, cw1, e1]
        by_cases q : lp_okb h c w i = true
        · rw [if_neg (fe.mpr q), if_pos q]
          have p := down i g a (nI i) (Or.inr ⟨i, hs, rfl⟩) ((lr_n_s I hs).mpr rfl) K e47 Ra
          have ev : lr_val h (nI i) = h 11 i := by
            unfold lr_val
            rw [if_neg (fun z => lp_ne4 (s := i) (by omega) z.symm), nI_clamp (by omega)]
          rw [ev] at p
          have K2 : lr_K h c w (lh_up (lh_up g 47 w (nI i)) 47 (w + 1) (-1)) := ⟨K1.1.up (by decide), fun v hv' => by rw [lh_up_ne (Or.inr (by omega))]; exact K1.2.1 v hv', fun s hs => by rw [lh_up_ne (Or.inl (by decide))]; exact K1.2.2 s hs⟩
          have e3 : lh_up (lh_up g 47 w (nI i)) 47 (w + 1) (-1) 47 w = nI i := by rw [lh_up_ne (Or.inr (by omega)), lh_up_eq]
          generalize lh_up (lh_up g 47 w (nI i)) 47 (w + 1) (-1) = g2 at p K2 e3 ⊢
          have nS := fun (q z : Nat) (h1 : q ≠ 48) (h2 : q ≠ 37 ∨ z ≠ 16) (h3 : q ≠ 47 ∨ z < w + 1) => ne_gS d (w + 1) g2 q z (by omega) h1 h2 h3
          have K3 : lr_K h c w (gS d (w + 1) g2) := ⟨fm_gS K2.1 d (w + 1) (by omega), fun v hv' => by rw [nS 47 v (by decide) (Or.inl (by decide)) (Or.inr (by omega))]; exact K2.2.1 v hv', fun s hs => by rw [nS 49 s (by decide) (Or.inl (by decide)) (Or.inl (by decide))]; exact K2.2.2 s hs⟩
          exact ihn (i + 1) _ _ (by omega) K3 (by rw [nS 47 w (by decide) (Or.inl (by decide)) (Or.inr (by omega)), e3]; exact e2) p
        · have fz : fX9_fits (lh_up g 47 w (nI i)) (nI w) = 0 := Classical.byContradiction fun x => q (fe.mp x)
          rw [if_pos fz, if_neg q]
          exact ihn (i + 1) _ a (by omega) K1 (by rw [lh_up_eq]; exact e2) (Ra.up _ _)
    simp only [gS]
    rw [K.1.m, R.m.2.1]
    exact key (lh_N h 3) 0 g a (by omega) K (by rw [hm (by omega)]; decide) Ra
theorem lp_vals {nS : Nat} {ok : (Nat → Int32) → Nat → Nat → Bool} {val : Nat → Int32} : ∀ (d w : Nat) (ws : Int32) (c : Nat → Int32) (a : lp_A), (∀ v, c v = -4 ∨ lh_ix (c v) nS) → (a.1 = -1 ∨ ∀ v, a.2 v = -4 ∨ lh_ix (a.2 v) nS) → ((lp_B nS ok val d w ws c a).1 = -1 ∨ ∀ v, (lp_B nS ok val d w ws c a).2 v = -4 ∨ lh_ix ((lp_B nS ok val d w ws c a).2 v) nS) := by
  intro d
  induction d with
  | zero =>
    intro w ws c a hc ha
    simp only [lp_B]
    by_cases q : a.1 < ws
    · rw [if_pos q]; exact Or.inr hc
    · rw [if_neg q]; exact ha
  | succ d ih =>
    intro w ws c a hc ha
    have hu : ∀ x, (x = -4 ∨ lh_ix x nS) → ∀ v, upd c w x v = -4 ∨ lh_ix (upd c w x v) nS := by
      intro x hx v
      by_cases e : v = w
      · rw [e, lh_ue]; exact hx
      · rw [lh_un e]; exact hc v
    have key : ∀ n i (a : lp_A), i + n ≤ nS → (a.1 = -1 ∨ ∀ v, a.2 v = -4 ∨ lh_ix (a.2 v) nS) → ((lp_L (lp_B nS ok val d (w + 1)) (fun s => ok c w s) val w ws c n i a).1 = -1 ∨ ∀ v, (lp_L (lp_B nS ok val d (w + 1)) (fun s => ok c w s) val w ws c n i a).2 v = -4 ∨ lh_ix ((lp_L (lp_B nS ok val d (w + 1)) (fun s => ok c w s) val w ws c n i a).2 v) nS) := by
      intro n
      induction n with
      | zero => intro i a _ ha; exact ih _ _ _ _ (hu _ (Or.inl rfl)) ha
      | succ n ihn =>
        intro i a hi ha
        simp only [lp_L]
        by_cases q : ok c w i = true
        · rw [if_pos q]
          exact ihn _ _ (by omega) (ih _ _ _ _ (hu _ (Or.inr ⟨i, by omega, rfl⟩)) ha)
        · rw [if_neg q]
          exact ihn _ _ (by omega) ha
    exact key nS 0 a (by omega) ha
/-- THE HANG's worth is no less than 0, and its sheets are sheets -/
theorem lp_SPv {h : lh_HS} (I : lh_I h) : ¬ (lp_SP h).1 = -1 ∧ ∀ v, lr_v h ((lp_SP h).2 v) := by
  rw [lp_SPe I]
  have gt := lp_got (nS := lh_N h 3) (ok := lp_okb h) (val := h 11) (lh_N h 6) 0 0 (fun _ => -4) (-1, fun _ => 0)
  have nn := lp_none _ _ _ _ gt.2
  have vv := lp_vals (nS := lh_N h 3) (ok := lp_okb h) (val := h 11) (lh_N h 6) 0 0 (fun _ => -4) (-1, fun _ => 0) (fun _ => Or.inl rfl) (Or.inl rfl)
  unfold lp_SP0 lr_v
  generalize lp_B (lh_N h 3) (lp_okb h) (h 11) (lh_N h 6) 0 0 (fun _ => -4) (-1, fun _ => 0) = r at nn vv ⊢
  have ne : ¬ r.1 = -1 := fun z => by
    rw [z] at nn
    exact absurd nn (by decide)
  exact ⟨ne, vv.resolve_left ne⟩
def lr_f (g g' : lh_HS) : Prop := ∀ q z, (q ≠ 37 ∨ (z ≠ 10 ∧ z ≠ 11 ∧ z ≠ 12 ∧ z ≠ 16)) → q ≠ 47 → q ≠ 48 → q ≠ 49 → g' q z = g q z
theorem lr_fh1 {h : lh_HS} (I : lh_I h) (R : lh_RM h) (S : lh_ST h) : ∀ (n i : Nat) (g : lh_HS), i + n = lh_N h 3 → lh_fm h g → (∀ s, s < i → g 49 s = lp_lf h s) → lr_R h (LX9_fh1_h n i g) (lp_SP0 h) ∧ lr_f g (LX9_fh1_h n i g) := by
  have hW := I.1.2.2.2.2.2
  have hS := I.1.2.1.2
  intro n
  induction n with
  | zero =>
    intro i g hi f h49
    simp only [LX9_fh1_h]
    rw [f.m, R.m.2.2.2.2]
    refine ⟨?_, fun q z h1 h2 h3 h4 => ?_⟩
    · unfold lp_SP0
      refine lr_place I R (lh_N h 6) 0 (fun _ => -4) _ (-1, fun _ => 0) (by omega) (fun v hv => by omega) ⟨(f.up (by decide)).up (by decide), fun v hv => by omega, fun s hs => ?_⟩ (fun _ => lh_up_eq _ _ _ _) ⟨?_, Or.inl rfl⟩
      · rw [lh_up_ne (Or.inl (by decide)), lh_up_ne (Or.inl (by decide))]
        exact h49 s (by omega)
      · rw [lh_up_ne (Or.inl (by decide)), lh_up_eq]
    · rw [ne_gS _ _ _ q z (by omega) h3 (by omega) (Or.inl h2), lh_up_ne (Or.inl h2), lh_up_ne (by omega)]
  | succ n ih =>
    intro i g hi f h49
    have hs : i < lh_N h 3 := by omega
    simp only [LX9_fh1_h]
    rw [nI_clamp (n := i) (by omega)]
    have e := (lb_ref I R S f (s := nI i) ⟨i, hs, rfl⟩).2.2.2.2.1
    rw [nI_clamp (n := i) (by omega), ← lp_lf_e I hs] at e
    rw [e]
    have x := lh_q.leastLeft g (nI i)
    obtain ⟨p1, p2⟩ := ih (i + 1) (lh_up (gX9_leastLeft g (nI i)) 49 i (lp_lf h i)) (by omega) ((f.tr x.fm).up (by decide)) (fun s hs' => by
      by_cases e : s = i
      · rw [e, lh_up_eq]
      · rw [lh_up_ne (Or.inr e), x.row (q := 49) (by decide)]; exact h49 s (by omega))
    refine ⟨p1, fun q z h1 h2 h3 h4 => ?_⟩
    rw [p2 q z h1 h2 h3 h4, lh_up_ne (Or.inl h4), ge_leastLeft, ne_findPast _ _ _ _ (by omega)]
theorem lr_fh {h g : lh_HS} (I : lh_I h) (R : lh_RM h) (S : lh_ST h) (f : lh_fm h g) : gX9_findHang g 37 16 = (lp_SP h).1 ∧ (∀ v, v < lh_N h 6 → gX9_findHang g 48 v = lr_n h ((lp_SP h).2 v)) ∧ lr_f g (gX9_findHang g) := by
  have p := lr_fh1 I R S (lh_N h 3) 0 g (by omega) f (fun s hs => by omega)
  have e : gX9_findHang g = LX9_fh1_h (lh_N h 3) 0 g := by
    unfold gX9_findHang
    rw [f.m, R.m.2.1]
  rw [e]
  rw [← lp_SPe I] at p
  exact ⟨p.1.1, p.1.2.resolve_left (lp_SPv I).1, p.2⟩
