/-! THE HANG, pure: a bound on all leaves, and the cut -/
def lp_le (nS : Nat) (ok : (Nat → Int32) → Nat → Nat → Bool) (val : Nat → Int32) (M : Int) : Nat → Nat → Int32 → (Nat → Int32) → Prop
  | 0, _, ws, _ => ws.toInt ≤ M
  | d + 1, w, ws, c => lp_le nS ok val M d (w + 1) ws (upd c w (-4)) ∧ ∀ s, s < nS → ok c w s = true → lp_le nS ok val M d (w + 1) (ws + val s) (upd c w (nI s))
theorem lp_cut {nS : Nat} {ok : (Nat → Int32) → Nat → Nat → Bool} {val : Nat → Int32} {M : Int} : ∀ (d w : Nat) (ws : Int32) (c : Nat → Int32) (a : lp_A), lp_le nS ok val M d w ws c → M ≤ a.1.toInt → lp_B nS ok val d w ws c a = a := by
  intro d
  induction d with
  | zero =>
    intro w ws c a h1 h2
    have h1 : ws.toInt ≤ M := h1
    simp only [lp_B]
    rw [if_neg]
    rw [Int32.lt_iff_toInt_lt]
    omega
  | succ d ih =>
    intro w ws c a h1 h2
    obtain ⟨h0, hs⟩ := h1
    have key : ∀ n i, i + n ≤ nS → lp_L (lp_B nS ok val d (w + 1)) (fun s => ok c w s) val w ws c n i a = a := by
      intro n
      induction n with
      | zero => intro i hi; exact ih _ _ _ _ h0 h2
      | succ n ihn =>
        intro i hi
        simp only [lp_L]
        by_cases q : ok c w i = true
        · rw [if_pos q, ih _ _ _ _ (hs i (by omega) q) h2]; exact ihn _ (by omega)
        · rw [if_neg q]; exact ihn _ (by omega)
    exact key nS 0 (by omega)
theorem lp_le.mono {nS : Nat} {ok : (Nat → Int32) → Nat → Nat → Bool} {val : Nat → Int32} {M M' : Int} (hM : M ≤ M') : ∀ (d w : Nat) (ws : Int32) (c : Nat → Int32), lp_le nS ok val M d w ws c → lp_le nS ok val M' d w ws c := by
  intro d
  induction d with
  | zero => intro w ws c h1; exact Int.le_trans h1 hM
  | succ d ih => intro w ws c h1; exact ⟨ih _ _ _ h1.1, fun s hs q => ih _ _ _ (h1.2 s hs q)⟩
theorem lp_got {nS : Nat} {ok : (Nat → Int32) → Nat → Nat → Bool} {val : Nat → Int32} : ∀ (d w : Nat) (ws : Int32) (c : Nat → Int32) (a : lp_A), a.1.toInt ≤ (lp_B nS ok val d w ws c a).1.toInt ∧ lp_le nS ok val (lp_B nS ok val d w ws c a).1.toInt d w ws c := by
  intro d
  induction d with
  | zero =>
    intro w ws c a
    simp only [lp_B, lp_le]
    by_cases q : a.1 < ws
    · rw [if_pos q]
      rw [Int32.lt_iff_toInt_lt] at q
      exact ⟨Int.le_of_lt q, Int.le_refl _⟩
    · rw [if_neg q]
      rw [Int32.lt_iff_toInt_lt] at q
      exact ⟨Int.le_refl _, by omega⟩
  | succ d ih =>
    intro w ws c a
    have key : ∀ n i (a : lp_A), a.1.toInt ≤ (lp_L (lp_B nS ok val d (w + 1)) (fun s => ok c w s) val w ws c n i a).1.toInt ∧ lp_le nS ok val (lp_L (lp_B nS ok val d (w + 1)) (fun s => ok c w s) val w ws c n i a).1.toInt d (w + 1) ws (upd c w (-4)) ∧ ∀ s, i ≤ s → s < i + n → ok c w s = true → lp_le nS ok val (lp_L (lp_B nS ok val d (w + 1)) (fun s => ok c w s) val w ws c n i a).1.toInt d (w + 1) (ws + val s) (upd c w (nI s)) := by
      intro n
      induction n with
      | zero =>
        intro i a
        obtain ⟨x, y⟩ := ih (w + 1) ws (upd c w (-4)) a
        exact ⟨x, y, fun s h1 h2 => by omega⟩
      | succ n ihn =>
        intro i a
        simp only [lp_L]
        by_cases q : ok c w i = true
        · rw [if_pos q]
          obtain ⟨x, y⟩ := ih (w + 1) (ws + val i) (upd c w (nI i)) a
          obtain ⟨x1, x2, x3⟩ := ihn (i + 1) (lp_B nS ok val d (w + 1) (ws + val i) (upd c w (nI i)) a)
          refine ⟨Int.le_trans x x1, x2, fun s h1 h2 h3 => ?_⟩
          by_cases e : s = i
          · rw [e]; exact lp_le.mono x1 _ _ _ _ y
          · exact x3 s (by omega) (by omega) h3
        · rw [if_neg q]
          obtain ⟨x1, x2, x3⟩ := ihn (i + 1) a
          refine ⟨x1, x2, fun s h1 h2 h3 => ?_⟩
          by_cases e : s = i
          · rw [e] at h3; exact absurd h3 q
          · exact x3 s (by omega) (by omega) h3
    obtain ⟨x1, x2, x3⟩ := key nS 0 a
    exact ⟨x1, x2, fun s hs q => x3 s (by omega) (by omega) q⟩
/-- c0 is c, with nothing hung below w0 -/
def lp_rl (w0 : Nat) (c c0 : Nat → Int32) : Prop := (∀ v, v < w0 → c0 v = -4) ∧ ∀ v, w0 ≤ v → c0 v = c v
theorem lp_rl.up {w0 : Nat} {c c0 : Nat → Int32} (r : lp_rl w0 c c0) {w : Nat} (hw : w0 ≤ w) (x : Int32) : lp_rl w0 (upd c w x) (upd c0 w x) := by
  refine ⟨fun v hv => ?_, fun v hv => ?_⟩
  · rw [lh_un (by omega)]; exact r.1 v hv
  · by_cases e : v = w
    · rw [e, lh_ue, lh_ue]
    · rw [lh_un e, lh_un e]; exact r.2 v hv
theorem lp_dom {nS : Nat} {ok : (Nat → Int32) → Nat → Nat → Bool} {val : Nat → Int32} {w0 Wm : Nat} (hv : ∀ s, s < nS → 0 ≤ (val s).toInt ∧ (val s).toInt ≤ 9) (H : ∀ c c0 w s, lp_rl w0 c c0 → w0 ≤ w → w < Wm → s < nS → ok c w s = true → ok c0 w s = true) : ∀ (d w : Nat) (ws ws0 : Int32) (c c0 : Nat → Int32) (M K : Int), w0 ≤ w → w + d ≤ Wm → lp_rl w0 c c0 → ws.toInt = ws0.toInt + K → 0 ≤ ws0.toInt → 0 ≤ K → ws.toInt + 9 * d < 2 ^ 31 → lp_le nS ok val M d w ws0 c0 → lp_le nS ok val (M + K) d w ws c := by
  intro d
  induction d with
  | zero =>
    intro w ws ws0 c c0 M K hw hm r e h0 hK hb h1
    have h1 : ws0.toInt ≤ M := h1
    show ws.toInt ≤ M + K
    omega
  | succ d ih =>
    intro w ws ws0 c c0 M K hw hm r e h0 hK hb h1
    obtain ⟨x, y⟩ := h1
    refine ⟨ih _ _ _ _ _ _ _ (by omega) (by omega) (r.up hw _) e h0 hK (by omega) x, fun s hs q => ?_⟩
    obtain ⟨v1, v2⟩ := hv s hs
    have a1 : (ws + val s).toInt = ws.toInt + (val s).toInt := by
      rw [Int32.toInt_add]
      exact Int.bmod_eq_of_le (by omega) (by omega)
    have a0 : (ws0 + val s).toInt = ws0.toInt + (val s).toInt := by
      rw [Int32.toInt_add]
      exact Int.bmod_eq_of_le (by omega) (by omega)
    exact ih _ _ _ _ _ _ _ (by omega) (by omega) (r.up hw _) (by omega) (by omega) hK (by omega) (y s hs (H c c0 w s r hw (by omega) hs q))
