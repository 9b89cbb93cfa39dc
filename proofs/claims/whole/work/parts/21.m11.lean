def gS_L (G : lh_HS → lh_HS) (w : Nat) : Nat → lh_HS → lh_HS
  | 0, h => lh_up h 47 ((nI w).toNatClampNeg) ((h 47 (nI w).toNatClampNeg) + 1)
  | n + 1, h => if (fX9_fits (lh_up h 47 ((nI w).toNatClampNeg) ((h 47 (nI w).toNatClampNeg) + 1)) (nI w)) = 0 then gS_L G w n (lh_up h 47 ((nI w).toNatClampNeg) ((h 47 (nI w).toNatClampNeg) + 1)) else gS_L G w n (G (lh_up (lh_up h 47 ((nI w).toNatClampNeg) ((h 47 (nI w).toNatClampNeg) + 1)) 47 (((nI w) + 1).toNatClampNeg) (-1)))
def gS : Nat → Nat → lh_HS → lh_HS
  | 0, w, h => gX9_takes h
  | d + 1, w, h => gS_L (gS d (w + 1)) w (lh_m h 1 + 1) h
theorem ne_takes2 (wo : Int32) : ∀ (n i : Nat) (h : lh_HS) (q : Nat), q ≠ 48 → LX9_takes2_h wo n i h q = h q := by
  intro n
  induction n with
  | zero => intro i h q _; rfl
  | succ n ih =>
    intro i h q hq
    simp only [LX9_takes2_h]
    rw [ih _ _ q hq]
    funext z
    exact lh_up_ne (Or.inl hq)
theorem ne_takes1 : ∀ (n i : Nat) (acc : Int32) (h : lh_HS) (q z : Nat), q ≠ 48 → (q ≠ 37 ∨ z ≠ 16) → LX9_takes1_h n i acc h q z = h q z := by
  intro n
  induction n with
  | zero =>
    intro i acc h q z hq hz
    simp only [LX9_takes1_h]
    split
    · rfl
    · rw [ne_takes2 _ _ _ _ _ hq]; exact lh_up_ne hz
  | succ n ih =>
    intro i acc h q z hq hz
    simp only [LX9_takes1_h]
    exact ih _ _ _ q z hq hz
theorem ne_takes (h : lh_HS) (q z : Nat) (hq : q ≠ 48) (hz : q ≠ 37 ∨ z ≠ 16) : gX9_takes h q z = h q z := ne_takes1 _ _ _ _ q z hq hz
theorem fm_takes {a h : lh_HS} (f : lh_fm a h) : lh_fm a (gX9_takes h) := fun q h1 h2 => by
  rw [← f q h1 h2]; funext z; exact ne_takes h q z (by omega) (Or.inl (by omega))
/-- what the search leaves alone: all but the choices from w on, the best, the best's worth -/
theorem ne_gSL (G : lh_HS → lh_HS) (w : Nat) (hw : w < 5) (FG : ∀ (h : lh_HS) (q z : Nat), q ≠ 48 → (q ≠ 37 ∨ z ≠ 16) → (q ≠ 47 ∨ z ≤ w) → G h q z = h q z) : ∀ (n : Nat) (h : lh_HS) (q z : Nat), q ≠ 48 → (q ≠ 37 ∨ z ≠ 16) → (q ≠ 47 ∨ z < w) → gS_L G w n h q z = h q z := by
  have e0 : (nI w).toNatClampNeg = w := nI_clamp (by omega)
  have e1 : (nI w + 1).toNatClampNeg = w + 1 := by rw [nI_1, nI_clamp (by omega)]
  intro n
  induction n with
  | zero =>
    intro h q z h1 h2 h3
    simp only [gS_L]
    exact lh_up_ne (by omega)
  | succ n ih =>
    intro h q z h1 h2 h3
    simp only [gS_L]
    split
    · rw [ih _ q z h1 h2 h3]; exact lh_up_ne (by omega)
    · rw [ih _ q z h1 h2 h3, FG _ q z h1 h2 (by omega), lh_up_ne (by omega), lh_up_ne (by omega)]
theorem ne_gS : ∀ (d w : Nat) (h : lh_HS) (q z : Nat), w + d ≤ 5 → q ≠ 48 → (q ≠ 37 ∨ z ≠ 16) → (q ≠ 47 ∨ z < w) → gS d w h q z = h q z := by
  intro d
  induction d with
  | zero => intro w h q z _ h1 h2 _; exact ne_takes h q z h1 h2
  | succ d ih =>
    intro w h q z hd h1 h2 h3
    simp only [gS]
    exact ne_gSL _ w (by omega) (fun h q z g1 g2 g3 => ih (w + 1) h q z (by omega) g1 g2 (by omega)) _ _ q z h1 h2 h3
theorem fm_gS {a h : lh_HS} (f : lh_fm a h) (d w : Nat) (hd : w + d ≤ 5) : lh_fm a (gS d w h) := fun q h1 h2 => by
  rw [← f q h1 h2]; funext z; exact ne_gS d w h q z hd (by omega) (Or.inl (by omega)) (Or.inl (by omega))
set_option maxHeartbeats 4000000 in
set_option maxRecDepth 100000 in
theorem lp_hang0 {l : Launch} {D : va_G} {ad : Nat → Nat} {bs : Nat} {cI cZ : ClassId} {t9 : Nat} {k : Bool} {p : Program} {e : Env} {s : State} {m : MethodId} {args : Array Value} {below : List Frame} {meth : Method} {c : Code} {Q : State → Prop} (B : lh_BK p (lh_rm 7) s m args meth c D ad bs cI cZ t9 k "LightHoursModel" cX9_findHang 3 none) {w : Nat} {h : lh_HS} (J : lh_J h) (hch : lh_ch h (lh_m h 4)) (heq : nI w = h 38 4) (K : lh_AJ p l e (lh_rm 7) s m args below meth c D ad bs cI cZ k 3 Q 45 [(0, .ref (ad 37)), (1, .int (nI w + (-1))), (2, .int (if nI w + (-1) < 0 then 0 else 1))] [] (gX9_takes h)) : lh_AJ p l e (lh_rm 7) s m args below meth c D ad bs cI cZ k 3 Q 45 [(0, .ref (ad 37)), (1, .int (nI w)), (2, .int (1))] [] (h) := by
  refine la_iload_n (i := 2) B dX9_findHang_45 rfl rfl ?_
  refine la_if_eq (tgt := 131) B dX9_findHang_46 (by decide) (fun c46 => ?_) (fun c46 => ?_)
  · exact absurd c46 (by decide)
  · refine la_iload_n (i := 1) B dX9_findHang_49 rfl rfl ?_
    refine la_aload_n (i := 0) B dX9_findHang_50 rfl rfl ?_
    refine la_get (i := 37) (ci := 9) (j := 0) (C := RX9) (T := TX9) (N := 18) B (lh_nc_lt (by decide)) rfl ix_9 rfl (by decide) wd_673 rfl rfl dX9_findHang_51 ?_
    refine la_iconst (v := 4) B dX9_findHang_54 (by decide) ?_
    refine la_iald (i := 38) (v := h 38 4) B (lh_nc_lt (by decide)) rfl (by unfold vp_in; decide) rfl dX9_findHang_55 ?_
    refine la_icmp_ne (tgt := 69) B dX9_findHang_56 (by decide) (fun c56 => ?_) (fun c56 => ?_)
    · exact absurd heq c56
    · refine la_aload_n (i := 0) B dX9_findHang_59 rfl rfl ?_
      refine la_callVv (i := 37) B (ct_X9_takes h  J hch) lk_X9_125 (by decide) (lh_nc_lt (by decide)) rfl rfl rfl (by simp [Value.category]) dX9_findHang_60 ?_
      refine la_iincm B dX9_findHang_63 rfl (by decide) ?_
      refine la_goto (tgt := 118) B dX9_findHang_66 (by decide) ?_
      refine la_iload_n (i := 1) B dX9_findHang_118 rfl rfl ?_
      refine la_if_lt (tgt := 126) B dX9_findHang_119 (by decide) (fun c119 => ?_) (fun c119 => ?_)
      · refine la_iconst (v := 0) B dX9_findHang_126 (by decide) ?_
        refine la_istore_n (i := 2) B dX9_findHang_127 rfl (by decide) ?_
        refine la_goto (tgt := 45) B dX9_findHang_128 (by decide) ?_
        rw [if_pos c119] at K
        exact la_sub (lv2 := [(0, .ref (ad 37)), (1, .int (nI w + (-1))), (2, .int 0)]) ⟨rfl, rfl, rfl, trivial⟩ (by simp [Value.category]) K
      · refine la_iconst (v := 1) B dX9_findHang_122 (by decide) ?_
        refine la_goto (tgt := 127) B dX9_findHang_123 (by decide) ?_
        refine la_istore_n (i := 2) B dX9_findHang_127 rfl (by decide) ?_
        refine la_goto (tgt := 45) B dX9_findHang_128 (by decide) ?_
        rw [if_neg c119] at K
        exact la_sub (lv2 := [(0, .ref (ad 37)), (1, .int (nI w + (-1))), (2, .int 1)]) ⟨rfl, rfl, rfl, trivial⟩ (by simp [Value.category]) K
theorem fm_of_ne {w9 : Nat} {a h h' : lh_HS} (hn : ∀ (q z : Nat), q ≠ 48 → (q ≠ 37 ∨ z ≠ 16) → (q ≠ 47 ∨ z ≤ w9) → h' q z = h q z) (f : lh_fm a h) : lh_fm a h' := fun q h1 h2 => by
  rw [← f q h1 h2]; funext z; exact hn q z (by omega) (Or.inl (by omega)) (Or.inl (by omega))
set_option maxHeartbeats 4000000 in
set_option maxRecDepth 100000 in
theorem lp_hangL {l : Launch} {D : va_G} {ad : Nat → Nat} {bs : Nat} {cI cZ : ClassId} {t9 : Nat} {k : Bool} {p : Program} {e : Env} {s : State} {m : MethodId} {args : Array Value} {below : List Frame} {meth : Method} {c : Code} {Q : State → Prop} (B : lh_BK p (lh_rm 7) s m args meth c D ad bs cI cZ t9 k "LightHoursModel" cX9_findHang 3 none) {h0 : lh_HS} (J0 : lh_J h0) {w : Nat} (hw : w < lh_m h0 4) (G : lh_HS → lh_HS) (HG : ∀ (h : lh_HS), lh_fm h0 h → lh_ch h (w + 1) → h 47 (w + 1) = -1 → lh_AJ p l e (lh_rm 7) s m args below meth c D ad bs cI cZ k 3 Q 45 [(0, .ref (ad 37)), (1, .int (nI w)), (2, .int (1))] [] (G h) → lh_AJ p l e (lh_rm 7) s m args below meth c D ad bs cI cZ k 3 Q 45 [(0, .ref (ad 37)), (1, .int (nI w + 1)), (2, .int (1))] [] (h)) (FG : ∀ (h : lh_HS) (q z : Nat), q ≠ 48 → (q ≠ 37 ∨ z ≠ 16) → (q ≠ 47 ∨ z ≤ w) → G h q z = h q z) :
    ∀ (n cn : Nat) (h : lh_HS), cn + n = lh_m h0 1 + 1 → lh_fm h0 h → lh_ch h w → h 47 w + 1 = nI cn → lh_AJ p l e (lh_rm 7) s m args below meth c D ad bs cI cZ k 3 Q 45 [(0, .ref (ad 37)), (1, .int (nI w + (-1))), (2, .int (if nI w + (-1) < 0 then 0 else 1))] [] (gS_L G w n h) → lh_AJ p l e (lh_rm 7) s m args below meth c D ad bs cI cZ k 3 Q 45 [(0, .ref (ad 37)), (1, .int (nI w)), (2, .int (1))] [] (h) := by
  intro n
  induction n with
  | zero =>
    intro cn h hcn hf hk hv K
    simp only [gS_L] at K
    have hJ := J0.fm hf
    have hM5 := J0.1.2.2.2.2.2
    have hS8 := J0.1.2.1.2
    have e0 : (nI w).toNatClampNeg = w := nI_clamp (by omega)
    have hb : vp_in (nI w) 6 := vp_in_nI (by omega) (by omega)
    have h4 : h 38 4 = nI (lh_m h0 4) := by rw [hf 38 (by decide) (by decide)]; exact J0.1.2.2.2.2.1
    have h1 : h 38 1 = nI (lh_m h0 1) := by rw [hf 38 (by decide) (by decide)]; exact J0.1.2.1.1
    have hne : ¬ nI w = h 38 4 := by rw [h4, nI_eq (by omega) (by omega)]; omega
    have hv0 : h 47 (nI w).toNatClampNeg + 1 = nI cn := by rw [e0]; exact hv
    have hgt : ¬ (lh_up h 47 ((nI w).toNatClampNeg) ((h 47 (nI w).toNatClampNeg) + 1)) 47 (nI w).toNatClampNeg ≤ h 38 1 := by rw [lh_up_eq, hv0, h1, nI_leI (by omega) (by omega)]; omega
    refine la_iload_n (i := 2) B dX9_findHang_45 rfl rfl ?_
    refine la_if_eq (tgt := 131) B dX9_findHang_46 (by decide) (fun c46 => ?_) (fun c46 => ?_)
    · exact absurd c46 (by decide)
    · refine la_iload_n (i := 1) B dX9_findHang_49 rfl rfl ?_
      refine la_aload_n (i := 0) B dX9_findHang_50 rfl rfl ?_
      refine la_get (i := 37) (ci := 9) (j := 0) (C := RX9) (T := TX9) (N := 18) B (lh_nc_lt (by decide)) rfl ix_9 rfl (by decide) wd_673 rfl rfl dX9_findHang_51 ?_
      refine la_iconst (v := 4) B dX9_findHang_54 (by decide) ?_
      refine la_iald (i := 38) (v := h 38 4) B (lh_nc_lt (by decide)) rfl (by unfold vp_in; decide) rfl dX9_findHang_55 ?_
      refine la_icmp_ne (tgt := 69) B dX9_findHang_56 (by decide) (fun c56 => ?_) (fun c56 => ?_)
      · refine la_aload_n (i := 0) B dX9_findHang_69 rfl rfl ?_
        refine la_get (i := 37) (ci := 9) (j := 13) (C := RX9) (T := TX9) (N := 18) B (lh_nc_lt (by decide)) rfl ix_9 rfl (by decide) wd_686 rfl rfl dX9_findHang_70 ?_
        refine la_iload_n (i := 1) B dX9_findHang_73 rfl rfl ?_
        refine la_dup2 B dX9_findHang_74 rfl rfl ?_
        refine la_iald (i := 47) (v := h 47 (nI w).toNatClampNeg) B (lh_nc_lt (by decide)) rfl hb rfl dX9_findHang_75 ?_
        refine la_iconst (v := 1) B dX9_findHang_76 (by decide) ?_
        refine la_iadd B dX9_findHang_77 ?_
        refine la_iast (i := 47) (j := (nI w).toNatClampNeg) B (lh_nc_lt (by decide)) rfl rfl hb rfl dX9_findHang_78 ?_
        refine la_aload_n (i := 0) B dX9_findHang_79 rfl rfl ?_
        refine la_get (i := 37) (ci := 9) (j := 13) (C := RX9) (T := TX9) (N := 18) B (lh_nc_lt (by decide)) rfl ix_9 rfl (by decide) wd_686 rfl rfl dX9_findHang_80 ?_
        refine la_iload_n (i := 1) B dX9_findHang_83 rfl rfl ?_
        refine la_iald (i := 47) (v := (lh_up h 47 ((nI w).toNatClampNeg) (((h 47 (nI w).toNatClampNeg) + 1))) 47 (nI w).toNatClampNeg) B (lh_nc_lt (by decide)) rfl hb rfl dX9_findHang_84 ?_
        refine la_aload_n (i := 0) B dX9_findHang_85 rfl rfl ?_
        refine la_get (i := 37) (ci := 9) (j := 0) (C := RX9) (T := TX9) (N := 18) B (lh_nc_lt (by decide)) rfl ix_9 rfl (by decide) wd_673 rfl rfl dX9_findHang_86 ?_
        refine la_iconst (v := 1) B dX9_findHang_89 (by decide) ?_
        refine la_iald (i := 38) (v := h 38 1) B (lh_nc_lt (by decide)) rfl (by unfold vp_in; decide) rfl dX9_findHang_90 ?_
        refine la_icmp_le (tgt := 100) B dX9_findHang_91 (by decide) (fun c91 => ?_) (fun c91 => ?_)
        · exact absurd c91 hgt
        · refine la_iincm B dX9_findHang_94 rfl (by decide) ?_
          refine la_goto (tgt := 118) B dX9_findHang_97 (by decide) ?_
          refine la_iload_n (i := 1) B dX9_findHang_118 rfl rfl ?_
          refine la_if_lt (tgt := 126) B dX9_findHang_119 (by decide) (fun c119 => ?_) (fun c119 => ?_)
          · refine la_iconst (v := 0) B dX9_findHang_126 (by decide) ?_
            refine la_istore_n (i := 2) B dX9_findHang_127 rfl (by decide) ?_
            refine la_goto (tgt := 45) B dX9_findHang_128 (by decide) ?_
            rw [if_pos c119] at K
            exact la_sub (lv2 := [(0, .ref (ad 37)), (1, .int (nI w + (-1))), (2, .int 0)]) ⟨rfl, rfl, rfl, trivial⟩ (by simp [Value.category]) K
          · refine la_iconst (v := 1) B dX9_findHang_122 (by decide) ?_
            refine la_goto (tgt := 127) B dX9_findHang_123 (by decide) ?_
            refine la_istore_n (i := 2) B dX9_findHang_127 rfl (by decide) ?_
            refine la_goto (tgt := 45) B dX9_findHang_128 (by decide) ?_
            rw [if_neg c119] at K
            exact la_sub (lv2 := [(0, .ref (ad 37)), (1, .int (nI w + (-1))), (2, .int 1)]) ⟨rfl, rfl, rfl, trivial⟩ (by simp [Value.category]) K
      · exact absurd c56 hne
  | succ n ih =>
    intro cn h hcn hf hk hv K
    have hJ := J0.fm hf
    have hM5 := J0.1.2.2.2.2.2
    have hS8 := J0.1.2.1.2
    have e0 : (nI w).toNatClampNeg = w := nI_clamp (by omega)
    have hb : vp_in (nI w) 6 := vp_in_nI (by omega) (by omega)
    have h4 : h 38 4 = nI (lh_m h0 4) := by rw [hf 38 (by decide) (by decide)]; exact J0.1.2.2.2.2.1
    have h1 : h 38 1 = nI (lh_m h0 1) := by rw [hf 38 (by decide) (by decide)]; exact J0.1.2.1.1
    have hne : ¬ nI w = h 38 4 := by rw [h4, nI_eq (by omega) (by omega)]; omega
    have hv0 : h 47 (nI w).toNatClampNeg + 1 = nI cn := by rw [e0]; exact hv
    have hle : (lh_up h 47 ((nI w).toNatClampNeg) ((h 47 (nI w).toNatClampNeg) + 1)) 47 (nI w).toNatClampNeg ≤ h 38 1 := by rw [lh_up_eq, hv0, h1, nI_leI (by omega) (by omega)]; omega
    have hb1 : vp_in (nI w + 1) 6 := by rw [nI_1]; exact vp_in_nI (by omega) (by omega)
    have f1 : lh_fm h0 (lh_up h 47 ((nI w).toNatClampNeg) ((h 47 (nI w).toNatClampNeg) + 1)) := hf.up (i := 47) (Or.inr (by decide))
    have v1 : (lh_up h 47 ((nI w).toNatClampNeg) ((h 47 (nI w).toNatClampNeg) + 1)) 47 w = nI cn := by rw [e0]; exact (lh_up_eq h 47 w _).trans hv
    have hwl : lh_ix (nI w) (lh_m (lh_up h 47 ((nI w).toNatClampNeg) ((h 47 (nI w).toNatClampNeg) + 1)) 4) := lh_ix_nI (by rw [f1.m]; omega)
    have h1' : (lh_up h 47 ((nI w).toNatClampNeg) ((h 47 (nI w).toNatClampNeg) + 1)) 38 1 = nI (lh_m h0 1) := by rw [f1 38 (by decide) (by decide)]; exact J0.1.2.1.1
    have hcs' : (lh_up h 47 ((nI w).toNatClampNeg) ((h 47 (nI w).toNatClampNeg) + 1)) 47 w = (lh_up h 47 ((nI w).toNatClampNeg) ((h 47 (nI w).toNatClampNeg) + 1)) 38 1 ∨ lh_ix ((lh_up h 47 ((nI w).toNatClampNeg) ((h 47 (nI w).toNatClampNeg) + 1)) 47 w) 8 := by
      rw [v1, h1']
      by_cases q : cn = lh_m h0 1
      · exact Or.inl (by rw [q])
      · exact Or.inr (lh_ix_nI (by omega))
    have hcs : ¬ (lh_up h 47 ((nI w).toNatClampNeg) ((h 47 (nI w).toNatClampNeg) + 1)) 47 (nI w).toNatClampNeg = (lh_up h 47 ((nI w).toNatClampNeg) ((h 47 (nI w).toNatClampNeg) + 1)) 38 1 → lh_ix ((lh_up h 47 ((nI w).toNatClampNeg) ((h 47 (nI w).toNatClampNeg) + 1)) 47 (nI w).toNatClampNeg) 8 := fun q => by
      rw [e0] at q ⊢
      rw [e0] at hcs'
      exact hcs'.resolve_left q
    have k1 : lh_ch (lh_up h 47 ((nI w).toNatClampNeg) ((h 47 (nI w).toNatClampNeg) + 1)) w := fun v hv9 => by
      rw [lh_up_ne (Or.inr (by omega)), lh_up_ne (Or.inl (by decide))]
      exact hk v hv9
    have e1 : (nI w + 1).toNatClampNeg = w + 1 := by rw [nI_1, nI_clamp (by omega)]
    have k2 : lh_ch (lh_up (lh_up h 47 ((nI w).toNatClampNeg) ((h 47 (nI w).toNatClampNeg) + 1)) 47 ((nI w) + 1).toNatClampNeg (-1)) (w + 1) := fun v hv9 => by
      rw [lh_up_ne (show (47 : Nat) ≠ 47 ∨ v ≠ ((nI w) + 1).toNatClampNeg from Or.inr (by omega)), lh_up_ne (show (38 : Nat) ≠ 47 ∨ (1 : Nat) ≠ ((nI w) + 1).toNatClampNeg from Or.inl (by decide))]
      by_cases q : v = w
      · rw [q]; exact hcs'
      · exact k1 v (by omega)
    have v2 : (lh_up (lh_up h 47 ((nI w).toNatClampNeg) ((h 47 (nI w).toNatClampNeg) + 1)) 47 ((nI w) + 1).toNatClampNeg (-1)) 47 (w + 1) = -1 := by rw [e1]; exact lh_up_eq _ _ _ _
    have k3 : lh_ch (G (lh_up (lh_up h 47 ((nI w).toNatClampNeg) ((h 47 (nI w).toNatClampNeg) + 1)) 47 ((nI w) + 1).toNatClampNeg (-1))) w := fun v hv9 => by
      rw [FG _ 47 v (by decide) (Or.inl (by decide)) (Or.inr (by omega)), FG _ 38 1 (by decide) (Or.inl (by decide)) (Or.inl (by decide))]
      exact k2 v (by omega)
    have v3 : (G (lh_up (lh_up h 47 ((nI w).toNatClampNeg) ((h 47 (nI w).toNatClampNeg) + 1)) 47 ((nI w) + 1).toNatClampNeg (-1))) 47 w + 1 = nI (cn + 1) := by
      rw [FG _ 47 w (by decide) (Or.inl (by decide)) (Or.inr (Nat.le_refl _)), lh_up_ne (show (47 : Nat) ≠ 47 ∨ w ≠ ((nI w) + 1).toNatClampNeg from Or.inr (by omega)), v1, nI_1]
    refine la_iload_n (i := 2) B dX9_findHang_45 rfl rfl ?_
    refine la_if_eq (tgt := 131) B dX9_findHang_46 (by decide) (fun c46 => ?_) (fun c46 => ?_)
    · exact absurd c46 (by decide)
    · refine la_iload_n (i := 1) B dX9_findHang_49 rfl rfl ?_
      refine la_aload_n (i := 0) B dX9_findHang_50 rfl rfl ?_
      refine la_get (i := 37) (ci := 9) (j := 0) (C := RX9) (T := TX9) (N := 18) B (lh_nc_lt (by decide)) rfl ix_9 rfl (by decide) wd_673 rfl rfl dX9_findHang_51 ?_
      refine la_iconst (v := 4) B dX9_findHang_54 (by decide) ?_
      refine la_iald (i := 38) (v := h 38 4) B (lh_nc_lt (by decide)) rfl (by unfold vp_in; decide) rfl dX9_findHang_55 ?_
      refine la_icmp_ne (tgt := 69) B dX9_findHang_56 (by decide) (fun c56 => ?_) (fun c56 => ?_)
      · refine la_aload_n (i := 0) B dX9_findHang_69 rfl rfl ?_
        refine la_get (i := 37) (ci := 9) (j := 13) (C := RX9) (T := TX9) (N := 18) B (lh_nc_lt (by decide)) rfl ix_9 rfl (by decide) wd_686 rfl rfl dX9_findHang_70 ?_
        refine la_iload_n (i := 1) B dX9_findHang_73 rfl rfl ?_
        refine la_dup2 B dX9_findHang_74 rfl rfl ?_
        refine la_iald (i := 47) (v := h 47 (nI w).toNatClampNeg) B (lh_nc_lt (by decide)) rfl hb rfl dX9_findHang_75 ?_
        refine la_iconst (v := 1) B dX9_findHang_76 (by decide) ?_
        refine la_iadd B dX9_findHang_77 ?_
        refine la_iast (i := 47) (j := (nI w).toNatClampNeg) B (lh_nc_lt (by decide)) rfl rfl hb rfl dX9_findHang_78 ?_
        refine la_aload_n (i := 0) B dX9_findHang_79 rfl rfl ?_
        refine la_get (i := 37) (ci := 9) (j := 13) (C := RX9) (T := TX9) (N := 18) B (lh_nc_lt (by decide)) rfl ix_9 rfl (by decide) wd_686 rfl rfl dX9_findHang_80 ?_
        refine la_iload_n (i := 1) B dX9_findHang_83 rfl rfl ?_
        refine la_iald (i := 47) (v := (lh_up h 47 ((nI w).toNatClampNeg) (((h 47 (nI w).toNatClampNeg) + 1))) 47 (nI w).toNatClampNeg) B (lh_nc_lt (by decide)) rfl hb rfl dX9_findHang_84 ?_
        refine la_aload_n (i := 0) B dX9_findHang_85 rfl rfl ?_
        refine la_get (i := 37) (ci := 9) (j := 0) (C := RX9) (T := TX9) (N := 18) B (lh_nc_lt (by decide)) rfl ix_9 rfl (by decide) wd_673 rfl rfl dX9_findHang_86 ?_
        refine la_iconst (v := 1) B dX9_findHang_89 (by decide) ?_
        refine la_iald (i := 38) (v := h 38 1) B (lh_nc_lt (by decide)) rfl (by unfold vp_in; decide) rfl dX9_findHang_90 ?_
        refine la_icmp_le (tgt := 100) B dX9_findHang_91 (by decide) (fun c91 => ?_) (fun c91 => ?_)
        · refine la_aload_n (i := 0) B dX9_findHang_100 rfl rfl ?_
          refine la_iload_n (i := 1) B dX9_findHang_101 rfl rfl ?_
          refine la_callVi (i := 37) B (ct_X9_fits (lh_up h 47 ((nI w).toNatClampNeg) (((h 47 (nI w).toNatClampNeg) + 1))) (nI w) (J0.fm f1) hwl hcs) lk_X9_128 (by decide) (lh_nc_lt (by decide)) rfl rfl rfl (by simp [Value.category]) dX9_findHang_102 ?_
          refine la_if_eq (tgt := 118) B dX9_findHang_105 (by decide) (fun c105 => ?_) (fun c105 => ?_)
          · refine la_iload_n (i := 1) B dX9_findHang_118 rfl rfl ?_
            refine la_if_lt (tgt := 126) B dX9_findHang_119 (by decide) (fun c119 => ?_) (fun c119 => ?_)
            · exact absurd c119 (nI_pos (by omega))
            · refine la_iconst (v := 1) B dX9_findHang_122 (by decide) ?_
              refine la_goto (tgt := 127) B dX9_findHang_123 (by decide) ?_
              refine la_istore_n (i := 2) B dX9_findHang_127 rfl (by decide) ?_
              refine la_goto (tgt := 45) B dX9_findHang_128 (by decide) ?_
              exact la_sub (lv2 := [(0, .ref (ad 37)), (1, .int (nI w)), (2, .int 1)]) ⟨rfl, rfl, rfl, trivial⟩ (by simp [Value.category]) (ih (cn + 1) _ (by omega) f1 k1 (by rw [v1, nI_1]) (by simp only [gS_L, if_pos c105] at K; exact K))
          · refine la_iincp B dX9_findHang_108 rfl (by decide) ?_
            refine la_aload_n (i := 0) B dX9_findHang_111 rfl rfl ?_
            refine la_get (i := 37) (ci := 9) (j := 13) (C := RX9) (T := TX9) (N := 18) B (lh_nc_lt (by decide)) rfl ix_9 rfl (by decide) wd_686 rfl rfl dX9_findHang_112 ?_
            refine la_iload_n (i := 1) B dX9_findHang_115 rfl rfl ?_
            refine la_iconst (v := -1) B dX9_findHang_116 (by decide) ?_
            refine la_iast (i := 47) (j := ((nI w) + 1).toNatClampNeg) B (lh_nc_lt (by decide)) rfl rfl hb1 rfl dX9_findHang_117 ?_
            refine la_iload_n (i := 1) B dX9_findHang_118 rfl rfl ?_
            refine la_if_lt (tgt := 126) B dX9_findHang_119 (by decide) (fun c119 => ?_) (fun c119 => ?_)
            · exact absurd c119 (by rw [nI_1]; exact nI_pos (by omega))
            · refine la_iconst (v := 1) B dX9_findHang_122 (by decide) ?_
              refine la_goto (tgt := 127) B dX9_findHang_123 (by decide) ?_
              refine la_istore_n (i := 2) B dX9_findHang_127 rfl (by decide) ?_
              refine la_goto (tgt := 45) B dX9_findHang_128 (by decide) ?_
              exact la_sub (lv2 := [(0, .ref (ad 37)), (1, .int (nI w + 1)), (2, .int 1)]) ⟨rfl, rfl, rfl, trivial⟩ (by simp [Value.category]) (HG _ (f1.up (i := 47) (Or.inr (by decide))) k2 v2 (ih (cn + 1) _ (by omega) (fm_of_ne (FG _) (f1.up (i := 47) (Or.inr (by decide)))) k3 v3 (by simp only [gS_L, if_neg c105] at K; exact K)))
        · exact absurd hle c91
      · exact absurd c56 hne
set_option maxHeartbeats 4000000 in
set_option maxRecDepth 100000 in
theorem lp_hangS {l : Launch} {D : va_G} {ad : Nat → Nat} {bs : Nat} {cI cZ : ClassId} {t9 : Nat} {k : Bool} {p : Program} {e : Env} {s : State} {m : MethodId} {args : Array Value} {below : List Frame} {meth : Method} {c : Code} {Q : State → Prop} (B : lh_BK p (lh_rm 7) s m args meth c D ad bs cI cZ t9 k "LightHoursModel" cX9_findHang 3 none) {h0 : lh_HS} (J0 : lh_J h0) :
    ∀ (d w : Nat) (h : lh_HS), w + d = lh_m h0 4 → lh_fm h0 h → lh_ch h w → h 47 w = -1 ∨ d = 0 → lh_AJ p l e (lh_rm 7) s m args below meth c D ad bs cI cZ k 3 Q 45 [(0, .ref (ad 37)), (1, .int (nI w + (-1))), (2, .int (if nI w + (-1) < 0 then 0 else 1))] [] (gS d w h) → lh_AJ p l e (lh_rm 7) s m args below meth c D ad bs cI cZ k 3 Q 45 [(0, .ref (ad 37)), (1, .int (nI w)), (2, .int (1))] [] (h) := by
  have hM5 := J0.1.2.2.2.2.2
  intro d
  induction d with
  | zero =>
    intro w h hd hf hk _ K
    exact lp_hang0 B (J0.fm hf) (by rw [hf.m, ← hd]; exact hk) (by rw [hf 38 (by decide) (by decide), J0.1.2.2.2.2.1, ← hd]; rfl) K
  | succ d ih =>
    intro w h hd hf hk hv K
    refine lp_hangL B J0 (by omega) (gS d (w + 1)) (fun h2 hf2 hk2 hv2 K2 => ?_) (fun h2 q z g1 g2 g3 => ne_gS d (w + 1) h2 q z (by omega) g1 g2 (by omega)) (lh_m h0 1 + 1) 0 h (by omega) hf hk (by rw [hv.resolve_right (by omega)]; decide) (by rw [← hf.m 1]; exact K)
    have K3 := ih (w + 1) h2 (by omega) hf2 hk2 (Or.inl hv2) (by
      rw [pk_m1, if_neg (nI_pos (by omega))]
      exact K2)
    rw [nI_1]
    exact K3