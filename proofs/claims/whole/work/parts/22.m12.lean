def LX9_fh1_h  : Nat → Nat → lh_HS → lh_HS
  | 0, i, h => (gS (lh_m h 4) 0 (lh_up (lh_up h 37 16 ((-1))) 47 0 (((-1)))))
  | n + 1, i, h => (LX9_fh1_h n (i + 1) (lh_up (gX9_leastLeft h (nI i)) 49 ((nI i).toNatClampNeg) ((fX9_leastLeft h (nI i)))))
set_option maxHeartbeats 4000000 in
set_option maxRecDepth 100000 in
theorem lp_X9_fh1 {l : Launch} {D : va_G} {ad : Nat → Nat} {bs : Nat} {cI cZ : ClassId} {t9 : Nat} {k : Bool} {p : Program} {e : Env} {s : State} {m : MethodId} {args : Array Value} {below : List Frame} {meth : Method} {c : Code}  {h2 : lh_HS} (B : lh_BK p (lh_rm 7) s m args meth c D ad bs cI cZ t9 k "LightHoursModel" cX9_findHang 3 none) {h0 : lh_HS} (J0 : lh_J h0) {N : Nat} (hN0 : N = lh_m h0 1) :
    ∀ (n i : Nat) (h : lh_HS), i + n = N → h2 = LX9_fh1_h n i h → lh_fm h0 h → lh_AJ p l e (lh_rm 7) s m args below meth c D ad bs cI cZ k 3 (MQ below (lh_Qv D ad bs cI cZ k h2) args s 0 0 (lh_A bs)) 2 [(0, .ref (ad 37)), (1, .int (nI i))] [] h := by
  intro n
  induction n with
  | zero =>
    intro i h hi hh hv
    have J := J0.fm hv
    have hM := J0.1.2.1.2
    have hN : h 38 1 = nI N := by rw [hv 38 (by decide) (by decide), hN0]; exact J0.1.2.1.1
    have hexit : h 38 1 ≤ nI i := by rw [hN]; exact nI_le (by omega) (by omega)
    refine la_iload_n (i := 1) B dX9_findHang_2 rfl rfl ?_
    refine la_aload_n (i := 0) B dX9_findHang_3 rfl rfl ?_
    refine la_get (i := 37) (ci := 9) (j := 0) (C := RX9) (T := TX9) (N := 18) B (lh_nc_lt (by decide)) rfl ix_9 rfl (by decide) wd_673 rfl rfl dX9_findHang_4 ?_
    refine la_iconst (v := 1) B dX9_findHang_7 (by decide) ?_
    refine la_iald (i := 38) (v := h 38 1) B (lh_nc_lt (by decide)) rfl (by unfold vp_in; decide) rfl dX9_findHang_8 ?_
    refine la_icmp_ge (tgt := 29) B dX9_findHang_9 (by decide) (fun c9 => ?_) (fun c9 => ?_)
    · refine la_aload_n (i := 0) B dX9_findHang_29 rfl rfl ?_
      refine la_iconst (v := -1) B dX9_findHang_30 (by decide) ?_
      refine la_put (i := 37) (ci := 9) (j := 16) (C := RX9) (T := TX9) (N := 18) (ty0 := tyX9) B (lh_nc_lt (by decide)) rfl rfl ix_9 tyX9_ok nmX9 rfl (by decide) wd_689 rfl rfl rfl rfl rfl (Nat.le_of_ble_eq_true rfl) dX9_findHang_31 ?_
      refine la_iconst (v := 0) B dX9_findHang_34 (by decide) ?_
      refine la_istore_n (i := 1) B dX9_findHang_35 rfl (by decide) ?_
      refine la_aload_n (i := 0) B dX9_findHang_36 rfl rfl ?_
      refine la_get (i := 37) (ci := 9) (j := 13) (C := RX9) (T := TX9) (N := 18) B (lh_nc_lt (by decide)) rfl ix_9 rfl (by decide) wd_686 rfl rfl dX9_findHang_37 ?_
      refine la_iconst (v := 0) B dX9_findHang_40 (by decide) ?_
      refine la_iconst (v := -1) B dX9_findHang_41 (by decide) ?_
      refine la_iast (i := 47) (j := 0) B (lh_nc_lt (by decide)) rfl rfl (by unfold vp_in; decide) rfl dX9_findHang_42 ?_
      refine la_iconst (v := 1) B dX9_findHang_43 (by decide) ?_
      refine la_istore_n (i := 2) B dX9_findHang_44 rfl (by decide) ?_
      refine la_sub (lv2 := [(0, .ref (ad 37)), (1, .int (nI 0)), (2, .int 1)]) ⟨rfl, rfl, rfl, trivial⟩ (by simp [Value.category]) ?_
      refine lp_hangS B J0 (lh_m h 4) 0 (lh_up (lh_up h 37 16 ((-1))) 47 0 (((-1)))) (by rw [hv.m 4]; exact Nat.zero_add _) ((hv.up (i := 37) (Or.inl (by decide))).up (i := 47) (Or.inr (by decide))) (fun v hv9 => absurd hv9 (Nat.not_lt_zero v)) (Or.inl (lh_up_eq _ _ _ _)) ?_
      rw [if_pos (by decide)]
      refine la_iload_n (i := 2) B dX9_findHang_45 rfl rfl ?_
      refine la_if_eq (tgt := 131) B dX9_findHang_46 (by decide) (fun c46 => ?_) (fun c46 => absurd rfl c46)
      exact la_return B rfl (by rw [hh]; simp only [LX9_fh1_h]) dX9_findHang_131
    · exact absurd hexit c9
  | succ n ih =>
    intro i h hi hh hv
    have J := J0.fm hv
    have hM := J0.1.2.1.2
    have hN : h 38 1 = nI N := by rw [hv 38 (by decide) (by decide), hN0]; exact J0.1.2.1.1
    have hcont : ¬ h 38 1 ≤ nI i := by rw [hN]; exact nI_ge (by omega) (by omega)
    have hs : lh_ix (nI i) 8 := lh_ix_nI (by omega)
    refine la_iload_n (i := 1) B dX9_findHang_2 rfl rfl ?_
    refine la_aload_n (i := 0) B dX9_findHang_3 rfl rfl ?_
    refine la_get (i := 37) (ci := 9) (j := 0) (C := RX9) (T := TX9) (N := 18) B (lh_nc_lt (by decide)) rfl ix_9 rfl (by decide) wd_673 rfl rfl dX9_findHang_4 ?_
    refine la_iconst (v := 1) B dX9_findHang_7 (by decide) ?_
    refine la_iald (i := 38) (v := h 38 1) B (lh_nc_lt (by decide)) rfl (by unfold vp_in; decide) rfl dX9_findHang_8 ?_
    refine la_icmp_ge (tgt := 29) B dX9_findHang_9 (by decide) (fun c9 => ?_) (fun c9 => ?_)
    · exact absurd c9 hcont
    · refine la_aload_n (i := 0) B dX9_findHang_12 rfl rfl ?_
      refine la_get (i := 37) (ci := 9) (j := 15) (C := RX9) (T := TX9) (N := 18) B (lh_nc_lt (by decide)) rfl ix_9 rfl (by decide) wd_688 rfl rfl dX9_findHang_13 ?_
      refine la_iload_n (i := 1) B dX9_findHang_16 rfl rfl ?_
      refine la_aload_n (i := 0) B dX9_findHang_17 rfl rfl ?_
      refine la_iload_n (i := 1) B dX9_findHang_18 rfl rfl ?_
      refine la_callVi (i := 37) B (ct_X9_leastLeft h (nI i) J hs) lk_X9_111 (by decide) (lh_nc_lt (by decide)) rfl rfl rfl (by simp [Value.category]) dX9_findHang_19 ?_
      refine la_iast (i := 49) (j := (nI i).toNatClampNeg) B (lh_nc_lt (by decide)) rfl rfl (hs.vp (by decide) (by decide)) rfl dX9_findHang_22 ?_
      refine la_iincp B dX9_findHang_23 rfl (by decide) ?_
      refine la_goto (tgt := 2) B dX9_findHang_26 (by decide) ?_
      refine la_sub (lv2 := [(0, .ref (ad 37)), (1, .int (nI (i + 1)))]) ⟨rfl, (congrArg (fun z => some (Value.int z)) (nI_1 i)), trivial⟩ (by simp [Value.category]) ?_
      exact ih (i + 1) (lh_up (gX9_leastLeft h (nI i)) 49 ((nI i).toNatClampNeg) ((fX9_leastLeft h (nI i)))) (by omega) (by rw [hh]; simp only [LX9_fh1_h]) ((fm_leastLeft hv _).up (i := 49) (Or.inr (by decide)))

def gX9_findHang (h : lh_HS)  : lh_HS := (LX9_fh1_h (lh_m h 1) 0 h)
set_option maxHeartbeats 4000000 in
set_option maxRecDepth 100000 in
theorem ct_X9_findHang {l : Launch} {D : va_G} {ad : Nat → Nat} {bs : Nat} {cI cZ : ClassId} {t9 : Nat} {k : Bool} (h : lh_HS)  (J : lh_J h) : lh_CTv l D ad bs cI cZ t9 k yX9_findHang cX9_findHang 3 7 [.ref (ad 37)] h (gX9_findHang h ) := by
  refine lh_ofv (lv := [(0, .ref (ad 37))]) (by decide) (Nat.le_of_ble_eq_true rfl) rfl (by simp [Value.category]) ⟨rfl, trivial⟩ ?_
  intro p e s m args below meth c B
  have B : lh_BK p (lh_rm 7) s m args meth c D ad bs cI cZ t9 k "LightHoursModel" cX9_findHang 3 none := B
  refine la_iconst (v := 0) B dX9_findHang_0 (by decide) ?_
  refine la_istore_n (i := 1) B dX9_findHang_1 rfl (by decide) ?_
  refine la_sub (lv2 := [(0, .ref (ad 37)), (1, .int (nI 0))]) ⟨rfl, rfl, trivial⟩ (by simp [Value.category]) ?_
  exact lp_X9_fh1 B J rfl _ 0 h (Nat.zero_add _) (by simp only [gX9_findHang]) (lh_fm.rf h)

theorem fm_fh1 {h0 : lh_HS} (J0 : lh_J h0) : ∀ (n i : Nat) (h : lh_HS), lh_fm h0 h → lh_fm h0 (LX9_fh1_h n i h) := by
  have hM5 := J0.1.2.2.2.2.2
  intro n
  induction n with
  | zero => intro i h f; exact fm_gS ((f.up (i := 37) (Or.inl (by decide))).up (i := 47) (Or.inr (by decide))) _ _ (by rw [f.m]; omega)
  | succ n ih =>
    intro i h f
    simp only [LX9_fh1_h]
    exact ih _ _ ((fm_leastLeft f _).up (i := 49) (Or.inr (by decide)))
theorem fm_findHang {h : lh_HS} (J : lh_J h) : lh_fm h (gX9_findHang h) := fm_fh1 J _ _ _ (lh_fm.rf h)
def fX9_hung (h : lh_HS) (wl : Int32) : Int32 := (if (fX9_is h 4 wl) = 0 then (-1) else (if ((gX9_findHang h) 48 wl.toNatClampNeg) = ((gX9_findHang h) 38 1) then (-4) else (gX9_findHang h) 48 wl.toNatClampNeg))
def gX9_hung (h : lh_HS) (wl : Int32) : lh_HS := (if (fX9_is h 4 wl) = 0 then h else gX9_findHang h)
set_option maxHeartbeats 4000000 in
set_option maxRecDepth 100000 in
theorem ct_X9_hung {l : Launch} {D : va_G} {ad : Nat → Nat} {bs : Nat} {cI cZ : ClassId} {t9 : Nat} {k : Bool} (h : lh_HS) (wl : Int32) (J : lh_J h) : lh_CTi l D ad bs cI cZ t9 k yX9_hung cX9_hung 2 (some .int) 8 [.ref (ad 37), .int wl] h (fX9_hung h wl) (gX9_hung h wl) := by
  refine lh_ofi (lv := [(0, .ref (ad 37)), (1, .int wl)]) (by decide) (Nat.le_of_ble_eq_true rfl) rfl (by simp [Value.category]) ⟨rfl, rfl, trivial⟩ ?_
  intro p e s m args below meth c B
  have B : lh_BK p (lh_rm 8) s m args meth c D ad bs cI cZ t9 k "LightHoursModel" cX9_hung 2 (some .int) := B
  refine la_aload_n (i := 0) B dX9_hung_0 rfl rfl ?_
  refine la_iconst (v := 4) B dX9_hung_1 (by decide) ?_
  refine la_iload_n (i := 1) B dX9_hung_2 rfl rfl ?_
  refine la_callVi (i := 37) B (ct_X9_is h 4 wl (by unfold vp_in; decide)) lk_X9_55 (by decide) (lh_nc_lt (by decide)) rfl rfl rfl (by simp [Value.category]) dX9_hung_3 ?_
  refine la_if_ne (tgt := 11) B dX9_hung_6 (by decide) (fun c6 => ?_) (fun c6 => ?_)
  · refine la_aload_n (i := 0) B dX9_hung_11 rfl rfl ?_
    refine la_callVv (i := 37) B (ct_X9_findHang h  J) lk_X9_134 (by decide) (lh_nc_lt (by decide)) rfl rfl rfl (by simp [Value.category]) dX9_hung_12 ?_
    refine la_aload_n (i := 0) B dX9_hung_15 rfl rfl ?_
    refine la_get (i := 37) (ci := 9) (j := 14) (C := RX9) (T := TX9) (N := 18) B (lh_nc_lt (by decide)) rfl ix_9 rfl (by decide) wd_687 rfl rfl dX9_hung_16 ?_
    refine la_iload_n (i := 1) B dX9_hung_19 rfl rfl ?_
    refine la_iald (i := 48) (v := (gX9_findHang h) 48 wl.toNatClampNeg) B (lh_nc_lt (by decide)) rfl (((lh_mis (k := 4) rfl J.1.2.2.2.2 (by decide) c6).mono J.1.2.2.2.2.2).vp (by decide) (by decide)) rfl dX9_hung_20 ?_
    refine la_aload_n (i := 0) B dX9_hung_21 rfl rfl ?_
    refine la_get (i := 37) (ci := 9) (j := 0) (C := RX9) (T := TX9) (N := 18) B (lh_nc_lt (by decide)) rfl ix_9 rfl (by decide) wd_673 rfl rfl dX9_hung_22 ?_
    refine la_iconst (v := 1) B dX9_hung_25 (by decide) ?_
    refine la_iald (i := 38) (v := (gX9_findHang h) 38 1) B (lh_nc_lt (by decide)) rfl (by unfold vp_in; decide) rfl dX9_hung_26 ?_
    refine la_icmp_ne (tgt := 35) B dX9_hung_27 (by decide) (fun c27 => ?_) (fun c27 => ?_)
    · refine la_aload_n (i := 0) B dX9_hung_35 rfl rfl ?_
      refine la_get (i := 37) (ci := 9) (j := 14) (C := RX9) (T := TX9) (N := 18) B (lh_nc_lt (by decide)) rfl ix_9 rfl (by decide) wd_687 rfl rfl dX9_hung_36 ?_
      refine la_iload_n (i := 1) B dX9_hung_39 rfl rfl ?_
      refine la_iald (i := 48) (v := (gX9_findHang h) 48 wl.toNatClampNeg) B (lh_nc_lt (by decide)) rfl (((lh_mis (k := 4) rfl J.1.2.2.2.2 (by decide) c6).mono J.1.2.2.2.2.2).vp (by decide) (by decide)) rfl dX9_hung_40 ?_
      exact la_ireturn B rfl (by simp only [fX9_hung, if_neg c6, if_neg c27]) (by simp only [gX9_hung, if_neg c6, if_neg c27]) dX9_hung_41
    · refine la_bipush (v := -4) B dX9_hung_30 (by decide) ?_
      refine la_goto (tgt := 41) B dX9_hung_32 (by decide) ?_
      exact la_ireturn B rfl (by simp only [fX9_hung, if_neg c6, if_pos c27]) (by simp only [gX9_hung, if_neg c6, if_pos c27]) dX9_hung_41
  · refine la_iconst (v := -1) B dX9_hung_9 (by decide) ?_
    exact la_ireturn B rfl (by simp only [fX9_hung, if_pos c6]) (by simp only [gX9_hung, if_pos c6]) dX9_hung_10

def fX9_worth (h : lh_HS)  : Int32 := (gX9_findHang h) 37 16
def gX9_worth (h : lh_HS)  : lh_HS := gX9_findHang h
set_option maxHeartbeats 4000000 in
set_option maxRecDepth 100000 in
theorem ct_X9_worth {l : Launch} {D : va_G} {ad : Nat → Nat} {bs : Nat} {cI cZ : ClassId} {t9 : Nat} {k : Bool} (h : lh_HS)  (J : lh_J h) : lh_CTi l D ad bs cI cZ t9 k yX9_worth cX9_worth 1 (some .int) 8 [.ref (ad 37)] h (fX9_worth h ) (gX9_worth h ) := by
  refine lh_ofi (lv := [(0, .ref (ad 37))]) (by decide) (Nat.le_of_ble_eq_true rfl) rfl (by simp [Value.category]) ⟨rfl, trivial⟩ ?_
  intro p e s m args below meth c B
  have B : lh_BK p (lh_rm 8) s m args meth c D ad bs cI cZ t9 k "LightHoursModel" cX9_worth 1 (some .int) := B
  refine la_aload_n (i := 0) B dX9_worth_0 rfl rfl ?_
  refine la_callVv (i := 37) B (ct_X9_findHang h  J) lk_X9_134 (by decide) (lh_nc_lt (by decide)) rfl rfl rfl (by simp [Value.category]) dX9_worth_1 ?_
  refine la_aload_n (i := 0) B dX9_worth_4 rfl rfl ?_
  refine la_get (i := 37) (ci := 9) (j := 16) (v := .int ((gX9_findHang h) 37 16)) (C := RX9) (T := TX9) (N := 18) B (lh_nc_lt (by decide)) rfl ix_9 rfl (by decide) wd_689 rfl rfl dX9_worth_5 ?_
  exact la_ireturn B rfl (by simp only [fX9_worth]) (by simp only [gX9_worth]) dX9_worth_8

def LX9_spares (sn : Int32) : Nat → Nat → Int32 → lh_HS → Int32
  | 0, i, acc, h => acc
  | n + 1, i, acc, h => (if (h 48 (nI i).toNatClampNeg) = sn then (LX9_spares sn n (i + 1) (acc - (fX9_lightOf h (h 44 (3 * (nI i)).toNatClampNeg) (h 44 ((3 * (nI i)) + 1).toNatClampNeg) 1)) h) else (LX9_spares sn n (i + 1) (acc - 0) h))
def LX9_spares_h (sn : Int32) : Nat → Nat → Int32 → lh_HS → lh_HS
  | 0, i, acc, h => h
  | n + 1, i, acc, h => (if (h 48 (nI i).toNatClampNeg) = sn then (LX9_spares_h sn n (i + 1) (acc - (fX9_lightOf h (h 44 (3 * (nI i)).toNatClampNeg) (h 44 ((3 * (nI i)) + 1).toNatClampNeg) 1)) h) else (LX9_spares_h sn n (i + 1) (acc - 0) h))
set_option maxHeartbeats 4000000 in
set_option maxRecDepth 100000 in
theorem lp_X9_spares {l : Launch} {D : va_G} {ad : Nat → Nat} {bs : Nat} {cI cZ : ClassId} {t9 : Nat} {k : Bool} {p : Program} {e : Env} {s : State} {m : MethodId} {args : Array Value} {below : List Frame} {meth : Method} {c : Code} (sn : Int32) {r : Int32} {h2 : lh_HS} (B : lh_BK p (lh_rm 8) s m args meth c D ad bs cI cZ t9 k "LightHoursModel" cX9_spares 4 (some .int)) {N : Nat} :
    ∀ (n i : Nat) (acc : Int32) (h : lh_HS), i + n = N → r = LX9_spares sn n i acc h → h2 = LX9_spares_h sn n i acc h → (lh_J h ∧ lh_m h 4 = N) → lh_AJ p l e (lh_rm 8) s m args below meth c D ad bs cI cZ k 4 (MQ below (lh_Qi D ad bs cI cZ k r h2) args s 0 0 (lh_A bs)) 24 [(0, .ref (ad 37)), (1, .int sn), (2, .int acc), (3, .int (nI i))] [] h := by
  intro n
  induction n with
  | zero =>
    intro i acc h hi hr hh hv
    have J := hv.1
    have hM := hv.1.1.2.2.2.2.2
    have hN : h 38 4 = nI N := by rw [← hv.2]; exact hv.1.1.2.2.2.2.1
    have hexit : h 38 4 ≤ nI i := by rw [hN]; exact nI_le (by omega) (by have := hv.2; omega)
    refine la_iload_n (i := 3) B dX9_spares_24 rfl rfl ?_
    refine la_aload_n (i := 0) B dX9_spares_25 rfl rfl ?_
    refine la_get (i := 37) (ci := 9) (j := 0) (C := RX9) (T := TX9) (N := 18) B (lh_nc_lt (by decide)) rfl ix_9 rfl (by decide) wd_673 rfl rfl dX9_spares_26 ?_
    refine la_iconst (v := 4) B dX9_spares_29 (by decide) ?_
    refine la_iald (i := 38) (v := h 38 4) B (lh_nc_lt (by decide)) rfl (by unfold vp_in; decide) rfl dX9_spares_30 ?_
    refine la_icmp_ge (tgt := 80) B dX9_spares_31 (by decide) (fun c31 => ?_) (fun c31 => ?_)
    · refine la_iload_n (i := 2) B dX9_spares_80 rfl rfl ?_
      exact la_ireturn B rfl (by rw [hr]; simp only [LX9_spares]) (by rw [hh]; simp only [LX9_spares_h]) dX9_spares_81
    · exact absurd hexit c31
  | succ n ih =>
    intro i acc h hi hr hh hv
    have J := hv.1
    have hM := hv.1.1.2.2.2.2.2
    have hN : h 38 4 = nI N := by rw [← hv.2]; exact hv.1.1.2.2.2.2.1
    have hcont : ¬ h 38 4 ≤ nI i := by rw [hN]; exact nI_ge (by omega) (by have := hv.2; omega)
    have hbi : lh_ix (nI i) 5 := lh_ix_nI (by have := hv.2; omega)
    obtain ⟨g1, g2⟩ := J.2.2.2.1 i (by have := hv.2; omega)
    have e0 : (3 * nI i).toNatClampNeg = 3 * i := lh_at0 (k := 3) (by have := hv.2; omega)
    have e1 : ((3 * nI i) + 1).toNatClampNeg = 3 * i + 1 := lh_at (k := 3) (c := 1) (by have := hv.2; omega)
    have g1 : lh_ix (h 44 (3 * nI i).toNatClampNeg) 4 := by rw [e0]; exact g1
    have g2 : lh_ix (h 44 ((3 * nI i) + 1).toNatClampNeg) 10 := by rw [e1]; exact g2
    refine la_iload_n (i := 3) B dX9_spares_24 rfl rfl ?_
    refine la_aload_n (i := 0) B dX9_spares_25 rfl rfl ?_
    refine la_get (i := 37) (ci := 9) (j := 0) (C := RX9) (T := TX9) (N := 18) B (lh_nc_lt (by decide)) rfl ix_9 rfl (by decide) wd_673 rfl rfl dX9_spares_26 ?_
    refine la_iconst (v := 4) B dX9_spares_29 (by decide) ?_
    refine la_iald (i := 38) (v := h 38 4) B (lh_nc_lt (by decide)) rfl (by unfold vp_in; decide) rfl dX9_spares_30 ?_
    refine la_icmp_ge (tgt := 80) B dX9_spares_31 (by decide) (fun c31 => ?_) (fun c31 => ?_)
    · exact absurd c31 hcont
    · refine la_iload_n (i := 2) B dX9_spares_34 rfl rfl ?_
      refine la_aload_n (i := 0) B dX9_spares_35 rfl rfl ?_
      refine la_get (i := 37) (ci := 9) (j := 14) (C := RX9) (T := TX9) (N := 18) B (lh_nc_lt (by decide)) rfl ix_9 rfl (by decide) wd_687 rfl rfl dX9_spares_36 ?_
      refine la_iload_n (i := 3) B dX9_spares_39 rfl rfl ?_
      refine la_iald (i := 48) (v := h 48 (nI i).toNatClampNeg) B (lh_nc_lt (by decide)) rfl (hbi.vp (by decide) (by decide)) rfl dX9_spares_40 ?_
      refine la_iload_n (i := 1) B dX9_spares_41 rfl rfl ?_
      refine la_icmp_ne (tgt := 71) B dX9_spares_42 (by decide) (fun c42 => ?_) (fun c42 => ?_)
      · refine la_iconst (v := 0) B dX9_spares_71 (by decide) ?_
        refine la_isub B dX9_spares_72 ?_
        refine la_istore_n (i := 2) B dX9_spares_73 rfl (by decide) ?_
        refine la_iincp B dX9_spares_74 rfl (by decide) ?_
        refine la_goto (tgt := 24) B dX9_spares_77 (by decide) ?_
        refine la_sub (lv2 := [(0, .ref (ad 37)), (1, .int sn), (2, .int ((acc - 0))), (3, .int (nI (i + 1)))]) ⟨rfl, rfl, rfl, (congrArg (fun z => some (Value.int z)) (nI_1 i)), trivial⟩ (by simp [Value.category]) ?_
        exact ih (i + 1) (acc - 0) h (by omega) (by rw [hr]; simp only [LX9_spares, if_neg c42]) (by rw [hh]; simp only [LX9_spares_h, if_neg c42]) hv
      · refine la_aload_n (i := 0) B dX9_spares_45 rfl rfl ?_
        refine la_aload_n (i := 0) B dX9_spares_46 rfl rfl ?_
        refine la_get (i := 37) (ci := 9) (j := 6) (C := RX9) (T := TX9) (N := 18) B (lh_nc_lt (by decide)) rfl ix_9 rfl (by decide) wd_679 rfl rfl dX9_spares_47 ?_
        refine la_iconst (v := 3) B dX9_spares_50 (by decide) ?_
        refine la_iload_n (i := 3) B dX9_spares_51 rfl rfl ?_
        refine la_imul B dX9_spares_52 ?_
        refine la_iald (i := 44) (v := h 44 (3 * (nI i)).toNatClampNeg) B (lh_nc_lt (by decide)) rfl (lh_lin0 3 hbi (by decide) (by decide)) rfl dX9_spares_53 ?_
        refine la_aload_n (i := 0) B dX9_spares_54 rfl rfl ?_
        refine la_get (i := 37) (ci := 9) (j := 6) (C := RX9) (T := TX9) (N := 18) B (lh_nc_lt (by decide)) rfl ix_9 rfl (by decide) wd_679 rfl rfl dX9_spares_55 ?_
        refine la_iconst (v := 3) B dX9_spares_58 (by decide) ?_
        refine la_iload_n (i := 3) B dX9_spares_59 rfl rfl ?_
        refine la_imul B dX9_spares_60 ?_
        refine la_iconst (v := 1) B dX9_spares_61 (by decide) ?_
        refine la_iadd B dX9_spares_62 ?_
        refine la_iald (i := 44) (v := h 44 ((3 * (nI i)) + 1).toNatClampNeg) B (lh_nc_lt (by decide)) rfl (lh_lin 3 1 hbi (by decide) (by decide)) rfl dX9_spares_63 ?_
        refine la_iconst (v := 1) B dX9_spares_64 (by decide) ?_
        refine la_callVi (i := 37) B (ct_X9_lightOf h (h 44 (3 * (nI i)).toNatClampNeg) (h 44 ((3 * (nI i)) + 1).toNatClampNeg) 1 g1 g2) lk_X9_63 (by decide) (lh_nc_lt (by decide)) rfl rfl rfl (by simp [Value.category]) dX9_spares_65 ?_
        refine la_goto (tgt := 72) B dX9_spares_68 (by decide) ?_
        refine la_isub B dX9_spares_72 ?_
        refine la_istore_n (i := 2) B dX9_spares_73 rfl (by decide) ?_
        refine la_iincp B dX9_spares_74 rfl (by decide) ?_
        refine la_goto (tgt := 24) B dX9_spares_77 (by decide) ?_
        refine la_sub (lv2 := [(0, .ref (ad 37)), (1, .int sn), (2, .int ((acc - (fX9_lightOf h (h 44 (3 * (nI i)).toNatClampNeg) (h 44 ((3 * (nI i)) + 1).toNatClampNeg) 1)))), (3, .int (nI (i + 1)))]) ⟨rfl, rfl, rfl, (congrArg (fun z => some (Value.int z)) (nI_1 i)), trivial⟩ (by simp [Value.category]) ?_
        exact ih (i + 1) (acc - (fX9_lightOf h (h 44 (3 * (nI i)).toNatClampNeg) (h 44 ((3 * (nI i)) + 1).toNatClampNeg) 1)) h (by omega) (by rw [hr]; simp only [LX9_spares, if_pos c42]) (by rw [hh]; simp only [LX9_spares_h, if_pos c42]) hv

def fX9_spares (h : lh_HS) (sn : Int32) : Int32 := (if (fX9_is h 1 sn) = 0 then -1000000 else (LX9_spares sn (lh_m (gX9_leastLeft (gX9_findHang h) sn) 4) 0 (fX9_leastLeft (gX9_findHang h) sn) (gX9_leastLeft (gX9_findHang h) sn)))
def gX9_spares (h : lh_HS) (sn : Int32) : lh_HS := (if (fX9_is h 1 sn) = 0 then h else (LX9_spares_h sn (lh_m (gX9_leastLeft (gX9_findHang h) sn) 4) 0 (fX9_leastLeft (gX9_findHang h) sn) (gX9_leastLeft (gX9_findHang h) sn)))
set_option maxHeartbeats 4000000 in
set_option maxRecDepth 100000 in
theorem ct_X9_spares {l : Launch} {D : va_G} {ad : Nat → Nat} {bs : Nat} {cI cZ : ClassId} {t9 : Nat} {k : Bool} (h : lh_HS) (sn : Int32) (J : lh_J h) : lh_CTi l D ad bs cI cZ t9 k yX9_spares cX9_spares 4 (some .int) 8 [.ref (ad 37), .int sn] h (fX9_spares h sn) (gX9_spares h sn) := by
  refine lh_ofi (lv := [(0, .ref (ad 37)), (1, .int sn)]) (by decide) (Nat.le_of_ble_eq_true rfl) rfl (by simp [Value.category]) ⟨rfl, rfl, trivial⟩ ?_
  intro p e s m args below meth c B
  have B : lh_BK p (lh_rm 8) s m args meth c D ad bs cI cZ t9 k "LightHoursModel" cX9_spares 4 (some .int) := B
  refine la_aload_n (i := 0) B dX9_spares_0 rfl rfl ?_
  refine la_iconst (v := 1) B dX9_spares_1 (by decide) ?_
  refine la_iload_n (i := 1) B dX9_spares_2 rfl rfl ?_
  refine la_callVi (i := 37) B (ct_X9_is h 1 sn (by unfold vp_in; decide)) lk_X9_55 (by decide) (lh_nc_lt (by decide)) rfl rfl rfl (by simp [Value.category]) dX9_spares_3 ?_
  refine la_if_ne (tgt := 12) B dX9_spares_6 (by decide) (fun c6 => ?_) (fun c6 => ?_)
  · refine la_aload_n (i := 0) B dX9_spares_12 rfl rfl ?_
    refine la_callVv (i := 37) B (ct_X9_findHang h  J) lk_X9_134 (by decide) (lh_nc_lt (by decide)) rfl rfl rfl (by simp [Value.category]) dX9_spares_13 ?_
    refine la_aload_n (i := 0) B dX9_spares_16 rfl rfl ?_
    refine la_iload_n (i := 1) B dX9_spares_17 rfl rfl ?_
    refine la_callVi (i := 37) B (ct_X9_leastLeft (gX9_findHang h) sn (J.fm (fm_findHang J)) ((lh_mis (k := 1) rfl J.1.2.1 (by decide) c6).mono J.1.2.1.2)) lk_X9_111 (by decide) (lh_nc_lt (by decide)) rfl rfl rfl (by simp [Value.category]) dX9_spares_18 ?_
    refine la_istore_n (i := 2) B dX9_spares_21 rfl (by decide) ?_
    refine la_iconst (v := 0) B dX9_spares_22 (by decide) ?_
    refine la_istore_n (i := 3) B dX9_spares_23 rfl (by decide) ?_
    refine la_sub (lv2 := [(0, .ref (ad 37)), (1, .int sn), (2, .int (fX9_leastLeft (gX9_findHang h) sn)), (3, .int (nI 0))]) ⟨rfl, rfl, rfl, rfl, trivial⟩ (by simp [Value.category]) ?_
    exact lp_X9_spares sn B _ 0 _ (gX9_leastLeft (gX9_findHang h) sn) (Nat.zero_add _) (by simp only [fX9_spares, if_neg c6]) (by simp only [gX9_spares, if_neg c6]) ⟨J.fm (fm_leastLeft (fm_findHang J) sn), rfl⟩
  · refine la_ldc B wd_858 dX9_spares_9 ?_
    exact la_ireturn B rfl (by simp only [fX9_spares, if_pos c6]) (by simp only [gX9_spares, if_pos c6]) dX9_spares_11

def lh_rem (h : lh_HS) : Nat → Nat → Nat
  | 0, _ => 0
  | n + 1, i => (if h 48 i < h 38 1 then 1 else 0) + lh_rem h n (i + 1)
theorem lh_rem_congr {h h' : lh_HS} (e1 : h' 48 = h 48) (e2 : h' 38 1 = h 38 1) : ∀ (n i : Nat), lh_rem h' n i = lh_rem h n i := by
  intro n
  induction n with
  | zero => intro i; rfl
  | succ n ih => intro i; simp only [lh_rem, e1, e2, ih]
def lh_cnt9 (h : lh_HS) : Nat → Nat → Int32 → Int32
  | 0, _, a => a
  | n + 1, i, a => if h 48 (nI i).toNatClampNeg = h 38 1 then lh_cnt9 h n (i + 1) (a + 0) else lh_cnt9 h n (i + 1) (a + 1)
def lh_cap (h : lh_HS) (n i : Nat) : Prop := ∃ c : Nat, h 38 2 = nI c ∧ c + lh_rem h n i ≤ 30
theorem ne_came (h : lh_HS) (kd : Int32) (q z : Nat) (hq : q ≠ 38 ∨ z ≠ kd.toNatClampNeg) : gX9_came h kd q z = h q z := by
  unfold gX9_came; exact lh_up_ne hq
theorem ne_books (h : lh_HS) (a b y z : Int32) (q v : Nat) (h1 : q ≠ 42) (h2 : q ≠ 38 ∨ v ≠ 2) : gX9_books h a b y z q v = h q v := by
  unfold gX9_books
  rw [ne_came _ _ _ _ (by rcases h2 with h2 | h2; exact Or.inl h2; exact Or.inr h2), lh_up_ne (Or.inl h1), lh_up_ne (Or.inl h1), lh_up_ne (Or.inl h1), lh_up_ne (Or.inl h1), lh_up_ne (Or.inl h1)]
theorem eq_books (h : lh_HS) (a b y z : Int32) : gX9_books h a b y z 38 2 = h 38 2 + 1 := by
  unfold gX9_books gX9_came
  have e : (2 : Int32).toNatClampNeg = 2 := by decide
  rw [e, lh_up_eq, lh_up_ne (Or.inl (by decide)), lh_up_ne (Or.inl (by decide)), lh_up_ne (Or.inl (by decide)), lh_up_ne (Or.inl (by decide)), lh_up_ne (Or.inl (by decide))]
theorem lh_cap.ix {h : lh_HS} {n i : Nat} (hc : lh_cap h (n + 1) i) (lt : h 48 i < h 38 1) : lh_ix (h 38 2) 30 := by
  obtain ⟨c, e, q⟩ := hc
  simp only [lh_rem, if_pos lt] at q
  exact ⟨c, by omega, e⟩
theorem lh_cap.no {h : lh_HS} {n i : Nat} (hc : lh_cap h (n + 1) i) : lh_cap h n (i + 1) := by
  obtain ⟨c, e, q⟩ := hc
  simp only [lh_rem] at q
  exact ⟨c, e, by omega⟩
theorem lh_cap.bk {h : lh_HS} {n i : Nat} (hc : lh_cap h (n + 1) i) (lt : h 48 i < h 38 1) (a b y z : Int32) : lh_cap (gX9_books h a b y z) n (i + 1) := by
  obtain ⟨c, e, q⟩ := hc
  simp only [lh_rem, if_pos lt] at q
  refine ⟨c + 1, by rw [eq_books, e, nI_1], ?_⟩
  rw [lh_rem_congr (funext fun v => ne_books h a b y z 48 v (by decide) (Or.inl (by decide))) (ne_books h a b y z 38 1 (by decide) (Or.inr (by decide)))]
  omega
def LX9_hang2 (nn : Int32) : Nat → Nat → lh_HS → Int32
  | 0, i, h => nn
  | n + 1, i, h => (if (h 38 1) ≤ (h 48 (nI i).toNatClampNeg) then (LX9_hang2 nn n (i + 1) h) else (LX9_hang2 nn n (i + 1) (gX9_books h (h 48 (nI i).toNatClampNeg) (h 44 (3 * (nI i)).toNatClampNeg) (h 44 ((3 * (nI i)) + 1).toNatClampNeg) 0)))
def LX9_hang2_h (nn : Int32) : Nat → Nat → lh_HS → lh_HS
  | 0, i, h => lh_up h 38 4 0
  | n + 1, i, h => (if (h 38 1) ≤ (h 48 (nI i).toNatClampNeg) then (LX9_hang2_h nn n (i + 1) h) else (LX9_hang2_h nn n (i + 1) (gX9_books h (h 48 (nI i).toNatClampNeg) (h 44 (3 * (nI i)).toNatClampNeg) (h 44 ((3 * (nI i)) + 1).toNatClampNeg) 0)))
set_option maxHeartbeats 4000000 in
set_option maxRecDepth 100000 in
theorem lp_X9_hang2 {l : Launch} {D : va_G} {ad : Nat → Nat} {bs : Nat} {cI cZ : ClassId} {t9 : Nat} {k : Bool} {p : Program} {e : Env} {s : State} {m : MethodId} {args : Array Value} {below : List Frame} {meth : Method} {c : Code} (nn : Int32) {r : Int32} {h2 : lh_HS} (B : lh_BK p (lh_rm 8) s m args meth c D ad bs cI cZ t9 k "LightHoursModel" cX9_hang 4 (some .int)) {N : Nat} :
    ∀ (n i : Nat) (h : lh_HS), i + n = N → r = LX9_hang2 nn n i h → h2 = LX9_hang2_h nn n i h → (lh_cap h n i ∧ h 38 4 = nI N ∧ N ≤ 5) → lh_AJ p l e (lh_rm 8) s m args below meth c D ad bs cI cZ k 4 (MQ below (lh_Qi D ad bs cI cZ k r h2) args s 0 0 (lh_A bs)) 65 [(0, .ref (ad 37)), (1, .int nn), (2, .int (nI i))] [] h := by
  intro n
  induction n with
  | zero =>
    intro i h hi hr hh hv
    have hN := hv.2.1
    have hM := hv.2.2
    have hexit : h 38 4 ≤ nI i := by rw [hN]; exact nI_le (by omega) (by omega)
    refine la_iload_n (i := 2) B dX9_hang_65 rfl rfl ?_
    refine la_aload_n (i := 0) B dX9_hang_66 rfl rfl ?_
    refine la_get (i := 37) (ci := 9) (j := 0) (C := RX9) (T := TX9) (N := 18) B (lh_nc_lt (by decide)) rfl ix_9 rfl (by decide) wd_673 rfl rfl dX9_hang_67 ?_
    refine la_iconst (v := 4) B dX9_hang_70 (by decide) ?_
    refine la_iald (i := 38) (v := h 38 4) B (lh_nc_lt (by decide)) rfl (by unfold vp_in; decide) rfl dX9_hang_71 ?_
    refine la_icmp_ge (tgt := 126) B dX9_hang_72 (by decide) (fun c72 => ?_) (fun c72 => ?_)
    · refine la_aload_n (i := 0) B dX9_hang_126 rfl rfl ?_
      refine la_get (i := 37) (ci := 9) (j := 0) (C := RX9) (T := TX9) (N := 18) B (lh_nc_lt (by decide)) rfl ix_9 rfl (by decide) wd_673 rfl rfl dX9_hang_127 ?_
      refine la_iconst (v := 4) B dX9_hang_130 (by decide) ?_
      refine la_iconst (v := 0) B dX9_hang_131 (by decide) ?_
      refine la_iast (i := 38) (j := 4) B (lh_nc_lt (by decide)) rfl rfl (by unfold vp_in; decide) rfl dX9_hang_132 ?_
      refine la_iload_n (i := 1) B dX9_hang_133 rfl rfl ?_
      exact la_ireturn B rfl (by rw [hr]; simp only [LX9_hang2]) (by rw [hh]; simp only [LX9_hang2_h]) dX9_hang_134
    · exact absurd hexit c72
  | succ n ih =>
    intro i h hi hr hh hv
    have hN := hv.2.1
    have hM := hv.2.2
    have hcont : ¬ h 38 4 ≤ nI i := by rw [hN]; exact nI_ge (by omega) (by omega)
    have hbi : lh_ix (nI i) 5 := lh_ix_nI (by omega)
    have hb5 : vp_in (nI i) 5 := vp_in_nI (by omega) (by omega)
    have hlt9 : ¬ h 38 1 ≤ h 48 (nI i).toNatClampNeg → h 48 i < h 38 1 := fun q => by
      rw [nI_clamp (by omega), Int32.le_iff_toInt_le] at q
      rw [Int32.lt_iff_toInt_lt]
      omega
    refine la_iload_n (i := 2) B dX9_hang_65 rfl rfl ?_
    refine la_aload_n (i := 0) B dX9_hang_66 rfl rfl ?_
    refine la_get (i := 37) (ci := 9) (j := 0) (C := RX9) (T := TX9) (N := 18) B (lh_nc_lt (by decide)) rfl ix_9 rfl (by decide) wd_673 rfl rfl dX9_hang_67 ?_
    refine la_iconst (v := 4) B dX9_hang_70 (by decide) ?_
    refine la_iald (i := 38) (v := h 38 4) B (lh_nc_lt (by decide)) rfl (by unfold vp_in; decide) rfl dX9_hang_71 ?_
    refine la_icmp_ge (tgt := 126) B dX9_hang_72 (by decide) (fun c72 => ?_) (fun c72 => ?_)
    · exact absurd c72 hcont
    · refine la_aload_n (i := 0) B dX9_hang_75 rfl rfl ?_
      refine la_get (i := 37) (ci := 9) (j := 14) (C := RX9) (T := TX9) (N := 18) B (lh_nc_lt (by decide)) rfl ix_9 rfl (by decide) wd_687 rfl rfl dX9_hang_76 ?_
      refine la_iload_n (i := 2) B dX9_hang_79 rfl rfl ?_
      refine la_iald (i := 48) (v := h 48 (nI i).toNatClampNeg) B (lh_nc_lt (by decide)) rfl hb5 rfl dX9_hang_80 ?_
      refine la_aload_n (i := 0) B dX9_hang_81 rfl rfl ?_
      refine la_get (i := 37) (ci := 9) (j := 0) (C := RX9) (T := TX9) (N := 18) B (lh_nc_lt (by decide)) rfl ix_9 rfl (by decide) wd_673 rfl rfl dX9_hang_82 ?_
      refine la_iconst (v := 1) B dX9_hang_85 (by decide) ?_
      refine la_iald (i := 38) (v := h 38 1) B (lh_nc_lt (by decide)) rfl (by unfold vp_in; decide) rfl dX9_hang_86 ?_
      refine la_icmp_ge (tgt := 120) B dX9_hang_87 (by decide) (fun c87 => ?_) (fun c87 => ?_)
      · refine la_iincp B dX9_hang_120 rfl (by decide) ?_
        refine la_goto (tgt := 65) B dX9_hang_123 (by decide) ?_
        refine la_sub (lv2 := [(0, .ref (ad 37)), (1, .int nn), (2, .int (nI (i + 1)))]) ⟨rfl, rfl, (congrArg (fun z => some (Value.int z)) (nI_1 i)), trivial⟩ (by simp [Value.category]) ?_
        exact ih (i + 1) h (by omega) (by rw [hr]; simp only [LX9_hang2, if_pos c87]) (by rw [hh]; simp only [LX9_hang2_h, if_pos c87]) ⟨hv.1.no, hv.2⟩
      · refine la_aload_n (i := 0) B dX9_hang_90 rfl rfl ?_
        refine la_aload_n (i := 0) B dX9_hang_91 rfl rfl ?_
        refine la_get (i := 37) (ci := 9) (j := 14) (C := RX9) (T := TX9) (N := 18) B (lh_nc_lt (by decide)) rfl ix_9 rfl (by decide) wd_687 rfl rfl dX9_hang_92 ?_
        refine la_iload_n (i := 2) B dX9_hang_95 rfl rfl ?_
        refine la_iald (i := 48) (v := h 48 (nI i).toNatClampNeg) B (lh_nc_lt (by decide)) rfl hb5 rfl dX9_hang_96 ?_
        refine la_aload_n (i := 0) B dX9_hang_97 rfl rfl ?_
        refine la_get (i := 37) (ci := 9) (j := 6) (C := RX9) (T := TX9) (N := 18) B (lh_nc_lt (by decide)) rfl ix_9 rfl (by decide) wd_679 rfl rfl dX9_hang_98 ?_
        refine la_iconst (v := 3) B dX9_hang_101 (by decide) ?_
        refine la_iload_n (i := 2) B dX9_hang_102 rfl rfl ?_
        refine la_imul B dX9_hang_103 ?_
        refine la_iald (i := 44) (v := h 44 (3 * (nI i)).toNatClampNeg) B (lh_nc_lt (by decide)) rfl (lh_lin0 3 hbi (by decide) (by decide)) rfl dX9_hang_104 ?_
        refine la_aload_n (i := 0) B dX9_hang_105 rfl rfl ?_
        refine la_get (i := 37) (ci := 9) (j := 6) (C := RX9) (T := TX9) (N := 18) B (lh_nc_lt (by decide)) rfl ix_9 rfl (by decide) wd_679 rfl rfl dX9_hang_106 ?_
        refine la_iconst (v := 3) B dX9_hang_109 (by decide) ?_
        refine la_iload_n (i := 2) B dX9_hang_110 rfl rfl ?_
        refine la_imul B dX9_hang_111 ?_
        refine la_iconst (v := 1) B dX9_hang_112 (by decide) ?_
        refine la_iadd B dX9_hang_113 ?_
        refine la_iald (i := 44) (v := h 44 ((3 * (nI i)) + 1).toNatClampNeg) B (lh_nc_lt (by decide)) rfl (lh_lin 3 1 hbi (by decide) (by decide)) rfl dX9_hang_114 ?_
        refine la_iconst (v := 0) B dX9_hang_115 (by decide) ?_
        refine la_callVi (i := 37) B (ct_X9_books h (h 48 (nI i).toNatClampNeg) (h 44 (3 * (nI i)).toNatClampNeg) (h 44 ((3 * (nI i)) + 1).toNatClampNeg) 0 (hv.1.ix (hlt9 c87))) lk_X9_107 (by decide) (lh_nc_lt (by decide)) rfl rfl rfl (by simp [Value.category]) dX9_hang_116 ?_
        refine la_istore_n (i := 3) B dX9_hang_119 rfl (by decide) ?_
        refine la_iincp B dX9_hang_120 rfl (by decide) ?_
        refine la_goto (tgt := 65) B dX9_hang_123 (by decide) ?_
        refine la_sub (lv2 := [(0, .ref (ad 37)), (1, .int nn), (2, .int (nI (i + 1)))]) ⟨rfl, rfl, (congrArg (fun z => some (Value.int z)) (nI_1 i)), trivial⟩ (by simp [Value.category]) ?_
        exact ih (i + 1) (gX9_books h (h 48 (nI i).toNatClampNeg) (h 44 (3 * (nI i)).toNatClampNeg) (h 44 ((3 * (nI i)) + 1).toNatClampNeg) 0) (by omega) (by rw [hr]; simp only [LX9_hang2, if_neg c87]) (by rw [hh]; simp only [LX9_hang2_h, if_neg c87]) ⟨hv.1.bk (hlt9 c87) _ _ _ _, by rw [ne_books _ _ _ _ _ 38 4 (by decide) (Or.inr (by decide))]; exact hv.2.1, hv.2.2⟩

def LX9_hang1 (N9 : Nat) : Nat → Nat → Int32 → lh_HS → Int32
  | 0, i, acc, h => (if ((h 38 2) + acc) ≤ 30 then (LX9_hang2 acc N9 0 h) else (-2))
  | n + 1, i, acc, h => (if (h 48 (nI i).toNatClampNeg) = (h 38 1) then (LX9_hang1 N9 n (i + 1) (acc + 0) h) else (LX9_hang1 N9 n (i + 1) (acc + 1) h))
def LX9_hang1_h (N9 : Nat) : Nat → Nat → Int32 → lh_HS → lh_HS
  | 0, i, acc, h => (if ((h 38 2) + acc) ≤ 30 then (LX9_hang2_h acc N9 0 h) else h)
  | n + 1, i, acc, h => (if (h 48 (nI i).toNatClampNeg) = (h 38 1) then (LX9_hang1_h N9 n (i + 1) (acc + 0) h) else (LX9_hang1_h N9 n (i + 1) (acc + 1) h))
set_option maxHeartbeats 4000000 in
set_option maxRecDepth 100000 in
theorem lp_X9_hang1 {l : Launch} {D : va_G} {ad : Nat → Nat} {bs : Nat} {cI cZ : ClassId} {t9 : Nat} {k : Bool} {p : Program} {e : Env} {s : State} {m : MethodId} {args : Array Value} {below : List Frame} {meth : Method} {c : Code} (N9 : Nat) {r : Int32} {h2 : lh_HS} (B : lh_BK p (lh_rm 8) s m args meth c D ad bs cI cZ t9 k "LightHoursModel" cX9_hang 4 (some .int))  :
    ∀ (n i : Nat) (acc : Int32) (h : lh_HS), i + n = N9 → r = LX9_hang1 N9 n i acc h → h2 = LX9_hang1_h N9 n i acc h → ((h 38 2 + lh_cnt9 h n i acc ≤ 30 → lh_cap h N9 0) ∧ h 38 4 = nI N9 ∧ N9 ≤ 5) → lh_AJ p l e (lh_rm 8) s m args below meth c D ad bs cI cZ k 4 (MQ below (lh_Qi D ad bs cI cZ k r h2) args s 0 0 (lh_A bs)) 8 [(0, .ref (ad 37)), (1, .int acc), (2, .int (nI i))] [] h := by
  intro n
  induction n with
  | zero =>
    intro i acc h hi hr hh hv
    have hN := hv.2.1
    have hM := hv.2.2
    have hexit : h 38 4 ≤ nI i := by rw [hN]; exact nI_le (by omega) (by omega)
    refine la_iload_n (i := 2) B dX9_hang_8 rfl rfl ?_
    refine la_aload_n (i := 0) B dX9_hang_9 rfl rfl ?_
    refine la_get (i := 37) (ci := 9) (j := 0) (C := RX9) (T := TX9) (N := 18) B (lh_nc_lt (by decide)) rfl ix_9 rfl (by decide) wd_673 rfl rfl dX9_hang_10 ?_
    refine la_iconst (v := 4) B dX9_hang_13 (by decide) ?_
    refine la_iald (i := 38) (v := h 38 4) B (lh_nc_lt (by decide)) rfl (by unfold vp_in; decide) rfl dX9_hang_14 ?_
    refine la_icmp_ge (tgt := 47) B dX9_hang_15 (by decide) (fun c15 => ?_) (fun c15 => ?_)
    · refine la_aload_n (i := 0) B dX9_hang_47 rfl rfl ?_
      refine la_get (i := 37) (ci := 9) (j := 0) (C := RX9) (T := TX9) (N := 18) B (lh_nc_lt (by decide)) rfl ix_9 rfl (by decide) wd_673 rfl rfl dX9_hang_48 ?_
      refine la_iconst (v := 2) B dX9_hang_51 (by decide) ?_
      refine la_iald (i := 38) (v := h 38 2) B (lh_nc_lt (by decide)) rfl (by unfold vp_in; decide) rfl dX9_hang_52 ?_
      refine la_iload_n (i := 1) B dX9_hang_53 rfl rfl ?_
      refine la_iadd B dX9_hang_54 ?_
      refine la_bipush (v := 30) B dX9_hang_55 (by decide) ?_
      refine la_icmp_le (tgt := 63) B dX9_hang_57 (by decide) (fun c57 => ?_) (fun c57 => ?_)
      · refine la_iconst (v := 0) B dX9_hang_63 (by decide) ?_
        refine la_istore_n (i := 2) B dX9_hang_64 rfl (by decide) ?_
        refine la_sub (lv2 := [(0, .ref (ad 37)), (1, .int acc), (2, .int (nI 0))]) ⟨rfl, rfl, rfl, trivial⟩ (by simp [Value.category]) ?_
        exact lp_X9_hang2 acc B _ 0 h (Nat.zero_add _) (by rw [hr]; simp only [LX9_hang1, if_pos c57]) (by rw [hh]; simp only [LX9_hang1_h, if_pos c57]) ⟨hv.1 c57, hv.2⟩
      · refine la_bipush (v := -2) B dX9_hang_60 (by decide) ?_
        exact la_ireturn B rfl (by rw [hr]; simp only [LX9_hang1, if_neg c57]) (by rw [hh]; simp only [LX9_hang1_h, if_neg c57]) dX9_hang_62
    · exact absurd hexit c15
  | succ n ih =>
    intro i acc h hi hr hh hv
    have hN := hv.2.1
    have hM := hv.2.2
    have hcont : ¬ h 38 4 ≤ nI i := by rw [hN]; exact nI_ge (by omega) (by omega)
    have hb5 : vp_in (nI i) 5 := vp_in_nI (by omega) (by omega)
    refine la_iload_n (i := 2) B dX9_hang_8 rfl rfl ?_
    refine la_aload_n (i := 0) B dX9_hang_9 rfl rfl ?_
    refine la_get (i := 37) (ci := 9) (j := 0) (C := RX9) (T := TX9) (N := 18) B (lh_nc_lt (by decide)) rfl ix_9 rfl (by decide) wd_673 rfl rfl dX9_hang_10 ?_
    refine la_iconst (v := 4) B dX9_hang_13 (by decide) ?_
    refine la_iald (i := 38) (v := h 38 4) B (lh_nc_lt (by decide)) rfl (by unfold vp_in; decide) rfl dX9_hang_14 ?_
    refine la_icmp_ge (tgt := 47) B dX9_hang_15 (by decide) (fun c15 => ?_) (fun c15 => ?_)
    · exact absurd c15 hcont
    · refine la_iload_n (i := 1) B dX9_hang_18 rfl rfl ?_
      refine la_aload_n (i := 0) B dX9_hang_19 rfl rfl ?_
      refine la_get (i := 37) (ci := 9) (j := 14) (C := RX9) (T := TX9) (N := 18) B (lh_nc_lt (by decide)) rfl ix_9 rfl (by decide) wd_687 rfl rfl dX9_hang_20 ?_
      refine la_iload_n (i := 2) B dX9_hang_23 rfl rfl ?_
      refine la_iald (i := 48) (v := h 48 (nI i).toNatClampNeg) B (lh_nc_lt (by decide)) rfl hb5 rfl dX9_hang_24 ?_
      refine la_aload_n (i := 0) B dX9_hang_25 rfl rfl ?_
      refine la_get (i := 37) (ci := 9) (j := 0) (C := RX9) (T := TX9) (N := 18) B (lh_nc_lt (by decide)) rfl ix_9 rfl (by decide) wd_673 rfl rfl dX9_hang_26 ?_
      refine la_iconst (v := 1) B dX9_hang_29 (by decide) ?_
      refine la_iald (i := 38) (v := h 38 1) B (lh_nc_lt (by decide)) rfl (by unfold vp_in; decide) rfl dX9_hang_30 ?_
      refine la_icmp_ne (tgt := 38) B dX9_hang_31 (by decide) (fun c31 => ?_) (fun c31 => ?_)
      · refine la_iconst (v := 1) B dX9_hang_38 (by decide) ?_
        refine la_iadd B dX9_hang_39 ?_
        refine la_istore_n (i := 1) B dX9_hang_40 rfl (by decide) ?_
        refine la_iincp B dX9_hang_41 rfl (by decide) ?_
        refine la_goto (tgt := 8) B dX9_hang_44 (by decide) ?_
        refine la_sub (lv2 := [(0, .ref (ad 37)), (1, .int ((acc + 1))), (2, .int (nI (i + 1)))]) ⟨rfl, rfl, (congrArg (fun z => some (Value.int z)) (nI_1 i)), trivial⟩ (by simp [Value.category]) ?_
        exact ih (i + 1) (acc + 1) h (by omega) (by rw [hr]; simp only [LX9_hang1, if_neg c31]) (by rw [hh]; simp only [LX9_hang1_h, if_neg c31]) ⟨(by have hv1 := hv.1; simp only [lh_cnt9, if_neg c31] at hv1; exact hv1), hv.2⟩
      · refine la_iconst (v := 0) B dX9_hang_34 (by decide) ?_
        refine la_goto (tgt := 39) B dX9_hang_35 (by decide) ?_
        refine la_iadd B dX9_hang_39 ?_
        refine la_istore_n (i := 1) B dX9_hang_40 rfl (by decide) ?_
        refine la_iincp B dX9_hang_41 rfl (by decide) ?_
        refine la_goto (tgt := 8) B dX9_hang_44 (by decide) ?_
        refine la_sub (lv2 := [(0, .ref (ad 37)), (1, .int ((acc + 0))), (2, .int (nI (i + 1)))]) ⟨rfl, rfl, (congrArg (fun z => some (Value.int z)) (nI_1 i)), trivial⟩ (by simp [Value.category]) ?_
        exact ih (i + 1) (acc + 0) h (by omega) (by rw [hr]; simp only [LX9_hang1, if_pos c31]) (by rw [hh]; simp only [LX9_hang1_h, if_pos c31]) ⟨(by have hv1 := hv.1; simp only [lh_cnt9, if_pos c31] at hv1; exact hv1), hv.2⟩

def fX9_hang (h : lh_HS)  : Int32 := (LX9_hang1 (lh_m h 4) (lh_m h 4) 0 0 (gX9_findHang h))
def gX9_hang (h : lh_HS)  : lh_HS := (LX9_hang1_h (lh_m h 4) (lh_m h 4) 0 0 (gX9_findHang h))
set_option maxHeartbeats 4000000 in
set_option maxRecDepth 100000 in
theorem ct_X9_hang {l : Launch} {D : va_G} {ad : Nat → Nat} {bs : Nat} {cI cZ : ClassId} {t9 : Nat} {k : Bool} (h : lh_HS)  (J : lh_J h) (hcap : gX9_findHang h 38 2 + lh_cnt9 (gX9_findHang h) (lh_m h 4) 0 0 ≤ 30 → lh_cap (gX9_findHang h) (lh_m h 4) 0) : lh_CTi l D ad bs cI cZ t9 k yX9_hang cX9_hang 4 (some .int) 8 [.ref (ad 37)] h (fX9_hang h ) (gX9_hang h ) := by
  refine lh_ofi (lv := [(0, .ref (ad 37))]) (by decide) (Nat.le_of_ble_eq_true rfl) rfl (by simp [Value.category]) ⟨rfl, trivial⟩ ?_
  intro p e s m args below meth c B
  have B : lh_BK p (lh_rm 8) s m args meth c D ad bs cI cZ t9 k "LightHoursModel" cX9_hang 4 (some .int) := B
  refine la_aload_n (i := 0) B dX9_hang_0 rfl rfl ?_
  refine la_callVv (i := 37) B (ct_X9_findHang h  J) lk_X9_134 (by decide) (lh_nc_lt (by decide)) rfl rfl rfl (by simp [Value.category]) dX9_hang_1 ?_
  refine la_iconst (v := 0) B dX9_hang_4 (by decide) ?_
  refine la_istore_n (i := 1) B dX9_hang_5 rfl (by decide) ?_
  refine la_iconst (v := 0) B dX9_hang_6 (by decide) ?_
  refine la_istore_n (i := 2) B dX9_hang_7 rfl (by decide) ?_
  refine la_sub (lv2 := [(0, .ref (ad 37)), (1, .int 0), (2, .int (nI 0))]) ⟨rfl, rfl, rfl, trivial⟩ (by simp [Value.category]) ?_
  exact lp_X9_hang1 _ B _ 0 0 (gX9_findHang h) (Nat.zero_add _) (by simp only [fX9_hang]) (by simp only [gX9_hang]) ⟨hcap, by rw [fm_findHang J 38 (by decide) (by decide)]; exact J.1.2.2.2.2.1, J.1.2.2.2.2.2⟩

def LX9_move_38_h (kp : Int32) : Nat → Nat → lh_HS → lh_HS
  | 0, i, h => h
  | n + 1, i, h => (if kp = 0 then (LX9_move_38_h kp n (i + 1) (lh_up (lh_up h 38 ((nI i).toNatClampNeg) ((h 46 (h 37 17).toNatClampNeg))) 37 17 ((h 37 17) + 1))) else (LX9_move_38_h kp n (i + 1) (lh_up (lh_up h 46 ((h 37 17).toNatClampNeg) ((h 38 (nI i).toNatClampNeg))) 37 17 ((h 37 17) + 1))))
set_option maxHeartbeats 4000000 in
set_option maxRecDepth 100000 in
theorem lp_X9_move_38 {l : Launch} {D : va_G} {ad : Nat → Nat} {bs : Nat} {cI cZ : ClassId} {t9 : Nat} {k : Bool} {p : Program} {e : Env} {s : State} {m : MethodId} {args : Array Value} {below : List Frame} {meth : Method} {c : Code} (kp : Int32) {h2 : lh_HS} (B : lh_BK p (lh_rm 0) s m args meth c D ad bs cI cZ t9 k "LightHoursModel" cX9_move 5 none) {p0 : Nat} (hp0 : p0 + 5 ≤ 310) :
    ∀ (n i : Nat) (h : lh_HS), i + n = 5 → h2 = LX9_move_38_h kp n i h → h 37 17 = nI (p0 + i) → lh_AJ p l e (lh_rm 0) s m args below meth c D ad bs cI cZ k 5 (MQ below (lh_Qv D ad bs cI cZ k h2) args s 0 0 (lh_A bs)) 3 [(0, .ref (ad 37)), (1, .ref (ad 38)), (2, .int 5), (3, .int kp), (4, .int (nI i))] [] h := by
  intro n
  induction n with
  | zero =>
    intro i h hi hh hv
    have hexit : (5 : Int32) ≤ nI i := nI_le (a := 5) (by omega) (by omega)
    refine la_iload B dX9_move_3 rfl ?_
    refine la_iload_n (i := 2) B dX9_move_5 rfl rfl ?_
    refine la_icmp_ge (tgt := 58) B dX9_move_6 (by decide) (fun c6 => ?_) (fun c6 => ?_)
    · exact la_return B rfl (by rw [hh]; simp only [LX9_move_38_h]) dX9_move_58
    · exact absurd hexit c6
  | succ n ih =>
    intro i h hi hh hv
    have hcont : ¬ (5 : Int32) ≤ nI i := nI_ge (b := 5) (by omega) (by omega)
    have hb : vp_in (nI i) 5 := vp_in_nI (by omega) (by omega)
    have hbp : vp_in (h 37 17) 310 := by rw [hv]; exact vp_in_nI (by omega) (by omega)
    refine la_iload B dX9_move_3 rfl ?_
    refine la_iload_n (i := 2) B dX9_move_5 rfl rfl ?_
    refine la_icmp_ge (tgt := 58) B dX9_move_6 (by decide) (fun c6 => ?_) (fun c6 => ?_)
    · exact absurd c6 hcont
    · refine la_iload_n (i := 3) B dX9_move_9 rfl rfl ?_
      refine la_if_eq (tgt := 29) B dX9_move_10 (by decide) (fun c10 => ?_) (fun c10 => ?_)
      · refine la_aload_n (i := 1) B dX9_move_29 rfl rfl ?_
        refine la_iload B dX9_move_30 rfl ?_
        refine la_aload_n (i := 0) B dX9_move_32 rfl rfl ?_
        refine la_get (i := 37) (ci := 9) (j := 9) (C := RX9) (T := TX9) (N := 18) B (lh_nc_lt (by decide)) rfl ix_9 rfl (by decide) wd_682 rfl rfl dX9_move_33 ?_
        refine la_aload_n (i := 0) B dX9_move_36 rfl rfl ?_
        refine la_get (i := 37) (ci := 9) (j := 17) (v := .int (h 37 17)) (C := RX9) (T := TX9) (N := 18) B (lh_nc_lt (by decide)) rfl ix_9 rfl (by decide) wd_690 rfl rfl dX9_move_37 ?_
        refine la_iald (i := 46) (v := h 46 (h 37 17).toNatClampNeg) B (lh_nc_lt (by decide)) rfl hbp rfl dX9_move_40 ?_
        refine la_iast (i := 38) (j := (nI i).toNatClampNeg) B (lh_nc_lt (by decide)) rfl rfl hb rfl dX9_move_41 ?_
        refine la_aload_n (i := 0) B dX9_move_42 rfl rfl ?_
        refine la_dup B dX9_move_43 rfl ?_
        refine la_get (i := 37) (ci := 9) (j := 17) (v := .int (h 37 17)) (C := RX9) (T := TX9) (N := 18) B (lh_nc_lt (by decide)) rfl ix_9 rfl (by decide) wd_690 rfl rfl dX9_move_44 ?_
        refine la_iconst (v := 1) B dX9_move_47 (by decide) ?_
        refine la_iadd B dX9_move_48 ?_
        refine la_put (i := 37) (ci := 9) (j := 17) (C := RX9) (T := TX9) (N := 18) (ty0 := tyX9) B (lh_nc_lt (by decide)) rfl rfl ix_9 tyX9_ok nmX9 rfl (by decide) wd_690 rfl rfl rfl rfl rfl (Nat.le_of_ble_eq_true rfl) dX9_move_49 ?_
        refine la_iincp B dX9_move_52 rfl (by decide) ?_
        refine la_goto (tgt := 3) B dX9_move_55 (by decide) ?_
        refine la_sub (lv2 := [(0, .ref (ad 37)), (1, .ref (ad 38)), (2, .int 5), (3, .int kp), (4, .int (nI (i + 1)))]) ⟨rfl, rfl, rfl, rfl, (congrArg (fun z => some (Value.int z)) (nI_1 i)), trivial⟩ (by simp [Value.category]) ?_
        exact ih (i + 1) (lh_up (lh_up h 38 ((nI i).toNatClampNeg) ((h 46 (h 37 17).toNatClampNeg))) 37 17 ((h 37 17) + 1)) (by omega) (by rw [hh]; simp only [LX9_move_38_h, if_pos c10]) (by rw [lh_up_eq, hv, nI_1]; rfl)
      · refine la_aload_n (i := 0) B dX9_move_13 rfl rfl ?_
        refine la_get (i := 37) (ci := 9) (j := 9) (C := RX9) (T := TX9) (N := 18) B (lh_nc_lt (by decide)) rfl ix_9 rfl (by decide) wd_682 rfl rfl dX9_move_14 ?_
        refine la_aload_n (i := 0) B dX9_move_17 rfl rfl ?_
        refine la_get (i := 37) (ci := 9) (j := 17) (v := .int (h 37 17)) (C := RX9) (T := TX9) (N := 18) B (lh_nc_lt (by decide)) rfl ix_9 rfl (by decide) wd_690 rfl rfl dX9_move_18 ?_
        refine la_aload_n (i := 1) B dX9_move_21 rfl rfl ?_
        refine la_iload B dX9_move_22 rfl ?_
        refine la_iald (i := 38) (v := h 38 (nI i).toNatClampNeg) B (lh_nc_lt (by decide)) rfl hb rfl dX9_move_24 ?_
        refine la_iast (i := 46) (j := (h 37 17).toNatClampNeg) B (lh_nc_lt (by decide)) rfl rfl hbp rfl dX9_move_25 ?_
        refine la_goto (tgt := 42) B dX9_move_26 (by decide) ?_
        refine la_aload_n (i := 0) B dX9_move_42 rfl rfl ?_
        refine la_dup B dX9_move_43 rfl ?_
        refine la_get (i := 37) (ci := 9) (j := 17) (v := .int (h 37 17)) (C := RX9) (T := TX9) (N := 18) B (lh_nc_lt (by decide)) rfl ix_9 rfl (by decide) wd_690 rfl rfl dX9_move_44 ?_
        refine la_iconst (v := 1) B dX9_move_47 (by decide) ?_
        refine la_iadd B dX9_move_48 ?_
        refine la_put (i := 37) (ci := 9) (j := 17) (C := RX9) (T := TX9) (N := 18) (ty0 := tyX9) B (lh_nc_lt (by decide)) rfl rfl ix_9 tyX9_ok nmX9 rfl (by decide) wd_690 rfl rfl rfl rfl rfl (Nat.le_of_ble_eq_true rfl) dX9_move_49 ?_
        refine la_iincp B dX9_move_52 rfl (by decide) ?_
        refine la_goto (tgt := 3) B dX9_move_55 (by decide) ?_
        refine la_sub (lv2 := [(0, .ref (ad 37)), (1, .ref (ad 38)), (2, .int 5), (3, .int kp), (4, .int (nI (i + 1)))]) ⟨rfl, rfl, rfl, rfl, (congrArg (fun z => some (Value.int z)) (nI_1 i)), trivial⟩ (by simp [Value.category]) ?_
        exact ih (i + 1) (lh_up (lh_up h 46 ((h 37 17).toNatClampNeg) ((h 38 (nI i).toNatClampNeg))) 37 17 ((h 37 17) + 1)) (by omega) (by rw [hh]; simp only [LX9_move_38_h, if_neg c10]) (by rw [lh_up_eq, hv, nI_1]; rfl)

def gX9_move_38 (h : lh_HS) (kp : Int32) : lh_HS := (LX9_move_38_h kp 5 0 h)
set_option maxHeartbeats 4000000 in
set_option maxRecDepth 100000 in
theorem ct_X9_move_38 {l : Launch} {D : va_G} {ad : Nat → Nat} {bs : Nat} {cI cZ : ClassId} {t9 : Nat} {k : Bool} (h : lh_HS) (kp : Int32) {p0 : Nat} (hp0 : p0 + 5 ≤ 310) (hp : h 37 17 = nI p0) : lh_CTv l D ad bs cI cZ t9 k yX9_move cX9_move 5 0 [.ref (ad 37), .ref (ad 38), .int 5, .int kp] h (gX9_move_38 h kp) := by
  refine lh_ofv (lv := [(0, .ref (ad 37)), (1, .ref (ad 38)), (2, .int 5), (3, .int kp)]) (by decide) (Nat.le_of_ble_eq_true rfl) rfl (by simp [Value.category]) ⟨rfl, rfl, rfl, rfl, trivial⟩ ?_
  intro p e s m args below meth c B
  have B : lh_BK p (lh_rm 0) s m args meth c D ad bs cI cZ t9 k "LightHoursModel" cX9_move 5 none := B
  refine la_iconst (v := 0) B dX9_move_0 (by decide) ?_
  refine la_istore B dX9_move_1 (by decide) ?_
  refine la_sub (lv2 := [(0, .ref (ad 37)), (1, .ref (ad 38)), (2, .int 5), (3, .int kp), (4, .int (nI 0))]) ⟨rfl, rfl, rfl, rfl, rfl, trivial⟩ (by simp [Value.category]) ?_
  exact lp_X9_move_38 kp B hp0 _ 0 h (Nat.zero_add _) (by simp only [gX9_move_38]) hp

theorem pl_Lmove_38 (kp : Int32) : ∀ (n i : Nat) (h : lh_HS) (p0 : Nat), h 37 17 = nI p0 → LX9_move_38_h kp n i h 37 17 = nI (p0 + n) := by
  intro n
  induction n with
  | zero => intro i h p0 e; exact e
  | succ n ih =>
    intro i h p0 e
    simp only [LX9_move_38_h]
    split
    · rw [ih _ _ (p0 + 1) (by rw [lh_up_eq, e, nI_1])]; congr 1; omega
    · rw [ih _ _ (p0 + 1) (by rw [lh_up_eq, e, nI_1])]; congr 1; omega
theorem pl_move_38 (kp : Int32) (h : lh_HS) {p0 : Nat} (e : h 37 17 = nI p0) : gX9_move_38 h kp 37 17 = nI (p0 + 5) := pl_Lmove_38 kp _ _ h p0 e
def LX9_move_39_h (kp : Int32) : Nat → Nat → lh_HS → lh_HS
  | 0, i, h => h
  | n + 1, i, h => (if kp = 0 then (LX9_move_39_h kp n (i + 1) (lh_up (lh_up h 39 ((nI i).toNatClampNeg) ((h 46 (h 37 17).toNatClampNeg))) 37 17 ((h 37 17) + 1))) else (LX9_move_39_h kp n (i + 1) (lh_up (lh_up h 46 ((h 37 17).toNatClampNeg) ((h 39 (nI i).toNatClampNeg))) 37 17 ((h 37 17) + 1))))
set_option maxHeartbeats 4000000 in
set_option maxRecDepth 100000 in
theorem lp_X9_move_39 {l : Launch} {D : va_G} {ad : Nat → Nat} {bs : Nat} {cI cZ : ClassId} {t9 : Nat} {k : Bool} {p : Program} {e : Env} {s : State} {m : MethodId} {args : Array Value} {below : List Frame} {meth : Method} {c : Code} (kp : Int32) {h2 : lh_HS} (B : lh_BK p (lh_rm 0) s m args meth c D ad bs cI cZ t9 k "LightHoursModel" cX9_move 5 none) {p0 : Nat} (hp0 : p0 + 4 ≤ 310) :
    ∀ (n i : Nat) (h : lh_HS), i + n = 4 → h2 = LX9_move_39_h kp n i h → h 37 17 = nI (p0 + i) → lh_AJ p l e (lh_rm 0) s m args below meth c D ad bs cI cZ k 5 (MQ below (lh_Qv D ad bs cI cZ k h2) args s 0 0 (lh_A bs)) 3 [(0, .ref (ad 37)), (1, .ref (ad 39)), (2, .int 4), (3, .int kp), (4, .int (nI i))] [] h := by
  intro n
  induction n with
  | zero =>
    intro i h hi hh hv
    have hexit : (4 : Int32) ≤ nI i := nI_le (a := 4) (by omega) (by omega)
    refine la_iload B dX9_move_3 rfl ?_
    refine la_iload_n (i := 2) B dX9_move_5 rfl rfl ?_
    refine la_icmp_ge (tgt := 58) B dX9_move_6 (by decide) (fun c6 => ?_) (fun c6 => ?_)
    · exact la_return B rfl (by rw [hh]; simp only [LX9_move_39_h]) dX9_move_58
    · exact absurd hexit c6
  | succ n ih =>
    intro i h hi hh hv
    have hcont : ¬ (4 : Int32) ≤ nI i := nI_ge (b := 4) (by omega) (by omega)
    have hb : vp_in (nI i) 4 := vp_in_nI (by omega) (by omega)
    have hbp : vp_in (h 37 17) 310 := by rw [hv]; exact vp_in_nI (by omega) (by omega)
    refine la_iload B dX9_move_3 rfl ?_
    refine la_iload_n (i := 2) B dX9_move_5 rfl rfl ?_
    refine la_icmp_ge (tgt := 58) B dX9_move_6 (by decide) (fun c6 => ?_) (fun c6 => ?_)
    · exact absurd c6 hcont
    · refine la_iload_n (i := 3) B dX9_move_9 rfl rfl ?_
      refine la_if_eq (tgt := 29) B dX9_move_10 (by decide) (fun c10 => ?_) (fun c10 => ?_)
      · refine la_aload_n (i := 1) B dX9_move_29 rfl rfl ?_
        refine la_iload B dX9_move_30 rfl ?_
        refine la_aload_n (i := 0) B dX9_move_32 rfl rfl ?_
        refine la_get (i := 37) (ci := 9) (j := 9) (C := RX9) (T := TX9) (N := 18) B (lh_nc_lt (by decide)) rfl ix_9 rfl (by decide) wd_682 rfl rfl dX9_move_33 ?_
        refine la_aload_n (i := 0) B dX9_move_36 rfl rfl ?_
        refine la_get (i := 37) (ci := 9) (j := 17) (v := .int (h 37 17)) (C := RX9) (T := TX9) (N := 18) B (lh_nc_lt (by decide)) rfl ix_9 rfl (by decide) wd_690 rfl rfl dX9_move_37 ?_
        refine la_iald (i := 46) (v := h 46 (h 37 17).toNatClampNeg) B (lh_nc_lt (by decide)) rfl hbp rfl dX9_move_40 ?_
        refine la_iast (i := 39) (j := (nI i).toNatClampNeg) B (lh_nc_lt (by decide)) rfl rfl hb rfl dX9_move_41 ?_
        refine la_aload_n (i := 0) B dX9_move_42 rfl rfl ?_
        refine la_dup B dX9_move_43 rfl ?_
        refine la_get (i := 37) (ci := 9) (j := 17) (v := .int (h 37 17)) (C := RX9) (T := TX9) (N := 18) B (lh_nc_lt (by decide)) rfl ix_9 rfl (by decide) wd_690 rfl rfl dX9_move_44 ?_
        refine la_iconst (v := 1) B dX9_move_47 (by decide) ?_
        refine la_iadd B dX9_move_48 ?_
        refine la_put (i := 37) (ci := 9) (j := 17) (C := RX9) (T := TX9) (N := 18) (ty0 := tyX9) B (lh_nc_lt (by decide)) rfl rfl ix_9 tyX9_ok nmX9 rfl (by decide) wd_690 rfl rfl rfl rfl rfl (Nat.le_of_ble_eq_true rfl) dX9_move_49 ?_
        refine la_iincp B dX9_move_52 rfl (by decide) ?_
        refine la_goto (tgt := 3) B dX9_move_55 (by decide) ?_
        refine la_sub (lv2 := [(0, .ref (ad 37)), (1, .ref (ad 39)), (2, .int 4), (3, .int kp), (4, .int (nI (i + 1)))]) ⟨rfl, rfl, rfl, rfl, (congrArg (fun z => some (Value.int z)) (nI_1 i)), trivial⟩ (by simp [Value.category]) ?_
        exact ih (i + 1) (lh_up (lh_up h 39 ((nI i).toNatClampNeg) ((h 46 (h 37 17).toNatClampNeg))) 37 17 ((h 37 17) + 1)) (by omega) (by rw [hh]; simp only [LX9_move_39_h, if_pos c10]) (by rw [lh_up_eq, hv, nI_1]; rfl)
      · refine la_aload_n (i := 0) B dX9_move_13 rfl rfl ?_
        refine la_get (i := 37) (ci := 9) (j := 9) (C := RX9) (T := TX9) (N := 18) B (lh_nc_lt (by decide)) rfl ix_9 rfl (by decide) wd_682 rfl rfl dX9_move_14 ?_
        refine la_aload_n (i := 0) B dX9_move_17 rfl rfl ?_
        refine la_get (i := 37) (ci := 9) (j := 17) (v := .int (h 37 17)) (C := RX9) (T := TX9) (N := 18) B (lh_nc_lt (by decide)) rfl ix_9 rfl (by decide) wd_690 rfl rfl dX9_move_18 ?_
        refine la_aload_n (i := 1) B dX9_move_21 rfl rfl ?_
        refine la_iload B dX9_move_22 rfl ?_
        refine la_iald (i := 39) (v := h 39 (nI i).toNatClampNeg) B (lh_nc_lt (by decide)) rfl hb rfl dX9_move_24 ?_
        refine la_iast (i := 46) (j := (h 37 17).toNatClampNeg) B (lh_nc_lt (by decide)) rfl rfl hbp rfl dX9_move_25 ?_
        refine la_goto (tgt := 42) B dX9_move_26 (by decide) ?_
        refine la_aload_n (i := 0) B dX9_move_42 rfl rfl ?_
        refine la_dup B dX9_move_43 rfl ?_
        refine la_get (i := 37) (ci := 9) (j := 17) (v := .int (h 37 17)) (C := RX9) (T := TX9) (N := 18) B (lh_nc_lt (by decide)) rfl ix_9 rfl (by decide) wd_690 rfl rfl dX9_move_44 ?_
        refine la_iconst (v := 1) B dX9_move_47 (by decide) ?_
        refine la_iadd B dX9_move_48 ?_
        refine la_put (i := 37) (ci := 9) (j := 17) (C := RX9) (T := TX9) (N := 18) (ty0 := tyX9) B (lh_nc_lt (by decide)) rfl rfl ix_9 tyX9_ok nmX9 rfl (by decide) wd_690 rfl rfl rfl rfl rfl (Nat.le_of_ble_eq_true rfl) dX9_move_49 ?_
        refine la_iincp B dX9_move_52 rfl (by decide) ?_
        refine la_goto (tgt := 3) B dX9_move_55 (by decide) ?_
        refine la_sub (lv2 := [(0, .ref (ad 37)), (1, .ref (ad 39)), (2, .int 4), (3, .int kp), (4, .int (nI (i + 1)))]) ⟨rfl, rfl, rfl, rfl, (congrArg (fun z => some (Value.int z)) (nI_1 i)), trivial⟩ (by simp [Value.category]) ?_
        exact ih (i + 1) (lh_up (lh_up h 46 ((h 37 17).toNatClampNeg) ((h 39 (nI i).toNatClampNeg))) 37 17 ((h 37 17) + 1)) (by omega) (by rw [hh]; simp only [LX9_move_39_h, if_neg c10]) (by rw [lh_up_eq, hv, nI_1]; rfl)

def gX9_move_39 (h : lh_HS) (kp : Int32) : lh_HS := (LX9_move_39_h kp 4 0 h)
set_option maxHeartbeats 4000000 in
set_option maxRecDepth 100000 in
theorem ct_X9_move_39 {l : Launch} {D : va_G} {ad : Nat → Nat} {bs : Nat} {cI cZ : ClassId} {t9 : Nat} {k : Bool} (h : lh_HS) (kp : Int32) {p0 : Nat} (hp0 : p0 + 4 ≤ 310) (hp : h 37 17 = nI p0) : lh_CTv l D ad bs cI cZ t9 k yX9_move cX9_move 5 0 [.ref (ad 37), .ref (ad 39), .int 4, .int kp] h (gX9_move_39 h kp) := by
  refine lh_ofv (lv := [(0, .ref (ad 37)), (1, .ref (ad 39)), (2, .int 4), (3, .int kp)]) (by decide) (Nat.le_of_ble_eq_true rfl) rfl (by simp [Value.category]) ⟨rfl, rfl, rfl, rfl, trivial⟩ ?_
  intro p e s m args below meth c B
  have B : lh_BK p (lh_rm 0) s m args meth c D ad bs cI cZ t9 k "LightHoursModel" cX9_move 5 none := B
  refine la_iconst (v := 0) B dX9_move_0 (by decide) ?_
  refine la_istore B dX9_move_1 (by decide) ?_
  refine la_sub (lv2 := [(0, .ref (ad 37)), (1, .ref (ad 39)), (2, .int 4), (3, .int kp), (4, .int (nI 0))]) ⟨rfl, rfl, rfl, rfl, rfl, trivial⟩ (by simp [Value.category]) ?_
  exact lp_X9_move_39 kp B hp0 _ 0 h (Nat.zero_add _) (by simp only [gX9_move_39]) hp

theorem pl_Lmove_39 (kp : Int32) : ∀ (n i : Nat) (h : lh_HS) (p0 : Nat), h 37 17 = nI p0 → LX9_move_39_h kp n i h 37 17 = nI (p0 + n) := by
  intro n
  induction n with
  | zero => intro i h p0 e; exact e
  | succ n ih =>
    intro i h p0 e
    simp only [LX9_move_39_h]
    split
    · rw [ih _ _ (p0 + 1) (by rw [lh_up_eq, e, nI_1])]; congr 1; omega
    · rw [ih _ _ (p0 + 1) (by rw [lh_up_eq, e, nI_1])]; congr 1; omega
theorem pl_move_39 (kp : Int32) (h : lh_HS) {p0 : Nat} (e : h 37 17 = nI p0) : gX9_move_39 h kp 37 17 = nI (p0 + 4) := pl_Lmove_39 kp _ _ h p0 e
def LX9_move_40_h (kp : Int32) : Nat → Nat → lh_HS → lh_HS
  | 0, i, h => h
  | n + 1, i, h => (if kp = 0 then (LX9_move_40_h kp n (i + 1) (lh_up (lh_up h 40 ((nI i).toNatClampNeg) ((h 46 (h 37 17).toNatClampNeg))) 37 17 ((h 37 17) + 1))) else (LX9_move_40_h kp n (i + 1) (lh_up (lh_up h 46 ((h 37 17).toNatClampNeg) ((h 40 (nI i).toNatClampNeg))) 37 17 ((h 37 17) + 1))))
set_option maxHeartbeats 4000000 in
set_option maxRecDepth 100000 in
theorem lp_X9_move_40 {l : Launch} {D : va_G} {ad : Nat → Nat} {bs : Nat} {cI cZ : ClassId} {t9 : Nat} {k : Bool} {p : Program} {e : Env} {s : State} {m : MethodId} {args : Array Value} {below : List Frame} {meth : Method} {c : Code} (kp : Int32) {h2 : lh_HS} (B : lh_BK p (lh_rm 0) s m args meth c D ad bs cI cZ t9 k "LightHoursModel" cX9_move 5 none) {p0 : Nat} (hp0 : p0 + 40 ≤ 310) :
    ∀ (n i : Nat) (h : lh_HS), i + n = 40 → h2 = LX9_move_40_h kp n i h → h 37 17 = nI (p0 + i) → lh_AJ p l e (lh_rm 0) s m args below meth c D ad bs cI cZ k 5 (MQ below (lh_Qv D ad bs cI cZ k h2) args s 0 0 (lh_A bs)) 3 [(0, .ref (ad 37)), (1, .ref (ad 40)), (2, .int 40), (3, .int kp), (4, .int (nI i))] [] h := by
  intro n
  induction n with
  | zero =>
    intro i h hi hh hv
    have hexit : (40 : Int32) ≤ nI i := nI_le (a := 40) (by omega) (by omega)
    refine la_iload B dX9_move_3 rfl ?_
    refine la_iload_n (i := 2) B dX9_move_5 rfl rfl ?_
    refine la_icmp_ge (tgt := 58) B dX9_move_6 (by decide) (fun c6 => ?_) (fun c6 => ?_)
    · exact la_return B rfl (by rw [hh]; simp only [LX9_move_40_h]) dX9_move_58
    · exact absurd hexit c6
  | succ n ih =>
    intro i h hi hh hv
    have hcont : ¬ (40 : Int32) ≤ nI i := nI_ge (b := 40) (by omega) (by omega)
    have hb : vp_in (nI i) 40 := vp_in_nI (by omega) (by omega)
    have hbp : vp_in (h 37 17) 310 := by rw [hv]; exact vp_in_nI (by omega) (by omega)
    refine la_iload B dX9_move_3 rfl ?_
    refine la_iload_n (i := 2) B dX9_move_5 rfl rfl ?_
    refine la_icmp_ge (tgt := 58) B dX9_move_6 (by decide) (fun c6 => ?_) (fun c6 => ?_)
    · exact absurd c6 hcont
    · refine la_iload_n (i := 3) B dX9_move_9 rfl rfl ?_
      refine la_if_eq (tgt := 29) B dX9_move_10 (by decide) (fun c10 => ?_) (fun c10 => ?_)
      · refine la_aload_n (i := 1) B dX9_move_29 rfl rfl ?_
        refine la_iload B dX9_move_30 rfl ?_
        refine la_aload_n (i := 0) B dX9_move_32 rfl rfl ?_
        refine la_get (i := 37) (ci := 9) (j := 9) (C := RX9) (T := TX9) (N := 18) B (lh_nc_lt (by decide)) rfl ix_9 rfl (by decide) wd_682 rfl rfl dX9_move_33 ?_
        refine la_aload_n (i := 0) B dX9_move_36 rfl rfl ?_
        refine la_get (i := 37) (ci := 9) (j := 17) (v := .int (h 37 17)) (C := RX9) (T := TX9) (N := 18) B (lh_nc_lt (by decide)) rfl ix_9 rfl (by decide) wd_690 rfl rfl dX9_move_37 ?_
        refine la_iald (i := 46) (v := h 46 (h 37 17).toNatClampNeg) B (lh_nc_lt (by decide)) rfl hbp rfl dX9_move_40 ?_
        refine la_iast (i := 40) (j := (nI i).toNatClampNeg) B (lh_nc_lt (by decide)) rfl rfl hb rfl dX9_move_41 ?_
        refine la_aload_n (i := 0) B dX9_move_42 rfl rfl ?_
        refine la_dup B dX9_move_43 rfl ?_
        refine la_get (i := 37) (ci := 9) (j := 17) (v := .int (h 37 17)) (C := RX9) (T := TX9) (N := 18) B (lh_nc_lt (by decide)) rfl ix_9 rfl (by decide) wd_690 rfl rfl dX9_move_44 ?_
        refine la_iconst (v := 1) B dX9_move_47 (by decide) ?_
        refine la_iadd B dX9_move_48 ?_
        refine la_put (i := 37) (ci := 9) (j := 17) (C := RX9) (T := TX9) (N := 18) (ty0 := tyX9) B (lh_nc_lt (by decide)) rfl rfl ix_9 tyX9_ok nmX9 rfl (by decide) wd_690 rfl rfl rfl rfl rfl (Nat.le_of_ble_eq_true rfl) dX9_move_49 ?_
        refine la_iincp B dX9_move_52 rfl (by decide) ?_
        refine la_goto (tgt := 3) B dX9_move_55 (by decide) ?_
        refine la_sub (lv2 := [(0, .ref (ad 37)), (1, .ref (ad 40)), (2, .int 40), (3, .int kp), (4, .int (nI (i + 1)))]) ⟨rfl, rfl, rfl, rfl, (congrArg (fun z => some (Value.int z)) (nI_1 i)), trivial⟩ (by simp [Value.category]) ?_
        exact ih (i + 1) (lh_up (lh_up h 40 ((nI i).toNatClampNeg) ((h 46 (h 37 17).toNatClampNeg))) 37 17 ((h 37 17) + 1)) (by omega) (by rw [hh]; simp only [LX9_move_40_h, if_pos c10]) (by rw [lh_up_eq, hv, nI_1]; rfl)
      · refine la_aload_n (i := 0) B dX9_move_13 rfl rfl ?_
        refine la_get (i := 37) (ci := 9) (j := 9) (C := RX9) (T := TX9) (N := 18) B (lh_nc_lt (by decide)) rfl ix_9 rfl (by decide) wd_682 rfl rfl dX9_move_14 ?_
        refine la_aload_n (i := 0) B dX9_move_17 rfl rfl ?_
        refine la_get (i := 37) (ci := 9) (j := 17) (v := .int (h 37 17)) (C := RX9) (T := TX9) (N := 18) B (lh_nc_lt (by decide)) rfl ix_9 rfl (by decide) wd_690 rfl rfl dX9_move_18 ?_
        refine la_aload_n (i := 1) B dX9_move_21 rfl rfl ?_
        refine la_iload B dX9_move_22 rfl ?_
        refine la_iald (i := 40) (v := h 40 (nI i).toNatClampNeg) B (lh_nc_lt (by decide)) rfl hb rfl dX9_move_24 ?_
        refine la_iast (i := 46) (j := (h 37 17).toNatClampNeg) B (lh_nc_lt (by decide)) rfl rfl hbp rfl dX9_move_25 ?_
        refine la_goto (tgt := 42) B dX9_move_26 (by decide) ?_
        refine la_aload_n (i := 0) B dX9_move_42 rfl rfl ?_
        refine la_dup B dX9_move_43 rfl ?_
        refine la_get (i := 37) (ci := 9) (j := 17) (v := .int (h 37 17)) (C := RX9) (T := TX9) (N := 18) B (lh_nc_lt (by decide)) rfl ix_9 rfl (by decide) wd_690 rfl rfl dX9_move_44 ?_
        refine la_iconst (v := 1) B dX9_move_47 (by decide) ?_
        refine la_iadd B dX9_move_48 ?_
        refine la_put (i := 37) (ci := 9) (j := 17) (C := RX9) (T := TX9) (N := 18) (ty0 := tyX9) B (lh_nc_lt (by decide)) rfl rfl ix_9 tyX9_ok nmX9 rfl (by decide) wd_690 rfl rfl rfl rfl rfl (Nat.le_of_ble_eq_true rfl) dX9_move_49 ?_
        refine la_iincp B dX9_move_52 rfl (by decide) ?_
        refine la_goto (tgt := 3) B dX9_move_55 (by decide) ?_
        refine la_sub (lv2 := [(0, .ref (ad 37)), (1, .ref (ad 40)), (2, .int 40), (3, .int kp), (4, .int (nI (i + 1)))]) ⟨rfl, rfl, rfl, rfl, (congrArg (fun z => some (Value.int z)) (nI_1 i)), trivial⟩ (by simp [Value.category]) ?_
        exact ih (i + 1) (lh_up (lh_up h 46 ((h 37 17).toNatClampNeg) ((h 40 (nI i).toNatClampNeg))) 37 17 ((h 37 17) + 1)) (by omega) (by rw [hh]; simp only [LX9_move_40_h, if_neg c10]) (by rw [lh_up_eq, hv, nI_1]; rfl)

def gX9_move_40 (h : lh_HS) (kp : Int32) : lh_HS := (LX9_move_40_h kp 40 0 h)
set_option maxHeartbeats 4000000 in
set_option maxRecDepth 100000 in
theorem ct_X9_move_40 {l : Launch} {D : va_G} {ad : Nat → Nat} {bs : Nat} {cI cZ : ClassId} {t9 : Nat} {k : Bool} (h : lh_HS) (kp : Int32) {p0 : Nat} (hp0 : p0 + 40 ≤ 310) (hp : h 37 17 = nI p0) : lh_CTv l D ad bs cI cZ t9 k yX9_move cX9_move 5 0 [.ref (ad 37), .ref (ad 40), .int 40, .int kp] h (gX9_move_40 h kp) := by
  refine lh_ofv (lv := [(0, .ref (ad 37)), (1, .ref (ad 40)), (2, .int 40), (3, .int kp)]) (by decide) (Nat.le_of_ble_eq_true rfl) rfl (by simp [Value.category]) ⟨rfl, rfl, rfl, rfl, trivial⟩ ?_
  intro p e s m args below meth c B
  have B : lh_BK p (lh_rm 0) s m args meth c D ad bs cI cZ t9 k "LightHoursModel" cX9_move 5 none := B
  refine la_iconst (v := 0) B dX9_move_0 (by decide) ?_
  refine la_istore B dX9_move_1 (by decide) ?_
  refine la_sub (lv2 := [(0, .ref (ad 37)), (1, .ref (ad 40)), (2, .int 40), (3, .int kp), (4, .int (nI 0))]) ⟨rfl, rfl, rfl, rfl, rfl, trivial⟩ (by simp [Value.category]) ?_
  exact lp_X9_move_40 kp B hp0 _ 0 h (Nat.zero_add _) (by simp only [gX9_move_40]) hp

theorem pl_Lmove_40 (kp : Int32) : ∀ (n i : Nat) (h : lh_HS) (p0 : Nat), h 37 17 = nI p0 → LX9_move_40_h kp n i h 37 17 = nI (p0 + n) := by
  intro n
  induction n with
  | zero => intro i h p0 e; exact e
  | succ n ih =>
    intro i h p0 e
    simp only [LX9_move_40_h]
    split
    · rw [ih _ _ (p0 + 1) (by rw [lh_up_eq, e, nI_1])]; congr 1; omega
    · rw [ih _ _ (p0 + 1) (by rw [lh_up_eq, e, nI_1])]; congr 1; omega
theorem pl_move_40 (kp : Int32) (h : lh_HS) {p0 : Nat} (e : h 37 17 = nI p0) : gX9_move_40 h kp 37 17 = nI (p0 + 40) := pl_Lmove_40 kp _ _ h p0 e
def LX9_move_41_h (kp : Int32) : Nat → Nat → lh_HS → lh_HS
  | 0, i, h => h
  | n + 1, i, h => (if kp = 0 then (LX9_move_41_h kp n (i + 1) (lh_up (lh_up h 41 ((nI i).toNatClampNeg) ((h 46 (h 37 17).toNatClampNeg))) 37 17 ((h 37 17) + 1))) else (LX9_move_41_h kp n (i + 1) (lh_up (lh_up h 46 ((h 37 17).toNatClampNeg) ((h 41 (nI i).toNatClampNeg))) 37 17 ((h 37 17) + 1))))
set_option maxHeartbeats 4000000 in
set_option maxRecDepth 100000 in
theorem lp_X9_move_41 {l : Launch} {D : va_G} {ad : Nat → Nat} {bs : Nat} {cI cZ : ClassId} {t9 : Nat} {k : Bool} {p : Program} {e : Env} {s : State} {m : MethodId} {args : Array Value} {below : List Frame} {meth : Method} {c : Code} (kp : Int32) {h2 : lh_HS} (B : lh_BK p (lh_rm 0) s m args meth c D ad bs cI cZ t9 k "LightHoursModel" cX9_move 5 none) {p0 : Nat} (hp0 : p0 + 56 ≤ 310) :
    ∀ (n i : Nat) (h : lh_HS), i + n = 56 → h2 = LX9_move_41_h kp n i h → h 37 17 = nI (p0 + i) → lh_AJ p l e (lh_rm 0) s m args below meth c D ad bs cI cZ k 5 (MQ below (lh_Qv D ad bs cI cZ k h2) args s 0 0 (lh_A bs)) 3 [(0, .ref (ad 37)), (1, .ref (ad 41)), (2, .int 56), (3, .int kp), (4, .int (nI i))] [] h := by
  intro n
  induction n with
  | zero =>
    intro i h hi hh hv
    have hexit : (56 : Int32) ≤ nI i := nI_le (a := 56) (by omega) (by omega)
    refine la_iload B dX9_move_3 rfl ?_
    refine la_iload_n (i := 2) B dX9_move_5 rfl rfl ?_
    refine la_icmp_ge (tgt := 58) B dX9_move_6 (by decide) (fun c6 => ?_) (fun c6 => ?_)
    · exact la_return B rfl (by rw [hh]; simp only [LX9_move_41_h]) dX9_move_58
    · exact absurd hexit c6
  | succ n ih =>
    intro i h hi hh hv
    have hcont : ¬ (56 : Int32) ≤ nI i := nI_ge (b := 56) (by omega) (by omega)
    have hb : vp_in (nI i) 56 := vp_in_nI (by omega) (by omega)
    have hbp : vp_in (h 37 17) 310 := by rw [hv]; exact vp_in_nI (by omega) (by omega)
    refine la_iload B dX9_move_3 rfl ?_
    refine la_iload_n (i := 2) B dX9_move_5 rfl rfl ?_
    refine la_icmp_ge (tgt := 58) B dX9_move_6 (by decide) (fun c6 => ?_) (fun c6 => ?_)
    · exact absurd c6 hcont
    · refine la_iload_n (i := 3) B dX9_move_9 rfl rfl ?_
      refine la_if_eq (tgt := 29) B dX9_move_10 (by decide) (fun c10 => ?_) (fun c10 => ?_)
      · refine la_aload_n (i := 1) B dX9_move_29 rfl rfl ?_
        refine la_iload B dX9_move_30 rfl ?_
        refine la_aload_n (i := 0) B dX9_move_32 rfl rfl ?_
        refine la_get (i := 37) (ci := 9) (j := 9) (C := RX9) (T := TX9) (N := 18) B (lh_nc_lt (by decide)) rfl ix_9 rfl (by decide) wd_682 rfl rfl dX9_move_33 ?_
        refine la_aload_n (i := 0) B dX9_move_36 rfl rfl ?_
        refine la_get (i := 37) (ci := 9) (j := 17) (v := .int (h 37 17)) (C := RX9) (T := TX9) (N := 18) B (lh_nc_lt (by decide)) rfl ix_9 rfl (by decide) wd_690 rfl rfl dX9_move_37 ?_
        refine la_iald (i := 46) (v := h 46 (h 37 17).toNatClampNeg) B (lh_nc_lt (by decide)) rfl hbp rfl dX9_move_40 ?_
        refine la_iast (i := 41) (j := (nI i).toNatClampNeg) B (lh_nc_lt (by decide)) rfl rfl hb rfl dX9_move_41 ?_
        refine la_aload_n (i := 0) B dX9_move_42 rfl rfl ?_
        refine la_dup B dX9_move_43 rfl ?_
        refine la_get (i := 37) (ci := 9) (j := 17) (v := .int (h 37 17)) (C := RX9) (T := TX9) (N := 18) B (lh_nc_lt (by decide)) rfl ix_9 rfl (by decide) wd_690 rfl rfl dX9_move_44 ?_
        refine la_iconst (v := 1) B dX9_move_47 (by decide) ?_
        refine la_iadd B dX9_move_48 ?_
        refine la_put (i := 37) (ci := 9) (j := 17) (C := RX9) (T := TX9) (N := 18) (ty0 := tyX9) B (lh_nc_lt (by decide)) rfl rfl ix_9 tyX9_ok nmX9 rfl (by decide) wd_690 rfl rfl rfl rfl rfl (Nat.le_of_ble_eq_true rfl) dX9_move_49 ?_
        refine la_iincp B dX9_move_52 rfl (by decide) ?_
        refine la_goto (tgt := 3) B dX9_move_55 (by decide) ?_
        refine la_sub (lv2 := [(0, .ref (ad 37)), (1, .ref (ad 41)), (2, .int 56), (3, .int kp), (4, .int (nI (i + 1)))]) ⟨rfl, rfl, rfl, rfl, (congrArg (fun z => some (Value.int z)) (nI_1 i)), trivial⟩ (by simp [Value.category]) ?_
        exact ih (i + 1) (lh_up (lh_up h 41 ((nI i).toNatClampNeg) ((h 46 (h 37 17).toNatClampNeg))) 37 17 ((h 37 17) + 1)) (by omega) (by rw [hh]; simp only [LX9_move_41_h, if_pos c10]) (by rw [lh_up_eq, hv, nI_1]; rfl)
      · refine la_aload_n (i := 0) B dX9_move_13 rfl rfl ?_
        refine la_get (i := 37) (ci := 9) (j := 9) (C := RX9) (T := TX9) (N := 18) B (lh_nc_lt (by decide)) rfl ix_9 rfl (by decide) wd_682 rfl rfl dX9_move_14 ?_
        refine la_aload_n (i := 0) B dX9_move_17 rfl rfl ?_
        refine la_get (i := 37) (ci := 9) (j := 17) (v := .int (h 37 17)) (C := RX9) (T := TX9) (N := 18) B (lh_nc_lt (by decide)) rfl ix_9 rfl (by decide) wd_690 rfl rfl dX9_move_18 ?_
        refine la_aload_n (i := 1) B dX9_move_21 rfl rfl ?_
        refine la_iload B dX9_move_22 rfl ?_
        refine la_iald (i := 41) (v := h 41 (nI i).toNatClampNeg) B (lh_nc_lt (by decide)) rfl hb rfl dX9_move_24 ?_
        refine la_iast (i := 46) (j := (h 37 17).toNatClampNeg) B (lh_nc_lt (by decide)) rfl rfl hbp rfl dX9_move_25 ?_
        refine la_goto (tgt := 42) B dX9_move_26 (by decide) ?_
        refine la_aload_n (i := 0) B dX9_move_42 rfl rfl ?_
        refine la_dup B dX9_move_43 rfl ?_
        refine la_get (i := 37) (ci := 9) (j := 17) (v := .int (h 37 17)) (C := RX9) (T := TX9) (N := 18) B (lh_nc_lt (by decide)) rfl ix_9 rfl (by decide) wd_690 rfl rfl dX9_move_44 ?_
        refine la_iconst (v := 1) B dX9_move_47 (by decide) ?_
        refine la_iadd B dX9_move_48 ?_
        refine la_put (i := 37) (ci := 9) (j := 17) (C := RX9) (T := TX9) (N := 18) (ty0 := tyX9) B (lh_nc_lt (by decide)) rfl rfl ix_9 tyX9_ok nmX9 rfl (by decide) wd_690 rfl rfl rfl rfl rfl (Nat.le_of_ble_eq_true rfl) dX9_move_49 ?_
        refine la_iincp B dX9_move_52 rfl (by decide) ?_
        refine la_goto (tgt := 3) B dX9_move_55 (by decide) ?_
        refine la_sub (lv2 := [(0, .ref (ad 37)), (1, .ref (ad 41)), (2, .int 56), (3, .int kp), (4, .int (nI (i + 1)))]) ⟨rfl, rfl, rfl, rfl, (congrArg (fun z => some (Value.int z)) (nI_1 i)), trivial⟩ (by simp [Value.category]) ?_
        exact ih (i + 1) (lh_up (lh_up h 46 ((h 37 17).toNatClampNeg) ((h 41 (nI i).toNatClampNeg))) 37 17 ((h 37 17) + 1)) (by omega) (by rw [hh]; simp only [LX9_move_41_h, if_neg c10]) (by rw [lh_up_eq, hv, nI_1]; rfl)

def gX9_move_41 (h : lh_HS) (kp : Int32) : lh_HS := (LX9_move_41_h kp 56 0 h)
set_option maxHeartbeats 4000000 in
set_option maxRecDepth 100000 in
theorem ct_X9_move_41 {l : Launch} {D : va_G} {ad : Nat → Nat} {bs : Nat} {cI cZ : ClassId} {t9 : Nat} {k : Bool} (h : lh_HS) (kp : Int32) {p0 : Nat} (hp0 : p0 + 56 ≤ 310) (hp : h 37 17 = nI p0) : lh_CTv l D ad bs cI cZ t9 k yX9_move cX9_move 5 0 [.ref (ad 37), .ref (ad 41), .int 56, .int kp] h (gX9_move_41 h kp) := by
  refine lh_ofv (lv := [(0, .ref (ad 37)), (1, .ref (ad 41)), (2, .int 56), (3, .int kp)]) (by decide) (Nat.le_of_ble_eq_true rfl) rfl (by simp [Value.category]) ⟨rfl, rfl, rfl, rfl, trivial⟩ ?_
  intro p e s m args below meth c B
  have B : lh_BK p (lh_rm 0) s m args meth c D ad bs cI cZ t9 k "LightHoursModel" cX9_move 5 none := B
  refine la_iconst (v := 0) B dX9_move_0 (by decide) ?_
  refine la_istore B dX9_move_1 (by decide) ?_
  refine la_sub (lv2 := [(0, .ref (ad 37)), (1, .ref (ad 41)), (2, .int 56), (3, .int kp), (4, .int (nI 0))]) ⟨rfl, rfl, rfl, rfl, rfl, trivial⟩ (by simp [Value.category]) ?_
  exact lp_X9_move_41 kp B hp0 _ 0 h (Nat.zero_add _) (by simp only [gX9_move_41]) hp

theorem pl_Lmove_41 (kp : Int32) : ∀ (n i : Nat) (h : lh_HS) (p0 : Nat), h 37 17 = nI p0 → LX9_move_41_h kp n i h 37 17 = nI (p0 + n) := by
  intro n
  induction n with
  | zero => intro i h p0 e; exact e
  | succ n ih =>
    intro i h p0 e
    simp only [LX9_move_41_h]
    split
    · rw [ih _ _ (p0 + 1) (by rw [lh_up_eq, e, nI_1])]; congr 1; omega
    · rw [ih _ _ (p0 + 1) (by rw [lh_up_eq, e, nI_1])]; congr 1; omega
theorem pl_move_41 (kp : Int32) (h : lh_HS) {p0 : Nat} (e : h 37 17 = nI p0) : gX9_move_41 h kp 37 17 = nI (p0 + 56) := pl_Lmove_41 kp _ _ h p0 e
def LX9_move_42_h (kp : Int32) : Nat → Nat → lh_HS → lh_HS
  | 0, i, h => h
  | n + 1, i, h => (if kp = 0 then (LX9_move_42_h kp n (i + 1) (lh_up (lh_up h 42 ((nI i).toNatClampNeg) ((h 46 (h 37 17).toNatClampNeg))) 37 17 ((h 37 17) + 1))) else (LX9_move_42_h kp n (i + 1) (lh_up (lh_up h 46 ((h 37 17).toNatClampNeg) ((h 42 (nI i).toNatClampNeg))) 37 17 ((h 37 17) + 1))))
set_option maxHeartbeats 4000000 in
set_option maxRecDepth 100000 in
theorem lp_X9_move_42 {l : Launch} {D : va_G} {ad : Nat → Nat} {bs : Nat} {cI cZ : ClassId} {t9 : Nat} {k : Bool} {p : Program} {e : Env} {s : State} {m : MethodId} {args : Array Value} {below : List Frame} {meth : Method} {c : Code} (kp : Int32) {h2 : lh_HS} (B : lh_BK p (lh_rm 0) s m args meth c D ad bs cI cZ t9 k "LightHoursModel" cX9_move 5 none) {p0 : Nat} (hp0 : p0 + 150 ≤ 310) :
    ∀ (n i : Nat) (h : lh_HS), i + n = 150 → h2 = LX9_move_42_h kp n i h → h 37 17 = nI (p0 + i) → lh_AJ p l e (lh_rm 0) s m args below meth c D ad bs cI cZ k 5 (MQ below (lh_Qv D ad bs cI cZ k h2) args s 0 0 (lh_A bs)) 3 [(0, .ref (ad 37)), (1, .ref (ad 42)), (2, .int 150), (3, .int kp), (4, .int (nI i))] [] h := by
  intro n
  induction n with
  | zero =>
    intro i h hi hh hv
    have hexit : (150 : Int32) ≤ nI i := nI_le (a := 150) (by omega) (by omega)
    refine la_iload B dX9_move_3 rfl ?_
    refine la_iload_n (i := 2) B dX9_move_5 rfl rfl ?_
    refine la_icmp_ge (tgt := 58) B dX9_move_6 (by decide) (fun c6 => ?_) (fun c6 => ?_)
    · exact la_return B rfl (by rw [hh]; simp only [LX9_move_42_h]) dX9_move_58
    · exact absurd hexit c6
  | succ n ih =>
    intro i h hi hh hv
    have hcont : ¬ (150 : Int32) ≤ nI i := nI_ge (b := 150) (by omega) (by omega)
    have hb : vp_in (nI i) 150 := vp_in_nI (by omega) (by omega)
    have hbp : vp_in (h 37 17) 310 := by rw [hv]; exact vp_in_nI (by omega) (by omega)
    refine la_iload B dX9_move_3 rfl ?_
    refine la_iload_n (i := 2) B dX9_move_5 rfl rfl ?_
    refine la_icmp_ge (tgt := 58) B dX9_move_6 (by decide) (fun c6 => ?_) (fun c6 => ?_)
    · exact absurd c6 hcont
    · refine la_iload_n (i := 3) B dX9_move_9 rfl rfl ?_
      refine la_if_eq (tgt := 29) B dX9_move_10 (by decide) (fun c10 => ?_) (fun c10 => ?_)
      · refine la_aload_n (i := 1) B dX9_move_29 rfl rfl ?_
        refine la_iload B dX9_move_30 rfl ?_
        refine la_aload_n (i := 0) B dX9_move_32 rfl rfl ?_
        refine la_get (i := 37) (ci := 9) (j := 9) (C := RX9) (T := TX9) (N := 18) B (lh_nc_lt (by decide)) rfl ix_9 rfl (by decide) wd_682 rfl rfl dX9_move_33 ?_
        refine la_aload_n (i := 0) B dX9_move_36 rfl rfl ?_
        refine la_get (i := 37) (ci := 9) (j := 17) (v := .int (h 37 17)) (C := RX9) (T := TX9) (N := 18) B (lh_nc_lt (by decide)) rfl ix_9 rfl (by decide) wd_690 rfl rfl dX9_move_37 ?_
        refine la_iald (i := 46) (v := h 46 (h 37 17).toNatClampNeg) B (lh_nc_lt (by decide)) rfl hbp rfl dX9_move_40 ?_
        refine la_iast (i := 42) (j := (nI i).toNatClampNeg) B (lh_nc_lt (by decide)) rfl rfl hb rfl dX9_move_41 ?_
        refine la_aload_n (i := 0) B dX9_move_42 rfl rfl ?_
        refine la_dup B dX9_move_43 rfl ?_
        refine la_get (i := 37) (ci := 9) (j := 17) (v := .int (h 37 17)) (C := RX9) (T := TX9) (N := 18) B (lh_nc_lt (by decide)) rfl ix_9 rfl (by decide) wd_690 rfl rfl dX9_move_44 ?_
        refine la_iconst (v := 1) B dX9_move_47 (by decide) ?_
        refine la_iadd B dX9_move_48 ?_
        refine la_put (i := 37) (ci := 9) (j := 17) (C := RX9) (T := TX9) (N := 18) (ty0 := tyX9) B (lh_nc_lt (by decide)) rfl rfl ix_9 tyX9_ok nmX9 rfl (by decide) wd_690 rfl rfl rfl rfl rfl (Nat.le_of_ble_eq_true rfl) dX9_move_49 ?_
        refine la_iincp B dX9_move_52 rfl (by decide) ?_
        refine la_goto (tgt := 3) B dX9_move_55 (by decide) ?_
        refine la_sub (lv2 := [(0, .ref (ad 37)), (1, .ref (ad 42)), (2, .int 150), (3, .int kp), (4, .int (nI (i + 1)))]) ⟨rfl, rfl, rfl, rfl, (congrArg (fun z => some (Value.int z)) (nI_1 i)), trivial⟩ (by simp [Value.category]) ?_
        exact ih (i + 1) (lh_up (lh_up h 42 ((nI i).toNatClampNeg) ((h 46 (h 37 17).toNatClampNeg))) 37 17 ((h 37 17) + 1)) (by omega) (by rw [hh]; simp only [LX9_move_42_h, if_pos c10]) (by rw [lh_up_eq, hv, nI_1]; rfl)
      · refine la_aload_n (i := 0) B dX9_move_13 rfl rfl ?_
        refine la_get (i := 37) (ci := 9) (j := 9) (C := RX9) (T := TX9) (N := 18) B (lh_nc_lt (by decide)) rfl ix_9 rfl (by decide) wd_682 rfl rfl dX9_move_14 ?_
        refine la_aload_n (i := 0) B dX9_move_17 rfl rfl ?_
        refine la_get (i := 37) (ci := 9) (j := 17) (v := .int (h 37 17)) (C := RX9) (T := TX9) (N := 18) B (lh_nc_lt (by decide)) rfl ix_9 rfl (by decide) wd_690 rfl rfl dX9_move_18 ?_
        refine la_aload_n (i := 1) B dX9_move_21 rfl rfl ?_
        refine la_iload B dX9_move_22 rfl ?_
        refine la_iald (i := 42) (v := h 42 (nI i).toNatClampNeg) B (lh_nc_lt (by decide)) rfl hb rfl dX9_move_24 ?_
        refine la_iast (i := 46) (j := (h 37 17).toNatClampNeg) B (lh_nc_lt (by decide)) rfl rfl hbp rfl dX9_move_25 ?_
        refine la_goto (tgt := 42) B dX9_move_26 (by decide) ?_
        refine la_aload_n (i := 0) B dX9_move_42 rfl rfl ?_
        refine la_dup B dX9_move_43 rfl ?_
        refine la_get (i := 37) (ci := 9) (j := 17) (v := .int (h 37 17)) (C := RX9) (T := TX9) (N := 18) B (lh_nc_lt (by decide)) rfl ix_9 rfl (by decide) wd_690 rfl rfl dX9_move_44 ?_
        refine la_iconst (v := 1) B dX9_move_47 (by decide) ?_
        refine la_iadd B dX9_move_48 ?_
        refine la_put (i := 37) (ci := 9) (j := 17) (C := RX9) (T := TX9) (N := 18) (ty0 := tyX9) B (lh_nc_lt (by decide)) rfl rfl ix_9 tyX9_ok nmX9 rfl (by decide) wd_690 rfl rfl rfl rfl rfl (Nat.le_of_ble_eq_true rfl) dX9_move_49 ?_
        refine la_iincp B dX9_move_52 rfl (by decide) ?_
        refine la_goto (tgt := 3) B dX9_move_55 (by decide) ?_
        refine la_sub (lv2 := [(0, .ref (ad 37)), (1, .ref (ad 42)), (2, .int 150), (3, .int kp), (4, .int (nI (i + 1)))]) ⟨rfl, rfl, rfl, rfl, (congrArg (fun z => some (Value.int z)) (nI_1 i)), trivial⟩ (by simp [Value.category]) ?_
        exact ih (i + 1) (lh_up (lh_up h 46 ((h 37 17).toNatClampNeg) ((h 42 (nI i).toNatClampNeg))) 37 17 ((h 37 17) + 1)) (by omega) (by rw [hh]; simp only [LX9_move_42_h, if_neg c10]) (by rw [lh_up_eq, hv, nI_1]; rfl)

def gX9_move_42 (h : lh_HS) (kp : Int32) : lh_HS := (LX9_move_42_h kp 150 0 h)
set_option maxHeartbeats 4000000 in
set_option maxRecDepth 100000 in
theorem ct_X9_move_42 {l : Launch} {D : va_G} {ad : Nat → Nat} {bs : Nat} {cI cZ : ClassId} {t9 : Nat} {k : Bool} (h : lh_HS) (kp : Int32) {p0 : Nat} (hp0 : p0 + 150 ≤ 310) (hp : h 37 17 = nI p0) : lh_CTv l D ad bs cI cZ t9 k yX9_move cX9_move 5 0 [.ref (ad 37), .ref (ad 42), .int 150, .int kp] h (gX9_move_42 h kp) := by
  refine lh_ofv (lv := [(0, .ref (ad 37)), (1, .ref (ad 42)), (2, .int 150), (3, .int kp)]) (by decide) (Nat.le_of_ble_eq_true rfl) rfl (by simp [Value.category]) ⟨rfl, rfl, rfl, rfl, trivial⟩ ?_
  intro p e s m args below meth c B
  have B : lh_BK p (lh_rm 0) s m args meth c D ad bs cI cZ t9 k "LightHoursModel" cX9_move 5 none := B
  refine la_iconst (v := 0) B dX9_move_0 (by decide) ?_
  refine la_istore B dX9_move_1 (by decide) ?_
  refine la_sub (lv2 := [(0, .ref (ad 37)), (1, .ref (ad 42)), (2, .int 150), (3, .int kp), (4, .int (nI 0))]) ⟨rfl, rfl, rfl, rfl, rfl, trivial⟩ (by simp [Value.category]) ?_
  exact lp_X9_move_42 kp B hp0 _ 0 h (Nat.zero_add _) (by simp only [gX9_move_42]) hp

theorem pl_Lmove_42 (kp : Int32) : ∀ (n i : Nat) (h : lh_HS) (p0 : Nat), h 37 17 = nI p0 → LX9_move_42_h kp n i h 37 17 = nI (p0 + n) := by
  intro n
  induction n with
  | zero => intro i h p0 e; exact e
  | succ n ih =>
    intro i h p0 e
    simp only [LX9_move_42_h]
    split
    · rw [ih _ _ (p0 + 1) (by rw [lh_up_eq, e, nI_1])]; congr 1; omega
    · rw [ih _ _ (p0 + 1) (by rw [lh_up_eq, e, nI_1])]; congr 1; omega
theorem pl_move_42 (kp : Int32) (h : lh_HS) {p0 : Nat} (e : h 37 17 = nI p0) : gX9_move_42 h kp 37 17 = nI (p0 + 150) := pl_Lmove_42 kp _ _ h p0 e
def LX9_move_43_h (kp : Int32) : Nat → Nat → lh_HS → lh_HS
  | 0, i, h => h
  | n + 1, i, h => (if kp = 0 then (LX9_move_43_h kp n (i + 1) (lh_up (lh_up h 43 ((nI i).toNatClampNeg) ((h 46 (h 37 17).toNatClampNeg))) 37 17 ((h 37 17) + 1))) else (LX9_move_43_h kp n (i + 1) (lh_up (lh_up h 46 ((h 37 17).toNatClampNeg) ((h 43 (nI i).toNatClampNeg))) 37 17 ((h 37 17) + 1))))
set_option maxHeartbeats 4000000 in
set_option maxRecDepth 100000 in
theorem lp_X9_move_43 {l : Launch} {D : va_G} {ad : Nat → Nat} {bs : Nat} {cI cZ : ClassId} {t9 : Nat} {k : Bool} {p : Program} {e : Env} {s : State} {m : MethodId} {args : Array Value} {below : List Frame} {meth : Method} {c : Code} (kp : Int32) {h2 : lh_HS} (B : lh_BK p (lh_rm 0) s m args meth c D ad bs cI cZ t9 k "LightHoursModel" cX9_move 5 none) {p0 : Nat} (hp0 : p0 + 36 ≤ 310) :
    ∀ (n i : Nat) (h : lh_HS), i + n = 36 → h2 = LX9_move_43_h kp n i h → h 37 17 = nI (p0 + i) → lh_AJ p l e (lh_rm 0) s m args below meth c D ad bs cI cZ k 5 (MQ below (lh_Qv D ad bs cI cZ k h2) args s 0 0 (lh_A bs)) 3 [(0, .ref (ad 37)), (1, .ref (ad 43)), (2, .int 36), (3, .int kp), (4, .int (nI i))] [] h := by
  intro n
  induction n with
  | zero =>
    intro i h hi hh hv
    have hexit : (36 : Int32) ≤ nI i := nI_le (a := 36) (by omega) (by omega)
    refine la_iload B dX9_move_3 rfl ?_
    refine la_iload_n (i := 2) B dX9_move_5 rfl rfl ?_
    refine la_icmp_ge (tgt := 58) B dX9_move_6 (by decide) (fun c6 => ?_) (fun c6 => ?_)
    · exact la_return B rfl (by rw [hh]; simp only [LX9_move_43_h]) dX9_move_58
    · exact absurd hexit c6
  | succ n ih =>
    intro i h hi hh hv
    have hcont : ¬ (36 : Int32) ≤ nI i := nI_ge (b := 36) (by omega) (by omega)
    have hb : vp_in (nI i) 36 := vp_in_nI (by omega) (by omega)
    have hbp : vp_in (h 37 17) 310 := by rw [hv]; exact vp_in_nI (by omega) (by omega)
    refine la_iload B dX9_move_3 rfl ?_
    refine la_iload_n (i := 2) B dX9_move_5 rfl rfl ?_
    refine la_icmp_ge (tgt := 58) B dX9_move_6 (by decide) (fun c6 => ?_) (fun c6 => ?_)
    · exact absurd c6 hcont
    · refine la_iload_n (i := 3) B dX9_move_9 rfl rfl ?_
      refine la_if_eq (tgt := 29) B dX9_move_10 (by decide) (fun c10 => ?_) (fun c10 => ?_)
      · refine la_aload_n (i := 1) B dX9_move_29 rfl rfl ?_
        refine la_iload B dX9_move_30 rfl ?_
        refine la_aload_n (i := 0) B dX9_move_32 rfl rfl ?_
        refine la_get (i := 37) (ci := 9) (j := 9) (C := RX9) (T := TX9) (N := 18) B (lh_nc_lt (by decide)) rfl ix_9 rfl (by decide) wd_682 rfl rfl dX9_move_33 ?_
        refine la_aload_n (i := 0) B dX9_move_36 rfl rfl ?_
        refine la_get (i := 37) (ci := 9) (j := 17) (v := .int (h 37 17)) (C := RX9) (T := TX9) (N := 18) B (lh_nc_lt (by decide)) rfl ix_9 rfl (by decide) wd_690 rfl rfl dX9_move_37 ?_
        refine la_iald (i := 46) (v := h 46 (h 37 17).toNatClampNeg) B (lh_nc_lt (by decide)) rfl hbp rfl dX9_move_40 ?_
        refine la_iast (i := 43) (j := (nI i).toNatClampNeg) B (lh_nc_lt (by decide)) rfl rfl hb rfl dX9_move_41 ?_
        refine la_aload_n (i := 0) B dX9_move_42 rfl rfl ?_
        refine la_dup B dX9_move_43 rfl ?_
        refine la_get (i := 37) (ci := 9) (j := 17) (v := .int (h 37 17)) (C := RX9) (T := TX9) (N := 18) B (lh_nc_lt (by decide)) rfl ix_9 rfl (by decide) wd_690 rfl rfl dX9_move_44 ?_
        refine la_iconst (v := 1) B dX9_move_47 (by decide) ?_
        refine la_iadd B dX9_move_48 ?_
        refine la_put (i := 37) (ci := 9) (j := 17) (C := RX9) (T := TX9) (N := 18) (ty0 := tyX9) B (lh_nc_lt (by decide)) rfl rfl ix_9 tyX9_ok nmX9 rfl (by decide) wd_690 rfl rfl rfl rfl rfl (Nat.le_of_ble_eq_true rfl) dX9_move_49 ?_
        refine la_iincp B dX9_move_52 rfl (by decide) ?_
        refine la_goto (tgt := 3) B dX9_move_55 (by decide) ?_
        refine la_sub (lv2 := [(0, .ref (ad 37)), (1, .ref (ad 43)), (2, .int 36), (3, .int kp), (4, .int (nI (i + 1)))]) ⟨rfl, rfl, rfl, rfl, (congrArg (fun z => some (Value.int z)) (nI_1 i)), trivial⟩ (by simp [Value.category]) ?_
        exact ih (i + 1) (lh_up (lh_up h 43 ((nI i).toNatClampNeg) ((h 46 (h 37 17).toNatClampNeg))) 37 17 ((h 37 17) + 1)) (by omega) (by rw [hh]; simp only [LX9_move_43_h, if_pos c10]) (by rw [lh_up_eq, hv, nI_1]; rfl)
      · refine la_aload_n (i := 0) B dX9_move_13 rfl rfl ?_
        refine la_get (i := 37) (ci := 9) (j := 9) (C := RX9) (T := TX9) (N := 18) B (lh_nc_lt (by decide)) rfl ix_9 rfl (by decide) wd_682 rfl rfl dX9_move_14 ?_
        refine la_aload_n (i := 0) B dX9_move_17 rfl rfl ?_
        refine la_get (i := 37) (ci := 9) (j := 17) (v := .int (h 37 17)) (C := RX9) (T := TX9) (N := 18) B (lh_nc_lt (by decide)) rfl ix_9 rfl (by decide) wd_690 rfl rfl dX9_move_18 ?_
        refine la_aload_n (i := 1) B dX9_move_21 rfl rfl ?_
        refine la_iload B dX9_move_22 rfl ?_
        refine la_iald (i := 43) (v := h 43 (nI i).toNatClampNeg) B (lh_nc_lt (by decide)) rfl hb rfl dX9_move_24 ?_
        refine la_iast (i := 46) (j := (h 37 17).toNatClampNeg) B (lh_nc_lt (by decide)) rfl rfl hbp rfl dX9_move_25 ?_
        refine la_goto (tgt := 42) B dX9_move_26 (by decide) ?_
        refine la_aload_n (i := 0) B dX9_move_42 rfl rfl ?_
        refine la_dup B dX9_move_43 rfl ?_
        refine la_get (i := 37) (ci := 9) (j := 17) (v := .int (h 37 17)) (C := RX9) (T := TX9) (N := 18) B (lh_nc_lt (by decide)) rfl ix_9 rfl (by decide) wd_690 rfl rfl dX9_move_44 ?_
        refine la_iconst (v := 1) B dX9_move_47 (by decide) ?_
        refine la_iadd B dX9_move_48 ?_
        refine la_put (i := 37) (ci := 9) (j := 17) (C := RX9) (T := TX9) (N := 18) (ty0 := tyX9) B (lh_nc_lt (by decide)) rfl rfl ix_9 tyX9_ok nmX9 rfl (by decide) wd_690 rfl rfl rfl rfl rfl (Nat.le_of_ble_eq_true rfl) dX9_move_49 ?_
        refine la_iincp B dX9_move_52 rfl (by decide) ?_
        refine la_goto (tgt := 3) B dX9_move_55 (by decide) ?_
        refine la_sub (lv2 := [(0, .ref (ad 37)), (1, .ref (ad 43)), (2, .int 36), (3, .int kp), (4, .int (nI (i + 1)))]) ⟨rfl, rfl, rfl, rfl, (congrArg (fun z => some (Value.int z)) (nI_1 i)), trivial⟩ (by simp [Value.category]) ?_
        exact ih (i + 1) (lh_up (lh_up h 46 ((h 37 17).toNatClampNeg) ((h 43 (nI i).toNatClampNeg))) 37 17 ((h 37 17) + 1)) (by omega) (by rw [hh]; simp only [LX9_move_43_h, if_neg c10]) (by rw [lh_up_eq, hv, nI_1]; rfl)

def gX9_move_43 (h : lh_HS) (kp : Int32) : lh_HS := (LX9_move_43_h kp 36 0 h)
set_option maxHeartbeats 4000000 in
set_option maxRecDepth 100000 in
theorem ct_X9_move_43 {l : Launch} {D : va_G} {ad : Nat → Nat} {bs : Nat} {cI cZ : ClassId} {t9 : Nat} {k : Bool} (h : lh_HS) (kp : Int32) {p0 : Nat} (hp0 : p0 + 36 ≤ 310) (hp : h 37 17 = nI p0) : lh_CTv l D ad bs cI cZ t9 k yX9_move cX9_move 5 0 [.ref (ad 37), .ref (ad 43), .int 36, .int kp] h (gX9_move_43 h kp) := by
  refine lh_ofv (lv := [(0, .ref (ad 37)), (1, .ref (ad 43)), (2, .int 36), (3, .int kp)]) (by decide) (Nat.le_of_ble_eq_true rfl) rfl (by simp [Value.category]) ⟨rfl, rfl, rfl, rfl, trivial⟩ ?_
  intro p e s m args below meth c B
  have B : lh_BK p (lh_rm 0) s m args meth c D ad bs cI cZ t9 k "LightHoursModel" cX9_move 5 none := B
  refine la_iconst (v := 0) B dX9_move_0 (by decide) ?_
  refine la_istore B dX9_move_1 (by decide) ?_
  refine la_sub (lv2 := [(0, .ref (ad 37)), (1, .ref (ad 43)), (2, .int 36), (3, .int kp), (4, .int (nI 0))]) ⟨rfl, rfl, rfl, rfl, rfl, trivial⟩ (by simp [Value.category]) ?_
  exact lp_X9_move_43 kp B hp0 _ 0 h (Nat.zero_add _) (by simp only [gX9_move_43]) hp

theorem pl_Lmove_43 (kp : Int32) : ∀ (n i : Nat) (h : lh_HS) (p0 : Nat), h 37 17 = nI p0 → LX9_move_43_h kp n i h 37 17 = nI (p0 + n) := by
  intro n
  induction n with
  | zero => intro i h p0 e; exact e
  | succ n ih =>
    intro i h p0 e
    simp only [LX9_move_43_h]
    split
    · rw [ih _ _ (p0 + 1) (by rw [lh_up_eq, e, nI_1])]; congr 1; omega
    · rw [ih _ _ (p0 + 1) (by rw [lh_up_eq, e, nI_1])]; congr 1; omega
theorem pl_move_43 (kp : Int32) (h : lh_HS) {p0 : Nat} (e : h 37 17 = nI p0) : gX9_move_43 h kp 37 17 = nI (p0 + 36) := pl_Lmove_43 kp _ _ h p0 e
def LX9_move_44_h (kp : Int32) : Nat → Nat → lh_HS → lh_HS
  | 0, i, h => h
  | n + 1, i, h => (if kp = 0 then (LX9_move_44_h kp n (i + 1) (lh_up (lh_up h 44 ((nI i).toNatClampNeg) ((h 46 (h 37 17).toNatClampNeg))) 37 17 ((h 37 17) + 1))) else (LX9_move_44_h kp n (i + 1) (lh_up (lh_up h 46 ((h 37 17).toNatClampNeg) ((h 44 (nI i).toNatClampNeg))) 37 17 ((h 37 17) + 1))))
set_option maxHeartbeats 4000000 in
set_option maxRecDepth 100000 in
theorem lp_X9_move_44 {l : Launch} {D : va_G} {ad : Nat → Nat} {bs : Nat} {cI cZ : ClassId} {t9 : Nat} {k : Bool} {p : Program} {e : Env} {s : State} {m : MethodId} {args : Array Value} {below : List Frame} {meth : Method} {c : Code} (kp : Int32) {h2 : lh_HS} (B : lh_BK p (lh_rm 0) s m args meth c D ad bs cI cZ t9 k "LightHoursModel" cX9_move 5 none) {p0 : Nat} (hp0 : p0 + 15 ≤ 310) :
    ∀ (n i : Nat) (h : lh_HS), i + n = 15 → h2 = LX9_move_44_h kp n i h → h 37 17 = nI (p0 + i) → lh_AJ p l e (lh_rm 0) s m args below meth c D ad bs cI cZ k 5 (MQ below (lh_Qv D ad bs cI cZ k h2) args s 0 0 (lh_A bs)) 3 [(0, .ref (ad 37)), (1, .ref (ad 44)), (2, .int 15), (3, .int kp), (4, .int (nI i))] [] h := by
  intro n
  induction n with
  | zero =>
    intro i h hi hh hv
    have hexit : (15 : Int32) ≤ nI i := nI_le (a := 15) (by omega) (by omega)
    refine la_iload B dX9_move_3 rfl ?_
    refine la_iload_n (i := 2) B dX9_move_5 rfl rfl ?_
    refine la_icmp_ge (tgt := 58) B dX9_move_6 (by decide) (fun c6 => ?_) (fun c6 => ?_)
    · exact la_return B rfl (by rw [hh]; simp only [LX9_move_44_h]) dX9_move_58
    · exact absurd hexit c6
  | succ n ih =>
    intro i h hi hh hv
    have hcont : ¬ (15 : Int32) ≤ nI i := nI_ge (b := 15) (by omega) (by omega)
    have hb : vp_in (nI i) 15 := vp_in_nI (by omega) (by omega)
    have hbp : vp_in (h 37 17) 310 := by rw [hv]; exact vp_in_nI (by omega) (by omega)
    refine la_iload B dX9_move_3 rfl ?_
    refine la_iload_n (i := 2) B dX9_move_5 rfl rfl ?_
    refine la_icmp_ge (tgt := 58) B dX9_move_6 (by decide) (fun c6 => ?_) (fun c6 => ?_)
    · exact absurd c6 hcont
    · refine la_iload_n (i := 3) B dX9_move_9 rfl rfl ?_
      refine la_if_eq (tgt := 29) B dX9_move_10 (by decide) (fun c10 => ?_) (fun c10 => ?_)
      · refine la_aload_n (i := 1) B dX9_move_29 rfl rfl ?_
        refine la_iload B dX9_move_30 rfl ?_
        refine la_aload_n (i := 0) B dX9_move_32 rfl rfl ?_
        refine la_get (i := 37) (ci := 9) (j := 9) (C := RX9) (T := TX9) (N := 18) B (lh_nc_lt (by decide)) rfl ix_9 rfl (by decide) wd_682 rfl rfl dX9_move_33 ?_
        refine la_aload_n (i := 0) B dX9_move_36 rfl rfl ?_
        refine la_get (i := 37) (ci := 9) (j := 17) (v := .int (h 37 17)) (C := RX9) (T := TX9) (N := 18) B (lh_nc_lt (by decide)) rfl ix_9 rfl (by decide) wd_690 rfl rfl dX9_move_37 ?_
        refine la_iald (i := 46) (v := h 46 (h 37 17).toNatClampNeg) B (lh_nc_lt (by decide)) rfl hbp rfl dX9_move_40 ?_
        refine la_iast (i := 44) (j := (nI i).toNatClampNeg) B (lh_nc_lt (by decide)) rfl rfl hb rfl dX9_move_41 ?_
        refine la_aload_n (i := 0) B dX9_move_42 rfl rfl ?_
        refine la_dup B dX9_move_43 rfl ?_
        refine la_get (i := 37) (ci := 9) (j := 17) (v := .int (h 37 17)) (C := RX9) (T := TX9) (N := 18) B (lh_nc_lt (by decide)) rfl ix_9 rfl (by decide) wd_690 rfl rfl dX9_move_44 ?_
        refine la_iconst (v := 1) B dX9_move_47 (by decide) ?_
        refine la_iadd B dX9_move_48 ?_
        refine la_put (i := 37) (ci := 9) (j := 17) (C := RX9) (T := TX9) (N := 18) (ty0 := tyX9) B (lh_nc_lt (by decide)) rfl rfl ix_9 tyX9_ok nmX9 rfl (by decide) wd_690 rfl rfl rfl rfl rfl (Nat.le_of_ble_eq_true rfl) dX9_move_49 ?_
        refine la_iincp B dX9_move_52 rfl (by decide) ?_
        refine la_goto (tgt := 3) B dX9_move_55 (by decide) ?_
        refine la_sub (lv2 := [(0, .ref (ad 37)), (1, .ref (ad 44)), (2, .int 15), (3, .int kp), (4, .int (nI (i + 1)))]) ⟨rfl, rfl, rfl, rfl, (congrArg (fun z => some (Value.int z)) (nI_1 i)), trivial⟩ (by simp [Value.category]) ?_
        exact ih (i + 1) (lh_up (lh_up h 44 ((nI i).toNatClampNeg) ((h 46 (h 37 17).toNatClampNeg))) 37 17 ((h 37 17) + 1)) (by omega) (by rw [hh]; simp only [LX9_move_44_h, if_pos c10]) (by rw [lh_up_eq, hv, nI_1]; rfl)
      · refine la_aload_n (i := 0) B dX9_move_13 rfl rfl ?_
        refine la_get (i := 37) (ci := 9) (j := 9) (C := RX9) (T := TX9) (N := 18) B (lh_nc_lt (by decide)) rfl ix_9 rfl (by decide) wd_682 rfl rfl dX9_move_14 ?_
        refine la_aload_n (i := 0) B dX9_move_17 rfl rfl ?_
        refine la_get (i := 37) (ci := 9) (j := 17) (v := .int (h 37 17)) (C := RX9) (T := TX9) (N := 18) B (lh_nc_lt (by decide)) rfl ix_9 rfl (by decide) wd_690 rfl rfl dX9_move_18 ?_
        refine la_aload_n (i := 1) B dX9_move_21 rfl rfl ?_
        refine la_iload B dX9_move_22 rfl ?_
        refine la_iald (i := 44) (v := h 44 (nI i).toNatClampNeg) B (lh_nc_lt (by decide)) rfl hb rfl dX9_move_24 ?_
        refine la_iast (i := 46) (j := (h 37 17).toNatClampNeg) B (lh_nc_lt (by decide)) rfl rfl hbp rfl dX9_move_25 ?_
        refine la_goto (tgt := 42) B dX9_move_26 (by decide) ?_
        refine la_aload_n (i := 0) B dX9_move_42 rfl rfl ?_
        refine la_dup B dX9_move_43 rfl ?_
        refine la_get (i := 37) (ci := 9) (j := 17) (v := .int (h 37 17)) (C := RX9) (T := TX9) (N := 18) B (lh_nc_lt (by decide)) rfl ix_9 rfl (by decide) wd_690 rfl rfl dX9_move_44 ?_
        refine la_iconst (v := 1) B dX9_move_47 (by decide) ?_
        refine la_iadd B dX9_move_48 ?_
        refine la_put (i := 37) (ci := 9) (j := 17) (C := RX9) (T := TX9) (N := 18) (ty0 := tyX9) B (lh_nc_lt (by decide)) rfl rfl ix_9 tyX9_ok nmX9 rfl (by decide) wd_690 rfl rfl rfl rfl rfl (Nat.le_of_ble_eq_true rfl) dX9_move_49 ?_
        refine la_iincp B dX9_move_52 rfl (by decide) ?_
        refine la_goto (tgt := 3) B dX9_move_55 (by decide) ?_
        refine la_sub (lv2 := [(0, .ref (ad 37)), (1, .ref (ad 44)), (2, .int 15), (3, .int kp), (4, .int (nI (i + 1)))]) ⟨rfl, rfl, rfl, rfl, (congrArg (fun z => some (Value.int z)) (nI_1 i)), trivial⟩ (by simp [Value.category]) ?_
        exact ih (i + 1) (lh_up (lh_up h 46 ((h 37 17).toNatClampNeg) ((h 44 (nI i).toNatClampNeg))) 37 17 ((h 37 17) + 1)) (by omega) (by rw [hh]; simp only [LX9_move_44_h, if_neg c10]) (by rw [lh_up_eq, hv, nI_1]; rfl)

def gX9_move_44 (h : lh_HS) (kp : Int32) : lh_HS := (LX9_move_44_h kp 15 0 h)
set_option maxHeartbeats 4000000 in
set_option maxRecDepth 100000 in
theorem ct_X9_move_44 {l : Launch} {D : va_G} {ad : Nat → Nat} {bs : Nat} {cI cZ : ClassId} {t9 : Nat} {k : Bool} (h : lh_HS) (kp : Int32) {p0 : Nat} (hp0 : p0 + 15 ≤ 310) (hp : h 37 17 = nI p0) : lh_CTv l D ad bs cI cZ t9 k yX9_move cX9_move 5 0 [.ref (ad 37), .ref (ad 44), .int 15, .int kp] h (gX9_move_44 h kp) := by
  refine lh_ofv (lv := [(0, .ref (ad 37)), (1, .ref (ad 44)), (2, .int 15), (3, .int kp)]) (by decide) (Nat.le_of_ble_eq_true rfl) rfl (by simp [Value.category]) ⟨rfl, rfl, rfl, rfl, trivial⟩ ?_
  intro p e s m args below meth c B
  have B : lh_BK p (lh_rm 0) s m args meth c D ad bs cI cZ t9 k "LightHoursModel" cX9_move 5 none := B
  refine la_iconst (v := 0) B dX9_move_0 (by decide) ?_
  refine la_istore B dX9_move_1 (by decide) ?_
  refine la_sub (lv2 := [(0, .ref (ad 37)), (1, .ref (ad 44)), (2, .int 15), (3, .int kp), (4, .int (nI 0))]) ⟨rfl, rfl, rfl, rfl, rfl, trivial⟩ (by simp [Value.category]) ?_
  exact lp_X9_move_44 kp B hp0 _ 0 h (Nat.zero_add _) (by simp only [gX9_move_44]) hp

theorem pl_Lmove_44 (kp : Int32) : ∀ (n i : Nat) (h : lh_HS) (p0 : Nat), h 37 17 = nI p0 → LX9_move_44_h kp n i h 37 17 = nI (p0 + n) := by
  intro n
  induction n with
  | zero => intro i h p0 e; exact e
  | succ n ih =>
    intro i h p0 e
    simp only [LX9_move_44_h]
    split
    · rw [ih _ _ (p0 + 1) (by rw [lh_up_eq, e, nI_1])]; congr 1; omega
    · rw [ih _ _ (p0 + 1) (by rw [lh_up_eq, e, nI_1])]; congr 1; omega
theorem pl_move_44 (kp : Int32) (h : lh_HS) {p0 : Nat} (e : h 37 17 = nI p0) : gX9_move_44 h kp 37 17 = nI (p0 + 15) := pl_Lmove_44 kp _ _ h p0 e
def gX9_moveAll (h : lh_HS) (kp : Int32) : lh_HS := gX9_move_44 (gX9_move_43 (gX9_move_42 (gX9_move_41 (gX9_move_40 (gX9_move_39 (gX9_move_38 (lh_up h 37 17 0) kp) kp) kp) kp) kp) kp) kp
set_option maxHeartbeats 4000000 in
set_option maxRecDepth 100000 in
theorem ct_X9_moveAll {l : Launch} {D : va_G} {ad : Nat → Nat} {bs : Nat} {cI cZ : ClassId} {t9 : Nat} {k : Bool} (h : lh_HS) (kp : Int32)  : lh_CTv l D ad bs cI cZ t9 k yX9_moveAll cX9_moveAll 2 1 [.ref (ad 37), .int kp] h (gX9_moveAll h kp) := by
  refine lh_ofv (lv := [(0, .ref (ad 37)), (1, .int kp)]) (by decide) (Nat.le_of_ble_eq_true rfl) rfl (by simp [Value.category]) ⟨rfl, rfl, trivial⟩ ?_
  intro p e s m args below meth c B
  have B : lh_BK p (lh_rm 1) s m args meth c D ad bs cI cZ t9 k "LightHoursModel" cX9_moveAll 2 none := B
  have hp0 : lh_up h 37 17 0 37 17 = nI 0 := lh_up_eq _ _ _ _
  have hp1 := pl_move_38 kp (lh_up h 37 17 0) hp0
  have hp2 := pl_move_39 kp (gX9_move_38 (lh_up h 37 17 0) kp) hp1
  have hp3 := pl_move_40 kp (gX9_move_39 (gX9_move_38 (lh_up h 37 17 0) kp) kp) hp2
  have hp4 := pl_move_41 kp (gX9_move_40 (gX9_move_39 (gX9_move_38 (lh_up h 37 17 0) kp) kp) kp) hp3
  have hp5 := pl_move_42 kp (gX9_move_41 (gX9_move_40 (gX9_move_39 (gX9_move_38 (lh_up h 37 17 0) kp) kp) kp) kp) hp4
  have hp6 := pl_move_43 kp (gX9_move_42 (gX9_move_41 (gX9_move_40 (gX9_move_39 (gX9_move_38 (lh_up h 37 17 0) kp) kp) kp) kp) kp) hp5
  refine la_aload_n (i := 0) B dX9_moveAll_0 rfl rfl ?_
  refine la_iconst (v := 0) B dX9_moveAll_1 (by decide) ?_
  refine la_put (i := 37) (ci := 9) (j := 17) (C := RX9) (T := TX9) (N := 18) (ty0 := tyX9) B (lh_nc_lt (by decide)) rfl rfl ix_9 tyX9_ok nmX9 rfl (by decide) wd_690 rfl rfl rfl rfl rfl (Nat.le_of_ble_eq_true rfl) dX9_moveAll_2 ?_
  refine la_aload_n (i := 0) B dX9_moveAll_5 rfl rfl ?_
  refine la_aload_n (i := 0) B dX9_moveAll_6 rfl rfl ?_
  refine la_get (i := 37) (ci := 9) (j := 0) (C := RX9) (T := TX9) (N := 18) B (lh_nc_lt (by decide)) rfl ix_9 rfl (by decide) wd_673 rfl rfl dX9_moveAll_7 ?_
  refine la_iconst (v := 5) B dX9_moveAll_10 (by decide) ?_
  refine la_iload_n (i := 1) B dX9_moveAll_11 rfl rfl ?_
  refine la_callVv (i := 37) B (ct_X9_move_38 (lh_up h 37 17 0) kp (p0 := 0) (by decide) hp0) lk_X9_156 (by decide) (lh_nc_lt (by decide)) rfl rfl rfl (by simp [Value.category]) dX9_moveAll_12 ?_
  refine la_aload_n (i := 0) B dX9_moveAll_15 rfl rfl ?_
  refine la_aload_n (i := 0) B dX9_moveAll_16 rfl rfl ?_
  refine la_get (i := 37) (ci := 9) (j := 1) (C := RX9) (T := TX9) (N := 18) B (lh_nc_lt (by decide)) rfl ix_9 rfl (by decide) wd_674 rfl rfl dX9_moveAll_17 ?_
  refine la_iconst (v := 4) B dX9_moveAll_20 (by decide) ?_
  refine la_iload_n (i := 1) B dX9_moveAll_21 rfl rfl ?_
  refine la_callVv (i := 37) B (ct_X9_move_39 (gX9_move_38 (lh_up h 37 17 0) kp) kp (p0 := 5) (by decide) hp1) lk_X9_156 (by decide) (lh_nc_lt (by decide)) rfl rfl rfl (by simp [Value.category]) dX9_moveAll_22 ?_
  refine la_aload_n (i := 0) B dX9_moveAll_25 rfl rfl ?_
  refine la_aload_n (i := 0) B dX9_moveAll_26 rfl rfl ?_
  refine la_get (i := 37) (ci := 9) (j := 2) (C := RX9) (T := TX9) (N := 18) B (lh_nc_lt (by decide)) rfl ix_9 rfl (by decide) wd_675 rfl rfl dX9_moveAll_27 ?_
  refine la_bipush (v := 40) B dX9_moveAll_30 (by decide) ?_
  refine la_iload_n (i := 1) B dX9_moveAll_32 rfl rfl ?_
  refine la_callVv (i := 37) B (ct_X9_move_40 (gX9_move_39 (gX9_move_38 (lh_up h 37 17 0) kp) kp) kp (p0 := 9) (by decide) hp2) lk_X9_156 (by decide) (lh_nc_lt (by decide)) rfl rfl rfl (by simp [Value.category]) dX9_moveAll_33 ?_
  refine la_aload_n (i := 0) B dX9_moveAll_36 rfl rfl ?_
  refine la_aload_n (i := 0) B dX9_moveAll_37 rfl rfl ?_
  refine la_get (i := 37) (ci := 9) (j := 3) (C := RX9) (T := TX9) (N := 18) B (lh_nc_lt (by decide)) rfl ix_9 rfl (by decide) wd_676 rfl rfl dX9_moveAll_38 ?_
  refine la_bipush (v := 56) B dX9_moveAll_41 (by decide) ?_
  refine la_iload_n (i := 1) B dX9_moveAll_43 rfl rfl ?_
  refine la_callVv (i := 37) B (ct_X9_move_41 (gX9_move_40 (gX9_move_39 (gX9_move_38 (lh_up h 37 17 0) kp) kp) kp) kp (p0 := 49) (by decide) hp3) lk_X9_156 (by decide) (lh_nc_lt (by decide)) rfl rfl rfl (by simp [Value.category]) dX9_moveAll_44 ?_
  refine la_aload_n (i := 0) B dX9_moveAll_47 rfl rfl ?_
  refine la_aload_n (i := 0) B dX9_moveAll_48 rfl rfl ?_
  refine la_get (i := 37) (ci := 9) (j := 4) (C := RX9) (T := TX9) (N := 18) B (lh_nc_lt (by decide)) rfl ix_9 rfl (by decide) wd_677 rfl rfl dX9_moveAll_49 ?_
  refine la_sipush (v := 150) B dX9_moveAll_52 (by decide) ?_
  refine la_iload_n (i := 1) B dX9_moveAll_55 rfl rfl ?_
  refine la_callVv (i := 37) B (ct_X9_move_42 (gX9_move_41 (gX9_move_40 (gX9_move_39 (gX9_move_38 (lh_up h 37 17 0) kp) kp) kp) kp) kp (p0 := 105) (by decide) hp4) lk_X9_156 (by decide) (lh_nc_lt (by decide)) rfl rfl rfl (by simp [Value.category]) dX9_moveAll_56 ?_
  refine la_aload_n (i := 0) B dX9_moveAll_59 rfl rfl ?_
  refine la_aload_n (i := 0) B dX9_moveAll_60 rfl rfl ?_
  refine la_get (i := 37) (ci := 9) (j := 5) (C := RX9) (T := TX9) (N := 18) B (lh_nc_lt (by decide)) rfl ix_9 rfl (by decide) wd_678 rfl rfl dX9_moveAll_61 ?_
  refine la_bipush (v := 36) B dX9_moveAll_64 (by decide) ?_
  refine la_iload_n (i := 1) B dX9_moveAll_66 rfl rfl ?_
  refine la_callVv (i := 37) B (ct_X9_move_43 (gX9_move_42 (gX9_move_41 (gX9_move_40 (gX9_move_39 (gX9_move_38 (lh_up h 37 17 0) kp) kp) kp) kp) kp) kp (p0 := 255) (by decide) hp5) lk_X9_156 (by decide) (lh_nc_lt (by decide)) rfl rfl rfl (by simp [Value.category]) dX9_moveAll_67 ?_
  refine la_aload_n (i := 0) B dX9_moveAll_70 rfl rfl ?_
  refine la_aload_n (i := 0) B dX9_moveAll_71 rfl rfl ?_
  refine la_get (i := 37) (ci := 9) (j := 6) (C := RX9) (T := TX9) (N := 18) B (lh_nc_lt (by decide)) rfl ix_9 rfl (by decide) wd_679 rfl rfl dX9_moveAll_72 ?_
  refine la_bipush (v := 15) B dX9_moveAll_75 (by decide) ?_
  refine la_iload_n (i := 1) B dX9_moveAll_77 rfl rfl ?_
  refine la_callVv (i := 37) B (ct_X9_move_44 (gX9_move_43 (gX9_move_42 (gX9_move_41 (gX9_move_40 (gX9_move_39 (gX9_move_38 (lh_up h 37 17 0) kp) kp) kp) kp) kp) kp) kp (p0 := 291) (by decide) hp6) lk_X9_156 (by decide) (lh_nc_lt (by decide)) rfl rfl rfl (by simp [Value.category]) dX9_moveAll_78 ?_
  exact la_return B rfl (by simp only [gX9_moveAll]) dX9_moveAll_81
