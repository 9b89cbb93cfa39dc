def LX0_countOf (h : lh_HS) (sn : Int32) : Nat → Nat → Int32 → Int32
  | 0, i, acc => acc
  | n + 1, i, acc => (if (fX0_standsFor h (nI i) sn) = 0 then (LX0_countOf h sn n (i + 1) acc) else (LX0_countOf h sn n (i + 1) (acc + 1)))
set_option maxHeartbeats 4000000 in
set_option maxRecDepth 100000 in
theorem lp_X0_countOf {l : Launch} {D : va_G} {ad : Nat → Nat} {bs : Nat} {cI cZ : ClassId} {t9 : Nat} {k : Bool} {p : Program} {e : Env} {s : State} {m : MethodId} {args : Array Value} {below : List Frame} {meth : Method} {c : Code} (h : lh_HS) (sn : Int32) {r : Int32} (B : lh_BK p (lh_rm 1) s m args meth c D ad bs cI cZ t9 k "LightHours$Bookings" cX0_countOf 4 (some .int)) {N : Nat} (hN : h 4 0 = nI N) (hM : N ≤ 30) :
    ∀ (n i : Nat) (acc : Int32), i + n = N → r = LX0_countOf h sn n i acc → lh_AJ p l e (lh_rm 1) s m args below meth c D ad bs cI cZ k 4 (MQ below (lh_Qi D ad bs cI cZ k r h) args s 0 0 (lh_A bs)) 4 [(0, .ref (ad 4)), (1, .int sn), (2, .int acc), (3, .int (nI i))] [] h := by
  intro n
  induction n with
  | zero =>
    intro i acc hi hr
    have hexit : h 4 0 ≤ nI i := by rw [hN]; exact nI_le (by omega) (by omega)
    refine la_iload_n (i := 3) B dX0_countOf_4 rfl rfl ?_
    refine la_aload_n (i := 0) B dX0_countOf_5 rfl rfl ?_
    refine la_get (i := 4) (ci := 0) (j := 0) (v := .int (h 4 0)) (C := RX0) (T := TX0) (N := 6) B (lh_nc_lt (by decide)) rfl ix_0 rfl (by decide) wd_133 rfl rfl dX0_countOf_6 ?_
    refine la_icmp_ge (tgt := 30) B dX0_countOf_9 (by decide) (fun c9 => ?_) (fun c9 => ?_)
    · refine la_iload_n (i := 2) B dX0_countOf_30 rfl rfl ?_
      exact la_ireturn B rfl (by rw [hr]; simp only [LX0_countOf]) rfl dX0_countOf_31
    · exact absurd hexit c9
  | succ n ih =>
    intro i acc hi hr
    have hcont : ¬ h 4 0 ≤ nI i := by rw [hN]; exact nI_ge (by omega) (by omega)
    have hb : vp_in (nI i) 30 := vp_in_nI (by omega) (by omega)
    refine la_iload_n (i := 3) B dX0_countOf_4 rfl rfl ?_
    refine la_aload_n (i := 0) B dX0_countOf_5 rfl rfl ?_
    refine la_get (i := 4) (ci := 0) (j := 0) (v := .int (h 4 0)) (C := RX0) (T := TX0) (N := 6) B (lh_nc_lt (by decide)) rfl ix_0 rfl (by decide) wd_133 rfl rfl dX0_countOf_6 ?_
    refine la_icmp_ge (tgt := 30) B dX0_countOf_9 (by decide) (fun c9 => ?_) (fun c9 => ?_)
    · exact absurd c9 hcont
    · refine la_aload_n (i := 0) B dX0_countOf_12 rfl rfl ?_
      refine la_iload_n (i := 3) B dX0_countOf_13 rfl rfl ?_
      refine la_iload_n (i := 1) B dX0_countOf_14 rfl rfl ?_
      refine la_callVi (i := 4) B (ct_X0_standsFor h (nI i) sn hb) lk_X0_36 (by decide) (lh_nc_lt (by decide)) rfl rfl rfl (by simp [Value.category]) dX0_countOf_15 ?_
      refine la_if_eq (tgt := 24) B dX0_countOf_18 (by decide) (fun c18 => ?_) (fun c18 => ?_)
      · refine la_iincp B dX0_countOf_24 rfl (by decide) ?_
        refine la_goto (tgt := 4) B dX0_countOf_27 (by decide) ?_
        refine la_sub (lv2 := [(0, .ref (ad 4)), (1, .int sn), (2, .int acc), (3, .int (nI (i + 1)))]) ⟨rfl, rfl, rfl, (congrArg (fun z => some (Value.int z)) (nI_1 i)), trivial⟩ (by simp [Value.category]) ?_
        exact ih (i + 1) acc (by omega) (by rw [hr]; simp only [LX0_countOf, if_pos c18])
      · refine la_iincp B dX0_countOf_21 rfl (by decide) ?_
        refine la_iincp B dX0_countOf_24 rfl (by decide) ?_
        refine la_goto (tgt := 4) B dX0_countOf_27 (by decide) ?_
        refine la_sub (lv2 := [(0, .ref (ad 4)), (1, .int sn), (2, .int ((acc + 1))), (3, .int (nI (i + 1)))]) ⟨rfl, rfl, rfl, (congrArg (fun z => some (Value.int z)) (nI_1 i)), trivial⟩ (by simp [Value.category]) ?_
        exact ih (i + 1) (acc + 1) (by omega) (by rw [hr]; simp only [LX0_countOf, if_neg c18])

def fX0_countOf (h : lh_HS) (sn : Int32) : Int32 := (LX0_countOf h sn (lh_N h 4) 0 0)
set_option maxHeartbeats 4000000 in
set_option maxRecDepth 100000 in
theorem ct_X0_countOf {l : Launch} {D : va_G} {ad : Nat → Nat} {bs : Nat} {cI cZ : ClassId} {t9 : Nat} {k : Bool} (h : lh_HS) (sn : Int32) (hN : h 4 0 = nI (lh_N h 4)) (hM : lh_N h 4 ≤ 30) : lh_CTi l D ad bs cI cZ t9 k yX0_countOf cX0_countOf 4 (some .int) 1 [.ref (ad 4), .int sn] h (fX0_countOf h sn) h := by
  refine lh_ofi (lv := [(0, .ref (ad 4)), (1, .int sn)]) (by decide) (Nat.le_of_ble_eq_true rfl) rfl (by simp [Value.category]) ⟨rfl, rfl, trivial⟩ ?_
  intro p e s m args below meth c B
  have B : lh_BK p (lh_rm 1) s m args meth c D ad bs cI cZ t9 k "LightHours$Bookings" cX0_countOf 4 (some .int) := B
  refine la_iconst (v := 0) B dX0_countOf_0 (by decide) ?_
  refine la_istore_n (i := 2) B dX0_countOf_1 rfl (by decide) ?_
  refine la_iconst (v := 0) B dX0_countOf_2 (by decide) ?_
  refine la_istore_n (i := 3) B dX0_countOf_3 rfl (by decide) ?_
  refine la_sub (lv2 := [(0, .ref (ad 4)), (1, .int sn), (2, .int 0), (3, .int (nI 0))]) ⟨rfl, rfl, rfl, rfl, trivial⟩ (by simp [Value.category]) ?_
  exact lp_X0_countOf h sn B hN hM _ 0 0 (Nat.zero_add _) (by simp only [fX0_countOf])

def LX0_countCancelled (h : lh_HS)  : Nat → Nat → Int32 → Int32
  | 0, i, acc => acc
  | n + 1, i, acc => (if (h 20 (nI i).toNatClampNeg) = 0 then (LX0_countCancelled h n (i + 1) acc) else (LX0_countCancelled h n (i + 1) (acc + 1)))
set_option maxHeartbeats 4000000 in
set_option maxRecDepth 100000 in
theorem lp_X0_countCancelled {l : Launch} {D : va_G} {ad : Nat → Nat} {bs : Nat} {cI cZ : ClassId} {t9 : Nat} {k : Bool} {p : Program} {e : Env} {s : State} {m : MethodId} {args : Array Value} {below : List Frame} {meth : Method} {c : Code} (h : lh_HS)  {r : Int32} (B : lh_BK p (lh_rm 0) s m args meth c D ad bs cI cZ t9 k "LightHours$Bookings" cX0_countCancelled 3 (some .int)) {N : Nat} (hN : h 4 0 = nI N) (hM : N ≤ 30) :
    ∀ (n i : Nat) (acc : Int32), i + n = N → r = LX0_countCancelled h n i acc → lh_AJ p l e (lh_rm 0) s m args below meth c D ad bs cI cZ k 3 (MQ below (lh_Qi D ad bs cI cZ k r h) args s 0 0 (lh_A bs)) 4 [(0, .ref (ad 4)), (1, .int acc), (2, .int (nI i))] [] h := by
  intro n
  induction n with
  | zero =>
    intro i acc hi hr
    have hexit : h 4 0 ≤ nI i := by rw [hN]; exact nI_le (by omega) (by omega)
    refine la_iload_n (i := 2) B dX0_countCancelled_4 rfl rfl ?_
    refine la_aload_n (i := 0) B dX0_countCancelled_5 rfl rfl ?_
    refine la_get (i := 4) (ci := 0) (j := 0) (v := .int (h 4 0)) (C := RX0) (T := TX0) (N := 6) B (lh_nc_lt (by decide)) rfl ix_0 rfl (by decide) wd_133 rfl rfl dX0_countCancelled_6 ?_
    refine la_icmp_ge (tgt := 30) B dX0_countCancelled_9 (by decide) (fun c9 => ?_) (fun c9 => ?_)
    · refine la_iload_n (i := 1) B dX0_countCancelled_30 rfl rfl ?_
      exact la_ireturn B rfl (by rw [hr]; simp only [LX0_countCancelled]) rfl dX0_countCancelled_31
    · exact absurd hexit c9
  | succ n ih =>
    intro i acc hi hr
    have hcont : ¬ h 4 0 ≤ nI i := by rw [hN]; exact nI_ge (by omega) (by omega)
    have hb : vp_in (nI i) 30 := vp_in_nI (by omega) (by omega)
    refine la_iload_n (i := 2) B dX0_countCancelled_4 rfl rfl ?_
    refine la_aload_n (i := 0) B dX0_countCancelled_5 rfl rfl ?_
    refine la_get (i := 4) (ci := 0) (j := 0) (v := .int (h 4 0)) (C := RX0) (T := TX0) (N := 6) B (lh_nc_lt (by decide)) rfl ix_0 rfl (by decide) wd_133 rfl rfl dX0_countCancelled_6 ?_
    refine la_icmp_ge (tgt := 30) B dX0_countCancelled_9 (by decide) (fun c9 => ?_) (fun c9 => ?_)
    · exact absurd c9 hcont
    · refine la_aload_n (i := 0) B dX0_countCancelled_12 rfl rfl ?_
      refine la_get (i := 4) (ci := 0) (j := 5) (C := RX0) (T := TX0) (N := 6) B (lh_nc_lt (by decide)) rfl ix_0 rfl (by decide) wd_147 rfl rfl dX0_countCancelled_13 ?_
      refine la_iload_n (i := 2) B dX0_countCancelled_16 rfl rfl ?_
      refine la_zald (i := 20) (v := h 20 (nI i).toNatClampNeg) B (lh_nc_lt (by decide)) rfl hb rfl dX0_countCancelled_17 ?_
      refine la_if_eq (tgt := 24) B dX0_countCancelled_18 (by decide) (fun c18 => ?_) (fun c18 => ?_)
      · refine la_iincp B dX0_countCancelled_24 rfl (by decide) ?_
        refine la_goto (tgt := 4) B dX0_countCancelled_27 (by decide) ?_
        refine la_sub (lv2 := [(0, .ref (ad 4)), (1, .int acc), (2, .int (nI (i + 1)))]) ⟨rfl, rfl, (congrArg (fun z => some (Value.int z)) (nI_1 i)), trivial⟩ (by simp [Value.category]) ?_
        exact ih (i + 1) acc (by omega) (by rw [hr]; simp only [LX0_countCancelled, if_pos c18])
      · refine la_iincp B dX0_countCancelled_21 rfl (by decide) ?_
        refine la_iincp B dX0_countCancelled_24 rfl (by decide) ?_
        refine la_goto (tgt := 4) B dX0_countCancelled_27 (by decide) ?_
        refine la_sub (lv2 := [(0, .ref (ad 4)), (1, .int ((acc + 1))), (2, .int (nI (i + 1)))]) ⟨rfl, rfl, (congrArg (fun z => some (Value.int z)) (nI_1 i)), trivial⟩ (by simp [Value.category]) ?_
        exact ih (i + 1) (acc + 1) (by omega) (by rw [hr]; simp only [LX0_countCancelled, if_neg c18])

def fX0_countCancelled (h : lh_HS)  : Int32 := (LX0_countCancelled h (lh_N h 4) 0 0)
set_option maxHeartbeats 4000000 in
set_option maxRecDepth 100000 in
theorem ct_X0_countCancelled {l : Launch} {D : va_G} {ad : Nat → Nat} {bs : Nat} {cI cZ : ClassId} {t9 : Nat} {k : Bool} (h : lh_HS)  (hN : h 4 0 = nI (lh_N h 4)) (hM : lh_N h 4 ≤ 30) : lh_CTi l D ad bs cI cZ t9 k yX0_countCancelled cX0_countCancelled 3 (some .int) 0 [.ref (ad 4)] h (fX0_countCancelled h ) h := by
  refine lh_ofi (lv := [(0, .ref (ad 4))]) (by decide) (Nat.le_of_ble_eq_true rfl) rfl (by simp [Value.category]) ⟨rfl, trivial⟩ ?_
  intro p e s m args below meth c B
  have B : lh_BK p (lh_rm 0) s m args meth c D ad bs cI cZ t9 k "LightHours$Bookings" cX0_countCancelled 3 (some .int) := B
  refine la_iconst (v := 0) B dX0_countCancelled_0 (by decide) ?_
  refine la_istore_n (i := 1) B dX0_countCancelled_1 rfl (by decide) ?_
  refine la_iconst (v := 0) B dX0_countCancelled_2 (by decide) ?_
  refine la_istore_n (i := 2) B dX0_countCancelled_3 rfl (by decide) ?_
  refine la_sub (lv2 := [(0, .ref (ad 4)), (1, .int 0), (2, .int (nI 0))]) ⟨rfl, rfl, rfl, trivial⟩ (by simp [Value.category]) ?_
  exact lp_X0_countCancelled h B hN hM _ 0 0 (Nat.zero_add _) (by simp only [fX0_countCancelled])

def LX0_shownWithin (h : lh_HS) (sn : Int32) (yr : Int32) (aw : Int32) : Nat → Nat → Int32
  | 0, i => 0
  | n + 1, i => (if (fX0_standsFor h (nI i) sn) = 0 then (LX0_shownWithin h sn yr aw n (i + 1)) else (if (fX0_isLoan h (nI i)) = 0 then (if aw < (if 0 ≤ ((h 18 (nI i).toNatClampNeg) - yr) then ((h 18 (nI i).toNatClampNeg) - yr) else 0 - ((h 18 (nI i).toNatClampNeg) - yr)) then (LX0_shownWithin h sn yr aw n (i + 1)) else 1) else (LX0_shownWithin h sn yr aw n (i + 1))))
set_option maxHeartbeats 4000000 in
set_option maxRecDepth 100000 in
theorem lp_X0_shownWithin {l : Launch} {D : va_G} {ad : Nat → Nat} {bs : Nat} {cI cZ : ClassId} {t9 : Nat} {k : Bool} {p : Program} {e : Env} {s : State} {m : MethodId} {args : Array Value} {below : List Frame} {meth : Method} {c : Code} (h : lh_HS) (sn : Int32) (yr : Int32) (aw : Int32) {r : Int32} (B : lh_BK p (lh_rm 1) s m args meth c D ad bs cI cZ t9 k "LightHours$Bookings" cX0_shownWithin 5 (some .boolean)) {N : Nat} (hN : h 4 0 = nI N) (hM : N ≤ 30) :
    ∀ (n i : Nat), i + n = N → r = LX0_shownWithin h sn yr aw n i → lh_AJ p l e (lh_rm 1) s m args below meth c D ad bs cI cZ k 5 (MQ below (lh_Qi D ad bs cI cZ k r h) args s 0 0 (lh_A bs)) 3 [(0, .ref (ad 4)), (1, .int sn), (2, .int yr), (3, .int aw), (4, .int (nI i))] [] h := by
  intro n
  induction n with
  | zero =>
    intro i hi hr
    have hexit : h 4 0 ≤ nI i := by rw [hN]; exact nI_le (by omega) (by omega)
    refine la_iload B dX0_shownWithin_3 rfl ?_
    refine la_aload_n (i := 0) B dX0_shownWithin_5 rfl rfl ?_
    refine la_get (i := 4) (ci := 0) (j := 0) (v := .int (h 4 0)) (C := RX0) (T := TX0) (N := 6) B (lh_nc_lt (by decide)) rfl ix_0 rfl (by decide) wd_133 rfl rfl dX0_shownWithin_6 ?_
    refine la_icmp_ge (tgt := 55) B dX0_shownWithin_9 (by decide) (fun c9 => ?_) (fun c9 => ?_)
    · refine la_iconst (v := 0) B dX0_shownWithin_55 (by decide) ?_
      exact la_zreturn B rfl (by rw [hr]; simp only [LX0_shownWithin]) rfl rfl dX0_shownWithin_56
    · exact absurd hexit c9
  | succ n ih =>
    intro i hi hr
    have hcont : ¬ h 4 0 ≤ nI i := by rw [hN]; exact nI_ge (by omega) (by omega)
    have hb : vp_in (nI i) 30 := vp_in_nI (by omega) (by omega)
    refine la_iload B dX0_shownWithin_3 rfl ?_
    refine la_aload_n (i := 0) B dX0_shownWithin_5 rfl rfl ?_
    refine la_get (i := 4) (ci := 0) (j := 0) (v := .int (h 4 0)) (C := RX0) (T := TX0) (N := 6) B (lh_nc_lt (by decide)) rfl ix_0 rfl (by decide) wd_133 rfl rfl dX0_shownWithin_6 ?_
    refine la_icmp_ge (tgt := 55) B dX0_shownWithin_9 (by decide) (fun c9 => ?_) (fun c9 => ?_)
    · exact absurd c9 hcont
    · refine la_aload_n (i := 0) B dX0_shownWithin_12 rfl rfl ?_
      refine la_iload B dX0_shownWithin_13 rfl ?_
      refine la_iload_n (i := 1) B dX0_shownWithin_15 rfl rfl ?_
      refine la_callVi (i := 4) B (ct_X0_standsFor h (nI i) sn hb) lk_X0_36 (by decide) (lh_nc_lt (by decide)) rfl rfl rfl (by simp [Value.category]) dX0_shownWithin_16 ?_
      refine la_if_eq (tgt := 49) B dX0_shownWithin_19 (by decide) (fun c19 => ?_) (fun c19 => ?_)
      · refine la_iincp B dX0_shownWithin_49 rfl (by decide) ?_
        refine la_goto (tgt := 3) B dX0_shownWithin_52 (by decide) ?_
        refine la_sub (lv2 := [(0, .ref (ad 4)), (1, .int sn), (2, .int yr), (3, .int aw), (4, .int (nI (i + 1)))]) ⟨rfl, rfl, rfl, rfl, (congrArg (fun z => some (Value.int z)) (nI_1 i)), trivial⟩ (by simp [Value.category]) ?_
        exact ih (i + 1) (by omega) (by rw [hr]; simp only [LX0_shownWithin, if_pos c19])
      · refine la_aload_n (i := 0) B dX0_shownWithin_22 rfl rfl ?_
        refine la_iload B dX0_shownWithin_23 rfl ?_
        refine la_callVi (i := 4) B (ct_X0_isLoan h (nI i) hb) lk_X0_40 (by decide) (lh_nc_lt (by decide)) rfl rfl rfl (by simp [Value.category]) dX0_shownWithin_25 ?_
        refine la_if_ne (tgt := 49) B dX0_shownWithin_28 (by decide) (fun c28 => ?_) (fun c28 => ?_)
        · refine la_iincp B dX0_shownWithin_49 rfl (by decide) ?_
          refine la_goto (tgt := 3) B dX0_shownWithin_52 (by decide) ?_
          refine la_sub (lv2 := [(0, .ref (ad 4)), (1, .int sn), (2, .int yr), (3, .int aw), (4, .int (nI (i + 1)))]) ⟨rfl, rfl, rfl, rfl, (congrArg (fun z => some (Value.int z)) (nI_1 i)), trivial⟩ (by simp [Value.category]) ?_
          exact ih (i + 1) (by omega) (by rw [hr]; simp only [LX0_shownWithin, if_neg c19, if_neg c28])
        · refine la_aload_n (i := 0) B dX0_shownWithin_31 rfl rfl ?_
          refine la_get (i := 4) (ci := 0) (j := 3) (C := RX0) (T := TX0) (N := 6) B (lh_nc_lt (by decide)) rfl ix_0 rfl (by decide) wd_141 rfl rfl dX0_shownWithin_32 ?_
          refine la_iload B dX0_shownWithin_35 rfl ?_
          refine la_iald (i := 18) (v := h 18 (nI i).toNatClampNeg) B (lh_nc_lt (by decide)) rfl hb rfl dX0_shownWithin_37 ?_
          refine la_iload_n (i := 2) B dX0_shownWithin_38 rfl rfl ?_
          refine la_isub B dX0_shownWithin_39 ?_
          refine la_mabs B wd_440 wd_441 wd_45 wd_442 (by decide) (by decide) dX0_shownWithin_40 ?_
          refine la_iload_n (i := 3) B dX0_shownWithin_43 rfl rfl ?_
          refine la_icmp_gt (tgt := 49) B dX0_shownWithin_44 (by decide) (fun c44 => ?_) (fun c44 => ?_)
          · refine la_iincp B dX0_shownWithin_49 rfl (by decide) ?_
            refine la_goto (tgt := 3) B dX0_shownWithin_52 (by decide) ?_
            refine la_sub (lv2 := [(0, .ref (ad 4)), (1, .int sn), (2, .int yr), (3, .int aw), (4, .int (nI (i + 1)))]) ⟨rfl, rfl, rfl, rfl, (congrArg (fun z => some (Value.int z)) (nI_1 i)), trivial⟩ (by simp [Value.category]) ?_
            exact ih (i + 1) (by omega) (by rw [hr]; simp only [LX0_shownWithin, if_neg c19, if_pos c28, if_pos c44])
          · refine la_iconst (v := 1) B dX0_shownWithin_47 (by decide) ?_
            exact la_zreturn B rfl (by rw [hr]; simp only [LX0_shownWithin, if_neg c19, if_pos c28, if_neg c44]) rfl rfl dX0_shownWithin_48

def fX0_shownWithin (h : lh_HS) (sn : Int32) (yr : Int32) (aw : Int32) : Int32 := (LX0_shownWithin h sn yr aw (lh_N h 4) 0)
set_option maxHeartbeats 4000000 in
set_option maxRecDepth 100000 in
theorem ct_X0_shownWithin {l : Launch} {D : va_G} {ad : Nat → Nat} {bs : Nat} {cI cZ : ClassId} {t9 : Nat} {k : Bool} (h : lh_HS) (sn : Int32) (yr : Int32) (aw : Int32) (hN : h 4 0 = nI (lh_N h 4)) (hM : lh_N h 4 ≤ 30) : lh_CTi l D ad bs cI cZ t9 k yX0_shownWithin cX0_shownWithin 5 (some .boolean) 1 [.ref (ad 4), .int sn, .int yr, .int aw] h (fX0_shownWithin h sn yr aw) h := by
  refine lh_ofi (lv := [(0, .ref (ad 4)), (1, .int sn), (2, .int yr), (3, .int aw)]) (by decide) (Nat.le_of_ble_eq_true rfl) rfl (by simp [Value.category]) ⟨rfl, rfl, rfl, rfl, trivial⟩ ?_
  intro p e s m args below meth c B
  have B : lh_BK p (lh_rm 1) s m args meth c D ad bs cI cZ t9 k "LightHours$Bookings" cX0_shownWithin 5 (some .boolean) := B
  refine la_iconst (v := 0) B dX0_shownWithin_0 (by decide) ?_
  refine la_istore B dX0_shownWithin_1 (by decide) ?_
  refine la_sub (lv2 := [(0, .ref (ad 4)), (1, .int sn), (2, .int yr), (3, .int aw), (4, .int (nI 0))]) ⟨rfl, rfl, rfl, rfl, rfl, trivial⟩ (by simp [Value.category]) ?_
  exact lp_X0_shownWithin h sn yr aw B hN hM _ 0 (Nat.zero_add _) (by simp only [fX0_shownWithin])

def LX6_countOf (h : lh_HS) (sn : Int32) : Nat → Nat → Int32 → Int32
  | 0, i, acc => acc
  | n + 1, i, acc => (if (h 21 (nI i).toNatClampNeg) = sn then (LX6_countOf h sn n (i + 1) (acc + 1)) else (LX6_countOf h sn n (i + 1) acc))
set_option maxHeartbeats 4000000 in
set_option maxRecDepth 100000 in
theorem lp_X6_countOf {l : Launch} {D : va_G} {ad : Nat → Nat} {bs : Nat} {cI cZ : ClassId} {t9 : Nat} {k : Bool} {p : Program} {e : Env} {s : State} {m : MethodId} {args : Array Value} {below : List Frame} {meth : Method} {c : Code} (h : lh_HS) (sn : Int32) {r : Int32} (B : lh_BK p (lh_rm 0) s m args meth c D ad bs cI cZ t9 k "LightHours$Threads" cX6_countOf 4 (some .int)) {N : Nat} (hN : h 5 0 = nI N) (hM : N ≤ 12) :
    ∀ (n i : Nat) (acc : Int32), i + n = N → r = LX6_countOf h sn n i acc → lh_AJ p l e (lh_rm 0) s m args below meth c D ad bs cI cZ k 4 (MQ below (lh_Qi D ad bs cI cZ k r h) args s 0 0 (lh_A bs)) 4 [(0, .ref (ad 5)), (1, .int sn), (2, .int acc), (3, .int (nI i))] [] h := by
  intro n
  induction n with
  | zero =>
    intro i acc hi hr
    have hexit : h 5 0 ≤ nI i := by rw [hN]; exact nI_le (by omega) (by omega)
    refine la_iload_n (i := 3) B dX6_countOf_4 rfl rfl ?_
    refine la_aload_n (i := 0) B dX6_countOf_5 rfl rfl ?_
    refine la_get (i := 5) (ci := 6) (j := 0) (v := .int (h 5 0)) (C := RX6) (T := TX6) (N := 4) B (lh_nc_lt (by decide)) rfl ix_6 rfl (by decide) wd_169 rfl rfl dX6_countOf_6 ?_
    refine la_icmp_ge (tgt := 31) B dX6_countOf_9 (by decide) (fun c9 => ?_) (fun c9 => ?_)
    · refine la_iload_n (i := 2) B dX6_countOf_31 rfl rfl ?_
      exact la_ireturn B rfl (by rw [hr]; simp only [LX6_countOf]) rfl dX6_countOf_32
    · exact absurd hexit c9
  | succ n ih =>
    intro i acc hi hr
    have hcont : ¬ h 5 0 ≤ nI i := by rw [hN]; exact nI_ge (by omega) (by omega)
    have hb : vp_in (nI i) 12 := vp_in_nI (by omega) (by omega)
    refine la_iload_n (i := 3) B dX6_countOf_4 rfl rfl ?_
    refine la_aload_n (i := 0) B dX6_countOf_5 rfl rfl ?_
    refine la_get (i := 5) (ci := 6) (j := 0) (v := .int (h 5 0)) (C := RX6) (T := TX6) (N := 4) B (lh_nc_lt (by decide)) rfl ix_6 rfl (by decide) wd_169 rfl rfl dX6_countOf_6 ?_
    refine la_icmp_ge (tgt := 31) B dX6_countOf_9 (by decide) (fun c9 => ?_) (fun c9 => ?_)
    · exact absurd c9 hcont
    · refine la_aload_n (i := 0) B dX6_countOf_12 rfl rfl ?_
      refine la_get (i := 5) (ci := 6) (j := 1) (C := RX6) (T := TX6) (N := 4) B (lh_nc_lt (by decide)) rfl ix_6 rfl (by decide) wd_172 rfl rfl dX6_countOf_13 ?_
      refine la_iload_n (i := 3) B dX6_countOf_16 rfl rfl ?_
      refine la_iald (i := 21) (v := h 21 (nI i).toNatClampNeg) B (lh_nc_lt (by decide)) rfl hb rfl dX6_countOf_17 ?_
      refine la_iload_n (i := 1) B dX6_countOf_18 rfl rfl ?_
      refine la_icmp_ne (tgt := 25) B dX6_countOf_19 (by decide) (fun c19 => ?_) (fun c19 => ?_)
      · refine la_iincp B dX6_countOf_25 rfl (by decide) ?_
        refine la_goto (tgt := 4) B dX6_countOf_28 (by decide) ?_
        refine la_sub (lv2 := [(0, .ref (ad 5)), (1, .int sn), (2, .int acc), (3, .int (nI (i + 1)))]) ⟨rfl, rfl, rfl, (congrArg (fun z => some (Value.int z)) (nI_1 i)), trivial⟩ (by simp [Value.category]) ?_
        exact ih (i + 1) acc (by omega) (by rw [hr]; simp only [LX6_countOf, if_neg c19])
      · refine la_iincp B dX6_countOf_22 rfl (by decide) ?_
        refine la_iincp B dX6_countOf_25 rfl (by decide) ?_
        refine la_goto (tgt := 4) B dX6_countOf_28 (by decide) ?_
        refine la_sub (lv2 := [(0, .ref (ad 5)), (1, .int sn), (2, .int ((acc + 1))), (3, .int (nI (i + 1)))]) ⟨rfl, rfl, rfl, (congrArg (fun z => some (Value.int z)) (nI_1 i)), trivial⟩ (by simp [Value.category]) ?_
        exact ih (i + 1) (acc + 1) (by omega) (by rw [hr]; simp only [LX6_countOf, if_pos c19])

def fX6_countOf (h : lh_HS) (sn : Int32) : Int32 := (LX6_countOf h sn (lh_N h 5) 0 0)
set_option maxHeartbeats 4000000 in
set_option maxRecDepth 100000 in
theorem ct_X6_countOf {l : Launch} {D : va_G} {ad : Nat → Nat} {bs : Nat} {cI cZ : ClassId} {t9 : Nat} {k : Bool} (h : lh_HS) (sn : Int32) (hN : h 5 0 = nI (lh_N h 5)) (hM : lh_N h 5 ≤ 12) : lh_CTi l D ad bs cI cZ t9 k yX6_countOf cX6_countOf 4 (some .int) 0 [.ref (ad 5), .int sn] h (fX6_countOf h sn) h := by
  refine lh_ofi (lv := [(0, .ref (ad 5)), (1, .int sn)]) (by decide) (Nat.le_of_ble_eq_true rfl) rfl (by simp [Value.category]) ⟨rfl, rfl, trivial⟩ ?_
  intro p e s m args below meth c B
  have B : lh_BK p (lh_rm 0) s m args meth c D ad bs cI cZ t9 k "LightHours$Threads" cX6_countOf 4 (some .int) := B
  refine la_iconst (v := 0) B dX6_countOf_0 (by decide) ?_
  refine la_istore_n (i := 2) B dX6_countOf_1 rfl (by decide) ?_
  refine la_iconst (v := 0) B dX6_countOf_2 (by decide) ?_
  refine la_istore_n (i := 3) B dX6_countOf_3 rfl (by decide) ?_
  refine la_sub (lv2 := [(0, .ref (ad 5)), (1, .int sn), (2, .int 0), (3, .int (nI 0))]) ⟨rfl, rfl, rfl, rfl, trivial⟩ (by simp [Value.category]) ?_
  exact lp_X6_countOf h sn B hN hM _ 0 0 (Nat.zero_add _) (by simp only [fX6_countOf])

def LX4_countReadings (h : lh_HS)  : Nat → Nat → Int32 → Int32
  | 0, i, acc => acc
  | n + 1, i, acc => (if (h 8 (nI i).toNatClampNeg) = ((-1)) then (LX4_countReadings h n (i + 1) acc) else (LX4_countReadings h n (i + 1) (acc + 1)))
set_option maxHeartbeats 4000000 in
set_option maxRecDepth 100000 in
theorem lp_X4_countReadings {l : Launch} {D : va_G} {ad : Nat → Nat} {bs : Nat} {cI cZ : ClassId} {t9 : Nat} {k : Bool} {p : Program} {e : Env} {s : State} {m : MethodId} {args : Array Value} {below : List Frame} {meth : Method} {c : Code} (h : lh_HS)  {r : Int32} (B : lh_BK p (lh_rm 0) s m args meth c D ad bs cI cZ t9 k "LightHours$Rooms" cX4_countReadings 3 (some .int)) {N : Nat} (hN : h 2 0 * 10 = nI N) (hM : N ≤ 40) :
    ∀ (n i : Nat) (acc : Int32), i + n = N → r = LX4_countReadings h n i acc → lh_AJ p l e (lh_rm 0) s m args below meth c D ad bs cI cZ k 3 (MQ below (lh_Qi D ad bs cI cZ k r h) args s 0 0 (lh_A bs)) 4 [(0, .ref (ad 2)), (1, .int acc), (2, .int (nI i))] [] h := by
  intro n
  induction n with
  | zero =>
    intro i acc hi hr
    have hexit : h 2 0 * 10 ≤ nI i := by rw [hN]; exact nI_le (by omega) (by omega)
    refine la_iload_n (i := 2) B dX4_countReadings_4 rfl rfl ?_
    refine la_aload_n (i := 0) B dX4_countReadings_5 rfl rfl ?_
    refine la_get (i := 2) (ci := 4) (j := 0) (v := .int (h 2 0)) (C := RX4) (T := TX4) (N := 3) B (lh_nc_lt (by decide)) rfl ix_4 rfl (by decide) wd_67 rfl rfl dX4_countReadings_6 ?_
    refine la_bipush (v := 10) B dX4_countReadings_9 (by decide) ?_
    refine la_imul B dX4_countReadings_11 ?_
    refine la_icmp_ge (tgt := 34) B dX4_countReadings_12 (by decide) (fun c12 => ?_) (fun c12 => ?_)
    · refine la_iload_n (i := 1) B dX4_countReadings_34 rfl rfl ?_
      exact la_ireturn B rfl (by rw [hr]; simp only [LX4_countReadings]) rfl dX4_countReadings_35
    · exact absurd hexit c12
  | succ n ih =>
    intro i acc hi hr
    have hcont : ¬ h 2 0 * 10 ≤ nI i := by rw [hN]; exact nI_ge (by omega) (by omega)
    have hb : vp_in (nI i) 40 := vp_in_nI (by omega) (by omega)
    refine la_iload_n (i := 2) B dX4_countReadings_4 rfl rfl ?_
    refine la_aload_n (i := 0) B dX4_countReadings_5 rfl rfl ?_
    refine la_get (i := 2) (ci := 4) (j := 0) (v := .int (h 2 0)) (C := RX4) (T := TX4) (N := 3) B (lh_nc_lt (by decide)) rfl ix_4 rfl (by decide) wd_67 rfl rfl dX4_countReadings_6 ?_
    refine la_bipush (v := 10) B dX4_countReadings_9 (by decide) ?_
    refine la_imul B dX4_countReadings_11 ?_
    refine la_icmp_ge (tgt := 34) B dX4_countReadings_12 (by decide) (fun c12 => ?_) (fun c12 => ?_)
    · exact absurd c12 hcont
    · refine la_aload_n (i := 0) B dX4_countReadings_15 rfl rfl ?_
      refine la_get (i := 2) (ci := 4) (j := 2) (C := RX4) (T := TX4) (N := 3) B (lh_nc_lt (by decide)) rfl ix_4 rfl (by decide) wd_71 rfl rfl dX4_countReadings_16 ?_
      refine la_iload_n (i := 2) B dX4_countReadings_19 rfl rfl ?_
      refine la_iald (i := 8) (v := h 8 (nI i).toNatClampNeg) B (lh_nc_lt (by decide)) rfl hb rfl dX4_countReadings_20 ?_
      refine la_iconst (v := -1) B dX4_countReadings_21 (by decide) ?_
      refine la_icmp_eq (tgt := 28) B dX4_countReadings_22 (by decide) (fun c22 => ?_) (fun c22 => ?_)
      · refine la_iincp B dX4_countReadings_28 rfl (by decide) ?_
        refine la_goto (tgt := 4) B dX4_countReadings_31 (by decide) ?_
        refine la_sub (lv2 := [(0, .ref (ad 2)), (1, .int acc), (2, .int (nI (i + 1)))]) ⟨rfl, rfl, (congrArg (fun z => some (Value.int z)) (nI_1 i)), trivial⟩ (by simp [Value.category]) ?_
        exact ih (i + 1) acc (by omega) (by rw [hr]; simp only [LX4_countReadings, if_pos c22])
      · refine la_iincp B dX4_countReadings_25 rfl (by decide) ?_
        refine la_iincp B dX4_countReadings_28 rfl (by decide) ?_
        refine la_goto (tgt := 4) B dX4_countReadings_31 (by decide) ?_
        refine la_sub (lv2 := [(0, .ref (ad 2)), (1, .int ((acc + 1))), (2, .int (nI (i + 1)))]) ⟨rfl, rfl, (congrArg (fun z => some (Value.int z)) (nI_1 i)), trivial⟩ (by simp [Value.category]) ?_
        exact ih (i + 1) (acc + 1) (by omega) (by rw [hr]; simp only [LX4_countReadings, if_neg c22])

def fX4_countReadings (h : lh_HS)  : Int32 := (LX4_countReadings h (lh_N h 2 * 10) 0 0)
set_option maxHeartbeats 4000000 in
set_option maxRecDepth 100000 in
theorem ct_X4_countReadings {l : Launch} {D : va_G} {ad : Nat → Nat} {bs : Nat} {cI cZ : ClassId} {t9 : Nat} {k : Bool} (h : lh_HS)  (hN : h 2 0 * 10 = nI (lh_N h 2 * 10)) (hM : lh_N h 2 * 10 ≤ 40) : lh_CTi l D ad bs cI cZ t9 k yX4_countReadings cX4_countReadings 3 (some .int) 0 [.ref (ad 2)] h (fX4_countReadings h ) h := by
  refine lh_ofi (lv := [(0, .ref (ad 2))]) (by decide) (Nat.le_of_ble_eq_true rfl) rfl (by simp [Value.category]) ⟨rfl, trivial⟩ ?_
  intro p e s m args below meth c B
  have B : lh_BK p (lh_rm 0) s m args meth c D ad bs cI cZ t9 k "LightHours$Rooms" cX4_countReadings 3 (some .int) := B
  refine la_iconst (v := 0) B dX4_countReadings_0 (by decide) ?_
  refine la_istore_n (i := 1) B dX4_countReadings_1 rfl (by decide) ?_
  refine la_iconst (v := 0) B dX4_countReadings_2 (by decide) ?_
  refine la_istore_n (i := 2) B dX4_countReadings_3 rfl (by decide) ?_
  refine la_sub (lv2 := [(0, .ref (ad 2)), (1, .int 0), (2, .int (nI 0))]) ⟨rfl, rfl, rfl, trivial⟩ (by simp [Value.category]) ?_
  exact lp_X4_countReadings h B hN hM _ 0 0 (Nat.zero_add _) (by simp only [fX4_countReadings])

def LX4_add (wo : Int32) : Nat → Nat → lh_HS → Int32
  | 0, i, h => ((h 2 0) + 1) - 1
  | n + 1, i, h => (LX4_add wo n (i + 1) (gX4_read h (h 2 0) (nI i) ((-1))))
def LX4_add_h (wo : Int32) : Nat → Nat → lh_HS → lh_HS
  | 0, i, h => lh_up h 2 0 ((h 2 0) + 1)
  | n + 1, i, h => (LX4_add_h wo n (i + 1) (gX4_read h (h 2 0) (nI i) ((-1))))
set_option maxHeartbeats 4000000 in
set_option maxRecDepth 100000 in
theorem lp_X4_add {l : Launch} {D : va_G} {ad : Nat → Nat} {bs : Nat} {cI cZ : ClassId} {t9 : Nat} {k : Bool} {p : Program} {e : Env} {s : State} {m : MethodId} {args : Array Value} {below : List Frame} {meth : Method} {c : Code} (wo : Int32) {r : Int32} {h2 : lh_HS} (B : lh_BK p (lh_rm 1) s m args meth c D ad bs cI cZ t9 k "LightHours$Rooms" cX4_add 3 (some .int)) {c0 : Int32} (hc : lh_ix c0 4) :
    ∀ (n i : Nat) (h : lh_HS), i + n = 10 → r = LX4_add wo n i h → h2 = LX4_add_h wo n i h → h 2 0 = c0 → lh_AJ p l e (lh_rm 1) s m args below meth c D ad bs cI cZ k 3 (MQ below (lh_Qi D ad bs cI cZ k r h2) args s 0 0 (lh_A bs)) 23 [(0, .ref (ad 2)), (1, .int wo), (2, .int (nI i))] [] h := by
  intro n
  induction n with
  | zero =>
    intro i h hi hr hh hv
    have hexit : (10 : Int32) ≤ nI i := nI_le (a := 10) (by omega) (by omega)
    refine la_iload_n (i := 2) B dX4_add_23 rfl rfl ?_
    refine la_bipush (v := 10) B dX4_add_24 (by decide) ?_
    refine la_icmp_ge (tgt := 45) B dX4_add_26 (by decide) (fun c26 => ?_) (fun c26 => ?_)
    · refine la_aload_n (i := 0) B dX4_add_45 rfl rfl ?_
      refine la_dup B dX4_add_46 rfl ?_
      refine la_get (i := 2) (ci := 4) (j := 0) (v := .int (h 2 0)) (C := RX4) (T := TX4) (N := 3) B (lh_nc_lt (by decide)) rfl ix_4 rfl (by decide) wd_67 rfl rfl dX4_add_47 ?_
      refine la_iconst (v := 1) B dX4_add_50 (by decide) ?_
      refine la_iadd B dX4_add_51 ?_
      refine la_put (i := 2) (ci := 4) (j := 0) (C := RX4) (T := TX4) (N := 3) (ty0 := tyX4) B (lh_nc_lt (by decide)) rfl rfl ix_4 tyX4_ok nmX4 rfl (by decide) wd_67 rfl rfl rfl rfl rfl (Nat.le_of_ble_eq_true rfl) dX4_add_52 ?_
      refine la_aload_n (i := 0) B dX4_add_55 rfl rfl ?_
      refine la_get (i := 2) (ci := 4) (j := 0) (v := .int ((h 2 0) + 1)) (C := RX4) (T := TX4) (N := 3) B (lh_nc_lt (by decide)) rfl ix_4 rfl (by decide) wd_67 rfl rfl dX4_add_56 ?_
      refine la_iconst (v := 1) B dX4_add_59 (by decide) ?_
      refine la_isub B dX4_add_60 ?_
      exact la_ireturn B rfl (by rw [hr]; simp only [LX4_add]) (by rw [hh]; simp only [LX4_add_h]) dX4_add_61
    · exact absurd hexit c26
  | succ n ih =>
    intro i h hi hr hh hv
    have hcont : ¬ (10 : Int32) ≤ nI i := nI_ge (b := 10) (by omega) (by omega)
    have hy : lh_ix (nI i) 10 := lh_ix_nI (by omega)
    refine la_iload_n (i := 2) B dX4_add_23 rfl rfl ?_
    refine la_bipush (v := 10) B dX4_add_24 (by decide) ?_
    refine la_icmp_ge (tgt := 45) B dX4_add_26 (by decide) (fun c26 => ?_) (fun c26 => ?_)
    · exact absurd c26 hcont
    · refine la_aload_n (i := 0) B dX4_add_29 rfl rfl ?_
      refine la_aload_n (i := 0) B dX4_add_30 rfl rfl ?_
      refine la_get (i := 2) (ci := 4) (j := 0) (v := .int (h 2 0)) (C := RX4) (T := TX4) (N := 3) B (lh_nc_lt (by decide)) rfl ix_4 rfl (by decide) wd_67 rfl rfl dX4_add_31 ?_
      refine la_iload_n (i := 2) B dX4_add_34 rfl rfl ?_
      refine la_iconst (v := -1) B dX4_add_35 (by decide) ?_
      refine la_callVv (i := 2) B (ct_X4_read h (h 2 0) (nI i) ((-1)) (lh_ix_ry (hv ▸ hc) hy)) lk_X4_22 (by decide) (lh_nc_lt (by decide)) rfl rfl rfl (by simp [Value.category]) dX4_add_36 ?_
      refine la_iincp B dX4_add_39 rfl (by decide) ?_
      refine la_goto (tgt := 23) B dX4_add_42 (by decide) ?_
      refine la_sub (lv2 := [(0, .ref (ad 2)), (1, .int wo), (2, .int (nI (i + 1)))]) ⟨rfl, rfl, (congrArg (fun z => some (Value.int z)) (nI_1 i)), trivial⟩ (by simp [Value.category]) ?_
      exact ih (i + 1) (gX4_read h (h 2 0) (nI i) ((-1))) (by omega) (by rw [hr]; simp only [LX4_add]) (by rw [hh]; simp only [LX4_add_h]) (by rw [← hv]; exact lh_up_ne (Or.inl (by decide)))

def fX4_add (h : lh_HS) (wo : Int32) : Int32 := (if (h 2 0) < 4 then (LX4_add wo 10 0 (lh_up h 7 ((h 2 0).toNatClampNeg) wo)) else (-2))
def gX4_add (h : lh_HS) (wo : Int32) : lh_HS := (if (h 2 0) < 4 then (LX4_add_h wo 10 0 (lh_up h 7 ((h 2 0).toNatClampNeg) wo)) else h)
set_option maxHeartbeats 4000000 in
set_option maxRecDepth 100000 in
theorem ct_X4_add {l : Launch} {D : va_G} {ad : Nat → Nat} {bs : Nat} {cI cZ : ClassId} {t9 : Nat} {k : Bool} (h : lh_HS) (wo : Int32) (hc : lh_ix (h 2 0) 4) : lh_CTi l D ad bs cI cZ t9 k yX4_add cX4_add 3 (some .int) 1 [.ref (ad 2), .int wo] h (fX4_add h wo) (gX4_add h wo) := by
  refine lh_ofi (lv := [(0, .ref (ad 2)), (1, .int wo)]) (by decide) (Nat.le_of_ble_eq_true rfl) rfl (by simp [Value.category]) ⟨rfl, rfl, trivial⟩ ?_
  intro p e s m args below meth c B
  have B : lh_BK p (lh_rm 1) s m args meth c D ad bs cI cZ t9 k "LightHours$Rooms" cX4_add 3 (some .int) := B
  have hb : vp_in (h 2 0) 4 := hc.vp (Nat.le_refl _) (by omega)
  refine la_aload_n (i := 0) B dX4_add_0 rfl rfl ?_
  refine la_get (i := 2) (ci := 4) (j := 0) (v := .int (h 2 0)) (C := RX4) (T := TX4) (N := 3) B (lh_nc_lt (by decide)) rfl ix_4 rfl (by decide) wd_67 rfl rfl dX4_add_1 ?_
  refine la_iconst (v := 4) B dX4_add_4 (by decide) ?_
  refine la_icmp_lt (tgt := 11) B dX4_add_5 (by decide) (fun c5 => ?_) (fun c5 => ?_)
  · refine la_aload_n (i := 0) B dX4_add_11 rfl rfl ?_
    refine la_get (i := 2) (ci := 4) (j := 1) (C := RX4) (T := TX4) (N := 3) B (lh_nc_lt (by decide)) rfl ix_4 rfl (by decide) wd_69 rfl rfl dX4_add_12 ?_
    refine la_aload_n (i := 0) B dX4_add_15 rfl rfl ?_
    refine la_get (i := 2) (ci := 4) (j := 0) (v := .int (h 2 0)) (C := RX4) (T := TX4) (N := 3) B (lh_nc_lt (by decide)) rfl ix_4 rfl (by decide) wd_67 rfl rfl dX4_add_16 ?_
    refine la_iload_n (i := 1) B dX4_add_19 rfl rfl ?_
    refine la_iast (i := 7) (j := (h 2 0).toNatClampNeg) B (lh_nc_lt (by decide)) rfl rfl hb rfl dX4_add_20 ?_
    refine la_iconst (v := 0) B dX4_add_21 (by decide) ?_
    refine la_istore_n (i := 2) B dX4_add_22 rfl (by decide) ?_
    refine la_sub (lv2 := [(0, .ref (ad 2)), (1, .int wo), (2, .int (nI 0))]) ⟨rfl, rfl, rfl, trivial⟩ (by simp [Value.category]) ?_
    exact lp_X4_add wo B hc _ 0 (lh_up h 7 ((h 2 0).toNatClampNeg) wo) (Nat.zero_add _) (by simp only [fX4_add, if_pos c5]) (by simp only [gX4_add, if_pos c5]) (lh_up_ne (Or.inl (by decide)))
  · refine la_bipush (v := -2) B dX4_add_8 (by decide) ?_
    exact la_ireturn B rfl (by simp only [fX4_add, if_neg c5]) (by simp only [gX4_add, if_neg c5]) dX4_add_10
