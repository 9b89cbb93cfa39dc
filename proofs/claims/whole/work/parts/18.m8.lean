def fX9_in (h : lh_HS) (n1 : Int32) (a : Int32) (b : Int32) : Int32 := (if n1 < a then 0 else (if b < n1 then 0 else 1))
set_option maxHeartbeats 4000000 in
set_option maxRecDepth 100000 in
theorem ct_X9_in {l : Launch} {D : va_G} {ad : Nat → Nat} {bs : Nat} {cI cZ : ClassId} {t9 : Nat} {k : Bool} (h : lh_HS) (n1 : Int32) (a : Int32) (b : Int32)  : lh_CTi l D ad bs cI cZ t9 k yX9_in cX9_in 3 (some .boolean) 0 [.int n1, .int a, .int b] h (fX9_in h n1 a b) h := by
  refine lh_ofi (lv := [(0, .int n1), (1, .int a), (2, .int b)]) (by decide) (Nat.le_of_ble_eq_true rfl) rfl (by simp [Value.category]) ⟨rfl, rfl, rfl, trivial⟩ ?_
  intro p e s m args below meth c B
  have B : lh_BK p (lh_rm 0) s m args meth c D ad bs cI cZ t9 k "LightHoursModel" cX9_in 3 (some .boolean) := B
  refine la_iload_n (i := 0) B dX9_in_0 rfl rfl ?_
  refine la_iload_n (i := 1) B dX9_in_1 rfl rfl ?_
  refine la_icmp_lt (tgt := 14) B dX9_in_2 (by decide) (fun c2 => ?_) (fun c2 => ?_)
  · refine la_iconst (v := 0) B dX9_in_14 (by decide) ?_
    exact la_zreturn B rfl (by simp only [fX9_in, if_pos c2]) rfl rfl dX9_in_15
  · refine la_iload_n (i := 0) B dX9_in_5 rfl rfl ?_
    refine la_iload_n (i := 2) B dX9_in_6 rfl rfl ?_
    refine la_icmp_gt (tgt := 14) B dX9_in_7 (by decide) (fun c7 => ?_) (fun c7 => ?_)
    · refine la_iconst (v := 0) B dX9_in_14 (by decide) ?_
      exact la_zreturn B rfl (by simp only [fX9_in, if_neg c2, if_pos c7]) rfl rfl dX9_in_15
    · refine la_iconst (v := 1) B dX9_in_10 (by decide) ?_
      refine la_goto (tgt := 15) B dX9_in_11 (by decide) ?_
      exact la_zreturn B rfl (by simp only [fX9_in, if_neg c2, if_neg c7]) rfl rfl dX9_in_15

theorem bX9_in (h : lh_HS) (n a b : Int32) : fX9_in h n a b = 0 ∨ fX9_in h n a b = 1 := by
  unfold fX9_in
  split
  · exact Or.inl rfl
  · split
    · exact Or.inl rfl
    · exact Or.inr rfl
def fX9_is (h : lh_HS) (kd : Int32) (n1 : Int32) : Int32 := fX9_in h n1 0 ((h 38 kd.toNatClampNeg) - 1)
set_option maxHeartbeats 4000000 in
set_option maxRecDepth 100000 in
theorem ct_X9_is {l : Launch} {D : va_G} {ad : Nat → Nat} {bs : Nat} {cI cZ : ClassId} {t9 : Nat} {k : Bool} (h : lh_HS) (kd : Int32) (n1 : Int32) (hk5 : vp_in kd 5) : lh_CTi l D ad bs cI cZ t9 k yX9_is cX9_is 3 (some .boolean) 1 [.ref (ad 37), .int kd, .int n1] h (fX9_is h kd n1) h := by
  refine lh_ofi (lv := [(0, .ref (ad 37)), (1, .int kd), (2, .int n1)]) (by decide) (Nat.le_of_ble_eq_true rfl) rfl (by simp [Value.category]) ⟨rfl, rfl, rfl, trivial⟩ ?_
  intro p e s m args below meth c B
  have B : lh_BK p (lh_rm 1) s m args meth c D ad bs cI cZ t9 k "LightHoursModel" cX9_is 3 (some .boolean) := B
  refine la_iload_n (i := 2) B dX9_is_0 rfl rfl ?_
  refine la_iconst (v := 0) B dX9_is_1 (by decide) ?_
  refine la_aload_n (i := 0) B dX9_is_2 rfl rfl ?_
  refine la_get (i := 37) (ci := 9) (j := 0) (C := RX9) (T := TX9) (N := 18) B (lh_nc_lt (by decide)) rfl ix_9 rfl (by decide) wd_673 rfl rfl dX9_is_3 ?_
  refine la_iload_n (i := 1) B dX9_is_6 rfl rfl ?_
  refine la_iald (i := 38) (v := h 38 kd.toNatClampNeg) B (lh_nc_lt (by decide)) rfl hk5 rfl dX9_is_7 ?_
  refine la_iconst (v := 1) B dX9_is_8 (by decide) ?_
  refine la_isub B dX9_is_9 ?_
  refine la_callSi B (ct_X9_in h n1 0 ((h 38 kd.toNatClampNeg) - 1)) lk_X9_47 (by decide) rfl (by simp [Value.category]) dX9_is_10 ?_
  exact la_zreturn B rfl (by simp only [fX9_is]) rfl (lh_nar (bX9_in _ _ _ _)) dX9_is_13

def fX9_isYear (h : lh_HS) (n1 : Int32) : Int32 := fX9_in h n1 0 9
set_option maxHeartbeats 4000000 in
set_option maxRecDepth 100000 in
theorem ct_X9_isYear {l : Launch} {D : va_G} {ad : Nat → Nat} {bs : Nat} {cI cZ : ClassId} {t9 : Nat} {k : Bool} (h : lh_HS) (n1 : Int32)  : lh_CTi l D ad bs cI cZ t9 k yX9_isYear cX9_isYear 1 (some .boolean) 1 [.int n1] h (fX9_isYear h n1) h := by
  refine lh_ofi (lv := [(0, .int n1)]) (by decide) (Nat.le_of_ble_eq_true rfl) rfl (by simp [Value.category]) ⟨rfl, trivial⟩ ?_
  intro p e s m args below meth c B
  have B : lh_BK p (lh_rm 1) s m args meth c D ad bs cI cZ t9 k "LightHoursModel" cX9_isYear 1 (some .boolean) := B
  refine la_iload_n (i := 0) B dX9_isYear_0 rfl rfl ?_
  refine la_iconst (v := 0) B dX9_isYear_1 (by decide) ?_
  refine la_bipush (v := 9) B dX9_isYear_2 (by decide) ?_
  refine la_callSi B (ct_X9_in h n1 0 9) lk_X9_47 (by decide) rfl (by simp [Value.category]) dX9_isYear_4 ?_
  exact la_zreturn B rfl (by simp only [fX9_isYear]) rfl (lh_nar (bX9_in _ _ _ _)) dX9_isYear_7

def fX9_came (h : lh_HS) (kd : Int32) : Int32 := ((lh_up h 38 kd.toNatClampNeg (((h 38 kd.toNatClampNeg) + 1))) 38 kd.toNatClampNeg) - 1
def gX9_came (h : lh_HS) (kd : Int32) : lh_HS := lh_up h 38 kd.toNatClampNeg (((h 38 kd.toNatClampNeg) + 1))
set_option maxHeartbeats 4000000 in
set_option maxRecDepth 100000 in
theorem ct_X9_came {l : Launch} {D : va_G} {ad : Nat → Nat} {bs : Nat} {cI cZ : ClassId} {t9 : Nat} {k : Bool} (h : lh_HS) (kd : Int32) (hk5 : vp_in kd 5) : lh_CTi l D ad bs cI cZ t9 k yX9_came cX9_came 2 (some .int) 0 [.ref (ad 37), .int kd] h (fX9_came h kd) (gX9_came h kd) := by
  refine lh_ofi (lv := [(0, .ref (ad 37)), (1, .int kd)]) (by decide) (Nat.le_of_ble_eq_true rfl) rfl (by simp [Value.category]) ⟨rfl, rfl, trivial⟩ ?_
  intro p e s m args below meth c B
  have B : lh_BK p (lh_rm 0) s m args meth c D ad bs cI cZ t9 k "LightHoursModel" cX9_came 2 (some .int) := B
  refine la_aload_n (i := 0) B dX9_came_0 rfl rfl ?_
  refine la_get (i := 37) (ci := 9) (j := 0) (C := RX9) (T := TX9) (N := 18) B (lh_nc_lt (by decide)) rfl ix_9 rfl (by decide) wd_673 rfl rfl dX9_came_1 ?_
  refine la_iload_n (i := 1) B dX9_came_4 rfl rfl ?_
  refine la_dup2 B dX9_came_5 rfl rfl ?_
  refine la_iald (i := 38) (v := h 38 kd.toNatClampNeg) B (lh_nc_lt (by decide)) rfl hk5 rfl dX9_came_6 ?_
  refine la_iconst (v := 1) B dX9_came_7 (by decide) ?_
  refine la_iadd B dX9_came_8 ?_
  refine la_iast (i := 38) (j := kd.toNatClampNeg) B (lh_nc_lt (by decide)) rfl rfl hk5 rfl dX9_came_9 ?_
  refine la_aload_n (i := 0) B dX9_came_10 rfl rfl ?_
  refine la_get (i := 37) (ci := 9) (j := 0) (C := RX9) (T := TX9) (N := 18) B (lh_nc_lt (by decide)) rfl ix_9 rfl (by decide) wd_673 rfl rfl dX9_came_11 ?_
  refine la_iload_n (i := 1) B dX9_came_14 rfl rfl ?_
  refine la_iald (i := 38) (v := (lh_up h 38 kd.toNatClampNeg (((h 38 kd.toNatClampNeg) + 1))) 38 kd.toNatClampNeg) B (lh_nc_lt (by decide)) rfl hk5 rfl dX9_came_15 ?_
  refine la_iconst (v := 1) B dX9_came_16 (by decide) ?_
  refine la_isub B dX9_came_17 ?_
  exact la_ireturn B rfl (by simp only [fX9_came]) (by simp only [gX9_came]) dX9_came_18

def fX9_lightOf (h : lh_HS) (rn : Int32) (yr : Int32) (gr : Int32) : Int32 := (if (h 40 ((10 * rn) + yr).toNatClampNeg) < 0 then (if gr = 0 then 0 else h 39 rn.toNatClampNeg) else h 40 ((10 * rn) + yr).toNatClampNeg)
set_option maxHeartbeats 4000000 in
set_option maxRecDepth 100000 in
theorem ct_X9_lightOf {l : Launch} {D : va_G} {ad : Nat → Nat} {bs : Nat} {cI cZ : ClassId} {t9 : Nat} {k : Bool} (h : lh_HS) (rn : Int32) (yr : Int32) (gr : Int32) (hr : lh_ix rn 4) (hy : lh_ix yr 10) : lh_CTi l D ad bs cI cZ t9 k yX9_lightOf cX9_lightOf 5 (some .int) 0 [.ref (ad 37), .int rn, .int yr, .int gr] h (fX9_lightOf h rn yr gr) h := by
  refine lh_ofi (lv := [(0, .ref (ad 37)), (1, .int rn), (2, .int yr), (3, .int gr)]) (by decide) (Nat.le_of_ble_eq_true rfl) rfl (by simp [Value.category]) ⟨rfl, rfl, rfl, rfl, trivial⟩ ?_
  intro p e s m args below meth c B
  have B : lh_BK p (lh_rm 0) s m args meth c D ad bs cI cZ t9 k "LightHoursModel" cX9_lightOf 5 (some .int) := B
  refine la_aload_n (i := 0) B dX9_lightOf_0 rfl rfl ?_
  refine la_get (i := 37) (ci := 9) (j := 2) (C := RX9) (T := TX9) (N := 18) B (lh_nc_lt (by decide)) rfl ix_9 rfl (by decide) wd_675 rfl rfl dX9_lightOf_1 ?_
  refine la_bipush (v := 10) B dX9_lightOf_4 (by decide) ?_
  refine la_iload_n (i := 1) B dX9_lightOf_6 rfl rfl ?_
  refine la_imul B dX9_lightOf_7 ?_
  refine la_iload_n (i := 2) B dX9_lightOf_8 rfl rfl ?_
  refine la_iadd B dX9_lightOf_9 ?_
  refine la_iald (i := 40) (v := h 40 ((10 * rn) + yr).toNatClampNeg) B (lh_nc_lt (by decide)) rfl (lh_lin2 hr hy) rfl dX9_lightOf_10 ?_
  refine la_istore B dX9_lightOf_11 (by decide) ?_
  refine la_iload B dX9_lightOf_13 rfl ?_
  refine la_if_lt (tgt := 23) B dX9_lightOf_15 (by decide) (fun c15 => ?_) (fun c15 => ?_)
  · refine la_iload_n (i := 3) B dX9_lightOf_23 rfl rfl ?_
    refine la_if_eq (tgt := 36) B dX9_lightOf_24 (by decide) (fun c24 => ?_) (fun c24 => ?_)
    · refine la_iconst (v := 0) B dX9_lightOf_36 (by decide) ?_
      exact la_ireturn B rfl (by simp only [fX9_lightOf, if_pos c15, if_pos c24]) rfl dX9_lightOf_37
    · refine la_aload_n (i := 0) B dX9_lightOf_27 rfl rfl ?_
      refine la_get (i := 37) (ci := 9) (j := 1) (C := RX9) (T := TX9) (N := 18) B (lh_nc_lt (by decide)) rfl ix_9 rfl (by decide) wd_674 rfl rfl dX9_lightOf_28 ?_
      refine la_iload_n (i := 1) B dX9_lightOf_31 rfl rfl ?_
      refine la_iald (i := 39) (v := h 39 rn.toNatClampNeg) B (lh_nc_lt (by decide)) rfl (hr.vp (by decide) (by decide)) rfl dX9_lightOf_32 ?_
      refine la_goto (tgt := 37) B dX9_lightOf_33 (by decide) ?_
      exact la_ireturn B rfl (by simp only [fX9_lightOf, if_pos c15, if_neg c24]) rfl dX9_lightOf_37
  · refine la_iload B dX9_lightOf_18 rfl ?_
    refine la_goto (tgt := 37) B dX9_lightOf_20 (by decide) ?_
    exact la_ireturn B rfl (by simp only [fX9_lightOf, if_neg c15]) rfl dX9_lightOf_37

def fX9_sisterOf (h : lh_HS) (sn : Int32) : Int32 := h 41 ((7 * sn) + 4).toNatClampNeg
set_option maxHeartbeats 4000000 in
set_option maxRecDepth 100000 in
theorem ct_X9_sisterOf {l : Launch} {D : va_G} {ad : Nat → Nat} {bs : Nat} {cI cZ : ClassId} {t9 : Nat} {k : Bool} (h : lh_HS) (sn : Int32) (hs : lh_ix sn 8) : lh_CTi l D ad bs cI cZ t9 k yX9_sisterOf cX9_sisterOf 2 (some .int) 0 [.ref (ad 37), .int sn] h (fX9_sisterOf h sn) h := by
  refine lh_ofi (lv := [(0, .ref (ad 37)), (1, .int sn)]) (by decide) (Nat.le_of_ble_eq_true rfl) rfl (by simp [Value.category]) ⟨rfl, rfl, trivial⟩ ?_
  intro p e s m args below meth c B
  have B : lh_BK p (lh_rm 0) s m args meth c D ad bs cI cZ t9 k "LightHoursModel" cX9_sisterOf 2 (some .int) := B
  refine la_aload_n (i := 0) B dX9_sisterOf_0 rfl rfl ?_
  refine la_get (i := 37) (ci := 9) (j := 3) (C := RX9) (T := TX9) (N := 18) B (lh_nc_lt (by decide)) rfl ix_9 rfl (by decide) wd_676 rfl rfl dX9_sisterOf_1 ?_
  refine la_bipush (v := 7) B dX9_sisterOf_4 (by decide) ?_
  refine la_iload_n (i := 1) B dX9_sisterOf_6 rfl rfl ?_
  refine la_imul B dX9_sisterOf_7 ?_
  refine la_iconst (v := 4) B dX9_sisterOf_8 (by decide) ?_
  refine la_iadd B dX9_sisterOf_9 ?_
  refine la_iald (i := 41) (v := h 41 ((7 * sn) + 4).toNatClampNeg) B (lh_nc_lt (by decide)) rfl (lh_lin 7 4 hs (by decide) (by decide)) rfl dX9_sisterOf_10 ?_
  exact la_ireturn B rfl (by simp only [fX9_sisterOf]) rfl dX9_sisterOf_11

def fX9_isHere (h : lh_HS) (bn : Int32) (sn : Int32) : Int32 := (if (h 42 (5 * bn).toNatClampNeg) = sn then (if (h 42 ((5 * bn) + 4).toNatClampNeg) = 0 then 1 else 0) else 0)
set_option maxHeartbeats 4000000 in
set_option maxRecDepth 100000 in
theorem ct_X9_isHere {l : Launch} {D : va_G} {ad : Nat → Nat} {bs : Nat} {cI cZ : ClassId} {t9 : Nat} {k : Bool} (h : lh_HS) (bn : Int32) (sn : Int32) (hb : lh_ix bn 30) : lh_CTi l D ad bs cI cZ t9 k yX9_isHere cX9_isHere 3 (some .boolean) 0 [.ref (ad 37), .int bn, .int sn] h (fX9_isHere h bn sn) h := by
  refine lh_ofi (lv := [(0, .ref (ad 37)), (1, .int bn), (2, .int sn)]) (by decide) (Nat.le_of_ble_eq_true rfl) rfl (by simp [Value.category]) ⟨rfl, rfl, rfl, trivial⟩ ?_
  intro p e s m args below meth c B
  have B : lh_BK p (lh_rm 0) s m args meth c D ad bs cI cZ t9 k "LightHoursModel" cX9_isHere 3 (some .boolean) := B
  refine la_aload_n (i := 0) B dX9_isHere_0 rfl rfl ?_
  refine la_get (i := 37) (ci := 9) (j := 4) (C := RX9) (T := TX9) (N := 18) B (lh_nc_lt (by decide)) rfl ix_9 rfl (by decide) wd_677 rfl rfl dX9_isHere_1 ?_
  refine la_iconst (v := 5) B dX9_isHere_4 (by decide) ?_
  refine la_iload_n (i := 1) B dX9_isHere_5 rfl rfl ?_
  refine la_imul B dX9_isHere_6 ?_
  refine la_iald (i := 42) (v := h 42 (5 * bn).toNatClampNeg) B (lh_nc_lt (by decide)) rfl (lh_lin0 5 hb (by decide) (by decide)) rfl dX9_isHere_7 ?_
  refine la_iload_n (i := 2) B dX9_isHere_8 rfl rfl ?_
  refine la_icmp_ne (tgt := 29) B dX9_isHere_9 (by decide) (fun c9 => ?_) (fun c9 => ?_)
  · refine la_iconst (v := 0) B dX9_isHere_29 (by decide) ?_
    exact la_zreturn B rfl (by simp only [fX9_isHere, if_neg c9]) rfl rfl dX9_isHere_30
  · refine la_aload_n (i := 0) B dX9_isHere_12 rfl rfl ?_
    refine la_get (i := 37) (ci := 9) (j := 4) (C := RX9) (T := TX9) (N := 18) B (lh_nc_lt (by decide)) rfl ix_9 rfl (by decide) wd_677 rfl rfl dX9_isHere_13 ?_
    refine la_iconst (v := 5) B dX9_isHere_16 (by decide) ?_
    refine la_iload_n (i := 1) B dX9_isHere_17 rfl rfl ?_
    refine la_imul B dX9_isHere_18 ?_
    refine la_iconst (v := 4) B dX9_isHere_19 (by decide) ?_
    refine la_iadd B dX9_isHere_20 ?_
    refine la_iald (i := 42) (v := h 42 ((5 * bn) + 4).toNatClampNeg) B (lh_nc_lt (by decide)) rfl (lh_lin 5 4 hb (by decide) (by decide)) rfl dX9_isHere_21 ?_
    refine la_if_ne (tgt := 29) B dX9_isHere_22 (by decide) (fun c22 => ?_) (fun c22 => ?_)
    · refine la_iconst (v := 0) B dX9_isHere_29 (by decide) ?_
      exact la_zreturn B rfl (by simp only [fX9_isHere, if_pos c9, if_neg c22]) rfl rfl dX9_isHere_30
    · refine la_iconst (v := 1) B dX9_isHere_25 (by decide) ?_
      refine la_goto (tgt := 30) B dX9_isHere_26 (by decide) ?_
      exact la_zreturn B rfl (by simp only [fX9_isHere, if_pos c9, if_pos c22]) rfl rfl dX9_isHere_30

def fX9_spends (h : lh_HS) (bn : Int32) (gr : Int32) : Int32 := (if 0 ≤ (h 42 ((5 * bn) + 1).toNatClampNeg) then fX9_lightOf h (h 42 ((5 * bn) + 1).toNatClampNeg) (h 42 ((5 * bn) + 2).toNatClampNeg) gr else h 42 ((5 * bn) + 3).toNatClampNeg)
set_option maxHeartbeats 4000000 in
set_option maxRecDepth 100000 in
theorem ct_X9_spends {l : Launch} {D : va_G} {ad : Nat → Nat} {bs : Nat} {cI cZ : ClassId} {t9 : Nat} {k : Bool} (h : lh_HS) (bn : Int32) (gr : Int32) (hb : lh_ix bn 30) (hsp : 0 ≤ h 42 ((5 * bn) + 1).toNatClampNeg → lh_ix (h 42 ((5 * bn) + 1).toNatClampNeg) 4 ∧ lh_ix (h 42 ((5 * bn) + 2).toNatClampNeg) 10) : lh_CTi l D ad bs cI cZ t9 k yX9_spends cX9_spends 4 (some .int) 1 [.ref (ad 37), .int bn, .int gr] h (fX9_spends h bn gr) h := by
  refine lh_ofi (lv := [(0, .ref (ad 37)), (1, .int bn), (2, .int gr)]) (by decide) (Nat.le_of_ble_eq_true rfl) rfl (by simp [Value.category]) ⟨rfl, rfl, rfl, trivial⟩ ?_
  intro p e s m args below meth c B
  have B : lh_BK p (lh_rm 1) s m args meth c D ad bs cI cZ t9 k "LightHoursModel" cX9_spends 4 (some .int) := B
  refine la_aload_n (i := 0) B dX9_spends_0 rfl rfl ?_
  refine la_get (i := 37) (ci := 9) (j := 4) (C := RX9) (T := TX9) (N := 18) B (lh_nc_lt (by decide)) rfl ix_9 rfl (by decide) wd_677 rfl rfl dX9_spends_1 ?_
  refine la_iconst (v := 5) B dX9_spends_4 (by decide) ?_
  refine la_iload_n (i := 1) B dX9_spends_5 rfl rfl ?_
  refine la_imul B dX9_spends_6 ?_
  refine la_iconst (v := 1) B dX9_spends_7 (by decide) ?_
  refine la_iadd B dX9_spends_8 ?_
  refine la_iald (i := 42) (v := h 42 ((5 * bn) + 1).toNatClampNeg) B (lh_nc_lt (by decide)) rfl (lh_lin 5 1 hb (by decide) (by decide)) rfl dX9_spends_9 ?_
  refine la_istore_n (i := 3) B dX9_spends_10 rfl (by decide) ?_
  refine la_iload_n (i := 3) B dX9_spends_11 rfl rfl ?_
  refine la_if_ge (tgt := 28) B dX9_spends_12 (by decide) (fun c12 => ?_) (fun c12 => ?_)
  · refine la_aload_n (i := 0) B dX9_spends_28 rfl rfl ?_
    refine la_iload_n (i := 3) B dX9_spends_29 rfl rfl ?_
    refine la_aload_n (i := 0) B dX9_spends_30 rfl rfl ?_
    refine la_get (i := 37) (ci := 9) (j := 4) (C := RX9) (T := TX9) (N := 18) B (lh_nc_lt (by decide)) rfl ix_9 rfl (by decide) wd_677 rfl rfl dX9_spends_31 ?_
    refine la_iconst (v := 5) B dX9_spends_34 (by decide) ?_
    refine la_iload_n (i := 1) B dX9_spends_35 rfl rfl ?_
    refine la_imul B dX9_spends_36 ?_
    refine la_iconst (v := 2) B dX9_spends_37 (by decide) ?_
    refine la_iadd B dX9_spends_38 ?_
    refine la_iald (i := 42) (v := h 42 ((5 * bn) + 2).toNatClampNeg) B (lh_nc_lt (by decide)) rfl (lh_lin 5 2 hb (by decide) (by decide)) rfl dX9_spends_39 ?_
    refine la_iload_n (i := 2) B dX9_spends_40 rfl rfl ?_
    refine la_callVi (i := 37) B (ct_X9_lightOf h (h 42 ((5 * bn) + 1).toNatClampNeg) (h 42 ((5 * bn) + 2).toNatClampNeg) gr (hsp c12).1 (hsp c12).2) lk_X9_63 (by decide) (lh_nc_lt (by decide)) rfl rfl rfl (by simp [Value.category]) dX9_spends_41 ?_
    exact la_ireturn B rfl (by simp only [fX9_spends, if_pos c12]) rfl dX9_spends_44
  · refine la_aload_n (i := 0) B dX9_spends_15 rfl rfl ?_
    refine la_get (i := 37) (ci := 9) (j := 4) (C := RX9) (T := TX9) (N := 18) B (lh_nc_lt (by decide)) rfl ix_9 rfl (by decide) wd_677 rfl rfl dX9_spends_16 ?_
    refine la_iconst (v := 5) B dX9_spends_19 (by decide) ?_
    refine la_iload_n (i := 1) B dX9_spends_20 rfl rfl ?_
    refine la_imul B dX9_spends_21 ?_
    refine la_iconst (v := 3) B dX9_spends_22 (by decide) ?_
    refine la_iadd B dX9_spends_23 ?_
    refine la_iald (i := 42) (v := h 42 ((5 * bn) + 3).toNatClampNeg) B (lh_nc_lt (by decide)) rfl (lh_lin 5 3 hb (by decide) (by decide)) rfl dX9_spends_24 ?_
    refine la_goto (tgt := 44) B dX9_spends_25 (by decide) ?_
    exact la_ireturn B rfl (by simp only [fX9_spends, if_neg c12]) rfl dX9_spends_44

theorem lh_mspend {h : lh_HS} (J : lh_J h) {i : Nat} (hi : i < lh_m h 2) : 0 ≤ h 42 ((5 * nI i) + 1).toNatClampNeg → lh_ix (h 42 ((5 * nI i) + 1).toNatClampNeg) 4 ∧ lh_ix (h 42 ((5 * nI i) + 2).toNatClampNeg) 10 := by
  have hM := J.1.2.2.1.2
  obtain ⟨g1, g2⟩ := J.2.1 i hi
  have e1 : ((5 * nI i) + 1).toNatClampNeg = 5 * i + 1 := lh_at (k := 5) (c := 1) (by omega)
  have e2 : ((5 * nI i) + 2).toNatClampNeg = 5 * i + 2 := lh_at (k := 5) (c := 2) (by omega)
  rw [e1, e2]
  intro g
  rcases g1 with g1 | g1
  · exact absurd g (by rw [Int32.le_iff_toInt_le]; rw [Int32.lt_iff_toInt_lt] at g1; omega)
  · exact ⟨g1, g2⟩
def LX9_booked (h : lh_HS) (sn : Int32) (yr : Int32) (gr : Int32) : Nat → Nat → Int32 → Int32
  | 0, i, acc => acc
  | n + 1, i, acc => (if (fX9_isHere h (nI i) sn) = 0 then (LX9_booked h sn yr gr n (i + 1) (acc + 0)) else (if yr < (h 42 ((5 * (nI i)) + 2).toNatClampNeg) then (LX9_booked h sn yr gr n (i + 1) (acc + 0)) else (LX9_booked h sn yr gr n (i + 1) (acc + (fX9_spends h (nI i) gr)))))
set_option maxHeartbeats 4000000 in
set_option maxRecDepth 100000 in
theorem lp_X9_booked {l : Launch} {D : va_G} {ad : Nat → Nat} {bs : Nat} {cI cZ : ClassId} {t9 : Nat} {k : Bool} {p : Program} {e : Env} {s : State} {m : MethodId} {args : Array Value} {below : List Frame} {meth : Method} {c : Code} (h : lh_HS) (sn : Int32) (yr : Int32) (gr : Int32) {r : Int32} (B : lh_BK p (lh_rm 2) s m args meth c D ad bs cI cZ t9 k "LightHoursModel" cX9_booked 6 (some .int)) {N : Nat} (J : lh_J h) (hN0 : N = lh_m h 2) :
    ∀ (n i : Nat) (acc : Int32), i + n = N → r = LX9_booked h sn yr gr n i acc → lh_AJ p l e (lh_rm 2) s m args below meth c D ad bs cI cZ k 6 (MQ below (lh_Qi D ad bs cI cZ k r h) args s 0 0 (lh_A bs)) 6 [(0, .ref (ad 37)), (1, .int sn), (2, .int yr), (3, .int gr), (4, .int acc), (5, .int (nI i))] [] h := by
  intro n
  induction n with
  | zero =>
    intro i acc hi hr
    have hM := J.1.2.2.1.2
    have hN : h 38 2 = nI N := by rw [hN0]; exact J.1.2.2.1.1
    have hexit : h 38 2 ≤ nI i := by rw [hN]; exact nI_le (by omega) (by omega)
    refine la_iload B dX9_booked_6 rfl ?_
    refine la_aload_n (i := 0) B dX9_booked_8 rfl rfl ?_
    refine la_get (i := 37) (ci := 9) (j := 0) (C := RX9) (T := TX9) (N := 18) B (lh_nc_lt (by decide)) rfl ix_9 rfl (by decide) wd_673 rfl rfl dX9_booked_9 ?_
    refine la_iconst (v := 2) B dX9_booked_12 (by decide) ?_
    refine la_iald (i := 38) (v := h 38 2) B (lh_nc_lt (by decide)) rfl (by unfold vp_in; decide) rfl dX9_booked_13 ?_
    refine la_icmp_ge (tgt := 64) B dX9_booked_14 (by decide) (fun c14 => ?_) (fun c14 => ?_)
    · refine la_iload B dX9_booked_64 rfl ?_
      exact la_ireturn B rfl (by rw [hr]; simp only [LX9_booked]) rfl dX9_booked_66
    · exact absurd hexit c14
  | succ n ih =>
    intro i acc hi hr
    have hM := J.1.2.2.1.2
    have hN : h 38 2 = nI N := by rw [hN0]; exact J.1.2.2.1.1
    have hcont : ¬ h 38 2 ≤ nI i := by rw [hN]; exact nI_ge (by omega) (by omega)
    have hbi : lh_ix (nI i) 30 := lh_ix_nI (by omega)
    refine la_iload B dX9_booked_6 rfl ?_
    refine la_aload_n (i := 0) B dX9_booked_8 rfl rfl ?_
    refine la_get (i := 37) (ci := 9) (j := 0) (C := RX9) (T := TX9) (N := 18) B (lh_nc_lt (by decide)) rfl ix_9 rfl (by decide) wd_673 rfl rfl dX9_booked_9 ?_
    refine la_iconst (v := 2) B dX9_booked_12 (by decide) ?_
    refine la_iald (i := 38) (v := h 38 2) B (lh_nc_lt (by decide)) rfl (by unfold vp_in; decide) rfl dX9_booked_13 ?_
    refine la_icmp_ge (tgt := 64) B dX9_booked_14 (by decide) (fun c14 => ?_) (fun c14 => ?_)
    · exact absurd c14 hcont
    · refine la_iload B dX9_booked_17 rfl ?_
      refine la_aload_n (i := 0) B dX9_booked_19 rfl rfl ?_
      refine la_iload B dX9_booked_20 rfl ?_
      refine la_iload_n (i := 1) B dX9_booked_22 rfl rfl ?_
      refine la_callVi (i := 37) B (ct_X9_isHere h (nI i) sn hbi) lk_X9_70 (by decide) (lh_nc_lt (by decide)) rfl rfl rfl (by simp [Value.category]) dX9_booked_23 ?_
      refine la_if_eq (tgt := 54) B dX9_booked_26 (by decide) (fun c26 => ?_) (fun c26 => ?_)
      · refine la_iconst (v := 0) B dX9_booked_54 (by decide) ?_
        refine la_iadd B dX9_booked_55 ?_
        refine la_istore B dX9_booked_56 (by decide) ?_
        refine la_iincp B dX9_booked_58 rfl (by decide) ?_
        refine la_goto (tgt := 6) B dX9_booked_61 (by decide) ?_
        refine la_sub (lv2 := [(0, .ref (ad 37)), (1, .int sn), (2, .int yr), (3, .int gr), (4, .int ((acc + 0))), (5, .int (nI (i + 1)))]) ⟨rfl, rfl, rfl, rfl, rfl, (congrArg (fun z => some (Value.int z)) (nI_1 i)), trivial⟩ (by simp [Value.category]) ?_
        exact ih (i + 1) (acc + 0) (by omega) (by rw [hr]; simp only [LX9_booked, if_pos c26])
      · refine la_aload_n (i := 0) B dX9_booked_29 rfl rfl ?_
        refine la_get (i := 37) (ci := 9) (j := 4) (C := RX9) (T := TX9) (N := 18) B (lh_nc_lt (by decide)) rfl ix_9 rfl (by decide) wd_677 rfl rfl dX9_booked_30 ?_
        refine la_iconst (v := 5) B dX9_booked_33 (by decide) ?_
        refine la_iload B dX9_booked_34 rfl ?_
        refine la_imul B dX9_booked_36 ?_
        refine la_iconst (v := 2) B dX9_booked_37 (by decide) ?_
        refine la_iadd B dX9_booked_38 ?_
        refine la_iald (i := 42) (v := h 42 ((5 * (nI i)) + 2).toNatClampNeg) B (lh_nc_lt (by decide)) rfl (lh_lin 5 2 hbi (by decide) (by decide)) rfl dX9_booked_39 ?_
        refine la_iload_n (i := 2) B dX9_booked_40 rfl rfl ?_
        refine la_icmp_gt (tgt := 54) B dX9_booked_41 (by decide) (fun c41 => ?_) (fun c41 => ?_)
        · refine la_iconst (v := 0) B dX9_booked_54 (by decide) ?_
          refine la_iadd B dX9_booked_55 ?_
          refine la_istore B dX9_booked_56 (by decide) ?_
          refine la_iincp B dX9_booked_58 rfl (by decide) ?_
          refine la_goto (tgt := 6) B dX9_booked_61 (by decide) ?_
          refine la_sub (lv2 := [(0, .ref (ad 37)), (1, .int sn), (2, .int yr), (3, .int gr), (4, .int ((acc + 0))), (5, .int (nI (i + 1)))]) ⟨rfl, rfl, rfl, rfl, rfl, (congrArg (fun z => some (Value.int z)) (nI_1 i)), trivial⟩ (by simp [Value.category]) ?_
          exact ih (i + 1) (acc + 0) (by omega) (by rw [hr]; simp only [LX9_booked, if_neg c26, if_pos c41])
        · refine la_aload_n (i := 0) B dX9_booked_44 rfl rfl ?_
          refine la_iload B dX9_booked_45 rfl ?_
          refine la_iload_n (i := 3) B dX9_booked_47 rfl rfl ?_
          refine la_callVi (i := 37) B (ct_X9_spends h (nI i) gr hbi (lh_mspend J (by omega))) lk_X9_73 (by decide) (lh_nc_lt (by decide)) rfl rfl rfl (by simp [Value.category]) dX9_booked_48 ?_
          refine la_goto (tgt := 55) B dX9_booked_51 (by decide) ?_
          refine la_iadd B dX9_booked_55 ?_
          refine la_istore B dX9_booked_56 (by decide) ?_
          refine la_iincp B dX9_booked_58 rfl (by decide) ?_
          refine la_goto (tgt := 6) B dX9_booked_61 (by decide) ?_
          refine la_sub (lv2 := [(0, .ref (ad 37)), (1, .int sn), (2, .int yr), (3, .int gr), (4, .int ((acc + (fX9_spends h (nI i) gr)))), (5, .int (nI (i + 1)))]) ⟨rfl, rfl, rfl, rfl, rfl, (congrArg (fun z => some (Value.int z)) (nI_1 i)), trivial⟩ (by simp [Value.category]) ?_
          exact ih (i + 1) (acc + (fX9_spends h (nI i) gr)) (by omega) (by rw [hr]; simp only [LX9_booked, if_neg c26, if_neg c41])

def fX9_booked (h : lh_HS) (sn : Int32) (yr : Int32) (gr : Int32) : Int32 := (LX9_booked h sn yr gr (lh_m h 2) 0 0)
set_option maxHeartbeats 4000000 in
set_option maxRecDepth 100000 in
theorem ct_X9_booked {l : Launch} {D : va_G} {ad : Nat → Nat} {bs : Nat} {cI cZ : ClassId} {t9 : Nat} {k : Bool} (h : lh_HS) (sn : Int32) (yr : Int32) (gr : Int32) (J : lh_J h) : lh_CTi l D ad bs cI cZ t9 k yX9_booked cX9_booked 6 (some .int) 2 [.ref (ad 37), .int sn, .int yr, .int gr] h (fX9_booked h sn yr gr) h := by
  refine lh_ofi (lv := [(0, .ref (ad 37)), (1, .int sn), (2, .int yr), (3, .int gr)]) (by decide) (Nat.le_of_ble_eq_true rfl) rfl (by simp [Value.category]) ⟨rfl, rfl, rfl, rfl, trivial⟩ ?_
  intro p e s m args below meth c B
  have B : lh_BK p (lh_rm 2) s m args meth c D ad bs cI cZ t9 k "LightHoursModel" cX9_booked 6 (some .int) := B
  refine la_iconst (v := 0) B dX9_booked_0 (by decide) ?_
  refine la_istore B dX9_booked_1 (by decide) ?_
  refine la_iconst (v := 0) B dX9_booked_3 (by decide) ?_
  refine la_istore B dX9_booked_4 (by decide) ?_
  refine la_sub (lv2 := [(0, .ref (ad 37)), (1, .int sn), (2, .int yr), (3, .int gr), (4, .int 0), (5, .int (nI 0))]) ⟨rfl, rfl, rfl, rfl, rfl, rfl, trivial⟩ (by simp [Value.category]) ?_
  exact lp_X9_booked h sn yr gr B J rfl _ 0 0 (Nat.zero_add _) (by simp only [fX9_booked])

def LX9_bookedMany (h : lh_HS) (sn : Int32) : Nat → Nat → Int32 → Int32
  | 0, i, acc => acc
  | n + 1, i, acc => (if (fX9_isHere h (nI i) sn) = 0 then (LX9_bookedMany h sn n (i + 1) (acc + 0)) else (LX9_bookedMany h sn n (i + 1) (acc + 1)))
set_option maxHeartbeats 4000000 in
set_option maxRecDepth 100000 in
theorem lp_X9_bookedMany {l : Launch} {D : va_G} {ad : Nat → Nat} {bs : Nat} {cI cZ : ClassId} {t9 : Nat} {k : Bool} {p : Program} {e : Env} {s : State} {m : MethodId} {args : Array Value} {below : List Frame} {meth : Method} {c : Code} (h : lh_HS) (sn : Int32) {r : Int32} (B : lh_BK p (lh_rm 1) s m args meth c D ad bs cI cZ t9 k "LightHoursModel" cX9_bookedMany 4 (some .int)) {N : Nat} (J : lh_J h) (hN0 : N = lh_m h 2) :
    ∀ (n i : Nat) (acc : Int32), i + n = N → r = LX9_bookedMany h sn n i acc → lh_AJ p l e (lh_rm 1) s m args below meth c D ad bs cI cZ k 4 (MQ below (lh_Qi D ad bs cI cZ k r h) args s 0 0 (lh_A bs)) 4 [(0, .ref (ad 37)), (1, .int sn), (2, .int acc), (3, .int (nI i))] [] h := by
  intro n
  induction n with
  | zero =>
    intro i acc hi hr
    have hM := J.1.2.2.1.2
    have hN : h 38 2 = nI N := by rw [hN0]; exact J.1.2.2.1.1
    have hexit : h 38 2 ≤ nI i := by rw [hN]; exact nI_le (by omega) (by omega)
    refine la_iload_n (i := 3) B dX9_bookedMany_4 rfl rfl ?_
    refine la_aload_n (i := 0) B dX9_bookedMany_5 rfl rfl ?_
    refine la_get (i := 37) (ci := 9) (j := 0) (C := RX9) (T := TX9) (N := 18) B (lh_nc_lt (by decide)) rfl ix_9 rfl (by decide) wd_673 rfl rfl dX9_bookedMany_6 ?_
    refine la_iconst (v := 2) B dX9_bookedMany_9 (by decide) ?_
    refine la_iald (i := 38) (v := h 38 2) B (lh_nc_lt (by decide)) rfl (by unfold vp_in; decide) rfl dX9_bookedMany_10 ?_
    refine la_icmp_ge (tgt := 37) B dX9_bookedMany_11 (by decide) (fun c11 => ?_) (fun c11 => ?_)
    · refine la_iload_n (i := 2) B dX9_bookedMany_37 rfl rfl ?_
      exact la_ireturn B rfl (by rw [hr]; simp only [LX9_bookedMany]) rfl dX9_bookedMany_38
    · exact absurd hexit c11
  | succ n ih =>
    intro i acc hi hr
    have hM := J.1.2.2.1.2
    have hN : h 38 2 = nI N := by rw [hN0]; exact J.1.2.2.1.1
    have hcont : ¬ h 38 2 ≤ nI i := by rw [hN]; exact nI_ge (by omega) (by omega)
    have hbi : lh_ix (nI i) 30 := lh_ix_nI (by omega)
    refine la_iload_n (i := 3) B dX9_bookedMany_4 rfl rfl ?_
    refine la_aload_n (i := 0) B dX9_bookedMany_5 rfl rfl ?_
    refine la_get (i := 37) (ci := 9) (j := 0) (C := RX9) (T := TX9) (N := 18) B (lh_nc_lt (by decide)) rfl ix_9 rfl (by decide) wd_673 rfl rfl dX9_bookedMany_6 ?_
    refine la_iconst (v := 2) B dX9_bookedMany_9 (by decide) ?_
    refine la_iald (i := 38) (v := h 38 2) B (lh_nc_lt (by decide)) rfl (by unfold vp_in; decide) rfl dX9_bookedMany_10 ?_
    refine la_icmp_ge (tgt := 37) B dX9_bookedMany_11 (by decide) (fun c11 => ?_) (fun c11 => ?_)
    · exact absurd c11 hcont
    · refine la_iload_n (i := 2) B dX9_bookedMany_14 rfl rfl ?_
      refine la_aload_n (i := 0) B dX9_bookedMany_15 rfl rfl ?_
      refine la_iload_n (i := 3) B dX9_bookedMany_16 rfl rfl ?_
      refine la_iload_n (i := 1) B dX9_bookedMany_17 rfl rfl ?_
      refine la_callVi (i := 37) B (ct_X9_isHere h (nI i) sn hbi) lk_X9_70 (by decide) (lh_nc_lt (by decide)) rfl rfl rfl (by simp [Value.category]) dX9_bookedMany_18 ?_
      refine la_if_eq (tgt := 28) B dX9_bookedMany_21 (by decide) (fun c21 => ?_) (fun c21 => ?_)
      · refine la_iconst (v := 0) B dX9_bookedMany_28 (by decide) ?_
        refine la_iadd B dX9_bookedMany_29 ?_
        refine la_istore_n (i := 2) B dX9_bookedMany_30 rfl (by decide) ?_
        refine la_iincp B dX9_bookedMany_31 rfl (by decide) ?_
        refine la_goto (tgt := 4) B dX9_bookedMany_34 (by decide) ?_
        refine la_sub (lv2 := [(0, .ref (ad 37)), (1, .int sn), (2, .int ((acc + 0))), (3, .int (nI (i + 1)))]) ⟨rfl, rfl, rfl, (congrArg (fun z => some (Value.int z)) (nI_1 i)), trivial⟩ (by simp [Value.category]) ?_
        exact ih (i + 1) (acc + 0) (by omega) (by rw [hr]; simp only [LX9_bookedMany, if_pos c21])
      · refine la_iconst (v := 1) B dX9_bookedMany_24 (by decide) ?_
        refine la_goto (tgt := 29) B dX9_bookedMany_25 (by decide) ?_
        refine la_iadd B dX9_bookedMany_29 ?_
        refine la_istore_n (i := 2) B dX9_bookedMany_30 rfl (by decide) ?_
        refine la_iincp B dX9_bookedMany_31 rfl (by decide) ?_
        refine la_goto (tgt := 4) B dX9_bookedMany_34 (by decide) ?_
        refine la_sub (lv2 := [(0, .ref (ad 37)), (1, .int sn), (2, .int ((acc + 1))), (3, .int (nI (i + 1)))]) ⟨rfl, rfl, rfl, (congrArg (fun z => some (Value.int z)) (nI_1 i)), trivial⟩ (by simp [Value.category]) ?_
        exact ih (i + 1) (acc + 1) (by omega) (by rw [hr]; simp only [LX9_bookedMany, if_neg c21])

def fX9_bookedMany (h : lh_HS) (sn : Int32) : Int32 := (LX9_bookedMany h sn (lh_m h 2) 0 0)
set_option maxHeartbeats 4000000 in
set_option maxRecDepth 100000 in
theorem ct_X9_bookedMany {l : Launch} {D : va_G} {ad : Nat → Nat} {bs : Nat} {cI cZ : ClassId} {t9 : Nat} {k : Bool} (h : lh_HS) (sn : Int32) (J : lh_J h) : lh_CTi l D ad bs cI cZ t9 k yX9_bookedMany cX9_bookedMany 4 (some .int) 1 [.ref (ad 37), .int sn] h (fX9_bookedMany h sn) h := by
  refine lh_ofi (lv := [(0, .ref (ad 37)), (1, .int sn)]) (by decide) (Nat.le_of_ble_eq_true rfl) rfl (by simp [Value.category]) ⟨rfl, rfl, trivial⟩ ?_
  intro p e s m args below meth c B
  have B : lh_BK p (lh_rm 1) s m args meth c D ad bs cI cZ t9 k "LightHoursModel" cX9_bookedMany 4 (some .int) := B
  refine la_iconst (v := 0) B dX9_bookedMany_0 (by decide) ?_
  refine la_istore_n (i := 2) B dX9_bookedMany_1 rfl (by decide) ?_
  refine la_iconst (v := 0) B dX9_bookedMany_2 (by decide) ?_
  refine la_istore_n (i := 3) B dX9_bookedMany_3 rfl (by decide) ?_
  refine la_sub (lv2 := [(0, .ref (ad 37)), (1, .int sn), (2, .int 0), (3, .int (nI 0))]) ⟨rfl, rfl, rfl, rfl, trivial⟩ (by simp [Value.category]) ?_
  exact lp_X9_bookedMany h sn B J rfl _ 0 0 (Nat.zero_add _) (by simp only [fX9_bookedMany])

def LX9_threadMany (h : lh_HS) (sn : Int32) : Nat → Nat → Int32 → Int32
  | 0, i, acc => acc
  | n + 1, i, acc => (if (h 43 (3 * (nI i)).toNatClampNeg) = sn then (LX9_threadMany h sn n (i + 1) (acc + 1)) else (LX9_threadMany h sn n (i + 1) (acc + 0)))
set_option maxHeartbeats 4000000 in
set_option maxRecDepth 100000 in
theorem lp_X9_threadMany {l : Launch} {D : va_G} {ad : Nat → Nat} {bs : Nat} {cI cZ : ClassId} {t9 : Nat} {k : Bool} {p : Program} {e : Env} {s : State} {m : MethodId} {args : Array Value} {below : List Frame} {meth : Method} {c : Code} (h : lh_HS) (sn : Int32) {r : Int32} (B : lh_BK p (lh_rm 0) s m args meth c D ad bs cI cZ t9 k "LightHoursModel" cX9_threadMany 4 (some .int)) {N : Nat} (J : lh_J h) (hN0 : N = lh_m h 3) :
    ∀ (n i : Nat) (acc : Int32), i + n = N → r = LX9_threadMany h sn n i acc → lh_AJ p l e (lh_rm 0) s m args below meth c D ad bs cI cZ k 4 (MQ below (lh_Qi D ad bs cI cZ k r h) args s 0 0 (lh_A bs)) 4 [(0, .ref (ad 37)), (1, .int sn), (2, .int acc), (3, .int (nI i))] [] h := by
  intro n
  induction n with
  | zero =>
    intro i acc hi hr
    have hM := J.1.2.2.2.1.2
    have hN : h 38 3 = nI N := by rw [hN0]; exact J.1.2.2.2.1.1
    have hexit : h 38 3 ≤ nI i := by rw [hN]; exact nI_le (by omega) (by omega)
    refine la_iload_n (i := 3) B dX9_threadMany_4 rfl rfl ?_
    refine la_aload_n (i := 0) B dX9_threadMany_5 rfl rfl ?_
    refine la_get (i := 37) (ci := 9) (j := 0) (C := RX9) (T := TX9) (N := 18) B (lh_nc_lt (by decide)) rfl ix_9 rfl (by decide) wd_673 rfl rfl dX9_threadMany_6 ?_
    refine la_iconst (v := 3) B dX9_threadMany_9 (by decide) ?_
    refine la_iald (i := 38) (v := h 38 3) B (lh_nc_lt (by decide)) rfl (by unfold vp_in; decide) rfl dX9_threadMany_10 ?_
    refine la_icmp_ge (tgt := 40) B dX9_threadMany_11 (by decide) (fun c11 => ?_) (fun c11 => ?_)
    · refine la_iload_n (i := 2) B dX9_threadMany_40 rfl rfl ?_
      exact la_ireturn B rfl (by rw [hr]; simp only [LX9_threadMany]) rfl dX9_threadMany_41
    · exact absurd hexit c11
  | succ n ih =>
    intro i acc hi hr
    have hM := J.1.2.2.2.1.2
    have hN : h 38 3 = nI N := by rw [hN0]; exact J.1.2.2.2.1.1
    have hcont : ¬ h 38 3 ≤ nI i := by rw [hN]; exact nI_ge (by omega) (by omega)
    have hti : lh_ix (nI i) 12 := lh_ix_nI (by omega)
    refine la_iload_n (i := 3) B dX9_threadMany_4 rfl rfl ?_
    refine la_aload_n (i := 0) B dX9_threadMany_5 rfl rfl ?_
    refine la_get (i := 37) (ci := 9) (j := 0) (C := RX9) (T := TX9) (N := 18) B (lh_nc_lt (by decide)) rfl ix_9 rfl (by decide) wd_673 rfl rfl dX9_threadMany_6 ?_
    refine la_iconst (v := 3) B dX9_threadMany_9 (by decide) ?_
    refine la_iald (i := 38) (v := h 38 3) B (lh_nc_lt (by decide)) rfl (by unfold vp_in; decide) rfl dX9_threadMany_10 ?_
    refine la_icmp_ge (tgt := 40) B dX9_threadMany_11 (by decide) (fun c11 => ?_) (fun c11 => ?_)
    · exact absurd c11 hcont
    · refine la_iload_n (i := 2) B dX9_threadMany_14 rfl rfl ?_
      refine la_aload_n (i := 0) B dX9_threadMany_15 rfl rfl ?_
      refine la_get (i := 37) (ci := 9) (j := 5) (C := RX9) (T := TX9) (N := 18) B (lh_nc_lt (by decide)) rfl ix_9 rfl (by decide) wd_678 rfl rfl dX9_threadMany_16 ?_
      refine la_iconst (v := 3) B dX9_threadMany_19 (by decide) ?_
      refine la_iload_n (i := 3) B dX9_threadMany_20 rfl rfl ?_
      refine la_imul B dX9_threadMany_21 ?_
      refine la_iald (i := 43) (v := h 43 (3 * (nI i)).toNatClampNeg) B (lh_nc_lt (by decide)) rfl (lh_lin0 3 hti (by decide) (by decide)) rfl dX9_threadMany_22 ?_
      refine la_iload_n (i := 1) B dX9_threadMany_23 rfl rfl ?_
      refine la_icmp_ne (tgt := 31) B dX9_threadMany_24 (by decide) (fun c24 => ?_) (fun c24 => ?_)
      · refine la_iconst (v := 0) B dX9_threadMany_31 (by decide) ?_
        refine la_iadd B dX9_threadMany_32 ?_
        refine la_istore_n (i := 2) B dX9_threadMany_33 rfl (by decide) ?_
        refine la_iincp B dX9_threadMany_34 rfl (by decide) ?_
        refine la_goto (tgt := 4) B dX9_threadMany_37 (by decide) ?_
        refine la_sub (lv2 := [(0, .ref (ad 37)), (1, .int sn), (2, .int ((acc + 0))), (3, .int (nI (i + 1)))]) ⟨rfl, rfl, rfl, (congrArg (fun z => some (Value.int z)) (nI_1 i)), trivial⟩ (by simp [Value.category]) ?_
        exact ih (i + 1) (acc + 0) (by omega) (by rw [hr]; simp only [LX9_threadMany, if_neg c24])
      · refine la_iconst (v := 1) B dX9_threadMany_27 (by decide) ?_
        refine la_goto (tgt := 32) B dX9_threadMany_28 (by decide) ?_
        refine la_iadd B dX9_threadMany_32 ?_
        refine la_istore_n (i := 2) B dX9_threadMany_33 rfl (by decide) ?_
        refine la_iincp B dX9_threadMany_34 rfl (by decide) ?_
        refine la_goto (tgt := 4) B dX9_threadMany_37 (by decide) ?_
        refine la_sub (lv2 := [(0, .ref (ad 37)), (1, .int sn), (2, .int ((acc + 1))), (3, .int (nI (i + 1)))]) ⟨rfl, rfl, rfl, (congrArg (fun z => some (Value.int z)) (nI_1 i)), trivial⟩ (by simp [Value.category]) ?_
        exact ih (i + 1) (acc + 1) (by omega) (by rw [hr]; simp only [LX9_threadMany, if_pos c24])

def fX9_threadMany (h : lh_HS) (sn : Int32) : Int32 := (LX9_threadMany h sn (lh_m h 3) 0 0)
set_option maxHeartbeats 4000000 in
set_option maxRecDepth 100000 in
theorem ct_X9_threadMany {l : Launch} {D : va_G} {ad : Nat → Nat} {bs : Nat} {cI cZ : ClassId} {t9 : Nat} {k : Bool} (h : lh_HS) (sn : Int32) (J : lh_J h) : lh_CTi l D ad bs cI cZ t9 k yX9_threadMany cX9_threadMany 4 (some .int) 0 [.ref (ad 37), .int sn] h (fX9_threadMany h sn) h := by
  refine lh_ofi (lv := [(0, .ref (ad 37)), (1, .int sn)]) (by decide) (Nat.le_of_ble_eq_true rfl) rfl (by simp [Value.category]) ⟨rfl, rfl, trivial⟩ ?_
  intro p e s m args below meth c B
  have B : lh_BK p (lh_rm 0) s m args meth c D ad bs cI cZ t9 k "LightHoursModel" cX9_threadMany 4 (some .int) := B
  refine la_iconst (v := 0) B dX9_threadMany_0 (by decide) ?_
  refine la_istore_n (i := 2) B dX9_threadMany_1 rfl (by decide) ?_
  refine la_iconst (v := 0) B dX9_threadMany_2 (by decide) ?_
  refine la_istore_n (i := 3) B dX9_threadMany_3 rfl (by decide) ?_
  refine la_sub (lv2 := [(0, .ref (ad 37)), (1, .int sn), (2, .int 0), (3, .int (nI 0))]) ⟨rfl, rfl, rfl, rfl, trivial⟩ (by simp [Value.category]) ?_
  exact lp_X9_threadMany h sn B J rfl _ 0 0 (Nat.zero_add _) (by simp only [fX9_threadMany])

def LX9_isShown (h : lh_HS) (sn : Int32) (yr : Int32) : Nat → Nat → Int32 → Int32
  | 0, i, acc => acc
  | n + 1, i, acc => (if acc = 0 then (if (fX9_isHere h (nI i) sn) = 0 then (LX9_isShown h sn yr n (i + 1) 0) else (if (h 42 ((5 * (nI i)) + 1).toNatClampNeg) < 0 then (LX9_isShown h sn yr n (i + 1) 0) else (if (h 42 ((5 * (nI i)) + 2).toNatClampNeg) = yr then (LX9_isShown h sn yr n (i + 1) 1) else (LX9_isShown h sn yr n (i + 1) 0)))) else (LX9_isShown h sn yr n (i + 1) 1))
set_option maxHeartbeats 4000000 in
set_option maxRecDepth 100000 in
theorem lp_X9_isShown {l : Launch} {D : va_G} {ad : Nat → Nat} {bs : Nat} {cI cZ : ClassId} {t9 : Nat} {k : Bool} {p : Program} {e : Env} {s : State} {m : MethodId} {args : Array Value} {below : List Frame} {meth : Method} {c : Code} (h : lh_HS) (sn : Int32) (yr : Int32) {r : Int32} (B : lh_BK p (lh_rm 1) s m args meth c D ad bs cI cZ t9 k "LightHoursModel" cX9_isShown 5 (some .boolean)) {N : Nat} (J : lh_J h) (hN0 : N = lh_m h 2) :
    ∀ (n i : Nat) (acc : Int32), i + n = N → r = LX9_isShown h sn yr n i acc → (acc = 0 ∨ acc = 1) → lh_AJ p l e (lh_rm 1) s m args below meth c D ad bs cI cZ k 5 (MQ below (lh_Qi D ad bs cI cZ k r h) args s 0 0 (lh_A bs)) 5 [(0, .ref (ad 37)), (1, .int sn), (2, .int yr), (3, .int acc), (4, .int (nI i))] [] h := by
  intro n
  induction n with
  | zero =>
    intro i acc hi hr hv
    have hM := J.1.2.2.1.2
    have hN : h 38 2 = nI N := by rw [hN0]; exact J.1.2.2.1.1
    have hexit : h 38 2 ≤ nI i := by rw [hN]; exact nI_le (by omega) (by omega)
    refine la_iload B dX9_isShown_5 rfl ?_
    refine la_aload_n (i := 0) B dX9_isShown_7 rfl rfl ?_
    refine la_get (i := 37) (ci := 9) (j := 0) (C := RX9) (T := TX9) (N := 18) B (lh_nc_lt (by decide)) rfl ix_9 rfl (by decide) wd_673 rfl rfl dX9_isShown_8 ?_
    refine la_iconst (v := 2) B dX9_isShown_11 (by decide) ?_
    refine la_iald (i := 38) (v := h 38 2) B (lh_nc_lt (by decide)) rfl (by unfold vp_in; decide) rfl dX9_isShown_12 ?_
    refine la_icmp_ge (tgt := 71) B dX9_isShown_13 (by decide) (fun c13 => ?_) (fun c13 => ?_)
    · refine la_iload_n (i := 3) B dX9_isShown_71 rfl rfl ?_
      exact la_zreturn B rfl (by rw [hr]; simp only [LX9_isShown]) rfl (lh_nar hv) dX9_isShown_72
    · exact absurd hexit c13
  | succ n ih =>
    intro i acc hi hr hv
    have hM := J.1.2.2.1.2
    have hN : h 38 2 = nI N := by rw [hN0]; exact J.1.2.2.1.1
    have hcont : ¬ h 38 2 ≤ nI i := by rw [hN]; exact nI_ge (by omega) (by omega)
    have hbi : lh_ix (nI i) 30 := lh_ix_nI (by omega)
    refine la_iload B dX9_isShown_5 rfl ?_
    refine la_aload_n (i := 0) B dX9_isShown_7 rfl rfl ?_
    refine la_get (i := 37) (ci := 9) (j := 0) (C := RX9) (T := TX9) (N := 18) B (lh_nc_lt (by decide)) rfl ix_9 rfl (by decide) wd_673 rfl rfl dX9_isShown_8 ?_
    refine la_iconst (v := 2) B dX9_isShown_11 (by decide) ?_
    refine la_iald (i := 38) (v := h 38 2) B (lh_nc_lt (by decide)) rfl (by unfold vp_in; decide) rfl dX9_isShown_12 ?_
    refine la_icmp_ge (tgt := 71) B dX9_isShown_13 (by decide) (fun c13 => ?_) (fun c13 => ?_)
    · exact absurd c13 hcont
    · refine la_iload_n (i := 3) B dX9_isShown_16 rfl rfl ?_
      refine la_if_ne (tgt := 59) B dX9_isShown_17 (by decide) (fun c17 => ?_) (fun c17 => ?_)
      · refine la_iconst (v := 1) B dX9_isShown_59 (by decide) ?_
        refine la_goto (tgt := 64) B dX9_isShown_60 (by decide) ?_
        refine la_istore_n (i := 3) B dX9_isShown_64 rfl (by decide) ?_
        refine la_iincp B dX9_isShown_65 rfl (by decide) ?_
        refine la_goto (tgt := 5) B dX9_isShown_68 (by decide) ?_
        refine la_sub (lv2 := [(0, .ref (ad 37)), (1, .int sn), (2, .int yr), (3, .int 1), (4, .int (nI (i + 1)))]) ⟨rfl, rfl, rfl, rfl, (congrArg (fun z => some (Value.int z)) (nI_1 i)), trivial⟩ (by simp [Value.category]) ?_
        exact ih (i + 1) 1 (by omega) (by rw [hr]; simp only [LX9_isShown, if_neg c17]) (Or.inr rfl)
      · refine la_aload_n (i := 0) B dX9_isShown_20 rfl rfl ?_
        refine la_iload B dX9_isShown_21 rfl ?_
        refine la_iload_n (i := 1) B dX9_isShown_23 rfl rfl ?_
        refine la_callVi (i := 37) B (ct_X9_isHere h (nI i) sn hbi) lk_X9_70 (by decide) (lh_nc_lt (by decide)) rfl rfl rfl (by simp [Value.category]) dX9_isShown_24 ?_
        refine la_if_eq (tgt := 63) B dX9_isShown_27 (by decide) (fun c27 => ?_) (fun c27 => ?_)
        · refine la_iconst (v := 0) B dX9_isShown_63 (by decide) ?_
          refine la_istore_n (i := 3) B dX9_isShown_64 rfl (by decide) ?_
          refine la_iincp B dX9_isShown_65 rfl (by decide) ?_
          refine la_goto (tgt := 5) B dX9_isShown_68 (by decide) ?_
          refine la_sub (lv2 := [(0, .ref (ad 37)), (1, .int sn), (2, .int yr), (3, .int 0), (4, .int (nI (i + 1)))]) ⟨rfl, rfl, rfl, rfl, (congrArg (fun z => some (Value.int z)) (nI_1 i)), trivial⟩ (by simp [Value.category]) ?_
          exact ih (i + 1) 0 (by omega) (by rw [hr]; simp only [LX9_isShown, if_pos c17, if_pos c27]) (Or.inl rfl)
        · refine la_aload_n (i := 0) B dX9_isShown_30 rfl rfl ?_
          refine la_get (i := 37) (ci := 9) (j := 4) (C := RX9) (T := TX9) (N := 18) B (lh_nc_lt (by decide)) rfl ix_9 rfl (by decide) wd_677 rfl rfl dX9_isShown_31 ?_
          refine la_iconst (v := 5) B dX9_isShown_34 (by decide) ?_
          refine la_iload B dX9_isShown_35 rfl ?_
          refine la_imul B dX9_isShown_37 ?_
          refine la_iconst (v := 1) B dX9_isShown_38 (by decide) ?_
          refine la_iadd B dX9_isShown_39 ?_
          refine la_iald (i := 42) (v := h 42 ((5 * (nI i)) + 1).toNatClampNeg) B (lh_nc_lt (by decide)) rfl (lh_lin 5 1 hbi (by decide) (by decide)) rfl dX9_isShown_40 ?_
          refine la_if_lt (tgt := 63) B dX9_isShown_41 (by decide) (fun c41 => ?_) (fun c41 => ?_)
          · refine la_iconst (v := 0) B dX9_isShown_63 (by decide) ?_
            refine la_istore_n (i := 3) B dX9_isShown_64 rfl (by decide) ?_
            refine la_iincp B dX9_isShown_65 rfl (by decide) ?_
            refine la_goto (tgt := 5) B dX9_isShown_68 (by decide) ?_
            refine la_sub (lv2 := [(0, .ref (ad 37)), (1, .int sn), (2, .int yr), (3, .int 0), (4, .int (nI (i + 1)))]) ⟨rfl, rfl, rfl, rfl, (congrArg (fun z => some (Value.int z)) (nI_1 i)), trivial⟩ (by simp [Value.category]) ?_
            exact ih (i + 1) 0 (by omega) (by rw [hr]; simp only [LX9_isShown, if_pos c17, if_neg c27, if_pos c41]) (Or.inl rfl)
          · refine la_aload_n (i := 0) B dX9_isShown_44 rfl rfl ?_
            refine la_get (i := 37) (ci := 9) (j := 4) (C := RX9) (T := TX9) (N := 18) B (lh_nc_lt (by decide)) rfl ix_9 rfl (by decide) wd_677 rfl rfl dX9_isShown_45 ?_
            refine la_iconst (v := 5) B dX9_isShown_48 (by decide) ?_
            refine la_iload B dX9_isShown_49 rfl ?_
            refine la_imul B dX9_isShown_51 ?_
            refine la_iconst (v := 2) B dX9_isShown_52 (by decide) ?_
            refine la_iadd B dX9_isShown_53 ?_
            refine la_iald (i := 42) (v := h 42 ((5 * (nI i)) + 2).toNatClampNeg) B (lh_nc_lt (by decide)) rfl (lh_lin 5 2 hbi (by decide) (by decide)) rfl dX9_isShown_54 ?_
            refine la_iload_n (i := 2) B dX9_isShown_55 rfl rfl ?_
            refine la_icmp_ne (tgt := 63) B dX9_isShown_56 (by decide) (fun c56 => ?_) (fun c56 => ?_)
            · refine la_iconst (v := 0) B dX9_isShown_63 (by decide) ?_
              refine la_istore_n (i := 3) B dX9_isShown_64 rfl (by decide) ?_
              refine la_iincp B dX9_isShown_65 rfl (by decide) ?_
              refine la_goto (tgt := 5) B dX9_isShown_68 (by decide) ?_
              refine la_sub (lv2 := [(0, .ref (ad 37)), (1, .int sn), (2, .int yr), (3, .int 0), (4, .int (nI (i + 1)))]) ⟨rfl, rfl, rfl, rfl, (congrArg (fun z => some (Value.int z)) (nI_1 i)), trivial⟩ (by simp [Value.category]) ?_
              exact ih (i + 1) 0 (by omega) (by rw [hr]; simp only [LX9_isShown, if_pos c17, if_neg c27, if_neg c41, if_neg c56]) (Or.inl rfl)
            · refine la_iconst (v := 1) B dX9_isShown_59 (by decide) ?_
              refine la_goto (tgt := 64) B dX9_isShown_60 (by decide) ?_
              refine la_istore_n (i := 3) B dX9_isShown_64 rfl (by decide) ?_
              refine la_iincp B dX9_isShown_65 rfl (by decide) ?_
              refine la_goto (tgt := 5) B dX9_isShown_68 (by decide) ?_
              refine la_sub (lv2 := [(0, .ref (ad 37)), (1, .int sn), (2, .int yr), (3, .int 1), (4, .int (nI (i + 1)))]) ⟨rfl, rfl, rfl, rfl, (congrArg (fun z => some (Value.int z)) (nI_1 i)), trivial⟩ (by simp [Value.category]) ?_
              exact ih (i + 1) 1 (by omega) (by rw [hr]; simp only [LX9_isShown, if_pos c17, if_neg c27, if_neg c41, if_pos c56]) (Or.inr rfl)

def fX9_isShown (h : lh_HS) (sn : Int32) (yr : Int32) : Int32 := (LX9_isShown h sn yr (lh_m h 2) 0 0)
set_option maxHeartbeats 4000000 in
set_option maxRecDepth 100000 in
theorem ct_X9_isShown {l : Launch} {D : va_G} {ad : Nat → Nat} {bs : Nat} {cI cZ : ClassId} {t9 : Nat} {k : Bool} (h : lh_HS) (sn : Int32) (yr : Int32) (J : lh_J h) : lh_CTi l D ad bs cI cZ t9 k yX9_isShown cX9_isShown 5 (some .boolean) 1 [.ref (ad 37), .int sn, .int yr] h (fX9_isShown h sn yr) h := by
  refine lh_ofi (lv := [(0, .ref (ad 37)), (1, .int sn), (2, .int yr)]) (by decide) (Nat.le_of_ble_eq_true rfl) rfl (by simp [Value.category]) ⟨rfl, rfl, rfl, trivial⟩ ?_
  intro p e s m args below meth c B
  have B : lh_BK p (lh_rm 1) s m args meth c D ad bs cI cZ t9 k "LightHoursModel" cX9_isShown 5 (some .boolean) := B
  refine la_iconst (v := 0) B dX9_isShown_0 (by decide) ?_
  refine la_istore_n (i := 3) B dX9_isShown_1 rfl (by decide) ?_
  refine la_iconst (v := 0) B dX9_isShown_2 (by decide) ?_
  refine la_istore B dX9_isShown_3 (by decide) ?_
  refine la_sub (lv2 := [(0, .ref (ad 37)), (1, .int sn), (2, .int yr), (3, .int 0), (4, .int (nI 0))]) ⟨rfl, rfl, rfl, rfl, rfl, trivial⟩ (by simp [Value.category]) ?_
  exact lp_X9_isShown h sn yr B J rfl _ 0 0 (Nat.zero_add _) (by simp only [fX9_isShown]) (Or.inl rfl)

def fX9_away (h : lh_HS) (a : Int32) (b : Int32) : Int32 := (if b ≤ a then a - b else b - a)
set_option maxHeartbeats 4000000 in
set_option maxRecDepth 100000 in
theorem ct_X9_away {l : Launch} {D : va_G} {ad : Nat → Nat} {bs : Nat} {cI cZ : ClassId} {t9 : Nat} {k : Bool} (h : lh_HS) (a : Int32) (b : Int32)  : lh_CTi l D ad bs cI cZ t9 k yX9_away cX9_away 2 (some .int) 0 [.int a, .int b] h (fX9_away h a b) h := by
  refine lh_ofi (lv := [(0, .int a), (1, .int b)]) (by decide) (Nat.le_of_ble_eq_true rfl) rfl (by simp [Value.category]) ⟨rfl, rfl, trivial⟩ ?_
  intro p e s m args below meth c B
  have B : lh_BK p (lh_rm 0) s m args meth c D ad bs cI cZ t9 k "LightHoursModel" cX9_away 2 (some .int) := B
  refine la_iload_n (i := 0) B dX9_away_0 rfl rfl ?_
  refine la_iload_n (i := 1) B dX9_away_1 rfl rfl ?_
  refine la_icmp_ge (tgt := 11) B dX9_away_2 (by decide) (fun c2 => ?_) (fun c2 => ?_)
  · refine la_iload_n (i := 0) B dX9_away_11 rfl rfl ?_
    refine la_iload_n (i := 1) B dX9_away_12 rfl rfl ?_
    refine la_isub B dX9_away_13 ?_
    exact la_ireturn B rfl (by simp only [fX9_away, if_pos c2]) rfl dX9_away_14
  · refine la_iload_n (i := 1) B dX9_away_5 rfl rfl ?_
    refine la_iload_n (i := 0) B dX9_away_6 rfl rfl ?_
    refine la_isub B dX9_away_7 ?_
    refine la_goto (tgt := 14) B dX9_away_8 (by decide) ?_
    exact la_ireturn B rfl (by simp only [fX9_away, if_neg c2]) rfl dX9_away_14

def LX9_rests (h : lh_HS) (sn : Int32) (yr : Int32) : Nat → Nat → Int32 → Int32
  | 0, i, acc => acc
  | n + 1, i, acc => (if (fX9_isHere h (nI i) sn) = 0 then (if acc = 0 then (LX9_rests h sn yr n (i + 1) 0) else (LX9_rests h sn yr n (i + 1) 1)) else (if (h 42 ((5 * (nI i)) + 1).toNatClampNeg) < 0 then (if acc = 0 then (LX9_rests h sn yr n (i + 1) 0) else (LX9_rests h sn yr n (i + 1) 1)) else (if acc = 0 then (LX9_rests h sn yr n (i + 1) 0) else (if (fX9_away h (h 42 ((5 * (nI i)) + 2).toNatClampNeg) yr) ≤ (h 41 ((7 * sn) + 3).toNatClampNeg) then (LX9_rests h sn yr n (i + 1) 0) else (LX9_rests h sn yr n (i + 1) 1)))))
set_option maxHeartbeats 4000000 in
set_option maxRecDepth 100000 in
theorem lp_X9_rests {l : Launch} {D : va_G} {ad : Nat → Nat} {bs : Nat} {cI cZ : ClassId} {t9 : Nat} {k : Bool} {p : Program} {e : Env} {s : State} {m : MethodId} {args : Array Value} {below : List Frame} {meth : Method} {c : Code} (h : lh_HS) (sn : Int32) (yr : Int32) {r : Int32} (B : lh_BK p (lh_rm 1) s m args meth c D ad bs cI cZ t9 k "LightHoursModel" cX9_rests 7 (some .boolean)) {N : Nat} (J : lh_J h) (hN0 : N = lh_m h 2) (hs : lh_ix sn 8) :
    ∀ (n i : Nat) (acc : Int32), i + n = N → r = LX9_rests h sn yr n i acc → (acc = 0 ∨ acc = 1) → lh_AJ p l e (lh_rm 1) s m args below meth c D ad bs cI cZ k 7 (MQ below (lh_Qi D ad bs cI cZ k r h) args s 0 0 (lh_A bs)) 5 [(0, .ref (ad 37)), (1, .int sn), (2, .int yr), (3, .int acc), (4, .int (nI i))] [] h := by
  intro n
  induction n with
  | zero =>
    intro i acc hi hr hv
    have hM := J.1.2.2.1.2
    have hN : h 38 2 = nI N := by rw [hN0]; exact J.1.2.2.1.1
    have hexit : h 38 2 ≤ nI i := by rw [hN]; exact nI_le (by omega) (by omega)
    refine la_iload B dX9_rests_5 rfl ?_
    refine la_aload_n (i := 0) B dX9_rests_7 rfl rfl ?_
    refine la_get (i := 37) (ci := 9) (j := 0) (C := RX9) (T := TX9) (N := 18) B (lh_nc_lt (by decide)) rfl ix_9 rfl (by decide) wd_673 rfl rfl dX9_rests_8 ?_
    refine la_iconst (v := 2) B dX9_rests_11 (by decide) ?_
    refine la_iald (i := 38) (v := h 38 2) B (lh_nc_lt (by decide)) rfl (by unfold vp_in; decide) rfl dX9_rests_12 ?_
    refine la_icmp_ge (tgt := 101) B dX9_rests_13 (by decide) (fun c13 => ?_) (fun c13 => ?_)
    · refine la_iload_n (i := 3) B dX9_rests_101 rfl rfl ?_
      exact la_zreturn B rfl (by rw [hr]; simp only [LX9_rests]) rfl (lh_nar hv) dX9_rests_102
    · exact absurd hexit c13
  | succ n ih =>
    intro i acc hi hr hv
    have hM := J.1.2.2.1.2
    have hN : h 38 2 = nI N := by rw [hN0]; exact J.1.2.2.1.1
    have hcont : ¬ h 38 2 ≤ nI i := by rw [hN]; exact nI_ge (by omega) (by omega)
    have hbi : lh_ix (nI i) 30 := lh_ix_nI (by omega)
    refine la_iload B dX9_rests_5 rfl ?_
    refine la_aload_n (i := 0) B dX9_rests_7 rfl rfl ?_
    refine la_get (i := 37) (ci := 9) (j := 0) (C := RX9) (T := TX9) (N := 18) B (lh_nc_lt (by decide)) rfl ix_9 rfl (by decide) wd_673 rfl rfl dX9_rests_8 ?_
    refine la_iconst (v := 2) B dX9_rests_11 (by decide) ?_
    refine la_iald (i := 38) (v := h 38 2) B (lh_nc_lt (by decide)) rfl (by unfold vp_in; decide) rfl dX9_rests_12 ?_
    refine la_icmp_ge (tgt := 101) B dX9_rests_13 (by decide) (fun c13 => ?_) (fun c13 => ?_)
    · exact absurd c13 hcont
    · refine la_aload_n (i := 0) B dX9_rests_16 rfl rfl ?_
      refine la_iload B dX9_rests_17 rfl ?_
      refine la_iload_n (i := 1) B dX9_rests_19 rfl rfl ?_
      refine la_callVi (i := 37) B (ct_X9_isHere h (nI i) sn hbi) lk_X9_70 (by decide) (lh_nc_lt (by decide)) rfl rfl rfl (by simp [Value.category]) dX9_rests_20 ?_
      refine la_if_eq (tgt := 44) B dX9_rests_23 (by decide) (fun c23 => ?_) (fun c23 => ?_)
      · refine la_iconst (v := 0) B dX9_rests_44 (by decide) ?_
        refine la_istore B dX9_rests_45 (by decide) ?_
        refine la_aload_n (i := 0) B dX9_rests_47 rfl rfl ?_
        refine la_get (i := 37) (ci := 9) (j := 4) (C := RX9) (T := TX9) (N := 18) B (lh_nc_lt (by decide)) rfl ix_9 rfl (by decide) wd_677 rfl rfl dX9_rests_48 ?_
        refine la_iconst (v := 5) B dX9_rests_51 (by decide) ?_
        refine la_iload B dX9_rests_52 rfl ?_
        refine la_imul B dX9_rests_54 ?_
        refine la_iconst (v := 2) B dX9_rests_55 (by decide) ?_
        refine la_iadd B dX9_rests_56 ?_
        refine la_iald (i := 42) (v := h 42 ((5 * (nI i)) + 2).toNatClampNeg) B (lh_nc_lt (by decide)) rfl (lh_lin 5 2 hbi (by decide) (by decide)) rfl dX9_rests_57 ?_
        refine la_iload_n (i := 2) B dX9_rests_58 rfl rfl ?_
        refine la_callSi B (ct_X9_away h (h 42 ((5 * (nI i)) + 2).toNatClampNeg) yr) lk_X9_115 (by decide) rfl (by simp [Value.category]) dX9_rests_59 ?_
        refine la_istore B dX9_rests_62 (by decide) ?_
        refine la_iload_n (i := 3) B dX9_rests_64 rfl rfl ?_
        refine la_if_eq (tgt := 93) B dX9_rests_65 (by decide) (fun c65 => ?_) (fun c65 => ?_)
        · refine la_iconst (v := 0) B dX9_rests_93 (by decide) ?_
          refine la_istore_n (i := 3) B dX9_rests_94 rfl (by decide) ?_
          refine la_iincp B dX9_rests_95 rfl (by decide) ?_
          refine la_goto (tgt := 5) B dX9_rests_98 (by decide) ?_
          refine la_sub (lv2 := [(0, .ref (ad 37)), (1, .int sn), (2, .int yr), (3, .int 0), (4, .int (nI (i + 1)))]) ⟨rfl, rfl, rfl, rfl, (congrArg (fun z => some (Value.int z)) (nI_1 i)), trivial⟩ (by simp [Value.category]) ?_
          exact ih (i + 1) 0 (by omega) (by rw [hr]; simp only [LX9_rests, if_pos c23, if_pos c65]) (Or.inl rfl)
        · refine la_iload B dX9_rests_68 rfl ?_
          refine la_if_eq (tgt := 89) B dX9_rests_70 (by decide) (fun c70 => ?_) (fun c70 => ?_)
          · refine la_iconst (v := 1) B dX9_rests_89 (by decide) ?_
            refine la_goto (tgt := 94) B dX9_rests_90 (by decide) ?_
            refine la_istore_n (i := 3) B dX9_rests_94 rfl (by decide) ?_
            refine la_iincp B dX9_rests_95 rfl (by decide) ?_
            refine la_goto (tgt := 5) B dX9_rests_98 (by decide) ?_
            refine la_sub (lv2 := [(0, .ref (ad 37)), (1, .int sn), (2, .int yr), (3, .int 1), (4, .int (nI (i + 1)))]) ⟨rfl, rfl, rfl, rfl, (congrArg (fun z => some (Value.int z)) (nI_1 i)), trivial⟩ (by simp [Value.category]) ?_
            exact ih (i + 1) 1 (by omega) (by rw [hr]; simp only [LX9_rests, if_pos c23, if_neg c65]) (Or.inr rfl)
          · exact absurd c70 (by decide)
      · refine la_aload_n (i := 0) B dX9_rests_26 rfl rfl ?_
        refine la_get (i := 37) (ci := 9) (j := 4) (C := RX9) (T := TX9) (N := 18) B (lh_nc_lt (by decide)) rfl ix_9 rfl (by decide) wd_677 rfl rfl dX9_rests_27 ?_
        refine la_iconst (v := 5) B dX9_rests_30 (by decide) ?_
        refine la_iload B dX9_rests_31 rfl ?_
        refine la_imul B dX9_rests_33 ?_
        refine la_iconst (v := 1) B dX9_rests_34 (by decide) ?_
        refine la_iadd B dX9_rests_35 ?_
        refine la_iald (i := 42) (v := h 42 ((5 * (nI i)) + 1).toNatClampNeg) B (lh_nc_lt (by decide)) rfl (lh_lin 5 1 hbi (by decide) (by decide)) rfl dX9_rests_36 ?_
        refine la_if_lt (tgt := 44) B dX9_rests_37 (by decide) (fun c37 => ?_) (fun c37 => ?_)
        · refine la_iconst (v := 0) B dX9_rests_44 (by decide) ?_
          refine la_istore B dX9_rests_45 (by decide) ?_
          refine la_aload_n (i := 0) B dX9_rests_47 rfl rfl ?_
          refine la_get (i := 37) (ci := 9) (j := 4) (C := RX9) (T := TX9) (N := 18) B (lh_nc_lt (by decide)) rfl ix_9 rfl (by decide) wd_677 rfl rfl dX9_rests_48 ?_
          refine la_iconst (v := 5) B dX9_rests_51 (by decide) ?_
          refine la_iload B dX9_rests_52 rfl ?_
          refine la_imul B dX9_rests_54 ?_
          refine la_iconst (v := 2) B dX9_rests_55 (by decide) ?_
          refine la_iadd B dX9_rests_56 ?_
          refine la_iald (i := 42) (v := h 42 ((5 * (nI i)) + 2).toNatClampNeg) B (lh_nc_lt (by decide)) rfl (lh_lin 5 2 hbi (by decide) (by decide)) rfl dX9_rests_57 ?_
          refine la_iload_n (i := 2) B dX9_rests_58 rfl rfl ?_
          refine la_callSi B (ct_X9_away h (h 42 ((5 * (nI i)) + 2).toNatClampNeg) yr) lk_X9_115 (by decide) rfl (by simp [Value.category]) dX9_rests_59 ?_
          refine la_istore B dX9_rests_62 (by decide) ?_
          refine la_iload_n (i := 3) B dX9_rests_64 rfl rfl ?_
          refine la_if_eq (tgt := 93) B dX9_rests_65 (by decide) (fun c65 => ?_) (fun c65 => ?_)
          · refine la_iconst (v := 0) B dX9_rests_93 (by decide) ?_
            refine la_istore_n (i := 3) B dX9_rests_94 rfl (by decide) ?_
            refine la_iincp B dX9_rests_95 rfl (by decide) ?_
            refine la_goto (tgt := 5) B dX9_rests_98 (by decide) ?_
            refine la_sub (lv2 := [(0, .ref (ad 37)), (1, .int sn), (2, .int yr), (3, .int 0), (4, .int (nI (i + 1)))]) ⟨rfl, rfl, rfl, rfl, (congrArg (fun z => some (Value.int z)) (nI_1 i)), trivial⟩ (by simp [Value.category]) ?_
            exact ih (i + 1) 0 (by omega) (by rw [hr]; simp only [LX9_rests, if_neg c23, if_pos c37, if_pos c65]) (Or.inl rfl)
          · refine la_iload B dX9_rests_68 rfl ?_
            refine la_if_eq (tgt := 89) B dX9_rests_70 (by decide) (fun c70 => ?_) (fun c70 => ?_)
            · refine la_iconst (v := 1) B dX9_rests_89 (by decide) ?_
              refine la_goto (tgt := 94) B dX9_rests_90 (by decide) ?_
              refine la_istore_n (i := 3) B dX9_rests_94 rfl (by decide) ?_
              refine la_iincp B dX9_rests_95 rfl (by decide) ?_
              refine la_goto (tgt := 5) B dX9_rests_98 (by decide) ?_
              refine la_sub (lv2 := [(0, .ref (ad 37)), (1, .int sn), (2, .int yr), (3, .int 1), (4, .int (nI (i + 1)))]) ⟨rfl, rfl, rfl, rfl, (congrArg (fun z => some (Value.int z)) (nI_1 i)), trivial⟩ (by simp [Value.category]) ?_
              exact ih (i + 1) 1 (by omega) (by rw [hr]; simp only [LX9_rests, if_neg c23, if_pos c37, if_neg c65]) (Or.inr rfl)
            · exact absurd c70 (by decide)
        · refine la_iconst (v := 1) B dX9_rests_40 (by decide) ?_
          refine la_goto (tgt := 45) B dX9_rests_41 (by decide) ?_
          refine la_istore B dX9_rests_45 (by decide) ?_
          refine la_aload_n (i := 0) B dX9_rests_47 rfl rfl ?_
          refine la_get (i := 37) (ci := 9) (j := 4) (C := RX9) (T := TX9) (N := 18) B (lh_nc_lt (by decide)) rfl ix_9 rfl (by decide) wd_677 rfl rfl dX9_rests_48 ?_
          refine la_iconst (v := 5) B dX9_rests_51 (by decide) ?_
          refine la_iload B dX9_rests_52 rfl ?_
          refine la_imul B dX9_rests_54 ?_
          refine la_iconst (v := 2) B dX9_rests_55 (by decide) ?_
          refine la_iadd B dX9_rests_56 ?_
          refine la_iald (i := 42) (v := h 42 ((5 * (nI i)) + 2).toNatClampNeg) B (lh_nc_lt (by decide)) rfl (lh_lin 5 2 hbi (by decide) (by decide)) rfl dX9_rests_57 ?_
          refine la_iload_n (i := 2) B dX9_rests_58 rfl rfl ?_
          refine la_callSi B (ct_X9_away h (h 42 ((5 * (nI i)) + 2).toNatClampNeg) yr) lk_X9_115 (by decide) rfl (by simp [Value.category]) dX9_rests_59 ?_
          refine la_istore B dX9_rests_62 (by decide) ?_
          refine la_iload_n (i := 3) B dX9_rests_64 rfl rfl ?_
          refine la_if_eq (tgt := 93) B dX9_rests_65 (by decide) (fun c65 => ?_) (fun c65 => ?_)
          · refine la_iconst (v := 0) B dX9_rests_93 (by decide) ?_
            refine la_istore_n (i := 3) B dX9_rests_94 rfl (by decide) ?_
            refine la_iincp B dX9_rests_95 rfl (by decide) ?_
            refine la_goto (tgt := 5) B dX9_rests_98 (by decide) ?_
            refine la_sub (lv2 := [(0, .ref (ad 37)), (1, .int sn), (2, .int yr), (3, .int 0), (4, .int (nI (i + 1)))]) ⟨rfl, rfl, rfl, rfl, (congrArg (fun z => some (Value.int z)) (nI_1 i)), trivial⟩ (by simp [Value.category]) ?_
            exact ih (i + 1) 0 (by omega) (by rw [hr]; simp only [LX9_rests, if_neg c23, if_neg c37, if_pos c65]) (Or.inl rfl)
          · refine la_iload B dX9_rests_68 rfl ?_
            refine la_if_eq (tgt := 89) B dX9_rests_70 (by decide) (fun c70 => ?_) (fun c70 => ?_)
            · exact absurd c70 (by decide)
            · refine la_iload B dX9_rests_73 rfl ?_
              refine la_aload_n (i := 0) B dX9_rests_75 rfl rfl ?_
              refine la_get (i := 37) (ci := 9) (j := 3) (C := RX9) (T := TX9) (N := 18) B (lh_nc_lt (by decide)) rfl ix_9 rfl (by decide) wd_676 rfl rfl dX9_rests_76 ?_
              refine la_bipush (v := 7) B dX9_rests_79 (by decide) ?_
              refine la_iload_n (i := 1) B dX9_rests_81 rfl rfl ?_
              refine la_imul B dX9_rests_82 ?_
              refine la_iconst (v := 3) B dX9_rests_83 (by decide) ?_
              refine la_iadd B dX9_rests_84 ?_
              refine la_iald (i := 41) (v := h 41 ((7 * sn) + 3).toNatClampNeg) B (lh_nc_lt (by decide)) rfl (lh_lin 7 3 hs (by decide) (by decide)) rfl dX9_rests_85 ?_
              refine la_icmp_le (tgt := 93) B dX9_rests_86 (by decide) (fun c86 => ?_) (fun c86 => ?_)
              · refine la_iconst (v := 0) B dX9_rests_93 (by decide) ?_
                refine la_istore_n (i := 3) B dX9_rests_94 rfl (by decide) ?_
                refine la_iincp B dX9_rests_95 rfl (by decide) ?_
                refine la_goto (tgt := 5) B dX9_rests_98 (by decide) ?_
                refine la_sub (lv2 := [(0, .ref (ad 37)), (1, .int sn), (2, .int yr), (3, .int 0), (4, .int (nI (i + 1)))]) ⟨rfl, rfl, rfl, rfl, (congrArg (fun z => some (Value.int z)) (nI_1 i)), trivial⟩ (by simp [Value.category]) ?_
                exact ih (i + 1) 0 (by omega) (by rw [hr]; simp only [LX9_rests, if_neg c23, if_neg c37, if_neg c65, if_pos c86]) (Or.inl rfl)
              · refine la_iconst (v := 1) B dX9_rests_89 (by decide) ?_
                refine la_goto (tgt := 94) B dX9_rests_90 (by decide) ?_
                refine la_istore_n (i := 3) B dX9_rests_94 rfl (by decide) ?_
                refine la_iincp B dX9_rests_95 rfl (by decide) ?_
                refine la_goto (tgt := 5) B dX9_rests_98 (by decide) ?_
                refine la_sub (lv2 := [(0, .ref (ad 37)), (1, .int sn), (2, .int yr), (3, .int 1), (4, .int (nI (i + 1)))]) ⟨rfl, rfl, rfl, rfl, (congrArg (fun z => some (Value.int z)) (nI_1 i)), trivial⟩ (by simp [Value.category]) ?_
                exact ih (i + 1) 1 (by omega) (by rw [hr]; simp only [LX9_rests, if_neg c23, if_neg c37, if_neg c65, if_neg c86]) (Or.inr rfl)

def fX9_rests (h : lh_HS) (sn : Int32) (yr : Int32) : Int32 := (LX9_rests h sn yr (lh_m h 2) 0 1)
set_option maxHeartbeats 4000000 in
set_option maxRecDepth 100000 in
theorem ct_X9_rests {l : Launch} {D : va_G} {ad : Nat → Nat} {bs : Nat} {cI cZ : ClassId} {t9 : Nat} {k : Bool} (h : lh_HS) (sn : Int32) (yr : Int32) (J : lh_J h) (hs : lh_ix sn 8) : lh_CTi l D ad bs cI cZ t9 k yX9_rests cX9_rests 7 (some .boolean) 1 [.ref (ad 37), .int sn, .int yr] h (fX9_rests h sn yr) h := by
  refine lh_ofi (lv := [(0, .ref (ad 37)), (1, .int sn), (2, .int yr)]) (by decide) (Nat.le_of_ble_eq_true rfl) rfl (by simp [Value.category]) ⟨rfl, rfl, rfl, trivial⟩ ?_
  intro p e s m args below meth c B
  have B : lh_BK p (lh_rm 1) s m args meth c D ad bs cI cZ t9 k "LightHoursModel" cX9_rests 7 (some .boolean) := B
  refine la_iconst (v := 1) B dX9_rests_0 (by decide) ?_
  refine la_istore_n (i := 3) B dX9_rests_1 rfl (by decide) ?_
  refine la_iconst (v := 0) B dX9_rests_2 (by decide) ?_
  refine la_istore B dX9_rests_3 (by decide) ?_
  refine la_sub (lv2 := [(0, .ref (ad 37)), (1, .int sn), (2, .int yr), (3, .int 1), (4, .int (nI 0))]) ⟨rfl, rfl, rfl, rfl, rfl, trivial⟩ (by simp [Value.category]) ?_
  exact lp_X9_rests h sn yr B J rfl hs _ 0 1 (Nat.zero_add _) (by simp only [fX9_rests]) (Or.inr rfl)

def LX9_cancelled (h : lh_HS)  : Nat → Nat → Int32 → Int32
  | 0, i, acc => acc
  | n + 1, i, acc => (LX9_cancelled h n (i + 1) (acc + (h 42 ((5 * (nI i)) + 4).toNatClampNeg)))
set_option maxHeartbeats 4000000 in
set_option maxRecDepth 100000 in
theorem lp_X9_cancelled {l : Launch} {D : va_G} {ad : Nat → Nat} {bs : Nat} {cI cZ : ClassId} {t9 : Nat} {k : Bool} {p : Program} {e : Env} {s : State} {m : MethodId} {args : Array Value} {below : List Frame} {meth : Method} {c : Code} (h : lh_HS)  {r : Int32} (B : lh_BK p (lh_rm 0) s m args meth c D ad bs cI cZ t9 k "LightHoursModel" cX9_cancelled 3 (some .int)) {N : Nat} (J : lh_J h) (hN0 : N = lh_m h 2) :
    ∀ (n i : Nat) (acc : Int32), i + n = N → r = LX9_cancelled h n i acc → lh_AJ p l e (lh_rm 0) s m args below meth c D ad bs cI cZ k 3 (MQ below (lh_Qi D ad bs cI cZ k r h) args s 0 0 (lh_A bs)) 4 [(0, .ref (ad 37)), (1, .int acc), (2, .int (nI i))] [] h := by
  intro n
  induction n with
  | zero =>
    intro i acc hi hr
    have hM := J.1.2.2.1.2
    have hN : h 38 2 = nI N := by rw [hN0]; exact J.1.2.2.1.1
    have hexit : h 38 2 ≤ nI i := by rw [hN]; exact nI_le (by omega) (by omega)
    refine la_iload_n (i := 2) B dX9_cancelled_4 rfl rfl ?_
    refine la_aload_n (i := 0) B dX9_cancelled_5 rfl rfl ?_
    refine la_get (i := 37) (ci := 9) (j := 0) (C := RX9) (T := TX9) (N := 18) B (lh_nc_lt (by decide)) rfl ix_9 rfl (by decide) wd_673 rfl rfl dX9_cancelled_6 ?_
    refine la_iconst (v := 2) B dX9_cancelled_9 (by decide) ?_
    refine la_iald (i := 38) (v := h 38 2) B (lh_nc_lt (by decide)) rfl (by unfold vp_in; decide) rfl dX9_cancelled_10 ?_
    refine la_icmp_ge (tgt := 33) B dX9_cancelled_11 (by decide) (fun c11 => ?_) (fun c11 => ?_)
    · refine la_iload_n (i := 1) B dX9_cancelled_33 rfl rfl ?_
      exact la_ireturn B rfl (by rw [hr]; simp only [LX9_cancelled]) rfl dX9_cancelled_34
    · exact absurd hexit c11
  | succ n ih =>
    intro i acc hi hr
    have hM := J.1.2.2.1.2
    have hN : h 38 2 = nI N := by rw [hN0]; exact J.1.2.2.1.1
    have hcont : ¬ h 38 2 ≤ nI i := by rw [hN]; exact nI_ge (by omega) (by omega)
    have hbi : lh_ix (nI i) 30 := lh_ix_nI (by omega)
    refine la_iload_n (i := 2) B dX9_cancelled_4 rfl rfl ?_
    refine la_aload_n (i := 0) B dX9_cancelled_5 rfl rfl ?_
    refine la_get (i := 37) (ci := 9) (j := 0) (C := RX9) (T := TX9) (N := 18) B (lh_nc_lt (by decide)) rfl ix_9 rfl (by decide) wd_673 rfl rfl dX9_cancelled_6 ?_
    refine la_iconst (v := 2) B dX9_cancelled_9 (by decide) ?_
    refine la_iald (i := 38) (v := h 38 2) B (lh_nc_lt (by decide)) rfl (by unfold vp_in; decide) rfl dX9_cancelled_10 ?_
    refine la_icmp_ge (tgt := 33) B dX9_cancelled_11 (by decide) (fun c11 => ?_) (fun c11 => ?_)
    · exact absurd c11 hcont
    · refine la_iload_n (i := 1) B dX9_cancelled_14 rfl rfl ?_
      refine la_aload_n (i := 0) B dX9_cancelled_15 rfl rfl ?_
      refine la_get (i := 37) (ci := 9) (j := 4) (C := RX9) (T := TX9) (N := 18) B (lh_nc_lt (by decide)) rfl ix_9 rfl (by decide) wd_677 rfl rfl dX9_cancelled_16 ?_
      refine la_iconst (v := 5) B dX9_cancelled_19 (by decide) ?_
      refine la_iload_n (i := 2) B dX9_cancelled_20 rfl rfl ?_
      refine la_imul B dX9_cancelled_21 ?_
      refine la_iconst (v := 4) B dX9_cancelled_22 (by decide) ?_
      refine la_iadd B dX9_cancelled_23 ?_
      refine la_iald (i := 42) (v := h 42 ((5 * (nI i)) + 4).toNatClampNeg) B (lh_nc_lt (by decide)) rfl (lh_lin 5 4 hbi (by decide) (by decide)) rfl dX9_cancelled_24 ?_
      refine la_iadd B dX9_cancelled_25 ?_
      refine la_istore_n (i := 1) B dX9_cancelled_26 rfl (by decide) ?_
      refine la_iincp B dX9_cancelled_27 rfl (by decide) ?_
      refine la_goto (tgt := 4) B dX9_cancelled_30 (by decide) ?_
      refine la_sub (lv2 := [(0, .ref (ad 37)), (1, .int ((acc + (h 42 ((5 * (nI i)) + 4).toNatClampNeg)))), (2, .int (nI (i + 1)))]) ⟨rfl, rfl, (congrArg (fun z => some (Value.int z)) (nI_1 i)), trivial⟩ (by simp [Value.category]) ?_
      exact ih (i + 1) (acc + (h 42 ((5 * (nI i)) + 4).toNatClampNeg)) (by omega) (by rw [hr]; simp only [LX9_cancelled])

def fX9_cancelled (h : lh_HS)  : Int32 := (LX9_cancelled h (lh_m h 2) 0 0)
set_option maxHeartbeats 4000000 in
set_option maxRecDepth 100000 in
theorem ct_X9_cancelled {l : Launch} {D : va_G} {ad : Nat → Nat} {bs : Nat} {cI cZ : ClassId} {t9 : Nat} {k : Bool} (h : lh_HS)  (J : lh_J h) : lh_CTi l D ad bs cI cZ t9 k yX9_cancelled cX9_cancelled 3 (some .int) 0 [.ref (ad 37)] h (fX9_cancelled h ) h := by
  refine lh_ofi (lv := [(0, .ref (ad 37))]) (by decide) (Nat.le_of_ble_eq_true rfl) rfl (by simp [Value.category]) ⟨rfl, trivial⟩ ?_
  intro p e s m args below meth c B
  have B : lh_BK p (lh_rm 0) s m args meth c D ad bs cI cZ t9 k "LightHoursModel" cX9_cancelled 3 (some .int) := B
  refine la_iconst (v := 0) B dX9_cancelled_0 (by decide) ?_
  refine la_istore_n (i := 1) B dX9_cancelled_1 rfl (by decide) ?_
  refine la_iconst (v := 0) B dX9_cancelled_2 (by decide) ?_
  refine la_istore_n (i := 2) B dX9_cancelled_3 rfl (by decide) ?_
  refine la_sub (lv2 := [(0, .ref (ad 37)), (1, .int 0), (2, .int (nI 0))]) ⟨rfl, rfl, rfl, trivial⟩ (by simp [Value.category]) ?_
  exact lp_X9_cancelled h B J rfl _ 0 0 (Nat.zero_add _) (by simp only [fX9_cancelled])

def LX9_readMany (h : lh_HS)  : Nat → Nat → Int32 → Int32
  | 0, i, acc => acc
  | n + 1, i, acc => (if (h 40 (nI i).toNatClampNeg) < 0 then (LX9_readMany h n (i + 1) (acc + 0)) else (LX9_readMany h n (i + 1) (acc + 1)))
set_option maxHeartbeats 4000000 in
set_option maxRecDepth 100000 in
theorem lp_X9_readMany {l : Launch} {D : va_G} {ad : Nat → Nat} {bs : Nat} {cI cZ : ClassId} {t9 : Nat} {k : Bool} {p : Program} {e : Env} {s : State} {m : MethodId} {args : Array Value} {below : List Frame} {meth : Method} {c : Code} (h : lh_HS)  {r : Int32} (B : lh_BK p (lh_rm 0) s m args meth c D ad bs cI cZ t9 k "LightHoursModel" cX9_readMany 3 (some .int)) {N : Nat} (hN : 10 * h 38 0 = nI N) (hM : N ≤ 40) :
    ∀ (n i : Nat) (acc : Int32), i + n = N → r = LX9_readMany h n i acc → lh_AJ p l e (lh_rm 0) s m args below meth c D ad bs cI cZ k 3 (MQ below (lh_Qi D ad bs cI cZ k r h) args s 0 0 (lh_A bs)) 4 [(0, .ref (ad 37)), (1, .int acc), (2, .int (nI i))] [] h := by
  intro n
  induction n with
  | zero =>
    intro i acc hi hr
    have hexit : 10 * h 38 0 ≤ nI i := by rw [hN]; exact nI_le (by omega) (by omega)
    refine la_iload_n (i := 2) B dX9_readMany_4 rfl rfl ?_
    refine la_bipush (v := 10) B dX9_readMany_5 (by decide) ?_
    refine la_aload_n (i := 0) B dX9_readMany_7 rfl rfl ?_
    refine la_get (i := 37) (ci := 9) (j := 0) (C := RX9) (T := TX9) (N := 18) B (lh_nc_lt (by decide)) rfl ix_9 rfl (by decide) wd_673 rfl rfl dX9_readMany_8 ?_
    refine la_iconst (v := 0) B dX9_readMany_11 (by decide) ?_
    refine la_iald (i := 38) (v := h 38 0) B (lh_nc_lt (by decide)) rfl (by unfold vp_in; decide) rfl dX9_readMany_12 ?_
    refine la_imul B dX9_readMany_13 ?_
    refine la_icmp_ge (tgt := 40) B dX9_readMany_14 (by decide) (fun c14 => ?_) (fun c14 => ?_)
    · refine la_iload_n (i := 1) B dX9_readMany_40 rfl rfl ?_
      exact la_ireturn B rfl (by rw [hr]; simp only [LX9_readMany]) rfl dX9_readMany_41
    · exact absurd hexit c14
  | succ n ih =>
    intro i acc hi hr
    have hcont : ¬ 10 * h 38 0 ≤ nI i := by rw [hN]; exact nI_ge (by omega) (by omega)
    have hb : vp_in (nI i) 40 := vp_in_nI (by omega) (by omega)
    refine la_iload_n (i := 2) B dX9_readMany_4 rfl rfl ?_
    refine la_bipush (v := 10) B dX9_readMany_5 (by decide) ?_
    refine la_aload_n (i := 0) B dX9_readMany_7 rfl rfl ?_
    refine la_get (i := 37) (ci := 9) (j := 0) (C := RX9) (T := TX9) (N := 18) B (lh_nc_lt (by decide)) rfl ix_9 rfl (by decide) wd_673 rfl rfl dX9_readMany_8 ?_
    refine la_iconst (v := 0) B dX9_readMany_11 (by decide) ?_
    refine la_iald (i := 38) (v := h 38 0) B (lh_nc_lt (by decide)) rfl (by unfold vp_in; decide) rfl dX9_readMany_12 ?_
    refine la_imul B dX9_readMany_13 ?_
    refine la_icmp_ge (tgt := 40) B dX9_readMany_14 (by decide) (fun c14 => ?_) (fun c14 => ?_)
    · exact absurd c14 hcont
    · refine la_iload_n (i := 1) B dX9_readMany_17 rfl rfl ?_
      refine la_aload_n (i := 0) B dX9_readMany_18 rfl rfl ?_
      refine la_get (i := 37) (ci := 9) (j := 2) (C := RX9) (T := TX9) (N := 18) B (lh_nc_lt (by decide)) rfl ix_9 rfl (by decide) wd_675 rfl rfl dX9_readMany_19 ?_
      refine la_iload_n (i := 2) B dX9_readMany_22 rfl rfl ?_
      refine la_iald (i := 40) (v := h 40 (nI i).toNatClampNeg) B (lh_nc_lt (by decide)) rfl hb rfl dX9_readMany_23 ?_
      refine la_if_lt (tgt := 31) B dX9_readMany_24 (by decide) (fun c24 => ?_) (fun c24 => ?_)
      · refine la_iconst (v := 0) B dX9_readMany_31 (by decide) ?_
        refine la_iadd B dX9_readMany_32 ?_
        refine la_istore_n (i := 1) B dX9_readMany_33 rfl (by decide) ?_
        refine la_iincp B dX9_readMany_34 rfl (by decide) ?_
        refine la_goto (tgt := 4) B dX9_readMany_37 (by decide) ?_
        refine la_sub (lv2 := [(0, .ref (ad 37)), (1, .int ((acc + 0))), (2, .int (nI (i + 1)))]) ⟨rfl, rfl, (congrArg (fun z => some (Value.int z)) (nI_1 i)), trivial⟩ (by simp [Value.category]) ?_
        exact ih (i + 1) (acc + 0) (by omega) (by rw [hr]; simp only [LX9_readMany, if_pos c24])
      · refine la_iconst (v := 1) B dX9_readMany_27 (by decide) ?_
        refine la_goto (tgt := 32) B dX9_readMany_28 (by decide) ?_
        refine la_iadd B dX9_readMany_32 ?_
        refine la_istore_n (i := 1) B dX9_readMany_33 rfl (by decide) ?_
        refine la_iincp B dX9_readMany_34 rfl (by decide) ?_
        refine la_goto (tgt := 4) B dX9_readMany_37 (by decide) ?_
        refine la_sub (lv2 := [(0, .ref (ad 37)), (1, .int ((acc + 1))), (2, .int (nI (i + 1)))]) ⟨rfl, rfl, (congrArg (fun z => some (Value.int z)) (nI_1 i)), trivial⟩ (by simp [Value.category]) ?_
        exact ih (i + 1) (acc + 1) (by omega) (by rw [hr]; simp only [LX9_readMany, if_neg c24])

def fX9_readMany (h : lh_HS)  : Int32 := (LX9_readMany h (10 * lh_m h 0) 0 0)
set_option maxHeartbeats 4000000 in
set_option maxRecDepth 100000 in
theorem ct_X9_readMany {l : Launch} {D : va_G} {ad : Nat → Nat} {bs : Nat} {cI cZ : ClassId} {t9 : Nat} {k : Bool} (h : lh_HS)  (J : lh_J h) : lh_CTi l D ad bs cI cZ t9 k yX9_readMany cX9_readMany 3 (some .int) 0 [.ref (ad 37)] h (fX9_readMany h ) h := by
  refine lh_ofi (lv := [(0, .ref (ad 37))]) (by decide) (Nat.le_of_ble_eq_true rfl) rfl (by simp [Value.category]) ⟨rfl, trivial⟩ ?_
  intro p e s m args below meth c B
  have B : lh_BK p (lh_rm 0) s m args meth c D ad bs cI cZ t9 k "LightHoursModel" cX9_readMany 3 (some .int) := B
  refine la_iconst (v := 0) B dX9_readMany_0 (by decide) ?_
  refine la_istore_n (i := 1) B dX9_readMany_1 rfl (by decide) ?_
  refine la_iconst (v := 0) B dX9_readMany_2 (by decide) ?_
  refine la_istore_n (i := 2) B dX9_readMany_3 rfl (by decide) ?_
  refine la_sub (lv2 := [(0, .ref (ad 37)), (1, .int 0), (2, .int (nI 0))]) ⟨rfl, rfl, rfl, trivial⟩ (by simp [Value.category]) ?_
  exact lp_X9_readMany h B (by rw [J.1.1.1, show (10 : Int32) = nI 10 from rfl, pk_mul]) (by have := J.1.1.2; omega) _ 0 0 (Nat.zero_add _) (by simp only [fX9_readMany])
