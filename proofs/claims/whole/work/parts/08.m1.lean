def fX8_within (h : lh_HS) (n : Int32) (a : Int32) (b : Int32) : Int32 := (if n < a then 0 else (if b < n then 0 else 1))
set_option maxHeartbeats 4000000 in
set_option maxRecDepth 100000 in
theorem ct_X8_within {l : Launch} {D : va_G} {ad : Nat → Nat} {bs : Nat} {cI cZ : ClassId} {t9 : Nat} {k : Bool} (h : lh_HS) (n : Int32) (a : Int32) (b : Int32)  : lh_CTi l D ad bs cI cZ t9 k yX8_within cX8_within 3 (some .boolean) 0 [.int n, .int a, .int b] h (fX8_within h n a b) h := by
  refine lh_ofi (lv := [(0, .int n), (1, .int a), (2, .int b)]) (by decide) (Nat.le_of_ble_eq_true rfl) rfl (by simp [Value.category]) ⟨rfl, rfl, rfl, trivial⟩ ?_
  intro p e s m args below meth c B
  have B : lh_BK p (lh_rm 0) s m args meth c D ad bs cI cZ t9 k "LightHours" cX8_within 3 (some .boolean) := B
  refine la_iload_n (i := 0) B dX8_within_0 rfl rfl ?_
  refine la_iload_n (i := 1) B dX8_within_1 rfl rfl ?_
  refine la_icmp_lt (tgt := 14) B dX8_within_2 (by decide) (fun c2 => ?_) (fun c2 => ?_)
  · refine la_iconst (v := 0) B dX8_within_14 (by decide) ?_
    exact la_zreturn B rfl (by simp only [fX8_within, if_pos c2]) rfl rfl dX8_within_15
  · refine la_iload_n (i := 0) B dX8_within_5 rfl rfl ?_
    refine la_iload_n (i := 2) B dX8_within_6 rfl rfl ?_
    refine la_icmp_gt (tgt := 14) B dX8_within_7 (by decide) (fun c7 => ?_) (fun c7 => ?_)
    · refine la_iconst (v := 0) B dX8_within_14 (by decide) ?_
      exact la_zreturn B rfl (by simp only [fX8_within, if_neg c2, if_pos c7]) rfl rfl dX8_within_15
    · refine la_iconst (v := 1) B dX8_within_10 (by decide) ?_
      refine la_goto (tgt := 15) B dX8_within_11 (by decide) ?_
      exact la_zreturn B rfl (by simp only [fX8_within, if_neg c2, if_neg c7]) rfl rfl dX8_within_15

theorem bX8_within (h : lh_HS) (n a b : Int32) : fX8_within h n a b = 0 ∨ fX8_within h n a b = 1 := by
  unfold fX8_within
  split
  · exact Or.inl rfl
  · split
    · exact Or.inl rfl
    · exact Or.inr rfl
def fX8_isYear (h : lh_HS) (n : Int32) : Int32 := fX8_within h n 0 9
set_option maxHeartbeats 4000000 in
set_option maxRecDepth 100000 in
theorem ct_X8_isYear {l : Launch} {D : va_G} {ad : Nat → Nat} {bs : Nat} {cI cZ : ClassId} {t9 : Nat} {k : Bool} (h : lh_HS) (n : Int32)  : lh_CTi l D ad bs cI cZ t9 k yX8_isYear cX8_isYear 1 (some .boolean) 1 [.int n] h (fX8_isYear h n) h := by
  refine lh_ofi (lv := [(0, .int n)]) (by decide) (Nat.le_of_ble_eq_true rfl) rfl (by simp [Value.category]) ⟨rfl, trivial⟩ ?_
  intro p e s m args below meth c B
  have B : lh_BK p (lh_rm 1) s m args meth c D ad bs cI cZ t9 k "LightHours" cX8_isYear 1 (some .boolean) := B
  refine la_iload_n (i := 0) B dX8_isYear_0 rfl rfl ?_
  refine la_iconst (v := 0) B dX8_isYear_1 (by decide) ?_
  refine la_bipush (v := 9) B dX8_isYear_2 (by decide) ?_
  refine la_callSi B (ct_X8_within h n 0 9) lk_X8_37 (by decide) rfl (by simp [Value.category]) dX8_isYear_4 ?_
  exact la_zreturn B rfl (by simp only [fX8_isYear]) rfl (lh_nar (bX8_within _ _ _ _)) dX8_isYear_7

def fX4_has (h : lh_HS) (n : Int32) : Int32 := (if n < 0 then 0 else (if (h 2 0) ≤ n then 0 else 1))
set_option maxHeartbeats 4000000 in
set_option maxRecDepth 100000 in
theorem ct_X4_has {l : Launch} {D : va_G} {ad : Nat → Nat} {bs : Nat} {cI cZ : ClassId} {t9 : Nat} {k : Bool} (h : lh_HS) (n : Int32)  : lh_CTi l D ad bs cI cZ t9 k yX4_has cX4_has 2 (some .boolean) 0 [.ref (ad 2), .int n] h (fX4_has h n) h := by
  refine lh_ofi (lv := [(0, .ref (ad 2)), (1, .int n)]) (by decide) (Nat.le_of_ble_eq_true rfl) rfl (by simp [Value.category]) ⟨rfl, rfl, trivial⟩ ?_
  intro p e s m args below meth c B
  have B : lh_BK p (lh_rm 0) s m args meth c D ad bs cI cZ t9 k "LightHours$Rooms" cX4_has 2 (some .boolean) := B
  refine la_iload_n (i := 1) B dX4_has_0 rfl rfl ?_
  refine la_if_lt (tgt := 16) B dX4_has_1 (by decide) (fun c1 => ?_) (fun c1 => ?_)
  · refine la_iconst (v := 0) B dX4_has_16 (by decide) ?_
    exact la_zreturn B rfl (by simp only [fX4_has, if_pos c1]) rfl rfl dX4_has_17
  · refine la_iload_n (i := 1) B dX4_has_4 rfl rfl ?_
    refine la_aload_n (i := 0) B dX4_has_5 rfl rfl ?_
    refine la_get (i := 2) (ci := 4) (j := 0) (v := .int (h 2 0)) (C := RX4) (T := TX4) (N := 3) B (lh_nc_lt (by decide)) rfl ix_4 rfl (by decide) wd_67 rfl rfl dX4_has_6 ?_
    refine la_icmp_ge (tgt := 16) B dX4_has_9 (by decide) (fun c9 => ?_) (fun c9 => ?_)
    · refine la_iconst (v := 0) B dX4_has_16 (by decide) ?_
      exact la_zreturn B rfl (by simp only [fX4_has, if_neg c1, if_pos c9]) rfl rfl dX4_has_17
    · refine la_iconst (v := 1) B dX4_has_12 (by decide) ?_
      refine la_goto (tgt := 17) B dX4_has_13 (by decide) ?_
      exact la_zreturn B rfl (by simp only [fX4_has, if_neg c1, if_neg c9]) rfl rfl dX4_has_17

def fX5_has (h : lh_HS) (n : Int32) : Int32 := (if n < 0 then 0 else (if (h 3 0) ≤ n then 0 else 1))
set_option maxHeartbeats 4000000 in
set_option maxRecDepth 100000 in
theorem ct_X5_has {l : Launch} {D : va_G} {ad : Nat → Nat} {bs : Nat} {cI cZ : ClassId} {t9 : Nat} {k : Bool} (h : lh_HS) (n : Int32)  : lh_CTi l D ad bs cI cZ t9 k yX5_has cX5_has 2 (some .boolean) 0 [.ref (ad 3), .int n] h (fX5_has h n) h := by
  refine lh_ofi (lv := [(0, .ref (ad 3)), (1, .int n)]) (by decide) (Nat.le_of_ble_eq_true rfl) rfl (by simp [Value.category]) ⟨rfl, rfl, trivial⟩ ?_
  intro p e s m args below meth c B
  have B : lh_BK p (lh_rm 0) s m args meth c D ad bs cI cZ t9 k "LightHours$Sheets" cX5_has 2 (some .boolean) := B
  refine la_iload_n (i := 1) B dX5_has_0 rfl rfl ?_
  refine la_if_lt (tgt := 16) B dX5_has_1 (by decide) (fun c1 => ?_) (fun c1 => ?_)
  · refine la_iconst (v := 0) B dX5_has_16 (by decide) ?_
    exact la_zreturn B rfl (by simp only [fX5_has, if_pos c1]) rfl rfl dX5_has_17
  · refine la_iload_n (i := 1) B dX5_has_4 rfl rfl ?_
    refine la_aload_n (i := 0) B dX5_has_5 rfl rfl ?_
    refine la_get (i := 3) (ci := 5) (j := 0) (v := .int (h 3 0)) (C := RX5) (T := TX5) (N := 8) B (lh_nc_lt (by decide)) rfl ix_5 rfl (by decide) wd_86 rfl rfl dX5_has_6 ?_
    refine la_icmp_ge (tgt := 16) B dX5_has_9 (by decide) (fun c9 => ?_) (fun c9 => ?_)
    · refine la_iconst (v := 0) B dX5_has_16 (by decide) ?_
      exact la_zreturn B rfl (by simp only [fX5_has, if_neg c1, if_pos c9]) rfl rfl dX5_has_17
    · refine la_iconst (v := 1) B dX5_has_12 (by decide) ?_
      refine la_goto (tgt := 17) B dX5_has_13 (by decide) ?_
      exact la_zreturn B rfl (by simp only [fX5_has, if_neg c1, if_neg c9]) rfl rfl dX5_has_17

def fX0_has (h : lh_HS) (n : Int32) : Int32 := (if n < 0 then 0 else (if (h 4 0) ≤ n then 0 else 1))
set_option maxHeartbeats 4000000 in
set_option maxRecDepth 100000 in
theorem ct_X0_has {l : Launch} {D : va_G} {ad : Nat → Nat} {bs : Nat} {cI cZ : ClassId} {t9 : Nat} {k : Bool} (h : lh_HS) (n : Int32)  : lh_CTi l D ad bs cI cZ t9 k yX0_has cX0_has 2 (some .boolean) 0 [.ref (ad 4), .int n] h (fX0_has h n) h := by
  refine lh_ofi (lv := [(0, .ref (ad 4)), (1, .int n)]) (by decide) (Nat.le_of_ble_eq_true rfl) rfl (by simp [Value.category]) ⟨rfl, rfl, trivial⟩ ?_
  intro p e s m args below meth c B
  have B : lh_BK p (lh_rm 0) s m args meth c D ad bs cI cZ t9 k "LightHours$Bookings" cX0_has 2 (some .boolean) := B
  refine la_iload_n (i := 1) B dX0_has_0 rfl rfl ?_
  refine la_if_lt (tgt := 16) B dX0_has_1 (by decide) (fun c1 => ?_) (fun c1 => ?_)
  · refine la_iconst (v := 0) B dX0_has_16 (by decide) ?_
    exact la_zreturn B rfl (by simp only [fX0_has, if_pos c1]) rfl rfl dX0_has_17
  · refine la_iload_n (i := 1) B dX0_has_4 rfl rfl ?_
    refine la_aload_n (i := 0) B dX0_has_5 rfl rfl ?_
    refine la_get (i := 4) (ci := 0) (j := 0) (v := .int (h 4 0)) (C := RX0) (T := TX0) (N := 6) B (lh_nc_lt (by decide)) rfl ix_0 rfl (by decide) wd_133 rfl rfl dX0_has_6 ?_
    refine la_icmp_ge (tgt := 16) B dX0_has_9 (by decide) (fun c9 => ?_) (fun c9 => ?_)
    · refine la_iconst (v := 0) B dX0_has_16 (by decide) ?_
      exact la_zreturn B rfl (by simp only [fX0_has, if_neg c1, if_pos c9]) rfl rfl dX0_has_17
    · refine la_iconst (v := 1) B dX0_has_12 (by decide) ?_
      refine la_goto (tgt := 17) B dX0_has_13 (by decide) ?_
      exact la_zreturn B rfl (by simp only [fX0_has, if_neg c1, if_neg c9]) rfl rfl dX0_has_17

def fX7_has (h : lh_HS) (n : Int32) : Int32 := (if n < 0 then 0 else (if (h 6 0) ≤ n then 0 else 1))
set_option maxHeartbeats 4000000 in
set_option maxRecDepth 100000 in
theorem ct_X7_has {l : Launch} {D : va_G} {ad : Nat → Nat} {bs : Nat} {cI cZ : ClassId} {t9 : Nat} {k : Bool} (h : lh_HS) (n : Int32)  : lh_CTi l D ad bs cI cZ t9 k yX7_has cX7_has 2 (some .boolean) 0 [.ref (ad 6), .int n] h (fX7_has h n) h := by
  refine lh_ofi (lv := [(0, .ref (ad 6)), (1, .int n)]) (by decide) (Nat.le_of_ble_eq_true rfl) rfl (by simp [Value.category]) ⟨rfl, rfl, trivial⟩ ?_
  intro p e s m args below meth c B
  have B : lh_BK p (lh_rm 0) s m args meth c D ad bs cI cZ t9 k "LightHours$Walls" cX7_has 2 (some .boolean) := B
  refine la_iload_n (i := 1) B dX7_has_0 rfl rfl ?_
  refine la_if_lt (tgt := 16) B dX7_has_1 (by decide) (fun c1 => ?_) (fun c1 => ?_)
  · refine la_iconst (v := 0) B dX7_has_16 (by decide) ?_
    exact la_zreturn B rfl (by simp only [fX7_has, if_pos c1]) rfl rfl dX7_has_17
  · refine la_iload_n (i := 1) B dX7_has_4 rfl rfl ?_
    refine la_aload_n (i := 0) B dX7_has_5 rfl rfl ?_
    refine la_get (i := 6) (ci := 7) (j := 0) (v := .int (h 6 0)) (C := RX7) (T := TX7) (N := 4) B (lh_nc_lt (by decide)) rfl ix_7 rfl (by decide) wd_193 rfl rfl dX7_has_6 ?_
    refine la_icmp_ge (tgt := 16) B dX7_has_9 (by decide) (fun c9 => ?_) (fun c9 => ?_)
    · refine la_iconst (v := 0) B dX7_has_16 (by decide) ?_
      exact la_zreturn B rfl (by simp only [fX7_has, if_neg c1, if_pos c9]) rfl rfl dX7_has_17
    · refine la_iconst (v := 1) B dX7_has_12 (by decide) ?_
      refine la_goto (tgt := 17) B dX7_has_13 (by decide) ?_
      exact la_zreturn B rfl (by simp only [fX7_has, if_neg c1, if_neg c9]) rfl rfl dX7_has_17

def fX4_lightEnd (h : lh_HS) (n : Int32) (y : Int32) (g : Int32) : Int32 := (if (h 8 ((n * 10) + y).toNatClampNeg) = ((-1)) then (if g = 0 then 0 else h 7 n.toNatClampNeg) else h 8 ((n * 10) + y).toNatClampNeg)
set_option maxHeartbeats 4000000 in
set_option maxRecDepth 100000 in
theorem ct_X4_lightEnd {l : Launch} {D : va_G} {ad : Nat → Nat} {bs : Nat} {cI cZ : ClassId} {t9 : Nat} {k : Bool} (h : lh_HS) (n : Int32) (y : Int32) (g : Int32) (hb : vp_in (n * 10 + y) 40) (hn : vp_in n 4) : lh_CTi l D ad bs cI cZ t9 k yX4_lightEnd cX4_lightEnd 5 (some .int) 0 [.ref (ad 2), .int n, .int y, .int g] h (fX4_lightEnd h n y g) h := by
  refine lh_ofi (lv := [(0, .ref (ad 2)), (1, .int n), (2, .int y), (3, .int g)]) (by decide) (Nat.le_of_ble_eq_true rfl) rfl (by simp [Value.category]) ⟨rfl, rfl, rfl, rfl, trivial⟩ ?_
  intro p e s m args below meth c B
  have B : lh_BK p (lh_rm 0) s m args meth c D ad bs cI cZ t9 k "LightHours$Rooms" cX4_lightEnd 5 (some .int) := B
  refine la_aload_n (i := 0) B dX4_lightEnd_0 rfl rfl ?_
  refine la_get (i := 2) (ci := 4) (j := 2) (C := RX4) (T := TX4) (N := 3) B (lh_nc_lt (by decide)) rfl ix_4 rfl (by decide) wd_71 rfl rfl dX4_lightEnd_1 ?_
  refine la_iload_n (i := 1) B dX4_lightEnd_4 rfl rfl ?_
  refine la_bipush (v := 10) B dX4_lightEnd_5 (by decide) ?_
  refine la_imul B dX4_lightEnd_7 ?_
  refine la_iload_n (i := 2) B dX4_lightEnd_8 rfl rfl ?_
  refine la_iadd B dX4_lightEnd_9 ?_
  refine la_iald (i := 8) (v := h 8 ((n * 10) + y).toNatClampNeg) B (lh_nc_lt (by decide)) rfl hb rfl dX4_lightEnd_10 ?_
  refine la_istore B dX4_lightEnd_11 (by decide) ?_
  refine la_iload B dX4_lightEnd_13 rfl ?_
  refine la_iconst (v := -1) B dX4_lightEnd_15 (by decide) ?_
  refine la_icmp_eq (tgt := 22) B dX4_lightEnd_16 (by decide) (fun c16 => ?_) (fun c16 => ?_)
  · refine la_iload_n (i := 3) B dX4_lightEnd_22 rfl rfl ?_
    refine la_if_eq (tgt := 35) B dX4_lightEnd_23 (by decide) (fun c23 => ?_) (fun c23 => ?_)
    · refine la_iconst (v := 0) B dX4_lightEnd_35 (by decide) ?_
      exact la_ireturn B rfl (by simp only [fX4_lightEnd, if_pos c16, if_pos c23]) rfl dX4_lightEnd_36
    · refine la_aload_n (i := 0) B dX4_lightEnd_26 rfl rfl ?_
      refine la_get (i := 2) (ci := 4) (j := 1) (C := RX4) (T := TX4) (N := 3) B (lh_nc_lt (by decide)) rfl ix_4 rfl (by decide) wd_69 rfl rfl dX4_lightEnd_27 ?_
      refine la_iload_n (i := 1) B dX4_lightEnd_30 rfl rfl ?_
      refine la_iald (i := 7) (v := h 7 n.toNatClampNeg) B (lh_nc_lt (by decide)) rfl hn rfl dX4_lightEnd_31 ?_
      refine la_goto (tgt := 36) B dX4_lightEnd_32 (by decide) ?_
      exact la_ireturn B rfl (by simp only [fX4_lightEnd, if_pos c16, if_neg c23]) rfl dX4_lightEnd_36
  · refine la_iload B dX4_lightEnd_19 rfl ?_
    exact la_ireturn B rfl (by simp only [fX4_lightEnd, if_neg c16]) rfl dX4_lightEnd_21

def gX4_read (h : lh_HS) (n : Int32) (y : Int32) (v : Int32) : lh_HS := lh_up h 8 (((n * 10) + y).toNatClampNeg) v
set_option maxHeartbeats 4000000 in
set_option maxRecDepth 100000 in
theorem ct_X4_read {l : Launch} {D : va_G} {ad : Nat → Nat} {bs : Nat} {cI cZ : ClassId} {t9 : Nat} {k : Bool} (h : lh_HS) (n : Int32) (y : Int32) (v : Int32) (hb : vp_in (n * 10 + y) 40) : lh_CTv l D ad bs cI cZ t9 k yX4_read cX4_read 4 0 [.ref (ad 2), .int n, .int y, .int v] h (gX4_read h n y v) := by
  refine lh_ofv (lv := [(0, .ref (ad 2)), (1, .int n), (2, .int y), (3, .int v)]) (by decide) (Nat.le_of_ble_eq_true rfl) rfl (by simp [Value.category]) ⟨rfl, rfl, rfl, rfl, trivial⟩ ?_
  intro p e s m args below meth c B
  have B : lh_BK p (lh_rm 0) s m args meth c D ad bs cI cZ t9 k "LightHours$Rooms" cX4_read 4 none := B
  refine la_aload_n (i := 0) B dX4_read_0 rfl rfl ?_
  refine la_get (i := 2) (ci := 4) (j := 2) (C := RX4) (T := TX4) (N := 3) B (lh_nc_lt (by decide)) rfl ix_4 rfl (by decide) wd_71 rfl rfl dX4_read_1 ?_
  refine la_iload_n (i := 1) B dX4_read_4 rfl rfl ?_
  refine la_bipush (v := 10) B dX4_read_5 (by decide) ?_
  refine la_imul B dX4_read_7 ?_
  refine la_iload_n (i := 2) B dX4_read_8 rfl rfl ?_
  refine la_iadd B dX4_read_9 ?_
  refine la_iload_n (i := 3) B dX4_read_10 rfl rfl ?_
  refine la_iast (i := 8) (j := ((n * 10) + y).toNatClampNeg) B (lh_nc_lt (by decide)) rfl rfl hb rfl dX4_read_11 ?_
  exact la_return B rfl (by simp only [gX4_read]) dX4_read_12

def fX0_isLoan (h : lh_HS) (n : Int32) : Int32 := (if (h 17 n.toNatClampNeg) = ((-4)) then 1 else 0)
set_option maxHeartbeats 4000000 in
set_option maxRecDepth 100000 in
theorem ct_X0_isLoan {l : Launch} {D : va_G} {ad : Nat → Nat} {bs : Nat} {cI cZ : ClassId} {t9 : Nat} {k : Bool} (h : lh_HS) (n : Int32) (hb : vp_in n 30) : lh_CTi l D ad bs cI cZ t9 k yX0_isLoan cX0_isLoan 2 (some .boolean) 0 [.ref (ad 4), .int n] h (fX0_isLoan h n) h := by
  refine lh_ofi (lv := [(0, .ref (ad 4)), (1, .int n)]) (by decide) (Nat.le_of_ble_eq_true rfl) rfl (by simp [Value.category]) ⟨rfl, rfl, trivial⟩ ?_
  intro p e s m args below meth c B
  have B : lh_BK p (lh_rm 0) s m args meth c D ad bs cI cZ t9 k "LightHours$Bookings" cX0_isLoan 2 (some .boolean) := B
  refine la_aload_n (i := 0) B dX0_isLoan_0 rfl rfl ?_
  refine la_get (i := 4) (ci := 0) (j := 2) (C := RX0) (T := TX0) (N := 6) B (lh_nc_lt (by decide)) rfl ix_0 rfl (by decide) wd_138 rfl rfl dX0_isLoan_1 ?_
  refine la_iload_n (i := 1) B dX0_isLoan_4 rfl rfl ?_
  refine la_iald (i := 17) (v := h 17 n.toNatClampNeg) B (lh_nc_lt (by decide)) rfl hb rfl dX0_isLoan_5 ?_
  refine la_bipush (v := -4) B dX0_isLoan_6 (by decide) ?_
  refine la_icmp_ne (tgt := 15) B dX0_isLoan_8 (by decide) (fun c8 => ?_) (fun c8 => ?_)
  · refine la_iconst (v := 0) B dX0_isLoan_15 (by decide) ?_
    exact la_zreturn B rfl (by simp only [fX0_isLoan, if_neg c8]) rfl rfl dX0_isLoan_16
  · refine la_iconst (v := 1) B dX0_isLoan_11 (by decide) ?_
    refine la_goto (tgt := 16) B dX0_isLoan_12 (by decide) ?_
    exact la_zreturn B rfl (by simp only [fX0_isLoan, if_pos c8]) rfl rfl dX0_isLoan_16

def fX0_standsFor (h : lh_HS) (n : Int32) (s : Int32) : Int32 := (if (h 16 n.toNatClampNeg) = s then (if (h 20 n.toNatClampNeg) = 0 then 1 else 0) else 0)
set_option maxHeartbeats 4000000 in
set_option maxRecDepth 100000 in
theorem ct_X0_standsFor {l : Launch} {D : va_G} {ad : Nat → Nat} {bs : Nat} {cI cZ : ClassId} {t9 : Nat} {k : Bool} (h : lh_HS) (n : Int32) (s : Int32) (hb : vp_in n 30) : lh_CTi l D ad bs cI cZ t9 k yX0_standsFor cX0_standsFor 3 (some .boolean) 0 [.ref (ad 4), .int n, .int s] h (fX0_standsFor h n s) h := by
  refine lh_ofi (lv := [(0, .ref (ad 4)), (1, .int n), (2, .int s)]) (by decide) (Nat.le_of_ble_eq_true rfl) rfl (by simp [Value.category]) ⟨rfl, rfl, rfl, trivial⟩ ?_
  intro p e s m args below meth c B
  have B : lh_BK p (lh_rm 0) s m args meth c D ad bs cI cZ t9 k "LightHours$Bookings" cX0_standsFor 3 (some .boolean) := B
  refine la_aload_n (i := 0) B dX0_standsFor_0 rfl rfl ?_
  refine la_get (i := 4) (ci := 0) (j := 1) (C := RX0) (T := TX0) (N := 6) B (lh_nc_lt (by decide)) rfl ix_0 rfl (by decide) wd_136 rfl rfl dX0_standsFor_1 ?_
  refine la_iload_n (i := 1) B dX0_standsFor_4 rfl rfl ?_
  refine la_iald (i := 16) (v := h 16 n.toNatClampNeg) B (lh_nc_lt (by decide)) rfl hb rfl dX0_standsFor_5 ?_
  refine la_iload_n (i := 2) B dX0_standsFor_6 rfl rfl ?_
  refine la_icmp_ne (tgt := 23) B dX0_standsFor_7 (by decide) (fun c7 => ?_) (fun c7 => ?_)
  · refine la_iconst (v := 0) B dX0_standsFor_23 (by decide) ?_
    exact la_zreturn B rfl (by simp only [fX0_standsFor, if_neg c7]) rfl rfl dX0_standsFor_24
  · refine la_aload_n (i := 0) B dX0_standsFor_10 rfl rfl ?_
    refine la_get (i := 4) (ci := 0) (j := 5) (C := RX0) (T := TX0) (N := 6) B (lh_nc_lt (by decide)) rfl ix_0 rfl (by decide) wd_147 rfl rfl dX0_standsFor_11 ?_
    refine la_iload_n (i := 1) B dX0_standsFor_14 rfl rfl ?_
    refine la_zald (i := 20) (v := h 20 n.toNatClampNeg) B (lh_nc_lt (by decide)) rfl hb rfl dX0_standsFor_15 ?_
    refine la_if_ne (tgt := 23) B dX0_standsFor_16 (by decide) (fun c16 => ?_) (fun c16 => ?_)
    · refine la_iconst (v := 0) B dX0_standsFor_23 (by decide) ?_
      exact la_zreturn B rfl (by simp only [fX0_standsFor, if_pos c7, if_neg c16]) rfl rfl dX0_standsFor_24
    · refine la_iconst (v := 1) B dX0_standsFor_19 (by decide) ?_
      refine la_goto (tgt := 24) B dX0_standsFor_20 (by decide) ?_
      exact la_zreturn B rfl (by simp only [fX0_standsFor, if_pos c7, if_pos c16]) rfl rfl dX0_standsFor_24

def fX5_hasTheme (h : lh_HS) (n : Int32) (t : Int32) : Int32 := (if (((h 10 n.toNatClampNeg) >>> (t &&& 31)) &&& 1) = 1 then 1 else 0)
set_option maxHeartbeats 4000000 in
set_option maxRecDepth 100000 in
theorem ct_X5_hasTheme {l : Launch} {D : va_G} {ad : Nat → Nat} {bs : Nat} {cI cZ : ClassId} {t9 : Nat} {k : Bool} (h : lh_HS) (n : Int32) (t : Int32) (hb : vp_in n 8) : lh_CTi l D ad bs cI cZ t9 k yX5_hasTheme cX5_hasTheme 3 (some .boolean) 0 [.ref (ad 3), .int n, .int t] h (fX5_hasTheme h n t) h := by
  refine lh_ofi (lv := [(0, .ref (ad 3)), (1, .int n), (2, .int t)]) (by decide) (Nat.le_of_ble_eq_true rfl) rfl (by simp [Value.category]) ⟨rfl, rfl, rfl, trivial⟩ ?_
  intro p e s m args below meth c B
  have B : lh_BK p (lh_rm 0) s m args meth c D ad bs cI cZ t9 k "LightHours$Sheets" cX5_hasTheme 3 (some .boolean) := B
  refine la_aload_n (i := 0) B dX5_hasTheme_0 rfl rfl ?_
  refine la_get (i := 3) (ci := 5) (j := 2) (C := RX5) (T := TX5) (N := 8) B (lh_nc_lt (by decide)) rfl ix_5 rfl (by decide) wd_93 rfl rfl dX5_hasTheme_1 ?_
  refine la_iload_n (i := 1) B dX5_hasTheme_4 rfl rfl ?_
  refine la_iald (i := 10) (v := h 10 n.toNatClampNeg) B (lh_nc_lt (by decide)) rfl hb rfl dX5_hasTheme_5 ?_
  refine la_iload_n (i := 2) B dX5_hasTheme_6 rfl rfl ?_
  refine la_ishr B dX5_hasTheme_7 ?_
  refine la_iconst (v := 1) B dX5_hasTheme_8 (by decide) ?_
  refine la_iand B dX5_hasTheme_9 ?_
  refine la_iconst (v := 1) B dX5_hasTheme_10 (by decide) ?_
  refine la_icmp_ne (tgt := 18) B dX5_hasTheme_11 (by decide) (fun c11 => ?_) (fun c11 => ?_)
  · refine la_iconst (v := 0) B dX5_hasTheme_18 (by decide) ?_
    exact la_zreturn B rfl (by simp only [fX5_hasTheme, if_neg c11]) rfl rfl dX5_hasTheme_19
  · refine la_iconst (v := 1) B dX5_hasTheme_14 (by decide) ?_
    refine la_goto (tgt := 19) B dX5_hasTheme_15 (by decide) ?_
    exact la_zreturn B rfl (by simp only [fX5_hasTheme, if_pos c11]) rfl rfl dX5_hasTheme_19

def fX3_pastEnd (h : lh_HS) (g : Int32) : Int32 := (if g = 0 then h 27 3 else h 27 4)
set_option maxHeartbeats 4000000 in
set_option maxRecDepth 100000 in
theorem ct_X3_pastEnd {l : Launch} {D : va_G} {ad : Nat → Nat} {bs : Nat} {cI cZ : ClassId} {t9 : Nat} {k : Bool} (h : lh_HS) (g : Int32)  : lh_CTi l D ad bs cI cZ t9 k yX3_pastEnd cX3_pastEnd 2 (some .int) 0 [.ref (ad 27), .int g] h (fX3_pastEnd h g) h := by
  refine lh_ofi (lv := [(0, .ref (ad 27)), (1, .int g)]) (by decide) (Nat.le_of_ble_eq_true rfl) rfl (by simp [Value.category]) ⟨rfl, rfl, trivial⟩ ?_
  intro p e s m args below meth c B
  have B : lh_BK p (lh_rm 0) s m args meth c D ad bs cI cZ t9 k "LightHours$Ledger" cX3_pastEnd 2 (some .int) := B
  refine la_iload_n (i := 1) B dX3_pastEnd_0 rfl rfl ?_
  refine la_if_eq (tgt := 11) B dX3_pastEnd_1 (by decide) (fun c1 => ?_) (fun c1 => ?_)
  · refine la_aload_n (i := 0) B dX3_pastEnd_11 rfl rfl ?_
    refine la_get (i := 27) (ci := 3) (j := 3) (v := .int (h 27 3)) (C := RX3) (T := TX3) (N := 7) B (lh_nc_lt (by decide)) rfl ix_3 rfl (by decide) wd_251 rfl rfl dX3_pastEnd_12 ?_
    exact la_ireturn B rfl (by simp only [fX3_pastEnd, if_pos c1]) rfl dX3_pastEnd_15
  · refine la_aload_n (i := 0) B dX3_pastEnd_4 rfl rfl ?_
    refine la_get (i := 27) (ci := 3) (j := 4) (v := .int (h 27 4)) (C := RX3) (T := TX3) (N := 7) B (lh_nc_lt (by decide)) rfl ix_3 rfl (by decide) wd_252 rfl rfl dX3_pastEnd_5 ?_
    refine la_goto (tgt := 15) B dX3_pastEnd_8 (by decide) ?_
    exact la_ireturn B rfl (by simp only [fX3_pastEnd, if_neg c1]) rfl dX3_pastEnd_15

def fX3_spentEnd (h : lh_HS) (y : Int32) (g : Int32) : Int32 := (if g = 0 then (h 27 3) + (h 28 y.toNatClampNeg) else (h 27 4) + (h 29 y.toNatClampNeg))
set_option maxHeartbeats 4000000 in
set_option maxRecDepth 100000 in
theorem ct_X3_spentEnd {l : Launch} {D : va_G} {ad : Nat → Nat} {bs : Nat} {cI cZ : ClassId} {t9 : Nat} {k : Bool} (h : lh_HS) (y : Int32) (g : Int32) (hb : vp_in y 10) : lh_CTi l D ad bs cI cZ t9 k yX3_spentEnd cX3_spentEnd 3 (some .int) 0 [.ref (ad 27), .int y, .int g] h (fX3_spentEnd h y g) h := by
  refine lh_ofi (lv := [(0, .ref (ad 27)), (1, .int y), (2, .int g)]) (by decide) (Nat.le_of_ble_eq_true rfl) rfl (by simp [Value.category]) ⟨rfl, rfl, rfl, trivial⟩ ?_
  intro p e s m args below meth c B
  have B : lh_BK p (lh_rm 0) s m args meth c D ad bs cI cZ t9 k "LightHours$Ledger" cX3_spentEnd 3 (some .int) := B
  refine la_iload_n (i := 2) B dX3_spentEnd_0 rfl rfl ?_
  refine la_if_eq (tgt := 18) B dX3_spentEnd_1 (by decide) (fun c1 => ?_) (fun c1 => ?_)
  · refine la_aload_n (i := 0) B dX3_spentEnd_18 rfl rfl ?_
    refine la_get (i := 27) (ci := 3) (j := 3) (v := .int (h 27 3)) (C := RX3) (T := TX3) (N := 7) B (lh_nc_lt (by decide)) rfl ix_3 rfl (by decide) wd_251 rfl rfl dX3_spentEnd_19 ?_
    refine la_aload_n (i := 0) B dX3_spentEnd_22 rfl rfl ?_
    refine la_get (i := 27) (ci := 3) (j := 5) (C := RX3) (T := TX3) (N := 7) B (lh_nc_lt (by decide)) rfl ix_3 rfl (by decide) wd_253 rfl rfl dX3_spentEnd_23 ?_
    refine la_iload_n (i := 1) B dX3_spentEnd_26 rfl rfl ?_
    refine la_iald (i := 28) (v := h 28 y.toNatClampNeg) B (lh_nc_lt (by decide)) rfl hb rfl dX3_spentEnd_27 ?_
    refine la_iadd B dX3_spentEnd_28 ?_
    exact la_ireturn B rfl (by simp only [fX3_spentEnd, if_pos c1]) rfl dX3_spentEnd_29
  · refine la_aload_n (i := 0) B dX3_spentEnd_4 rfl rfl ?_
    refine la_get (i := 27) (ci := 3) (j := 4) (v := .int (h 27 4)) (C := RX3) (T := TX3) (N := 7) B (lh_nc_lt (by decide)) rfl ix_3 rfl (by decide) wd_252 rfl rfl dX3_spentEnd_5 ?_
    refine la_aload_n (i := 0) B dX3_spentEnd_8 rfl rfl ?_
    refine la_get (i := 27) (ci := 3) (j := 6) (C := RX3) (T := TX3) (N := 7) B (lh_nc_lt (by decide)) rfl ix_3 rfl (by decide) wd_254 rfl rfl dX3_spentEnd_9 ?_
    refine la_iload_n (i := 1) B dX3_spentEnd_12 rfl rfl ?_
    refine la_iald (i := 29) (v := h 29 y.toNatClampNeg) B (lh_nc_lt (by decide)) rfl hb rfl dX3_spentEnd_13 ?_
    refine la_iadd B dX3_spentEnd_14 ?_
    refine la_goto (tgt := 29) B dX3_spentEnd_15 (by decide) ?_
    exact la_ireturn B rfl (by simp only [fX3_spentEnd, if_neg c1]) rfl dX3_spentEnd_29

def fX3_leftEnd (h : lh_HS) (g : Int32) : Int32 := (if g = 0 then (h 9 (h 27 1).toNatClampNeg) - (fX3_spentEnd h 9 1) else (h 9 (h 27 1).toNatClampNeg) - (fX3_spentEnd h 9 0))
set_option maxHeartbeats 4000000 in
set_option maxRecDepth 100000 in
theorem ct_X3_leftEnd {l : Launch} {D : va_G} {ad : Nat → Nat} {bs : Nat} {cI cZ : ClassId} {t9 : Nat} {k : Bool} (h : lh_HS) (g : Int32) (hb : vp_in (h 27 1) 8) : lh_CTi l D ad bs cI cZ t9 k yX3_leftEnd cX3_leftEnd 2 (some .int) 1 [.ref (ad 27), .int g] h (fX3_leftEnd h g) h := by
  refine lh_ofi (lv := [(0, .ref (ad 27)), (1, .int g)]) (by decide) (Nat.le_of_ble_eq_true rfl) rfl (by simp [Value.category]) ⟨rfl, rfl, trivial⟩ ?_
  intro p e s m args below meth c B
  have B : lh_BK p (lh_rm 1) s m args meth c D ad bs cI cZ t9 k "LightHours$Ledger" cX3_leftEnd 2 (some .int) := B
  refine la_aload_n (i := 0) B dX3_leftEnd_0 rfl rfl ?_
  refine la_get (i := 27) (ci := 3) (j := 0) (C := RX3) (T := TX3) (N := 7) B (lh_nc_lt (by decide)) rfl ix_3 rfl (by decide) wd_247 rfl rfl dX3_leftEnd_1 ?_
  refine la_get (i := 1) (ci := 2) (j := 1) (C := RX2) (T := TX2) (N := 5) B (lh_nc_lt (by decide)) rfl ix_2 rfl (by decide) wd_217 rfl rfl dX3_leftEnd_4 ?_
  refine la_get (i := 3) (ci := 5) (j := 1) (C := RX5) (T := TX5) (N := 8) B (lh_nc_lt (by decide)) rfl ix_5 rfl (by decide) wd_91 rfl rfl dX3_leftEnd_7 ?_
  refine la_aload_n (i := 0) B dX3_leftEnd_10 rfl rfl ?_
  refine la_get (i := 27) (ci := 3) (j := 1) (v := .int (h 27 1)) (C := RX3) (T := TX3) (N := 7) B (lh_nc_lt (by decide)) rfl ix_3 rfl (by decide) wd_248 rfl rfl dX3_leftEnd_11 ?_
  refine la_iald (i := 9) (v := h 9 (h 27 1).toNatClampNeg) B (lh_nc_lt (by decide)) rfl hb rfl dX3_leftEnd_14 ?_
  refine la_aload_n (i := 0) B dX3_leftEnd_15 rfl rfl ?_
  refine la_bipush (v := 9) B dX3_leftEnd_16 (by decide) ?_
  refine la_iload_n (i := 1) B dX3_leftEnd_18 rfl rfl ?_
  refine la_if_ne (tgt := 26) B dX3_leftEnd_19 (by decide) (fun c19 => ?_) (fun c19 => ?_)
  · refine la_iconst (v := 0) B dX3_leftEnd_26 (by decide) ?_
    refine la_callVi (i := 27) B (ct_X3_spentEnd h 9 0 (by unfold vp_in; decide)) lk_X3_104 (by decide) (lh_nc_lt (by decide)) rfl rfl rfl (by simp [Value.category]) dX3_leftEnd_27 ?_
    refine la_isub B dX3_leftEnd_30 ?_
    exact la_ireturn B rfl (by simp only [fX3_leftEnd, if_neg c19]) rfl dX3_leftEnd_31
  · refine la_iconst (v := 1) B dX3_leftEnd_22 (by decide) ?_
    refine la_goto (tgt := 27) B dX3_leftEnd_23 (by decide) ?_
    refine la_callVi (i := 27) B (ct_X3_spentEnd h 9 1 (by unfold vp_in; decide)) lk_X3_104 (by decide) (lh_nc_lt (by decide)) rfl rfl rfl (by simp [Value.category]) dX3_leftEnd_27 ?_
    refine la_isub B dX3_leftEnd_30 ?_
    exact la_ireturn B rfl (by simp only [fX3_leftEnd, if_pos c19]) rfl dX3_leftEnd_31

def fX2_spendEnd (h : lh_HS) (b : Int32) (g : Int32) : Int32 := (if (fX0_isLoan h b) = 0 then fX4_lightEnd h (h 17 b.toNatClampNeg) (h 18 b.toNatClampNeg) g else h 19 b.toNatClampNeg)
set_option maxHeartbeats 4000000 in
set_option maxRecDepth 100000 in
theorem ct_X2_spendEnd {l : Launch} {D : va_G} {ad : Nat → Nat} {bs : Nat} {cI cZ : ClassId} {t9 : Nat} {k : Bool} (h : lh_HS) (b : Int32) (g : Int32) (hb : vp_in b 30) (h1 : fX0_isLoan h b = 0 → vp_in (h 17 b.toNatClampNeg * 10 + h 18 b.toNatClampNeg) 40) (h2 : fX0_isLoan h b = 0 → vp_in (h 17 b.toNatClampNeg) 4) : lh_CTi l D ad bs cI cZ t9 k yX2_spendEnd cX2_spendEnd 3 (some .int) 1 [.ref (ad 1), .int b, .int g] h (fX2_spendEnd h b g) h := by
  refine lh_ofi (lv := [(0, .ref (ad 1)), (1, .int b), (2, .int g)]) (by decide) (Nat.le_of_ble_eq_true rfl) rfl (by simp [Value.category]) ⟨rfl, rfl, rfl, trivial⟩ ?_
  intro p e s m args below meth c B
  have B : lh_BK p (lh_rm 1) s m args meth c D ad bs cI cZ t9 k "LightHours$House" cX2_spendEnd 3 (some .int) := B
  refine la_aload_n (i := 0) B dX2_spendEnd_0 rfl rfl ?_
  refine la_get (i := 1) (ci := 2) (j := 2) (C := RX2) (T := TX2) (N := 5) B (lh_nc_lt (by decide)) rfl ix_2 rfl (by decide) wd_220 rfl rfl dX2_spendEnd_1 ?_
  refine la_iload_n (i := 1) B dX2_spendEnd_4 rfl rfl ?_
  refine la_callVi (i := 4) B (ct_X0_isLoan h b hb) lk_X2_44 (by decide) (lh_nc_lt (by decide)) rfl rfl rfl (by simp [Value.category]) dX2_spendEnd_5 ?_
  refine la_if_eq (tgt := 21) B dX2_spendEnd_8 (by decide) (fun c8 => ?_) (fun c8 => ?_)
  · refine la_aload_n (i := 0) B dX2_spendEnd_21 rfl rfl ?_
    refine la_get (i := 1) (ci := 2) (j := 0) (C := RX2) (T := TX2) (N := 5) B (lh_nc_lt (by decide)) rfl ix_2 rfl (by decide) wd_213 rfl rfl dX2_spendEnd_22 ?_
    refine la_aload_n (i := 0) B dX2_spendEnd_25 rfl rfl ?_
    refine la_get (i := 1) (ci := 2) (j := 2) (C := RX2) (T := TX2) (N := 5) B (lh_nc_lt (by decide)) rfl ix_2 rfl (by decide) wd_220 rfl rfl dX2_spendEnd_26 ?_
    refine la_get (i := 4) (ci := 0) (j := 2) (C := RX0) (T := TX0) (N := 6) B (lh_nc_lt (by decide)) rfl ix_0 rfl (by decide) wd_139 rfl rfl dX2_spendEnd_29 ?_
    refine la_iload_n (i := 1) B dX2_spendEnd_32 rfl rfl ?_
    refine la_iald (i := 17) (v := h 17 b.toNatClampNeg) B (lh_nc_lt (by decide)) rfl hb rfl dX2_spendEnd_33 ?_
    refine la_aload_n (i := 0) B dX2_spendEnd_34 rfl rfl ?_
    refine la_get (i := 1) (ci := 2) (j := 2) (C := RX2) (T := TX2) (N := 5) B (lh_nc_lt (by decide)) rfl ix_2 rfl (by decide) wd_220 rfl rfl dX2_spendEnd_35 ?_
    refine la_get (i := 4) (ci := 0) (j := 3) (C := RX0) (T := TX0) (N := 6) B (lh_nc_lt (by decide)) rfl ix_0 rfl (by decide) wd_142 rfl rfl dX2_spendEnd_38 ?_
    refine la_iload_n (i := 1) B dX2_spendEnd_41 rfl rfl ?_
    refine la_iald (i := 18) (v := h 18 b.toNatClampNeg) B (lh_nc_lt (by decide)) rfl hb rfl dX2_spendEnd_42 ?_
    refine la_iload_n (i := 2) B dX2_spendEnd_43 rfl rfl ?_
    refine la_callVi (i := 2) B (ct_X4_lightEnd h (h 17 b.toNatClampNeg) (h 18 b.toNatClampNeg) g (h1 c8) (h2 c8)) lk_X2_58 (by decide) (lh_nc_lt (by decide)) rfl rfl rfl (by simp [Value.category]) dX2_spendEnd_44 ?_
    exact la_ireturn B rfl (by simp only [fX2_spendEnd, if_pos c8]) rfl dX2_spendEnd_47
  · refine la_aload_n (i := 0) B dX2_spendEnd_11 rfl rfl ?_
    refine la_get (i := 1) (ci := 2) (j := 2) (C := RX2) (T := TX2) (N := 5) B (lh_nc_lt (by decide)) rfl ix_2 rfl (by decide) wd_220 rfl rfl dX2_spendEnd_12 ?_
    refine la_get (i := 4) (ci := 0) (j := 4) (C := RX0) (T := TX0) (N := 6) B (lh_nc_lt (by decide)) rfl ix_0 rfl (by decide) wd_146 rfl rfl dX2_spendEnd_15 ?_
    refine la_iload_n (i := 1) B dX2_spendEnd_18 rfl rfl ?_
    refine la_iald (i := 19) (v := h 19 b.toNatClampNeg) B (lh_nc_lt (by decide)) rfl hb rfl dX2_spendEnd_19 ?_
    exact la_ireturn B rfl (by simp only [fX2_spendEnd, if_neg c8]) rfl dX2_spendEnd_20

def gX1_forget (h : lh_HS)  : lh_HS := lh_up h 30 2 0
set_option maxHeartbeats 4000000 in
set_option maxRecDepth 100000 in
theorem ct_X1_forget {l : Launch} {D : va_G} {ad : Nat → Nat} {bs : Nat} {cI cZ : ClassId} {t9 : Nat} {k : Bool} (h : lh_HS)   : lh_CTv l D ad bs cI cZ t9 k yX1_forget cX1_forget 1 0 [.ref (ad 30)] h (gX1_forget h ) := by
  refine lh_ofv (lv := [(0, .ref (ad 30))]) (by decide) (Nat.le_of_ble_eq_true rfl) rfl (by simp [Value.category]) ⟨rfl, trivial⟩ ?_
  intro p e s m args below meth c B
  have B : lh_BK p (lh_rm 0) s m args meth c D ad bs cI cZ t9 k "LightHours$Hanging" cX1_forget 1 none := B
  refine la_aload_n (i := 0) B dX1_forget_0 rfl rfl ?_
  refine la_iconst (v := 0) B dX1_forget_1 (by decide) ?_
  refine la_put (i := 30) (ci := 1) (j := 2) (C := RX1) (T := TX1) (N := 10) (ty0 := tyX1) B (lh_nc_lt (by decide)) rfl rfl ix_1 tyX1_ok nmX1 rfl (by decide) wd_278 rfl rfl rfl rfl rfl (Nat.le_of_ble_eq_true rfl) dX1_forget_2 ?_
  exact la_return B rfl (by simp only [gX1_forget]) dX1_forget_5

def fX8_changed (h : lh_HS) (a : Int32) : Int32 := a
def gX8_changed (h : lh_HS) (a : Int32) : lh_HS := gX1_forget h 
set_option maxHeartbeats 4000000 in
set_option maxRecDepth 100000 in
theorem ct_X8_changed {l : Launch} {D : va_G} {ad : Nat → Nat} {bs : Nat} {cI cZ : ClassId} {t9 : Nat} {k : Bool} (h : lh_HS) (a : Int32)  : lh_CTi l D ad bs cI cZ t9 k yX8_changed cX8_changed 2 (some .int) 1 [.ref (ad 0), .int a] h (fX8_changed h a) (gX8_changed h a) := by
  refine lh_ofi (lv := [(0, .ref (ad 0)), (1, .int a)]) (by decide) (Nat.le_of_ble_eq_true rfl) rfl (by simp [Value.category]) ⟨rfl, rfl, trivial⟩ ?_
  intro p e s m args below meth c B
  have B : lh_BK p (lh_rm 1) s m args meth c D ad bs cI cZ t9 k "LightHours" cX8_changed 2 (some .int) := B
  refine la_aload_n (i := 0) B dX8_changed_0 rfl rfl ?_
  refine la_get (i := 0) (ci := 8) (j := 2) (C := RX8) (T := TX8) (N := 4) B (lh_nc_lt (by decide)) rfl ix_8 rfl (by decide) wd_311 rfl rfl dX8_changed_1 ?_
  refine la_callVv (i := 30) B (ct_X1_forget h ) lk_X8_230 (by decide) (lh_nc_lt (by decide)) rfl rfl rfl (by simp [Value.category]) dX8_changed_4 ?_
  refine la_iload_n (i := 1) B dX8_changed_7 rfl rfl ?_
  exact la_ireturn B rfl (by simp only [fX8_changed]) (by simp only [gX8_changed]) dX8_changed_8

def fX0_add (h : lh_HS) (a : Int32) (b : Int32) (y : Int32) (z : Int32) : Int32 := (if (h 4 0) < 30 then ((h 4 0) + 1) - 1 else (-2))
def gX0_add (h : lh_HS) (a : Int32) (b : Int32) (y : Int32) (z : Int32) : lh_HS := (if (h 4 0) < 30 then lh_up (lh_up (lh_up (lh_up (lh_up (lh_up h 16 ((h 4 0).toNatClampNeg) a) 17 ((h 4 0).toNatClampNeg) b) 18 ((h 4 0).toNatClampNeg) y) 19 ((h 4 0).toNatClampNeg) z) 20 ((h 4 0).toNatClampNeg) 0) 4 0 ((h 4 0) + 1) else h)
set_option maxHeartbeats 4000000 in
set_option maxRecDepth 100000 in
theorem ct_X0_add {l : Launch} {D : va_G} {ad : Nat → Nat} {bs : Nat} {cI cZ : ClassId} {t9 : Nat} {k : Bool} (h : lh_HS) (a : Int32) (b : Int32) (y : Int32) (z : Int32) (hb : h 4 0 < 30 → vp_in (h 4 0) 30) : lh_CTi l D ad bs cI cZ t9 k yX0_add cX0_add 5 (some .int) 0 [.ref (ad 4), .int a, .int b, .int y, .int z] h (fX0_add h a b y z) (gX0_add h a b y z) := by
  refine lh_ofi (lv := [(0, .ref (ad 4)), (1, .int a), (2, .int b), (3, .int y), (4, .int z)]) (by decide) (Nat.le_of_ble_eq_true rfl) rfl (by simp [Value.category]) ⟨rfl, rfl, rfl, rfl, rfl, trivial⟩ ?_
  intro p e s m args below meth c B
  have B : lh_BK p (lh_rm 0) s m args meth c D ad bs cI cZ t9 k "LightHours$Bookings" cX0_add 5 (some .int) := B
  refine la_aload_n (i := 0) B dX0_add_0 rfl rfl ?_
  refine la_get (i := 4) (ci := 0) (j := 0) (v := .int (h 4 0)) (C := RX0) (T := TX0) (N := 6) B (lh_nc_lt (by decide)) rfl ix_0 rfl (by decide) wd_133 rfl rfl dX0_add_1 ?_
  refine la_bipush (v := 30) B dX0_add_4 (by decide) ?_
  refine la_icmp_lt (tgt := 12) B dX0_add_6 (by decide) (fun c6 => ?_) (fun c6 => ?_)
  · refine la_aload_n (i := 0) B dX0_add_12 rfl rfl ?_
    refine la_get (i := 4) (ci := 0) (j := 1) (C := RX0) (T := TX0) (N := 6) B (lh_nc_lt (by decide)) rfl ix_0 rfl (by decide) wd_136 rfl rfl dX0_add_13 ?_
    refine la_aload_n (i := 0) B dX0_add_16 rfl rfl ?_
    refine la_get (i := 4) (ci := 0) (j := 0) (v := .int (h 4 0)) (C := RX0) (T := TX0) (N := 6) B (lh_nc_lt (by decide)) rfl ix_0 rfl (by decide) wd_133 rfl rfl dX0_add_17 ?_
    refine la_iload_n (i := 1) B dX0_add_20 rfl rfl ?_
    refine la_iast (i := 16) (j := (h 4 0).toNatClampNeg) B (lh_nc_lt (by decide)) rfl rfl (hb c6) rfl dX0_add_21 ?_
    refine la_aload_n (i := 0) B dX0_add_22 rfl rfl ?_
    refine la_get (i := 4) (ci := 0) (j := 2) (C := RX0) (T := TX0) (N := 6) B (lh_nc_lt (by decide)) rfl ix_0 rfl (by decide) wd_138 rfl rfl dX0_add_23 ?_
    refine la_aload_n (i := 0) B dX0_add_26 rfl rfl ?_
    refine la_get (i := 4) (ci := 0) (j := 0) (v := .int (h 4 0)) (C := RX0) (T := TX0) (N := 6) B (lh_nc_lt (by decide)) rfl ix_0 rfl (by decide) wd_133 rfl rfl dX0_add_27 ?_
    refine la_iload_n (i := 2) B dX0_add_30 rfl rfl ?_
    refine la_iast (i := 17) (j := (h 4 0).toNatClampNeg) B (lh_nc_lt (by decide)) rfl rfl (hb c6) rfl dX0_add_31 ?_
    refine la_aload_n (i := 0) B dX0_add_32 rfl rfl ?_
    refine la_get (i := 4) (ci := 0) (j := 3) (C := RX0) (T := TX0) (N := 6) B (lh_nc_lt (by decide)) rfl ix_0 rfl (by decide) wd_141 rfl rfl dX0_add_33 ?_
    refine la_aload_n (i := 0) B dX0_add_36 rfl rfl ?_
    refine la_get (i := 4) (ci := 0) (j := 0) (v := .int (h 4 0)) (C := RX0) (T := TX0) (N := 6) B (lh_nc_lt (by decide)) rfl ix_0 rfl (by decide) wd_133 rfl rfl dX0_add_37 ?_
    refine la_iload_n (i := 3) B dX0_add_40 rfl rfl ?_
    refine la_iast (i := 18) (j := (h 4 0).toNatClampNeg) B (lh_nc_lt (by decide)) rfl rfl (hb c6) rfl dX0_add_41 ?_
    refine la_aload_n (i := 0) B dX0_add_42 rfl rfl ?_
    refine la_get (i := 4) (ci := 0) (j := 4) (C := RX0) (T := TX0) (N := 6) B (lh_nc_lt (by decide)) rfl ix_0 rfl (by decide) wd_145 rfl rfl dX0_add_43 ?_
    refine la_aload_n (i := 0) B dX0_add_46 rfl rfl ?_
    refine la_get (i := 4) (ci := 0) (j := 0) (v := .int (h 4 0)) (C := RX0) (T := TX0) (N := 6) B (lh_nc_lt (by decide)) rfl ix_0 rfl (by decide) wd_133 rfl rfl dX0_add_47 ?_
    refine la_iload B dX0_add_50 rfl ?_
    refine la_iast (i := 19) (j := (h 4 0).toNatClampNeg) B (lh_nc_lt (by decide)) rfl rfl (hb c6) rfl dX0_add_52 ?_
    refine la_aload_n (i := 0) B dX0_add_53 rfl rfl ?_
    refine la_get (i := 4) (ci := 0) (j := 5) (C := RX0) (T := TX0) (N := 6) B (lh_nc_lt (by decide)) rfl ix_0 rfl (by decide) wd_147 rfl rfl dX0_add_54 ?_
    refine la_aload_n (i := 0) B dX0_add_57 rfl rfl ?_
    refine la_get (i := 4) (ci := 0) (j := 0) (v := .int (h 4 0)) (C := RX0) (T := TX0) (N := 6) B (lh_nc_lt (by decide)) rfl ix_0 rfl (by decide) wd_133 rfl rfl dX0_add_58 ?_
    refine la_iconst (v := 0) B dX0_add_61 (by decide) ?_
    refine la_zast (i := 20) (j := (h 4 0).toNatClampNeg) B (lh_nc_lt (by decide)) rfl rfl (hb c6) rfl rfl dX0_add_62 ?_
    refine la_aload_n (i := 0) B dX0_add_63 rfl rfl ?_
    refine la_dup B dX0_add_64 rfl ?_
    refine la_get (i := 4) (ci := 0) (j := 0) (v := .int (h 4 0)) (C := RX0) (T := TX0) (N := 6) B (lh_nc_lt (by decide)) rfl ix_0 rfl (by decide) wd_133 rfl rfl dX0_add_65 ?_
    refine la_iconst (v := 1) B dX0_add_68 (by decide) ?_
    refine la_iadd B dX0_add_69 ?_
    refine la_put (i := 4) (ci := 0) (j := 0) (C := RX0) (T := TX0) (N := 6) (ty0 := tyX0) B (lh_nc_lt (by decide)) rfl rfl ix_0 tyX0_ok nmX0 rfl (by decide) wd_133 rfl rfl rfl rfl rfl (Nat.le_of_ble_eq_true rfl) dX0_add_70 ?_
    refine la_aload_n (i := 0) B dX0_add_73 rfl rfl ?_
    refine la_get (i := 4) (ci := 0) (j := 0) (v := .int ((h 4 0) + 1)) (C := RX0) (T := TX0) (N := 6) B (lh_nc_lt (by decide)) rfl ix_0 rfl (by decide) wd_133 rfl rfl dX0_add_74 ?_
    refine la_iconst (v := 1) B dX0_add_77 (by decide) ?_
    refine la_isub B dX0_add_78 ?_
    exact la_ireturn B rfl (by simp only [fX0_add, if_pos c6]) (by simp only [gX0_add, if_pos c6]) dX0_add_79
  · refine la_bipush (v := -2) B dX0_add_9 (by decide) ?_
    exact la_ireturn B rfl (by simp only [fX0_add, if_neg c6]) (by simp only [gX0_add, if_neg c6]) dX0_add_11

def fX0_addShow (h : lh_HS) (a : Int32) (b : Int32) (y : Int32) : Int32 := fX0_add h a b y 0
def gX0_addShow (h : lh_HS) (a : Int32) (b : Int32) (y : Int32) : lh_HS := gX0_add h a b y 0
set_option maxHeartbeats 4000000 in
set_option maxRecDepth 100000 in
theorem ct_X0_addShow {l : Launch} {D : va_G} {ad : Nat → Nat} {bs : Nat} {cI cZ : ClassId} {t9 : Nat} {k : Bool} (h : lh_HS) (a : Int32) (b : Int32) (y : Int32) (hb : h 4 0 < 30 → vp_in (h 4 0) 30) : lh_CTi l D ad bs cI cZ t9 k yX0_addShow cX0_addShow 4 (some .int) 1 [.ref (ad 4), .int a, .int b, .int y] h (fX0_addShow h a b y) (gX0_addShow h a b y) := by
  refine lh_ofi (lv := [(0, .ref (ad 4)), (1, .int a), (2, .int b), (3, .int y)]) (by decide) (Nat.le_of_ble_eq_true rfl) rfl (by simp [Value.category]) ⟨rfl, rfl, rfl, rfl, trivial⟩ ?_
  intro p e s m args below meth c B
  have B : lh_BK p (lh_rm 1) s m args meth c D ad bs cI cZ t9 k "LightHours$Bookings" cX0_addShow 4 (some .int) := B
  refine la_aload_n (i := 0) B dX0_addShow_0 rfl rfl ?_
  refine la_iload_n (i := 1) B dX0_addShow_1 rfl rfl ?_
  refine la_iload_n (i := 2) B dX0_addShow_2 rfl rfl ?_
  refine la_iload_n (i := 3) B dX0_addShow_3 rfl rfl ?_
  refine la_iconst (v := 0) B dX0_addShow_4 (by decide) ?_
  refine la_callVi (i := 4) B (ct_X0_add h a b y 0 hb) lk_X0_32 (by decide) (lh_nc_lt (by decide)) rfl rfl rfl (by simp [Value.category]) dX0_addShow_5 ?_
  exact la_ireturn B rfl (by simp only [fX0_addShow]) (by simp only [gX0_addShow]) dX0_addShow_8

def fX0_addLoan (h : lh_HS) (a : Int32) (b : Int32) (y : Int32) : Int32 := fX0_add h a ((-4)) b y
def gX0_addLoan (h : lh_HS) (a : Int32) (b : Int32) (y : Int32) : lh_HS := gX0_add h a ((-4)) b y
set_option maxHeartbeats 4000000 in
set_option maxRecDepth 100000 in
theorem ct_X0_addLoan {l : Launch} {D : va_G} {ad : Nat → Nat} {bs : Nat} {cI cZ : ClassId} {t9 : Nat} {k : Bool} (h : lh_HS) (a : Int32) (b : Int32) (y : Int32) (hb : h 4 0 < 30 → vp_in (h 4 0) 30) : lh_CTi l D ad bs cI cZ t9 k yX0_addLoan cX0_addLoan 4 (some .int) 1 [.ref (ad 4), .int a, .int b, .int y] h (fX0_addLoan h a b y) (gX0_addLoan h a b y) := by
  refine lh_ofi (lv := [(0, .ref (ad 4)), (1, .int a), (2, .int b), (3, .int y)]) (by decide) (Nat.le_of_ble_eq_true rfl) rfl (by simp [Value.category]) ⟨rfl, rfl, rfl, rfl, trivial⟩ ?_
  intro p e s m args below meth c B
  have B : lh_BK p (lh_rm 1) s m args meth c D ad bs cI cZ t9 k "LightHours$Bookings" cX0_addLoan 4 (some .int) := B
  refine la_aload_n (i := 0) B dX0_addLoan_0 rfl rfl ?_
  refine la_iload_n (i := 1) B dX0_addLoan_1 rfl rfl ?_
  refine la_bipush (v := -4) B dX0_addLoan_2 (by decide) ?_
  refine la_iload_n (i := 2) B dX0_addLoan_4 rfl rfl ?_
  refine la_iload_n (i := 3) B dX0_addLoan_5 rfl rfl ?_
  refine la_callVi (i := 4) B (ct_X0_add h a ((-4)) b y hb) lk_X0_32 (by decide) (lh_nc_lt (by decide)) rfl rfl rfl (by simp [Value.category]) dX0_addLoan_6 ?_
  exact la_ireturn B rfl (by simp only [fX0_addLoan]) (by simp only [gX0_addLoan]) dX0_addLoan_9

def fX6_add (h : lh_HS) (a : Int32) (b : Int32) (y : Int32) : Int32 := (if (h 5 0) < 12 then ((h 5 0) + 1) - 1 else (-2))
def gX6_add (h : lh_HS) (a : Int32) (b : Int32) (y : Int32) : lh_HS := (if (h 5 0) < 12 then lh_up (lh_up (lh_up (lh_up h 21 ((h 5 0).toNatClampNeg) a) 22 ((h 5 0).toNatClampNeg) b) 23 ((h 5 0).toNatClampNeg) y) 5 0 ((h 5 0) + 1) else h)
set_option maxHeartbeats 4000000 in
set_option maxRecDepth 100000 in
theorem ct_X6_add {l : Launch} {D : va_G} {ad : Nat → Nat} {bs : Nat} {cI cZ : ClassId} {t9 : Nat} {k : Bool} (h : lh_HS) (a : Int32) (b : Int32) (y : Int32) (hb : vp_in (h 5 0) 12) : lh_CTi l D ad bs cI cZ t9 k yX6_add cX6_add 4 (some .int) 0 [.ref (ad 5), .int a, .int b, .int y] h (fX6_add h a b y) (gX6_add h a b y) := by
  refine lh_ofi (lv := [(0, .ref (ad 5)), (1, .int a), (2, .int b), (3, .int y)]) (by decide) (Nat.le_of_ble_eq_true rfl) rfl (by simp [Value.category]) ⟨rfl, rfl, rfl, rfl, trivial⟩ ?_
  intro p e s m args below meth c B
  have B : lh_BK p (lh_rm 0) s m args meth c D ad bs cI cZ t9 k "LightHours$Threads" cX6_add 4 (some .int) := B
  refine la_aload_n (i := 0) B dX6_add_0 rfl rfl ?_
  refine la_get (i := 5) (ci := 6) (j := 0) (v := .int (h 5 0)) (C := RX6) (T := TX6) (N := 4) B (lh_nc_lt (by decide)) rfl ix_6 rfl (by decide) wd_169 rfl rfl dX6_add_1 ?_
  refine la_bipush (v := 12) B dX6_add_4 (by decide) ?_
  refine la_icmp_lt (tgt := 12) B dX6_add_6 (by decide) (fun c6 => ?_) (fun c6 => ?_)
  · refine la_aload_n (i := 0) B dX6_add_12 rfl rfl ?_
    refine la_get (i := 5) (ci := 6) (j := 1) (C := RX6) (T := TX6) (N := 4) B (lh_nc_lt (by decide)) rfl ix_6 rfl (by decide) wd_172 rfl rfl dX6_add_13 ?_
    refine la_aload_n (i := 0) B dX6_add_16 rfl rfl ?_
    refine la_get (i := 5) (ci := 6) (j := 0) (v := .int (h 5 0)) (C := RX6) (T := TX6) (N := 4) B (lh_nc_lt (by decide)) rfl ix_6 rfl (by decide) wd_169 rfl rfl dX6_add_17 ?_
    refine la_iload_n (i := 1) B dX6_add_20 rfl rfl ?_
    refine la_iast (i := 21) (j := (h 5 0).toNatClampNeg) B (lh_nc_lt (by decide)) rfl rfl hb rfl dX6_add_21 ?_
    refine la_aload_n (i := 0) B dX6_add_22 rfl rfl ?_
    refine la_get (i := 5) (ci := 6) (j := 2) (C := RX6) (T := TX6) (N := 4) B (lh_nc_lt (by decide)) rfl ix_6 rfl (by decide) wd_174 rfl rfl dX6_add_23 ?_
    refine la_aload_n (i := 0) B dX6_add_26 rfl rfl ?_
    refine la_get (i := 5) (ci := 6) (j := 0) (v := .int (h 5 0)) (C := RX6) (T := TX6) (N := 4) B (lh_nc_lt (by decide)) rfl ix_6 rfl (by decide) wd_169 rfl rfl dX6_add_27 ?_
    refine la_iload_n (i := 2) B dX6_add_30 rfl rfl ?_
    refine la_iast (i := 22) (j := (h 5 0).toNatClampNeg) B (lh_nc_lt (by decide)) rfl rfl hb rfl dX6_add_31 ?_
    refine la_aload_n (i := 0) B dX6_add_32 rfl rfl ?_
    refine la_get (i := 5) (ci := 6) (j := 3) (C := RX6) (T := TX6) (N := 4) B (lh_nc_lt (by decide)) rfl ix_6 rfl (by decide) wd_176 rfl rfl dX6_add_33 ?_
    refine la_aload_n (i := 0) B dX6_add_36 rfl rfl ?_
    refine la_get (i := 5) (ci := 6) (j := 0) (v := .int (h 5 0)) (C := RX6) (T := TX6) (N := 4) B (lh_nc_lt (by decide)) rfl ix_6 rfl (by decide) wd_169 rfl rfl dX6_add_37 ?_
    refine la_iload_n (i := 3) B dX6_add_40 rfl rfl ?_
    refine la_iast (i := 23) (j := (h 5 0).toNatClampNeg) B (lh_nc_lt (by decide)) rfl rfl hb rfl dX6_add_41 ?_
    refine la_aload_n (i := 0) B dX6_add_42 rfl rfl ?_
    refine la_dup B dX6_add_43 rfl ?_
    refine la_get (i := 5) (ci := 6) (j := 0) (v := .int (h 5 0)) (C := RX6) (T := TX6) (N := 4) B (lh_nc_lt (by decide)) rfl ix_6 rfl (by decide) wd_169 rfl rfl dX6_add_44 ?_
    refine la_iconst (v := 1) B dX6_add_47 (by decide) ?_
    refine la_iadd B dX6_add_48 ?_
    refine la_put (i := 5) (ci := 6) (j := 0) (C := RX6) (T := TX6) (N := 4) (ty0 := tyX6) B (lh_nc_lt (by decide)) rfl rfl ix_6 tyX6_ok nmX6 rfl (by decide) wd_169 rfl rfl rfl rfl rfl (Nat.le_of_ble_eq_true rfl) dX6_add_49 ?_
    refine la_aload_n (i := 0) B dX6_add_52 rfl rfl ?_
    refine la_get (i := 5) (ci := 6) (j := 0) (v := .int ((h 5 0) + 1)) (C := RX6) (T := TX6) (N := 4) B (lh_nc_lt (by decide)) rfl ix_6 rfl (by decide) wd_169 rfl rfl dX6_add_53 ?_
    refine la_iconst (v := 1) B dX6_add_56 (by decide) ?_
    refine la_isub B dX6_add_57 ?_
    exact la_ireturn B rfl (by simp only [fX6_add, if_pos c6]) (by simp only [gX6_add, if_pos c6]) dX6_add_58
  · refine la_bipush (v := -2) B dX6_add_9 (by decide) ?_
    exact la_ireturn B rfl (by simp only [fX6_add, if_neg c6]) (by simp only [gX6_add, if_neg c6]) dX6_add_11

def fX7_add (h : lh_HS) (a : Int32) (b : Int32) (y : Int32) : Int32 := (if (h 6 0) < 5 then ((h 6 0) + 1) - 1 else (-2))
def gX7_add (h : lh_HS) (a : Int32) (b : Int32) (y : Int32) : lh_HS := (if (h 6 0) < 5 then lh_up (lh_up (lh_up (lh_up h 24 ((h 6 0).toNatClampNeg) a) 25 ((h 6 0).toNatClampNeg) b) 26 ((h 6 0).toNatClampNeg) y) 6 0 ((h 6 0) + 1) else h)
set_option maxHeartbeats 4000000 in
set_option maxRecDepth 100000 in
theorem ct_X7_add {l : Launch} {D : va_G} {ad : Nat → Nat} {bs : Nat} {cI cZ : ClassId} {t9 : Nat} {k : Bool} (h : lh_HS) (a : Int32) (b : Int32) (y : Int32) (hb : vp_in (h 6 0) 5) : lh_CTi l D ad bs cI cZ t9 k yX7_add cX7_add 4 (some .int) 0 [.ref (ad 6), .int a, .int b, .int y] h (fX7_add h a b y) (gX7_add h a b y) := by
  refine lh_ofi (lv := [(0, .ref (ad 6)), (1, .int a), (2, .int b), (3, .int y)]) (by decide) (Nat.le_of_ble_eq_true rfl) rfl (by simp [Value.category]) ⟨rfl, rfl, rfl, rfl, trivial⟩ ?_
  intro p e s m args below meth c B
  have B : lh_BK p (lh_rm 0) s m args meth c D ad bs cI cZ t9 k "LightHours$Walls" cX7_add 4 (some .int) := B
  refine la_aload_n (i := 0) B dX7_add_0 rfl rfl ?_
  refine la_get (i := 6) (ci := 7) (j := 0) (v := .int (h 6 0)) (C := RX7) (T := TX7) (N := 4) B (lh_nc_lt (by decide)) rfl ix_7 rfl (by decide) wd_193 rfl rfl dX7_add_1 ?_
  refine la_iconst (v := 5) B dX7_add_4 (by decide) ?_
  refine la_icmp_lt (tgt := 11) B dX7_add_5 (by decide) (fun c5 => ?_) (fun c5 => ?_)
  · refine la_aload_n (i := 0) B dX7_add_11 rfl rfl ?_
    refine la_get (i := 6) (ci := 7) (j := 1) (C := RX7) (T := TX7) (N := 4) B (lh_nc_lt (by decide)) rfl ix_7 rfl (by decide) wd_196 rfl rfl dX7_add_12 ?_
    refine la_aload_n (i := 0) B dX7_add_15 rfl rfl ?_
    refine la_get (i := 6) (ci := 7) (j := 0) (v := .int (h 6 0)) (C := RX7) (T := TX7) (N := 4) B (lh_nc_lt (by decide)) rfl ix_7 rfl (by decide) wd_193 rfl rfl dX7_add_16 ?_
    refine la_iload_n (i := 1) B dX7_add_19 rfl rfl ?_
    refine la_iast (i := 24) (j := (h 6 0).toNatClampNeg) B (lh_nc_lt (by decide)) rfl rfl hb rfl dX7_add_20 ?_
    refine la_aload_n (i := 0) B dX7_add_21 rfl rfl ?_
    refine la_get (i := 6) (ci := 7) (j := 2) (C := RX7) (T := TX7) (N := 4) B (lh_nc_lt (by decide)) rfl ix_7 rfl (by decide) wd_199 rfl rfl dX7_add_22 ?_
    refine la_aload_n (i := 0) B dX7_add_25 rfl rfl ?_
    refine la_get (i := 6) (ci := 7) (j := 0) (v := .int (h 6 0)) (C := RX7) (T := TX7) (N := 4) B (lh_nc_lt (by decide)) rfl ix_7 rfl (by decide) wd_193 rfl rfl dX7_add_26 ?_
    refine la_iload_n (i := 2) B dX7_add_29 rfl rfl ?_
    refine la_iast (i := 25) (j := (h 6 0).toNatClampNeg) B (lh_nc_lt (by decide)) rfl rfl hb rfl dX7_add_30 ?_
    refine la_aload_n (i := 0) B dX7_add_31 rfl rfl ?_
    refine la_get (i := 6) (ci := 7) (j := 3) (C := RX7) (T := TX7) (N := 4) B (lh_nc_lt (by decide)) rfl ix_7 rfl (by decide) wd_202 rfl rfl dX7_add_32 ?_
    refine la_aload_n (i := 0) B dX7_add_35 rfl rfl ?_
    refine la_get (i := 6) (ci := 7) (j := 0) (v := .int (h 6 0)) (C := RX7) (T := TX7) (N := 4) B (lh_nc_lt (by decide)) rfl ix_7 rfl (by decide) wd_193 rfl rfl dX7_add_36 ?_
    refine la_iload_n (i := 3) B dX7_add_39 rfl rfl ?_
    refine la_iast (i := 26) (j := (h 6 0).toNatClampNeg) B (lh_nc_lt (by decide)) rfl rfl hb rfl dX7_add_40 ?_
    refine la_aload_n (i := 0) B dX7_add_41 rfl rfl ?_
    refine la_dup B dX7_add_42 rfl ?_
    refine la_get (i := 6) (ci := 7) (j := 0) (v := .int (h 6 0)) (C := RX7) (T := TX7) (N := 4) B (lh_nc_lt (by decide)) rfl ix_7 rfl (by decide) wd_193 rfl rfl dX7_add_43 ?_
    refine la_iconst (v := 1) B dX7_add_46 (by decide) ?_
    refine la_iadd B dX7_add_47 ?_
    refine la_put (i := 6) (ci := 7) (j := 0) (C := RX7) (T := TX7) (N := 4) (ty0 := tyX7) B (lh_nc_lt (by decide)) rfl rfl ix_7 tyX7_ok nmX7 rfl (by decide) wd_193 rfl rfl rfl rfl rfl (Nat.le_of_ble_eq_true rfl) dX7_add_48 ?_
    refine la_aload_n (i := 0) B dX7_add_51 rfl rfl ?_
    refine la_get (i := 6) (ci := 7) (j := 0) (v := .int ((h 6 0) + 1)) (C := RX7) (T := TX7) (N := 4) B (lh_nc_lt (by decide)) rfl ix_7 rfl (by decide) wd_193 rfl rfl dX7_add_52 ?_
    refine la_iconst (v := 1) B dX7_add_55 (by decide) ?_
    refine la_isub B dX7_add_56 ?_
    exact la_ireturn B rfl (by simp only [fX7_add, if_pos c5]) (by simp only [gX7_add, if_pos c5]) dX7_add_57
  · refine la_bipush (v := -2) B dX7_add_8 (by decide) ?_
    exact la_ireturn B rfl (by simp only [fX7_add, if_neg c5]) (by simp only [gX7_add, if_neg c5]) dX7_add_10

def fX5_add (h : lh_HS) (a : Int32) (b : Int32) (y : Int32) (z : Int32) : Int32 := (if (h 3 0) < 8 then ((h 3 0) + 1) - 1 else (-2))
def gX5_add (h : lh_HS) (a : Int32) (b : Int32) (y : Int32) (z : Int32) : lh_HS := (if (h 3 0) < 8 then lh_up (lh_up (lh_up (lh_up (lh_up (lh_up (lh_up (lh_up h 9 ((h 3 0).toNatClampNeg) a) 10 ((h 3 0).toNatClampNeg) b) 11 ((h 3 0).toNatClampNeg) y) 12 ((h 3 0).toNatClampNeg) z) 13 ((h 3 0).toNatClampNeg) (((-4)))) 14 ((h 3 0).toNatClampNeg) 0) 15 ((h 3 0).toNatClampNeg) 0) 3 0 ((h 3 0) + 1) else h)
set_option maxHeartbeats 4000000 in
set_option maxRecDepth 100000 in
theorem ct_X5_add {l : Launch} {D : va_G} {ad : Nat → Nat} {bs : Nat} {cI cZ : ClassId} {t9 : Nat} {k : Bool} (h : lh_HS) (a : Int32) (b : Int32) (y : Int32) (z : Int32) (hb : vp_in (h 3 0) 8) : lh_CTi l D ad bs cI cZ t9 k yX5_add cX5_add 5 (some .int) 0 [.ref (ad 3), .int a, .int b, .int y, .int z] h (fX5_add h a b y z) (gX5_add h a b y z) := by
  refine lh_ofi (lv := [(0, .ref (ad 3)), (1, .int a), (2, .int b), (3, .int y), (4, .int z)]) (by decide) (Nat.le_of_ble_eq_true rfl) rfl (by simp [Value.category]) ⟨rfl, rfl, rfl, rfl, rfl, trivial⟩ ?_
  intro p e s m args below meth c B
  have B : lh_BK p (lh_rm 0) s m args meth c D ad bs cI cZ t9 k "LightHours$Sheets" cX5_add 5 (some .int) := B
  refine la_aload_n (i := 0) B dX5_add_0 rfl rfl ?_
  refine la_get (i := 3) (ci := 5) (j := 0) (v := .int (h 3 0)) (C := RX5) (T := TX5) (N := 8) B (lh_nc_lt (by decide)) rfl ix_5 rfl (by decide) wd_86 rfl rfl dX5_add_1 ?_
  refine la_bipush (v := 8) B dX5_add_4 (by decide) ?_
  refine la_icmp_lt (tgt := 12) B dX5_add_6 (by decide) (fun c6 => ?_) (fun c6 => ?_)
  · refine la_aload_n (i := 0) B dX5_add_12 rfl rfl ?_
    refine la_get (i := 3) (ci := 5) (j := 1) (C := RX5) (T := TX5) (N := 8) B (lh_nc_lt (by decide)) rfl ix_5 rfl (by decide) wd_90 rfl rfl dX5_add_13 ?_
    refine la_aload_n (i := 0) B dX5_add_16 rfl rfl ?_
    refine la_get (i := 3) (ci := 5) (j := 0) (v := .int (h 3 0)) (C := RX5) (T := TX5) (N := 8) B (lh_nc_lt (by decide)) rfl ix_5 rfl (by decide) wd_86 rfl rfl dX5_add_17 ?_
    refine la_iload_n (i := 1) B dX5_add_20 rfl rfl ?_
    refine la_iast (i := 9) (j := (h 3 0).toNatClampNeg) B (lh_nc_lt (by decide)) rfl rfl hb rfl dX5_add_21 ?_
    refine la_aload_n (i := 0) B dX5_add_22 rfl rfl ?_
    refine la_get (i := 3) (ci := 5) (j := 2) (C := RX5) (T := TX5) (N := 8) B (lh_nc_lt (by decide)) rfl ix_5 rfl (by decide) wd_93 rfl rfl dX5_add_23 ?_
    refine la_aload_n (i := 0) B dX5_add_26 rfl rfl ?_
    refine la_get (i := 3) (ci := 5) (j := 0) (v := .int (h 3 0)) (C := RX5) (T := TX5) (N := 8) B (lh_nc_lt (by decide)) rfl ix_5 rfl (by decide) wd_86 rfl rfl dX5_add_27 ?_
    refine la_iload_n (i := 2) B dX5_add_30 rfl rfl ?_
    refine la_iast (i := 10) (j := (h 3 0).toNatClampNeg) B (lh_nc_lt (by decide)) rfl rfl hb rfl dX5_add_31 ?_
    refine la_aload_n (i := 0) B dX5_add_32 rfl rfl ?_
    refine la_get (i := 3) (ci := 5) (j := 3) (C := RX5) (T := TX5) (N := 8) B (lh_nc_lt (by decide)) rfl ix_5 rfl (by decide) wd_95 rfl rfl dX5_add_33 ?_
    refine la_aload_n (i := 0) B dX5_add_36 rfl rfl ?_
    refine la_get (i := 3) (ci := 5) (j := 0) (v := .int (h 3 0)) (C := RX5) (T := TX5) (N := 8) B (lh_nc_lt (by decide)) rfl ix_5 rfl (by decide) wd_86 rfl rfl dX5_add_37 ?_
    refine la_iload_n (i := 3) B dX5_add_40 rfl rfl ?_
    refine la_iast (i := 11) (j := (h 3 0).toNatClampNeg) B (lh_nc_lt (by decide)) rfl rfl hb rfl dX5_add_41 ?_
    refine la_aload_n (i := 0) B dX5_add_42 rfl rfl ?_
    refine la_get (i := 3) (ci := 5) (j := 4) (C := RX5) (T := TX5) (N := 8) B (lh_nc_lt (by decide)) rfl ix_5 rfl (by decide) wd_98 rfl rfl dX5_add_43 ?_
    refine la_aload_n (i := 0) B dX5_add_46 rfl rfl ?_
    refine la_get (i := 3) (ci := 5) (j := 0) (v := .int (h 3 0)) (C := RX5) (T := TX5) (N := 8) B (lh_nc_lt (by decide)) rfl ix_5 rfl (by decide) wd_86 rfl rfl dX5_add_47 ?_
    refine la_iload B dX5_add_50 rfl ?_
    refine la_iast (i := 12) (j := (h 3 0).toNatClampNeg) B (lh_nc_lt (by decide)) rfl rfl hb rfl dX5_add_52 ?_
    refine la_aload_n (i := 0) B dX5_add_53 rfl rfl ?_
    refine la_get (i := 3) (ci := 5) (j := 5) (C := RX5) (T := TX5) (N := 8) B (lh_nc_lt (by decide)) rfl ix_5 rfl (by decide) wd_101 rfl rfl dX5_add_54 ?_
    refine la_aload_n (i := 0) B dX5_add_57 rfl rfl ?_
    refine la_get (i := 3) (ci := 5) (j := 0) (v := .int (h 3 0)) (C := RX5) (T := TX5) (N := 8) B (lh_nc_lt (by decide)) rfl ix_5 rfl (by decide) wd_86 rfl rfl dX5_add_58 ?_
    refine la_bipush (v := -4) B dX5_add_61 (by decide) ?_
    refine la_iast (i := 13) (j := (h 3 0).toNatClampNeg) B (lh_nc_lt (by decide)) rfl rfl hb rfl dX5_add_63 ?_
    refine la_aload_n (i := 0) B dX5_add_64 rfl rfl ?_
    refine la_get (i := 3) (ci := 5) (j := 6) (C := RX5) (T := TX5) (N := 8) B (lh_nc_lt (by decide)) rfl ix_5 rfl (by decide) wd_104 rfl rfl dX5_add_65 ?_
    refine la_aload_n (i := 0) B dX5_add_68 rfl rfl ?_
    refine la_get (i := 3) (ci := 5) (j := 0) (v := .int (h 3 0)) (C := RX5) (T := TX5) (N := 8) B (lh_nc_lt (by decide)) rfl ix_5 rfl (by decide) wd_86 rfl rfl dX5_add_69 ?_
    refine la_iconst (v := 0) B dX5_add_72 (by decide) ?_
    refine la_iast (i := 14) (j := (h 3 0).toNatClampNeg) B (lh_nc_lt (by decide)) rfl rfl hb rfl dX5_add_73 ?_
    refine la_aload_n (i := 0) B dX5_add_74 rfl rfl ?_
    refine la_get (i := 3) (ci := 5) (j := 7) (C := RX5) (T := TX5) (N := 8) B (lh_nc_lt (by decide)) rfl ix_5 rfl (by decide) wd_107 rfl rfl dX5_add_75 ?_
    refine la_aload_n (i := 0) B dX5_add_78 rfl rfl ?_
    refine la_get (i := 3) (ci := 5) (j := 0) (v := .int (h 3 0)) (C := RX5) (T := TX5) (N := 8) B (lh_nc_lt (by decide)) rfl ix_5 rfl (by decide) wd_86 rfl rfl dX5_add_79 ?_
    refine la_iconst (v := 0) B dX5_add_82 (by decide) ?_
    refine la_iast (i := 15) (j := (h 3 0).toNatClampNeg) B (lh_nc_lt (by decide)) rfl rfl hb rfl dX5_add_83 ?_
    refine la_aload_n (i := 0) B dX5_add_84 rfl rfl ?_
    refine la_dup B dX5_add_85 rfl ?_
    refine la_get (i := 3) (ci := 5) (j := 0) (v := .int (h 3 0)) (C := RX5) (T := TX5) (N := 8) B (lh_nc_lt (by decide)) rfl ix_5 rfl (by decide) wd_86 rfl rfl dX5_add_86 ?_
    refine la_iconst (v := 1) B dX5_add_89 (by decide) ?_
    refine la_iadd B dX5_add_90 ?_
    refine la_put (i := 3) (ci := 5) (j := 0) (C := RX5) (T := TX5) (N := 8) (ty0 := tyX5) B (lh_nc_lt (by decide)) rfl rfl ix_5 tyX5_ok nmX5 rfl (by decide) wd_86 rfl rfl rfl rfl rfl (Nat.le_of_ble_eq_true rfl) dX5_add_91 ?_
    refine la_aload_n (i := 0) B dX5_add_94 rfl rfl ?_
    refine la_get (i := 3) (ci := 5) (j := 0) (v := .int ((h 3 0) + 1)) (C := RX5) (T := TX5) (N := 8) B (lh_nc_lt (by decide)) rfl ix_5 rfl (by decide) wd_86 rfl rfl dX5_add_95 ?_
    refine la_iconst (v := 1) B dX5_add_98 (by decide) ?_
    refine la_isub B dX5_add_99 ?_
    exact la_ireturn B rfl (by simp only [fX5_add, if_pos c6]) (by simp only [gX5_add, if_pos c6]) dX5_add_100
  · refine la_bipush (v := -2) B dX5_add_9 (by decide) ?_
    exact la_ireturn B rfl (by simp only [fX5_add, if_neg c6]) (by simp only [gX5_add, if_neg c6]) dX5_add_11
