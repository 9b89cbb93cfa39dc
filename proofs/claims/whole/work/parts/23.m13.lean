def fX9_keep (h : lh_HS) : Int32 := 1
def gX9_keep (h : lh_HS) : lh_HS := lh_up (gX9_moveAll h 1) 37 8 1
set_option maxHeartbeats 4000000 in
set_option maxRecDepth 100000 in
theorem ct_X9_keep0 {l : Launch} {D : va_G} {ad : Nat → Nat} {bs : Nat} {cI cZ : ClassId} {t9 : Nat} {k : Bool} (h h2 : lh_HS) (hm : lh_CTv l D ad bs cI cZ t9 k yX9_moveAll cX9_moveAll 2 1 [.ref (ad 37), .int 1] h h2) : lh_CTi l D ad bs cI cZ t9 k yX9_keep cX9_keep 1 (some .int) 8 [.ref (ad 37)] h 1 (lh_up h2 37 8 1) := by
  refine lh_ofi (lv := [(0, .ref (ad 37))]) (by decide) (Nat.le_of_ble_eq_true rfl) rfl (by simp [Value.category]) ⟨rfl, trivial⟩ ?_
  intro p e s m args below meth c B
  have B : lh_BK p (lh_rm 8) s m args meth c D ad bs cI cZ t9 k "LightHoursModel" cX9_keep 1 (some .int) := B
  refine la_aload_n (i := 0) B dX9_keep_0 rfl rfl ?_
  refine la_iconst (v := 1) B dX9_keep_1 (by decide) ?_
  refine la_callVv (i := 37) B hm lk_X9_160 (by decide) (lh_nc_lt (by decide)) rfl rfl rfl (by simp [Value.category]) dX9_keep_2 ?_
  refine la_aload_n (i := 0) B dX9_keep_5 rfl rfl ?_
  refine la_iconst (v := 1) B dX9_keep_6 (by decide) ?_
  refine la_put (i := 37) (ci := 9) (j := 8) (C := RX9) (T := TX9) (N := 18) (ty0 := tyX9) B (lh_nc_lt (by decide)) rfl rfl ix_9 tyX9_ok nmX9 rfl (by decide) wd_681 rfl rfl rfl rfl rfl (Nat.le_of_ble_eq_true rfl) dX9_keep_7 ?_
  refine la_iconst (v := 1) B dX9_keep_10 (by decide) ?_
  exact la_ireturn B rfl rfl rfl dX9_keep_11
theorem ct_X9_keep {l : Launch} {D : va_G} {ad : Nat → Nat} {bs : Nat} {cI cZ : ClassId} {t9 : Nat} {k : Bool} (h : lh_HS) : lh_CTi l D ad bs cI cZ t9 k yX9_keep cX9_keep 1 (some .int) 8 [.ref (ad 37)] h (fX9_keep h) (gX9_keep h) :=
  ct_X9_keep0 h (gX9_moveAll h 1) (ct_X9_moveAll h 1)
def fX9_back (h : lh_HS)  : Int32 := (if (h 37 8) = 0 then (-4) else 1)
def gX9_back (h : lh_HS)  : lh_HS := (if (h 37 8) = 0 then h else gX9_moveAll h 0)
set_option maxHeartbeats 4000000 in
set_option maxRecDepth 100000 in
theorem ct_X9_back {l : Launch} {D : va_G} {ad : Nat → Nat} {bs : Nat} {cI cZ : ClassId} {t9 : Nat} {k : Bool} (h : lh_HS)   : lh_CTi l D ad bs cI cZ t9 k yX9_back cX9_back 1 (some .int) 8 [.ref (ad 37)] h (fX9_back h ) (gX9_back h ) := by
  refine lh_ofi (lv := [(0, .ref (ad 37))]) (by decide) (Nat.le_of_ble_eq_true rfl) rfl (by simp [Value.category]) ⟨rfl, trivial⟩ ?_
  intro p e s m args below meth c B
  have B : lh_BK p (lh_rm 8) s m args meth c D ad bs cI cZ t9 k "LightHoursModel" cX9_back 1 (some .int) := B
  refine la_aload_n (i := 0) B dX9_back_0 rfl rfl ?_
  refine la_get (i := 37) (ci := 9) (j := 8) (v := .int (h 37 8)) (C := RX9) (T := TX9) (N := 18) B (lh_nc_lt (by decide)) rfl ix_9 rfl (by decide) wd_681 rfl rfl dX9_back_1 ?_
  refine la_if_ne (tgt := 10) B dX9_back_4 (by decide) (fun c4 => ?_) (fun c4 => ?_)
  · refine la_aload_n (i := 0) B dX9_back_10 rfl rfl ?_
    refine la_iconst (v := 0) B dX9_back_11 (by decide) ?_
    refine la_callVv (i := 37) B (ct_X9_moveAll h 0) lk_X9_160 (by decide) (lh_nc_lt (by decide)) rfl rfl rfl (by simp [Value.category]) dX9_back_12 ?_
    refine la_iconst (v := 1) B dX9_back_15 (by decide) ?_
    exact la_ireturn B rfl (by simp only [fX9_back, if_neg c4]) (by simp only [gX9_back, if_neg c4]) dX9_back_16
  · refine la_bipush (v := -4) B dX9_back_7 (by decide) ?_
    exact la_ireturn B rfl (by simp only [fX9_back, if_pos c4]) (by simp only [gX9_back, if_pos c4]) dX9_back_9
