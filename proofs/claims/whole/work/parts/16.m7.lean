theorem lh_cnlt {h : lh_HS} {c M B : Nat} {x : Int32} (hc : lh_cn h c M) (hB : x = nI B) (lt : h c 0 < x) (hs : M < 2 ^ 31 := by omega) (hb : B < 2 ^ 31 := by omega) : lh_ix (h c 0) B := by
  rw [hc.1] at lt ⊢
  rw [hB, nI_ltI (by have := hc.2; omega) hb] at lt
  exact ⟨_, lt, rfl⟩
def lh_c30 (h : lh_HS) : Prop := ∃ n, n ≤ 30 ∧ h 4 0 = nI n
theorem lh_c30.pre {h : lh_HS} (hc : lh_c30 h) : h 4 0 < 30 → vp_in (h 4 0) 30 := by
  obtain ⟨n, hn, e⟩ := hc
  intro lt
  rw [e] at lt ⊢
  rw [show (30 : Int32) = nI 30 from rfl, nI_ltI (by omega) (by omega)] at lt
  exact vp_in_nI lt (by omega)
theorem lh_I.c30 {h : lh_HS} (I : lh_I h) : lh_c30 h := ⟨_, I.1.2.2.1.2, I.1.2.2.1.1⟩
theorem lh_c30.add {h : lh_HS} (hc : lh_c30 h) (a b y z : Int32) : lh_c30 (gX0_add h a b y z) := by
  unfold gX0_add
  split
  · rename_i lt
    obtain ⟨n, hn, e⟩ := hc
    rw [e, show (30 : Int32) = nI 30 from rfl, nI_ltI (by omega) (by omega)] at lt
    exact ⟨n + 1, by omega, by rw [lh_up_eq, e, nI_1]⟩
  · exact hc
theorem ne_add {h : lh_HS} {q : Nat} (h1 : q ≠ 4) (h2 : q < 16 ∨ 20 < q) (a b y z : Int32) : gX0_add h a b y z q = h q := by
  unfold gX0_add
  split
  · funext w
    simp only [lh_up_ne (show q ≠ 4 ∨ w ≠ 0 from Or.inl h1)]
    rw [lh_up_ne (Or.inl (by omega)), lh_up_ne (Or.inl (by omega)), lh_up_ne (Or.inl (by omega)), lh_up_ne (Or.inl (by omega)), lh_up_ne (Or.inl (by omega))]
  · rfl
def fX8_room (h : lh_HS) (wo : Int32) : Int32 := (if (fX8_within h wo 1 200) = 0 then (-1) else (if (h 2 0) < 4 then fX8_changed (gX4_add h wo) (fX4_add h wo) else (-2)))
def gX8_room (h : lh_HS) (wo : Int32) : lh_HS := (if (fX8_within h wo 1 200) = 0 then h else (if (h 2 0) < 4 then gX8_changed (gX4_add h wo) (fX4_add h wo) else h))
set_option maxHeartbeats 4000000 in
set_option maxRecDepth 100000 in
theorem ct_X8_room {l : Launch} {D : va_G} {ad : Nat → Nat} {bs : Nat} {cI cZ : ClassId} {t9 : Nat} {k : Bool} (h : lh_HS) (wo : Int32) (I : lh_I h) : lh_CTi l D ad bs cI cZ t9 k yX8_room cX8_room 2 (some .int) 10 [.ref (ad 0), .int wo] h (fX8_room h wo) (gX8_room h wo) := by
  refine lh_ofi (lv := [(0, .ref (ad 0)), (1, .int wo)]) (by decide) (Nat.le_of_ble_eq_true rfl) rfl (by simp [Value.category]) ⟨rfl, rfl, trivial⟩ ?_
  intro p e s m args below meth c B
  have B : lh_BK p (lh_rm 10) s m args meth c D ad bs cI cZ t9 k "LightHours" cX8_room 2 (some .int) := B
  refine la_iload_n (i := 1) B dX8_room_0 rfl rfl ?_
  refine la_iconst (v := 1) B dX8_room_1 (by decide) ?_
  refine la_sipush (v := 200) B dX8_room_2 (by decide) ?_
  refine la_callSi B (ct_X8_within h wo 1 200) lk_X8_37 (by decide) rfl (by simp [Value.category]) dX8_room_5 ?_
  refine la_if_ne (tgt := 13) B dX8_room_8 (by decide) (fun c8 => ?_) (fun c8 => ?_)
  · refine la_aload_n (i := 0) B dX8_room_13 rfl rfl ?_
    refine la_get (i := 0) (ci := 8) (j := 0) (C := RX8) (T := TX8) (N := 4) B (lh_nc_lt (by decide)) rfl ix_8 rfl (by decide) wd_309 rfl rfl dX8_room_14 ?_
    refine la_get (i := 1) (ci := 2) (j := 0) (C := RX2) (T := TX2) (N := 5) B (lh_nc_lt (by decide)) rfl ix_2 rfl (by decide) wd_214 rfl rfl dX8_room_17 ?_
    refine la_get (i := 2) (ci := 4) (j := 0) (v := .int (h 2 0)) (C := RX4) (T := TX4) (N := 3) B (lh_nc_lt (by decide)) rfl ix_4 rfl (by decide) wd_68 rfl rfl dX8_room_20 ?_
    refine la_iconst (v := 4) B dX8_room_23 (by decide) ?_
    refine la_icmp_lt (tgt := 30) B dX8_room_24 (by decide) (fun c24 => ?_) (fun c24 => ?_)
    · refine la_aload_n (i := 0) B dX8_room_30 rfl rfl ?_
      refine la_aload_n (i := 0) B dX8_room_31 rfl rfl ?_
      refine la_get (i := 0) (ci := 8) (j := 0) (C := RX8) (T := TX8) (N := 4) B (lh_nc_lt (by decide)) rfl ix_8 rfl (by decide) wd_309 rfl rfl dX8_room_32 ?_
      refine la_get (i := 1) (ci := 2) (j := 0) (C := RX2) (T := TX2) (N := 5) B (lh_nc_lt (by decide)) rfl ix_2 rfl (by decide) wd_214 rfl rfl dX8_room_35 ?_
      refine la_iload_n (i := 1) B dX8_room_38 rfl rfl ?_
      refine la_callVi (i := 2) B (ct_X4_add h wo (lh_cnlt (B := 4) I.1.1 rfl c24)) lk_X8_51 (by decide) (lh_nc_lt (by decide)) rfl rfl rfl (by simp [Value.category]) dX8_room_39 ?_
      refine la_callVi (i := 0) B (ct_X8_changed (gX4_add h wo) (fX4_add h wo)) lk_X8_55 (by decide) (lh_nc_lt (by decide)) rfl rfl rfl (by simp [Value.category]) dX8_room_42 ?_
      exact la_ireturn B rfl (by simp only [fX8_room, if_neg c8, if_pos c24]) (by simp only [gX8_room, if_neg c8, if_pos c24]) dX8_room_45
    · refine la_bipush (v := -2) B dX8_room_27 (by decide) ?_
      exact la_ireturn B rfl (by simp only [fX8_room, if_neg c8, if_neg c24]) (by simp only [gX8_room, if_neg c8, if_neg c24]) dX8_room_29
  · refine la_iconst (v := -1) B dX8_room_11 (by decide) ?_
    exact la_ireturn B rfl (by simp only [fX8_room, if_pos c8]) (by simp only [gX8_room, if_pos c8]) dX8_room_12

def fX8_reading (h : lh_HS) (rn : Int32) (yr : Int32) (v : Int32) : Int32 := (if (fX4_has h rn) = 0 then (-1) else (if (fX8_isYear h yr) = 0 then (-1) else (if (fX8_within h v ((-1)) (h 7 rn.toNatClampNeg)) = 0 then (-1) else fX8_changed (gX4_read h rn yr v) 1)))
def gX8_reading (h : lh_HS) (rn : Int32) (yr : Int32) (v : Int32) : lh_HS := (if (fX4_has h rn) = 0 then h else (if (fX8_isYear h yr) = 0 then h else (if (fX8_within h v ((-1)) (h 7 rn.toNatClampNeg)) = 0 then h else gX8_changed (gX4_read h rn yr v) 1)))
set_option maxHeartbeats 4000000 in
set_option maxRecDepth 100000 in
theorem ct_X8_reading {l : Launch} {D : va_G} {ad : Nat → Nat} {bs : Nat} {cI cZ : ClassId} {t9 : Nat} {k : Bool} (h : lh_HS) (rn : Int32) (yr : Int32) (v : Int32) (I : lh_I h) : lh_CTi l D ad bs cI cZ t9 k yX8_reading cX8_reading 4 (some .int) 10 [.ref (ad 0), .int rn, .int yr, .int v] h (fX8_reading h rn yr v) (gX8_reading h rn yr v) := by
  refine lh_ofi (lv := [(0, .ref (ad 0)), (1, .int rn), (2, .int yr), (3, .int v)]) (by decide) (Nat.le_of_ble_eq_true rfl) rfl (by simp [Value.category]) ⟨rfl, rfl, rfl, rfl, trivial⟩ ?_
  intro p e s m args below meth c B
  have B : lh_BK p (lh_rm 10) s m args meth c D ad bs cI cZ t9 k "LightHours" cX8_reading 4 (some .int) := B
  refine la_aload_n (i := 0) B dX8_reading_0 rfl rfl ?_
  refine la_get (i := 0) (ci := 8) (j := 0) (C := RX8) (T := TX8) (N := 4) B (lh_nc_lt (by decide)) rfl ix_8 rfl (by decide) wd_309 rfl rfl dX8_reading_1 ?_
  refine la_get (i := 1) (ci := 2) (j := 0) (C := RX2) (T := TX2) (N := 5) B (lh_nc_lt (by decide)) rfl ix_2 rfl (by decide) wd_214 rfl rfl dX8_reading_4 ?_
  refine la_iload_n (i := 1) B dX8_reading_7 rfl rfl ?_
  refine la_callVi (i := 2) B (ct_X4_has h rn) lk_X8_58 (by decide) (lh_nc_lt (by decide)) rfl rfl rfl (by simp [Value.category]) dX8_reading_8 ?_
  refine la_if_eq (tgt := 41) B dX8_reading_11 (by decide) (fun c11 => ?_) (fun c11 => ?_)
  · refine la_iconst (v := -1) B dX8_reading_41 (by decide) ?_
    exact la_ireturn B rfl (by simp only [fX8_reading, if_pos c11]) (by simp only [gX8_reading, if_pos c11]) dX8_reading_42
  · refine la_iload_n (i := 2) B dX8_reading_14 rfl rfl ?_
    refine la_callSi B (ct_X8_isYear h yr) lk_X8_62 (by decide) rfl (by simp [Value.category]) dX8_reading_15 ?_
    refine la_if_eq (tgt := 41) B dX8_reading_18 (by decide) (fun c18 => ?_) (fun c18 => ?_)
    · refine la_iconst (v := -1) B dX8_reading_41 (by decide) ?_
      exact la_ireturn B rfl (by simp only [fX8_reading, if_neg c11, if_pos c18]) (by simp only [gX8_reading, if_neg c11, if_pos c18]) dX8_reading_42
    · refine la_iload_n (i := 3) B dX8_reading_21 rfl rfl ?_
      refine la_iconst (v := -1) B dX8_reading_22 (by decide) ?_
      refine la_aload_n (i := 0) B dX8_reading_23 rfl rfl ?_
      refine la_get (i := 0) (ci := 8) (j := 0) (C := RX8) (T := TX8) (N := 4) B (lh_nc_lt (by decide)) rfl ix_8 rfl (by decide) wd_309 rfl rfl dX8_reading_24 ?_
      refine la_get (i := 1) (ci := 2) (j := 0) (C := RX2) (T := TX2) (N := 5) B (lh_nc_lt (by decide)) rfl ix_2 rfl (by decide) wd_214 rfl rfl dX8_reading_27 ?_
      refine la_get (i := 2) (ci := 4) (j := 1) (C := RX4) (T := TX4) (N := 3) B (lh_nc_lt (by decide)) rfl ix_4 rfl (by decide) wd_70 rfl rfl dX8_reading_30 ?_
      refine la_iload_n (i := 1) B dX8_reading_33 rfl rfl ?_
      refine la_iald (i := 7) (v := h 7 rn.toNatClampNeg) B (lh_nc_lt (by decide)) rfl ((lh_rooms I c11).vp I.1.1.2 (by omega)) rfl dX8_reading_34 ?_
      refine la_callSi B (ct_X8_within h v ((-1)) (h 7 rn.toNatClampNeg)) lk_X8_37 (by decide) rfl (by simp [Value.category]) dX8_reading_35 ?_
      refine la_if_ne (tgt := 43) B dX8_reading_38 (by decide) (fun c38 => ?_) (fun c38 => ?_)
      · refine la_aload_n (i := 0) B dX8_reading_43 rfl rfl ?_
        refine la_get (i := 0) (ci := 8) (j := 0) (C := RX8) (T := TX8) (N := 4) B (lh_nc_lt (by decide)) rfl ix_8 rfl (by decide) wd_309 rfl rfl dX8_reading_44 ?_
        refine la_get (i := 1) (ci := 2) (j := 0) (C := RX2) (T := TX2) (N := 5) B (lh_nc_lt (by decide)) rfl ix_2 rfl (by decide) wd_214 rfl rfl dX8_reading_47 ?_
        refine la_iload_n (i := 1) B dX8_reading_50 rfl rfl ?_
        refine la_iload_n (i := 2) B dX8_reading_51 rfl rfl ?_
        refine la_iload_n (i := 3) B dX8_reading_52 rfl rfl ?_
        refine la_callVv (i := 2) B (ct_X4_read h rn yr v (lh_ix_ry ((lh_rooms I c11).mono I.1.1.2) (lh_years c18))) lk_X8_69 (by decide) (lh_nc_lt (by decide)) rfl rfl rfl (by simp [Value.category]) dX8_reading_53 ?_
        refine la_aload_n (i := 0) B dX8_reading_56 rfl rfl ?_
        refine la_iconst (v := 1) B dX8_reading_57 (by decide) ?_
        refine la_callVi (i := 0) B (ct_X8_changed (gX4_read h rn yr v) 1) lk_X8_55 (by decide) (lh_nc_lt (by decide)) rfl rfl rfl (by simp [Value.category]) dX8_reading_58 ?_
        exact la_ireturn B rfl (by simp only [fX8_reading, if_neg c11, if_neg c18, if_neg c38]) (by simp only [gX8_reading, if_neg c11, if_neg c18, if_neg c38]) dX8_reading_61
      · refine la_iconst (v := -1) B dX8_reading_41 (by decide) ?_
        exact la_ireturn B rfl (by simp only [fX8_reading, if_neg c11, if_neg c18, if_pos c38]) (by simp only [gX8_reading, if_neg c11, if_neg c18, if_pos c38]) dX8_reading_42

def fX8_light (h : lh_HS) (rn : Int32) (yr : Int32) (gr : Int32) : Int32 := (if (fX4_has h rn) = 0 then (-1) else (if (fX8_isYear h yr) = 0 then (-1) else fX4_lightEnd h rn yr gr))
set_option maxHeartbeats 4000000 in
set_option maxRecDepth 100000 in
theorem ct_X8_light {l : Launch} {D : va_G} {ad : Nat → Nat} {bs : Nat} {cI cZ : ClassId} {t9 : Nat} {k : Bool} (h : lh_HS) (rn : Int32) (yr : Int32) (gr : Int32) (I : lh_I h) : lh_CTi l D ad bs cI cZ t9 k yX8_light cX8_light 4 (some .int) 10 [.ref (ad 0), .int rn, .int yr, .int gr] h (fX8_light h rn yr gr) h := by
  refine lh_ofi (lv := [(0, .ref (ad 0)), (1, .int rn), (2, .int yr), (3, .int gr)]) (by decide) (Nat.le_of_ble_eq_true rfl) rfl (by simp [Value.category]) ⟨rfl, rfl, rfl, rfl, trivial⟩ ?_
  intro p e s m args below meth c B
  have B : lh_BK p (lh_rm 10) s m args meth c D ad bs cI cZ t9 k "LightHours" cX8_light 4 (some .int) := B
  refine la_aload_n (i := 0) B dX8_light_0 rfl rfl ?_
  refine la_get (i := 0) (ci := 8) (j := 0) (C := RX8) (T := TX8) (N := 4) B (lh_nc_lt (by decide)) rfl ix_8 rfl (by decide) wd_309 rfl rfl dX8_light_1 ?_
  refine la_get (i := 1) (ci := 2) (j := 0) (C := RX2) (T := TX2) (N := 5) B (lh_nc_lt (by decide)) rfl ix_2 rfl (by decide) wd_214 rfl rfl dX8_light_4 ?_
  refine la_iload_n (i := 1) B dX8_light_7 rfl rfl ?_
  refine la_callVi (i := 2) B (ct_X4_has h rn) lk_X8_58 (by decide) (lh_nc_lt (by decide)) rfl rfl rfl (by simp [Value.category]) dX8_light_8 ?_
  refine la_if_eq (tgt := 21) B dX8_light_11 (by decide) (fun c11 => ?_) (fun c11 => ?_)
  · refine la_iconst (v := -1) B dX8_light_21 (by decide) ?_
    exact la_ireturn B rfl (by simp only [fX8_light, if_pos c11]) rfl dX8_light_22
  · refine la_iload_n (i := 2) B dX8_light_14 rfl rfl ?_
    refine la_callSi B (ct_X8_isYear h yr) lk_X8_62 (by decide) rfl (by simp [Value.category]) dX8_light_15 ?_
    refine la_if_ne (tgt := 23) B dX8_light_18 (by decide) (fun c18 => ?_) (fun c18 => ?_)
    · refine la_aload_n (i := 0) B dX8_light_23 rfl rfl ?_
      refine la_get (i := 0) (ci := 8) (j := 0) (C := RX8) (T := TX8) (N := 4) B (lh_nc_lt (by decide)) rfl ix_8 rfl (by decide) wd_309 rfl rfl dX8_light_24 ?_
      refine la_get (i := 1) (ci := 2) (j := 0) (C := RX2) (T := TX2) (N := 5) B (lh_nc_lt (by decide)) rfl ix_2 rfl (by decide) wd_214 rfl rfl dX8_light_27 ?_
      refine la_iload_n (i := 1) B dX8_light_30 rfl rfl ?_
      refine la_iload_n (i := 2) B dX8_light_31 rfl rfl ?_
      refine la_iload_n (i := 3) B dX8_light_32 rfl rfl ?_
      refine la_callVi (i := 2) B (ct_X4_lightEnd h rn yr gr (lh_ix_ry ((lh_rooms I c11).mono I.1.1.2) (lh_years c18)) ((lh_rooms I c11).vp I.1.1.2 (by omega))) lk_X8_73 (by decide) (lh_nc_lt (by decide)) rfl rfl rfl (by simp [Value.category]) dX8_light_33 ?_
      exact la_ireturn B rfl (by simp only [fX8_light, if_neg c11, if_neg c18]) rfl dX8_light_36
    · refine la_iconst (v := -1) B dX8_light_21 (by decide) ?_
      exact la_ireturn B rfl (by simp only [fX8_light, if_neg c11, if_pos c18]) rfl dX8_light_22

def fX8_sheet (h : lh_HS) (li : Int32) (th : Int32) (va : Int32) (re : Int32) : Int32 := (if (fX8_within h li 1 2000) = 0 then (-1) else (if (fX8_within h th 1 15) = 0 then (-1) else (if (fX8_within h va 1 9) = 0 then (-1) else (if (fX8_within h re 0 3) = 0 then (-1) else (if (h 3 0) < 8 then fX8_changed (gX5_add h li th va re) (fX5_add h li th va re) else (-2))))))
def gX8_sheet (h : lh_HS) (li : Int32) (th : Int32) (va : Int32) (re : Int32) : lh_HS := (if (fX8_within h li 1 2000) = 0 then h else (if (fX8_within h th 1 15) = 0 then h else (if (fX8_within h va 1 9) = 0 then h else (if (fX8_within h re 0 3) = 0 then h else (if (h 3 0) < 8 then gX8_changed (gX5_add h li th va re) (fX5_add h li th va re) else h)))))
set_option maxHeartbeats 4000000 in
set_option maxRecDepth 100000 in
theorem ct_X8_sheet {l : Launch} {D : va_G} {ad : Nat → Nat} {bs : Nat} {cI cZ : ClassId} {t9 : Nat} {k : Bool} (h : lh_HS) (li : Int32) (th : Int32) (va : Int32) (re : Int32) (I : lh_I h) : lh_CTi l D ad bs cI cZ t9 k yX8_sheet cX8_sheet 5 (some .int) 10 [.ref (ad 0), .int li, .int th, .int va, .int re] h (fX8_sheet h li th va re) (gX8_sheet h li th va re) := by
  refine lh_ofi (lv := [(0, .ref (ad 0)), (1, .int li), (2, .int th), (3, .int va), (4, .int re)]) (by decide) (Nat.le_of_ble_eq_true rfl) rfl (by simp [Value.category]) ⟨rfl, rfl, rfl, rfl, rfl, trivial⟩ ?_
  intro p e s m args below meth c B
  have B : lh_BK p (lh_rm 10) s m args meth c D ad bs cI cZ t9 k "LightHours" cX8_sheet 5 (some .int) := B
  refine la_iload_n (i := 1) B dX8_sheet_0 rfl rfl ?_
  refine la_iconst (v := 1) B dX8_sheet_1 (by decide) ?_
  refine la_sipush (v := 2000) B dX8_sheet_2 (by decide) ?_
  refine la_callSi B (ct_X8_within h li 1 2000) lk_X8_37 (by decide) rfl (by simp [Value.category]) dX8_sheet_5 ?_
  refine la_if_eq (tgt := 21) B dX8_sheet_8 (by decide) (fun c8 => ?_) (fun c8 => ?_)
  · refine la_iconst (v := -1) B dX8_sheet_21 (by decide) ?_
    exact la_ireturn B rfl (by simp only [fX8_sheet, if_pos c8]) (by simp only [gX8_sheet, if_pos c8]) dX8_sheet_22
  · refine la_iload_n (i := 2) B dX8_sheet_11 rfl rfl ?_
    refine la_iconst (v := 1) B dX8_sheet_12 (by decide) ?_
    refine la_bipush (v := 15) B dX8_sheet_13 (by decide) ?_
    refine la_callSi B (ct_X8_within h th 1 15) lk_X8_37 (by decide) rfl (by simp [Value.category]) dX8_sheet_15 ?_
    refine la_if_ne (tgt := 23) B dX8_sheet_18 (by decide) (fun c18 => ?_) (fun c18 => ?_)
    · refine la_iload_n (i := 3) B dX8_sheet_23 rfl rfl ?_
      refine la_iconst (v := 1) B dX8_sheet_24 (by decide) ?_
      refine la_bipush (v := 9) B dX8_sheet_25 (by decide) ?_
      refine la_callSi B (ct_X8_within h va 1 9) lk_X8_37 (by decide) rfl (by simp [Value.category]) dX8_sheet_27 ?_
      refine la_if_eq (tgt := 43) B dX8_sheet_30 (by decide) (fun c30 => ?_) (fun c30 => ?_)
      · refine la_iconst (v := -1) B dX8_sheet_43 (by decide) ?_
        exact la_ireturn B rfl (by simp only [fX8_sheet, if_neg c8, if_neg c18, if_pos c30]) (by simp only [gX8_sheet, if_neg c8, if_neg c18, if_pos c30]) dX8_sheet_44
      · refine la_iload B dX8_sheet_33 rfl ?_
        refine la_iconst (v := 0) B dX8_sheet_35 (by decide) ?_
        refine la_iconst (v := 3) B dX8_sheet_36 (by decide) ?_
        refine la_callSi B (ct_X8_within h re 0 3) lk_X8_37 (by decide) rfl (by simp [Value.category]) dX8_sheet_37 ?_
        refine la_if_ne (tgt := 45) B dX8_sheet_40 (by decide) (fun c40 => ?_) (fun c40 => ?_)
        · refine la_aload_n (i := 0) B dX8_sheet_45 rfl rfl ?_
          refine la_get (i := 0) (ci := 8) (j := 0) (C := RX8) (T := TX8) (N := 4) B (lh_nc_lt (by decide)) rfl ix_8 rfl (by decide) wd_309 rfl rfl dX8_sheet_46 ?_
          refine la_get (i := 1) (ci := 2) (j := 1) (C := RX2) (T := TX2) (N := 5) B (lh_nc_lt (by decide)) rfl ix_2 rfl (by decide) wd_219 rfl rfl dX8_sheet_49 ?_
          refine la_get (i := 3) (ci := 5) (j := 0) (v := .int (h 3 0)) (C := RX5) (T := TX5) (N := 8) B (lh_nc_lt (by decide)) rfl ix_5 rfl (by decide) wd_88 rfl rfl dX8_sheet_52 ?_
          refine la_bipush (v := 8) B dX8_sheet_55 (by decide) ?_
          refine la_icmp_lt (tgt := 63) B dX8_sheet_57 (by decide) (fun c57 => ?_) (fun c57 => ?_)
          · refine la_aload_n (i := 0) B dX8_sheet_63 rfl rfl ?_
            refine la_aload_n (i := 0) B dX8_sheet_64 rfl rfl ?_
            refine la_get (i := 0) (ci := 8) (j := 0) (C := RX8) (T := TX8) (N := 4) B (lh_nc_lt (by decide)) rfl ix_8 rfl (by decide) wd_309 rfl rfl dX8_sheet_65 ?_
            refine la_get (i := 1) (ci := 2) (j := 1) (C := RX2) (T := TX2) (N := 5) B (lh_nc_lt (by decide)) rfl ix_2 rfl (by decide) wd_219 rfl rfl dX8_sheet_68 ?_
            refine la_iload_n (i := 1) B dX8_sheet_71 rfl rfl ?_
            refine la_iload_n (i := 2) B dX8_sheet_72 rfl rfl ?_
            refine la_iload_n (i := 3) B dX8_sheet_73 rfl rfl ?_
            refine la_iload B dX8_sheet_74 rfl ?_
            refine la_callVi (i := 3) B (ct_X5_add h li th va re ((lh_cnlt (B := 8) I.1.2.1 rfl c57).vp (Nat.le_refl _) (by omega))) lk_X8_84 (by decide) (lh_nc_lt (by decide)) rfl rfl rfl (by simp [Value.category]) dX8_sheet_76 ?_
            refine la_callVi (i := 0) B (ct_X8_changed (gX5_add h li th va re) (fX5_add h li th va re)) lk_X8_55 (by decide) (lh_nc_lt (by decide)) rfl rfl rfl (by simp [Value.category]) dX8_sheet_79 ?_
            exact la_ireturn B rfl (by simp only [fX8_sheet, if_neg c8, if_neg c18, if_neg c30, if_neg c40, if_pos c57]) (by simp only [gX8_sheet, if_neg c8, if_neg c18, if_neg c30, if_neg c40, if_pos c57]) dX8_sheet_82
          · refine la_bipush (v := -2) B dX8_sheet_60 (by decide) ?_
            exact la_ireturn B rfl (by simp only [fX8_sheet, if_neg c8, if_neg c18, if_neg c30, if_neg c40, if_neg c57]) (by simp only [gX8_sheet, if_neg c8, if_neg c18, if_neg c30, if_neg c40, if_neg c57]) dX8_sheet_62
        · refine la_iconst (v := -1) B dX8_sheet_43 (by decide) ?_
          exact la_ireturn B rfl (by simp only [fX8_sheet, if_neg c8, if_neg c18, if_neg c30, if_pos c40]) (by simp only [gX8_sheet, if_neg c8, if_neg c18, if_neg c30, if_pos c40]) dX8_sheet_44
    · refine la_iconst (v := -1) B dX8_sheet_21 (by decide) ?_
      exact la_ireturn B rfl (by simp only [fX8_sheet, if_neg c8, if_pos c18]) (by simp only [gX8_sheet, if_neg c8, if_pos c18]) dX8_sheet_22

def fX8_sisters (h : lh_HS) (sa : Int32) (sb : Int32) : Int32 := (if (fX5_has h sa) = 0 then (-1) else (if (fX5_has h sb) = 0 then (-1) else (if sa = sb then (-1) else (if (h 13 sa.toNatClampNeg) = ((-4)) then (if (h 13 sb.toNatClampNeg) = ((-4)) then fX8_changed (lh_up (lh_up h 13 sa.toNatClampNeg sb) 13 sb.toNatClampNeg sa) 1 else (-3)) else (-3)))))
def gX8_sisters (h : lh_HS) (sa : Int32) (sb : Int32) : lh_HS := (if (fX5_has h sa) = 0 then h else (if (fX5_has h sb) = 0 then h else (if sa = sb then h else (if (h 13 sa.toNatClampNeg) = ((-4)) then (if (h 13 sb.toNatClampNeg) = ((-4)) then gX8_changed (lh_up (lh_up h 13 sa.toNatClampNeg sb) 13 sb.toNatClampNeg sa) 1 else h) else h))))
set_option maxHeartbeats 4000000 in
set_option maxRecDepth 100000 in
theorem ct_X8_sisters {l : Launch} {D : va_G} {ad : Nat → Nat} {bs : Nat} {cI cZ : ClassId} {t9 : Nat} {k : Bool} (h : lh_HS) (sa : Int32) (sb : Int32) (I : lh_I h) : lh_CTi l D ad bs cI cZ t9 k yX8_sisters cX8_sisters 4 (some .int) 10 [.ref (ad 0), .int sa, .int sb] h (fX8_sisters h sa sb) (gX8_sisters h sa sb) := by
  refine lh_ofi (lv := [(0, .ref (ad 0)), (1, .int sa), (2, .int sb)]) (by decide) (Nat.le_of_ble_eq_true rfl) rfl (by simp [Value.category]) ⟨rfl, rfl, rfl, trivial⟩ ?_
  intro p e s m args below meth c B
  have B : lh_BK p (lh_rm 10) s m args meth c D ad bs cI cZ t9 k "LightHours" cX8_sisters 4 (some .int) := B
  refine la_aload_n (i := 0) B dX8_sisters_0 rfl rfl ?_
  refine la_get (i := 0) (ci := 8) (j := 0) (C := RX8) (T := TX8) (N := 4) B (lh_nc_lt (by decide)) rfl ix_8 rfl (by decide) wd_309 rfl rfl dX8_sisters_1 ?_
  refine la_get (i := 1) (ci := 2) (j := 1) (C := RX2) (T := TX2) (N := 5) B (lh_nc_lt (by decide)) rfl ix_2 rfl (by decide) wd_219 rfl rfl dX8_sisters_4 ?_
  refine la_astore_n (i := 3) B dX8_sisters_7 rfl (by decide) ?_
  refine la_aload_n (i := 3) B dX8_sisters_8 rfl rfl ?_
  refine la_iload_n (i := 1) B dX8_sisters_9 rfl rfl ?_
  refine la_callVi (i := 3) B (ct_X5_has h sa) lk_X8_87 (by decide) (lh_nc_lt (by decide)) rfl rfl rfl (by simp [Value.category]) dX8_sisters_10 ?_
  refine la_if_eq (tgt := 29) B dX8_sisters_13 (by decide) (fun c13 => ?_) (fun c13 => ?_)
  · refine la_iconst (v := -1) B dX8_sisters_29 (by decide) ?_
    exact la_ireturn B rfl (by simp only [fX8_sisters, if_pos c13]) (by simp only [gX8_sisters, if_pos c13]) dX8_sisters_30
  · refine la_aload_n (i := 3) B dX8_sisters_16 rfl rfl ?_
    refine la_iload_n (i := 2) B dX8_sisters_17 rfl rfl ?_
    refine la_callVi (i := 3) B (ct_X5_has h sb) lk_X8_87 (by decide) (lh_nc_lt (by decide)) rfl rfl rfl (by simp [Value.category]) dX8_sisters_18 ?_
    refine la_if_eq (tgt := 29) B dX8_sisters_21 (by decide) (fun c21 => ?_) (fun c21 => ?_)
    · refine la_iconst (v := -1) B dX8_sisters_29 (by decide) ?_
      exact la_ireturn B rfl (by simp only [fX8_sisters, if_neg c13, if_pos c21]) (by simp only [gX8_sisters, if_neg c13, if_pos c21]) dX8_sisters_30
    · refine la_iload_n (i := 1) B dX8_sisters_24 rfl rfl ?_
      refine la_iload_n (i := 2) B dX8_sisters_25 rfl rfl ?_
      refine la_icmp_ne (tgt := 31) B dX8_sisters_26 (by decide) (fun c26 => ?_) (fun c26 => ?_)
      · refine la_aload_n (i := 3) B dX8_sisters_31 rfl rfl ?_
        refine la_get (i := 3) (ci := 5) (j := 5) (C := RX5) (T := TX5) (N := 8) B (lh_nc_lt (by decide)) rfl ix_5 rfl (by decide) wd_102 rfl rfl dX8_sisters_32 ?_
        refine la_iload_n (i := 1) B dX8_sisters_35 rfl rfl ?_
        refine la_iald (i := 13) (v := h 13 sa.toNatClampNeg) B (lh_nc_lt (by decide)) rfl ((lh_sheets I c13).vp I.1.2.1.2 (by omega)) rfl dX8_sisters_36 ?_
        refine la_bipush (v := -4) B dX8_sisters_37 (by decide) ?_
        refine la_icmp_ne (tgt := 53) B dX8_sisters_39 (by decide) (fun c39 => ?_) (fun c39 => ?_)
        · refine la_bipush (v := -3) B dX8_sisters_53 (by decide) ?_
          exact la_ireturn B rfl (by simp only [fX8_sisters, if_neg c13, if_neg c21, if_neg c26, if_neg c39]) (by simp only [gX8_sisters, if_neg c13, if_neg c21, if_neg c26, if_neg c39]) dX8_sisters_55
        · refine la_aload_n (i := 3) B dX8_sisters_42 rfl rfl ?_
          refine la_get (i := 3) (ci := 5) (j := 5) (C := RX5) (T := TX5) (N := 8) B (lh_nc_lt (by decide)) rfl ix_5 rfl (by decide) wd_102 rfl rfl dX8_sisters_43 ?_
          refine la_iload_n (i := 2) B dX8_sisters_46 rfl rfl ?_
          refine la_iald (i := 13) (v := h 13 sb.toNatClampNeg) B (lh_nc_lt (by decide)) rfl ((lh_sheets I c21).vp I.1.2.1.2 (by omega)) rfl dX8_sisters_47 ?_
          refine la_bipush (v := -4) B dX8_sisters_48 (by decide) ?_
          refine la_icmp_eq (tgt := 56) B dX8_sisters_50 (by decide) (fun c50 => ?_) (fun c50 => ?_)
          · refine la_aload_n (i := 3) B dX8_sisters_56 rfl rfl ?_
            refine la_get (i := 3) (ci := 5) (j := 5) (C := RX5) (T := TX5) (N := 8) B (lh_nc_lt (by decide)) rfl ix_5 rfl (by decide) wd_102 rfl rfl dX8_sisters_57 ?_
            refine la_iload_n (i := 1) B dX8_sisters_60 rfl rfl ?_
            refine la_iload_n (i := 2) B dX8_sisters_61 rfl rfl ?_
            refine la_iast (i := 13) (j := sa.toNatClampNeg) B (lh_nc_lt (by decide)) rfl rfl ((lh_sheets I c13).vp I.1.2.1.2 (by omega)) rfl dX8_sisters_62 ?_
            refine la_aload_n (i := 3) B dX8_sisters_63 rfl rfl ?_
            refine la_get (i := 3) (ci := 5) (j := 5) (C := RX5) (T := TX5) (N := 8) B (lh_nc_lt (by decide)) rfl ix_5 rfl (by decide) wd_102 rfl rfl dX8_sisters_64 ?_
            refine la_iload_n (i := 2) B dX8_sisters_67 rfl rfl ?_
            refine la_iload_n (i := 1) B dX8_sisters_68 rfl rfl ?_
            refine la_iast (i := 13) (j := sb.toNatClampNeg) B (lh_nc_lt (by decide)) rfl rfl ((lh_sheets I c21).vp I.1.2.1.2 (by omega)) rfl dX8_sisters_69 ?_
            refine la_aload_n (i := 0) B dX8_sisters_70 rfl rfl ?_
            refine la_iconst (v := 1) B dX8_sisters_71 (by decide) ?_
            refine la_callVi (i := 0) B (ct_X8_changed (lh_up (lh_up h 13 sa.toNatClampNeg sb) 13 sb.toNatClampNeg sa) 1) lk_X8_55 (by decide) (lh_nc_lt (by decide)) rfl rfl rfl (by simp [Value.category]) dX8_sisters_72 ?_
            exact la_ireturn B rfl (by simp only [fX8_sisters, if_neg c13, if_neg c21, if_neg c26, if_pos c39, if_pos c50]) (by simp only [gX8_sisters, if_neg c13, if_neg c21, if_neg c26, if_pos c39, if_pos c50]) dX8_sisters_75
          · refine la_bipush (v := -3) B dX8_sisters_53 (by decide) ?_
            exact la_ireturn B rfl (by simp only [fX8_sisters, if_neg c13, if_neg c21, if_neg c26, if_pos c39, if_neg c50]) (by simp only [gX8_sisters, if_neg c13, if_neg c21, if_neg c26, if_pos c39, if_neg c50]) dX8_sisters_55
      · refine la_iconst (v := -1) B dX8_sisters_29 (by decide) ?_
        exact la_ireturn B rfl (by simp only [fX8_sisters, if_neg c13, if_neg c21, if_pos c26]) (by simp only [gX8_sisters, if_neg c13, if_neg c21, if_pos c26]) dX8_sisters_30

def fX8_past (h : lh_HS) (sn : Int32) (le : Int32) (gr : Int32) : Int32 := (if (fX5_has h sn) = 0 then (-1) else (if (fX8_within h le 0 2000) = 0 then (-1) else (if (fX8_within h gr le 2000) = 0 then (-1) else fX8_changed (lh_up (lh_up h 14 sn.toNatClampNeg le) 15 sn.toNatClampNeg gr) 1)))
def gX8_past (h : lh_HS) (sn : Int32) (le : Int32) (gr : Int32) : lh_HS := (if (fX5_has h sn) = 0 then h else (if (fX8_within h le 0 2000) = 0 then h else (if (fX8_within h gr le 2000) = 0 then h else gX8_changed (lh_up (lh_up h 14 sn.toNatClampNeg le) 15 sn.toNatClampNeg gr) 1)))
set_option maxHeartbeats 4000000 in
set_option maxRecDepth 100000 in
theorem ct_X8_past {l : Launch} {D : va_G} {ad : Nat → Nat} {bs : Nat} {cI cZ : ClassId} {t9 : Nat} {k : Bool} (h : lh_HS) (sn : Int32) (le : Int32) (gr : Int32) (I : lh_I h) : lh_CTi l D ad bs cI cZ t9 k yX8_past cX8_past 4 (some .int) 10 [.ref (ad 0), .int sn, .int le, .int gr] h (fX8_past h sn le gr) (gX8_past h sn le gr) := by
  refine lh_ofi (lv := [(0, .ref (ad 0)), (1, .int sn), (2, .int le), (3, .int gr)]) (by decide) (Nat.le_of_ble_eq_true rfl) rfl (by simp [Value.category]) ⟨rfl, rfl, rfl, rfl, trivial⟩ ?_
  intro p e s m args below meth c B
  have B : lh_BK p (lh_rm 10) s m args meth c D ad bs cI cZ t9 k "LightHours" cX8_past 4 (some .int) := B
  refine la_aload_n (i := 0) B dX8_past_0 rfl rfl ?_
  refine la_get (i := 0) (ci := 8) (j := 0) (C := RX8) (T := TX8) (N := 4) B (lh_nc_lt (by decide)) rfl ix_8 rfl (by decide) wd_309 rfl rfl dX8_past_1 ?_
  refine la_get (i := 1) (ci := 2) (j := 1) (C := RX2) (T := TX2) (N := 5) B (lh_nc_lt (by decide)) rfl ix_2 rfl (by decide) wd_219 rfl rfl dX8_past_4 ?_
  refine la_iload_n (i := 1) B dX8_past_7 rfl rfl ?_
  refine la_callVi (i := 3) B (ct_X5_has h sn) lk_X8_87 (by decide) (lh_nc_lt (by decide)) rfl rfl rfl (by simp [Value.category]) dX8_past_8 ?_
  refine la_if_eq (tgt := 36) B dX8_past_11 (by decide) (fun c11 => ?_) (fun c11 => ?_)
  · refine la_iconst (v := -1) B dX8_past_36 (by decide) ?_
    exact la_ireturn B rfl (by simp only [fX8_past, if_pos c11]) (by simp only [gX8_past, if_pos c11]) dX8_past_37
  · refine la_iload_n (i := 2) B dX8_past_14 rfl rfl ?_
    refine la_iconst (v := 0) B dX8_past_15 (by decide) ?_
    refine la_sipush (v := 2000) B dX8_past_16 (by decide) ?_
    refine la_callSi B (ct_X8_within h le 0 2000) lk_X8_37 (by decide) rfl (by simp [Value.category]) dX8_past_19 ?_
    refine la_if_eq (tgt := 36) B dX8_past_22 (by decide) (fun c22 => ?_) (fun c22 => ?_)
    · refine la_iconst (v := -1) B dX8_past_36 (by decide) ?_
      exact la_ireturn B rfl (by simp only [fX8_past, if_neg c11, if_pos c22]) (by simp only [gX8_past, if_neg c11, if_pos c22]) dX8_past_37
    · refine la_iload_n (i := 3) B dX8_past_25 rfl rfl ?_
      refine la_iload_n (i := 2) B dX8_past_26 rfl rfl ?_
      refine la_sipush (v := 2000) B dX8_past_27 (by decide) ?_
      refine la_callSi B (ct_X8_within h gr le 2000) lk_X8_37 (by decide) rfl (by simp [Value.category]) dX8_past_30 ?_
      refine la_if_ne (tgt := 38) B dX8_past_33 (by decide) (fun c33 => ?_) (fun c33 => ?_)
      · refine la_aload_n (i := 0) B dX8_past_38 rfl rfl ?_
        refine la_get (i := 0) (ci := 8) (j := 0) (C := RX8) (T := TX8) (N := 4) B (lh_nc_lt (by decide)) rfl ix_8 rfl (by decide) wd_309 rfl rfl dX8_past_39 ?_
        refine la_get (i := 1) (ci := 2) (j := 1) (C := RX2) (T := TX2) (N := 5) B (lh_nc_lt (by decide)) rfl ix_2 rfl (by decide) wd_219 rfl rfl dX8_past_42 ?_
        refine la_get (i := 3) (ci := 5) (j := 6) (C := RX5) (T := TX5) (N := 8) B (lh_nc_lt (by decide)) rfl ix_5 rfl (by decide) wd_106 rfl rfl dX8_past_45 ?_
        refine la_iload_n (i := 1) B dX8_past_48 rfl rfl ?_
        refine la_iload_n (i := 2) B dX8_past_49 rfl rfl ?_
        refine la_iast (i := 14) (j := sn.toNatClampNeg) B (lh_nc_lt (by decide)) rfl rfl ((lh_sheets I c11).vp I.1.2.1.2 (by omega)) rfl dX8_past_50 ?_
        refine la_aload_n (i := 0) B dX8_past_51 rfl rfl ?_
        refine la_get (i := 0) (ci := 8) (j := 0) (C := RX8) (T := TX8) (N := 4) B (lh_nc_lt (by decide)) rfl ix_8 rfl (by decide) wd_309 rfl rfl dX8_past_52 ?_
        refine la_get (i := 1) (ci := 2) (j := 1) (C := RX2) (T := TX2) (N := 5) B (lh_nc_lt (by decide)) rfl ix_2 rfl (by decide) wd_219 rfl rfl dX8_past_55 ?_
        refine la_get (i := 3) (ci := 5) (j := 7) (C := RX5) (T := TX5) (N := 8) B (lh_nc_lt (by decide)) rfl ix_5 rfl (by decide) wd_109 rfl rfl dX8_past_58 ?_
        refine la_iload_n (i := 1) B dX8_past_61 rfl rfl ?_
        refine la_iload_n (i := 3) B dX8_past_62 rfl rfl ?_
        refine la_iast (i := 15) (j := sn.toNatClampNeg) B (lh_nc_lt (by decide)) rfl rfl ((lh_sheets I c11).vp I.1.2.1.2 (by omega)) rfl dX8_past_63 ?_
        refine la_aload_n (i := 0) B dX8_past_64 rfl rfl ?_
        refine la_iconst (v := 1) B dX8_past_65 (by decide) ?_
        refine la_callVi (i := 0) B (ct_X8_changed (lh_up (lh_up h 14 sn.toNatClampNeg le) 15 sn.toNatClampNeg gr) 1) lk_X8_55 (by decide) (lh_nc_lt (by decide)) rfl rfl rfl (by simp [Value.category]) dX8_past_66 ?_
        exact la_ireturn B rfl (by simp only [fX8_past, if_neg c11, if_neg c22, if_neg c33]) (by simp only [gX8_past, if_neg c11, if_neg c22, if_neg c33]) dX8_past_69
      · refine la_iconst (v := -1) B dX8_past_36 (by decide) ?_
        exact la_ireturn B rfl (by simp only [fX8_past, if_neg c11, if_neg c22, if_pos c33]) (by simp only [gX8_past, if_neg c11, if_neg c22, if_pos c33]) dX8_past_37

def fX8_of (h : lh_HS) (sn : Int32) (wh : Int32) : Int32 := (if (fX5_has h sn) = 0 then (-1) else (if wh = 0 then h 9 sn.toNatClampNeg else (if wh = 1 then h 10 sn.toNatClampNeg else (if wh = 2 then h 11 sn.toNatClampNeg else (if wh = 3 then h 12 sn.toNatClampNeg else (if wh = 4 then h 13 sn.toNatClampNeg else (if wh = 5 then (if ((gX3_openAt h sn) 27 2) = 0 then 0 else 1) else (if wh = 6 then fX0_countOf h sn else (if wh = 7 then fX6_countOf h sn else (-1))))))))))
def gX8_of (h : lh_HS) (sn : Int32) (wh : Int32) : lh_HS := (if (fX5_has h sn) = 0 then h else (if wh = 0 then h else (if wh = 1 then h else (if wh = 2 then h else (if wh = 3 then h else (if wh = 4 then h else (if wh = 5 then gX3_openAt h sn else h)))))))
set_option maxHeartbeats 4000000 in
set_option maxRecDepth 100000 in
theorem ct_X8_of {l : Launch} {D : va_G} {ad : Nat → Nat} {bs : Nat} {cI cZ : ClassId} {t9 : Nat} {k : Bool} (h : lh_HS) (sn : Int32) (wh : Int32) (I : lh_I h) : lh_CTi l D ad bs cI cZ t9 k yX8_of cX8_of 4 (some .int) 10 [.ref (ad 0), .int sn, .int wh] h (fX8_of h sn wh) (gX8_of h sn wh) := by
  refine lh_ofi (lv := [(0, .ref (ad 0)), (1, .int sn), (2, .int wh)]) (by decide) (Nat.le_of_ble_eq_true rfl) rfl (by simp [Value.category]) ⟨rfl, rfl, rfl, trivial⟩ ?_
  intro p e s m args below meth c B
  have B : lh_BK p (lh_rm 10) s m args meth c D ad bs cI cZ t9 k "LightHours" cX8_of 4 (some .int) := B
  refine la_aload_n (i := 0) B dX8_of_0 rfl rfl ?_
  refine la_get (i := 0) (ci := 8) (j := 0) (C := RX8) (T := TX8) (N := 4) B (lh_nc_lt (by decide)) rfl ix_8 rfl (by decide) wd_309 rfl rfl dX8_of_1 ?_
  refine la_get (i := 1) (ci := 2) (j := 1) (C := RX2) (T := TX2) (N := 5) B (lh_nc_lt (by decide)) rfl ix_2 rfl (by decide) wd_219 rfl rfl dX8_of_4 ?_
  refine la_astore_n (i := 3) B dX8_of_7 rfl (by decide) ?_
  refine la_aload_n (i := 3) B dX8_of_8 rfl rfl ?_
  refine la_iload_n (i := 1) B dX8_of_9 rfl rfl ?_
  refine la_callVi (i := 3) B (ct_X5_has h sn) lk_X8_87 (by decide) (lh_nc_lt (by decide)) rfl rfl rfl (by simp [Value.category]) dX8_of_10 ?_
  refine la_if_ne (tgt := 18) B dX8_of_13 (by decide) (fun c13 => ?_) (fun c13 => ?_)
  · refine la_iload_n (i := 2) B dX8_of_18 rfl rfl ?_
    by_cases s19_0 : wh = 0
    · refine la_tabIn (off := 45) (tgt := 64) B dX8_of_19 (by rw [s19_0]; decide) (by rw [s19_0]; decide) (by rw [s19_0]; decide) (by decide) ?_
      refine la_aload_n (i := 3) B dX8_of_64 rfl rfl ?_
      refine la_get (i := 3) (ci := 5) (j := 1) (C := RX5) (T := TX5) (N := 8) B (lh_nc_lt (by decide)) rfl ix_5 rfl (by decide) wd_92 rfl rfl dX8_of_65 ?_
      refine la_iload_n (i := 1) B dX8_of_68 rfl rfl ?_
      refine la_iald (i := 9) (v := h 9 sn.toNatClampNeg) B (lh_nc_lt (by decide)) rfl ((lh_sheets I c13).vp I.1.2.1.2 (by omega)) rfl dX8_of_69 ?_
      exact la_ireturn B rfl (by simp only [fX8_of, if_neg c13, if_pos s19_0]) (by simp only [gX8_of, if_neg c13, if_pos s19_0]) dX8_of_70
    · have ts19_0 := lv_neT s19_0 (show (0 : Int32).toInt = 0 from by decide)
      by_cases s19_1 : wh = 1
      · refine la_tabIn (off := 52) (tgt := 71) B dX8_of_19 (by rw [s19_1]; decide) (by rw [s19_1]; decide) (by rw [s19_1]; decide) (by decide) ?_
        refine la_aload_n (i := 3) B dX8_of_71 rfl rfl ?_
        refine la_get (i := 3) (ci := 5) (j := 2) (C := RX5) (T := TX5) (N := 8) B (lh_nc_lt (by decide)) rfl ix_5 rfl (by decide) wd_94 rfl rfl dX8_of_72 ?_
        refine la_iload_n (i := 1) B dX8_of_75 rfl rfl ?_
        refine la_iald (i := 10) (v := h 10 sn.toNatClampNeg) B (lh_nc_lt (by decide)) rfl ((lh_sheets I c13).vp I.1.2.1.2 (by omega)) rfl dX8_of_76 ?_
        exact la_ireturn B rfl (by simp only [fX8_of, if_neg c13, if_neg s19_0, if_pos s19_1]) (by simp only [gX8_of, if_neg c13, if_neg s19_0, if_pos s19_1]) dX8_of_77
      · have ts19_1 := lv_neT s19_1 (show (1 : Int32).toInt = 1 from by decide)
        by_cases s19_2 : wh = 2
        · refine la_tabIn (off := 59) (tgt := 78) B dX8_of_19 (by rw [s19_2]; decide) (by rw [s19_2]; decide) (by rw [s19_2]; decide) (by decide) ?_
          refine la_aload_n (i := 3) B dX8_of_78 rfl rfl ?_
          refine la_get (i := 3) (ci := 5) (j := 3) (C := RX5) (T := TX5) (N := 8) B (lh_nc_lt (by decide)) rfl ix_5 rfl (by decide) wd_97 rfl rfl dX8_of_79 ?_
          refine la_iload_n (i := 1) B dX8_of_82 rfl rfl ?_
          refine la_iald (i := 11) (v := h 11 sn.toNatClampNeg) B (lh_nc_lt (by decide)) rfl ((lh_sheets I c13).vp I.1.2.1.2 (by omega)) rfl dX8_of_83 ?_
          exact la_ireturn B rfl (by simp only [fX8_of, if_neg c13, if_neg s19_0, if_neg s19_1, if_pos s19_2]) (by simp only [gX8_of, if_neg c13, if_neg s19_0, if_neg s19_1, if_pos s19_2]) dX8_of_84
        · have ts19_2 := lv_neT s19_2 (show (2 : Int32).toInt = 2 from by decide)
          by_cases s19_3 : wh = 3
          · refine la_tabIn (off := 66) (tgt := 85) B dX8_of_19 (by rw [s19_3]; decide) (by rw [s19_3]; decide) (by rw [s19_3]; decide) (by decide) ?_
            refine la_aload_n (i := 3) B dX8_of_85 rfl rfl ?_
            refine la_get (i := 3) (ci := 5) (j := 4) (C := RX5) (T := TX5) (N := 8) B (lh_nc_lt (by decide)) rfl ix_5 rfl (by decide) wd_100 rfl rfl dX8_of_86 ?_
            refine la_iload_n (i := 1) B dX8_of_89 rfl rfl ?_
            refine la_iald (i := 12) (v := h 12 sn.toNatClampNeg) B (lh_nc_lt (by decide)) rfl ((lh_sheets I c13).vp I.1.2.1.2 (by omega)) rfl dX8_of_90 ?_
            exact la_ireturn B rfl (by simp only [fX8_of, if_neg c13, if_neg s19_0, if_neg s19_1, if_neg s19_2, if_pos s19_3]) (by simp only [gX8_of, if_neg c13, if_neg s19_0, if_neg s19_1, if_neg s19_2, if_pos s19_3]) dX8_of_91
          · have ts19_3 := lv_neT s19_3 (show (3 : Int32).toInt = 3 from by decide)
            by_cases s19_4 : wh = 4
            · refine la_tabIn (off := 73) (tgt := 92) B dX8_of_19 (by rw [s19_4]; decide) (by rw [s19_4]; decide) (by rw [s19_4]; decide) (by decide) ?_
              refine la_aload_n (i := 3) B dX8_of_92 rfl rfl ?_
              refine la_get (i := 3) (ci := 5) (j := 5) (C := RX5) (T := TX5) (N := 8) B (lh_nc_lt (by decide)) rfl ix_5 rfl (by decide) wd_102 rfl rfl dX8_of_93 ?_
              refine la_iload_n (i := 1) B dX8_of_96 rfl rfl ?_
              refine la_iald (i := 13) (v := h 13 sn.toNatClampNeg) B (lh_nc_lt (by decide)) rfl ((lh_sheets I c13).vp I.1.2.1.2 (by omega)) rfl dX8_of_97 ?_
              exact la_ireturn B rfl (by simp only [fX8_of, if_neg c13, if_neg s19_0, if_neg s19_1, if_neg s19_2, if_neg s19_3, if_pos s19_4]) (by simp only [gX8_of, if_neg c13, if_neg s19_0, if_neg s19_1, if_neg s19_2, if_neg s19_3, if_pos s19_4]) dX8_of_98
            · have ts19_4 := lv_neT s19_4 (show (4 : Int32).toInt = 4 from by decide)
              by_cases s19_5 : wh = 5
              · refine la_tabIn (off := 80) (tgt := 99) B dX8_of_19 (by rw [s19_5]; decide) (by rw [s19_5]; decide) (by rw [s19_5]; decide) (by decide) ?_
                refine la_aload_n (i := 0) B dX8_of_99 rfl rfl ?_
                refine la_get (i := 0) (ci := 8) (j := 1) (C := RX8) (T := TX8) (N := 4) B (lh_nc_lt (by decide)) rfl ix_8 rfl (by decide) wd_310 rfl rfl dX8_of_100 ?_
                refine la_iload_n (i := 1) B dX8_of_103 rfl rfl ?_
                refine la_callVr (i := 27) B (ct_X3_openAt h sn I (lh_sheets I c13)) lk_X8_109 (by decide) (lh_nc_lt (by decide)) rfl rfl rfl (by simp [Value.category]) dX8_of_104 ?_
                refine la_get (i := 27) (ci := 3) (j := 2) (v := .int ((gX3_openAt h sn) 27 2)) (C := RX3) (T := TX3) (N := 7) B (lh_nc_lt (by decide)) rfl ix_3 rfl (by decide) wd_250 rfl rfl dX8_of_107 ?_
                refine la_if_eq (tgt := 117) B dX8_of_110 (by decide) (fun c110 => ?_) (fun c110 => ?_)
                · refine la_iconst (v := 0) B dX8_of_117 (by decide) ?_
                  exact la_ireturn B rfl (by simp only [fX8_of, if_neg c13, if_neg s19_0, if_neg s19_1, if_neg s19_2, if_neg s19_3, if_neg s19_4, if_pos s19_5, if_pos c110]) (by simp only [gX8_of, if_neg c13, if_neg s19_0, if_neg s19_1, if_neg s19_2, if_neg s19_3, if_neg s19_4, if_pos s19_5, if_pos c110]) dX8_of_118
                · refine la_iconst (v := 1) B dX8_of_113 (by decide) ?_
                  refine la_goto (tgt := 118) B dX8_of_114 (by decide) ?_
                  exact la_ireturn B rfl (by simp only [fX8_of, if_neg c13, if_neg s19_0, if_neg s19_1, if_neg s19_2, if_neg s19_3, if_neg s19_4, if_pos s19_5, if_neg c110]) (by simp only [gX8_of, if_neg c13, if_neg s19_0, if_neg s19_1, if_neg s19_2, if_neg s19_3, if_neg s19_4, if_pos s19_5, if_neg c110]) dX8_of_118
              · have ts19_5 := lv_neT s19_5 (show (5 : Int32).toInt = 5 from by decide)
                by_cases s19_6 : wh = 6
                · refine la_tabIn (off := 100) (tgt := 119) B dX8_of_19 (by rw [s19_6]; decide) (by rw [s19_6]; decide) (by rw [s19_6]; decide) (by decide) ?_
                  refine la_aload_n (i := 0) B dX8_of_119 rfl rfl ?_
                  refine la_get (i := 0) (ci := 8) (j := 0) (C := RX8) (T := TX8) (N := 4) B (lh_nc_lt (by decide)) rfl ix_8 rfl (by decide) wd_309 rfl rfl dX8_of_120 ?_
                  refine la_get (i := 1) (ci := 2) (j := 2) (C := RX2) (T := TX2) (N := 5) B (lh_nc_lt (by decide)) rfl ix_2 rfl (by decide) wd_223 rfl rfl dX8_of_123 ?_
                  refine la_iload_n (i := 1) B dX8_of_126 rfl rfl ?_
                  refine la_callVi (i := 4) B (ct_X0_countOf h sn I.1.2.2.1.1 I.1.2.2.1.2) lk_X8_121 (by decide) (lh_nc_lt (by decide)) rfl rfl rfl (by simp [Value.category]) dX8_of_127 ?_
                  exact la_ireturn B rfl (by simp only [fX8_of, if_neg c13, if_neg s19_0, if_neg s19_1, if_neg s19_2, if_neg s19_3, if_neg s19_4, if_neg s19_5, if_pos s19_6]) (by simp only [gX8_of, if_neg c13, if_neg s19_0, if_neg s19_1, if_neg s19_2, if_neg s19_3, if_neg s19_4, if_neg s19_5, if_pos s19_6]) dX8_of_130
                · have ts19_6 := lv_neT s19_6 (show (6 : Int32).toInt = 6 from by decide)
                  by_cases s19_7 : wh = 7
                  · refine la_tabIn (off := 112) (tgt := 131) B dX8_of_19 (by rw [s19_7]; decide) (by rw [s19_7]; decide) (by rw [s19_7]; decide) (by decide) ?_
                    refine la_aload_n (i := 0) B dX8_of_131 rfl rfl ?_
                    refine la_get (i := 0) (ci := 8) (j := 0) (C := RX8) (T := TX8) (N := 4) B (lh_nc_lt (by decide)) rfl ix_8 rfl (by decide) wd_309 rfl rfl dX8_of_132 ?_
                    refine la_get (i := 1) (ci := 2) (j := 3) (C := RX2) (T := TX2) (N := 5) B (lh_nc_lt (by decide)) rfl ix_2 rfl (by decide) wd_226 rfl rfl dX8_of_135 ?_
                    refine la_iload_n (i := 1) B dX8_of_138 rfl rfl ?_
                    refine la_callVi (i := 5) B (ct_X6_countOf h sn I.1.2.2.2.1.1 I.1.2.2.2.1.2) lk_X8_130 (by decide) (lh_nc_lt (by decide)) rfl rfl rfl (by simp [Value.category]) dX8_of_139 ?_
                    exact la_ireturn B rfl (by simp only [fX8_of, if_neg c13, if_neg s19_0, if_neg s19_1, if_neg s19_2, if_neg s19_3, if_neg s19_4, if_neg s19_5, if_neg s19_6, if_pos s19_7]) (by simp only [gX8_of, if_neg c13, if_neg s19_0, if_neg s19_1, if_neg s19_2, if_neg s19_3, if_neg s19_4, if_neg s19_5, if_neg s19_6, if_pos s19_7]) dX8_of_142
                  · have ts19_7 := lv_neT s19_7 (show (7 : Int32).toInt = 7 from by decide)
                    refine la_tabOut (tgt := 143) B dX8_of_19 (by omega) (by decide) ?_
                    refine la_iconst (v := -1) B dX8_of_143 (by decide) ?_
                    exact la_ireturn B rfl (by simp only [fX8_of, if_neg c13, if_neg s19_0, if_neg s19_1, if_neg s19_2, if_neg s19_3, if_neg s19_4, if_neg s19_5, if_neg s19_6, if_neg s19_7]) (by simp only [gX8_of, if_neg c13, if_neg s19_0, if_neg s19_1, if_neg s19_2, if_neg s19_3, if_neg s19_4, if_neg s19_5, if_neg s19_6, if_neg s19_7]) dX8_of_144
  · refine la_iconst (v := -1) B dX8_of_16 (by decide) ?_
    exact la_ireturn B rfl (by simp only [fX8_of, if_pos c13]) (by simp only [gX8_of, if_pos c13]) dX8_of_17

def fX8_show (h : lh_HS) (sn : Int32) (rn : Int32) (yr : Int32) : Int32 := (if (fX5_has h sn) = 0 then (-1) else (if (fX4_has h rn) = 0 then (-1) else (if (fX8_isYear h yr) = 0 then (-1) else (if (fX0_shownWithin h sn yr 0) = 0 then (if (h 4 0) < 30 then fX8_changed (gX0_addShow h sn rn yr) (fX0_addShow h sn rn yr) else (-2)) else (-3)))))
def gX8_show (h : lh_HS) (sn : Int32) (rn : Int32) (yr : Int32) : lh_HS := (if (fX5_has h sn) = 0 then h else (if (fX4_has h rn) = 0 then h else (if (fX8_isYear h yr) = 0 then h else (if (fX0_shownWithin h sn yr 0) = 0 then (if (h 4 0) < 30 then gX8_changed (gX0_addShow h sn rn yr) (fX0_addShow h sn rn yr) else h) else h))))
set_option maxHeartbeats 4000000 in
set_option maxRecDepth 100000 in
theorem ct_X8_show {l : Launch} {D : va_G} {ad : Nat → Nat} {bs : Nat} {cI cZ : ClassId} {t9 : Nat} {k : Bool} (h : lh_HS) (sn : Int32) (rn : Int32) (yr : Int32) (I : lh_I h) : lh_CTi l D ad bs cI cZ t9 k yX8_show cX8_show 4 (some .int) 10 [.ref (ad 0), .int sn, .int rn, .int yr] h (fX8_show h sn rn yr) (gX8_show h sn rn yr) := by
  refine lh_ofi (lv := [(0, .ref (ad 0)), (1, .int sn), (2, .int rn), (3, .int yr)]) (by decide) (Nat.le_of_ble_eq_true rfl) rfl (by simp [Value.category]) ⟨rfl, rfl, rfl, rfl, trivial⟩ ?_
  intro p e s m args below meth c B
  have B : lh_BK p (lh_rm 10) s m args meth c D ad bs cI cZ t9 k "LightHours" cX8_show 4 (some .int) := B
  refine la_aload_n (i := 0) B dX8_show_0 rfl rfl ?_
  refine la_get (i := 0) (ci := 8) (j := 0) (C := RX8) (T := TX8) (N := 4) B (lh_nc_lt (by decide)) rfl ix_8 rfl (by decide) wd_309 rfl rfl dX8_show_1 ?_
  refine la_get (i := 1) (ci := 2) (j := 1) (C := RX2) (T := TX2) (N := 5) B (lh_nc_lt (by decide)) rfl ix_2 rfl (by decide) wd_219 rfl rfl dX8_show_4 ?_
  refine la_iload_n (i := 1) B dX8_show_7 rfl rfl ?_
  refine la_callVi (i := 3) B (ct_X5_has h sn) lk_X8_87 (by decide) (lh_nc_lt (by decide)) rfl rfl rfl (by simp [Value.category]) dX8_show_8 ?_
  refine la_if_eq (tgt := 35) B dX8_show_11 (by decide) (fun c11 => ?_) (fun c11 => ?_)
  · refine la_iconst (v := -1) B dX8_show_35 (by decide) ?_
    exact la_ireturn B rfl (by simp only [fX8_show, if_pos c11]) (by simp only [gX8_show, if_pos c11]) dX8_show_36
  · refine la_aload_n (i := 0) B dX8_show_14 rfl rfl ?_
    refine la_get (i := 0) (ci := 8) (j := 0) (C := RX8) (T := TX8) (N := 4) B (lh_nc_lt (by decide)) rfl ix_8 rfl (by decide) wd_309 rfl rfl dX8_show_15 ?_
    refine la_get (i := 1) (ci := 2) (j := 0) (C := RX2) (T := TX2) (N := 5) B (lh_nc_lt (by decide)) rfl ix_2 rfl (by decide) wd_214 rfl rfl dX8_show_18 ?_
    refine la_iload_n (i := 2) B dX8_show_21 rfl rfl ?_
    refine la_callVi (i := 2) B (ct_X4_has h rn) lk_X8_58 (by decide) (lh_nc_lt (by decide)) rfl rfl rfl (by simp [Value.category]) dX8_show_22 ?_
    refine la_if_eq (tgt := 35) B dX8_show_25 (by decide) (fun c25 => ?_) (fun c25 => ?_)
    · refine la_iconst (v := -1) B dX8_show_35 (by decide) ?_
      exact la_ireturn B rfl (by simp only [fX8_show, if_neg c11, if_pos c25]) (by simp only [gX8_show, if_neg c11, if_pos c25]) dX8_show_36
    · refine la_iload_n (i := 3) B dX8_show_28 rfl rfl ?_
      refine la_callSi B (ct_X8_isYear h yr) lk_X8_62 (by decide) rfl (by simp [Value.category]) dX8_show_29 ?_
      refine la_if_ne (tgt := 37) B dX8_show_32 (by decide) (fun c32 => ?_) (fun c32 => ?_)
      · refine la_aload_n (i := 0) B dX8_show_37 rfl rfl ?_
        refine la_get (i := 0) (ci := 8) (j := 0) (C := RX8) (T := TX8) (N := 4) B (lh_nc_lt (by decide)) rfl ix_8 rfl (by decide) wd_309 rfl rfl dX8_show_38 ?_
        refine la_get (i := 1) (ci := 2) (j := 2) (C := RX2) (T := TX2) (N := 5) B (lh_nc_lt (by decide)) rfl ix_2 rfl (by decide) wd_223 rfl rfl dX8_show_41 ?_
        refine la_iload_n (i := 1) B dX8_show_44 rfl rfl ?_
        refine la_iload_n (i := 3) B dX8_show_45 rfl rfl ?_
        refine la_iconst (v := 0) B dX8_show_46 (by decide) ?_
        refine la_callVi (i := 4) B (ct_X0_shownWithin h sn yr 0 I.1.2.2.1.1 I.1.2.2.1.2) lk_X8_133 (by decide) (lh_nc_lt (by decide)) rfl rfl rfl (by simp [Value.category]) dX8_show_47 ?_
        refine la_if_eq (tgt := 56) B dX8_show_50 (by decide) (fun c50 => ?_) (fun c50 => ?_)
        · refine la_aload_n (i := 0) B dX8_show_56 rfl rfl ?_
          refine la_get (i := 0) (ci := 8) (j := 0) (C := RX8) (T := TX8) (N := 4) B (lh_nc_lt (by decide)) rfl ix_8 rfl (by decide) wd_309 rfl rfl dX8_show_57 ?_
          refine la_get (i := 1) (ci := 2) (j := 2) (C := RX2) (T := TX2) (N := 5) B (lh_nc_lt (by decide)) rfl ix_2 rfl (by decide) wd_223 rfl rfl dX8_show_60 ?_
          refine la_get (i := 4) (ci := 0) (j := 0) (v := .int (h 4 0)) (C := RX0) (T := TX0) (N := 6) B (lh_nc_lt (by decide)) rfl ix_0 rfl (by decide) wd_135 rfl rfl dX8_show_63 ?_
          refine la_bipush (v := 30) B dX8_show_66 (by decide) ?_
          refine la_icmp_lt (tgt := 74) B dX8_show_68 (by decide) (fun c68 => ?_) (fun c68 => ?_)
          · refine la_aload_n (i := 0) B dX8_show_74 rfl rfl ?_
            refine la_aload_n (i := 0) B dX8_show_75 rfl rfl ?_
            refine la_get (i := 0) (ci := 8) (j := 0) (C := RX8) (T := TX8) (N := 4) B (lh_nc_lt (by decide)) rfl ix_8 rfl (by decide) wd_309 rfl rfl dX8_show_76 ?_
            refine la_get (i := 1) (ci := 2) (j := 2) (C := RX2) (T := TX2) (N := 5) B (lh_nc_lt (by decide)) rfl ix_2 rfl (by decide) wd_223 rfl rfl dX8_show_79 ?_
            refine la_iload_n (i := 1) B dX8_show_82 rfl rfl ?_
            refine la_iload_n (i := 2) B dX8_show_83 rfl rfl ?_
            refine la_iload_n (i := 3) B dX8_show_84 rfl rfl ?_
            refine la_callVi (i := 4) B (ct_X0_addShow h sn rn yr I.c30.pre) lk_X8_137 (by decide) (lh_nc_lt (by decide)) rfl rfl rfl (by simp [Value.category]) dX8_show_85 ?_
            refine la_callVi (i := 0) B (ct_X8_changed (gX0_addShow h sn rn yr) (fX0_addShow h sn rn yr)) lk_X8_55 (by decide) (lh_nc_lt (by decide)) rfl rfl rfl (by simp [Value.category]) dX8_show_88 ?_
            exact la_ireturn B rfl (by simp only [fX8_show, if_neg c11, if_neg c25, if_neg c32, if_pos c50, if_pos c68]) (by simp only [gX8_show, if_neg c11, if_neg c25, if_neg c32, if_pos c50, if_pos c68]) dX8_show_91
          · refine la_bipush (v := -2) B dX8_show_71 (by decide) ?_
            exact la_ireturn B rfl (by simp only [fX8_show, if_neg c11, if_neg c25, if_neg c32, if_pos c50, if_neg c68]) (by simp only [gX8_show, if_neg c11, if_neg c25, if_neg c32, if_pos c50, if_neg c68]) dX8_show_73
        · refine la_bipush (v := -3) B dX8_show_53 (by decide) ?_
          exact la_ireturn B rfl (by simp only [fX8_show, if_neg c11, if_neg c25, if_neg c32, if_neg c50]) (by simp only [gX8_show, if_neg c11, if_neg c25, if_neg c32, if_neg c50]) dX8_show_55
      · refine la_iconst (v := -1) B dX8_show_35 (by decide) ?_
        exact la_ireturn B rfl (by simp only [fX8_show, if_neg c11, if_neg c25, if_pos c32]) (by simp only [gX8_show, if_neg c11, if_neg c25, if_pos c32]) dX8_show_36

def fX8_lend (h : lh_HS) (sn : Int32) (yr : Int32) (am : Int32) : Int32 := (if (fX5_has h sn) = 0 then (-1) else (if (fX8_isYear h yr) = 0 then (-1) else (if (fX8_within h am 1 500) = 0 then (-1) else (if am ≤ (fX3_leftEnd (gX3_openAt h sn) 0) then (if ((gX3_openAt h sn) 4 0) < 30 then fX8_changed (gX0_addLoan (gX3_openAt h sn) sn yr am) (fX0_addLoan (gX3_openAt h sn) sn yr am) else (-2)) else (-4)))))
def gX8_lend (h : lh_HS) (sn : Int32) (yr : Int32) (am : Int32) : lh_HS := (if (fX5_has h sn) = 0 then h else (if (fX8_isYear h yr) = 0 then h else (if (fX8_within h am 1 500) = 0 then h else (if am ≤ (fX3_leftEnd (gX3_openAt h sn) 0) then (if ((gX3_openAt h sn) 4 0) < 30 then gX8_changed (gX0_addLoan (gX3_openAt h sn) sn yr am) (fX0_addLoan (gX3_openAt h sn) sn yr am) else gX3_openAt h sn) else gX3_openAt h sn))))
set_option maxHeartbeats 4000000 in
set_option maxRecDepth 100000 in
theorem ct_X8_lend {l : Launch} {D : va_G} {ad : Nat → Nat} {bs : Nat} {cI cZ : ClassId} {t9 : Nat} {k : Bool} (h : lh_HS) (sn : Int32) (yr : Int32) (am : Int32) (I : lh_I h) : lh_CTi l D ad bs cI cZ t9 k yX8_lend cX8_lend 4 (some .int) 10 [.ref (ad 0), .int sn, .int yr, .int am] h (fX8_lend h sn yr am) (gX8_lend h sn yr am) := by
  refine lh_ofi (lv := [(0, .ref (ad 0)), (1, .int sn), (2, .int yr), (3, .int am)]) (by decide) (Nat.le_of_ble_eq_true rfl) rfl (by simp [Value.category]) ⟨rfl, rfl, rfl, rfl, trivial⟩ ?_
  intro p e s m args below meth c B
  have B : lh_BK p (lh_rm 10) s m args meth c D ad bs cI cZ t9 k "LightHours" cX8_lend 4 (some .int) := B
  refine la_aload_n (i := 0) B dX8_lend_0 rfl rfl ?_
  refine la_get (i := 0) (ci := 8) (j := 0) (C := RX8) (T := TX8) (N := 4) B (lh_nc_lt (by decide)) rfl ix_8 rfl (by decide) wd_309 rfl rfl dX8_lend_1 ?_
  refine la_get (i := 1) (ci := 2) (j := 1) (C := RX2) (T := TX2) (N := 5) B (lh_nc_lt (by decide)) rfl ix_2 rfl (by decide) wd_219 rfl rfl dX8_lend_4 ?_
  refine la_iload_n (i := 1) B dX8_lend_7 rfl rfl ?_
  refine la_callVi (i := 3) B (ct_X5_has h sn) lk_X8_87 (by decide) (lh_nc_lt (by decide)) rfl rfl rfl (by simp [Value.category]) dX8_lend_8 ?_
  refine la_if_eq (tgt := 32) B dX8_lend_11 (by decide) (fun c11 => ?_) (fun c11 => ?_)
  · refine la_iconst (v := -1) B dX8_lend_32 (by decide) ?_
    exact la_ireturn B rfl (by simp only [fX8_lend, if_pos c11]) (by simp only [gX8_lend, if_pos c11]) dX8_lend_33
  · refine la_iload_n (i := 2) B dX8_lend_14 rfl rfl ?_
    refine la_callSi B (ct_X8_isYear h yr) lk_X8_62 (by decide) rfl (by simp [Value.category]) dX8_lend_15 ?_
    refine la_if_eq (tgt := 32) B dX8_lend_18 (by decide) (fun c18 => ?_) (fun c18 => ?_)
    · refine la_iconst (v := -1) B dX8_lend_32 (by decide) ?_
      exact la_ireturn B rfl (by simp only [fX8_lend, if_neg c11, if_pos c18]) (by simp only [gX8_lend, if_neg c11, if_pos c18]) dX8_lend_33
    · refine la_iload_n (i := 3) B dX8_lend_21 rfl rfl ?_
      refine la_iconst (v := 1) B dX8_lend_22 (by decide) ?_
      refine la_sipush (v := 500) B dX8_lend_23 (by decide) ?_
      refine la_callSi B (ct_X8_within h am 1 500) lk_X8_37 (by decide) rfl (by simp [Value.category]) dX8_lend_26 ?_
      refine la_if_ne (tgt := 34) B dX8_lend_29 (by decide) (fun c29 => ?_) (fun c29 => ?_)
      · refine la_aload_n (i := 0) B dX8_lend_34 rfl rfl ?_
        refine la_get (i := 0) (ci := 8) (j := 1) (C := RX8) (T := TX8) (N := 4) B (lh_nc_lt (by decide)) rfl ix_8 rfl (by decide) wd_310 rfl rfl dX8_lend_35 ?_
        refine la_iload_n (i := 1) B dX8_lend_38 rfl rfl ?_
        refine la_callVr (i := 27) B (ct_X3_openAt h sn I (lh_sheets I c11)) lk_X8_109 (by decide) (lh_nc_lt (by decide)) rfl rfl rfl (by simp [Value.category]) dX8_lend_39 ?_
        refine la_iconst (v := 0) B dX8_lend_42 (by decide) ?_
        refine la_callVi (i := 27) B (ct_X3_leftEnd (gX3_openAt h sn) 0 (lh_open8 I (lh_sheets I c11))) lk_X8_141 (by decide) (lh_nc_lt (by decide)) rfl rfl rfl (by simp [Value.category]) dX8_lend_43 ?_
        refine la_iload_n (i := 3) B dX8_lend_46 rfl rfl ?_
        refine la_icmp_ge (tgt := 53) B dX8_lend_47 (by decide) (fun c47 => ?_) (fun c47 => ?_)
        · refine la_aload_n (i := 0) B dX8_lend_53 rfl rfl ?_
          refine la_get (i := 0) (ci := 8) (j := 0) (C := RX8) (T := TX8) (N := 4) B (lh_nc_lt (by decide)) rfl ix_8 rfl (by decide) wd_309 rfl rfl dX8_lend_54 ?_
          refine la_get (i := 1) (ci := 2) (j := 2) (C := RX2) (T := TX2) (N := 5) B (lh_nc_lt (by decide)) rfl ix_2 rfl (by decide) wd_223 rfl rfl dX8_lend_57 ?_
          refine la_get (i := 4) (ci := 0) (j := 0) (v := .int ((gX3_openAt h sn) 4 0)) (C := RX0) (T := TX0) (N := 6) B (lh_nc_lt (by decide)) rfl ix_0 rfl (by decide) wd_135 rfl rfl dX8_lend_60 ?_
          refine la_bipush (v := 30) B dX8_lend_63 (by decide) ?_
          refine la_icmp_lt (tgt := 71) B dX8_lend_65 (by decide) (fun c65 => ?_) (fun c65 => ?_)
          · refine la_aload_n (i := 0) B dX8_lend_71 rfl rfl ?_
            refine la_aload_n (i := 0) B dX8_lend_72 rfl rfl ?_
            refine la_get (i := 0) (ci := 8) (j := 0) (C := RX8) (T := TX8) (N := 4) B (lh_nc_lt (by decide)) rfl ix_8 rfl (by decide) wd_309 rfl rfl dX8_lend_73 ?_
            refine la_get (i := 1) (ci := 2) (j := 2) (C := RX2) (T := TX2) (N := 5) B (lh_nc_lt (by decide)) rfl ix_2 rfl (by decide) wd_223 rfl rfl dX8_lend_76 ?_
            refine la_iload_n (i := 1) B dX8_lend_79 rfl rfl ?_
            refine la_iload_n (i := 2) B dX8_lend_80 rfl rfl ?_
            refine la_iload_n (i := 3) B dX8_lend_81 rfl rfl ?_
            refine la_callVi (i := 4) B (ct_X0_addLoan (gX3_openAt h sn) sn yr am (I.fr (lh_openfr (lh_fr.rf h) sn)).c30.pre) lk_X8_145 (by decide) (lh_nc_lt (by decide)) rfl rfl rfl (by simp [Value.category]) dX8_lend_82 ?_
            refine la_callVi (i := 0) B (ct_X8_changed (gX0_addLoan (gX3_openAt h sn) sn yr am) (fX0_addLoan (gX3_openAt h sn) sn yr am)) lk_X8_55 (by decide) (lh_nc_lt (by decide)) rfl rfl rfl (by simp [Value.category]) dX8_lend_85 ?_
            exact la_ireturn B rfl (by simp only [fX8_lend, if_neg c11, if_neg c18, if_neg c29, if_pos c47, if_pos c65]) (by simp only [gX8_lend, if_neg c11, if_neg c18, if_neg c29, if_pos c47, if_pos c65]) dX8_lend_88
          · refine la_bipush (v := -2) B dX8_lend_68 (by decide) ?_
            exact la_ireturn B rfl (by simp only [fX8_lend, if_neg c11, if_neg c18, if_neg c29, if_pos c47, if_neg c65]) (by simp only [gX8_lend, if_neg c11, if_neg c18, if_neg c29, if_pos c47, if_neg c65]) dX8_lend_70
        · refine la_bipush (v := -4) B dX8_lend_50 (by decide) ?_
          exact la_ireturn B rfl (by simp only [fX8_lend, if_neg c11, if_neg c18, if_neg c29, if_neg c47]) (by simp only [gX8_lend, if_neg c11, if_neg c18, if_neg c29, if_neg c47]) dX8_lend_52
      · refine la_iconst (v := -1) B dX8_lend_32 (by decide) ?_
        exact la_ireturn B rfl (by simp only [fX8_lend, if_neg c11, if_neg c18, if_pos c29]) (by simp only [gX8_lend, if_neg c11, if_neg c18, if_pos c29]) dX8_lend_33

def fX8_lacks (h : lh_HS) (sn : Int32) (am : Int32) : Int32 := (if (fX5_has h sn) = 0 then (-1) else (if (fX8_within h am 1 500) = 0 then (-1) else if 0 < (am - (fX3_leftEnd (gX3_openAt h sn) 0)) then (am - (fX3_leftEnd (gX3_openAt h sn) 0)) else 0))
def gX8_lacks (h : lh_HS) (sn : Int32) (am : Int32) : lh_HS := (if (fX5_has h sn) = 0 then h else (if (fX8_within h am 1 500) = 0 then h else gX3_openAt h sn))
set_option maxHeartbeats 4000000 in
set_option maxRecDepth 100000 in
theorem ct_X8_lacks {l : Launch} {D : va_G} {ad : Nat → Nat} {bs : Nat} {cI cZ : ClassId} {t9 : Nat} {k : Bool} (h : lh_HS) (sn : Int32) (am : Int32) (I : lh_I h) : lh_CTi l D ad bs cI cZ t9 k yX8_lacks cX8_lacks 3 (some .int) 10 [.ref (ad 0), .int sn, .int am] h (fX8_lacks h sn am) (gX8_lacks h sn am) := by
  refine lh_ofi (lv := [(0, .ref (ad 0)), (1, .int sn), (2, .int am)]) (by decide) (Nat.le_of_ble_eq_true rfl) rfl (by simp [Value.category]) ⟨rfl, rfl, rfl, trivial⟩ ?_
  intro p e s m args below meth c B
  have B : lh_BK p (lh_rm 10) s m args meth c D ad bs cI cZ t9 k "LightHours" cX8_lacks 3 (some .int) := B
  refine la_aload_n (i := 0) B dX8_lacks_0 rfl rfl ?_
  refine la_get (i := 0) (ci := 8) (j := 0) (C := RX8) (T := TX8) (N := 4) B (lh_nc_lt (by decide)) rfl ix_8 rfl (by decide) wd_309 rfl rfl dX8_lacks_1 ?_
  refine la_get (i := 1) (ci := 2) (j := 1) (C := RX2) (T := TX2) (N := 5) B (lh_nc_lt (by decide)) rfl ix_2 rfl (by decide) wd_219 rfl rfl dX8_lacks_4 ?_
  refine la_iload_n (i := 1) B dX8_lacks_7 rfl rfl ?_
  refine la_callVi (i := 3) B (ct_X5_has h sn) lk_X8_87 (by decide) (lh_nc_lt (by decide)) rfl rfl rfl (by simp [Value.category]) dX8_lacks_8 ?_
  refine la_if_eq (tgt := 25) B dX8_lacks_11 (by decide) (fun c11 => ?_) (fun c11 => ?_)
  · refine la_iconst (v := -1) B dX8_lacks_25 (by decide) ?_
    exact la_ireturn B rfl (by simp only [fX8_lacks, if_pos c11]) (by simp only [gX8_lacks, if_pos c11]) dX8_lacks_26
  · refine la_iload_n (i := 2) B dX8_lacks_14 rfl rfl ?_
    refine la_iconst (v := 1) B dX8_lacks_15 (by decide) ?_
    refine la_sipush (v := 500) B dX8_lacks_16 (by decide) ?_
    refine la_callSi B (ct_X8_within h am 1 500) lk_X8_37 (by decide) rfl (by simp [Value.category]) dX8_lacks_19 ?_
    refine la_if_ne (tgt := 27) B dX8_lacks_22 (by decide) (fun c22 => ?_) (fun c22 => ?_)
    · refine la_iconst (v := 0) B dX8_lacks_27 (by decide) ?_
      refine la_iload_n (i := 2) B dX8_lacks_28 rfl rfl ?_
      refine la_aload_n (i := 0) B dX8_lacks_29 rfl rfl ?_
      refine la_get (i := 0) (ci := 8) (j := 1) (C := RX8) (T := TX8) (N := 4) B (lh_nc_lt (by decide)) rfl ix_8 rfl (by decide) wd_310 rfl rfl dX8_lacks_30 ?_
      refine la_iload_n (i := 1) B dX8_lacks_33 rfl rfl ?_
      refine la_callVr (i := 27) B (ct_X3_openAt h sn I (lh_sheets I c11)) lk_X8_109 (by decide) (lh_nc_lt (by decide)) rfl rfl rfl (by simp [Value.category]) dX8_lacks_34 ?_
      refine la_iconst (v := 0) B dX8_lacks_37 (by decide) ?_
      refine la_callVi (i := 27) B (ct_X3_leftEnd (gX3_openAt h sn) 0 (lh_open8 I (lh_sheets I c11))) lk_X8_141 (by decide) (lh_nc_lt (by decide)) rfl rfl rfl (by simp [Value.category]) dX8_lacks_38 ?_
      refine la_isub B dX8_lacks_41 ?_
      refine la_mmax B wd_471 wd_417 wd_45 wd_418 (by decide) (by decide) dX8_lacks_42 ?_
      exact la_ireturn B rfl (by simp only [fX8_lacks, if_neg c11, if_neg c22]) (by simp only [gX8_lacks, if_neg c11, if_neg c22]) dX8_lacks_45
    · refine la_iconst (v := -1) B dX8_lacks_25 (by decide) ?_
      exact la_ireturn B rfl (by simp only [fX8_lacks, if_neg c11, if_pos c22]) (by simp only [gX8_lacks, if_neg c11, if_pos c22]) dX8_lacks_26

def fX8_cancel (h : lh_HS) (bn : Int32) : Int32 := (if (fX0_has h bn) = 0 then (-1) else (if (h 20 bn.toNatClampNeg) = 0 then fX8_changed (lh_up h 20 bn.toNatClampNeg 1) 1 else (-3)))
def gX8_cancel (h : lh_HS) (bn : Int32) : lh_HS := (if (fX0_has h bn) = 0 then h else (if (h 20 bn.toNatClampNeg) = 0 then gX8_changed (lh_up h 20 bn.toNatClampNeg 1) 1 else h))
set_option maxHeartbeats 4000000 in
set_option maxRecDepth 100000 in
theorem ct_X8_cancel {l : Launch} {D : va_G} {ad : Nat → Nat} {bs : Nat} {cI cZ : ClassId} {t9 : Nat} {k : Bool} (h : lh_HS) (bn : Int32) (I : lh_I h) : lh_CTi l D ad bs cI cZ t9 k yX8_cancel cX8_cancel 3 (some .int) 10 [.ref (ad 0), .int bn] h (fX8_cancel h bn) (gX8_cancel h bn) := by
  refine lh_ofi (lv := [(0, .ref (ad 0)), (1, .int bn)]) (by decide) (Nat.le_of_ble_eq_true rfl) rfl (by simp [Value.category]) ⟨rfl, rfl, trivial⟩ ?_
  intro p e s m args below meth c B
  have B : lh_BK p (lh_rm 10) s m args meth c D ad bs cI cZ t9 k "LightHours" cX8_cancel 3 (some .int) := B
  refine la_aload_n (i := 0) B dX8_cancel_0 rfl rfl ?_
  refine la_get (i := 0) (ci := 8) (j := 0) (C := RX8) (T := TX8) (N := 4) B (lh_nc_lt (by decide)) rfl ix_8 rfl (by decide) wd_309 rfl rfl dX8_cancel_1 ?_
  refine la_get (i := 1) (ci := 2) (j := 2) (C := RX2) (T := TX2) (N := 5) B (lh_nc_lt (by decide)) rfl ix_2 rfl (by decide) wd_223 rfl rfl dX8_cancel_4 ?_
  refine la_astore_n (i := 2) B dX8_cancel_7 rfl (by decide) ?_
  refine la_aload_n (i := 2) B dX8_cancel_8 rfl rfl ?_
  refine la_iload_n (i := 1) B dX8_cancel_9 rfl rfl ?_
  refine la_callVi (i := 4) B (ct_X0_has h bn) lk_X8_154 (by decide) (lh_nc_lt (by decide)) rfl rfl rfl (by simp [Value.category]) dX8_cancel_10 ?_
  refine la_if_ne (tgt := 18) B dX8_cancel_13 (by decide) (fun c13 => ?_) (fun c13 => ?_)
  · refine la_aload_n (i := 2) B dX8_cancel_18 rfl rfl ?_
    refine la_get (i := 4) (ci := 0) (j := 5) (C := RX0) (T := TX0) (N := 6) B (lh_nc_lt (by decide)) rfl ix_0 rfl (by decide) wd_148 rfl rfl dX8_cancel_19 ?_
    refine la_iload_n (i := 1) B dX8_cancel_22 rfl rfl ?_
    refine la_zald (i := 20) (v := h 20 bn.toNatClampNeg) B (lh_nc_lt (by decide)) rfl ((lh_bookings I c13).vp I.1.2.2.1.2 (by omega)) rfl dX8_cancel_23 ?_
    refine la_if_eq (tgt := 30) B dX8_cancel_24 (by decide) (fun c24 => ?_) (fun c24 => ?_)
    · refine la_aload_n (i := 2) B dX8_cancel_30 rfl rfl ?_
      refine la_get (i := 4) (ci := 0) (j := 5) (C := RX0) (T := TX0) (N := 6) B (lh_nc_lt (by decide)) rfl ix_0 rfl (by decide) wd_148 rfl rfl dX8_cancel_31 ?_
      refine la_iload_n (i := 1) B dX8_cancel_34 rfl rfl ?_
      refine la_iconst (v := 1) B dX8_cancel_35 (by decide) ?_
      refine la_zast (i := 20) (j := bn.toNatClampNeg) B (lh_nc_lt (by decide)) rfl rfl ((lh_bookings I c13).vp I.1.2.2.1.2 (by omega)) rfl rfl dX8_cancel_36 ?_
      refine la_aload_n (i := 0) B dX8_cancel_37 rfl rfl ?_
      refine la_iconst (v := 1) B dX8_cancel_38 (by decide) ?_
      refine la_callVi (i := 0) B (ct_X8_changed (lh_up h 20 bn.toNatClampNeg 1) 1) lk_X8_55 (by decide) (lh_nc_lt (by decide)) rfl rfl rfl (by simp [Value.category]) dX8_cancel_39 ?_
      exact la_ireturn B rfl (by simp only [fX8_cancel, if_neg c13, if_pos c24]) (by simp only [gX8_cancel, if_neg c13, if_pos c24]) dX8_cancel_42
    · refine la_bipush (v := -3) B dX8_cancel_27 (by decide) ?_
      exact la_ireturn B rfl (by simp only [fX8_cancel, if_neg c13, if_neg c24]) (by simp only [gX8_cancel, if_neg c13, if_neg c24]) dX8_cancel_29
  · refine la_iconst (v := -1) B dX8_cancel_16 (by decide) ?_
    exact la_ireturn B rfl (by simp only [fX8_cancel, if_pos c13]) (by simp only [gX8_cancel, if_pos c13]) dX8_cancel_17

def fX8_booking (h : lh_HS) (bn : Int32) (wh : Int32) : Int32 := (if (fX0_has h bn) = 0 then (-1) else (if wh = 0 then (if (fX0_isLoan h bn) = 0 then 0 else 1) else (if wh = 1 then h 16 bn.toNatClampNeg else (if wh = 2 then h 17 bn.toNatClampNeg else (if wh = 3 then h 18 bn.toNatClampNeg else (if wh = 4 then fX2_spendEnd h bn 0 else (if wh = 5 then fX2_spendEnd h bn 1 else (if wh = 6 then (if (h 20 bn.toNatClampNeg) = 0 then 0 else 1) else (-1)))))))))
set_option maxHeartbeats 4000000 in
set_option maxRecDepth 100000 in
theorem ct_X8_booking {l : Launch} {D : va_G} {ad : Nat → Nat} {bs : Nat} {cI cZ : ClassId} {t9 : Nat} {k : Bool} (h : lh_HS) (bn : Int32) (wh : Int32) (I : lh_I h) : lh_CTi l D ad bs cI cZ t9 k yX8_booking cX8_booking 4 (some .int) 10 [.ref (ad 0), .int bn, .int wh] h (fX8_booking h bn wh) h := by
  refine lh_ofi (lv := [(0, .ref (ad 0)), (1, .int bn), (2, .int wh)]) (by decide) (Nat.le_of_ble_eq_true rfl) rfl (by simp [Value.category]) ⟨rfl, rfl, rfl, trivial⟩ ?_
  intro p e s m args below meth c B
  have B : lh_BK p (lh_rm 10) s m args meth c D ad bs cI cZ t9 k "LightHours" cX8_booking 4 (some .int) := B
  refine la_aload_n (i := 0) B dX8_booking_0 rfl rfl ?_
  refine la_get (i := 0) (ci := 8) (j := 0) (C := RX8) (T := TX8) (N := 4) B (lh_nc_lt (by decide)) rfl ix_8 rfl (by decide) wd_309 rfl rfl dX8_booking_1 ?_
  refine la_get (i := 1) (ci := 2) (j := 2) (C := RX2) (T := TX2) (N := 5) B (lh_nc_lt (by decide)) rfl ix_2 rfl (by decide) wd_223 rfl rfl dX8_booking_4 ?_
  refine la_astore_n (i := 3) B dX8_booking_7 rfl (by decide) ?_
  refine la_aload_n (i := 3) B dX8_booking_8 rfl rfl ?_
  refine la_iload_n (i := 1) B dX8_booking_9 rfl rfl ?_
  refine la_callVi (i := 4) B (ct_X0_has h bn) lk_X8_154 (by decide) (lh_nc_lt (by decide)) rfl rfl rfl (by simp [Value.category]) dX8_booking_10 ?_
  refine la_if_ne (tgt := 18) B dX8_booking_13 (by decide) (fun c13 => ?_) (fun c13 => ?_)
  · refine la_iload_n (i := 2) B dX8_booking_18 rfl rfl ?_
    by_cases s19_0 : wh = 0
    · refine la_tabIn (off := 41) (tgt := 60) B dX8_booking_19 (by rw [s19_0]; decide) (by rw [s19_0]; decide) (by rw [s19_0]; decide) (by decide) ?_
      refine la_aload_n (i := 3) B dX8_booking_60 rfl rfl ?_
      refine la_iload_n (i := 1) B dX8_booking_61 rfl rfl ?_
      refine la_callVi (i := 4) B (ct_X0_isLoan h bn ((lh_bookings I c13).vp I.1.2.2.1.2 (by omega))) lk_X8_159 (by decide) (lh_nc_lt (by decide)) rfl rfl rfl (by simp [Value.category]) dX8_booking_62 ?_
      refine la_if_eq (tgt := 72) B dX8_booking_65 (by decide) (fun c65 => ?_) (fun c65 => ?_)
      · refine la_iconst (v := 0) B dX8_booking_72 (by decide) ?_
        exact la_ireturn B rfl (by simp only [fX8_booking, if_neg c13, if_pos s19_0, if_pos c65]) rfl dX8_booking_73
      · refine la_iconst (v := 1) B dX8_booking_68 (by decide) ?_
        refine la_goto (tgt := 73) B dX8_booking_69 (by decide) ?_
        exact la_ireturn B rfl (by simp only [fX8_booking, if_neg c13, if_pos s19_0, if_neg c65]) rfl dX8_booking_73
    · have ts19_0 := lv_neT s19_0 (show (0 : Int32).toInt = 0 from by decide)
      by_cases s19_1 : wh = 1
      · refine la_tabIn (off := 55) (tgt := 74) B dX8_booking_19 (by rw [s19_1]; decide) (by rw [s19_1]; decide) (by rw [s19_1]; decide) (by decide) ?_
        refine la_aload_n (i := 3) B dX8_booking_74 rfl rfl ?_
        refine la_get (i := 4) (ci := 0) (j := 1) (C := RX0) (T := TX0) (N := 6) B (lh_nc_lt (by decide)) rfl ix_0 rfl (by decide) wd_137 rfl rfl dX8_booking_75 ?_
        refine la_iload_n (i := 1) B dX8_booking_78 rfl rfl ?_
        refine la_iald (i := 16) (v := h 16 bn.toNatClampNeg) B (lh_nc_lt (by decide)) rfl ((lh_bookings I c13).vp I.1.2.2.1.2 (by omega)) rfl dX8_booking_79 ?_
        exact la_ireturn B rfl (by simp only [fX8_booking, if_neg c13, if_neg s19_0, if_pos s19_1]) rfl dX8_booking_80
      · have ts19_1 := lv_neT s19_1 (show (1 : Int32).toInt = 1 from by decide)
        by_cases s19_2 : wh = 2
        · refine la_tabIn (off := 62) (tgt := 81) B dX8_booking_19 (by rw [s19_2]; decide) (by rw [s19_2]; decide) (by rw [s19_2]; decide) (by decide) ?_
          refine la_aload_n (i := 3) B dX8_booking_81 rfl rfl ?_
          refine la_get (i := 4) (ci := 0) (j := 2) (C := RX0) (T := TX0) (N := 6) B (lh_nc_lt (by decide)) rfl ix_0 rfl (by decide) wd_140 rfl rfl dX8_booking_82 ?_
          refine la_iload_n (i := 1) B dX8_booking_85 rfl rfl ?_
          refine la_iald (i := 17) (v := h 17 bn.toNatClampNeg) B (lh_nc_lt (by decide)) rfl ((lh_bookings I c13).vp I.1.2.2.1.2 (by omega)) rfl dX8_booking_86 ?_
          exact la_ireturn B rfl (by simp only [fX8_booking, if_neg c13, if_neg s19_0, if_neg s19_1, if_pos s19_2]) rfl dX8_booking_87
        · have ts19_2 := lv_neT s19_2 (show (2 : Int32).toInt = 2 from by decide)
          by_cases s19_3 : wh = 3
          · refine la_tabIn (off := 69) (tgt := 88) B dX8_booking_19 (by rw [s19_3]; decide) (by rw [s19_3]; decide) (by rw [s19_3]; decide) (by decide) ?_
            refine la_aload_n (i := 3) B dX8_booking_88 rfl rfl ?_
            refine la_get (i := 4) (ci := 0) (j := 3) (C := RX0) (T := TX0) (N := 6) B (lh_nc_lt (by decide)) rfl ix_0 rfl (by decide) wd_144 rfl rfl dX8_booking_89 ?_
            refine la_iload_n (i := 1) B dX8_booking_92 rfl rfl ?_
            refine la_iald (i := 18) (v := h 18 bn.toNatClampNeg) B (lh_nc_lt (by decide)) rfl ((lh_bookings I c13).vp I.1.2.2.1.2 (by omega)) rfl dX8_booking_93 ?_
            exact la_ireturn B rfl (by simp only [fX8_booking, if_neg c13, if_neg s19_0, if_neg s19_1, if_neg s19_2, if_pos s19_3]) rfl dX8_booking_94
          · have ts19_3 := lv_neT s19_3 (show (3 : Int32).toInt = 3 from by decide)
            by_cases s19_4 : wh = 4
            · refine la_tabIn (off := 76) (tgt := 95) B dX8_booking_19 (by rw [s19_4]; decide) (by rw [s19_4]; decide) (by rw [s19_4]; decide) (by decide) ?_
              refine la_aload_n (i := 0) B dX8_booking_95 rfl rfl ?_
              refine la_get (i := 0) (ci := 8) (j := 0) (C := RX8) (T := TX8) (N := 4) B (lh_nc_lt (by decide)) rfl ix_8 rfl (by decide) wd_309 rfl rfl dX8_booking_96 ?_
              refine la_iload_n (i := 1) B dX8_booking_99 rfl rfl ?_
              refine la_iconst (v := 0) B dX8_booking_100 (by decide) ?_
              have hp := lh_spendpre I (lh_bookings I c13)
              refine la_callVi (i := 1) B (ct_X2_spendEnd h bn 0 hp.1 hp.2.1 hp.2.2) lk_X8_171 (by decide) (lh_nc_lt (by decide)) rfl rfl rfl (by simp [Value.category]) dX8_booking_101 ?_
              exact la_ireturn B rfl (by simp only [fX8_booking, if_neg c13, if_neg s19_0, if_neg s19_1, if_neg s19_2, if_neg s19_3, if_pos s19_4]) rfl dX8_booking_104
            · have ts19_4 := lv_neT s19_4 (show (4 : Int32).toInt = 4 from by decide)
              by_cases s19_5 : wh = 5
              · refine la_tabIn (off := 86) (tgt := 105) B dX8_booking_19 (by rw [s19_5]; decide) (by rw [s19_5]; decide) (by rw [s19_5]; decide) (by decide) ?_
                refine la_aload_n (i := 0) B dX8_booking_105 rfl rfl ?_
                refine la_get (i := 0) (ci := 8) (j := 0) (C := RX8) (T := TX8) (N := 4) B (lh_nc_lt (by decide)) rfl ix_8 rfl (by decide) wd_309 rfl rfl dX8_booking_106 ?_
                refine la_iload_n (i := 1) B dX8_booking_109 rfl rfl ?_
                refine la_iconst (v := 1) B dX8_booking_110 (by decide) ?_
                have hp := lh_spendpre I (lh_bookings I c13)
                refine la_callVi (i := 1) B (ct_X2_spendEnd h bn 1 hp.1 hp.2.1 hp.2.2) lk_X8_171 (by decide) (lh_nc_lt (by decide)) rfl rfl rfl (by simp [Value.category]) dX8_booking_111 ?_
                exact la_ireturn B rfl (by simp only [fX8_booking, if_neg c13, if_neg s19_0, if_neg s19_1, if_neg s19_2, if_neg s19_3, if_neg s19_4, if_pos s19_5]) rfl dX8_booking_114
              · have ts19_5 := lv_neT s19_5 (show (5 : Int32).toInt = 5 from by decide)
                by_cases s19_6 : wh = 6
                · refine la_tabIn (off := 96) (tgt := 115) B dX8_booking_19 (by rw [s19_6]; decide) (by rw [s19_6]; decide) (by rw [s19_6]; decide) (by decide) ?_
                  refine la_aload_n (i := 3) B dX8_booking_115 rfl rfl ?_
                  refine la_get (i := 4) (ci := 0) (j := 5) (C := RX0) (T := TX0) (N := 6) B (lh_nc_lt (by decide)) rfl ix_0 rfl (by decide) wd_148 rfl rfl dX8_booking_116 ?_
                  refine la_iload_n (i := 1) B dX8_booking_119 rfl rfl ?_
                  refine la_zald (i := 20) (v := h 20 bn.toNatClampNeg) B (lh_nc_lt (by decide)) rfl ((lh_bookings I c13).vp I.1.2.2.1.2 (by omega)) rfl dX8_booking_120 ?_
                  refine la_if_eq (tgt := 128) B dX8_booking_121 (by decide) (fun c121 => ?_) (fun c121 => ?_)
                  · refine la_iconst (v := 0) B dX8_booking_128 (by decide) ?_
                    exact la_ireturn B rfl (by simp only [fX8_booking, if_neg c13, if_neg s19_0, if_neg s19_1, if_neg s19_2, if_neg s19_3, if_neg s19_4, if_neg s19_5, if_pos s19_6, if_pos c121]) rfl dX8_booking_129
                  · refine la_iconst (v := 1) B dX8_booking_124 (by decide) ?_
                    refine la_goto (tgt := 129) B dX8_booking_125 (by decide) ?_
                    exact la_ireturn B rfl (by simp only [fX8_booking, if_neg c13, if_neg s19_0, if_neg s19_1, if_neg s19_2, if_neg s19_3, if_neg s19_4, if_neg s19_5, if_pos s19_6, if_neg c121]) rfl dX8_booking_129
                · have ts19_6 := lv_neT s19_6 (show (6 : Int32).toInt = 6 from by decide)
                  refine la_tabOut (tgt := 130) B dX8_booking_19 (by omega) (by decide) ?_
                  refine la_iconst (v := -1) B dX8_booking_130 (by decide) ?_
                  exact la_ireturn B rfl (by simp only [fX8_booking, if_neg c13, if_neg s19_0, if_neg s19_1, if_neg s19_2, if_neg s19_3, if_neg s19_4, if_neg s19_5, if_neg s19_6]) rfl dX8_booking_131
  · refine la_iconst (v := -1) B dX8_booking_16 (by decide) ?_
    exact la_ireturn B rfl (by simp only [fX8_booking, if_pos c13]) rfl dX8_booking_17

def fX8_thread (h : lh_HS) (sn : Int32) (yr : Int32) (st1 : Int32) : Int32 := (if (fX5_has h sn) = 0 then (-1) else (if (fX8_isYear h yr) = 0 then (-1) else (if (fX8_within h st1 0 7) = 0 then (-1) else (if (h 5 0) < 12 then fX8_changed (gX6_add h sn yr st1) (fX6_add h sn yr st1) else (-2)))))
def gX8_thread (h : lh_HS) (sn : Int32) (yr : Int32) (st1 : Int32) : lh_HS := (if (fX5_has h sn) = 0 then h else (if (fX8_isYear h yr) = 0 then h else (if (fX8_within h st1 0 7) = 0 then h else (if (h 5 0) < 12 then gX8_changed (gX6_add h sn yr st1) (fX6_add h sn yr st1) else h))))
set_option maxHeartbeats 4000000 in
set_option maxRecDepth 100000 in
theorem ct_X8_thread {l : Launch} {D : va_G} {ad : Nat → Nat} {bs : Nat} {cI cZ : ClassId} {t9 : Nat} {k : Bool} (h : lh_HS) (sn : Int32) (yr : Int32) (st1 : Int32) (I : lh_I h) : lh_CTi l D ad bs cI cZ t9 k yX8_thread cX8_thread 4 (some .int) 10 [.ref (ad 0), .int sn, .int yr, .int st1] h (fX8_thread h sn yr st1) (gX8_thread h sn yr st1) := by
  refine lh_ofi (lv := [(0, .ref (ad 0)), (1, .int sn), (2, .int yr), (3, .int st1)]) (by decide) (Nat.le_of_ble_eq_true rfl) rfl (by simp [Value.category]) ⟨rfl, rfl, rfl, rfl, trivial⟩ ?_
  intro p e s m args below meth c B
  have B : lh_BK p (lh_rm 10) s m args meth c D ad bs cI cZ t9 k "LightHours" cX8_thread 4 (some .int) := B
  refine la_aload_n (i := 0) B dX8_thread_0 rfl rfl ?_
  refine la_get (i := 0) (ci := 8) (j := 0) (C := RX8) (T := TX8) (N := 4) B (lh_nc_lt (by decide)) rfl ix_8 rfl (by decide) wd_309 rfl rfl dX8_thread_1 ?_
  refine la_get (i := 1) (ci := 2) (j := 1) (C := RX2) (T := TX2) (N := 5) B (lh_nc_lt (by decide)) rfl ix_2 rfl (by decide) wd_219 rfl rfl dX8_thread_4 ?_
  refine la_iload_n (i := 1) B dX8_thread_7 rfl rfl ?_
  refine la_callVi (i := 3) B (ct_X5_has h sn) lk_X8_87 (by decide) (lh_nc_lt (by decide)) rfl rfl rfl (by simp [Value.category]) dX8_thread_8 ?_
  refine la_if_eq (tgt := 31) B dX8_thread_11 (by decide) (fun c11 => ?_) (fun c11 => ?_)
  · refine la_iconst (v := -1) B dX8_thread_31 (by decide) ?_
    exact la_ireturn B rfl (by simp only [fX8_thread, if_pos c11]) (by simp only [gX8_thread, if_pos c11]) dX8_thread_32
  · refine la_iload_n (i := 2) B dX8_thread_14 rfl rfl ?_
    refine la_callSi B (ct_X8_isYear h yr) lk_X8_62 (by decide) rfl (by simp [Value.category]) dX8_thread_15 ?_
    refine la_if_eq (tgt := 31) B dX8_thread_18 (by decide) (fun c18 => ?_) (fun c18 => ?_)
    · refine la_iconst (v := -1) B dX8_thread_31 (by decide) ?_
      exact la_ireturn B rfl (by simp only [fX8_thread, if_neg c11, if_pos c18]) (by simp only [gX8_thread, if_neg c11, if_pos c18]) dX8_thread_32
    · refine la_iload_n (i := 3) B dX8_thread_21 rfl rfl ?_
      refine la_iconst (v := 0) B dX8_thread_22 (by decide) ?_
      refine la_bipush (v := 7) B dX8_thread_23 (by decide) ?_
      refine la_callSi B (ct_X8_within h st1 0 7) lk_X8_37 (by decide) rfl (by simp [Value.category]) dX8_thread_25 ?_
      refine la_if_ne (tgt := 33) B dX8_thread_28 (by decide) (fun c28 => ?_) (fun c28 => ?_)
      · refine la_aload_n (i := 0) B dX8_thread_33 rfl rfl ?_
        refine la_get (i := 0) (ci := 8) (j := 0) (C := RX8) (T := TX8) (N := 4) B (lh_nc_lt (by decide)) rfl ix_8 rfl (by decide) wd_309 rfl rfl dX8_thread_34 ?_
        refine la_get (i := 1) (ci := 2) (j := 3) (C := RX2) (T := TX2) (N := 5) B (lh_nc_lt (by decide)) rfl ix_2 rfl (by decide) wd_226 rfl rfl dX8_thread_37 ?_
        refine la_get (i := 5) (ci := 6) (j := 0) (v := .int (h 5 0)) (C := RX6) (T := TX6) (N := 4) B (lh_nc_lt (by decide)) rfl ix_6 rfl (by decide) wd_171 rfl rfl dX8_thread_40 ?_
        refine la_bipush (v := 12) B dX8_thread_43 (by decide) ?_
        refine la_icmp_lt (tgt := 51) B dX8_thread_45 (by decide) (fun c45 => ?_) (fun c45 => ?_)
        · refine la_aload_n (i := 0) B dX8_thread_51 rfl rfl ?_
          refine la_aload_n (i := 0) B dX8_thread_52 rfl rfl ?_
          refine la_get (i := 0) (ci := 8) (j := 0) (C := RX8) (T := TX8) (N := 4) B (lh_nc_lt (by decide)) rfl ix_8 rfl (by decide) wd_309 rfl rfl dX8_thread_53 ?_
          refine la_get (i := 1) (ci := 2) (j := 3) (C := RX2) (T := TX2) (N := 5) B (lh_nc_lt (by decide)) rfl ix_2 rfl (by decide) wd_226 rfl rfl dX8_thread_56 ?_
          refine la_iload_n (i := 1) B dX8_thread_59 rfl rfl ?_
          refine la_iload_n (i := 2) B dX8_thread_60 rfl rfl ?_
          refine la_iload_n (i := 3) B dX8_thread_61 rfl rfl ?_
          refine la_callVi (i := 5) B (ct_X6_add h sn yr st1 ((lh_cnlt (B := 12) I.1.2.2.2.1 rfl c45).vp (Nat.le_refl _) (by omega))) lk_X8_176 (by decide) (lh_nc_lt (by decide)) rfl rfl rfl (by simp [Value.category]) dX8_thread_62 ?_
          refine la_callVi (i := 0) B (ct_X8_changed (gX6_add h sn yr st1) (fX6_add h sn yr st1)) lk_X8_55 (by decide) (lh_nc_lt (by decide)) rfl rfl rfl (by simp [Value.category]) dX8_thread_65 ?_
          exact la_ireturn B rfl (by simp only [fX8_thread, if_neg c11, if_neg c18, if_neg c28, if_pos c45]) (by simp only [gX8_thread, if_neg c11, if_neg c18, if_neg c28, if_pos c45]) dX8_thread_68
        · refine la_bipush (v := -2) B dX8_thread_48 (by decide) ?_
          exact la_ireturn B rfl (by simp only [fX8_thread, if_neg c11, if_neg c18, if_neg c28, if_neg c45]) (by simp only [gX8_thread, if_neg c11, if_neg c18, if_neg c28, if_neg c45]) dX8_thread_50
      · refine la_iconst (v := -1) B dX8_thread_31 (by decide) ?_
        exact la_ireturn B rfl (by simp only [fX8_thread, if_neg c11, if_neg c18, if_pos c28]) (by simp only [gX8_thread, if_neg c11, if_neg c18, if_pos c28]) dX8_thread_32

def fX8_cut (h : lh_HS)  : Int32 := (if 0 < (h 5 0) then fX8_changed (lh_up h 5 0 ((h 5 0) - 1)) ((h 5 0) - 1) else (-4))
def gX8_cut (h : lh_HS)  : lh_HS := (if 0 < (h 5 0) then gX8_changed (lh_up h 5 0 ((h 5 0) - 1)) ((h 5 0) - 1) else h)
set_option maxHeartbeats 4000000 in
set_option maxRecDepth 100000 in
theorem ct_X8_cut {l : Launch} {D : va_G} {ad : Nat → Nat} {bs : Nat} {cI cZ : ClassId} {t9 : Nat} {k : Bool} (h : lh_HS)  (I : lh_I h) : lh_CTi l D ad bs cI cZ t9 k yX8_cut cX8_cut 1 (some .int) 10 [.ref (ad 0)] h (fX8_cut h ) (gX8_cut h ) := by
  refine lh_ofi (lv := [(0, .ref (ad 0))]) (by decide) (Nat.le_of_ble_eq_true rfl) rfl (by simp [Value.category]) ⟨rfl, trivial⟩ ?_
  intro p e s m args below meth c B
  have B : lh_BK p (lh_rm 10) s m args meth c D ad bs cI cZ t9 k "LightHours" cX8_cut 1 (some .int) := B
  refine la_aload_n (i := 0) B dX8_cut_0 rfl rfl ?_
  refine la_get (i := 0) (ci := 8) (j := 0) (C := RX8) (T := TX8) (N := 4) B (lh_nc_lt (by decide)) rfl ix_8 rfl (by decide) wd_309 rfl rfl dX8_cut_1 ?_
  refine la_get (i := 1) (ci := 2) (j := 3) (C := RX2) (T := TX2) (N := 5) B (lh_nc_lt (by decide)) rfl ix_2 rfl (by decide) wd_226 rfl rfl dX8_cut_4 ?_
  refine la_get (i := 5) (ci := 6) (j := 0) (v := .int (h 5 0)) (C := RX6) (T := TX6) (N := 4) B (lh_nc_lt (by decide)) rfl ix_6 rfl (by decide) wd_171 rfl rfl dX8_cut_7 ?_
  refine la_if_gt (tgt := 16) B dX8_cut_10 (by decide) (fun c10 => ?_) (fun c10 => ?_)
  · refine la_aload_n (i := 0) B dX8_cut_16 rfl rfl ?_
    refine la_get (i := 0) (ci := 8) (j := 0) (C := RX8) (T := TX8) (N := 4) B (lh_nc_lt (by decide)) rfl ix_8 rfl (by decide) wd_309 rfl rfl dX8_cut_17 ?_
    refine la_get (i := 1) (ci := 2) (j := 3) (C := RX2) (T := TX2) (N := 5) B (lh_nc_lt (by decide)) rfl ix_2 rfl (by decide) wd_226 rfl rfl dX8_cut_20 ?_
    refine la_dup B dX8_cut_23 rfl ?_
    refine la_get (i := 5) (ci := 6) (j := 0) (v := .int (h 5 0)) (C := RX6) (T := TX6) (N := 4) B (lh_nc_lt (by decide)) rfl ix_6 rfl (by decide) wd_171 rfl rfl dX8_cut_24 ?_
    refine la_iconst (v := 1) B dX8_cut_27 (by decide) ?_
    refine la_isub B dX8_cut_28 ?_
    refine la_put (i := 5) (ci := 6) (j := 0) (C := RX6) (T := TX6) (N := 4) (ty0 := tyX6) B (lh_nc_lt (by decide)) rfl rfl ix_6 tyX6_ok nmX6 rfl (by decide) wd_171 rfl rfl rfl rfl rfl (Nat.le_of_ble_eq_true rfl) dX8_cut_29 ?_
    refine la_aload_n (i := 0) B dX8_cut_32 rfl rfl ?_
    refine la_aload_n (i := 0) B dX8_cut_33 rfl rfl ?_
    refine la_get (i := 0) (ci := 8) (j := 0) (C := RX8) (T := TX8) (N := 4) B (lh_nc_lt (by decide)) rfl ix_8 rfl (by decide) wd_309 rfl rfl dX8_cut_34 ?_
    refine la_get (i := 1) (ci := 2) (j := 3) (C := RX2) (T := TX2) (N := 5) B (lh_nc_lt (by decide)) rfl ix_2 rfl (by decide) wd_226 rfl rfl dX8_cut_37 ?_
    refine la_get (i := 5) (ci := 6) (j := 0) (v := .int ((h 5 0) - 1)) (C := RX6) (T := TX6) (N := 4) B (lh_nc_lt (by decide)) rfl ix_6 rfl (by decide) wd_171 rfl rfl dX8_cut_40 ?_
    refine la_callVi (i := 0) B (ct_X8_changed (lh_up h 5 0 ((h 5 0) - 1)) ((h 5 0) - 1)) lk_X8_55 (by decide) (lh_nc_lt (by decide)) rfl rfl rfl (by simp [Value.category]) dX8_cut_43 ?_
    exact la_ireturn B rfl (by simp only [fX8_cut, if_pos c10]) (by simp only [gX8_cut, if_pos c10]) dX8_cut_46
  · refine la_bipush (v := -4) B dX8_cut_13 (by decide) ?_
    exact la_ireturn B rfl (by simp only [fX8_cut, if_neg c10]) (by simp only [gX8_cut, if_neg c10]) dX8_cut_15

def fX8_pastOf (h : lh_HS) (sn : Int32) (gr : Int32) : Int32 := (if (fX5_has h sn) = 0 then (-1) else fX3_pastEnd (gX3_openAt h sn) gr)
def gX8_pastOf (h : lh_HS) (sn : Int32) (gr : Int32) : lh_HS := (if (fX5_has h sn) = 0 then h else gX3_openAt h sn)
set_option maxHeartbeats 4000000 in
set_option maxRecDepth 100000 in
theorem ct_X8_pastOf {l : Launch} {D : va_G} {ad : Nat → Nat} {bs : Nat} {cI cZ : ClassId} {t9 : Nat} {k : Bool} (h : lh_HS) (sn : Int32) (gr : Int32) (I : lh_I h) : lh_CTi l D ad bs cI cZ t9 k yX8_pastOf cX8_pastOf 3 (some .int) 10 [.ref (ad 0), .int sn, .int gr] h (fX8_pastOf h sn gr) (gX8_pastOf h sn gr) := by
  refine lh_ofi (lv := [(0, .ref (ad 0)), (1, .int sn), (2, .int gr)]) (by decide) (Nat.le_of_ble_eq_true rfl) rfl (by simp [Value.category]) ⟨rfl, rfl, rfl, trivial⟩ ?_
  intro p e s m args below meth c B
  have B : lh_BK p (lh_rm 10) s m args meth c D ad bs cI cZ t9 k "LightHours" cX8_pastOf 3 (some .int) := B
  refine la_aload_n (i := 0) B dX8_pastOf_0 rfl rfl ?_
  refine la_get (i := 0) (ci := 8) (j := 0) (C := RX8) (T := TX8) (N := 4) B (lh_nc_lt (by decide)) rfl ix_8 rfl (by decide) wd_309 rfl rfl dX8_pastOf_1 ?_
  refine la_get (i := 1) (ci := 2) (j := 1) (C := RX2) (T := TX2) (N := 5) B (lh_nc_lt (by decide)) rfl ix_2 rfl (by decide) wd_219 rfl rfl dX8_pastOf_4 ?_
  refine la_iload_n (i := 1) B dX8_pastOf_7 rfl rfl ?_
  refine la_callVi (i := 3) B (ct_X5_has h sn) lk_X8_87 (by decide) (lh_nc_lt (by decide)) rfl rfl rfl (by simp [Value.category]) dX8_pastOf_8 ?_
  refine la_if_ne (tgt := 16) B dX8_pastOf_11 (by decide) (fun c11 => ?_) (fun c11 => ?_)
  · refine la_aload_n (i := 0) B dX8_pastOf_16 rfl rfl ?_
    refine la_get (i := 0) (ci := 8) (j := 1) (C := RX8) (T := TX8) (N := 4) B (lh_nc_lt (by decide)) rfl ix_8 rfl (by decide) wd_310 rfl rfl dX8_pastOf_17 ?_
    refine la_iload_n (i := 1) B dX8_pastOf_20 rfl rfl ?_
    refine la_callVr (i := 27) B (ct_X3_openAt h sn I (lh_sheets I c11)) lk_X8_109 (by decide) (lh_nc_lt (by decide)) rfl rfl rfl (by simp [Value.category]) dX8_pastOf_21 ?_
    refine la_iload_n (i := 2) B dX8_pastOf_24 rfl rfl ?_
    refine la_callVi (i := 27) B (ct_X3_pastEnd (gX3_openAt h sn) gr) lk_X8_178 (by decide) (lh_nc_lt (by decide)) rfl rfl rfl (by simp [Value.category]) dX8_pastOf_25 ?_
    exact la_ireturn B rfl (by simp only [fX8_pastOf, if_neg c11]) (by simp only [gX8_pastOf, if_neg c11]) dX8_pastOf_28
  · refine la_iconst (v := -1) B dX8_pastOf_14 (by decide) ?_
    exact la_ireturn B rfl (by simp only [fX8_pastOf, if_pos c11]) (by simp only [gX8_pastOf, if_pos c11]) dX8_pastOf_15

def fX8_spent (h : lh_HS) (sn : Int32) (yr : Int32) (gr : Int32) : Int32 := (if (fX5_has h sn) = 0 then (-1) else (if (fX8_isYear h yr) = 0 then (-1) else fX3_spentEnd (gX3_openAt h sn) yr gr))
def gX8_spent (h : lh_HS) (sn : Int32) (yr : Int32) (gr : Int32) : lh_HS := (if (fX5_has h sn) = 0 then h else (if (fX8_isYear h yr) = 0 then h else gX3_openAt h sn))
set_option maxHeartbeats 4000000 in
set_option maxRecDepth 100000 in
theorem ct_X8_spent {l : Launch} {D : va_G} {ad : Nat → Nat} {bs : Nat} {cI cZ : ClassId} {t9 : Nat} {k : Bool} (h : lh_HS) (sn : Int32) (yr : Int32) (gr : Int32) (I : lh_I h) : lh_CTi l D ad bs cI cZ t9 k yX8_spent cX8_spent 4 (some .int) 10 [.ref (ad 0), .int sn, .int yr, .int gr] h (fX8_spent h sn yr gr) (gX8_spent h sn yr gr) := by
  refine lh_ofi (lv := [(0, .ref (ad 0)), (1, .int sn), (2, .int yr), (3, .int gr)]) (by decide) (Nat.le_of_ble_eq_true rfl) rfl (by simp [Value.category]) ⟨rfl, rfl, rfl, rfl, trivial⟩ ?_
  intro p e s m args below meth c B
  have B : lh_BK p (lh_rm 10) s m args meth c D ad bs cI cZ t9 k "LightHours" cX8_spent 4 (some .int) := B
  refine la_aload_n (i := 0) B dX8_spent_0 rfl rfl ?_
  refine la_get (i := 0) (ci := 8) (j := 0) (C := RX8) (T := TX8) (N := 4) B (lh_nc_lt (by decide)) rfl ix_8 rfl (by decide) wd_309 rfl rfl dX8_spent_1 ?_
  refine la_get (i := 1) (ci := 2) (j := 1) (C := RX2) (T := TX2) (N := 5) B (lh_nc_lt (by decide)) rfl ix_2 rfl (by decide) wd_219 rfl rfl dX8_spent_4 ?_
  refine la_iload_n (i := 1) B dX8_spent_7 rfl rfl ?_
  refine la_callVi (i := 3) B (ct_X5_has h sn) lk_X8_87 (by decide) (lh_nc_lt (by decide)) rfl rfl rfl (by simp [Value.category]) dX8_spent_8 ?_
  refine la_if_eq (tgt := 21) B dX8_spent_11 (by decide) (fun c11 => ?_) (fun c11 => ?_)
  · refine la_iconst (v := -1) B dX8_spent_21 (by decide) ?_
    exact la_ireturn B rfl (by simp only [fX8_spent, if_pos c11]) (by simp only [gX8_spent, if_pos c11]) dX8_spent_22
  · refine la_iload_n (i := 2) B dX8_spent_14 rfl rfl ?_
    refine la_callSi B (ct_X8_isYear h yr) lk_X8_62 (by decide) rfl (by simp [Value.category]) dX8_spent_15 ?_
    refine la_if_ne (tgt := 23) B dX8_spent_18 (by decide) (fun c18 => ?_) (fun c18 => ?_)
    · refine la_aload_n (i := 0) B dX8_spent_23 rfl rfl ?_
      refine la_get (i := 0) (ci := 8) (j := 1) (C := RX8) (T := TX8) (N := 4) B (lh_nc_lt (by decide)) rfl ix_8 rfl (by decide) wd_310 rfl rfl dX8_spent_24 ?_
      refine la_iload_n (i := 1) B dX8_spent_27 rfl rfl ?_
      refine la_callVr (i := 27) B (ct_X3_openAt h sn I (lh_sheets I c11)) lk_X8_109 (by decide) (lh_nc_lt (by decide)) rfl rfl rfl (by simp [Value.category]) dX8_spent_28 ?_
      refine la_iload_n (i := 2) B dX8_spent_31 rfl rfl ?_
      refine la_iload_n (i := 3) B dX8_spent_32 rfl rfl ?_
      refine la_callVi (i := 27) B (ct_X3_spentEnd (gX3_openAt h sn) yr gr ((lh_years c18).vp (Nat.le_refl _) (by omega))) lk_X8_181 (by decide) (lh_nc_lt (by decide)) rfl rfl rfl (by simp [Value.category]) dX8_spent_33 ?_
      exact la_ireturn B rfl (by simp only [fX8_spent, if_neg c11, if_neg c18]) (by simp only [gX8_spent, if_neg c11, if_neg c18]) dX8_spent_36
    · refine la_iconst (v := -1) B dX8_spent_21 (by decide) ?_
      exact la_ireturn B rfl (by simp only [fX8_spent, if_neg c11, if_pos c18]) (by simp only [gX8_spent, if_neg c11, if_pos c18]) dX8_spent_22

def fX8_left (h : lh_HS) (sn : Int32) (gr : Int32) : Int32 := (if (fX5_has h sn) = 0 then -1000000 else fX3_leftEnd (gX3_openAt h sn) gr)
def gX8_left (h : lh_HS) (sn : Int32) (gr : Int32) : lh_HS := (if (fX5_has h sn) = 0 then h else gX3_openAt h sn)
set_option maxHeartbeats 4000000 in
set_option maxRecDepth 100000 in
theorem ct_X8_left {l : Launch} {D : va_G} {ad : Nat → Nat} {bs : Nat} {cI cZ : ClassId} {t9 : Nat} {k : Bool} (h : lh_HS) (sn : Int32) (gr : Int32) (I : lh_I h) : lh_CTi l D ad bs cI cZ t9 k yX8_left cX8_left 3 (some .int) 10 [.ref (ad 0), .int sn, .int gr] h (fX8_left h sn gr) (gX8_left h sn gr) := by
  refine lh_ofi (lv := [(0, .ref (ad 0)), (1, .int sn), (2, .int gr)]) (by decide) (Nat.le_of_ble_eq_true rfl) rfl (by simp [Value.category]) ⟨rfl, rfl, rfl, trivial⟩ ?_
  intro p e s m args below meth c B
  have B : lh_BK p (lh_rm 10) s m args meth c D ad bs cI cZ t9 k "LightHours" cX8_left 3 (some .int) := B
  refine la_aload_n (i := 0) B dX8_left_0 rfl rfl ?_
  refine la_get (i := 0) (ci := 8) (j := 0) (C := RX8) (T := TX8) (N := 4) B (lh_nc_lt (by decide)) rfl ix_8 rfl (by decide) wd_309 rfl rfl dX8_left_1 ?_
  refine la_get (i := 1) (ci := 2) (j := 1) (C := RX2) (T := TX2) (N := 5) B (lh_nc_lt (by decide)) rfl ix_2 rfl (by decide) wd_219 rfl rfl dX8_left_4 ?_
  refine la_iload_n (i := 1) B dX8_left_7 rfl rfl ?_
  refine la_callVi (i := 3) B (ct_X5_has h sn) lk_X8_87 (by decide) (lh_nc_lt (by decide)) rfl rfl rfl (by simp [Value.category]) dX8_left_8 ?_
  refine la_if_ne (tgt := 17) B dX8_left_11 (by decide) (fun c11 => ?_) (fun c11 => ?_)
  · refine la_aload_n (i := 0) B dX8_left_17 rfl rfl ?_
    refine la_get (i := 0) (ci := 8) (j := 1) (C := RX8) (T := TX8) (N := 4) B (lh_nc_lt (by decide)) rfl ix_8 rfl (by decide) wd_310 rfl rfl dX8_left_18 ?_
    refine la_iload_n (i := 1) B dX8_left_21 rfl rfl ?_
    refine la_callVr (i := 27) B (ct_X3_openAt h sn I (lh_sheets I c11)) lk_X8_109 (by decide) (lh_nc_lt (by decide)) rfl rfl rfl (by simp [Value.category]) dX8_left_22 ?_
    refine la_iload_n (i := 2) B dX8_left_25 rfl rfl ?_
    refine la_callVi (i := 27) B (ct_X3_leftEnd (gX3_openAt h sn) gr (lh_open8 I (lh_sheets I c11))) lk_X8_141 (by decide) (lh_nc_lt (by decide)) rfl rfl rfl (by simp [Value.category]) dX8_left_26 ?_
    exact la_ireturn B rfl (by simp only [fX8_left, if_neg c11]) (by simp only [gX8_left, if_neg c11]) dX8_left_29
  · refine la_ldc B wd_515 dX8_left_14 ?_
    exact la_ireturn B rfl (by simp only [fX8_left, if_pos c11]) (by simp only [gX8_left, if_pos c11]) dX8_left_16

def fX8_step (h : lh_HS) (sn : Int32) (yr : Int32) (gr : Int32) : Int32 := (if (fX5_has h sn) = 0 then (-1) else (if (fX8_isYear h yr) = 0 then (-1) else fX8_stepOfAmount (gX3_openAt h sn) (fX3_spentEnd (gX3_openAt h sn) yr gr)))
def gX8_step (h : lh_HS) (sn : Int32) (yr : Int32) (gr : Int32) : lh_HS := (if (fX5_has h sn) = 0 then h else (if (fX8_isYear h yr) = 0 then h else gX3_openAt h sn))
set_option maxHeartbeats 4000000 in
set_option maxRecDepth 100000 in
theorem ct_X8_step {l : Launch} {D : va_G} {ad : Nat → Nat} {bs : Nat} {cI cZ : ClassId} {t9 : Nat} {k : Bool} (h : lh_HS) (sn : Int32) (yr : Int32) (gr : Int32) (I : lh_I h) : lh_CTi l D ad bs cI cZ t9 k yX8_step cX8_step 4 (some .int) 10 [.ref (ad 0), .int sn, .int yr, .int gr] h (fX8_step h sn yr gr) (gX8_step h sn yr gr) := by
  refine lh_ofi (lv := [(0, .ref (ad 0)), (1, .int sn), (2, .int yr), (3, .int gr)]) (by decide) (Nat.le_of_ble_eq_true rfl) rfl (by simp [Value.category]) ⟨rfl, rfl, rfl, rfl, trivial⟩ ?_
  intro p e s m args below meth c B
  have B : lh_BK p (lh_rm 10) s m args meth c D ad bs cI cZ t9 k "LightHours" cX8_step 4 (some .int) := B
  refine la_aload_n (i := 0) B dX8_step_0 rfl rfl ?_
  refine la_get (i := 0) (ci := 8) (j := 0) (C := RX8) (T := TX8) (N := 4) B (lh_nc_lt (by decide)) rfl ix_8 rfl (by decide) wd_309 rfl rfl dX8_step_1 ?_
  refine la_get (i := 1) (ci := 2) (j := 1) (C := RX2) (T := TX2) (N := 5) B (lh_nc_lt (by decide)) rfl ix_2 rfl (by decide) wd_219 rfl rfl dX8_step_4 ?_
  refine la_iload_n (i := 1) B dX8_step_7 rfl rfl ?_
  refine la_callVi (i := 3) B (ct_X5_has h sn) lk_X8_87 (by decide) (lh_nc_lt (by decide)) rfl rfl rfl (by simp [Value.category]) dX8_step_8 ?_
  refine la_if_eq (tgt := 21) B dX8_step_11 (by decide) (fun c11 => ?_) (fun c11 => ?_)
  · refine la_iconst (v := -1) B dX8_step_21 (by decide) ?_
    exact la_ireturn B rfl (by simp only [fX8_step, if_pos c11]) (by simp only [gX8_step, if_pos c11]) dX8_step_22
  · refine la_iload_n (i := 2) B dX8_step_14 rfl rfl ?_
    refine la_callSi B (ct_X8_isYear h yr) lk_X8_62 (by decide) rfl (by simp [Value.category]) dX8_step_15 ?_
    refine la_if_ne (tgt := 23) B dX8_step_18 (by decide) (fun c18 => ?_) (fun c18 => ?_)
    · refine la_aload_n (i := 0) B dX8_step_23 rfl rfl ?_
      refine la_get (i := 0) (ci := 8) (j := 1) (C := RX8) (T := TX8) (N := 4) B (lh_nc_lt (by decide)) rfl ix_8 rfl (by decide) wd_310 rfl rfl dX8_step_24 ?_
      refine la_iload_n (i := 1) B dX8_step_27 rfl rfl ?_
      refine la_callVr (i := 27) B (ct_X3_openAt h sn I (lh_sheets I c11)) lk_X8_109 (by decide) (lh_nc_lt (by decide)) rfl rfl rfl (by simp [Value.category]) dX8_step_28 ?_
      refine la_iload_n (i := 2) B dX8_step_31 rfl rfl ?_
      refine la_iload_n (i := 3) B dX8_step_32 rfl rfl ?_
      refine la_callVi (i := 27) B (ct_X3_spentEnd (gX3_openAt h sn) yr gr ((lh_years c18).vp (Nat.le_refl _) (by omega))) lk_X8_181 (by decide) (lh_nc_lt (by decide)) rfl rfl rfl (by simp [Value.category]) dX8_step_33 ?_
      refine la_callSi B (ct_X8_stepOfAmount (gX3_openAt h sn) (fX3_spentEnd (gX3_openAt h sn) yr gr)) lk_X8_185 (by decide) rfl (by simp [Value.category]) dX8_step_36 ?_
      exact la_ireturn B rfl (by simp only [fX8_step, if_neg c11, if_neg c18]) (by simp only [gX8_step, if_neg c11, if_neg c18]) dX8_step_39
    · refine la_iconst (v := -1) B dX8_step_21 (by decide) ?_
      exact la_ireturn B rfl (by simp only [fX8_step, if_neg c11, if_pos c18]) (by simp only [gX8_step, if_neg c11, if_pos c18]) dX8_step_22

def fX8_wall (h : lh_HS) (rn : Int32) (yr : Int32) (th : Int32) : Int32 := (if (fX4_has h rn) = 0 then (-1) else (if (fX8_isYear h yr) = 0 then (-1) else (if (fX8_within h th 0 3) = 0 then (-1) else (if (h 6 0) < 5 then fX8_changed (gX7_add h rn yr th) (fX7_add h rn yr th) else (-2)))))
def gX8_wall (h : lh_HS) (rn : Int32) (yr : Int32) (th : Int32) : lh_HS := (if (fX4_has h rn) = 0 then h else (if (fX8_isYear h yr) = 0 then h else (if (fX8_within h th 0 3) = 0 then h else (if (h 6 0) < 5 then gX8_changed (gX7_add h rn yr th) (fX7_add h rn yr th) else h))))
set_option maxHeartbeats 4000000 in
set_option maxRecDepth 100000 in
theorem ct_X8_wall {l : Launch} {D : va_G} {ad : Nat → Nat} {bs : Nat} {cI cZ : ClassId} {t9 : Nat} {k : Bool} (h : lh_HS) (rn : Int32) (yr : Int32) (th : Int32) (I : lh_I h) : lh_CTi l D ad bs cI cZ t9 k yX8_wall cX8_wall 4 (some .int) 10 [.ref (ad 0), .int rn, .int yr, .int th] h (fX8_wall h rn yr th) (gX8_wall h rn yr th) := by
  refine lh_ofi (lv := [(0, .ref (ad 0)), (1, .int rn), (2, .int yr), (3, .int th)]) (by decide) (Nat.le_of_ble_eq_true rfl) rfl (by simp [Value.category]) ⟨rfl, rfl, rfl, rfl, trivial⟩ ?_
  intro p e s m args below meth c B
  have B : lh_BK p (lh_rm 10) s m args meth c D ad bs cI cZ t9 k "LightHours" cX8_wall 4 (some .int) := B
  refine la_aload_n (i := 0) B dX8_wall_0 rfl rfl ?_
  refine la_get (i := 0) (ci := 8) (j := 0) (C := RX8) (T := TX8) (N := 4) B (lh_nc_lt (by decide)) rfl ix_8 rfl (by decide) wd_309 rfl rfl dX8_wall_1 ?_
  refine la_get (i := 1) (ci := 2) (j := 0) (C := RX2) (T := TX2) (N := 5) B (lh_nc_lt (by decide)) rfl ix_2 rfl (by decide) wd_214 rfl rfl dX8_wall_4 ?_
  refine la_iload_n (i := 1) B dX8_wall_7 rfl rfl ?_
  refine la_callVi (i := 2) B (ct_X4_has h rn) lk_X8_58 (by decide) (lh_nc_lt (by decide)) rfl rfl rfl (by simp [Value.category]) dX8_wall_8 ?_
  refine la_if_eq (tgt := 30) B dX8_wall_11 (by decide) (fun c11 => ?_) (fun c11 => ?_)
  · refine la_iconst (v := -1) B dX8_wall_30 (by decide) ?_
    exact la_ireturn B rfl (by simp only [fX8_wall, if_pos c11]) (by simp only [gX8_wall, if_pos c11]) dX8_wall_31
  · refine la_iload_n (i := 2) B dX8_wall_14 rfl rfl ?_
    refine la_callSi B (ct_X8_isYear h yr) lk_X8_62 (by decide) rfl (by simp [Value.category]) dX8_wall_15 ?_
    refine la_if_eq (tgt := 30) B dX8_wall_18 (by decide) (fun c18 => ?_) (fun c18 => ?_)
    · refine la_iconst (v := -1) B dX8_wall_30 (by decide) ?_
      exact la_ireturn B rfl (by simp only [fX8_wall, if_neg c11, if_pos c18]) (by simp only [gX8_wall, if_neg c11, if_pos c18]) dX8_wall_31
    · refine la_iload_n (i := 3) B dX8_wall_21 rfl rfl ?_
      refine la_iconst (v := 0) B dX8_wall_22 (by decide) ?_
      refine la_iconst (v := 3) B dX8_wall_23 (by decide) ?_
      refine la_callSi B (ct_X8_within h th 0 3) lk_X8_37 (by decide) rfl (by simp [Value.category]) dX8_wall_24 ?_
      refine la_if_ne (tgt := 32) B dX8_wall_27 (by decide) (fun c27 => ?_) (fun c27 => ?_)
      · refine la_aload_n (i := 0) B dX8_wall_32 rfl rfl ?_
        refine la_get (i := 0) (ci := 8) (j := 0) (C := RX8) (T := TX8) (N := 4) B (lh_nc_lt (by decide)) rfl ix_8 rfl (by decide) wd_309 rfl rfl dX8_wall_33 ?_
        refine la_get (i := 1) (ci := 2) (j := 4) (C := RX2) (T := TX2) (N := 5) B (lh_nc_lt (by decide)) rfl ix_2 rfl (by decide) wd_229 rfl rfl dX8_wall_36 ?_
        refine la_get (i := 6) (ci := 7) (j := 0) (v := .int (h 6 0)) (C := RX7) (T := TX7) (N := 4) B (lh_nc_lt (by decide)) rfl ix_7 rfl (by decide) wd_195 rfl rfl dX8_wall_39 ?_
        refine la_iconst (v := 5) B dX8_wall_42 (by decide) ?_
        refine la_icmp_lt (tgt := 49) B dX8_wall_43 (by decide) (fun c43 => ?_) (fun c43 => ?_)
        · refine la_aload_n (i := 0) B dX8_wall_49 rfl rfl ?_
          refine la_aload_n (i := 0) B dX8_wall_50 rfl rfl ?_
          refine la_get (i := 0) (ci := 8) (j := 0) (C := RX8) (T := TX8) (N := 4) B (lh_nc_lt (by decide)) rfl ix_8 rfl (by decide) wd_309 rfl rfl dX8_wall_51 ?_
          refine la_get (i := 1) (ci := 2) (j := 4) (C := RX2) (T := TX2) (N := 5) B (lh_nc_lt (by decide)) rfl ix_2 rfl (by decide) wd_229 rfl rfl dX8_wall_54 ?_
          refine la_iload_n (i := 1) B dX8_wall_57 rfl rfl ?_
          refine la_iload_n (i := 2) B dX8_wall_58 rfl rfl ?_
          refine la_iload_n (i := 3) B dX8_wall_59 rfl rfl ?_
          refine la_callVi (i := 6) B (ct_X7_add h rn yr th ((lh_cnlt (B := 5) I.1.2.2.2.2 rfl c43).vp (Nat.le_refl _) (by omega))) lk_X8_195 (by decide) (lh_nc_lt (by decide)) rfl rfl rfl (by simp [Value.category]) dX8_wall_60 ?_
          refine la_callVi (i := 0) B (ct_X8_changed (gX7_add h rn yr th) (fX7_add h rn yr th)) lk_X8_55 (by decide) (lh_nc_lt (by decide)) rfl rfl rfl (by simp [Value.category]) dX8_wall_63 ?_
          exact la_ireturn B rfl (by simp only [fX8_wall, if_neg c11, if_neg c18, if_neg c27, if_pos c43]) (by simp only [gX8_wall, if_neg c11, if_neg c18, if_neg c27, if_pos c43]) dX8_wall_66
        · refine la_bipush (v := -2) B dX8_wall_46 (by decide) ?_
          exact la_ireturn B rfl (by simp only [fX8_wall, if_neg c11, if_neg c18, if_neg c27, if_neg c43]) (by simp only [gX8_wall, if_neg c11, if_neg c18, if_neg c27, if_neg c43]) dX8_wall_48
      · refine la_iconst (v := -1) B dX8_wall_30 (by decide) ?_
        exact la_ireturn B rfl (by simp only [fX8_wall, if_neg c11, if_neg c18, if_pos c27]) (by simp only [gX8_wall, if_neg c11, if_neg c18, if_pos c27]) dX8_wall_31

def fX8_strip (h : lh_HS)  : Int32 := (if 0 < (h 6 0) then fX8_changed (lh_up h 6 0 ((h 6 0) - 1)) ((h 6 0) - 1) else (-4))
def gX8_strip (h : lh_HS)  : lh_HS := (if 0 < (h 6 0) then gX8_changed (lh_up h 6 0 ((h 6 0) - 1)) ((h 6 0) - 1) else h)
set_option maxHeartbeats 4000000 in
set_option maxRecDepth 100000 in
theorem ct_X8_strip {l : Launch} {D : va_G} {ad : Nat → Nat} {bs : Nat} {cI cZ : ClassId} {t9 : Nat} {k : Bool} (h : lh_HS)  (I : lh_I h) : lh_CTi l D ad bs cI cZ t9 k yX8_strip cX8_strip 1 (some .int) 10 [.ref (ad 0)] h (fX8_strip h ) (gX8_strip h ) := by
  refine lh_ofi (lv := [(0, .ref (ad 0))]) (by decide) (Nat.le_of_ble_eq_true rfl) rfl (by simp [Value.category]) ⟨rfl, trivial⟩ ?_
  intro p e s m args below meth c B
  have B : lh_BK p (lh_rm 10) s m args meth c D ad bs cI cZ t9 k "LightHours" cX8_strip 1 (some .int) := B
  refine la_aload_n (i := 0) B dX8_strip_0 rfl rfl ?_
  refine la_get (i := 0) (ci := 8) (j := 0) (C := RX8) (T := TX8) (N := 4) B (lh_nc_lt (by decide)) rfl ix_8 rfl (by decide) wd_309 rfl rfl dX8_strip_1 ?_
  refine la_get (i := 1) (ci := 2) (j := 4) (C := RX2) (T := TX2) (N := 5) B (lh_nc_lt (by decide)) rfl ix_2 rfl (by decide) wd_229 rfl rfl dX8_strip_4 ?_
  refine la_get (i := 6) (ci := 7) (j := 0) (v := .int (h 6 0)) (C := RX7) (T := TX7) (N := 4) B (lh_nc_lt (by decide)) rfl ix_7 rfl (by decide) wd_195 rfl rfl dX8_strip_7 ?_
  refine la_if_gt (tgt := 16) B dX8_strip_10 (by decide) (fun c10 => ?_) (fun c10 => ?_)
  · refine la_aload_n (i := 0) B dX8_strip_16 rfl rfl ?_
    refine la_get (i := 0) (ci := 8) (j := 0) (C := RX8) (T := TX8) (N := 4) B (lh_nc_lt (by decide)) rfl ix_8 rfl (by decide) wd_309 rfl rfl dX8_strip_17 ?_
    refine la_get (i := 1) (ci := 2) (j := 4) (C := RX2) (T := TX2) (N := 5) B (lh_nc_lt (by decide)) rfl ix_2 rfl (by decide) wd_229 rfl rfl dX8_strip_20 ?_
    refine la_dup B dX8_strip_23 rfl ?_
    refine la_get (i := 6) (ci := 7) (j := 0) (v := .int (h 6 0)) (C := RX7) (T := TX7) (N := 4) B (lh_nc_lt (by decide)) rfl ix_7 rfl (by decide) wd_195 rfl rfl dX8_strip_24 ?_
    refine la_iconst (v := 1) B dX8_strip_27 (by decide) ?_
    refine la_isub B dX8_strip_28 ?_
    refine la_put (i := 6) (ci := 7) (j := 0) (C := RX7) (T := TX7) (N := 4) (ty0 := tyX7) B (lh_nc_lt (by decide)) rfl rfl ix_7 tyX7_ok nmX7 rfl (by decide) wd_195 rfl rfl rfl rfl rfl (Nat.le_of_ble_eq_true rfl) dX8_strip_29 ?_
    refine la_aload_n (i := 0) B dX8_strip_32 rfl rfl ?_
    refine la_aload_n (i := 0) B dX8_strip_33 rfl rfl ?_
    refine la_get (i := 0) (ci := 8) (j := 0) (C := RX8) (T := TX8) (N := 4) B (lh_nc_lt (by decide)) rfl ix_8 rfl (by decide) wd_309 rfl rfl dX8_strip_34 ?_
    refine la_get (i := 1) (ci := 2) (j := 4) (C := RX2) (T := TX2) (N := 5) B (lh_nc_lt (by decide)) rfl ix_2 rfl (by decide) wd_229 rfl rfl dX8_strip_37 ?_
    refine la_get (i := 6) (ci := 7) (j := 0) (v := .int ((h 6 0) - 1)) (C := RX7) (T := TX7) (N := 4) B (lh_nc_lt (by decide)) rfl ix_7 rfl (by decide) wd_195 rfl rfl dX8_strip_40 ?_
    refine la_callVi (i := 0) B (ct_X8_changed (lh_up h 6 0 ((h 6 0) - 1)) ((h 6 0) - 1)) lk_X8_55 (by decide) (lh_nc_lt (by decide)) rfl rfl rfl (by simp [Value.category]) dX8_strip_43 ?_
    exact la_ireturn B rfl (by simp only [fX8_strip, if_pos c10]) (by simp only [gX8_strip, if_pos c10]) dX8_strip_46
  · refine la_bipush (v := -4) B dX8_strip_13 (by decide) ?_
    exact la_ireturn B rfl (by simp only [fX8_strip, if_neg c10]) (by simp only [gX8_strip, if_neg c10]) dX8_strip_15

def fX8_hung (h : lh_HS) (wn : Int32) : Int32 := (if (fX7_has h wn) = 0 then (-1) else (gX1_find h) 31 wn.toNatClampNeg)
def gX8_hung (h : lh_HS) (wn : Int32) : lh_HS := (if (fX7_has h wn) = 0 then h else gX1_find h)
set_option maxHeartbeats 4000000 in
set_option maxRecDepth 100000 in
theorem ct_X8_hung {l : Launch} {D : va_G} {ad : Nat → Nat} {bs : Nat} {cI cZ : ClassId} {t9 : Nat} {k : Bool} (h : lh_HS) (wn : Int32) (I : lh_I h) : lh_CTi l D ad bs cI cZ t9 k yX8_hung cX8_hung 2 (some .int) 10 [.ref (ad 0), .int wn] h (fX8_hung h wn) (gX8_hung h wn) := by
  refine lh_ofi (lv := [(0, .ref (ad 0)), (1, .int wn)]) (by decide) (Nat.le_of_ble_eq_true rfl) rfl (by simp [Value.category]) ⟨rfl, rfl, trivial⟩ ?_
  intro p e s m args below meth c B
  have B : lh_BK p (lh_rm 10) s m args meth c D ad bs cI cZ t9 k "LightHours" cX8_hung 2 (some .int) := B
  refine la_aload_n (i := 0) B dX8_hung_0 rfl rfl ?_
  refine la_get (i := 0) (ci := 8) (j := 0) (C := RX8) (T := TX8) (N := 4) B (lh_nc_lt (by decide)) rfl ix_8 rfl (by decide) wd_309 rfl rfl dX8_hung_1 ?_
  refine la_get (i := 1) (ci := 2) (j := 4) (C := RX2) (T := TX2) (N := 5) B (lh_nc_lt (by decide)) rfl ix_2 rfl (by decide) wd_229 rfl rfl dX8_hung_4 ?_
  refine la_iload_n (i := 1) B dX8_hung_7 rfl rfl ?_
  refine la_callVi (i := 6) B (ct_X7_has h wn) lk_X8_196 (by decide) (lh_nc_lt (by decide)) rfl rfl rfl (by simp [Value.category]) dX8_hung_8 ?_
  refine la_if_ne (tgt := 16) B dX8_hung_11 (by decide) (fun c11 => ?_) (fun c11 => ?_)
  · refine la_aload_n (i := 0) B dX8_hung_16 rfl rfl ?_
    refine la_get (i := 0) (ci := 8) (j := 2) (C := RX8) (T := TX8) (N := 4) B (lh_nc_lt (by decide)) rfl ix_8 rfl (by decide) wd_311 rfl rfl dX8_hung_17 ?_
    refine la_callVv (i := 30) B (ct_X1_find h  I) lk_X8_197 (by decide) (lh_nc_lt (by decide)) rfl rfl rfl (by simp [Value.category]) dX8_hung_20 ?_
    refine la_aload_n (i := 0) B dX8_hung_23 rfl rfl ?_
    refine la_get (i := 0) (ci := 8) (j := 2) (C := RX8) (T := TX8) (N := 4) B (lh_nc_lt (by decide)) rfl ix_8 rfl (by decide) wd_311 rfl rfl dX8_hung_24 ?_
    refine la_get (i := 30) (ci := 1) (j := 3) (C := RX1) (T := TX1) (N := 10) B (lh_nc_lt (by decide)) rfl ix_1 rfl (by decide) wd_280 rfl rfl dX8_hung_27 ?_
    refine la_iload_n (i := 1) B dX8_hung_30 rfl rfl ?_
    refine la_iald (i := 31) (v := (gX1_find h) 31 wn.toNatClampNeg) B (lh_nc_lt (by decide)) rfl ((lh_walls I c11).vp I.1.2.2.2.2.2 (by omega)) rfl dX8_hung_31 ?_
    exact la_ireturn B rfl (by simp only [fX8_hung, if_neg c11]) (by simp only [gX8_hung, if_neg c11]) dX8_hung_32
  · refine la_iconst (v := -1) B dX8_hung_14 (by decide) ?_
    exact la_ireturn B rfl (by simp only [fX8_hung, if_pos c11]) (by simp only [gX8_hung, if_pos c11]) dX8_hung_15

def fX8_worth (h : lh_HS)  : Int32 := (gX1_find h) 30 4
def gX8_worth (h : lh_HS)  : lh_HS := gX1_find h
set_option maxHeartbeats 4000000 in
set_option maxRecDepth 100000 in
theorem ct_X8_worth {l : Launch} {D : va_G} {ad : Nat → Nat} {bs : Nat} {cI cZ : ClassId} {t9 : Nat} {k : Bool} (h : lh_HS)  (I : lh_I h) : lh_CTi l D ad bs cI cZ t9 k yX8_worth cX8_worth 1 (some .int) 10 [.ref (ad 0)] h (fX8_worth h ) (gX8_worth h ) := by
  refine lh_ofi (lv := [(0, .ref (ad 0))]) (by decide) (Nat.le_of_ble_eq_true rfl) rfl (by simp [Value.category]) ⟨rfl, trivial⟩ ?_
  intro p e s m args below meth c B
  have B : lh_BK p (lh_rm 10) s m args meth c D ad bs cI cZ t9 k "LightHours" cX8_worth 1 (some .int) := B
  refine la_aload_n (i := 0) B dX8_worth_0 rfl rfl ?_
  refine la_get (i := 0) (ci := 8) (j := 2) (C := RX8) (T := TX8) (N := 4) B (lh_nc_lt (by decide)) rfl ix_8 rfl (by decide) wd_311 rfl rfl dX8_worth_1 ?_
  refine la_callVv (i := 30) B (ct_X1_find h  I) lk_X8_197 (by decide) (lh_nc_lt (by decide)) rfl rfl rfl (by simp [Value.category]) dX8_worth_4 ?_
  refine la_aload_n (i := 0) B dX8_worth_7 rfl rfl ?_
  refine la_get (i := 0) (ci := 8) (j := 2) (C := RX8) (T := TX8) (N := 4) B (lh_nc_lt (by decide)) rfl ix_8 rfl (by decide) wd_311 rfl rfl dX8_worth_8 ?_
  refine la_get (i := 30) (ci := 1) (j := 4) (v := .int ((gX1_find h) 30 4)) (C := RX1) (T := TX1) (N := 10) B (lh_nc_lt (by decide)) rfl ix_1 rfl (by decide) wd_282 rfl rfl dX8_worth_11 ?_
  exact la_ireturn B rfl (by simp only [fX8_worth]) (by simp only [gX8_worth]) dX8_worth_14

def fX8_spares (h : lh_HS) (sn : Int32) : Int32 := (if (fX5_has h sn) = 0 then -1000000 else (fX3_leftEnd (gX3_openAt (gX1_find h) sn) 0) - (fX1_lightOn (gX3_openAt (gX1_find h) sn) sn))
def gX8_spares (h : lh_HS) (sn : Int32) : lh_HS := (if (fX5_has h sn) = 0 then h else gX3_openAt (gX1_find h) sn)
set_option maxHeartbeats 4000000 in
set_option maxRecDepth 100000 in
theorem ct_X8_spares {l : Launch} {D : va_G} {ad : Nat → Nat} {bs : Nat} {cI cZ : ClassId} {t9 : Nat} {k : Bool} (h : lh_HS) (sn : Int32) (I : lh_I h) : lh_CTi l D ad bs cI cZ t9 k yX8_spares cX8_spares 2 (some .int) 10 [.ref (ad 0), .int sn] h (fX8_spares h sn) (gX8_spares h sn) := by
  refine lh_ofi (lv := [(0, .ref (ad 0)), (1, .int sn)]) (by decide) (Nat.le_of_ble_eq_true rfl) rfl (by simp [Value.category]) ⟨rfl, rfl, trivial⟩ ?_
  intro p e s m args below meth c B
  have B : lh_BK p (lh_rm 10) s m args meth c D ad bs cI cZ t9 k "LightHours" cX8_spares 2 (some .int) := B
  have I2 : lh_I (gX3_openAt (gX1_find h) sn) := I.fr (lh_openfr (fr_find (lh_fr.rf h)) sn)
  have hs1 : fX5_has h sn = 0 ∨ lh_ix sn (lh_N (gX1_find h) 3) := by
    by_cases q : fX5_has h sn = 0
    · exact Or.inl q
    · exact Or.inr (by rw [(fr_find (lh_fr.rf h)).N (by decide) (by decide)]; exact lh_sheets I q)
  refine la_aload_n (i := 0) B dX8_spares_0 rfl rfl ?_
  refine la_get (i := 0) (ci := 8) (j := 0) (C := RX8) (T := TX8) (N := 4) B (lh_nc_lt (by decide)) rfl ix_8 rfl (by decide) wd_309 rfl rfl dX8_spares_1 ?_
  refine la_get (i := 1) (ci := 2) (j := 1) (C := RX2) (T := TX2) (N := 5) B (lh_nc_lt (by decide)) rfl ix_2 rfl (by decide) wd_219 rfl rfl dX8_spares_4 ?_
  refine la_iload_n (i := 1) B dX8_spares_7 rfl rfl ?_
  refine la_callVi (i := 3) B (ct_X5_has h sn) lk_X8_87 (by decide) (lh_nc_lt (by decide)) rfl rfl rfl (by simp [Value.category]) dX8_spares_8 ?_
  refine la_if_ne (tgt := 17) B dX8_spares_11 (by decide) (fun c11 => ?_) (fun c11 => ?_)
  · refine la_aload_n (i := 0) B dX8_spares_17 rfl rfl ?_
    refine la_get (i := 0) (ci := 8) (j := 2) (C := RX8) (T := TX8) (N := 4) B (lh_nc_lt (by decide)) rfl ix_8 rfl (by decide) wd_311 rfl rfl dX8_spares_18 ?_
    refine la_callVv (i := 30) B (ct_X1_find h  I) lk_X8_197 (by decide) (lh_nc_lt (by decide)) rfl rfl rfl (by simp [Value.category]) dX8_spares_21 ?_
    refine la_aload_n (i := 0) B dX8_spares_24 rfl rfl ?_
    refine la_get (i := 0) (ci := 8) (j := 1) (C := RX8) (T := TX8) (N := 4) B (lh_nc_lt (by decide)) rfl ix_8 rfl (by decide) wd_310 rfl rfl dX8_spares_25 ?_
    refine la_iload_n (i := 1) B dX8_spares_28 rfl rfl ?_
    refine la_callVr (i := 27) B (ct_X3_openAt (gX1_find h) sn (I.fr (fr_find (lh_fr.rf h))) (hs1.resolve_left c11)) lk_X8_109 (by decide) (lh_nc_lt (by decide)) rfl rfl rfl (by simp [Value.category]) dX8_spares_29 ?_
    refine la_iconst (v := 0) B dX8_spares_32 (by decide) ?_
    refine la_callVi (i := 27) B (ct_X3_leftEnd (gX3_openAt (gX1_find h) sn) 0 (lh_open8 (I.fr (fr_find (lh_fr.rf h))) (hs1.resolve_left c11))) lk_X8_141 (by decide) (lh_nc_lt (by decide)) rfl rfl rfl (by simp [Value.category]) dX8_spares_33 ?_
    refine la_aload_n (i := 0) B dX8_spares_36 rfl rfl ?_
    refine la_get (i := 0) (ci := 8) (j := 2) (C := RX8) (T := TX8) (N := 4) B (lh_nc_lt (by decide)) rfl ix_8 rfl (by decide) wd_311 rfl rfl dX8_spares_37 ?_
    refine la_iload_n (i := 1) B dX8_spares_40 rfl rfl ?_
    refine la_callVi (i := 30) B (ct_X1_lightOn (gX3_openAt (gX1_find h) sn) sn I2.1.2.2.2.2.1 I2.1.2.2.2.2.2) lk_X8_206 (by decide) (lh_nc_lt (by decide)) rfl rfl rfl (by simp [Value.category]) dX8_spares_41 ?_
    refine la_isub B dX8_spares_44 ?_
    exact la_ireturn B rfl (by simp only [fX8_spares, if_neg c11]) (by simp only [gX8_spares, if_neg c11]) dX8_spares_45
  · refine la_ldc B wd_515 dX8_spares_14 ?_
    exact la_ireturn B rfl (by simp only [fX8_spares, if_pos c11]) (by simp only [gX8_spares, if_pos c11]) dX8_spares_16

def fX8_many (h : lh_HS) (wh : Int32) : Int32 := (if wh = 0 then h 2 0 else (if wh = 1 then h 3 0 else (if wh = 2 then h 4 0 else (if wh = 3 then fX0_countCancelled h  else (if wh = 4 then h 5 0 else (if wh = 5 then h 6 0 else (if wh = 6 then fX3_countQuarrels h  else (if wh = 7 then fX3_countOverspent h  else (if wh = 8 then fX4_countReadings h  else (-1))))))))))
def gX8_many (h : lh_HS) (wh : Int32) : lh_HS := (if wh = 0 then h else (if wh = 1 then h else (if wh = 2 then h else (if wh = 3 then h else (if wh = 4 then h else (if wh = 5 then h else (if wh = 6 then gX3_countQuarrels h  else (if wh = 7 then gX3_countOverspent h  else h))))))))
set_option maxHeartbeats 4000000 in
set_option maxRecDepth 100000 in
theorem ct_X8_many {l : Launch} {D : va_G} {ad : Nat → Nat} {bs : Nat} {cI cZ : ClassId} {t9 : Nat} {k : Bool} (h : lh_HS) (wh : Int32) (I : lh_I h) : lh_CTi l D ad bs cI cZ t9 k yX8_many cX8_many 2 (some .int) 10 [.ref (ad 0), .int wh] h (fX8_many h wh) (gX8_many h wh) := by
  refine lh_ofi (lv := [(0, .ref (ad 0)), (1, .int wh)]) (by decide) (Nat.le_of_ble_eq_true rfl) rfl (by simp [Value.category]) ⟨rfl, rfl, trivial⟩ ?_
  intro p e s m args below meth c B
  have B : lh_BK p (lh_rm 10) s m args meth c D ad bs cI cZ t9 k "LightHours" cX8_many 2 (some .int) := B
  refine la_iload_n (i := 1) B dX8_many_0 rfl rfl ?_
  by_cases s1_0 : wh = 0
  · refine la_tabIn (off := 51) (tgt := 52) B dX8_many_1 (by rw [s1_0]; decide) (by rw [s1_0]; decide) (by rw [s1_0]; decide) (by decide) ?_
    refine la_aload_n (i := 0) B dX8_many_52 rfl rfl ?_
    refine la_get (i := 0) (ci := 8) (j := 0) (C := RX8) (T := TX8) (N := 4) B (lh_nc_lt (by decide)) rfl ix_8 rfl (by decide) wd_309 rfl rfl dX8_many_53 ?_
    refine la_get (i := 1) (ci := 2) (j := 0) (C := RX2) (T := TX2) (N := 5) B (lh_nc_lt (by decide)) rfl ix_2 rfl (by decide) wd_214 rfl rfl dX8_many_56 ?_
    refine la_get (i := 2) (ci := 4) (j := 0) (v := .int (h 2 0)) (C := RX4) (T := TX4) (N := 3) B (lh_nc_lt (by decide)) rfl ix_4 rfl (by decide) wd_68 rfl rfl dX8_many_59 ?_
    exact la_ireturn B rfl (by simp only [fX8_many, if_pos s1_0]) (by simp only [gX8_many, if_pos s1_0]) dX8_many_62
  · have ts1_0 := lv_neT s1_0 (show (0 : Int32).toInt = 0 from by decide)
    by_cases s1_1 : wh = 1
    · refine la_tabIn (off := 62) (tgt := 63) B dX8_many_1 (by rw [s1_1]; decide) (by rw [s1_1]; decide) (by rw [s1_1]; decide) (by decide) ?_
      refine la_aload_n (i := 0) B dX8_many_63 rfl rfl ?_
      refine la_get (i := 0) (ci := 8) (j := 0) (C := RX8) (T := TX8) (N := 4) B (lh_nc_lt (by decide)) rfl ix_8 rfl (by decide) wd_309 rfl rfl dX8_many_64 ?_
      refine la_get (i := 1) (ci := 2) (j := 1) (C := RX2) (T := TX2) (N := 5) B (lh_nc_lt (by decide)) rfl ix_2 rfl (by decide) wd_219 rfl rfl dX8_many_67 ?_
      refine la_get (i := 3) (ci := 5) (j := 0) (v := .int (h 3 0)) (C := RX5) (T := TX5) (N := 8) B (lh_nc_lt (by decide)) rfl ix_5 rfl (by decide) wd_88 rfl rfl dX8_many_70 ?_
      exact la_ireturn B rfl (by simp only [fX8_many, if_neg s1_0, if_pos s1_1]) (by simp only [gX8_many, if_neg s1_0, if_pos s1_1]) dX8_many_73
    · have ts1_1 := lv_neT s1_1 (show (1 : Int32).toInt = 1 from by decide)
      by_cases s1_2 : wh = 2
      · refine la_tabIn (off := 73) (tgt := 74) B dX8_many_1 (by rw [s1_2]; decide) (by rw [s1_2]; decide) (by rw [s1_2]; decide) (by decide) ?_
        refine la_aload_n (i := 0) B dX8_many_74 rfl rfl ?_
        refine la_get (i := 0) (ci := 8) (j := 0) (C := RX8) (T := TX8) (N := 4) B (lh_nc_lt (by decide)) rfl ix_8 rfl (by decide) wd_309 rfl rfl dX8_many_75 ?_
        refine la_get (i := 1) (ci := 2) (j := 2) (C := RX2) (T := TX2) (N := 5) B (lh_nc_lt (by decide)) rfl ix_2 rfl (by decide) wd_223 rfl rfl dX8_many_78 ?_
        refine la_get (i := 4) (ci := 0) (j := 0) (v := .int (h 4 0)) (C := RX0) (T := TX0) (N := 6) B (lh_nc_lt (by decide)) rfl ix_0 rfl (by decide) wd_135 rfl rfl dX8_many_81 ?_
        exact la_ireturn B rfl (by simp only [fX8_many, if_neg s1_0, if_neg s1_1, if_pos s1_2]) (by simp only [gX8_many, if_neg s1_0, if_neg s1_1, if_pos s1_2]) dX8_many_84
      · have ts1_2 := lv_neT s1_2 (show (2 : Int32).toInt = 2 from by decide)
        by_cases s1_3 : wh = 3
        · refine la_tabIn (off := 84) (tgt := 85) B dX8_many_1 (by rw [s1_3]; decide) (by rw [s1_3]; decide) (by rw [s1_3]; decide) (by decide) ?_
          refine la_aload_n (i := 0) B dX8_many_85 rfl rfl ?_
          refine la_get (i := 0) (ci := 8) (j := 0) (C := RX8) (T := TX8) (N := 4) B (lh_nc_lt (by decide)) rfl ix_8 rfl (by decide) wd_309 rfl rfl dX8_many_86 ?_
          refine la_get (i := 1) (ci := 2) (j := 2) (C := RX2) (T := TX2) (N := 5) B (lh_nc_lt (by decide)) rfl ix_2 rfl (by decide) wd_223 rfl rfl dX8_many_89 ?_
          refine la_callVi (i := 4) B (ct_X0_countCancelled h  I.1.2.2.1.1 I.1.2.2.1.2) lk_X8_215 (by decide) (lh_nc_lt (by decide)) rfl rfl rfl (by simp [Value.category]) dX8_many_92 ?_
          exact la_ireturn B rfl (by simp only [fX8_many, if_neg s1_0, if_neg s1_1, if_neg s1_2, if_pos s1_3]) (by simp only [gX8_many, if_neg s1_0, if_neg s1_1, if_neg s1_2, if_pos s1_3]) dX8_many_95
        · have ts1_3 := lv_neT s1_3 (show (3 : Int32).toInt = 3 from by decide)
          by_cases s1_4 : wh = 4
          · refine la_tabIn (off := 95) (tgt := 96) B dX8_many_1 (by rw [s1_4]; decide) (by rw [s1_4]; decide) (by rw [s1_4]; decide) (by decide) ?_
            refine la_aload_n (i := 0) B dX8_many_96 rfl rfl ?_
            refine la_get (i := 0) (ci := 8) (j := 0) (C := RX8) (T := TX8) (N := 4) B (lh_nc_lt (by decide)) rfl ix_8 rfl (by decide) wd_309 rfl rfl dX8_many_97 ?_
            refine la_get (i := 1) (ci := 2) (j := 3) (C := RX2) (T := TX2) (N := 5) B (lh_nc_lt (by decide)) rfl ix_2 rfl (by decide) wd_226 rfl rfl dX8_many_100 ?_
            refine la_get (i := 5) (ci := 6) (j := 0) (v := .int (h 5 0)) (C := RX6) (T := TX6) (N := 4) B (lh_nc_lt (by decide)) rfl ix_6 rfl (by decide) wd_171 rfl rfl dX8_many_103 ?_
            exact la_ireturn B rfl (by simp only [fX8_many, if_neg s1_0, if_neg s1_1, if_neg s1_2, if_neg s1_3, if_pos s1_4]) (by simp only [gX8_many, if_neg s1_0, if_neg s1_1, if_neg s1_2, if_neg s1_3, if_pos s1_4]) dX8_many_106
          · have ts1_4 := lv_neT s1_4 (show (4 : Int32).toInt = 4 from by decide)
            by_cases s1_5 : wh = 5
            · refine la_tabIn (off := 106) (tgt := 107) B dX8_many_1 (by rw [s1_5]; decide) (by rw [s1_5]; decide) (by rw [s1_5]; decide) (by decide) ?_
              refine la_aload_n (i := 0) B dX8_many_107 rfl rfl ?_
              refine la_get (i := 0) (ci := 8) (j := 0) (C := RX8) (T := TX8) (N := 4) B (lh_nc_lt (by decide)) rfl ix_8 rfl (by decide) wd_309 rfl rfl dX8_many_108 ?_
              refine la_get (i := 1) (ci := 2) (j := 4) (C := RX2) (T := TX2) (N := 5) B (lh_nc_lt (by decide)) rfl ix_2 rfl (by decide) wd_229 rfl rfl dX8_many_111 ?_
              refine la_get (i := 6) (ci := 7) (j := 0) (v := .int (h 6 0)) (C := RX7) (T := TX7) (N := 4) B (lh_nc_lt (by decide)) rfl ix_7 rfl (by decide) wd_195 rfl rfl dX8_many_114 ?_
              exact la_ireturn B rfl (by simp only [fX8_many, if_neg s1_0, if_neg s1_1, if_neg s1_2, if_neg s1_3, if_neg s1_4, if_pos s1_5]) (by simp only [gX8_many, if_neg s1_0, if_neg s1_1, if_neg s1_2, if_neg s1_3, if_neg s1_4, if_pos s1_5]) dX8_many_117
            · have ts1_5 := lv_neT s1_5 (show (5 : Int32).toInt = 5 from by decide)
              by_cases s1_6 : wh = 6
              · refine la_tabIn (off := 117) (tgt := 118) B dX8_many_1 (by rw [s1_6]; decide) (by rw [s1_6]; decide) (by rw [s1_6]; decide) (by decide) ?_
                refine la_aload_n (i := 0) B dX8_many_118 rfl rfl ?_
                refine la_get (i := 0) (ci := 8) (j := 1) (C := RX8) (T := TX8) (N := 4) B (lh_nc_lt (by decide)) rfl ix_8 rfl (by decide) wd_310 rfl rfl dX8_many_119 ?_
                refine la_callVi (i := 27) B (ct_X3_countQuarrels h  I) lk_X8_218 (by decide) (lh_nc_lt (by decide)) rfl rfl rfl (by simp [Value.category]) dX8_many_122 ?_
                exact la_ireturn B rfl (by simp only [fX8_many, if_neg s1_0, if_neg s1_1, if_neg s1_2, if_neg s1_3, if_neg s1_4, if_neg s1_5, if_pos s1_6]) (by simp only [gX8_many, if_neg s1_0, if_neg s1_1, if_neg s1_2, if_neg s1_3, if_neg s1_4, if_neg s1_5, if_pos s1_6]) dX8_many_125
              · have ts1_6 := lv_neT s1_6 (show (6 : Int32).toInt = 6 from by decide)
                by_cases s1_7 : wh = 7
                · refine la_tabIn (off := 125) (tgt := 126) B dX8_many_1 (by rw [s1_7]; decide) (by rw [s1_7]; decide) (by rw [s1_7]; decide) (by decide) ?_
                  refine la_aload_n (i := 0) B dX8_many_126 rfl rfl ?_
                  refine la_get (i := 0) (ci := 8) (j := 1) (C := RX8) (T := TX8) (N := 4) B (lh_nc_lt (by decide)) rfl ix_8 rfl (by decide) wd_310 rfl rfl dX8_many_127 ?_
                  refine la_callVi (i := 27) B (ct_X3_countOverspent h  I) lk_X8_221 (by decide) (lh_nc_lt (by decide)) rfl rfl rfl (by simp [Value.category]) dX8_many_130 ?_
                  exact la_ireturn B rfl (by simp only [fX8_many, if_neg s1_0, if_neg s1_1, if_neg s1_2, if_neg s1_3, if_neg s1_4, if_neg s1_5, if_neg s1_6, if_pos s1_7]) (by simp only [gX8_many, if_neg s1_0, if_neg s1_1, if_neg s1_2, if_neg s1_3, if_neg s1_4, if_neg s1_5, if_neg s1_6, if_pos s1_7]) dX8_many_133
                · have ts1_7 := lv_neT s1_7 (show (7 : Int32).toInt = 7 from by decide)
                  by_cases s1_8 : wh = 8
                  · refine la_tabIn (off := 133) (tgt := 134) B dX8_many_1 (by rw [s1_8]; decide) (by rw [s1_8]; decide) (by rw [s1_8]; decide) (by decide) ?_
                    refine la_aload_n (i := 0) B dX8_many_134 rfl rfl ?_
                    refine la_get (i := 0) (ci := 8) (j := 0) (C := RX8) (T := TX8) (N := 4) B (lh_nc_lt (by decide)) rfl ix_8 rfl (by decide) wd_309 rfl rfl dX8_many_135 ?_
                    refine la_get (i := 1) (ci := 2) (j := 0) (C := RX2) (T := TX2) (N := 5) B (lh_nc_lt (by decide)) rfl ix_2 rfl (by decide) wd_214 rfl rfl dX8_many_138 ?_
                    refine la_callVi (i := 2) B (ct_X4_countReadings h  (by rw [I.1.1.1, show (10 : Int32) = nI 10 from rfl, pk_mul]) (by have := I.1.1.2; omega)) lk_X8_224 (by decide) (lh_nc_lt (by decide)) rfl rfl rfl (by simp [Value.category]) dX8_many_141 ?_
                    exact la_ireturn B rfl (by simp only [fX8_many, if_neg s1_0, if_neg s1_1, if_neg s1_2, if_neg s1_3, if_neg s1_4, if_neg s1_5, if_neg s1_6, if_neg s1_7, if_pos s1_8]) (by simp only [gX8_many, if_neg s1_0, if_neg s1_1, if_neg s1_2, if_neg s1_3, if_neg s1_4, if_neg s1_5, if_neg s1_6, if_neg s1_7, if_pos s1_8]) dX8_many_144
                  · have ts1_8 := lv_neT s1_8 (show (8 : Int32).toInt = 8 from by decide)
                    refine la_tabOut (tgt := 145) B dX8_many_1 (by omega) (by decide) ?_
                    refine la_iconst (v := -1) B dX8_many_145 (by decide) ?_
                    exact la_ireturn B rfl (by simp only [fX8_many, if_neg s1_0, if_neg s1_1, if_neg s1_2, if_neg s1_3, if_neg s1_4, if_neg s1_5, if_neg s1_6, if_neg s1_7, if_neg s1_8]) (by simp only [gX8_many, if_neg s1_0, if_neg s1_1, if_neg s1_2, if_neg s1_3, if_neg s1_4, if_neg s1_5, if_neg s1_6, if_neg s1_7, if_neg s1_8]) dX8_many_146

def LX8_hang (mn : Int32) : Nat → Nat → lh_HS → Int32
  | 0, i, h => fX8_changed (lh_up h 6 0 0) mn
  | n + 1, i, h => (if (h 31 (nI i).toNatClampNeg) = ((-4)) then (LX8_hang mn n (i + 1) h) else (LX8_hang mn n (i + 1) (gX0_addShow h (h 31 (nI i).toNatClampNeg) (h 24 (nI i).toNatClampNeg) (h 25 (nI i).toNatClampNeg))))
def LX8_hang_h (mn : Int32) : Nat → Nat → lh_HS → lh_HS
  | 0, i, h => gX8_changed (lh_up h 6 0 0) mn
  | n + 1, i, h => (if (h 31 (nI i).toNatClampNeg) = ((-4)) then (LX8_hang_h mn n (i + 1) h) else (LX8_hang_h mn n (i + 1) (gX0_addShow h (h 31 (nI i).toNatClampNeg) (h 24 (nI i).toNatClampNeg) (h 25 (nI i).toNatClampNeg))))
set_option maxHeartbeats 4000000 in
set_option maxRecDepth 100000 in
theorem lp_X8_hang {l : Launch} {D : va_G} {ad : Nat → Nat} {bs : Nat} {cI cZ : ClassId} {t9 : Nat} {k : Bool} {p : Program} {e : Env} {s : State} {m : MethodId} {args : Array Value} {below : List Frame} {meth : Method} {c : Code} (mn : Int32) {r : Int32} {h2 : lh_HS} (B : lh_BK p (lh_rm 10) s m args meth c D ad bs cI cZ t9 k "LightHours" cX8_hang 4 (some .int)) {N : Nat} (hM : N ≤ 5) :
    ∀ (n i : Nat) (h : lh_HS), i + n = N → r = LX8_hang mn n i h → h2 = LX8_hang_h mn n i h → lh_c30 h ∧ h 6 0 = nI N → lh_AJ p l e (lh_rm 10) s m args below meth c D ad bs cI cZ k 4 (MQ below (lh_Qi D ad bs cI cZ k r h2) args s 0 0 (lh_A bs)) 45 [(0, .ref (ad 0)), (1, .int mn), (2, .ref (ad 6)), (3, .int (nI i))] [] h := by
  intro n
  induction n with
  | zero =>
    intro i h hi hr hh hv
    have hN := hv.2
    have hexit : h 6 0 ≤ nI i := by rw [hN]; exact nI_le (by omega) (by omega)
    refine la_iload_n (i := 3) B dX8_hang_45 rfl rfl ?_
    refine la_aload_n (i := 2) B dX8_hang_46 rfl rfl ?_
    refine la_get (i := 6) (ci := 7) (j := 0) (v := .int (h 6 0)) (C := RX7) (T := TX7) (N := 4) B (lh_nc_lt (by decide)) rfl ix_7 rfl (by decide) wd_195 rfl rfl dX8_hang_47 ?_
    refine la_icmp_ge (tgt := 105) B dX8_hang_50 (by decide) (fun c50 => ?_) (fun c50 => ?_)
    · refine la_aload_n (i := 2) B dX8_hang_105 rfl rfl ?_
      refine la_iconst (v := 0) B dX8_hang_106 (by decide) ?_
      refine la_put (i := 6) (ci := 7) (j := 0) (C := RX7) (T := TX7) (N := 4) (ty0 := tyX7) B (lh_nc_lt (by decide)) rfl rfl ix_7 tyX7_ok nmX7 rfl (by decide) wd_195 rfl rfl rfl rfl rfl (Nat.le_of_ble_eq_true rfl) dX8_hang_107 ?_
      refine la_aload_n (i := 0) B dX8_hang_110 rfl rfl ?_
      refine la_iload_n (i := 1) B dX8_hang_111 rfl rfl ?_
      refine la_callVi (i := 0) B (ct_X8_changed (lh_up h 6 0 0) mn) lk_X8_55 (by decide) (lh_nc_lt (by decide)) rfl rfl rfl (by simp [Value.category]) dX8_hang_112 ?_
      exact la_ireturn B rfl (by rw [hr]; simp only [LX8_hang]) (by rw [hh]; simp only [LX8_hang_h]) dX8_hang_115
    · exact absurd hexit c50
  | succ n ih =>
    intro i h hi hr hh hv
    have hN := hv.2
    have hcont : ¬ h 6 0 ≤ nI i := by rw [hN]; exact nI_ge (by omega) (by omega)
    have hb : vp_in (nI i) 5 := vp_in_nI (by omega) (by omega)
    refine la_iload_n (i := 3) B dX8_hang_45 rfl rfl ?_
    refine la_aload_n (i := 2) B dX8_hang_46 rfl rfl ?_
    refine la_get (i := 6) (ci := 7) (j := 0) (v := .int (h 6 0)) (C := RX7) (T := TX7) (N := 4) B (lh_nc_lt (by decide)) rfl ix_7 rfl (by decide) wd_195 rfl rfl dX8_hang_47 ?_
    refine la_icmp_ge (tgt := 105) B dX8_hang_50 (by decide) (fun c50 => ?_) (fun c50 => ?_)
    · exact absurd c50 hcont
    · refine la_aload_n (i := 0) B dX8_hang_53 rfl rfl ?_
      refine la_get (i := 0) (ci := 8) (j := 2) (C := RX8) (T := TX8) (N := 4) B (lh_nc_lt (by decide)) rfl ix_8 rfl (by decide) wd_311 rfl rfl dX8_hang_54 ?_
      refine la_get (i := 30) (ci := 1) (j := 3) (C := RX1) (T := TX1) (N := 10) B (lh_nc_lt (by decide)) rfl ix_1 rfl (by decide) wd_280 rfl rfl dX8_hang_57 ?_
      refine la_iload_n (i := 3) B dX8_hang_60 rfl rfl ?_
      refine la_iald (i := 31) (v := h 31 (nI i).toNatClampNeg) B (lh_nc_lt (by decide)) rfl hb rfl dX8_hang_61 ?_
      refine la_bipush (v := -4) B dX8_hang_62 (by decide) ?_
      refine la_icmp_eq (tgt := 99) B dX8_hang_64 (by decide) (fun c64 => ?_) (fun c64 => ?_)
      · refine la_iincp B dX8_hang_99 rfl (by decide) ?_
        refine la_goto (tgt := 45) B dX8_hang_102 (by decide) ?_
        refine la_sub (lv2 := [(0, .ref (ad 0)), (1, .int mn), (2, .ref (ad 6)), (3, .int (nI (i + 1)))]) ⟨rfl, rfl, rfl, (congrArg (fun z => some (Value.int z)) (nI_1 i)), trivial⟩ (by simp [Value.category]) ?_
        exact ih (i + 1) h (by omega) (by rw [hr]; simp only [LX8_hang, if_pos c64]) (by rw [hh]; simp only [LX8_hang_h, if_pos c64]) hv
      · refine la_aload_n (i := 0) B dX8_hang_67 rfl rfl ?_
        refine la_get (i := 0) (ci := 8) (j := 0) (C := RX8) (T := TX8) (N := 4) B (lh_nc_lt (by decide)) rfl ix_8 rfl (by decide) wd_309 rfl rfl dX8_hang_68 ?_
        refine la_get (i := 1) (ci := 2) (j := 2) (C := RX2) (T := TX2) (N := 5) B (lh_nc_lt (by decide)) rfl ix_2 rfl (by decide) wd_223 rfl rfl dX8_hang_71 ?_
        refine la_aload_n (i := 0) B dX8_hang_74 rfl rfl ?_
        refine la_get (i := 0) (ci := 8) (j := 2) (C := RX8) (T := TX8) (N := 4) B (lh_nc_lt (by decide)) rfl ix_8 rfl (by decide) wd_311 rfl rfl dX8_hang_75 ?_
        refine la_get (i := 30) (ci := 1) (j := 3) (C := RX1) (T := TX1) (N := 10) B (lh_nc_lt (by decide)) rfl ix_1 rfl (by decide) wd_280 rfl rfl dX8_hang_78 ?_
        refine la_iload_n (i := 3) B dX8_hang_81 rfl rfl ?_
        refine la_iald (i := 31) (v := h 31 (nI i).toNatClampNeg) B (lh_nc_lt (by decide)) rfl hb rfl dX8_hang_82 ?_
        refine la_aload_n (i := 2) B dX8_hang_83 rfl rfl ?_
        refine la_get (i := 6) (ci := 7) (j := 1) (C := RX7) (T := TX7) (N := 4) B (lh_nc_lt (by decide)) rfl ix_7 rfl (by decide) wd_198 rfl rfl dX8_hang_84 ?_
        refine la_iload_n (i := 3) B dX8_hang_87 rfl rfl ?_
        refine la_iald (i := 24) (v := h 24 (nI i).toNatClampNeg) B (lh_nc_lt (by decide)) rfl hb rfl dX8_hang_88 ?_
        refine la_aload_n (i := 2) B dX8_hang_89 rfl rfl ?_
        refine la_get (i := 6) (ci := 7) (j := 2) (C := RX7) (T := TX7) (N := 4) B (lh_nc_lt (by decide)) rfl ix_7 rfl (by decide) wd_201 rfl rfl dX8_hang_90 ?_
        refine la_iload_n (i := 3) B dX8_hang_93 rfl rfl ?_
        refine la_iald (i := 25) (v := h 25 (nI i).toNatClampNeg) B (lh_nc_lt (by decide)) rfl hb rfl dX8_hang_94 ?_
        refine la_callVi (i := 4) B (ct_X0_addShow h (h 31 (nI i).toNatClampNeg) (h 24 (nI i).toNatClampNeg) (h 25 (nI i).toNatClampNeg) hv.1.pre) lk_X8_137 (by decide) (lh_nc_lt (by decide)) rfl rfl rfl (by simp [Value.category]) dX8_hang_95 ?_
        refine la_pop B dX8_hang_98 rfl ?_
        refine la_iincp B dX8_hang_99 rfl (by decide) ?_
        refine la_goto (tgt := 45) B dX8_hang_102 (by decide) ?_
        refine la_sub (lv2 := [(0, .ref (ad 0)), (1, .int mn), (2, .ref (ad 6)), (3, .int (nI (i + 1)))]) ⟨rfl, rfl, rfl, (congrArg (fun z => some (Value.int z)) (nI_1 i)), trivial⟩ (by simp [Value.category]) ?_
        exact ih (i + 1) (gX0_addShow h (h 31 (nI i).toNatClampNeg) (h 24 (nI i).toNatClampNeg) (h 25 (nI i).toNatClampNeg)) (by omega) (by rw [hr]; simp only [LX8_hang, if_neg c64]) (by rw [hh]; simp only [LX8_hang_h, if_neg c64]) ⟨hv.1.add _ _ _ _, by unfold gX0_addShow; rw [ne_add (by decide) (by decide)]; exact hv.2⟩

def fX8_hang (h : lh_HS)  : Int32 := (if (((gX1_find h) 4 0) + (fX1_countHung (gX1_find h) )) ≤ 30 then (LX8_hang (fX1_countHung (gX1_find h)) (lh_N (gX1_find h) 6) 0 (gX1_find h)) else (-2))
def gX8_hang (h : lh_HS)  : lh_HS := (if (((gX1_find h) 4 0) + (fX1_countHung (gX1_find h) )) ≤ 30 then (LX8_hang_h (fX1_countHung (gX1_find h)) (lh_N (gX1_find h) 6) 0 (gX1_find h)) else gX1_find h)
set_option maxHeartbeats 4000000 in
set_option maxRecDepth 100000 in
theorem ct_X8_hang {l : Launch} {D : va_G} {ad : Nat → Nat} {bs : Nat} {cI cZ : ClassId} {t9 : Nat} {k : Bool} (h : lh_HS)  (I : lh_I h) : lh_CTi l D ad bs cI cZ t9 k yX8_hang cX8_hang 4 (some .int) 10 [.ref (ad 0)] h (fX8_hang h ) (gX8_hang h ) := by
  refine lh_ofi (lv := [(0, .ref (ad 0))]) (by decide) (Nat.le_of_ble_eq_true rfl) rfl (by simp [Value.category]) ⟨rfl, trivial⟩ ?_
  intro p e s m args below meth c B
  have B : lh_BK p (lh_rm 10) s m args meth c D ad bs cI cZ t9 k "LightHours" cX8_hang 4 (some .int) := B
  have I2 : lh_I (gX1_find h) := (I.fr (fr_find (lh_fr.rf h)))
  refine la_aload_n (i := 0) B dX8_hang_0 rfl rfl ?_
  refine la_get (i := 0) (ci := 8) (j := 2) (C := RX8) (T := TX8) (N := 4) B (lh_nc_lt (by decide)) rfl ix_8 rfl (by decide) wd_311 rfl rfl dX8_hang_1 ?_
  refine la_callVv (i := 30) B (ct_X1_find h  I) lk_X8_197 (by decide) (lh_nc_lt (by decide)) rfl rfl rfl (by simp [Value.category]) dX8_hang_4 ?_
  refine la_aload_n (i := 0) B dX8_hang_7 rfl rfl ?_
  refine la_get (i := 0) (ci := 8) (j := 2) (C := RX8) (T := TX8) (N := 4) B (lh_nc_lt (by decide)) rfl ix_8 rfl (by decide) wd_311 rfl rfl dX8_hang_8 ?_
  refine la_callVi (i := 30) B (ct_X1_countHung (gX1_find h)  I2.1.2.2.2.2.1 I2.1.2.2.2.2.2) lk_X8_209 (by decide) (lh_nc_lt (by decide)) rfl rfl rfl (by simp [Value.category]) dX8_hang_11 ?_
  refine la_istore_n (i := 1) B dX8_hang_14 rfl (by decide) ?_
  refine la_aload_n (i := 0) B dX8_hang_15 rfl rfl ?_
  refine la_get (i := 0) (ci := 8) (j := 0) (C := RX8) (T := TX8) (N := 4) B (lh_nc_lt (by decide)) rfl ix_8 rfl (by decide) wd_309 rfl rfl dX8_hang_16 ?_
  refine la_get (i := 1) (ci := 2) (j := 2) (C := RX2) (T := TX2) (N := 5) B (lh_nc_lt (by decide)) rfl ix_2 rfl (by decide) wd_223 rfl rfl dX8_hang_19 ?_
  refine la_get (i := 4) (ci := 0) (j := 0) (v := .int ((gX1_find h) 4 0)) (C := RX0) (T := TX0) (N := 6) B (lh_nc_lt (by decide)) rfl ix_0 rfl (by decide) wd_135 rfl rfl dX8_hang_22 ?_
  refine la_iload_n (i := 1) B dX8_hang_25 rfl rfl ?_
  refine la_iadd B dX8_hang_26 ?_
  refine la_bipush (v := 30) B dX8_hang_27 (by decide) ?_
  refine la_icmp_le (tgt := 35) B dX8_hang_29 (by decide) (fun c29 => ?_) (fun c29 => ?_)
  · refine la_aload_n (i := 0) B dX8_hang_35 rfl rfl ?_
    refine la_get (i := 0) (ci := 8) (j := 0) (C := RX8) (T := TX8) (N := 4) B (lh_nc_lt (by decide)) rfl ix_8 rfl (by decide) wd_309 rfl rfl dX8_hang_36 ?_
    refine la_get (i := 1) (ci := 2) (j := 4) (C := RX2) (T := TX2) (N := 5) B (lh_nc_lt (by decide)) rfl ix_2 rfl (by decide) wd_229 rfl rfl dX8_hang_39 ?_
    refine la_astore_n (i := 2) B dX8_hang_42 rfl (by decide) ?_
    refine la_iconst (v := 0) B dX8_hang_43 (by decide) ?_
    refine la_istore_n (i := 3) B dX8_hang_44 rfl (by decide) ?_
    refine la_sub (lv2 := [(0, .ref (ad 0)), (1, .int (fX1_countHung (gX1_find h) )), (2, .ref (ad 6)), (3, .int (nI 0))]) ⟨rfl, rfl, rfl, rfl, trivial⟩ (by simp [Value.category]) ?_
    exact lp_X8_hang _ B I2.1.2.2.2.2.2 _ 0 (gX1_find h) (Nat.zero_add _) (by simp only [fX8_hang, if_pos c29]) (by simp only [gX8_hang, if_pos c29]) ⟨I2.c30, I2.1.2.2.2.2.1⟩
  · refine la_bipush (v := -2) B dX8_hang_32 (by decide) ?_
    exact la_ireturn B rfl (by simp only [fX8_hang, if_neg c29]) (by simp only [gX8_hang, if_neg c29]) dX8_hang_34
