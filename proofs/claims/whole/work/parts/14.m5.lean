theorem lh_nck {k : Bool} {i : Nat} (h : k = true) (hi : i < 76) : i < lh_nc k := by subst h; exact hi
set_option maxHeartbeats 4000000 in
set_option maxRecDepth 100000 in
theorem ct_X8_copyRow {l : Launch} {D : va_G} {ad : Nat → Nat} {bs : Nat} {cI cZ : ClassId} {t9 : Nat} {k : Bool} (h : lh_HS) {q0 q1 N : Nat} {r0 : Nat → Int32} (hi0 : q0 < lh_nc k) (hi1 : q1 < lh_nc k) (hs0 : ∀ r, lh_sh ad cI cZ k q0 r = .inl (cI, N, .inl r)) (hs1 : ∀ r, lh_sh ad cI cZ k q1 r = .inl (cI, N, .inl r)) (hN : N < 2 ^ 31) (hr : h q0 = r0) : lh_CTv l D ad bs cI cZ t9 k yX8_copyRow cX8_copyRow 2 1 [.ref (ad q0), .ref (ad q1)] h (lh_row h q1 r0) := by
  refine lh_ofv (lv := [(0, .ref (ad q0)), (1, .ref (ad q1))]) (by decide) (Nat.le_of_ble_eq_true rfl) rfl (by simp [Value.category]) ⟨rfl, rfl, trivial⟩ ?_
  intro p e s m args below meth c B
  have B : lh_BK p (lh_rm 1) s m args meth c D ad bs cI cZ t9 k "LightHours" cX8_copyRow 2 none := B
  refine la_aload_n (i := 0) B dX8_copyRow_0 rfl rfl ?_
  refine la_iconst (v := 0) B dX8_copyRow_1 (by decide) ?_
  refine la_aload_n (i := 1) B dX8_copyRow_2 rfl rfl ?_
  refine la_iconst (v := 0) B dX8_copyRow_3 (by decide) ?_
  refine la_aload_n (i := 0) B dX8_copyRow_4 rfl rfl ?_
  refine la_alen (i := q0) B hi0 (hs0 _) rfl dX8_copyRow_5 ?_
  refine la_aload_n (i := 1) B dX8_copyRow_6 rfl rfl ?_
  refine la_alen (i := q1) B hi1 (hs1 _) rfl dX8_copyRow_7 ?_
  refine la_mmin B wd_578 wd_420 wd_45 wd_421 (by decide) (Nat.le_of_ble_eq_true rfl) dX8_copyRow_8 ?_
  refine la_copy (q0 := q0) (q1 := q1) (N := N) B hi0 hi1 hs0 hs1 (ite_self _) hN wd_579 wd_581 wd_580 wd_46 (by decide) (Nat.le_of_ble_eq_true rfl) dX8_copyRow_11 ?_
  exact la_return B rfl (by rw [hr]) dX8_copyRow_14
def gX1_takeIfBetter (h : lh_HS) (wo : Int32) : lh_HS := (if wo ≤ (h 30 4) then h else lh_row (lh_up h 30 4 wo) 31 (h 32))
set_option maxHeartbeats 4000000 in
set_option maxRecDepth 100000 in
theorem ct_X1_takeIfBetter {l : Launch} {D : va_G} {ad : Nat → Nat} {bs : Nat} {cI cZ : ClassId} {t9 : Nat} {k : Bool} (h : lh_HS) (wo : Int32)  : lh_CTv l D ad bs cI cZ t9 k yX1_takeIfBetter cX1_takeIfBetter 2 2 [.ref (ad 30), .int wo] h (gX1_takeIfBetter h wo) := by
  refine lh_ofv (lv := [(0, .ref (ad 30)), (1, .int wo)]) (by decide) (Nat.le_of_ble_eq_true rfl) rfl (by simp [Value.category]) ⟨rfl, rfl, trivial⟩ ?_
  intro p e s m args below meth c B
  have B : lh_BK p (lh_rm 2) s m args meth c D ad bs cI cZ t9 k "LightHours$Hanging" cX1_takeIfBetter 2 none := B
  refine la_iload_n (i := 1) B dX1_takeIfBetter_0 rfl rfl ?_
  refine la_aload_n (i := 0) B dX1_takeIfBetter_1 rfl rfl ?_
  refine la_get (i := 30) (ci := 1) (j := 4) (v := .int (h 30 4)) (C := RX1) (T := TX1) (N := 10) B (lh_nc_lt (by decide)) rfl ix_1 rfl (by decide) wd_281 rfl rfl dX1_takeIfBetter_2 ?_
  refine la_icmp_le (tgt := 24) B dX1_takeIfBetter_5 (by decide) (fun c5 => ?_) (fun c5 => ?_)
  · exact la_return B rfl (by simp only [gX1_takeIfBetter, if_pos c5]) dX1_takeIfBetter_24
  · refine la_aload_n (i := 0) B dX1_takeIfBetter_8 rfl rfl ?_
    refine la_iload_n (i := 1) B dX1_takeIfBetter_9 rfl rfl ?_
    refine la_put (i := 30) (ci := 1) (j := 4) (C := RX1) (T := TX1) (N := 10) (ty0 := tyX1) B (lh_nc_lt (by decide)) rfl rfl ix_1 tyX1_ok nmX1 rfl (by decide) wd_281 rfl rfl rfl rfl rfl (Nat.le_of_ble_eq_true rfl) dX1_takeIfBetter_10 ?_
    refine la_aload_n (i := 0) B dX1_takeIfBetter_13 rfl rfl ?_
    refine la_get (i := 30) (ci := 1) (j := 5) (C := RX1) (T := TX1) (N := 10) B (lh_nc_lt (by decide)) rfl ix_1 rfl (by decide) wd_283 rfl rfl dX1_takeIfBetter_14 ?_
    refine la_aload_n (i := 0) B dX1_takeIfBetter_17 rfl rfl ?_
    refine la_get (i := 30) (ci := 1) (j := 3) (C := RX1) (T := TX1) (N := 10) B (lh_nc_lt (by decide)) rfl ix_1 rfl (by decide) wd_279 rfl rfl dX1_takeIfBetter_18 ?_
    refine la_callSNv B (ct_X8_copyRow (lh_up h 30 4 wo) (q0 := 32) (q1 := 31) (N := 5) (r0 := h 32) (lh_nc_lt (by decide)) (lh_nc_lt (by decide)) (fun _ => rfl) (fun _ => rfl) (by decide) rfl) lk_X1_137 (by decide) rfl (by simp [Value.category]) dX1_takeIfBetter_21 ?_
    exact la_return B rfl (by simp only [gX1_takeIfBetter, if_neg c5]) dX1_takeIfBetter_24

def gX4_copyFrom_h (h : lh_HS)  : lh_HS := lh_row (lh_row (lh_up h 2 0 (h 51 0)) 7 (h 56)) 8 (h 57)
set_option maxHeartbeats 4000000 in
set_option maxRecDepth 100000 in
theorem ct_X4_copyFrom_h {l : Launch} {D : va_G} {ad : Nat → Nat} {bs : Nat} {cI cZ : ClassId} {t9 : Nat} {k : Bool} (h : lh_HS)  (hk : k = true) : lh_CTv l D ad bs cI cZ t9 k yX4_copyFrom cX4_copyFrom 2 2 [.ref (ad 2), .ref (ad 51)] h (gX4_copyFrom_h h ) := by
  refine lh_ofv (lv := [(0, .ref (ad 2)), (1, .ref (ad 51))]) (by decide) (Nat.le_of_ble_eq_true rfl) rfl (by simp [Value.category]) ⟨rfl, rfl, trivial⟩ ?_
  intro p e s m args below meth c B
  have B : lh_BK p (lh_rm 2) s m args meth c D ad bs cI cZ t9 k "LightHours$Rooms" cX4_copyFrom 2 none := B
  refine la_aload_n (i := 0) B dX4_copyFrom_0 rfl rfl ?_
  refine la_aload_n (i := 1) B dX4_copyFrom_1 rfl rfl ?_
  refine la_get (i := 51) (ci := 4) (j := 0) (v := .int (h 51 0)) (C := RX4) (T := TX4) (N := 3) B (lh_nck hk (by decide)) rfl ix_4 rfl (by decide) wd_67 rfl rfl dX4_copyFrom_2 ?_
  refine la_put (i := 2) (ci := 4) (j := 0) (C := RX4) (T := TX4) (N := 3) (ty0 := tyX4) B (lh_nc_lt (by decide)) rfl rfl ix_4 tyX4_ok nmX4 rfl (by decide) wd_67 rfl rfl rfl rfl rfl (Nat.le_of_ble_eq_true rfl) dX4_copyFrom_5 ?_
  refine la_aload_n (i := 1) B dX4_copyFrom_8 rfl rfl ?_
  refine la_get (i := 51) (ci := 4) (j := 1) (C := RX4) (T := TX4) (N := 3) B (lh_nck hk (by decide)) rfl ix_4 rfl (by decide) wd_69 rfl rfl dX4_copyFrom_9 ?_
  refine la_aload_n (i := 0) B dX4_copyFrom_12 rfl rfl ?_
  refine la_get (i := 2) (ci := 4) (j := 1) (C := RX4) (T := TX4) (N := 3) B (lh_nc_lt (by decide)) rfl ix_4 rfl (by decide) wd_69 rfl rfl dX4_copyFrom_13 ?_
  refine la_callSNv B (ct_X8_copyRow (lh_up h 2 0 (h 51 0)) (q0 := 56) (q1 := 7) (N := 4) (r0 := h 56) (lh_nck hk (by decide)) (lh_nc_lt (by decide)) (fun _ => rfl) (fun _ => rfl) (by decide) rfl) lk_X4_26 (by decide) rfl (by simp [Value.category]) dX4_copyFrom_16 ?_
  refine la_aload_n (i := 1) B dX4_copyFrom_19 rfl rfl ?_
  refine la_get (i := 51) (ci := 4) (j := 2) (C := RX4) (T := TX4) (N := 3) B (lh_nck hk (by decide)) rfl ix_4 rfl (by decide) wd_71 rfl rfl dX4_copyFrom_20 ?_
  refine la_aload_n (i := 0) B dX4_copyFrom_23 rfl rfl ?_
  refine la_get (i := 2) (ci := 4) (j := 2) (C := RX4) (T := TX4) (N := 3) B (lh_nc_lt (by decide)) rfl ix_4 rfl (by decide) wd_71 rfl rfl dX4_copyFrom_24 ?_
  refine la_callSNv B (ct_X8_copyRow (lh_row (lh_up h 2 0 (h 51 0)) 7 (h 56)) (q0 := 57) (q1 := 8) (N := 40) (r0 := h 57) (lh_nck hk (by decide)) (lh_nc_lt (by decide)) (fun _ => rfl) (fun _ => rfl) (by decide) rfl) lk_X4_26 (by decide) rfl (by simp [Value.category]) dX4_copyFrom_27 ?_
  exact la_return B rfl (by simp only [gX4_copyFrom_h]) dX4_copyFrom_30

def gX4_copyFrom_k (h : lh_HS)  : lh_HS := lh_row (lh_row (lh_up h 51 0 (h 2 0)) 56 (h 7)) 57 (h 8)
set_option maxHeartbeats 4000000 in
set_option maxRecDepth 100000 in
theorem ct_X4_copyFrom_k {l : Launch} {D : va_G} {ad : Nat → Nat} {bs : Nat} {cI cZ : ClassId} {t9 : Nat} {k : Bool} (h : lh_HS)  (hk : k = true) : lh_CTv l D ad bs cI cZ t9 k yX4_copyFrom cX4_copyFrom 2 2 [.ref (ad 51), .ref (ad 2)] h (gX4_copyFrom_k h ) := by
  refine lh_ofv (lv := [(0, .ref (ad 51)), (1, .ref (ad 2))]) (by decide) (Nat.le_of_ble_eq_true rfl) rfl (by simp [Value.category]) ⟨rfl, rfl, trivial⟩ ?_
  intro p e s m args below meth c B
  have B : lh_BK p (lh_rm 2) s m args meth c D ad bs cI cZ t9 k "LightHours$Rooms" cX4_copyFrom 2 none := B
  refine la_aload_n (i := 0) B dX4_copyFrom_0 rfl rfl ?_
  refine la_aload_n (i := 1) B dX4_copyFrom_1 rfl rfl ?_
  refine la_get (i := 2) (ci := 4) (j := 0) (v := .int (h 2 0)) (C := RX4) (T := TX4) (N := 3) B (lh_nc_lt (by decide)) rfl ix_4 rfl (by decide) wd_67 rfl rfl dX4_copyFrom_2 ?_
  refine la_put (i := 51) (ci := 4) (j := 0) (C := RX4) (T := TX4) (N := 3) (ty0 := tyX4) B (lh_nck hk (by decide)) rfl rfl ix_4 tyX4_ok nmX4 rfl (by decide) wd_67 rfl rfl rfl rfl rfl (Nat.le_of_ble_eq_true rfl) dX4_copyFrom_5 ?_
  refine la_aload_n (i := 1) B dX4_copyFrom_8 rfl rfl ?_
  refine la_get (i := 2) (ci := 4) (j := 1) (C := RX4) (T := TX4) (N := 3) B (lh_nc_lt (by decide)) rfl ix_4 rfl (by decide) wd_69 rfl rfl dX4_copyFrom_9 ?_
  refine la_aload_n (i := 0) B dX4_copyFrom_12 rfl rfl ?_
  refine la_get (i := 51) (ci := 4) (j := 1) (C := RX4) (T := TX4) (N := 3) B (lh_nck hk (by decide)) rfl ix_4 rfl (by decide) wd_69 rfl rfl dX4_copyFrom_13 ?_
  refine la_callSNv B (ct_X8_copyRow (lh_up h 51 0 (h 2 0)) (q0 := 7) (q1 := 56) (N := 4) (r0 := h 7) (lh_nc_lt (by decide)) (lh_nck hk (by decide)) (fun _ => rfl) (fun _ => rfl) (by decide) rfl) lk_X4_26 (by decide) rfl (by simp [Value.category]) dX4_copyFrom_16 ?_
  refine la_aload_n (i := 1) B dX4_copyFrom_19 rfl rfl ?_
  refine la_get (i := 2) (ci := 4) (j := 2) (C := RX4) (T := TX4) (N := 3) B (lh_nc_lt (by decide)) rfl ix_4 rfl (by decide) wd_71 rfl rfl dX4_copyFrom_20 ?_
  refine la_aload_n (i := 0) B dX4_copyFrom_23 rfl rfl ?_
  refine la_get (i := 51) (ci := 4) (j := 2) (C := RX4) (T := TX4) (N := 3) B (lh_nck hk (by decide)) rfl ix_4 rfl (by decide) wd_71 rfl rfl dX4_copyFrom_24 ?_
  refine la_callSNv B (ct_X8_copyRow (lh_row (lh_up h 51 0 (h 2 0)) 56 (h 7)) (q0 := 8) (q1 := 57) (N := 40) (r0 := h 8) (lh_nc_lt (by decide)) (lh_nck hk (by decide)) (fun _ => rfl) (fun _ => rfl) (by decide) rfl) lk_X4_26 (by decide) rfl (by simp [Value.category]) dX4_copyFrom_27 ?_
  exact la_return B rfl (by simp only [gX4_copyFrom_k]) dX4_copyFrom_30

def gX5_copyFrom_h (h : lh_HS)  : lh_HS := lh_row (lh_row (lh_row (lh_row (lh_row (lh_row (lh_row (lh_up h 3 0 (h 52 0)) 9 (h 58)) 10 (h 59)) 11 (h 60)) 12 (h 61)) 13 (h 62)) 14 (h 63)) 15 (h 64)
set_option maxHeartbeats 4000000 in
set_option maxRecDepth 100000 in
theorem ct_X5_copyFrom_h {l : Launch} {D : va_G} {ad : Nat → Nat} {bs : Nat} {cI cZ : ClassId} {t9 : Nat} {k : Bool} (h : lh_HS)  (hk : k = true) : lh_CTv l D ad bs cI cZ t9 k yX5_copyFrom cX5_copyFrom 2 2 [.ref (ad 3), .ref (ad 52)] h (gX5_copyFrom_h h ) := by
  refine lh_ofv (lv := [(0, .ref (ad 3)), (1, .ref (ad 52))]) (by decide) (Nat.le_of_ble_eq_true rfl) rfl (by simp [Value.category]) ⟨rfl, rfl, trivial⟩ ?_
  intro p e s m args below meth c B
  have B : lh_BK p (lh_rm 2) s m args meth c D ad bs cI cZ t9 k "LightHours$Sheets" cX5_copyFrom 2 none := B
  refine la_aload_n (i := 0) B dX5_copyFrom_0 rfl rfl ?_
  refine la_aload_n (i := 1) B dX5_copyFrom_1 rfl rfl ?_
  refine la_get (i := 52) (ci := 5) (j := 0) (v := .int (h 52 0)) (C := RX5) (T := TX5) (N := 8) B (lh_nck hk (by decide)) rfl ix_5 rfl (by decide) wd_86 rfl rfl dX5_copyFrom_2 ?_
  refine la_put (i := 3) (ci := 5) (j := 0) (C := RX5) (T := TX5) (N := 8) (ty0 := tyX5) B (lh_nc_lt (by decide)) rfl rfl ix_5 tyX5_ok nmX5 rfl (by decide) wd_86 rfl rfl rfl rfl rfl (Nat.le_of_ble_eq_true rfl) dX5_copyFrom_5 ?_
  refine la_aload_n (i := 1) B dX5_copyFrom_8 rfl rfl ?_
  refine la_get (i := 52) (ci := 5) (j := 1) (C := RX5) (T := TX5) (N := 8) B (lh_nck hk (by decide)) rfl ix_5 rfl (by decide) wd_90 rfl rfl dX5_copyFrom_9 ?_
  refine la_aload_n (i := 0) B dX5_copyFrom_12 rfl rfl ?_
  refine la_get (i := 3) (ci := 5) (j := 1) (C := RX5) (T := TX5) (N := 8) B (lh_nc_lt (by decide)) rfl ix_5 rfl (by decide) wd_90 rfl rfl dX5_copyFrom_13 ?_
  refine la_callSNv B (ct_X8_copyRow (lh_up h 3 0 (h 52 0)) (q0 := 58) (q1 := 9) (N := 8) (r0 := h 58) (lh_nck hk (by decide)) (lh_nc_lt (by decide)) (fun _ => rfl) (fun _ => rfl) (by decide) rfl) lk_X5_37 (by decide) rfl (by simp [Value.category]) dX5_copyFrom_16 ?_
  refine la_aload_n (i := 1) B dX5_copyFrom_19 rfl rfl ?_
  refine la_get (i := 52) (ci := 5) (j := 2) (C := RX5) (T := TX5) (N := 8) B (lh_nck hk (by decide)) rfl ix_5 rfl (by decide) wd_93 rfl rfl dX5_copyFrom_20 ?_
  refine la_aload_n (i := 0) B dX5_copyFrom_23 rfl rfl ?_
  refine la_get (i := 3) (ci := 5) (j := 2) (C := RX5) (T := TX5) (N := 8) B (lh_nc_lt (by decide)) rfl ix_5 rfl (by decide) wd_93 rfl rfl dX5_copyFrom_24 ?_
  refine la_callSNv B (ct_X8_copyRow (lh_row (lh_up h 3 0 (h 52 0)) 9 (h 58)) (q0 := 59) (q1 := 10) (N := 8) (r0 := h 59) (lh_nck hk (by decide)) (lh_nc_lt (by decide)) (fun _ => rfl) (fun _ => rfl) (by decide) rfl) lk_X5_37 (by decide) rfl (by simp [Value.category]) dX5_copyFrom_27 ?_
  refine la_aload_n (i := 1) B dX5_copyFrom_30 rfl rfl ?_
  refine la_get (i := 52) (ci := 5) (j := 3) (C := RX5) (T := TX5) (N := 8) B (lh_nck hk (by decide)) rfl ix_5 rfl (by decide) wd_95 rfl rfl dX5_copyFrom_31 ?_
  refine la_aload_n (i := 0) B dX5_copyFrom_34 rfl rfl ?_
  refine la_get (i := 3) (ci := 5) (j := 3) (C := RX5) (T := TX5) (N := 8) B (lh_nc_lt (by decide)) rfl ix_5 rfl (by decide) wd_95 rfl rfl dX5_copyFrom_35 ?_
  refine la_callSNv B (ct_X8_copyRow (lh_row (lh_row (lh_up h 3 0 (h 52 0)) 9 (h 58)) 10 (h 59)) (q0 := 60) (q1 := 11) (N := 8) (r0 := h 60) (lh_nck hk (by decide)) (lh_nc_lt (by decide)) (fun _ => rfl) (fun _ => rfl) (by decide) rfl) lk_X5_37 (by decide) rfl (by simp [Value.category]) dX5_copyFrom_38 ?_
  refine la_aload_n (i := 1) B dX5_copyFrom_41 rfl rfl ?_
  refine la_get (i := 52) (ci := 5) (j := 4) (C := RX5) (T := TX5) (N := 8) B (lh_nck hk (by decide)) rfl ix_5 rfl (by decide) wd_98 rfl rfl dX5_copyFrom_42 ?_
  refine la_aload_n (i := 0) B dX5_copyFrom_45 rfl rfl ?_
  refine la_get (i := 3) (ci := 5) (j := 4) (C := RX5) (T := TX5) (N := 8) B (lh_nc_lt (by decide)) rfl ix_5 rfl (by decide) wd_98 rfl rfl dX5_copyFrom_46 ?_
  refine la_callSNv B (ct_X8_copyRow (lh_row (lh_row (lh_row (lh_up h 3 0 (h 52 0)) 9 (h 58)) 10 (h 59)) 11 (h 60)) (q0 := 61) (q1 := 12) (N := 8) (r0 := h 61) (lh_nck hk (by decide)) (lh_nc_lt (by decide)) (fun _ => rfl) (fun _ => rfl) (by decide) rfl) lk_X5_37 (by decide) rfl (by simp [Value.category]) dX5_copyFrom_49 ?_
  refine la_aload_n (i := 1) B dX5_copyFrom_52 rfl rfl ?_
  refine la_get (i := 52) (ci := 5) (j := 5) (C := RX5) (T := TX5) (N := 8) B (lh_nck hk (by decide)) rfl ix_5 rfl (by decide) wd_101 rfl rfl dX5_copyFrom_53 ?_
  refine la_aload_n (i := 0) B dX5_copyFrom_56 rfl rfl ?_
  refine la_get (i := 3) (ci := 5) (j := 5) (C := RX5) (T := TX5) (N := 8) B (lh_nc_lt (by decide)) rfl ix_5 rfl (by decide) wd_101 rfl rfl dX5_copyFrom_57 ?_
  refine la_callSNv B (ct_X8_copyRow (lh_row (lh_row (lh_row (lh_row (lh_up h 3 0 (h 52 0)) 9 (h 58)) 10 (h 59)) 11 (h 60)) 12 (h 61)) (q0 := 62) (q1 := 13) (N := 8) (r0 := h 62) (lh_nck hk (by decide)) (lh_nc_lt (by decide)) (fun _ => rfl) (fun _ => rfl) (by decide) rfl) lk_X5_37 (by decide) rfl (by simp [Value.category]) dX5_copyFrom_60 ?_
  refine la_aload_n (i := 1) B dX5_copyFrom_63 rfl rfl ?_
  refine la_get (i := 52) (ci := 5) (j := 6) (C := RX5) (T := TX5) (N := 8) B (lh_nck hk (by decide)) rfl ix_5 rfl (by decide) wd_104 rfl rfl dX5_copyFrom_64 ?_
  refine la_aload_n (i := 0) B dX5_copyFrom_67 rfl rfl ?_
  refine la_get (i := 3) (ci := 5) (j := 6) (C := RX5) (T := TX5) (N := 8) B (lh_nc_lt (by decide)) rfl ix_5 rfl (by decide) wd_104 rfl rfl dX5_copyFrom_68 ?_
  refine la_callSNv B (ct_X8_copyRow (lh_row (lh_row (lh_row (lh_row (lh_row (lh_up h 3 0 (h 52 0)) 9 (h 58)) 10 (h 59)) 11 (h 60)) 12 (h 61)) 13 (h 62)) (q0 := 63) (q1 := 14) (N := 8) (r0 := h 63) (lh_nck hk (by decide)) (lh_nc_lt (by decide)) (fun _ => rfl) (fun _ => rfl) (by decide) rfl) lk_X5_37 (by decide) rfl (by simp [Value.category]) dX5_copyFrom_71 ?_
  refine la_aload_n (i := 1) B dX5_copyFrom_74 rfl rfl ?_
  refine la_get (i := 52) (ci := 5) (j := 7) (C := RX5) (T := TX5) (N := 8) B (lh_nck hk (by decide)) rfl ix_5 rfl (by decide) wd_107 rfl rfl dX5_copyFrom_75 ?_
  refine la_aload_n (i := 0) B dX5_copyFrom_78 rfl rfl ?_
  refine la_get (i := 3) (ci := 5) (j := 7) (C := RX5) (T := TX5) (N := 8) B (lh_nc_lt (by decide)) rfl ix_5 rfl (by decide) wd_107 rfl rfl dX5_copyFrom_79 ?_
  refine la_callSNv B (ct_X8_copyRow (lh_row (lh_row (lh_row (lh_row (lh_row (lh_row (lh_up h 3 0 (h 52 0)) 9 (h 58)) 10 (h 59)) 11 (h 60)) 12 (h 61)) 13 (h 62)) 14 (h 63)) (q0 := 64) (q1 := 15) (N := 8) (r0 := h 64) (lh_nck hk (by decide)) (lh_nc_lt (by decide)) (fun _ => rfl) (fun _ => rfl) (by decide) rfl) lk_X5_37 (by decide) rfl (by simp [Value.category]) dX5_copyFrom_82 ?_
  exact la_return B rfl (by simp only [gX5_copyFrom_h]) dX5_copyFrom_85

def gX5_copyFrom_k (h : lh_HS)  : lh_HS := lh_row (lh_row (lh_row (lh_row (lh_row (lh_row (lh_row (lh_up h 52 0 (h 3 0)) 58 (h 9)) 59 (h 10)) 60 (h 11)) 61 (h 12)) 62 (h 13)) 63 (h 14)) 64 (h 15)
set_option maxHeartbeats 4000000 in
set_option maxRecDepth 100000 in
theorem ct_X5_copyFrom_k {l : Launch} {D : va_G} {ad : Nat → Nat} {bs : Nat} {cI cZ : ClassId} {t9 : Nat} {k : Bool} (h : lh_HS)  (hk : k = true) : lh_CTv l D ad bs cI cZ t9 k yX5_copyFrom cX5_copyFrom 2 2 [.ref (ad 52), .ref (ad 3)] h (gX5_copyFrom_k h ) := by
  refine lh_ofv (lv := [(0, .ref (ad 52)), (1, .ref (ad 3))]) (by decide) (Nat.le_of_ble_eq_true rfl) rfl (by simp [Value.category]) ⟨rfl, rfl, trivial⟩ ?_
  intro p e s m args below meth c B
  have B : lh_BK p (lh_rm 2) s m args meth c D ad bs cI cZ t9 k "LightHours$Sheets" cX5_copyFrom 2 none := B
  refine la_aload_n (i := 0) B dX5_copyFrom_0 rfl rfl ?_
  refine la_aload_n (i := 1) B dX5_copyFrom_1 rfl rfl ?_
  refine la_get (i := 3) (ci := 5) (j := 0) (v := .int (h 3 0)) (C := RX5) (T := TX5) (N := 8) B (lh_nc_lt (by decide)) rfl ix_5 rfl (by decide) wd_86 rfl rfl dX5_copyFrom_2 ?_
  refine la_put (i := 52) (ci := 5) (j := 0) (C := RX5) (T := TX5) (N := 8) (ty0 := tyX5) B (lh_nck hk (by decide)) rfl rfl ix_5 tyX5_ok nmX5 rfl (by decide) wd_86 rfl rfl rfl rfl rfl (Nat.le_of_ble_eq_true rfl) dX5_copyFrom_5 ?_
  refine la_aload_n (i := 1) B dX5_copyFrom_8 rfl rfl ?_
  refine la_get (i := 3) (ci := 5) (j := 1) (C := RX5) (T := TX5) (N := 8) B (lh_nc_lt (by decide)) rfl ix_5 rfl (by decide) wd_90 rfl rfl dX5_copyFrom_9 ?_
  refine la_aload_n (i := 0) B dX5_copyFrom_12 rfl rfl ?_
  refine la_get (i := 52) (ci := 5) (j := 1) (C := RX5) (T := TX5) (N := 8) B (lh_nck hk (by decide)) rfl ix_5 rfl (by decide) wd_90 rfl rfl dX5_copyFrom_13 ?_
  refine la_callSNv B (ct_X8_copyRow (lh_up h 52 0 (h 3 0)) (q0 := 9) (q1 := 58) (N := 8) (r0 := h 9) (lh_nc_lt (by decide)) (lh_nck hk (by decide)) (fun _ => rfl) (fun _ => rfl) (by decide) rfl) lk_X5_37 (by decide) rfl (by simp [Value.category]) dX5_copyFrom_16 ?_
  refine la_aload_n (i := 1) B dX5_copyFrom_19 rfl rfl ?_
  refine la_get (i := 3) (ci := 5) (j := 2) (C := RX5) (T := TX5) (N := 8) B (lh_nc_lt (by decide)) rfl ix_5 rfl (by decide) wd_93 rfl rfl dX5_copyFrom_20 ?_
  refine la_aload_n (i := 0) B dX5_copyFrom_23 rfl rfl ?_
  refine la_get (i := 52) (ci := 5) (j := 2) (C := RX5) (T := TX5) (N := 8) B (lh_nck hk (by decide)) rfl ix_5 rfl (by decide) wd_93 rfl rfl dX5_copyFrom_24 ?_
  refine la_callSNv B (ct_X8_copyRow (lh_row (lh_up h 52 0 (h 3 0)) 58 (h 9)) (q0 := 10) (q1 := 59) (N := 8) (r0 := h 10) (lh_nc_lt (by decide)) (lh_nck hk (by decide)) (fun _ => rfl) (fun _ => rfl) (by decide) rfl) lk_X5_37 (by decide) rfl (by simp [Value.category]) dX5_copyFrom_27 ?_
  refine la_aload_n (i := 1) B dX5_copyFrom_30 rfl rfl ?_
  refine la_get (i := 3) (ci := 5) (j := 3) (C := RX5) (T := TX5) (N := 8) B (lh_nc_lt (by decide)) rfl ix_5 rfl (by decide) wd_95 rfl rfl dX5_copyFrom_31 ?_
  refine la_aload_n (i := 0) B dX5_copyFrom_34 rfl rfl ?_
  refine la_get (i := 52) (ci := 5) (j := 3) (C := RX5) (T := TX5) (N := 8) B (lh_nck hk (by decide)) rfl ix_5 rfl (by decide) wd_95 rfl rfl dX5_copyFrom_35 ?_
  refine la_callSNv B (ct_X8_copyRow (lh_row (lh_row (lh_up h 52 0 (h 3 0)) 58 (h 9)) 59 (h 10)) (q0 := 11) (q1 := 60) (N := 8) (r0 := h 11) (lh_nc_lt (by decide)) (lh_nck hk (by decide)) (fun _ => rfl) (fun _ => rfl) (by decide) rfl) lk_X5_37 (by decide) rfl (by simp [Value.category]) dX5_copyFrom_38 ?_
  refine la_aload_n (i := 1) B dX5_copyFrom_41 rfl rfl ?_
  refine la_get (i := 3) (ci := 5) (j := 4) (C := RX5) (T := TX5) (N := 8) B (lh_nc_lt (by decide)) rfl ix_5 rfl (by decide) wd_98 rfl rfl dX5_copyFrom_42 ?_
  refine la_aload_n (i := 0) B dX5_copyFrom_45 rfl rfl ?_
  refine la_get (i := 52) (ci := 5) (j := 4) (C := RX5) (T := TX5) (N := 8) B (lh_nck hk (by decide)) rfl ix_5 rfl (by decide) wd_98 rfl rfl dX5_copyFrom_46 ?_
  refine la_callSNv B (ct_X8_copyRow (lh_row (lh_row (lh_row (lh_up h 52 0 (h 3 0)) 58 (h 9)) 59 (h 10)) 60 (h 11)) (q0 := 12) (q1 := 61) (N := 8) (r0 := h 12) (lh_nc_lt (by decide)) (lh_nck hk (by decide)) (fun _ => rfl) (fun _ => rfl) (by decide) rfl) lk_X5_37 (by decide) rfl (by simp [Value.category]) dX5_copyFrom_49 ?_
  refine la_aload_n (i := 1) B dX5_copyFrom_52 rfl rfl ?_
  refine la_get (i := 3) (ci := 5) (j := 5) (C := RX5) (T := TX5) (N := 8) B (lh_nc_lt (by decide)) rfl ix_5 rfl (by decide) wd_101 rfl rfl dX5_copyFrom_53 ?_
  refine la_aload_n (i := 0) B dX5_copyFrom_56 rfl rfl ?_
  refine la_get (i := 52) (ci := 5) (j := 5) (C := RX5) (T := TX5) (N := 8) B (lh_nck hk (by decide)) rfl ix_5 rfl (by decide) wd_101 rfl rfl dX5_copyFrom_57 ?_
  refine la_callSNv B (ct_X8_copyRow (lh_row (lh_row (lh_row (lh_row (lh_up h 52 0 (h 3 0)) 58 (h 9)) 59 (h 10)) 60 (h 11)) 61 (h 12)) (q0 := 13) (q1 := 62) (N := 8) (r0 := h 13) (lh_nc_lt (by decide)) (lh_nck hk (by decide)) (fun _ => rfl) (fun _ => rfl) (by decide) rfl) lk_X5_37 (by decide) rfl (by simp [Value.category]) dX5_copyFrom_60 ?_
  refine la_aload_n (i := 1) B dX5_copyFrom_63 rfl rfl ?_
  refine la_get (i := 3) (ci := 5) (j := 6) (C := RX5) (T := TX5) (N := 8) B (lh_nc_lt (by decide)) rfl ix_5 rfl (by decide) wd_104 rfl rfl dX5_copyFrom_64 ?_
  refine la_aload_n (i := 0) B dX5_copyFrom_67 rfl rfl ?_
  refine la_get (i := 52) (ci := 5) (j := 6) (C := RX5) (T := TX5) (N := 8) B (lh_nck hk (by decide)) rfl ix_5 rfl (by decide) wd_104 rfl rfl dX5_copyFrom_68 ?_
  refine la_callSNv B (ct_X8_copyRow (lh_row (lh_row (lh_row (lh_row (lh_row (lh_up h 52 0 (h 3 0)) 58 (h 9)) 59 (h 10)) 60 (h 11)) 61 (h 12)) 62 (h 13)) (q0 := 14) (q1 := 63) (N := 8) (r0 := h 14) (lh_nc_lt (by decide)) (lh_nck hk (by decide)) (fun _ => rfl) (fun _ => rfl) (by decide) rfl) lk_X5_37 (by decide) rfl (by simp [Value.category]) dX5_copyFrom_71 ?_
  refine la_aload_n (i := 1) B dX5_copyFrom_74 rfl rfl ?_
  refine la_get (i := 3) (ci := 5) (j := 7) (C := RX5) (T := TX5) (N := 8) B (lh_nc_lt (by decide)) rfl ix_5 rfl (by decide) wd_107 rfl rfl dX5_copyFrom_75 ?_
  refine la_aload_n (i := 0) B dX5_copyFrom_78 rfl rfl ?_
  refine la_get (i := 52) (ci := 5) (j := 7) (C := RX5) (T := TX5) (N := 8) B (lh_nck hk (by decide)) rfl ix_5 rfl (by decide) wd_107 rfl rfl dX5_copyFrom_79 ?_
  refine la_callSNv B (ct_X8_copyRow (lh_row (lh_row (lh_row (lh_row (lh_row (lh_row (lh_up h 52 0 (h 3 0)) 58 (h 9)) 59 (h 10)) 60 (h 11)) 61 (h 12)) 62 (h 13)) 63 (h 14)) (q0 := 15) (q1 := 64) (N := 8) (r0 := h 15) (lh_nc_lt (by decide)) (lh_nck hk (by decide)) (fun _ => rfl) (fun _ => rfl) (by decide) rfl) lk_X5_37 (by decide) rfl (by simp [Value.category]) dX5_copyFrom_82 ?_
  exact la_return B rfl (by simp only [gX5_copyFrom_k]) dX5_copyFrom_85

def gX6_copyFrom_h (h : lh_HS)  : lh_HS := lh_row (lh_row (lh_row (lh_up h 5 0 (h 54 0)) 21 (h 70)) 22 (h 71)) 23 (h 72)
set_option maxHeartbeats 4000000 in
set_option maxRecDepth 100000 in
theorem ct_X6_copyFrom_h {l : Launch} {D : va_G} {ad : Nat → Nat} {bs : Nat} {cI cZ : ClassId} {t9 : Nat} {k : Bool} (h : lh_HS)  (hk : k = true) : lh_CTv l D ad bs cI cZ t9 k yX6_copyFrom cX6_copyFrom 2 2 [.ref (ad 5), .ref (ad 54)] h (gX6_copyFrom_h h ) := by
  refine lh_ofv (lv := [(0, .ref (ad 5)), (1, .ref (ad 54))]) (by decide) (Nat.le_of_ble_eq_true rfl) rfl (by simp [Value.category]) ⟨rfl, rfl, trivial⟩ ?_
  intro p e s m args below meth c B
  have B : lh_BK p (lh_rm 2) s m args meth c D ad bs cI cZ t9 k "LightHours$Threads" cX6_copyFrom 2 none := B
  refine la_aload_n (i := 0) B dX6_copyFrom_0 rfl rfl ?_
  refine la_aload_n (i := 1) B dX6_copyFrom_1 rfl rfl ?_
  refine la_get (i := 54) (ci := 6) (j := 0) (v := .int (h 54 0)) (C := RX6) (T := TX6) (N := 4) B (lh_nck hk (by decide)) rfl ix_6 rfl (by decide) wd_169 rfl rfl dX6_copyFrom_2 ?_
  refine la_put (i := 5) (ci := 6) (j := 0) (C := RX6) (T := TX6) (N := 4) (ty0 := tyX6) B (lh_nc_lt (by decide)) rfl rfl ix_6 tyX6_ok nmX6 rfl (by decide) wd_169 rfl rfl rfl rfl rfl (Nat.le_of_ble_eq_true rfl) dX6_copyFrom_5 ?_
  refine la_aload_n (i := 1) B dX6_copyFrom_8 rfl rfl ?_
  refine la_get (i := 54) (ci := 6) (j := 1) (C := RX6) (T := TX6) (N := 4) B (lh_nck hk (by decide)) rfl ix_6 rfl (by decide) wd_172 rfl rfl dX6_copyFrom_9 ?_
  refine la_aload_n (i := 0) B dX6_copyFrom_12 rfl rfl ?_
  refine la_get (i := 5) (ci := 6) (j := 1) (C := RX6) (T := TX6) (N := 4) B (lh_nc_lt (by decide)) rfl ix_6 rfl (by decide) wd_172 rfl rfl dX6_copyFrom_13 ?_
  refine la_callSNv B (ct_X8_copyRow (lh_up h 5 0 (h 54 0)) (q0 := 70) (q1 := 21) (N := 12) (r0 := h 70) (lh_nck hk (by decide)) (lh_nc_lt (by decide)) (fun _ => rfl) (fun _ => rfl) (by decide) rfl) lk_X6_25 (by decide) rfl (by simp [Value.category]) dX6_copyFrom_16 ?_
  refine la_aload_n (i := 1) B dX6_copyFrom_19 rfl rfl ?_
  refine la_get (i := 54) (ci := 6) (j := 2) (C := RX6) (T := TX6) (N := 4) B (lh_nck hk (by decide)) rfl ix_6 rfl (by decide) wd_174 rfl rfl dX6_copyFrom_20 ?_
  refine la_aload_n (i := 0) B dX6_copyFrom_23 rfl rfl ?_
  refine la_get (i := 5) (ci := 6) (j := 2) (C := RX6) (T := TX6) (N := 4) B (lh_nc_lt (by decide)) rfl ix_6 rfl (by decide) wd_174 rfl rfl dX6_copyFrom_24 ?_
  refine la_callSNv B (ct_X8_copyRow (lh_row (lh_up h 5 0 (h 54 0)) 21 (h 70)) (q0 := 71) (q1 := 22) (N := 12) (r0 := h 71) (lh_nck hk (by decide)) (lh_nc_lt (by decide)) (fun _ => rfl) (fun _ => rfl) (by decide) rfl) lk_X6_25 (by decide) rfl (by simp [Value.category]) dX6_copyFrom_27 ?_
  refine la_aload_n (i := 1) B dX6_copyFrom_30 rfl rfl ?_
  refine la_get (i := 54) (ci := 6) (j := 3) (C := RX6) (T := TX6) (N := 4) B (lh_nck hk (by decide)) rfl ix_6 rfl (by decide) wd_176 rfl rfl dX6_copyFrom_31 ?_
  refine la_aload_n (i := 0) B dX6_copyFrom_34 rfl rfl ?_
  refine la_get (i := 5) (ci := 6) (j := 3) (C := RX6) (T := TX6) (N := 4) B (lh_nc_lt (by decide)) rfl ix_6 rfl (by decide) wd_176 rfl rfl dX6_copyFrom_35 ?_
  refine la_callSNv B (ct_X8_copyRow (lh_row (lh_row (lh_up h 5 0 (h 54 0)) 21 (h 70)) 22 (h 71)) (q0 := 72) (q1 := 23) (N := 12) (r0 := h 72) (lh_nck hk (by decide)) (lh_nc_lt (by decide)) (fun _ => rfl) (fun _ => rfl) (by decide) rfl) lk_X6_25 (by decide) rfl (by simp [Value.category]) dX6_copyFrom_38 ?_
  exact la_return B rfl (by simp only [gX6_copyFrom_h]) dX6_copyFrom_41

def gX6_copyFrom_k (h : lh_HS)  : lh_HS := lh_row (lh_row (lh_row (lh_up h 54 0 (h 5 0)) 70 (h 21)) 71 (h 22)) 72 (h 23)
set_option maxHeartbeats 4000000 in
set_option maxRecDepth 100000 in
theorem ct_X6_copyFrom_k {l : Launch} {D : va_G} {ad : Nat → Nat} {bs : Nat} {cI cZ : ClassId} {t9 : Nat} {k : Bool} (h : lh_HS)  (hk : k = true) : lh_CTv l D ad bs cI cZ t9 k yX6_copyFrom cX6_copyFrom 2 2 [.ref (ad 54), .ref (ad 5)] h (gX6_copyFrom_k h ) := by
  refine lh_ofv (lv := [(0, .ref (ad 54)), (1, .ref (ad 5))]) (by decide) (Nat.le_of_ble_eq_true rfl) rfl (by simp [Value.category]) ⟨rfl, rfl, trivial⟩ ?_
  intro p e s m args below meth c B
  have B : lh_BK p (lh_rm 2) s m args meth c D ad bs cI cZ t9 k "LightHours$Threads" cX6_copyFrom 2 none := B
  refine la_aload_n (i := 0) B dX6_copyFrom_0 rfl rfl ?_
  refine la_aload_n (i := 1) B dX6_copyFrom_1 rfl rfl ?_
  refine la_get (i := 5) (ci := 6) (j := 0) (v := .int (h 5 0)) (C := RX6) (T := TX6) (N := 4) B (lh_nc_lt (by decide)) rfl ix_6 rfl (by decide) wd_169 rfl rfl dX6_copyFrom_2 ?_
  refine la_put (i := 54) (ci := 6) (j := 0) (C := RX6) (T := TX6) (N := 4) (ty0 := tyX6) B (lh_nck hk (by decide)) rfl rfl ix_6 tyX6_ok nmX6 rfl (by decide) wd_169 rfl rfl rfl rfl rfl (Nat.le_of_ble_eq_true rfl) dX6_copyFrom_5 ?_
  refine la_aload_n (i := 1) B dX6_copyFrom_8 rfl rfl ?_
  refine la_get (i := 5) (ci := 6) (j := 1) (C := RX6) (T := TX6) (N := 4) B (lh_nc_lt (by decide)) rfl ix_6 rfl (by decide) wd_172 rfl rfl dX6_copyFrom_9 ?_
  refine la_aload_n (i := 0) B dX6_copyFrom_12 rfl rfl ?_
  refine la_get (i := 54) (ci := 6) (j := 1) (C := RX6) (T := TX6) (N := 4) B (lh_nck hk (by decide)) rfl ix_6 rfl (by decide) wd_172 rfl rfl dX6_copyFrom_13 ?_
  refine la_callSNv B (ct_X8_copyRow (lh_up h 54 0 (h 5 0)) (q0 := 21) (q1 := 70) (N := 12) (r0 := h 21) (lh_nc_lt (by decide)) (lh_nck hk (by decide)) (fun _ => rfl) (fun _ => rfl) (by decide) rfl) lk_X6_25 (by decide) rfl (by simp [Value.category]) dX6_copyFrom_16 ?_
  refine la_aload_n (i := 1) B dX6_copyFrom_19 rfl rfl ?_
  refine la_get (i := 5) (ci := 6) (j := 2) (C := RX6) (T := TX6) (N := 4) B (lh_nc_lt (by decide)) rfl ix_6 rfl (by decide) wd_174 rfl rfl dX6_copyFrom_20 ?_
  refine la_aload_n (i := 0) B dX6_copyFrom_23 rfl rfl ?_
  refine la_get (i := 54) (ci := 6) (j := 2) (C := RX6) (T := TX6) (N := 4) B (lh_nck hk (by decide)) rfl ix_6 rfl (by decide) wd_174 rfl rfl dX6_copyFrom_24 ?_
  refine la_callSNv B (ct_X8_copyRow (lh_row (lh_up h 54 0 (h 5 0)) 70 (h 21)) (q0 := 22) (q1 := 71) (N := 12) (r0 := h 22) (lh_nc_lt (by decide)) (lh_nck hk (by decide)) (fun _ => rfl) (fun _ => rfl) (by decide) rfl) lk_X6_25 (by decide) rfl (by simp [Value.category]) dX6_copyFrom_27 ?_
  refine la_aload_n (i := 1) B dX6_copyFrom_30 rfl rfl ?_
  refine la_get (i := 5) (ci := 6) (j := 3) (C := RX6) (T := TX6) (N := 4) B (lh_nc_lt (by decide)) rfl ix_6 rfl (by decide) wd_176 rfl rfl dX6_copyFrom_31 ?_
  refine la_aload_n (i := 0) B dX6_copyFrom_34 rfl rfl ?_
  refine la_get (i := 54) (ci := 6) (j := 3) (C := RX6) (T := TX6) (N := 4) B (lh_nck hk (by decide)) rfl ix_6 rfl (by decide) wd_176 rfl rfl dX6_copyFrom_35 ?_
  refine la_callSNv B (ct_X8_copyRow (lh_row (lh_row (lh_up h 54 0 (h 5 0)) 70 (h 21)) 71 (h 22)) (q0 := 23) (q1 := 72) (N := 12) (r0 := h 23) (lh_nc_lt (by decide)) (lh_nck hk (by decide)) (fun _ => rfl) (fun _ => rfl) (by decide) rfl) lk_X6_25 (by decide) rfl (by simp [Value.category]) dX6_copyFrom_38 ?_
  exact la_return B rfl (by simp only [gX6_copyFrom_k]) dX6_copyFrom_41

def gX7_copyFrom_h (h : lh_HS)  : lh_HS := lh_row (lh_row (lh_row (lh_up h 6 0 (h 55 0)) 24 (h 73)) 25 (h 74)) 26 (h 75)
set_option maxHeartbeats 4000000 in
set_option maxRecDepth 100000 in
theorem ct_X7_copyFrom_h {l : Launch} {D : va_G} {ad : Nat → Nat} {bs : Nat} {cI cZ : ClassId} {t9 : Nat} {k : Bool} (h : lh_HS)  (hk : k = true) : lh_CTv l D ad bs cI cZ t9 k yX7_copyFrom cX7_copyFrom 2 2 [.ref (ad 6), .ref (ad 55)] h (gX7_copyFrom_h h ) := by
  refine lh_ofv (lv := [(0, .ref (ad 6)), (1, .ref (ad 55))]) (by decide) (Nat.le_of_ble_eq_true rfl) rfl (by simp [Value.category]) ⟨rfl, rfl, trivial⟩ ?_
  intro p e s m args below meth c B
  have B : lh_BK p (lh_rm 2) s m args meth c D ad bs cI cZ t9 k "LightHours$Walls" cX7_copyFrom 2 none := B
  refine la_aload_n (i := 0) B dX7_copyFrom_0 rfl rfl ?_
  refine la_aload_n (i := 1) B dX7_copyFrom_1 rfl rfl ?_
  refine la_get (i := 55) (ci := 7) (j := 0) (v := .int (h 55 0)) (C := RX7) (T := TX7) (N := 4) B (lh_nck hk (by decide)) rfl ix_7 rfl (by decide) wd_193 rfl rfl dX7_copyFrom_2 ?_
  refine la_put (i := 6) (ci := 7) (j := 0) (C := RX7) (T := TX7) (N := 4) (ty0 := tyX7) B (lh_nc_lt (by decide)) rfl rfl ix_7 tyX7_ok nmX7 rfl (by decide) wd_193 rfl rfl rfl rfl rfl (Nat.le_of_ble_eq_true rfl) dX7_copyFrom_5 ?_
  refine la_aload_n (i := 1) B dX7_copyFrom_8 rfl rfl ?_
  refine la_get (i := 55) (ci := 7) (j := 1) (C := RX7) (T := TX7) (N := 4) B (lh_nck hk (by decide)) rfl ix_7 rfl (by decide) wd_196 rfl rfl dX7_copyFrom_9 ?_
  refine la_aload_n (i := 0) B dX7_copyFrom_12 rfl rfl ?_
  refine la_get (i := 6) (ci := 7) (j := 1) (C := RX7) (T := TX7) (N := 4) B (lh_nc_lt (by decide)) rfl ix_7 rfl (by decide) wd_196 rfl rfl dX7_copyFrom_13 ?_
  refine la_callSNv B (ct_X8_copyRow (lh_up h 6 0 (h 55 0)) (q0 := 73) (q1 := 24) (N := 5) (r0 := h 73) (lh_nck hk (by decide)) (lh_nc_lt (by decide)) (fun _ => rfl) (fun _ => rfl) (by decide) rfl) lk_X7_25 (by decide) rfl (by simp [Value.category]) dX7_copyFrom_16 ?_
  refine la_aload_n (i := 1) B dX7_copyFrom_19 rfl rfl ?_
  refine la_get (i := 55) (ci := 7) (j := 2) (C := RX7) (T := TX7) (N := 4) B (lh_nck hk (by decide)) rfl ix_7 rfl (by decide) wd_199 rfl rfl dX7_copyFrom_20 ?_
  refine la_aload_n (i := 0) B dX7_copyFrom_23 rfl rfl ?_
  refine la_get (i := 6) (ci := 7) (j := 2) (C := RX7) (T := TX7) (N := 4) B (lh_nc_lt (by decide)) rfl ix_7 rfl (by decide) wd_199 rfl rfl dX7_copyFrom_24 ?_
  refine la_callSNv B (ct_X8_copyRow (lh_row (lh_up h 6 0 (h 55 0)) 24 (h 73)) (q0 := 74) (q1 := 25) (N := 5) (r0 := h 74) (lh_nck hk (by decide)) (lh_nc_lt (by decide)) (fun _ => rfl) (fun _ => rfl) (by decide) rfl) lk_X7_25 (by decide) rfl (by simp [Value.category]) dX7_copyFrom_27 ?_
  refine la_aload_n (i := 1) B dX7_copyFrom_30 rfl rfl ?_
  refine la_get (i := 55) (ci := 7) (j := 3) (C := RX7) (T := TX7) (N := 4) B (lh_nck hk (by decide)) rfl ix_7 rfl (by decide) wd_202 rfl rfl dX7_copyFrom_31 ?_
  refine la_aload_n (i := 0) B dX7_copyFrom_34 rfl rfl ?_
  refine la_get (i := 6) (ci := 7) (j := 3) (C := RX7) (T := TX7) (N := 4) B (lh_nc_lt (by decide)) rfl ix_7 rfl (by decide) wd_202 rfl rfl dX7_copyFrom_35 ?_
  refine la_callSNv B (ct_X8_copyRow (lh_row (lh_row (lh_up h 6 0 (h 55 0)) 24 (h 73)) 25 (h 74)) (q0 := 75) (q1 := 26) (N := 5) (r0 := h 75) (lh_nck hk (by decide)) (lh_nc_lt (by decide)) (fun _ => rfl) (fun _ => rfl) (by decide) rfl) lk_X7_25 (by decide) rfl (by simp [Value.category]) dX7_copyFrom_38 ?_
  exact la_return B rfl (by simp only [gX7_copyFrom_h]) dX7_copyFrom_41

def gX7_copyFrom_k (h : lh_HS)  : lh_HS := lh_row (lh_row (lh_row (lh_up h 55 0 (h 6 0)) 73 (h 24)) 74 (h 25)) 75 (h 26)
set_option maxHeartbeats 4000000 in
set_option maxRecDepth 100000 in
theorem ct_X7_copyFrom_k {l : Launch} {D : va_G} {ad : Nat → Nat} {bs : Nat} {cI cZ : ClassId} {t9 : Nat} {k : Bool} (h : lh_HS)  (hk : k = true) : lh_CTv l D ad bs cI cZ t9 k yX7_copyFrom cX7_copyFrom 2 2 [.ref (ad 55), .ref (ad 6)] h (gX7_copyFrom_k h ) := by
  refine lh_ofv (lv := [(0, .ref (ad 55)), (1, .ref (ad 6))]) (by decide) (Nat.le_of_ble_eq_true rfl) rfl (by simp [Value.category]) ⟨rfl, rfl, trivial⟩ ?_
  intro p e s m args below meth c B
  have B : lh_BK p (lh_rm 2) s m args meth c D ad bs cI cZ t9 k "LightHours$Walls" cX7_copyFrom 2 none := B
  refine la_aload_n (i := 0) B dX7_copyFrom_0 rfl rfl ?_
  refine la_aload_n (i := 1) B dX7_copyFrom_1 rfl rfl ?_
  refine la_get (i := 6) (ci := 7) (j := 0) (v := .int (h 6 0)) (C := RX7) (T := TX7) (N := 4) B (lh_nc_lt (by decide)) rfl ix_7 rfl (by decide) wd_193 rfl rfl dX7_copyFrom_2 ?_
  refine la_put (i := 55) (ci := 7) (j := 0) (C := RX7) (T := TX7) (N := 4) (ty0 := tyX7) B (lh_nck hk (by decide)) rfl rfl ix_7 tyX7_ok nmX7 rfl (by decide) wd_193 rfl rfl rfl rfl rfl (Nat.le_of_ble_eq_true rfl) dX7_copyFrom_5 ?_
  refine la_aload_n (i := 1) B dX7_copyFrom_8 rfl rfl ?_
  refine la_get (i := 6) (ci := 7) (j := 1) (C := RX7) (T := TX7) (N := 4) B (lh_nc_lt (by decide)) rfl ix_7 rfl (by decide) wd_196 rfl rfl dX7_copyFrom_9 ?_
  refine la_aload_n (i := 0) B dX7_copyFrom_12 rfl rfl ?_
  refine la_get (i := 55) (ci := 7) (j := 1) (C := RX7) (T := TX7) (N := 4) B (lh_nck hk (by decide)) rfl ix_7 rfl (by decide) wd_196 rfl rfl dX7_copyFrom_13 ?_
  refine la_callSNv B (ct_X8_copyRow (lh_up h 55 0 (h 6 0)) (q0 := 24) (q1 := 73) (N := 5) (r0 := h 24) (lh_nc_lt (by decide)) (lh_nck hk (by decide)) (fun _ => rfl) (fun _ => rfl) (by decide) rfl) lk_X7_25 (by decide) rfl (by simp [Value.category]) dX7_copyFrom_16 ?_
  refine la_aload_n (i := 1) B dX7_copyFrom_19 rfl rfl ?_
  refine la_get (i := 6) (ci := 7) (j := 2) (C := RX7) (T := TX7) (N := 4) B (lh_nc_lt (by decide)) rfl ix_7 rfl (by decide) wd_199 rfl rfl dX7_copyFrom_20 ?_
  refine la_aload_n (i := 0) B dX7_copyFrom_23 rfl rfl ?_
  refine la_get (i := 55) (ci := 7) (j := 2) (C := RX7) (T := TX7) (N := 4) B (lh_nck hk (by decide)) rfl ix_7 rfl (by decide) wd_199 rfl rfl dX7_copyFrom_24 ?_
  refine la_callSNv B (ct_X8_copyRow (lh_row (lh_up h 55 0 (h 6 0)) 73 (h 24)) (q0 := 25) (q1 := 74) (N := 5) (r0 := h 25) (lh_nc_lt (by decide)) (lh_nck hk (by decide)) (fun _ => rfl) (fun _ => rfl) (by decide) rfl) lk_X7_25 (by decide) rfl (by simp [Value.category]) dX7_copyFrom_27 ?_
  refine la_aload_n (i := 1) B dX7_copyFrom_30 rfl rfl ?_
  refine la_get (i := 6) (ci := 7) (j := 3) (C := RX7) (T := TX7) (N := 4) B (lh_nc_lt (by decide)) rfl ix_7 rfl (by decide) wd_202 rfl rfl dX7_copyFrom_31 ?_
  refine la_aload_n (i := 0) B dX7_copyFrom_34 rfl rfl ?_
  refine la_get (i := 55) (ci := 7) (j := 3) (C := RX7) (T := TX7) (N := 4) B (lh_nck hk (by decide)) rfl ix_7 rfl (by decide) wd_202 rfl rfl dX7_copyFrom_35 ?_
  refine la_callSNv B (ct_X8_copyRow (lh_row (lh_row (lh_up h 55 0 (h 6 0)) 73 (h 24)) 74 (h 25)) (q0 := 26) (q1 := 75) (N := 5) (r0 := h 26) (lh_nc_lt (by decide)) (lh_nck hk (by decide)) (fun _ => rfl) (fun _ => rfl) (by decide) rfl) lk_X7_25 (by decide) rfl (by simp [Value.category]) dX7_copyFrom_38 ?_
  exact la_return B rfl (by simp only [gX7_copyFrom_k]) dX7_copyFrom_41

def LX0_copy_h_h  : Nat → Nat → lh_HS → lh_HS
  | 0, i, h => h
  | n + 1, i, h => (LX0_copy_h_h n (i + 1) (lh_up h 20 ((nI i).toNatClampNeg) ((h 69 (nI i).toNatClampNeg))))
set_option maxHeartbeats 4000000 in
set_option maxRecDepth 100000 in
theorem lp_X0_copy_h {l : Launch} {D : va_G} {ad : Nat → Nat} {bs : Nat} {cI cZ : ClassId} {t9 : Nat} {k : Bool} {p : Program} {e : Env} {s : State} {m : MethodId} {args : Array Value} {below : List Frame} {meth : Method} {c : Code}  {h2 : lh_HS} (B : lh_BK p (lh_rm 2) s m args meth c D ad bs cI cZ t9 k "LightHours$Bookings" cX0_copyFrom 3 none) (hk : k = true) :
    ∀ (n i : Nat) (h : lh_HS), i + n = 30 → h2 = LX0_copy_h_h n i h → (∀ j, j < 30 → h 69 j = 0 ∨ h 69 j = 1) → lh_AJ p l e (lh_rm 2) s m args below meth c D ad bs cI cZ k 3 (MQ below (lh_Qv D ad bs cI cZ k h2) args s 0 0 (lh_A bs)) 54 [(0, .ref (ad 4)), (1, .ref (ad 53)), (2, .int (nI i))] [] h := by
  intro n
  induction n with
  | zero =>
    intro i h hi hh hv
    have hexit : (30 : Int32) ≤ nI i := nI_le (a := 30) (by omega) (by omega)
    refine la_iload_n (i := 2) B dX0_copyFrom_54 rfl rfl ?_
    refine la_bipush (v := 30) B dX0_copyFrom_55 (by decide) ?_
    refine la_icmp_ge (tgt := 78) B dX0_copyFrom_57 (by decide) (fun c57 => ?_) (fun c57 => ?_)
    · exact la_return B rfl (by rw [hh]; simp only [LX0_copy_h_h]) dX0_copyFrom_78
    · exact absurd hexit c57
  | succ n ih =>
    intro i h hi hh hv
    have hcont : ¬ (30 : Int32) ≤ nI i := nI_ge (b := 30) (by omega) (by omega)
    have hb : vp_in (nI i) 30 := vp_in_nI (by omega) (by omega)
    have hz : h 69 (nI i).toNatClampNeg = 0 ∨ h 69 (nI i).toNatClampNeg = 1 := hv _ (by rw [nI_clamp (by omega)]; omega)
    refine la_iload_n (i := 2) B dX0_copyFrom_54 rfl rfl ?_
    refine la_bipush (v := 30) B dX0_copyFrom_55 (by decide) ?_
    refine la_icmp_ge (tgt := 78) B dX0_copyFrom_57 (by decide) (fun c57 => ?_) (fun c57 => ?_)
    · exact absurd c57 hcont
    · refine la_aload_n (i := 0) B dX0_copyFrom_60 rfl rfl ?_
      refine la_get (i := 4) (ci := 0) (j := 5) (C := RX0) (T := TX0) (N := 6) B (lh_nc_lt (by decide)) rfl ix_0 rfl (by decide) wd_147 rfl rfl dX0_copyFrom_61 ?_
      refine la_iload_n (i := 2) B dX0_copyFrom_64 rfl rfl ?_
      refine la_aload_n (i := 1) B dX0_copyFrom_65 rfl rfl ?_
      refine la_get (i := 53) (ci := 0) (j := 5) (C := RX0) (T := TX0) (N := 6) B (lh_nck hk (by decide)) rfl ix_0 rfl (by decide) wd_147 rfl rfl dX0_copyFrom_66 ?_
      refine la_iload_n (i := 2) B dX0_copyFrom_69 rfl rfl ?_
      refine la_zald (i := 69) (v := h 69 (nI i).toNatClampNeg) B (lh_nck hk (by decide)) rfl hb rfl dX0_copyFrom_70 ?_
      refine la_zast (i := 20) (j := (nI i).toNatClampNeg) B (lh_nc_lt (by decide)) rfl rfl hb rfl (lh_narv hz) dX0_copyFrom_71 ?_
      refine la_iincp B dX0_copyFrom_72 rfl (by decide) ?_
      refine la_goto (tgt := 54) B dX0_copyFrom_75 (by decide) ?_
      refine la_sub (lv2 := [(0, .ref (ad 4)), (1, .ref (ad 53)), (2, .int (nI (i + 1)))]) ⟨rfl, rfl, (congrArg (fun z => some (Value.int z)) (nI_1 i)), trivial⟩ (by simp [Value.category]) ?_
      exact ih (i + 1) (lh_up h 20 ((nI i).toNatClampNeg) ((h 69 (nI i).toNatClampNeg))) (by omega) (by rw [hh]; simp only [LX0_copy_h_h]) (fun j hj => by rw [lh_up_ne (Or.inl (by decide))]; exact hv j hj)

def gX0_copyFrom_h (h : lh_HS)  : lh_HS := (LX0_copy_h_h 30 0 (lh_row (lh_row (lh_row (lh_row (lh_up h 4 0 (h 53 0)) 16 (h 65)) 17 (h 66)) 18 (h 67)) 19 (h 68)))
set_option maxHeartbeats 4000000 in
set_option maxRecDepth 100000 in
theorem ct_X0_copyFrom_h {l : Launch} {D : va_G} {ad : Nat → Nat} {bs : Nat} {cI cZ : ClassId} {t9 : Nat} {k : Bool} (h : lh_HS)  (hk : k = true) (hz : ∀ j, j < 30 → h 69 j = 0 ∨ h 69 j = 1) : lh_CTv l D ad bs cI cZ t9 k yX0_copyFrom cX0_copyFrom 3 2 [.ref (ad 4), .ref (ad 53)] h (gX0_copyFrom_h h ) := by
  refine lh_ofv (lv := [(0, .ref (ad 4)), (1, .ref (ad 53))]) (by decide) (Nat.le_of_ble_eq_true rfl) rfl (by simp [Value.category]) ⟨rfl, rfl, trivial⟩ ?_
  intro p e s m args below meth c B
  have B : lh_BK p (lh_rm 2) s m args meth c D ad bs cI cZ t9 k "LightHours$Bookings" cX0_copyFrom 3 none := B
  refine la_aload_n (i := 0) B dX0_copyFrom_0 rfl rfl ?_
  refine la_aload_n (i := 1) B dX0_copyFrom_1 rfl rfl ?_
  refine la_get (i := 53) (ci := 0) (j := 0) (v := .int (h 53 0)) (C := RX0) (T := TX0) (N := 6) B (lh_nck hk (by decide)) rfl ix_0 rfl (by decide) wd_133 rfl rfl dX0_copyFrom_2 ?_
  refine la_put (i := 4) (ci := 0) (j := 0) (C := RX0) (T := TX0) (N := 6) (ty0 := tyX0) B (lh_nc_lt (by decide)) rfl rfl ix_0 tyX0_ok nmX0 rfl (by decide) wd_133 rfl rfl rfl rfl rfl (Nat.le_of_ble_eq_true rfl) dX0_copyFrom_5 ?_
  refine la_aload_n (i := 1) B dX0_copyFrom_8 rfl rfl ?_
  refine la_get (i := 53) (ci := 0) (j := 1) (C := RX0) (T := TX0) (N := 6) B (lh_nck hk (by decide)) rfl ix_0 rfl (by decide) wd_136 rfl rfl dX0_copyFrom_9 ?_
  refine la_aload_n (i := 0) B dX0_copyFrom_12 rfl rfl ?_
  refine la_get (i := 4) (ci := 0) (j := 1) (C := RX0) (T := TX0) (N := 6) B (lh_nc_lt (by decide)) rfl ix_0 rfl (by decide) wd_136 rfl rfl dX0_copyFrom_13 ?_
  refine la_callSNv B (ct_X8_copyRow (lh_up h 4 0 (h 53 0)) (q0 := 65) (q1 := 16) (N := 30) (r0 := h 65) (lh_nck hk (by decide)) (lh_nc_lt (by decide)) (fun _ => rfl) (fun _ => rfl) (by decide) rfl) lk_X0_50 (by decide) rfl (by simp [Value.category]) dX0_copyFrom_16 ?_
  refine la_aload_n (i := 1) B dX0_copyFrom_19 rfl rfl ?_
  refine la_get (i := 53) (ci := 0) (j := 2) (C := RX0) (T := TX0) (N := 6) B (lh_nck hk (by decide)) rfl ix_0 rfl (by decide) wd_138 rfl rfl dX0_copyFrom_20 ?_
  refine la_aload_n (i := 0) B dX0_copyFrom_23 rfl rfl ?_
  refine la_get (i := 4) (ci := 0) (j := 2) (C := RX0) (T := TX0) (N := 6) B (lh_nc_lt (by decide)) rfl ix_0 rfl (by decide) wd_138 rfl rfl dX0_copyFrom_24 ?_
  refine la_callSNv B (ct_X8_copyRow (lh_row (lh_up h 4 0 (h 53 0)) 16 (h 65)) (q0 := 66) (q1 := 17) (N := 30) (r0 := h 66) (lh_nck hk (by decide)) (lh_nc_lt (by decide)) (fun _ => rfl) (fun _ => rfl) (by decide) rfl) lk_X0_50 (by decide) rfl (by simp [Value.category]) dX0_copyFrom_27 ?_
  refine la_aload_n (i := 1) B dX0_copyFrom_30 rfl rfl ?_
  refine la_get (i := 53) (ci := 0) (j := 3) (C := RX0) (T := TX0) (N := 6) B (lh_nck hk (by decide)) rfl ix_0 rfl (by decide) wd_141 rfl rfl dX0_copyFrom_31 ?_
  refine la_aload_n (i := 0) B dX0_copyFrom_34 rfl rfl ?_
  refine la_get (i := 4) (ci := 0) (j := 3) (C := RX0) (T := TX0) (N := 6) B (lh_nc_lt (by decide)) rfl ix_0 rfl (by decide) wd_141 rfl rfl dX0_copyFrom_35 ?_
  refine la_callSNv B (ct_X8_copyRow (lh_row (lh_row (lh_up h 4 0 (h 53 0)) 16 (h 65)) 17 (h 66)) (q0 := 67) (q1 := 18) (N := 30) (r0 := h 67) (lh_nck hk (by decide)) (lh_nc_lt (by decide)) (fun _ => rfl) (fun _ => rfl) (by decide) rfl) lk_X0_50 (by decide) rfl (by simp [Value.category]) dX0_copyFrom_38 ?_
  refine la_aload_n (i := 1) B dX0_copyFrom_41 rfl rfl ?_
  refine la_get (i := 53) (ci := 0) (j := 4) (C := RX0) (T := TX0) (N := 6) B (lh_nck hk (by decide)) rfl ix_0 rfl (by decide) wd_145 rfl rfl dX0_copyFrom_42 ?_
  refine la_aload_n (i := 0) B dX0_copyFrom_45 rfl rfl ?_
  refine la_get (i := 4) (ci := 0) (j := 4) (C := RX0) (T := TX0) (N := 6) B (lh_nc_lt (by decide)) rfl ix_0 rfl (by decide) wd_145 rfl rfl dX0_copyFrom_46 ?_
  refine la_callSNv B (ct_X8_copyRow (lh_row (lh_row (lh_row (lh_up h 4 0 (h 53 0)) 16 (h 65)) 17 (h 66)) 18 (h 67)) (q0 := 68) (q1 := 19) (N := 30) (r0 := h 68) (lh_nck hk (by decide)) (lh_nc_lt (by decide)) (fun _ => rfl) (fun _ => rfl) (by decide) rfl) lk_X0_50 (by decide) rfl (by simp [Value.category]) dX0_copyFrom_49 ?_
  refine la_iconst (v := 0) B dX0_copyFrom_52 (by decide) ?_
  refine la_istore_n (i := 2) B dX0_copyFrom_53 rfl (by decide) ?_
  refine la_sub (lv2 := [(0, .ref (ad 4)), (1, .ref (ad 53)), (2, .int (nI 0))]) ⟨rfl, rfl, rfl, trivial⟩ (by simp [Value.category]) ?_
  exact lp_X0_copy_h B hk _ 0 (lh_row (lh_row (lh_row (lh_row (lh_up h 4 0 (h 53 0)) 16 (h 65)) 17 (h 66)) 18 (h 67)) 19 (h 68)) (Nat.zero_add _) (by simp only [gX0_copyFrom_h]) hz

def LX0_copy_k_h  : Nat → Nat → lh_HS → lh_HS
  | 0, i, h => h
  | n + 1, i, h => (LX0_copy_k_h n (i + 1) (lh_up h 69 ((nI i).toNatClampNeg) ((h 20 (nI i).toNatClampNeg))))
set_option maxHeartbeats 4000000 in
set_option maxRecDepth 100000 in
theorem lp_X0_copy_k {l : Launch} {D : va_G} {ad : Nat → Nat} {bs : Nat} {cI cZ : ClassId} {t9 : Nat} {k : Bool} {p : Program} {e : Env} {s : State} {m : MethodId} {args : Array Value} {below : List Frame} {meth : Method} {c : Code}  {h2 : lh_HS} (B : lh_BK p (lh_rm 2) s m args meth c D ad bs cI cZ t9 k "LightHours$Bookings" cX0_copyFrom 3 none) (hk : k = true) :
    ∀ (n i : Nat) (h : lh_HS), i + n = 30 → h2 = LX0_copy_k_h n i h → (∀ j, j < 30 → h 20 j = 0 ∨ h 20 j = 1) → lh_AJ p l e (lh_rm 2) s m args below meth c D ad bs cI cZ k 3 (MQ below (lh_Qv D ad bs cI cZ k h2) args s 0 0 (lh_A bs)) 54 [(0, .ref (ad 53)), (1, .ref (ad 4)), (2, .int (nI i))] [] h := by
  intro n
  induction n with
  | zero =>
    intro i h hi hh hv
    have hexit : (30 : Int32) ≤ nI i := nI_le (a := 30) (by omega) (by omega)
    refine la_iload_n (i := 2) B dX0_copyFrom_54 rfl rfl ?_
    refine la_bipush (v := 30) B dX0_copyFrom_55 (by decide) ?_
    refine la_icmp_ge (tgt := 78) B dX0_copyFrom_57 (by decide) (fun c57 => ?_) (fun c57 => ?_)
    · exact la_return B rfl (by rw [hh]; simp only [LX0_copy_k_h]) dX0_copyFrom_78
    · exact absurd hexit c57
  | succ n ih =>
    intro i h hi hh hv
    have hcont : ¬ (30 : Int32) ≤ nI i := nI_ge (b := 30) (by omega) (by omega)
    have hb : vp_in (nI i) 30 := vp_in_nI (by omega) (by omega)
    have hz : h 20 (nI i).toNatClampNeg = 0 ∨ h 20 (nI i).toNatClampNeg = 1 := hv _ (by rw [nI_clamp (by omega)]; omega)
    refine la_iload_n (i := 2) B dX0_copyFrom_54 rfl rfl ?_
    refine la_bipush (v := 30) B dX0_copyFrom_55 (by decide) ?_
    refine la_icmp_ge (tgt := 78) B dX0_copyFrom_57 (by decide) (fun c57 => ?_) (fun c57 => ?_)
    · exact absurd c57 hcont
    · refine la_aload_n (i := 0) B dX0_copyFrom_60 rfl rfl ?_
      refine la_get (i := 53) (ci := 0) (j := 5) (C := RX0) (T := TX0) (N := 6) B (lh_nck hk (by decide)) rfl ix_0 rfl (by decide) wd_147 rfl rfl dX0_copyFrom_61 ?_
      refine la_iload_n (i := 2) B dX0_copyFrom_64 rfl rfl ?_
      refine la_aload_n (i := 1) B dX0_copyFrom_65 rfl rfl ?_
      refine la_get (i := 4) (ci := 0) (j := 5) (C := RX0) (T := TX0) (N := 6) B (lh_nc_lt (by decide)) rfl ix_0 rfl (by decide) wd_147 rfl rfl dX0_copyFrom_66 ?_
      refine la_iload_n (i := 2) B dX0_copyFrom_69 rfl rfl ?_
      refine la_zald (i := 20) (v := h 20 (nI i).toNatClampNeg) B (lh_nc_lt (by decide)) rfl hb rfl dX0_copyFrom_70 ?_
      refine la_zast (i := 69) (j := (nI i).toNatClampNeg) B (lh_nck hk (by decide)) rfl rfl hb rfl (lh_narv hz) dX0_copyFrom_71 ?_
      refine la_iincp B dX0_copyFrom_72 rfl (by decide) ?_
      refine la_goto (tgt := 54) B dX0_copyFrom_75 (by decide) ?_
      refine la_sub (lv2 := [(0, .ref (ad 53)), (1, .ref (ad 4)), (2, .int (nI (i + 1)))]) ⟨rfl, rfl, (congrArg (fun z => some (Value.int z)) (nI_1 i)), trivial⟩ (by simp [Value.category]) ?_
      exact ih (i + 1) (lh_up h 69 ((nI i).toNatClampNeg) ((h 20 (nI i).toNatClampNeg))) (by omega) (by rw [hh]; simp only [LX0_copy_k_h]) (fun j hj => by rw [lh_up_ne (Or.inl (by decide))]; exact hv j hj)

def gX0_copyFrom_k (h : lh_HS)  : lh_HS := (LX0_copy_k_h 30 0 (lh_row (lh_row (lh_row (lh_row (lh_up h 53 0 (h 4 0)) 65 (h 16)) 66 (h 17)) 67 (h 18)) 68 (h 19)))
set_option maxHeartbeats 4000000 in
set_option maxRecDepth 100000 in
theorem ct_X0_copyFrom_k {l : Launch} {D : va_G} {ad : Nat → Nat} {bs : Nat} {cI cZ : ClassId} {t9 : Nat} {k : Bool} (h : lh_HS)  (hk : k = true) (hz : ∀ j, j < 30 → h 20 j = 0 ∨ h 20 j = 1) : lh_CTv l D ad bs cI cZ t9 k yX0_copyFrom cX0_copyFrom 3 2 [.ref (ad 53), .ref (ad 4)] h (gX0_copyFrom_k h ) := by
  refine lh_ofv (lv := [(0, .ref (ad 53)), (1, .ref (ad 4))]) (by decide) (Nat.le_of_ble_eq_true rfl) rfl (by simp [Value.category]) ⟨rfl, rfl, trivial⟩ ?_
  intro p e s m args below meth c B
  have B : lh_BK p (lh_rm 2) s m args meth c D ad bs cI cZ t9 k "LightHours$Bookings" cX0_copyFrom 3 none := B
  refine la_aload_n (i := 0) B dX0_copyFrom_0 rfl rfl ?_
  refine la_aload_n (i := 1) B dX0_copyFrom_1 rfl rfl ?_
  refine la_get (i := 4) (ci := 0) (j := 0) (v := .int (h 4 0)) (C := RX0) (T := TX0) (N := 6) B (lh_nc_lt (by decide)) rfl ix_0 rfl (by decide) wd_133 rfl rfl dX0_copyFrom_2 ?_
  refine la_put (i := 53) (ci := 0) (j := 0) (C := RX0) (T := TX0) (N := 6) (ty0 := tyX0) B (lh_nck hk (by decide)) rfl rfl ix_0 tyX0_ok nmX0 rfl (by decide) wd_133 rfl rfl rfl rfl rfl (Nat.le_of_ble_eq_true rfl) dX0_copyFrom_5 ?_
  refine la_aload_n (i := 1) B dX0_copyFrom_8 rfl rfl ?_
  refine la_get (i := 4) (ci := 0) (j := 1) (C := RX0) (T := TX0) (N := 6) B (lh_nc_lt (by decide)) rfl ix_0 rfl (by decide) wd_136 rfl rfl dX0_copyFrom_9 ?_
  refine la_aload_n (i := 0) B dX0_copyFrom_12 rfl rfl ?_
  refine la_get (i := 53) (ci := 0) (j := 1) (C := RX0) (T := TX0) (N := 6) B (lh_nck hk (by decide)) rfl ix_0 rfl (by decide) wd_136 rfl rfl dX0_copyFrom_13 ?_
  refine la_callSNv B (ct_X8_copyRow (lh_up h 53 0 (h 4 0)) (q0 := 16) (q1 := 65) (N := 30) (r0 := h 16) (lh_nc_lt (by decide)) (lh_nck hk (by decide)) (fun _ => rfl) (fun _ => rfl) (by decide) rfl) lk_X0_50 (by decide) rfl (by simp [Value.category]) dX0_copyFrom_16 ?_
  refine la_aload_n (i := 1) B dX0_copyFrom_19 rfl rfl ?_
  refine la_get (i := 4) (ci := 0) (j := 2) (C := RX0) (T := TX0) (N := 6) B (lh_nc_lt (by decide)) rfl ix_0 rfl (by decide) wd_138 rfl rfl dX0_copyFrom_20 ?_
  refine la_aload_n (i := 0) B dX0_copyFrom_23 rfl rfl ?_
  refine la_get (i := 53) (ci := 0) (j := 2) (C := RX0) (T := TX0) (N := 6) B (lh_nck hk (by decide)) rfl ix_0 rfl (by decide) wd_138 rfl rfl dX0_copyFrom_24 ?_
  refine la_callSNv B (ct_X8_copyRow (lh_row (lh_up h 53 0 (h 4 0)) 65 (h 16)) (q0 := 17) (q1 := 66) (N := 30) (r0 := h 17) (lh_nc_lt (by decide)) (lh_nck hk (by decide)) (fun _ => rfl) (fun _ => rfl) (by decide) rfl) lk_X0_50 (by decide) rfl (by simp [Value.category]) dX0_copyFrom_27 ?_
  refine la_aload_n (i := 1) B dX0_copyFrom_30 rfl rfl ?_
  refine la_get (i := 4) (ci := 0) (j := 3) (C := RX0) (T := TX0) (N := 6) B (lh_nc_lt (by decide)) rfl ix_0 rfl (by decide) wd_141 rfl rfl dX0_copyFrom_31 ?_
  refine la_aload_n (i := 0) B dX0_copyFrom_34 rfl rfl ?_
  refine la_get (i := 53) (ci := 0) (j := 3) (C := RX0) (T := TX0) (N := 6) B (lh_nck hk (by decide)) rfl ix_0 rfl (by decide) wd_141 rfl rfl dX0_copyFrom_35 ?_
  refine la_callSNv B (ct_X8_copyRow (lh_row (lh_row (lh_up h 53 0 (h 4 0)) 65 (h 16)) 66 (h 17)) (q0 := 18) (q1 := 67) (N := 30) (r0 := h 18) (lh_nc_lt (by decide)) (lh_nck hk (by decide)) (fun _ => rfl) (fun _ => rfl) (by decide) rfl) lk_X0_50 (by decide) rfl (by simp [Value.category]) dX0_copyFrom_38 ?_
  refine la_aload_n (i := 1) B dX0_copyFrom_41 rfl rfl ?_
  refine la_get (i := 4) (ci := 0) (j := 4) (C := RX0) (T := TX0) (N := 6) B (lh_nc_lt (by decide)) rfl ix_0 rfl (by decide) wd_145 rfl rfl dX0_copyFrom_42 ?_
  refine la_aload_n (i := 0) B dX0_copyFrom_45 rfl rfl ?_
  refine la_get (i := 53) (ci := 0) (j := 4) (C := RX0) (T := TX0) (N := 6) B (lh_nck hk (by decide)) rfl ix_0 rfl (by decide) wd_145 rfl rfl dX0_copyFrom_46 ?_
  refine la_callSNv B (ct_X8_copyRow (lh_row (lh_row (lh_row (lh_up h 53 0 (h 4 0)) 65 (h 16)) 66 (h 17)) 67 (h 18)) (q0 := 19) (q1 := 68) (N := 30) (r0 := h 19) (lh_nc_lt (by decide)) (lh_nck hk (by decide)) (fun _ => rfl) (fun _ => rfl) (by decide) rfl) lk_X0_50 (by decide) rfl (by simp [Value.category]) dX0_copyFrom_49 ?_
  refine la_iconst (v := 0) B dX0_copyFrom_52 (by decide) ?_
  refine la_istore_n (i := 2) B dX0_copyFrom_53 rfl (by decide) ?_
  refine la_sub (lv2 := [(0, .ref (ad 53)), (1, .ref (ad 4)), (2, .int (nI 0))]) ⟨rfl, rfl, rfl, trivial⟩ (by simp [Value.category]) ?_
  exact lp_X0_copy_k B hk _ 0 (lh_row (lh_row (lh_row (lh_row (lh_up h 53 0 (h 4 0)) 65 (h 16)) 66 (h 17)) 67 (h 18)) 68 (h 19)) (Nat.zero_add _) (by simp only [gX0_copyFrom_k]) hz

def gX2_copyFrom_h (h : lh_HS)  : lh_HS := gX7_copyFrom_h (gX6_copyFrom_h (gX0_copyFrom_h (gX5_copyFrom_h (gX4_copyFrom_h h))))
set_option maxHeartbeats 4000000 in
set_option maxRecDepth 100000 in
theorem ct_X2_copyFrom_h {l : Launch} {D : va_G} {ad : Nat → Nat} {bs : Nat} {cI cZ : ClassId} {t9 : Nat} {k : Bool} (h : lh_HS)  (hk : k = true) (hz : ∀ j, j < 30 → h 69 j = 0 ∨ h 69 j = 1) : lh_CTv l D ad bs cI cZ t9 k yX2_copyFrom cX2_copyFrom 2 3 [.ref (ad 1), .ref (ad 50)] h (gX2_copyFrom_h h ) := by
  refine lh_ofv (lv := [(0, .ref (ad 1)), (1, .ref (ad 50))]) (by decide) (Nat.le_of_ble_eq_true rfl) rfl (by simp [Value.category]) ⟨rfl, rfl, trivial⟩ ?_
  intro p e s m args below meth c B
  have B : lh_BK p (lh_rm 3) s m args meth c D ad bs cI cZ t9 k "LightHours$House" cX2_copyFrom 2 none := B
  refine la_aload_n (i := 0) B dX2_copyFrom_0 rfl rfl ?_
  refine la_get (i := 1) (ci := 2) (j := 0) (C := RX2) (T := TX2) (N := 5) B (lh_nc_lt (by decide)) rfl ix_2 rfl (by decide) wd_213 rfl rfl dX2_copyFrom_1 ?_
  refine la_aload_n (i := 1) B dX2_copyFrom_4 rfl rfl ?_
  refine la_get (i := 50) (ci := 2) (j := 0) (C := RX2) (T := TX2) (N := 5) B (lh_nck hk (by decide)) rfl ix_2 rfl (by decide) wd_213 rfl rfl dX2_copyFrom_5 ?_
  refine la_callVv (i := 2) B (ct_X4_copyFrom_h h hk) lk_X2_62 (by decide) (lh_nc_lt (by decide)) rfl rfl rfl (by simp [Value.category]) dX2_copyFrom_8 ?_
  refine la_aload_n (i := 0) B dX2_copyFrom_11 rfl rfl ?_
  refine la_get (i := 1) (ci := 2) (j := 1) (C := RX2) (T := TX2) (N := 5) B (lh_nc_lt (by decide)) rfl ix_2 rfl (by decide) wd_216 rfl rfl dX2_copyFrom_12 ?_
  refine la_aload_n (i := 1) B dX2_copyFrom_15 rfl rfl ?_
  refine la_get (i := 50) (ci := 2) (j := 1) (C := RX2) (T := TX2) (N := 5) B (lh_nck hk (by decide)) rfl ix_2 rfl (by decide) wd_216 rfl rfl dX2_copyFrom_16 ?_
  refine la_callVv (i := 3) B (ct_X5_copyFrom_h (gX4_copyFrom_h h) hk) lk_X2_66 (by decide) (lh_nc_lt (by decide)) rfl rfl rfl (by simp [Value.category]) dX2_copyFrom_19 ?_
  refine la_aload_n (i := 0) B dX2_copyFrom_22 rfl rfl ?_
  refine la_get (i := 1) (ci := 2) (j := 2) (C := RX2) (T := TX2) (N := 5) B (lh_nc_lt (by decide)) rfl ix_2 rfl (by decide) wd_220 rfl rfl dX2_copyFrom_23 ?_
  refine la_aload_n (i := 1) B dX2_copyFrom_26 rfl rfl ?_
  refine la_get (i := 50) (ci := 2) (j := 2) (C := RX2) (T := TX2) (N := 5) B (lh_nck hk (by decide)) rfl ix_2 rfl (by decide) wd_220 rfl rfl dX2_copyFrom_27 ?_
  refine la_callVv (i := 4) B (ct_X0_copyFrom_h (gX5_copyFrom_h (gX4_copyFrom_h h)) hk (fun j hj => hz j hj)) lk_X2_69 (by decide) (lh_nc_lt (by decide)) rfl rfl rfl (by simp [Value.category]) dX2_copyFrom_30 ?_
  refine la_aload_n (i := 0) B dX2_copyFrom_33 rfl rfl ?_
  refine la_get (i := 1) (ci := 2) (j := 3) (C := RX2) (T := TX2) (N := 5) B (lh_nc_lt (by decide)) rfl ix_2 rfl (by decide) wd_224 rfl rfl dX2_copyFrom_34 ?_
  refine la_aload_n (i := 1) B dX2_copyFrom_37 rfl rfl ?_
  refine la_get (i := 50) (ci := 2) (j := 3) (C := RX2) (T := TX2) (N := 5) B (lh_nck hk (by decide)) rfl ix_2 rfl (by decide) wd_224 rfl rfl dX2_copyFrom_38 ?_
  refine la_callVv (i := 5) B (ct_X6_copyFrom_h (gX0_copyFrom_h (gX5_copyFrom_h (gX4_copyFrom_h h))) hk) lk_X2_72 (by decide) (lh_nc_lt (by decide)) rfl rfl rfl (by simp [Value.category]) dX2_copyFrom_41 ?_
  refine la_aload_n (i := 0) B dX2_copyFrom_44 rfl rfl ?_
  refine la_get (i := 1) (ci := 2) (j := 4) (C := RX2) (T := TX2) (N := 5) B (lh_nc_lt (by decide)) rfl ix_2 rfl (by decide) wd_227 rfl rfl dX2_copyFrom_45 ?_
  refine la_aload_n (i := 1) B dX2_copyFrom_48 rfl rfl ?_
  refine la_get (i := 50) (ci := 2) (j := 4) (C := RX2) (T := TX2) (N := 5) B (lh_nck hk (by decide)) rfl ix_2 rfl (by decide) wd_227 rfl rfl dX2_copyFrom_49 ?_
  refine la_callVv (i := 6) B (ct_X7_copyFrom_h (gX6_copyFrom_h (gX0_copyFrom_h (gX5_copyFrom_h (gX4_copyFrom_h h)))) hk) lk_X2_75 (by decide) (lh_nc_lt (by decide)) rfl rfl rfl (by simp [Value.category]) dX2_copyFrom_52 ?_
  exact la_return B rfl (by simp only [gX2_copyFrom_h]) dX2_copyFrom_55

def gX2_copyFrom_k (h : lh_HS)  : lh_HS := gX7_copyFrom_k (gX6_copyFrom_k (gX0_copyFrom_k (gX5_copyFrom_k (gX4_copyFrom_k h))))
set_option maxHeartbeats 4000000 in
set_option maxRecDepth 100000 in
theorem ct_X2_copyFrom_k {l : Launch} {D : va_G} {ad : Nat → Nat} {bs : Nat} {cI cZ : ClassId} {t9 : Nat} {k : Bool} (h : lh_HS)  (hk : k = true) (hz : ∀ j, j < 30 → h 20 j = 0 ∨ h 20 j = 1) : lh_CTv l D ad bs cI cZ t9 k yX2_copyFrom cX2_copyFrom 2 3 [.ref (ad 50), .ref (ad 1)] h (gX2_copyFrom_k h ) := by
  refine lh_ofv (lv := [(0, .ref (ad 50)), (1, .ref (ad 1))]) (by decide) (Nat.le_of_ble_eq_true rfl) rfl (by simp [Value.category]) ⟨rfl, rfl, trivial⟩ ?_
  intro p e s m args below meth c B
  have B : lh_BK p (lh_rm 3) s m args meth c D ad bs cI cZ t9 k "LightHours$House" cX2_copyFrom 2 none := B
  refine la_aload_n (i := 0) B dX2_copyFrom_0 rfl rfl ?_
  refine la_get (i := 50) (ci := 2) (j := 0) (C := RX2) (T := TX2) (N := 5) B (lh_nck hk (by decide)) rfl ix_2 rfl (by decide) wd_213 rfl rfl dX2_copyFrom_1 ?_
  refine la_aload_n (i := 1) B dX2_copyFrom_4 rfl rfl ?_
  refine la_get (i := 1) (ci := 2) (j := 0) (C := RX2) (T := TX2) (N := 5) B (lh_nc_lt (by decide)) rfl ix_2 rfl (by decide) wd_213 rfl rfl dX2_copyFrom_5 ?_
  refine la_callVv (i := 51) B (ct_X4_copyFrom_k h hk) lk_X2_62 (by decide) (lh_nck hk (by decide)) rfl rfl rfl (by simp [Value.category]) dX2_copyFrom_8 ?_
  refine la_aload_n (i := 0) B dX2_copyFrom_11 rfl rfl ?_
  refine la_get (i := 50) (ci := 2) (j := 1) (C := RX2) (T := TX2) (N := 5) B (lh_nck hk (by decide)) rfl ix_2 rfl (by decide) wd_216 rfl rfl dX2_copyFrom_12 ?_
  refine la_aload_n (i := 1) B dX2_copyFrom_15 rfl rfl ?_
  refine la_get (i := 1) (ci := 2) (j := 1) (C := RX2) (T := TX2) (N := 5) B (lh_nc_lt (by decide)) rfl ix_2 rfl (by decide) wd_216 rfl rfl dX2_copyFrom_16 ?_
  refine la_callVv (i := 52) B (ct_X5_copyFrom_k (gX4_copyFrom_k h) hk) lk_X2_66 (by decide) (lh_nck hk (by decide)) rfl rfl rfl (by simp [Value.category]) dX2_copyFrom_19 ?_
  refine la_aload_n (i := 0) B dX2_copyFrom_22 rfl rfl ?_
  refine la_get (i := 50) (ci := 2) (j := 2) (C := RX2) (T := TX2) (N := 5) B (lh_nck hk (by decide)) rfl ix_2 rfl (by decide) wd_220 rfl rfl dX2_copyFrom_23 ?_
  refine la_aload_n (i := 1) B dX2_copyFrom_26 rfl rfl ?_
  refine la_get (i := 1) (ci := 2) (j := 2) (C := RX2) (T := TX2) (N := 5) B (lh_nc_lt (by decide)) rfl ix_2 rfl (by decide) wd_220 rfl rfl dX2_copyFrom_27 ?_
  refine la_callVv (i := 53) B (ct_X0_copyFrom_k (gX5_copyFrom_k (gX4_copyFrom_k h)) hk (fun j hj => hz j hj)) lk_X2_69 (by decide) (lh_nck hk (by decide)) rfl rfl rfl (by simp [Value.category]) dX2_copyFrom_30 ?_
  refine la_aload_n (i := 0) B dX2_copyFrom_33 rfl rfl ?_
  refine la_get (i := 50) (ci := 2) (j := 3) (C := RX2) (T := TX2) (N := 5) B (lh_nck hk (by decide)) rfl ix_2 rfl (by decide) wd_224 rfl rfl dX2_copyFrom_34 ?_
  refine la_aload_n (i := 1) B dX2_copyFrom_37 rfl rfl ?_
  refine la_get (i := 1) (ci := 2) (j := 3) (C := RX2) (T := TX2) (N := 5) B (lh_nc_lt (by decide)) rfl ix_2 rfl (by decide) wd_224 rfl rfl dX2_copyFrom_38 ?_
  refine la_callVv (i := 54) B (ct_X6_copyFrom_k (gX0_copyFrom_k (gX5_copyFrom_k (gX4_copyFrom_k h))) hk) lk_X2_72 (by decide) (lh_nck hk (by decide)) rfl rfl rfl (by simp [Value.category]) dX2_copyFrom_41 ?_
  refine la_aload_n (i := 0) B dX2_copyFrom_44 rfl rfl ?_
  refine la_get (i := 50) (ci := 2) (j := 4) (C := RX2) (T := TX2) (N := 5) B (lh_nck hk (by decide)) rfl ix_2 rfl (by decide) wd_227 rfl rfl dX2_copyFrom_45 ?_
  refine la_aload_n (i := 1) B dX2_copyFrom_48 rfl rfl ?_
  refine la_get (i := 1) (ci := 2) (j := 4) (C := RX2) (T := TX2) (N := 5) B (lh_nc_lt (by decide)) rfl ix_2 rfl (by decide) wd_227 rfl rfl dX2_copyFrom_49 ?_
  refine la_callVv (i := 55) B (ct_X7_copyFrom_k (gX6_copyFrom_k (gX0_copyFrom_k (gX5_copyFrom_k (gX4_copyFrom_k h)))) hk) lk_X2_75 (by decide) (lh_nck hk (by decide)) rfl rfl rfl (by simp [Value.category]) dX2_copyFrom_52 ?_
  exact la_return B rfl (by simp only [gX2_copyFrom_k]) dX2_copyFrom_55
