def LX8_stepOfAmount (h : lh_HS) (am : Int32) : Nat → Int32
  | 0 => nI 0
  | n + 1 => (if (lh_T (nI (n + 1)).toNatClampNeg) ≤ am then nI (n + 1) else (LX8_stepOfAmount h am n))
set_option maxHeartbeats 4000000 in
set_option maxRecDepth 100000 in
theorem lp_X8_stepOfAmount {l : Launch} {D : va_G} {ad : Nat → Nat} {bs : Nat} {cI cZ : ClassId} {t9 : Nat} {k : Bool} {p : Program} {e : Env} {s : State} {m : MethodId} {args : Array Value} {below : List Frame} {meth : Method} {c : Code} (h : lh_HS) (am : Int32) {r : Int32} (B : lh_BK p (lh_rm 0) s m args meth c D ad bs cI cZ t9 k "LightHours" cX8_stepOfAmount 2 (some .int))  :
    ∀ (n : Nat), r = LX8_stepOfAmount h am n → n ≤ 7 → lh_AJ p l e (lh_rm 0) s m args below meth c D ad bs cI cZ k 2 (MQ below (lh_Qi D ad bs cI cZ k r h) args s 0 0 (lh_A bs)) 3 [(0, .int am), (1, .int (nI n))] [] h := by
  intro n
  induction n with
  | zero =>
    intro hr hv
    refine la_iload_n (i := 1) B dX8_stepOfAmount_3 rfl rfl ?_
    refine la_if_le (tgt := 22) B dX8_stepOfAmount_4 (by decide) (fun c4 => ?_) (fun c4 => ?_)
    · refine la_iload_n (i := 1) B dX8_stepOfAmount_22 rfl rfl ?_
      exact la_ireturn B rfl (by rw [hr]; simp only [LX8_stepOfAmount]) rfl dX8_stepOfAmount_23
    · exact absurd (show nI 0 ≤ 0 from by decide) c4
  | succ n ih =>
    intro hr hv
    have hb : vp_in (nI (n + 1)) 9 := vp_in_nI (by omega) (by omega)
    refine la_iload_n (i := 1) B dX8_stepOfAmount_3 rfl rfl ?_
    refine la_if_le (tgt := 22) B dX8_stepOfAmount_4 (by decide) (fun c4 => ?_) (fun c4 => ?_)
    · exact absurd c4 (nI_nle (by omega) (by omega))
    · refine la_iload_n (i := 0) B dX8_stepOfAmount_7 rfl rfl ?_
      refine la_gets B wd_523 dX8_stepOfAmount_8 ?_
      refine la_iload_n (i := 1) B dX8_stepOfAmount_11 rfl rfl ?_
      refine la_ti B hb dX8_stepOfAmount_12 ?_
      refine la_icmp_ge (tgt := 22) B dX8_stepOfAmount_13 (by decide) (fun c13 => ?_) (fun c13 => ?_)
      · refine la_iload_n (i := 1) B dX8_stepOfAmount_22 rfl rfl ?_
        exact la_ireturn B rfl (by rw [hr]; simp only [LX8_stepOfAmount, if_pos c13]) rfl dX8_stepOfAmount_23
      · refine la_iincm B dX8_stepOfAmount_16 rfl (by decide) ?_
        refine la_goto (tgt := 3) B dX8_stepOfAmount_19 (by decide) ?_
        refine la_sub (lv2 := [(0, .int am), (1, .int (nI n))]) ⟨rfl, (congrArg (fun z => some (Value.int z)) (pk_m1 n)), trivial⟩ (by simp [Value.category]) ?_
        exact ih (by rw [hr]; simp only [LX8_stepOfAmount, if_neg c13]) (by omega)

def fX8_stepOfAmount (h : lh_HS) (am : Int32) : Int32 := (LX8_stepOfAmount h am 7)
set_option maxHeartbeats 4000000 in
set_option maxRecDepth 100000 in
theorem ct_X8_stepOfAmount {l : Launch} {D : va_G} {ad : Nat → Nat} {bs : Nat} {cI cZ : ClassId} {t9 : Nat} {k : Bool} (h : lh_HS) (am : Int32)  : lh_CTi l D ad bs cI cZ t9 k yX8_stepOfAmount cX8_stepOfAmount 2 (some .int) 0 [.int am] h (fX8_stepOfAmount h am) h := by
  refine lh_ofi (lv := [(0, .int am)]) (by decide) (Nat.le_of_ble_eq_true rfl) rfl (by simp [Value.category]) ⟨rfl, trivial⟩ ?_
  intro p e s m args below meth c B
  have B : lh_BK p (lh_rm 0) s m args meth c D ad bs cI cZ t9 k "LightHours" cX8_stepOfAmount 2 (some .int) := B
  refine la_bipush (v := 7) B dX8_stepOfAmount_0 (by decide) ?_
  refine la_istore_n (i := 1) B dX8_stepOfAmount_2 rfl (by decide) ?_
  refine la_sub (lv2 := [(0, .int am), (1, .int (nI 7))]) ⟨rfl, rfl, trivial⟩ (by simp [Value.category]) ?_
  exact lp_X8_stepOfAmount h am B _ (by simp only [fX8_stepOfAmount]) (Nat.le_refl 7)

theorem sn_nar : ∀ (n i : Nat) (le gr : Int32) (h : lh_HS), LX3_nar_h n i le gr h 27 1 = h 27 1 := by
  intro n
  induction n with
  | zero =>
    intro i le gr h
    simp only [LX3_nar_h]
    split <;> simp only [lh_up_ne (show (27 : Nat) ≠ 27 ∨ (1 : Nat) ≠ 2 from Or.inr (by decide)), lh_up_ne (show (27 : Nat) ≠ 27 ∨ (1 : Nat) ≠ 3 from Or.inr (by decide)), lh_up_ne (show (27 : Nat) ≠ 27 ∨ (1 : Nat) ≠ 4 from Or.inr (by decide))]
  | succ n ih =>
    intro i le gr h
    simp only [LX3_nar_h]
    split <;> exact ih _ _ _ _
theorem sn_openAt (h : lh_HS) (x : Int32) : gX3_openAt h x 27 1 = x := by
  unfold gX3_openAt gX3_narrowPast
  rw [sn_nar, fr_sumSpends _ 27 (by decide) (by decide), lh_up_eq]
theorem lh_open8 {h : lh_HS} (I : lh_I h) {x : Int32} (hs : lh_ix x (lh_N h 3)) : vp_in (gX3_openAt h x 27 1) 8 := by
  rw [sn_openAt]
  exact hs.vp I.1.2.1.2 (by omega)
def LX3_countQuarrels  : Nat → Nat → Int32 → lh_HS → Int32
  | 0, i, acc, h => acc
  | n + 1, i, acc, h => (if ((gX3_openAt h (nI i)) 27 2) = 0 then (LX3_countQuarrels n (i + 1) acc (gX3_openAt h (nI i))) else (LX3_countQuarrels n (i + 1) (acc + 1) (gX3_openAt h (nI i))))
def LX3_countQuarrels_h  : Nat → Nat → Int32 → lh_HS → lh_HS
  | 0, i, acc, h => h
  | n + 1, i, acc, h => (if ((gX3_openAt h (nI i)) 27 2) = 0 then (LX3_countQuarrels_h n (i + 1) acc (gX3_openAt h (nI i))) else (LX3_countQuarrels_h n (i + 1) (acc + 1) (gX3_openAt h (nI i))))
set_option maxHeartbeats 4000000 in
set_option maxRecDepth 100000 in
theorem lp_X3_countQuarrels {l : Launch} {D : va_G} {ad : Nat → Nat} {bs : Nat} {cI cZ : ClassId} {t9 : Nat} {k : Bool} {p : Program} {e : Env} {s : State} {m : MethodId} {args : Array Value} {below : List Frame} {meth : Method} {c : Code}  {r : Int32} {h2 : lh_HS} (B : lh_BK p (lh_rm 4) s m args meth c D ad bs cI cZ t9 k "LightHours$Ledger" cX3_countQuarrels 3 (some .int)) {h0 : lh_HS} (I0 : lh_I h0) {N : Nat} (hN0 : N = lh_N h0 3) :
    ∀ (n i : Nat) (acc : Int32) (h : lh_HS), i + n = N → r = LX3_countQuarrels n i acc h → h2 = LX3_countQuarrels_h n i acc h → lh_fr h0 h → lh_AJ p l e (lh_rm 4) s m args below meth c D ad bs cI cZ k 3 (MQ below (lh_Qi D ad bs cI cZ k r h2) args s 0 0 (lh_A bs)) 4 [(0, .ref (ad 27)), (1, .int acc), (2, .int (nI i))] [] h := by
  intro n
  induction n with
  | zero =>
    intro i acc h hi hr hh hv
    have hM := I0.1.2.1.2
    have hN : h 3 0 = nI N := by rw [hv 3 (by decide) (by decide), hN0]; exact I0.1.2.1.1
    have hexit : h 3 0 ≤ nI i := by rw [hN]; exact nI_le (by omega) (by omega)
    refine la_iload_n (i := 2) B dX3_countQuarrels_4 rfl rfl ?_
    refine la_aload_n (i := 0) B dX3_countQuarrels_5 rfl rfl ?_
    refine la_get (i := 27) (ci := 3) (j := 0) (C := RX3) (T := TX3) (N := 7) B (lh_nc_lt (by decide)) rfl ix_3 rfl (by decide) wd_247 rfl rfl dX3_countQuarrels_6 ?_
    refine la_get (i := 1) (ci := 2) (j := 1) (C := RX2) (T := TX2) (N := 5) B (lh_nc_lt (by decide)) rfl ix_2 rfl (by decide) wd_217 rfl rfl dX3_countQuarrels_9 ?_
    refine la_get (i := 3) (ci := 5) (j := 0) (v := .int (h 3 0)) (C := RX5) (T := TX5) (N := 8) B (lh_nc_lt (by decide)) rfl ix_5 rfl (by decide) wd_89 rfl rfl dX3_countQuarrels_12 ?_
    refine la_icmp_ge (tgt := 38) B dX3_countQuarrels_15 (by decide) (fun c15 => ?_) (fun c15 => ?_)
    · refine la_iload_n (i := 1) B dX3_countQuarrels_38 rfl rfl ?_
      exact la_ireturn B rfl (by rw [hr]; simp only [LX3_countQuarrels]) (by rw [hh]; simp only [LX3_countQuarrels_h]) dX3_countQuarrels_39
    · exact absurd hexit c15
  | succ n ih =>
    intro i acc h hi hr hh hv
    have hM := I0.1.2.1.2
    have hN : h 3 0 = nI N := by rw [hv 3 (by decide) (by decide), hN0]; exact I0.1.2.1.1
    have hcont : ¬ h 3 0 ≤ nI i := by rw [hN]; exact nI_ge (by omega) (by omega)
    have hs : lh_ix (nI i) (lh_N h 3) := lh_ix_nI (by rw [hv.N (by decide) (by decide)]; omega)
    refine la_iload_n (i := 2) B dX3_countQuarrels_4 rfl rfl ?_
    refine la_aload_n (i := 0) B dX3_countQuarrels_5 rfl rfl ?_
    refine la_get (i := 27) (ci := 3) (j := 0) (C := RX3) (T := TX3) (N := 7) B (lh_nc_lt (by decide)) rfl ix_3 rfl (by decide) wd_247 rfl rfl dX3_countQuarrels_6 ?_
    refine la_get (i := 1) (ci := 2) (j := 1) (C := RX2) (T := TX2) (N := 5) B (lh_nc_lt (by decide)) rfl ix_2 rfl (by decide) wd_217 rfl rfl dX3_countQuarrels_9 ?_
    refine la_get (i := 3) (ci := 5) (j := 0) (v := .int (h 3 0)) (C := RX5) (T := TX5) (N := 8) B (lh_nc_lt (by decide)) rfl ix_5 rfl (by decide) wd_89 rfl rfl dX3_countQuarrels_12 ?_
    refine la_icmp_ge (tgt := 38) B dX3_countQuarrels_15 (by decide) (fun c15 => ?_) (fun c15 => ?_)
    · exact absurd c15 hcont
    · refine la_aload_n (i := 0) B dX3_countQuarrels_18 rfl rfl ?_
      refine la_iload_n (i := 2) B dX3_countQuarrels_19 rfl rfl ?_
      refine la_callVr (i := 27) B (ct_X3_openAt h (nI i) (I0.fr hv) hs) lk_X3_108 (by decide) (lh_nc_lt (by decide)) rfl rfl rfl (by simp [Value.category]) dX3_countQuarrels_20 ?_
      refine la_get (i := 27) (ci := 3) (j := 2) (v := .int ((gX3_openAt h (nI i)) 27 2)) (C := RX3) (T := TX3) (N := 7) B (lh_nc_lt (by decide)) rfl ix_3 rfl (by decide) wd_249 rfl rfl dX3_countQuarrels_23 ?_
      refine la_if_eq (tgt := 32) B dX3_countQuarrels_26 (by decide) (fun c26 => ?_) (fun c26 => ?_)
      · refine la_iincp B dX3_countQuarrels_32 rfl (by decide) ?_
        refine la_goto (tgt := 4) B dX3_countQuarrels_35 (by decide) ?_
        refine la_sub (lv2 := [(0, .ref (ad 27)), (1, .int acc), (2, .int (nI (i + 1)))]) ⟨rfl, rfl, (congrArg (fun z => some (Value.int z)) (nI_1 i)), trivial⟩ (by simp [Value.category]) ?_
        exact ih (i + 1) acc (gX3_openAt h (nI i)) (by omega) (by rw [hr]; simp only [LX3_countQuarrels, if_pos c26]) (by rw [hh]; simp only [LX3_countQuarrels_h, if_pos c26]) (lh_openfr hv _)
      · refine la_iincp B dX3_countQuarrels_29 rfl (by decide) ?_
        refine la_iincp B dX3_countQuarrels_32 rfl (by decide) ?_
        refine la_goto (tgt := 4) B dX3_countQuarrels_35 (by decide) ?_
        refine la_sub (lv2 := [(0, .ref (ad 27)), (1, .int ((acc + 1))), (2, .int (nI (i + 1)))]) ⟨rfl, rfl, (congrArg (fun z => some (Value.int z)) (nI_1 i)), trivial⟩ (by simp [Value.category]) ?_
        exact ih (i + 1) (acc + 1) (gX3_openAt h (nI i)) (by omega) (by rw [hr]; simp only [LX3_countQuarrels, if_neg c26]) (by rw [hh]; simp only [LX3_countQuarrels_h, if_neg c26]) (lh_openfr hv _)

def fX3_countQuarrels (h : lh_HS)  : Int32 := (LX3_countQuarrels (lh_N h 3) 0 0 h)
def gX3_countQuarrels (h : lh_HS)  : lh_HS := (LX3_countQuarrels_h (lh_N h 3) 0 0 h)
set_option maxHeartbeats 4000000 in
set_option maxRecDepth 100000 in
theorem ct_X3_countQuarrels {l : Launch} {D : va_G} {ad : Nat → Nat} {bs : Nat} {cI cZ : ClassId} {t9 : Nat} {k : Bool} (h : lh_HS)  (I : lh_I h) : lh_CTi l D ad bs cI cZ t9 k yX3_countQuarrels cX3_countQuarrels 3 (some .int) 4 [.ref (ad 27)] h (fX3_countQuarrels h ) (gX3_countQuarrels h ) := by
  refine lh_ofi (lv := [(0, .ref (ad 27))]) (by decide) (Nat.le_of_ble_eq_true rfl) rfl (by simp [Value.category]) ⟨rfl, trivial⟩ ?_
  intro p e s m args below meth c B
  have B : lh_BK p (lh_rm 4) s m args meth c D ad bs cI cZ t9 k "LightHours$Ledger" cX3_countQuarrels 3 (some .int) := B
  refine la_iconst (v := 0) B dX3_countQuarrels_0 (by decide) ?_
  refine la_istore_n (i := 1) B dX3_countQuarrels_1 rfl (by decide) ?_
  refine la_iconst (v := 0) B dX3_countQuarrels_2 (by decide) ?_
  refine la_istore_n (i := 2) B dX3_countQuarrels_3 rfl (by decide) ?_
  refine la_sub (lv2 := [(0, .ref (ad 27)), (1, .int 0), (2, .int (nI 0))]) ⟨rfl, rfl, rfl, trivial⟩ (by simp [Value.category]) ?_
  exact lp_X3_countQuarrels B I rfl _ 0 0 h (Nat.zero_add _) (by simp only [fX3_countQuarrels]) (by simp only [gX3_countQuarrels]) (lh_fr.rf h)

theorem fr_LcountQuarrels {h0 : lh_HS} : ∀ (n i : Nat) (acc : Int32) (h : lh_HS), lh_fr h0 h → lh_fr h0 (LX3_countQuarrels_h n i acc h) := by
  intro n
  induction n with
  | zero => intro i acc h f; exact f
  | succ n ih =>
    intro i acc h f
    simp only [LX3_countQuarrels_h]
    split <;> exact ih _ _ _ (lh_openfr f _)
def LX3_countOverspent  : Nat → Nat → Int32 → lh_HS → Int32
  | 0, i, acc, h => acc
  | n + 1, i, acc, h => (if 0 ≤ (fX3_leftEnd (gX3_openAt h (nI i)) 0) then (LX3_countOverspent n (i + 1) acc (gX3_openAt h (nI i))) else (LX3_countOverspent n (i + 1) (acc + 1) (gX3_openAt h (nI i))))
def LX3_countOverspent_h  : Nat → Nat → Int32 → lh_HS → lh_HS
  | 0, i, acc, h => h
  | n + 1, i, acc, h => (if 0 ≤ (fX3_leftEnd (gX3_openAt h (nI i)) 0) then (LX3_countOverspent_h n (i + 1) acc (gX3_openAt h (nI i))) else (LX3_countOverspent_h n (i + 1) (acc + 1) (gX3_openAt h (nI i))))
set_option maxHeartbeats 4000000 in
set_option maxRecDepth 100000 in
theorem lp_X3_countOverspent {l : Launch} {D : va_G} {ad : Nat → Nat} {bs : Nat} {cI cZ : ClassId} {t9 : Nat} {k : Bool} {p : Program} {e : Env} {s : State} {m : MethodId} {args : Array Value} {below : List Frame} {meth : Method} {c : Code}  {r : Int32} {h2 : lh_HS} (B : lh_BK p (lh_rm 4) s m args meth c D ad bs cI cZ t9 k "LightHours$Ledger" cX3_countOverspent 3 (some .int)) {h0 : lh_HS} (I0 : lh_I h0) {N : Nat} (hN0 : N = lh_N h0 3) :
    ∀ (n i : Nat) (acc : Int32) (h : lh_HS), i + n = N → r = LX3_countOverspent n i acc h → h2 = LX3_countOverspent_h n i acc h → lh_fr h0 h → lh_AJ p l e (lh_rm 4) s m args below meth c D ad bs cI cZ k 3 (MQ below (lh_Qi D ad bs cI cZ k r h2) args s 0 0 (lh_A bs)) 4 [(0, .ref (ad 27)), (1, .int acc), (2, .int (nI i))] [] h := by
  intro n
  induction n with
  | zero =>
    intro i acc h hi hr hh hv
    have hM := I0.1.2.1.2
    have hN : h 3 0 = nI N := by rw [hv 3 (by decide) (by decide), hN0]; exact I0.1.2.1.1
    have hexit : h 3 0 ≤ nI i := by rw [hN]; exact nI_le (by omega) (by omega)
    refine la_iload_n (i := 2) B dX3_countOverspent_4 rfl rfl ?_
    refine la_aload_n (i := 0) B dX3_countOverspent_5 rfl rfl ?_
    refine la_get (i := 27) (ci := 3) (j := 0) (C := RX3) (T := TX3) (N := 7) B (lh_nc_lt (by decide)) rfl ix_3 rfl (by decide) wd_247 rfl rfl dX3_countOverspent_6 ?_
    refine la_get (i := 1) (ci := 2) (j := 1) (C := RX2) (T := TX2) (N := 5) B (lh_nc_lt (by decide)) rfl ix_2 rfl (by decide) wd_217 rfl rfl dX3_countOverspent_9 ?_
    refine la_get (i := 3) (ci := 5) (j := 0) (v := .int (h 3 0)) (C := RX5) (T := TX5) (N := 8) B (lh_nc_lt (by decide)) rfl ix_5 rfl (by decide) wd_89 rfl rfl dX3_countOverspent_12 ?_
    refine la_icmp_ge (tgt := 39) B dX3_countOverspent_15 (by decide) (fun c15 => ?_) (fun c15 => ?_)
    · refine la_iload_n (i := 1) B dX3_countOverspent_39 rfl rfl ?_
      exact la_ireturn B rfl (by rw [hr]; simp only [LX3_countOverspent]) (by rw [hh]; simp only [LX3_countOverspent_h]) dX3_countOverspent_40
    · exact absurd hexit c15
  | succ n ih =>
    intro i acc h hi hr hh hv
    have hM := I0.1.2.1.2
    have hN : h 3 0 = nI N := by rw [hv 3 (by decide) (by decide), hN0]; exact I0.1.2.1.1
    have hcont : ¬ h 3 0 ≤ nI i := by rw [hN]; exact nI_ge (by omega) (by omega)
    have hs : lh_ix (nI i) (lh_N h 3) := lh_ix_nI (by rw [hv.N (by decide) (by decide)]; omega)
    refine la_iload_n (i := 2) B dX3_countOverspent_4 rfl rfl ?_
    refine la_aload_n (i := 0) B dX3_countOverspent_5 rfl rfl ?_
    refine la_get (i := 27) (ci := 3) (j := 0) (C := RX3) (T := TX3) (N := 7) B (lh_nc_lt (by decide)) rfl ix_3 rfl (by decide) wd_247 rfl rfl dX3_countOverspent_6 ?_
    refine la_get (i := 1) (ci := 2) (j := 1) (C := RX2) (T := TX2) (N := 5) B (lh_nc_lt (by decide)) rfl ix_2 rfl (by decide) wd_217 rfl rfl dX3_countOverspent_9 ?_
    refine la_get (i := 3) (ci := 5) (j := 0) (v := .int (h 3 0)) (C := RX5) (T := TX5) (N := 8) B (lh_nc_lt (by decide)) rfl ix_5 rfl (by decide) wd_89 rfl rfl dX3_countOverspent_12 ?_
    refine la_icmp_ge (tgt := 39) B dX3_countOverspent_15 (by decide) (fun c15 => ?_) (fun c15 => ?_)
    · exact absurd c15 hcont
    · refine la_aload_n (i := 0) B dX3_countOverspent_18 rfl rfl ?_
      refine la_iload_n (i := 2) B dX3_countOverspent_19 rfl rfl ?_
      refine la_callVr (i := 27) B (ct_X3_openAt h (nI i) (I0.fr hv) hs) lk_X3_108 (by decide) (lh_nc_lt (by decide)) rfl rfl rfl (by simp [Value.category]) dX3_countOverspent_20 ?_
      refine la_iconst (v := 0) B dX3_countOverspent_23 (by decide) ?_
      refine la_callVi (i := 27) B (ct_X3_leftEnd (gX3_openAt h (nI i)) 0 (lh_open8 (I0.fr hv) hs)) lk_X3_112 (by decide) (lh_nc_lt (by decide)) rfl rfl rfl (by simp [Value.category]) dX3_countOverspent_24 ?_
      refine la_if_ge (tgt := 33) B dX3_countOverspent_27 (by decide) (fun c27 => ?_) (fun c27 => ?_)
      · refine la_iincp B dX3_countOverspent_33 rfl (by decide) ?_
        refine la_goto (tgt := 4) B dX3_countOverspent_36 (by decide) ?_
        refine la_sub (lv2 := [(0, .ref (ad 27)), (1, .int acc), (2, .int (nI (i + 1)))]) ⟨rfl, rfl, (congrArg (fun z => some (Value.int z)) (nI_1 i)), trivial⟩ (by simp [Value.category]) ?_
        exact ih (i + 1) acc (gX3_openAt h (nI i)) (by omega) (by rw [hr]; simp only [LX3_countOverspent, if_pos c27]) (by rw [hh]; simp only [LX3_countOverspent_h, if_pos c27]) (lh_openfr hv _)
      · refine la_iincp B dX3_countOverspent_30 rfl (by decide) ?_
        refine la_iincp B dX3_countOverspent_33 rfl (by decide) ?_
        refine la_goto (tgt := 4) B dX3_countOverspent_36 (by decide) ?_
        refine la_sub (lv2 := [(0, .ref (ad 27)), (1, .int ((acc + 1))), (2, .int (nI (i + 1)))]) ⟨rfl, rfl, (congrArg (fun z => some (Value.int z)) (nI_1 i)), trivial⟩ (by simp [Value.category]) ?_
        exact ih (i + 1) (acc + 1) (gX3_openAt h (nI i)) (by omega) (by rw [hr]; simp only [LX3_countOverspent, if_neg c27]) (by rw [hh]; simp only [LX3_countOverspent_h, if_neg c27]) (lh_openfr hv _)

def fX3_countOverspent (h : lh_HS)  : Int32 := (LX3_countOverspent (lh_N h 3) 0 0 h)
def gX3_countOverspent (h : lh_HS)  : lh_HS := (LX3_countOverspent_h (lh_N h 3) 0 0 h)
set_option maxHeartbeats 4000000 in
set_option maxRecDepth 100000 in
theorem ct_X3_countOverspent {l : Launch} {D : va_G} {ad : Nat → Nat} {bs : Nat} {cI cZ : ClassId} {t9 : Nat} {k : Bool} (h : lh_HS)  (I : lh_I h) : lh_CTi l D ad bs cI cZ t9 k yX3_countOverspent cX3_countOverspent 3 (some .int) 4 [.ref (ad 27)] h (fX3_countOverspent h ) (gX3_countOverspent h ) := by
  refine lh_ofi (lv := [(0, .ref (ad 27))]) (by decide) (Nat.le_of_ble_eq_true rfl) rfl (by simp [Value.category]) ⟨rfl, trivial⟩ ?_
  intro p e s m args below meth c B
  have B : lh_BK p (lh_rm 4) s m args meth c D ad bs cI cZ t9 k "LightHours$Ledger" cX3_countOverspent 3 (some .int) := B
  refine la_iconst (v := 0) B dX3_countOverspent_0 (by decide) ?_
  refine la_istore_n (i := 1) B dX3_countOverspent_1 rfl (by decide) ?_
  refine la_iconst (v := 0) B dX3_countOverspent_2 (by decide) ?_
  refine la_istore_n (i := 2) B dX3_countOverspent_3 rfl (by decide) ?_
  refine la_sub (lv2 := [(0, .ref (ad 27)), (1, .int 0), (2, .int (nI 0))]) ⟨rfl, rfl, rfl, trivial⟩ (by simp [Value.category]) ?_
  exact lp_X3_countOverspent B I rfl _ 0 0 h (Nat.zero_add _) (by simp only [fX3_countOverspent]) (by simp only [gX3_countOverspent]) (lh_fr.rf h)

theorem fr_LcountOverspent {h0 : lh_HS} : ∀ (n i : Nat) (acc : Int32) (h : lh_HS), lh_fr h0 h → lh_fr h0 (LX3_countOverspent_h n i acc h) := by
  intro n
  induction n with
  | zero => intro i acc h f; exact f
  | succ n ih =>
    intro i acc h f
    simp only [LX3_countOverspent_h]
    split <;> exact ih _ _ _ (lh_openfr f _)
def fX1_shownTooNear (h : lh_HS) (sn : Int32) (yr : Int32) : Int32 := (if (fX0_shownWithin h sn yr (h 12 sn.toNatClampNeg)) = 0 then (if (h 13 sn.toNatClampNeg) = ((-4)) then 0 else (if (fX0_shownWithin h (h 13 sn.toNatClampNeg) yr 0) = 0 then 0 else 1)) else 1)
set_option maxHeartbeats 4000000 in
set_option maxRecDepth 100000 in
theorem ct_X1_shownTooNear {l : Launch} {D : va_G} {ad : Nat → Nat} {bs : Nat} {cI cZ : ClassId} {t9 : Nat} {k : Bool} (h : lh_HS) (sn : Int32) (yr : Int32) (I : lh_I h) (hs : lh_ix sn (lh_N h 3)) : lh_CTi l D ad bs cI cZ t9 k yX1_shownTooNear cX1_shownTooNear 4 (some .boolean) 2 [.ref (ad 30), .int sn, .int yr] h (fX1_shownTooNear h sn yr) h := by
  refine lh_ofi (lv := [(0, .ref (ad 30)), (1, .int sn), (2, .int yr)]) (by decide) (Nat.le_of_ble_eq_true rfl) rfl (by simp [Value.category]) ⟨rfl, rfl, rfl, trivial⟩ ?_
  intro p e s m args below meth c B
  have B : lh_BK p (lh_rm 2) s m args meth c D ad bs cI cZ t9 k "LightHours$Hanging" cX1_shownTooNear 4 (some .boolean) := B
  have hb : vp_in sn 8 := hs.vp I.1.2.1.2 (by omega)
  refine la_aload_n (i := 0) B dX1_shownTooNear_0 rfl rfl ?_
  refine la_get (i := 30) (ci := 1) (j := 0) (C := RX1) (T := TX1) (N := 10) B (lh_nc_lt (by decide)) rfl ix_1 rfl (by decide) wd_276 rfl rfl dX1_shownTooNear_1 ?_
  refine la_get (i := 1) (ci := 2) (j := 2) (C := RX2) (T := TX2) (N := 5) B (lh_nc_lt (by decide)) rfl ix_2 rfl (by decide) wd_222 rfl rfl dX1_shownTooNear_4 ?_
  refine la_iload_n (i := 1) B dX1_shownTooNear_7 rfl rfl ?_
  refine la_iload_n (i := 2) B dX1_shownTooNear_8 rfl rfl ?_
  refine la_aload_n (i := 0) B dX1_shownTooNear_9 rfl rfl ?_
  refine la_get (i := 30) (ci := 1) (j := 0) (C := RX1) (T := TX1) (N := 10) B (lh_nc_lt (by decide)) rfl ix_1 rfl (by decide) wd_276 rfl rfl dX1_shownTooNear_10 ?_
  refine la_get (i := 1) (ci := 2) (j := 1) (C := RX2) (T := TX2) (N := 5) B (lh_nc_lt (by decide)) rfl ix_2 rfl (by decide) wd_218 rfl rfl dX1_shownTooNear_13 ?_
  refine la_get (i := 3) (ci := 5) (j := 4) (C := RX5) (T := TX5) (N := 8) B (lh_nc_lt (by decide)) rfl ix_5 rfl (by decide) wd_99 rfl rfl dX1_shownTooNear_16 ?_
  refine la_iload_n (i := 1) B dX1_shownTooNear_19 rfl rfl ?_
  refine la_iald (i := 12) (v := h 12 sn.toNatClampNeg) B (lh_nc_lt (by decide)) rfl hb rfl dX1_shownTooNear_20 ?_
  refine la_callVi (i := 4) B (ct_X0_shownWithin h sn yr (h 12 sn.toNatClampNeg) I.1.2.2.1.1 I.1.2.2.1.2) lk_X1_118 (by decide) (lh_nc_lt (by decide)) rfl rfl rfl (by simp [Value.category]) dX1_shownTooNear_21 ?_
  refine la_if_eq (tgt := 29) B dX1_shownTooNear_24 (by decide) (fun c24 => ?_) (fun c24 => ?_)
  · refine la_aload_n (i := 0) B dX1_shownTooNear_29 rfl rfl ?_
    refine la_get (i := 30) (ci := 1) (j := 0) (C := RX1) (T := TX1) (N := 10) B (lh_nc_lt (by decide)) rfl ix_1 rfl (by decide) wd_276 rfl rfl dX1_shownTooNear_30 ?_
    refine la_get (i := 1) (ci := 2) (j := 1) (C := RX2) (T := TX2) (N := 5) B (lh_nc_lt (by decide)) rfl ix_2 rfl (by decide) wd_218 rfl rfl dX1_shownTooNear_33 ?_
    refine la_get (i := 3) (ci := 5) (j := 5) (C := RX5) (T := TX5) (N := 8) B (lh_nc_lt (by decide)) rfl ix_5 rfl (by decide) wd_103 rfl rfl dX1_shownTooNear_36 ?_
    refine la_iload_n (i := 1) B dX1_shownTooNear_39 rfl rfl ?_
    refine la_iald (i := 13) (v := h 13 sn.toNatClampNeg) B (lh_nc_lt (by decide)) rfl hb rfl dX1_shownTooNear_40 ?_
    refine la_istore_n (i := 3) B dX1_shownTooNear_41 rfl (by decide) ?_
    refine la_iload_n (i := 3) B dX1_shownTooNear_42 rfl rfl ?_
    refine la_bipush (v := -4) B dX1_shownTooNear_43 (by decide) ?_
    refine la_icmp_eq (tgt := 68) B dX1_shownTooNear_45 (by decide) (fun c45 => ?_) (fun c45 => ?_)
    · refine la_iconst (v := 0) B dX1_shownTooNear_68 (by decide) ?_
      exact la_zreturn B rfl (by simp only [fX1_shownTooNear, if_pos c24, if_pos c45]) rfl rfl dX1_shownTooNear_69
    · refine la_aload_n (i := 0) B dX1_shownTooNear_48 rfl rfl ?_
      refine la_get (i := 30) (ci := 1) (j := 0) (C := RX1) (T := TX1) (N := 10) B (lh_nc_lt (by decide)) rfl ix_1 rfl (by decide) wd_276 rfl rfl dX1_shownTooNear_49 ?_
      refine la_get (i := 1) (ci := 2) (j := 2) (C := RX2) (T := TX2) (N := 5) B (lh_nc_lt (by decide)) rfl ix_2 rfl (by decide) wd_222 rfl rfl dX1_shownTooNear_52 ?_
      refine la_iload_n (i := 3) B dX1_shownTooNear_55 rfl rfl ?_
      refine la_iload_n (i := 2) B dX1_shownTooNear_56 rfl rfl ?_
      refine la_iconst (v := 0) B dX1_shownTooNear_57 (by decide) ?_
      refine la_callVi (i := 4) B (ct_X0_shownWithin h (h 13 sn.toNatClampNeg) yr 0 I.1.2.2.1.1 I.1.2.2.1.2) lk_X1_118 (by decide) (lh_nc_lt (by decide)) rfl rfl rfl (by simp [Value.category]) dX1_shownTooNear_58 ?_
      refine la_if_eq (tgt := 68) B dX1_shownTooNear_61 (by decide) (fun c61 => ?_) (fun c61 => ?_)
      · refine la_iconst (v := 0) B dX1_shownTooNear_68 (by decide) ?_
        exact la_zreturn B rfl (by simp only [fX1_shownTooNear, if_pos c24, if_neg c45, if_pos c61]) rfl rfl dX1_shownTooNear_69
      · refine la_iconst (v := 1) B dX1_shownTooNear_64 (by decide) ?_
        refine la_goto (tgt := 69) B dX1_shownTooNear_65 (by decide) ?_
        exact la_zreturn B rfl (by simp only [fX1_shownTooNear, if_pos c24, if_neg c45, if_neg c61]) rfl rfl dX1_shownTooNear_69
  · refine la_iconst (v := 1) B dX1_shownTooNear_27 (by decide) ?_
    exact la_zreturn B rfl (by simp only [fX1_shownTooNear, if_neg c24]) rfl rfl dX1_shownTooNear_28

def LX1_sheetsFor (h : lh_HS) (wl : Int32) : Nat → Nat → Int32 → Int32
  | 0, i, acc => acc
  | n + 1, i, acc => (if (fX5_hasTheme h (nI i) (h 26 wl.toNatClampNeg)) = 0 then (LX1_sheetsFor h wl n (i + 1) acc) else (if (fX1_shownTooNear h (nI i) (h 25 wl.toNatClampNeg)) = 0 then (LX1_sheetsFor h wl n (i + 1) (acc ||| (1 <<< ((nI i) &&& 31)))) else (LX1_sheetsFor h wl n (i + 1) acc)))
set_option maxHeartbeats 4000000 in
set_option maxRecDepth 100000 in
theorem lp_X1_sheetsFor {l : Launch} {D : va_G} {ad : Nat → Nat} {bs : Nat} {cI cZ : ClassId} {t9 : Nat} {k : Bool} {p : Program} {e : Env} {s : State} {m : MethodId} {args : Array Value} {below : List Frame} {meth : Method} {c : Code} (h : lh_HS) (wl : Int32) {r : Int32} (B : lh_BK p (lh_rm 3) s m args meth c D ad bs cI cZ t9 k "LightHours$Hanging" cX1_sheetsFor 5 (some .int)) (I : lh_I h) (hw : vp_in wl 5) {N : Nat} (hN : h 3 0 = nI N) (hN0 : N = lh_N h 3) :
    ∀ (n i : Nat) (acc : Int32), i + n = N → r = LX1_sheetsFor h wl n i acc → lh_AJ p l e (lh_rm 3) s m args below meth c D ad bs cI cZ k 5 (MQ below (lh_Qi D ad bs cI cZ k r h) args s 0 0 (lh_A bs)) 4 [(0, .ref (ad 30)), (1, .int wl), (2, .int acc), (3, .int (nI i))] [] h := by
  intro n
  induction n with
  | zero =>
    intro i acc hi hr
    have hM := I.1.2.1.2
    have hexit : h 3 0 ≤ nI i := by rw [hN]; exact nI_le (by omega) (by omega)
    refine la_iload_n (i := 3) B dX1_sheetsFor_4 rfl rfl ?_
    refine la_aload_n (i := 0) B dX1_sheetsFor_5 rfl rfl ?_
    refine la_get (i := 30) (ci := 1) (j := 0) (C := RX1) (T := TX1) (N := 10) B (lh_nc_lt (by decide)) rfl ix_1 rfl (by decide) wd_276 rfl rfl dX1_sheetsFor_6 ?_
    refine la_get (i := 1) (ci := 2) (j := 1) (C := RX2) (T := TX2) (N := 5) B (lh_nc_lt (by decide)) rfl ix_2 rfl (by decide) wd_218 rfl rfl dX1_sheetsFor_9 ?_
    refine la_get (i := 3) (ci := 5) (j := 0) (v := .int (h 3 0)) (C := RX5) (T := TX5) (N := 8) B (lh_nc_lt (by decide)) rfl ix_5 rfl (by decide) wd_87 rfl rfl dX1_sheetsFor_12 ?_
    refine la_icmp_ge (tgt := 80) B dX1_sheetsFor_15 (by decide) (fun c15 => ?_) (fun c15 => ?_)
    · refine la_iload_n (i := 2) B dX1_sheetsFor_80 rfl rfl ?_
      exact la_ireturn B rfl (by rw [hr]; simp only [LX1_sheetsFor]) rfl dX1_sheetsFor_81
    · exact absurd hexit c15
  | succ n ih =>
    intro i acc hi hr
    have hM := I.1.2.1.2
    have hcont : ¬ h 3 0 ≤ nI i := by rw [hN]; exact nI_ge (by omega) (by omega)
    have hb : vp_in (nI i) 8 := vp_in_nI (by omega) (by omega)
    have hs : lh_ix (nI i) (lh_N h 3) := lh_ix_nI (by omega)
    refine la_iload_n (i := 3) B dX1_sheetsFor_4 rfl rfl ?_
    refine la_aload_n (i := 0) B dX1_sheetsFor_5 rfl rfl ?_
    refine la_get (i := 30) (ci := 1) (j := 0) (C := RX1) (T := TX1) (N := 10) B (lh_nc_lt (by decide)) rfl ix_1 rfl (by decide) wd_276 rfl rfl dX1_sheetsFor_6 ?_
    refine la_get (i := 1) (ci := 2) (j := 1) (C := RX2) (T := TX2) (N := 5) B (lh_nc_lt (by decide)) rfl ix_2 rfl (by decide) wd_218 rfl rfl dX1_sheetsFor_9 ?_
    refine la_get (i := 3) (ci := 5) (j := 0) (v := .int (h 3 0)) (C := RX5) (T := TX5) (N := 8) B (lh_nc_lt (by decide)) rfl ix_5 rfl (by decide) wd_87 rfl rfl dX1_sheetsFor_12 ?_
    refine la_icmp_ge (tgt := 80) B dX1_sheetsFor_15 (by decide) (fun c15 => ?_) (fun c15 => ?_)
    · exact absurd c15 hcont
    · refine la_aload_n (i := 0) B dX1_sheetsFor_18 rfl rfl ?_
      refine la_get (i := 30) (ci := 1) (j := 0) (C := RX1) (T := TX1) (N := 10) B (lh_nc_lt (by decide)) rfl ix_1 rfl (by decide) wd_276 rfl rfl dX1_sheetsFor_19 ?_
      refine la_get (i := 1) (ci := 2) (j := 1) (C := RX2) (T := TX2) (N := 5) B (lh_nc_lt (by decide)) rfl ix_2 rfl (by decide) wd_218 rfl rfl dX1_sheetsFor_22 ?_
      refine la_iload_n (i := 3) B dX1_sheetsFor_25 rfl rfl ?_
      refine la_aload_n (i := 0) B dX1_sheetsFor_26 rfl rfl ?_
      refine la_get (i := 30) (ci := 1) (j := 0) (C := RX1) (T := TX1) (N := 10) B (lh_nc_lt (by decide)) rfl ix_1 rfl (by decide) wd_276 rfl rfl dX1_sheetsFor_27 ?_
      refine la_get (i := 1) (ci := 2) (j := 4) (C := RX2) (T := TX2) (N := 5) B (lh_nc_lt (by decide)) rfl ix_2 rfl (by decide) wd_228 rfl rfl dX1_sheetsFor_30 ?_
      refine la_get (i := 6) (ci := 7) (j := 3) (C := RX7) (T := TX7) (N := 4) B (lh_nc_lt (by decide)) rfl ix_7 rfl (by decide) wd_203 rfl rfl dX1_sheetsFor_33 ?_
      refine la_iload_n (i := 1) B dX1_sheetsFor_36 rfl rfl ?_
      refine la_iald (i := 26) (v := h 26 wl.toNatClampNeg) B (lh_nc_lt (by decide)) rfl hw rfl dX1_sheetsFor_37 ?_
      refine la_callVi (i := 3) B (ct_X5_hasTheme h (nI i) (h 26 wl.toNatClampNeg) hb) lk_X1_104 (by decide) (lh_nc_lt (by decide)) rfl rfl rfl (by simp [Value.category]) dX1_sheetsFor_38 ?_
      refine la_istore B dX1_sheetsFor_41 (by decide) ?_
      refine la_iload B dX1_sheetsFor_43 rfl ?_
      refine la_if_eq (tgt := 74) B dX1_sheetsFor_45 (by decide) (fun c45 => ?_) (fun c45 => ?_)
      · refine la_iincp B dX1_sheetsFor_74 rfl (by decide) ?_
        refine la_goto (tgt := 4) B dX1_sheetsFor_77 (by decide) ?_
        refine la_sub (lv2 := [(0, .ref (ad 30)), (1, .int wl), (2, .int acc), (3, .int (nI (i + 1)))]) ⟨rfl, rfl, rfl, (congrArg (fun z => some (Value.int z)) (nI_1 i)), trivial⟩ (by simp [Value.category]) ?_
        exact ih (i + 1) acc (by omega) (by rw [hr]; simp only [LX1_sheetsFor, if_pos c45])
      · refine la_aload_n (i := 0) B dX1_sheetsFor_48 rfl rfl ?_
        refine la_iload_n (i := 3) B dX1_sheetsFor_49 rfl rfl ?_
        refine la_aload_n (i := 0) B dX1_sheetsFor_50 rfl rfl ?_
        refine la_get (i := 30) (ci := 1) (j := 0) (C := RX1) (T := TX1) (N := 10) B (lh_nc_lt (by decide)) rfl ix_1 rfl (by decide) wd_276 rfl rfl dX1_sheetsFor_51 ?_
        refine la_get (i := 1) (ci := 2) (j := 4) (C := RX2) (T := TX2) (N := 5) B (lh_nc_lt (by decide)) rfl ix_2 rfl (by decide) wd_228 rfl rfl dX1_sheetsFor_54 ?_
        refine la_get (i := 6) (ci := 7) (j := 2) (C := RX7) (T := TX7) (N := 4) B (lh_nc_lt (by decide)) rfl ix_7 rfl (by decide) wd_200 rfl rfl dX1_sheetsFor_57 ?_
        refine la_iload_n (i := 1) B dX1_sheetsFor_60 rfl rfl ?_
        refine la_iald (i := 25) (v := h 25 wl.toNatClampNeg) B (lh_nc_lt (by decide)) rfl hw rfl dX1_sheetsFor_61 ?_
        refine la_callVi (i := 30) B (ct_X1_shownTooNear h (nI i) (h 25 wl.toNatClampNeg) I hs) lk_X1_108 (by decide) (lh_nc_lt (by decide)) rfl rfl rfl (by simp [Value.category]) dX1_sheetsFor_62 ?_
        refine la_if_ne (tgt := 74) B dX1_sheetsFor_65 (by decide) (fun c65 => ?_) (fun c65 => ?_)
        · refine la_iincp B dX1_sheetsFor_74 rfl (by decide) ?_
          refine la_goto (tgt := 4) B dX1_sheetsFor_77 (by decide) ?_
          refine la_sub (lv2 := [(0, .ref (ad 30)), (1, .int wl), (2, .int acc), (3, .int (nI (i + 1)))]) ⟨rfl, rfl, rfl, (congrArg (fun z => some (Value.int z)) (nI_1 i)), trivial⟩ (by simp [Value.category]) ?_
          exact ih (i + 1) acc (by omega) (by rw [hr]; simp only [LX1_sheetsFor, if_neg c45, if_neg c65])
        · refine la_iload_n (i := 2) B dX1_sheetsFor_68 rfl rfl ?_
          refine la_iconst (v := 1) B dX1_sheetsFor_69 (by decide) ?_
          refine la_iload_n (i := 3) B dX1_sheetsFor_70 rfl rfl ?_
          refine la_ishl B dX1_sheetsFor_71 ?_
          refine la_ior B dX1_sheetsFor_72 ?_
          refine la_istore_n (i := 2) B dX1_sheetsFor_73 rfl (by decide) ?_
          refine la_iincp B dX1_sheetsFor_74 rfl (by decide) ?_
          refine la_goto (tgt := 4) B dX1_sheetsFor_77 (by decide) ?_
          refine la_sub (lv2 := [(0, .ref (ad 30)), (1, .int wl), (2, .int ((acc ||| (1 <<< ((nI i) &&& 31))))), (3, .int (nI (i + 1)))]) ⟨rfl, rfl, rfl, (congrArg (fun z => some (Value.int z)) (nI_1 i)), trivial⟩ (by simp [Value.category]) ?_
          exact ih (i + 1) (acc ||| (1 <<< ((nI i) &&& 31))) (by omega) (by rw [hr]; simp only [LX1_sheetsFor, if_neg c45, if_pos c65])

def fX1_sheetsFor (h : lh_HS) (wl : Int32) : Int32 := (LX1_sheetsFor h wl (lh_N h 3) 0 0)
set_option maxHeartbeats 4000000 in
set_option maxRecDepth 100000 in
theorem ct_X1_sheetsFor {l : Launch} {D : va_G} {ad : Nat → Nat} {bs : Nat} {cI cZ : ClassId} {t9 : Nat} {k : Bool} (h : lh_HS) (wl : Int32) (I : lh_I h) (hw : vp_in wl 5) : lh_CTi l D ad bs cI cZ t9 k yX1_sheetsFor cX1_sheetsFor 5 (some .int) 3 [.ref (ad 30), .int wl] h (fX1_sheetsFor h wl) h := by
  refine lh_ofi (lv := [(0, .ref (ad 30)), (1, .int wl)]) (by decide) (Nat.le_of_ble_eq_true rfl) rfl (by simp [Value.category]) ⟨rfl, rfl, trivial⟩ ?_
  intro p e s m args below meth c B
  have B : lh_BK p (lh_rm 3) s m args meth c D ad bs cI cZ t9 k "LightHours$Hanging" cX1_sheetsFor 5 (some .int) := B
  refine la_iconst (v := 0) B dX1_sheetsFor_0 (by decide) ?_
  refine la_istore_n (i := 2) B dX1_sheetsFor_1 rfl (by decide) ?_
  refine la_iconst (v := 0) B dX1_sheetsFor_2 (by decide) ?_
  refine la_istore_n (i := 3) B dX1_sheetsFor_3 rfl (by decide) ?_
  refine la_sub (lv2 := [(0, .ref (ad 30)), (1, .int wl), (2, .int 0), (3, .int (nI 0))]) ⟨rfl, rfl, rfl, rfl, trivial⟩ (by simp [Value.category]) ?_
  exact lp_X1_sheetsFor h wl B I hw I.1.2.1.1 rfl _ 0 0 (Nat.zero_add _) (by simp only [fX1_sheetsFor])

def LX1_prep2_h  : Nat → Nat → lh_HS → lh_HS
  | 0, i, h => h
  | n + 1, i, h => (LX1_prep2_h n (i + 1) (lh_up (lh_up (lh_up h 32 ((nI i).toNatClampNeg) (((-4)))) 34 ((nI i).toNatClampNeg) ((fX4_lightEnd (lh_up h 32 ((nI i).toNatClampNeg) (((-4)))) (h 24 (nI i).toNatClampNeg) (h 25 (nI i).toNatClampNeg) 1))) 33 ((nI i).toNatClampNeg) ((fX1_sheetsFor (lh_up (lh_up h 32 ((nI i).toNatClampNeg) (((-4)))) 34 ((nI i).toNatClampNeg) ((fX4_lightEnd (lh_up h 32 ((nI i).toNatClampNeg) (((-4)))) (h 24 (nI i).toNatClampNeg) (h 25 (nI i).toNatClampNeg) 1))) (nI i)))))
set_option maxHeartbeats 4000000 in
set_option maxRecDepth 100000 in
theorem lp_X1_prep2 {l : Launch} {D : va_G} {ad : Nat → Nat} {bs : Nat} {cI cZ : ClassId} {t9 : Nat} {k : Bool} {p : Program} {e : Env} {s : State} {m : MethodId} {args : Array Value} {below : List Frame} {meth : Method} {c : Code}  {h2 : lh_HS} (B : lh_BK p (lh_rm 5) s m args meth c D ad bs cI cZ t9 k "LightHours$Hanging" cX1_prepare 2 none) {h0 : lh_HS} (I0 : lh_I h0) {N : Nat} (hN0 : N = lh_N h0 6) :
    ∀ (n i : Nat) (h : lh_HS), i + n = N → h2 = LX1_prep2_h n i h → lh_fr h0 h → lh_AJ p l e (lh_rm 5) s m args below meth c D ad bs cI cZ k 2 (MQ below (lh_Qv D ad bs cI cZ k h2) args s 0 0 (lh_A bs)) 42 [(0, .ref (ad 30)), (1, .int (nI i))] [] h := by
  intro n
  induction n with
  | zero =>
    intro i h hi hh hv
    have hM := I0.1.2.2.2.2.2
    have hN : h 6 0 = nI N := by rw [hv 6 (by decide) (by decide), hN0]; exact I0.1.2.2.2.2.1
    have hexit : h 6 0 ≤ nI i := by rw [hN]; exact nI_le (by omega) (by omega)
    refine la_iload_n (i := 1) B dX1_prepare_42 rfl rfl ?_
    refine la_aload_n (i := 0) B dX1_prepare_43 rfl rfl ?_
    refine la_get (i := 30) (ci := 1) (j := 0) (C := RX1) (T := TX1) (N := 10) B (lh_nc_lt (by decide)) rfl ix_1 rfl (by decide) wd_276 rfl rfl dX1_prepare_44 ?_
    refine la_get (i := 1) (ci := 2) (j := 4) (C := RX2) (T := TX2) (N := 5) B (lh_nc_lt (by decide)) rfl ix_2 rfl (by decide) wd_228 rfl rfl dX1_prepare_47 ?_
    refine la_get (i := 6) (ci := 7) (j := 0) (v := .int (h 6 0)) (C := RX7) (T := TX7) (N := 4) B (lh_nc_lt (by decide)) rfl ix_7 rfl (by decide) wd_194 rfl rfl dX1_prepare_50 ?_
    refine la_icmp_ge (tgt := 122) B dX1_prepare_53 (by decide) (fun c53 => ?_) (fun c53 => ?_)
    · exact la_return B rfl (by rw [hh]; simp only [LX1_prep2_h]) dX1_prepare_122
    · exact absurd hexit c53
  | succ n ih =>
    intro i h hi hh hv
    have hM := I0.1.2.2.2.2.2
    have hN : h 6 0 = nI N := by rw [hv 6 (by decide) (by decide), hN0]; exact I0.1.2.2.2.2.1
    have hcont : ¬ h 6 0 ≤ nI i := by rw [hN]; exact nI_ge (by omega) (by omega)
    have hb : vp_in (nI i) 5 := vp_in_nI (by omega) (by omega)
    obtain ⟨g24, g25, -⟩ := I0.2.2.2.2.2 i (by omega)
    have hR := I0.1.1.2
    have hl1 : vp_in (h 24 (nI i).toNatClampNeg * 10 + h 25 (nI i).toNatClampNeg) 40 := by
      rw [hv 24 (by decide) (by decide), hv 25 (by decide) (by decide), nI_clamp (by omega)]
      exact lh_ix_ry (g24.mono hR) g25
    have hl2 : vp_in (h 24 (nI i).toNatClampNeg) 4 := by
      rw [hv 24 (by decide) (by decide), nI_clamp (by omega)]
      exact g24.vp hR (by omega)
    refine la_iload_n (i := 1) B dX1_prepare_42 rfl rfl ?_
    refine la_aload_n (i := 0) B dX1_prepare_43 rfl rfl ?_
    refine la_get (i := 30) (ci := 1) (j := 0) (C := RX1) (T := TX1) (N := 10) B (lh_nc_lt (by decide)) rfl ix_1 rfl (by decide) wd_276 rfl rfl dX1_prepare_44 ?_
    refine la_get (i := 1) (ci := 2) (j := 4) (C := RX2) (T := TX2) (N := 5) B (lh_nc_lt (by decide)) rfl ix_2 rfl (by decide) wd_228 rfl rfl dX1_prepare_47 ?_
    refine la_get (i := 6) (ci := 7) (j := 0) (v := .int (h 6 0)) (C := RX7) (T := TX7) (N := 4) B (lh_nc_lt (by decide)) rfl ix_7 rfl (by decide) wd_194 rfl rfl dX1_prepare_50 ?_
    refine la_icmp_ge (tgt := 122) B dX1_prepare_53 (by decide) (fun c53 => ?_) (fun c53 => ?_)
    · exact absurd c53 hcont
    · refine la_aload_n (i := 0) B dX1_prepare_56 rfl rfl ?_
      refine la_get (i := 30) (ci := 1) (j := 5) (C := RX1) (T := TX1) (N := 10) B (lh_nc_lt (by decide)) rfl ix_1 rfl (by decide) wd_283 rfl rfl dX1_prepare_57 ?_
      refine la_iload_n (i := 1) B dX1_prepare_60 rfl rfl ?_
      refine la_bipush (v := -4) B dX1_prepare_61 (by decide) ?_
      refine la_iast (i := 32) (j := (nI i).toNatClampNeg) B (lh_nc_lt (by decide)) rfl rfl hb rfl dX1_prepare_63 ?_
      refine la_aload_n (i := 0) B dX1_prepare_64 rfl rfl ?_
      refine la_get (i := 30) (ci := 1) (j := 7) (C := RX1) (T := TX1) (N := 10) B (lh_nc_lt (by decide)) rfl ix_1 rfl (by decide) wd_285 rfl rfl dX1_prepare_65 ?_
      refine la_iload_n (i := 1) B dX1_prepare_68 rfl rfl ?_
      refine la_aload_n (i := 0) B dX1_prepare_69 rfl rfl ?_
      refine la_get (i := 30) (ci := 1) (j := 0) (C := RX1) (T := TX1) (N := 10) B (lh_nc_lt (by decide)) rfl ix_1 rfl (by decide) wd_276 rfl rfl dX1_prepare_70 ?_
      refine la_get (i := 1) (ci := 2) (j := 0) (C := RX2) (T := TX2) (N := 5) B (lh_nc_lt (by decide)) rfl ix_2 rfl (by decide) wd_215 rfl rfl dX1_prepare_73 ?_
      refine la_aload_n (i := 0) B dX1_prepare_76 rfl rfl ?_
      refine la_get (i := 30) (ci := 1) (j := 0) (C := RX1) (T := TX1) (N := 10) B (lh_nc_lt (by decide)) rfl ix_1 rfl (by decide) wd_276 rfl rfl dX1_prepare_77 ?_
      refine la_get (i := 1) (ci := 2) (j := 4) (C := RX2) (T := TX2) (N := 5) B (lh_nc_lt (by decide)) rfl ix_2 rfl (by decide) wd_228 rfl rfl dX1_prepare_80 ?_
      refine la_get (i := 6) (ci := 7) (j := 1) (C := RX7) (T := TX7) (N := 4) B (lh_nc_lt (by decide)) rfl ix_7 rfl (by decide) wd_197 rfl rfl dX1_prepare_83 ?_
      refine la_iload_n (i := 1) B dX1_prepare_86 rfl rfl ?_
      refine la_iald (i := 24) (v := h 24 (nI i).toNatClampNeg) B (lh_nc_lt (by decide)) rfl hb rfl dX1_prepare_87 ?_
      refine la_aload_n (i := 0) B dX1_prepare_88 rfl rfl ?_
      refine la_get (i := 30) (ci := 1) (j := 0) (C := RX1) (T := TX1) (N := 10) B (lh_nc_lt (by decide)) rfl ix_1 rfl (by decide) wd_276 rfl rfl dX1_prepare_89 ?_
      refine la_get (i := 1) (ci := 2) (j := 4) (C := RX2) (T := TX2) (N := 5) B (lh_nc_lt (by decide)) rfl ix_2 rfl (by decide) wd_228 rfl rfl dX1_prepare_92 ?_
      refine la_get (i := 6) (ci := 7) (j := 2) (C := RX7) (T := TX7) (N := 4) B (lh_nc_lt (by decide)) rfl ix_7 rfl (by decide) wd_200 rfl rfl dX1_prepare_95 ?_
      refine la_iload_n (i := 1) B dX1_prepare_98 rfl rfl ?_
      refine la_iald (i := 25) (v := h 25 (nI i).toNatClampNeg) B (lh_nc_lt (by decide)) rfl hb rfl dX1_prepare_99 ?_
      refine la_iconst (v := 1) B dX1_prepare_100 (by decide) ?_
      refine la_callVi (i := 2) B (ct_X4_lightEnd (lh_up h 32 ((nI i).toNatClampNeg) (((-4)))) (h 24 (nI i).toNatClampNeg) (h 25 (nI i).toNatClampNeg) 1 hl1 hl2) lk_X1_91 (by decide) (lh_nc_lt (by decide)) rfl rfl rfl (by simp [Value.category]) dX1_prepare_101 ?_
      refine la_iast (i := 34) (j := (nI i).toNatClampNeg) B (lh_nc_lt (by decide)) rfl rfl hb rfl dX1_prepare_104 ?_
      refine la_aload_n (i := 0) B dX1_prepare_105 rfl rfl ?_
      refine la_get (i := 30) (ci := 1) (j := 6) (C := RX1) (T := TX1) (N := 10) B (lh_nc_lt (by decide)) rfl ix_1 rfl (by decide) wd_284 rfl rfl dX1_prepare_106 ?_
      refine la_iload_n (i := 1) B dX1_prepare_109 rfl rfl ?_
      refine la_aload_n (i := 0) B dX1_prepare_110 rfl rfl ?_
      refine la_iload_n (i := 1) B dX1_prepare_111 rfl rfl ?_
      have hf1 : lh_fr h0 (lh_up (lh_up h 32 ((nI i).toNatClampNeg) (((-4)))) 34 ((nI i).toNatClampNeg) ((fX4_lightEnd (lh_up h 32 ((nI i).toNatClampNeg) (((-4)))) (h 24 (nI i).toNatClampNeg) (h 25 (nI i).toNatClampNeg) 1))) := ((hv.up (i := 32) (by decide)).up (i := 34) (by decide))
      refine la_callVi (i := 30) B (ct_X1_sheetsFor (lh_up (lh_up h 32 ((nI i).toNatClampNeg) (((-4)))) 34 ((nI i).toNatClampNeg) ((fX4_lightEnd (lh_up h 32 ((nI i).toNatClampNeg) (((-4)))) (h 24 (nI i).toNatClampNeg) (h 25 (nI i).toNatClampNeg) 1))) (nI i) (I0.fr hf1) hb) lk_X1_97 (by decide) (lh_nc_lt (by decide)) rfl rfl rfl (by simp [Value.category]) dX1_prepare_112 ?_
      refine la_iast (i := 33) (j := (nI i).toNatClampNeg) B (lh_nc_lt (by decide)) rfl rfl hb rfl dX1_prepare_115 ?_
      refine la_iincp B dX1_prepare_116 rfl (by decide) ?_
      refine la_goto (tgt := 42) B dX1_prepare_119 (by decide) ?_
      refine la_sub (lv2 := [(0, .ref (ad 30)), (1, .int (nI (i + 1)))]) ⟨rfl, (congrArg (fun z => some (Value.int z)) (nI_1 i)), trivial⟩ (by simp [Value.category]) ?_
      exact ih (i + 1) (lh_up (lh_up (lh_up h 32 ((nI i).toNatClampNeg) (((-4)))) 34 ((nI i).toNatClampNeg) ((fX4_lightEnd (lh_up h 32 ((nI i).toNatClampNeg) (((-4)))) (h 24 (nI i).toNatClampNeg) (h 25 (nI i).toNatClampNeg) 1))) 33 ((nI i).toNatClampNeg) ((fX1_sheetsFor (lh_up (lh_up h 32 ((nI i).toNatClampNeg) (((-4)))) 34 ((nI i).toNatClampNeg) ((fX4_lightEnd (lh_up h 32 ((nI i).toNatClampNeg) (((-4)))) (h 24 (nI i).toNatClampNeg) (h 25 (nI i).toNatClampNeg) 1))) (nI i)))) (by omega) (by rw [hh]; simp only [LX1_prep2_h]) (((hv.up (i := 32) (by decide)).up (i := 34) (by decide)).up (i := 33) (by decide))

def LX1_prep1_h  : Nat → Nat → lh_HS → lh_HS
  | 0, i, h => (LX1_prep2_h (lh_N h 6) 0 h)
  | n + 1, i, h => (LX1_prep1_h n (i + 1) (lh_up (gX3_openAt h (nI i)) 36 ((nI i).toNatClampNeg) ((fX3_leftEnd (gX3_openAt h (nI i)) 0))))
set_option maxHeartbeats 4000000 in
set_option maxRecDepth 100000 in
theorem lp_X1_prep1 {l : Launch} {D : va_G} {ad : Nat → Nat} {bs : Nat} {cI cZ : ClassId} {t9 : Nat} {k : Bool} {p : Program} {e : Env} {s : State} {m : MethodId} {args : Array Value} {below : List Frame} {meth : Method} {c : Code}  {h2 : lh_HS} (B : lh_BK p (lh_rm 5) s m args meth c D ad bs cI cZ t9 k "LightHours$Hanging" cX1_prepare 2 none) {h0 : lh_HS} (I0 : lh_I h0) {N : Nat} (hN0 : N = lh_N h0 3) :
    ∀ (n i : Nat) (h : lh_HS), i + n = N → h2 = LX1_prep1_h n i h → lh_fr h0 h → lh_AJ p l e (lh_rm 5) s m args below meth c D ad bs cI cZ k 2 (MQ below (lh_Qv D ad bs cI cZ k h2) args s 0 0 (lh_A bs)) 2 [(0, .ref (ad 30)), (1, .int (nI i))] [] h := by
  intro n
  induction n with
  | zero =>
    intro i h hi hh hv
    have hM := I0.1.2.1.2
    have hN : h 3 0 = nI N := by rw [hv 3 (by decide) (by decide), hN0]; exact I0.1.2.1.1
    have hexit : h 3 0 ≤ nI i := by rw [hN]; exact nI_le (by omega) (by omega)
    refine la_iload_n (i := 1) B dX1_prepare_2 rfl rfl ?_
    refine la_aload_n (i := 0) B dX1_prepare_3 rfl rfl ?_
    refine la_get (i := 30) (ci := 1) (j := 0) (C := RX1) (T := TX1) (N := 10) B (lh_nc_lt (by decide)) rfl ix_1 rfl (by decide) wd_276 rfl rfl dX1_prepare_4 ?_
    refine la_get (i := 1) (ci := 2) (j := 1) (C := RX2) (T := TX2) (N := 5) B (lh_nc_lt (by decide)) rfl ix_2 rfl (by decide) wd_218 rfl rfl dX1_prepare_7 ?_
    refine la_get (i := 3) (ci := 5) (j := 0) (v := .int (h 3 0)) (C := RX5) (T := TX5) (N := 8) B (lh_nc_lt (by decide)) rfl ix_5 rfl (by decide) wd_87 rfl rfl dX1_prepare_10 ?_
    refine la_icmp_ge (tgt := 40) B dX1_prepare_13 (by decide) (fun c13 => ?_) (fun c13 => ?_)
    · refine la_iconst (v := 0) B dX1_prepare_40 (by decide) ?_
      refine la_istore_n (i := 1) B dX1_prepare_41 rfl (by decide) ?_
      refine la_sub (lv2 := [(0, .ref (ad 30)), (1, .int (nI 0))]) ⟨rfl, rfl, trivial⟩ (by simp [Value.category]) ?_
      exact lp_X1_prep2 B I0 (hv.N (by decide) (by decide)) _ 0 h (Nat.zero_add _) (by rw [hh]; simp only [LX1_prep1_h]) hv
    · exact absurd hexit c13
  | succ n ih =>
    intro i h hi hh hv
    have hM := I0.1.2.1.2
    have hN : h 3 0 = nI N := by rw [hv 3 (by decide) (by decide), hN0]; exact I0.1.2.1.1
    have hcont : ¬ h 3 0 ≤ nI i := by rw [hN]; exact nI_ge (by omega) (by omega)
    have hs : lh_ix (nI i) (lh_N h 3) := lh_ix_nI (by rw [hv.N (by decide) (by decide)]; omega)
    have hb : vp_in (nI i) 8 := vp_in_nI (by omega) (by omega)
    refine la_iload_n (i := 1) B dX1_prepare_2 rfl rfl ?_
    refine la_aload_n (i := 0) B dX1_prepare_3 rfl rfl ?_
    refine la_get (i := 30) (ci := 1) (j := 0) (C := RX1) (T := TX1) (N := 10) B (lh_nc_lt (by decide)) rfl ix_1 rfl (by decide) wd_276 rfl rfl dX1_prepare_4 ?_
    refine la_get (i := 1) (ci := 2) (j := 1) (C := RX2) (T := TX2) (N := 5) B (lh_nc_lt (by decide)) rfl ix_2 rfl (by decide) wd_218 rfl rfl dX1_prepare_7 ?_
    refine la_get (i := 3) (ci := 5) (j := 0) (v := .int (h 3 0)) (C := RX5) (T := TX5) (N := 8) B (lh_nc_lt (by decide)) rfl ix_5 rfl (by decide) wd_87 rfl rfl dX1_prepare_10 ?_
    refine la_icmp_ge (tgt := 40) B dX1_prepare_13 (by decide) (fun c13 => ?_) (fun c13 => ?_)
    · exact absurd c13 hcont
    · refine la_aload_n (i := 0) B dX1_prepare_16 rfl rfl ?_
      refine la_get (i := 30) (ci := 1) (j := 9) (C := RX1) (T := TX1) (N := 10) B (lh_nc_lt (by decide)) rfl ix_1 rfl (by decide) wd_287 rfl rfl dX1_prepare_17 ?_
      refine la_iload_n (i := 1) B dX1_prepare_20 rfl rfl ?_
      refine la_aload_n (i := 0) B dX1_prepare_21 rfl rfl ?_
      refine la_get (i := 30) (ci := 1) (j := 1) (C := RX1) (T := TX1) (N := 10) B (lh_nc_lt (by decide)) rfl ix_1 rfl (by decide) wd_277 rfl rfl dX1_prepare_22 ?_
      refine la_iload_n (i := 1) B dX1_prepare_25 rfl rfl ?_
      refine la_callVr (i := 27) B (ct_X3_openAt h (nI i) (I0.fr hv) hs) lk_X1_71 (by decide) (lh_nc_lt (by decide)) rfl rfl rfl (by simp [Value.category]) dX1_prepare_26 ?_
      refine la_iconst (v := 0) B dX1_prepare_29 (by decide) ?_
      refine la_callVi (i := 27) B (ct_X3_leftEnd (gX3_openAt h (nI i)) 0 (lh_open8 (I0.fr hv) hs)) lk_X1_77 (by decide) (lh_nc_lt (by decide)) rfl rfl rfl (by simp [Value.category]) dX1_prepare_30 ?_
      refine la_iast (i := 36) (j := (nI i).toNatClampNeg) B (lh_nc_lt (by decide)) rfl rfl hb rfl dX1_prepare_33 ?_
      refine la_iincp B dX1_prepare_34 rfl (by decide) ?_
      refine la_goto (tgt := 2) B dX1_prepare_37 (by decide) ?_
      refine la_sub (lv2 := [(0, .ref (ad 30)), (1, .int (nI (i + 1)))]) ⟨rfl, (congrArg (fun z => some (Value.int z)) (nI_1 i)), trivial⟩ (by simp [Value.category]) ?_
      exact ih (i + 1) (lh_up (gX3_openAt h (nI i)) 36 ((nI i).toNatClampNeg) ((fX3_leftEnd (gX3_openAt h (nI i)) 0))) (by omega) (by rw [hh]; simp only [LX1_prep1_h]) ((lh_openfr hv _).up (i := 36) (by decide))

def gX1_prepare (h : lh_HS)  : lh_HS := (LX1_prep1_h (lh_N h 3) 0 h)
set_option maxHeartbeats 4000000 in
set_option maxRecDepth 100000 in
theorem ct_X1_prepare {l : Launch} {D : va_G} {ad : Nat → Nat} {bs : Nat} {cI cZ : ClassId} {t9 : Nat} {k : Bool} (h : lh_HS)  (I : lh_I h) : lh_CTv l D ad bs cI cZ t9 k yX1_prepare cX1_prepare 2 5 [.ref (ad 30)] h (gX1_prepare h ) := by
  refine lh_ofv (lv := [(0, .ref (ad 30))]) (by decide) (Nat.le_of_ble_eq_true rfl) rfl (by simp [Value.category]) ⟨rfl, trivial⟩ ?_
  intro p e s m args below meth c B
  have B : lh_BK p (lh_rm 5) s m args meth c D ad bs cI cZ t9 k "LightHours$Hanging" cX1_prepare 2 none := B
  refine la_iconst (v := 0) B dX1_prepare_0 (by decide) ?_
  refine la_istore_n (i := 1) B dX1_prepare_1 rfl (by decide) ?_
  refine la_sub (lv2 := [(0, .ref (ad 30)), (1, .int (nI 0))]) ⟨rfl, rfl, trivial⟩ (by simp [Value.category]) ?_
  exact lp_X1_prep1 B I rfl _ 0 h (Nat.zero_add _) (by simp only [gX1_prepare]) (lh_fr.rf h)

def LX1_fits (h : lh_HS) (wl : Int32) (sn : Int32) (yr : Int32) : Nat → Nat → Int32
  | 0, i => 1
  | n + 1, i => (if (h 32 (nI i).toNatClampNeg) = sn then (if (h 12 sn.toNatClampNeg) < (if 0 ≤ ((h 25 (nI i).toNatClampNeg) - yr) then ((h 25 (nI i).toNatClampNeg) - yr) else 0 - ((h 25 (nI i).toNatClampNeg) - yr)) then (if (h 32 (nI i).toNatClampNeg) = ((-4)) then (LX1_fits h wl sn yr n (i + 1)) else (if (h 32 (nI i).toNatClampNeg) = (h 13 sn.toNatClampNeg) then (if (if 0 ≤ ((h 25 (nI i).toNatClampNeg) - yr) then ((h 25 (nI i).toNatClampNeg) - yr) else 0 - ((h 25 (nI i).toNatClampNeg) - yr)) = 0 then 0 else (LX1_fits h wl sn yr n (i + 1))) else (LX1_fits h wl sn yr n (i + 1)))) else 0) else (if (h 32 (nI i).toNatClampNeg) = ((-4)) then (LX1_fits h wl sn yr n (i + 1)) else (if (h 32 (nI i).toNatClampNeg) = (h 13 sn.toNatClampNeg) then (if (if 0 ≤ ((h 25 (nI i).toNatClampNeg) - yr) then ((h 25 (nI i).toNatClampNeg) - yr) else 0 - ((h 25 (nI i).toNatClampNeg) - yr)) = 0 then 0 else (LX1_fits h wl sn yr n (i + 1))) else (LX1_fits h wl sn yr n (i + 1)))))
set_option maxHeartbeats 4000000 in
set_option maxRecDepth 100000 in
theorem lp_X1_fits {l : Launch} {D : va_G} {ad : Nat → Nat} {bs : Nat} {cI cZ : ClassId} {t9 : Nat} {k : Bool} {p : Program} {e : Env} {s : State} {m : MethodId} {args : Array Value} {below : List Frame} {meth : Method} {c : Code} (h : lh_HS) (wl : Int32) (sn : Int32) (yr : Int32) {r : Int32} (B : lh_BK p (lh_rm 1) s m args meth c D ad bs cI cZ t9 k "LightHours$Hanging" cX1_fits 6 (some .boolean)) {N : Nat} (hN : wl = nI N) (hM : N ≤ 5) (h8 : vp_in sn 8) :
    ∀ (n i : Nat), i + n = N → r = LX1_fits h wl sn yr n i → lh_AJ p l e (lh_rm 1) s m args below meth c D ad bs cI cZ k 6 (MQ below (lh_Qi D ad bs cI cZ k r h) args s 0 0 (lh_A bs)) 46 [(0, .ref (ad 30)), (1, .int wl), (2, .int sn), (3, .int yr), (4, .int (nI i))] [] h := by
  intro n
  induction n with
  | zero =>
    intro i hi hr
    have hexit : wl ≤ nI i := by rw [hN]; exact nI_le (by omega) (by omega)
    refine la_iload B dX1_fits_46 rfl ?_
    refine la_iload_n (i := 1) B dX1_fits_48 rfl rfl ?_
    refine la_icmp_ge (tgt := 149) B dX1_fits_49 (by decide) (fun c49 => ?_) (fun c49 => ?_)
    · refine la_iconst (v := 1) B dX1_fits_149 (by decide) ?_
      exact la_zreturn B rfl (by rw [hr]; simp only [LX1_fits]) rfl rfl dX1_fits_150
    · exact absurd hexit c49
  | succ n ih =>
    intro i hi hr
    have hcont : ¬ wl ≤ nI i := by rw [hN]; exact nI_ge (by omega) (by omega)
    have hb : vp_in (nI i) 5 := vp_in_nI (by omega) (by omega)
    refine la_iload B dX1_fits_46 rfl ?_
    refine la_iload_n (i := 1) B dX1_fits_48 rfl rfl ?_
    refine la_icmp_ge (tgt := 149) B dX1_fits_49 (by decide) (fun c49 => ?_) (fun c49 => ?_)
    · exact absurd c49 hcont
    · refine la_aload_n (i := 0) B dX1_fits_52 rfl rfl ?_
      refine la_get (i := 30) (ci := 1) (j := 0) (C := RX1) (T := TX1) (N := 10) B (lh_nc_lt (by decide)) rfl ix_1 rfl (by decide) wd_276 rfl rfl dX1_fits_53 ?_
      refine la_get (i := 1) (ci := 2) (j := 4) (C := RX2) (T := TX2) (N := 5) B (lh_nc_lt (by decide)) rfl ix_2 rfl (by decide) wd_228 rfl rfl dX1_fits_56 ?_
      refine la_get (i := 6) (ci := 7) (j := 2) (C := RX7) (T := TX7) (N := 4) B (lh_nc_lt (by decide)) rfl ix_7 rfl (by decide) wd_200 rfl rfl dX1_fits_59 ?_
      refine la_iload B dX1_fits_62 rfl ?_
      refine la_iald (i := 25) (v := h 25 (nI i).toNatClampNeg) B (lh_nc_lt (by decide)) rfl hb rfl dX1_fits_64 ?_
      refine la_iload_n (i := 3) B dX1_fits_65 rfl rfl ?_
      refine la_isub B dX1_fits_66 ?_
      refine la_mabs B wd_586 wd_441 wd_45 wd_442 (by decide) (by decide) dX1_fits_67 ?_
      refine la_istore B dX1_fits_70 (by decide) ?_
      refine la_aload_n (i := 0) B dX1_fits_72 rfl rfl ?_
      refine la_get (i := 30) (ci := 1) (j := 5) (C := RX1) (T := TX1) (N := 10) B (lh_nc_lt (by decide)) rfl ix_1 rfl (by decide) wd_283 rfl rfl dX1_fits_73 ?_
      refine la_iload B dX1_fits_76 rfl ?_
      refine la_iald (i := 32) (v := h 32 (nI i).toNatClampNeg) B (lh_nc_lt (by decide)) rfl hb rfl dX1_fits_78 ?_
      refine la_iload_n (i := 2) B dX1_fits_79 rfl rfl ?_
      refine la_icmp_ne (tgt := 102) B dX1_fits_80 (by decide) (fun c80 => ?_) (fun c80 => ?_)
      · refine la_aload_n (i := 0) B dX1_fits_102 rfl rfl ?_
        refine la_get (i := 30) (ci := 1) (j := 5) (C := RX1) (T := TX1) (N := 10) B (lh_nc_lt (by decide)) rfl ix_1 rfl (by decide) wd_283 rfl rfl dX1_fits_103 ?_
        refine la_iload B dX1_fits_106 rfl ?_
        refine la_iald (i := 32) (v := h 32 (nI i).toNatClampNeg) B (lh_nc_lt (by decide)) rfl hb rfl dX1_fits_108 ?_
        refine la_bipush (v := -4) B dX1_fits_109 (by decide) ?_
        refine la_icmp_eq (tgt := 143) B dX1_fits_111 (by decide) (fun c111 => ?_) (fun c111 => ?_)
        · refine la_iincp B dX1_fits_143 rfl (by decide) ?_
          refine la_goto (tgt := 46) B dX1_fits_146 (by decide) ?_
          refine la_sub (lv2 := [(0, .ref (ad 30)), (1, .int wl), (2, .int sn), (3, .int yr), (4, .int (nI (i + 1)))]) ⟨rfl, rfl, rfl, rfl, (congrArg (fun z => some (Value.int z)) (nI_1 i)), trivial⟩ (by simp [Value.category]) ?_
          exact ih (i + 1) (by omega) (by rw [hr]; simp only [LX1_fits, if_neg c80, if_pos c111])
        · refine la_aload_n (i := 0) B dX1_fits_114 rfl rfl ?_
          refine la_get (i := 30) (ci := 1) (j := 5) (C := RX1) (T := TX1) (N := 10) B (lh_nc_lt (by decide)) rfl ix_1 rfl (by decide) wd_283 rfl rfl dX1_fits_115 ?_
          refine la_iload B dX1_fits_118 rfl ?_
          refine la_iald (i := 32) (v := h 32 (nI i).toNatClampNeg) B (lh_nc_lt (by decide)) rfl hb rfl dX1_fits_120 ?_
          refine la_aload_n (i := 0) B dX1_fits_121 rfl rfl ?_
          refine la_get (i := 30) (ci := 1) (j := 0) (C := RX1) (T := TX1) (N := 10) B (lh_nc_lt (by decide)) rfl ix_1 rfl (by decide) wd_276 rfl rfl dX1_fits_122 ?_
          refine la_get (i := 1) (ci := 2) (j := 1) (C := RX2) (T := TX2) (N := 5) B (lh_nc_lt (by decide)) rfl ix_2 rfl (by decide) wd_218 rfl rfl dX1_fits_125 ?_
          refine la_get (i := 3) (ci := 5) (j := 5) (C := RX5) (T := TX5) (N := 8) B (lh_nc_lt (by decide)) rfl ix_5 rfl (by decide) wd_103 rfl rfl dX1_fits_128 ?_
          refine la_iload_n (i := 2) B dX1_fits_131 rfl rfl ?_
          refine la_iald (i := 13) (v := h 13 sn.toNatClampNeg) B (lh_nc_lt (by decide)) rfl h8 rfl dX1_fits_132 ?_
          refine la_icmp_ne (tgt := 143) B dX1_fits_133 (by decide) (fun c133 => ?_) (fun c133 => ?_)
          · refine la_iincp B dX1_fits_143 rfl (by decide) ?_
            refine la_goto (tgt := 46) B dX1_fits_146 (by decide) ?_
            refine la_sub (lv2 := [(0, .ref (ad 30)), (1, .int wl), (2, .int sn), (3, .int yr), (4, .int (nI (i + 1)))]) ⟨rfl, rfl, rfl, rfl, (congrArg (fun z => some (Value.int z)) (nI_1 i)), trivial⟩ (by simp [Value.category]) ?_
            exact ih (i + 1) (by omega) (by rw [hr]; simp only [LX1_fits, if_neg c80, if_neg c111, if_neg c133])
          · refine la_iload B dX1_fits_136 rfl ?_
            refine la_if_ne (tgt := 143) B dX1_fits_138 (by decide) (fun c138 => ?_) (fun c138 => ?_)
            · refine la_iincp B dX1_fits_143 rfl (by decide) ?_
              refine la_goto (tgt := 46) B dX1_fits_146 (by decide) ?_
              refine la_sub (lv2 := [(0, .ref (ad 30)), (1, .int wl), (2, .int sn), (3, .int yr), (4, .int (nI (i + 1)))]) ⟨rfl, rfl, rfl, rfl, (congrArg (fun z => some (Value.int z)) (nI_1 i)), trivial⟩ (by simp [Value.category]) ?_
              exact ih (i + 1) (by omega) (by rw [hr]; simp only [LX1_fits, if_neg c80, if_neg c111, if_pos c133, if_neg c138])
            · refine la_iconst (v := 0) B dX1_fits_141 (by decide) ?_
              exact la_zreturn B rfl (by rw [hr]; simp only [LX1_fits, if_neg c80, if_neg c111, if_pos c133, if_pos c138]) rfl rfl dX1_fits_142
      · refine la_iload B dX1_fits_83 rfl ?_
        refine la_aload_n (i := 0) B dX1_fits_85 rfl rfl ?_
        refine la_get (i := 30) (ci := 1) (j := 0) (C := RX1) (T := TX1) (N := 10) B (lh_nc_lt (by decide)) rfl ix_1 rfl (by decide) wd_276 rfl rfl dX1_fits_86 ?_
        refine la_get (i := 1) (ci := 2) (j := 1) (C := RX2) (T := TX2) (N := 5) B (lh_nc_lt (by decide)) rfl ix_2 rfl (by decide) wd_218 rfl rfl dX1_fits_89 ?_
        refine la_get (i := 3) (ci := 5) (j := 4) (C := RX5) (T := TX5) (N := 8) B (lh_nc_lt (by decide)) rfl ix_5 rfl (by decide) wd_99 rfl rfl dX1_fits_92 ?_
        refine la_iload_n (i := 2) B dX1_fits_95 rfl rfl ?_
        refine la_iald (i := 12) (v := h 12 sn.toNatClampNeg) B (lh_nc_lt (by decide)) rfl h8 rfl dX1_fits_96 ?_
        refine la_icmp_gt (tgt := 102) B dX1_fits_97 (by decide) (fun c97 => ?_) (fun c97 => ?_)
        · refine la_aload_n (i := 0) B dX1_fits_102 rfl rfl ?_
          refine la_get (i := 30) (ci := 1) (j := 5) (C := RX1) (T := TX1) (N := 10) B (lh_nc_lt (by decide)) rfl ix_1 rfl (by decide) wd_283 rfl rfl dX1_fits_103 ?_
          refine la_iload B dX1_fits_106 rfl ?_
          refine la_iald (i := 32) (v := h 32 (nI i).toNatClampNeg) B (lh_nc_lt (by decide)) rfl hb rfl dX1_fits_108 ?_
          refine la_bipush (v := -4) B dX1_fits_109 (by decide) ?_
          refine la_icmp_eq (tgt := 143) B dX1_fits_111 (by decide) (fun c111 => ?_) (fun c111 => ?_)
          · refine la_iincp B dX1_fits_143 rfl (by decide) ?_
            refine la_goto (tgt := 46) B dX1_fits_146 (by decide) ?_
            refine la_sub (lv2 := [(0, .ref (ad 30)), (1, .int wl), (2, .int sn), (3, .int yr), (4, .int (nI (i + 1)))]) ⟨rfl, rfl, rfl, rfl, (congrArg (fun z => some (Value.int z)) (nI_1 i)), trivial⟩ (by simp [Value.category]) ?_
            exact ih (i + 1) (by omega) (by rw [hr]; simp only [LX1_fits, if_pos c80, if_pos c97, if_pos c111])
          · refine la_aload_n (i := 0) B dX1_fits_114 rfl rfl ?_
            refine la_get (i := 30) (ci := 1) (j := 5) (C := RX1) (T := TX1) (N := 10) B (lh_nc_lt (by decide)) rfl ix_1 rfl (by decide) wd_283 rfl rfl dX1_fits_115 ?_
            refine la_iload B dX1_fits_118 rfl ?_
            refine la_iald (i := 32) (v := h 32 (nI i).toNatClampNeg) B (lh_nc_lt (by decide)) rfl hb rfl dX1_fits_120 ?_
            refine la_aload_n (i := 0) B dX1_fits_121 rfl rfl ?_
            refine la_get (i := 30) (ci := 1) (j := 0) (C := RX1) (T := TX1) (N := 10) B (lh_nc_lt (by decide)) rfl ix_1 rfl (by decide) wd_276 rfl rfl dX1_fits_122 ?_
            refine la_get (i := 1) (ci := 2) (j := 1) (C := RX2) (T := TX2) (N := 5) B (lh_nc_lt (by decide)) rfl ix_2 rfl (by decide) wd_218 rfl rfl dX1_fits_125 ?_
            refine la_get (i := 3) (ci := 5) (j := 5) (C := RX5) (T := TX5) (N := 8) B (lh_nc_lt (by decide)) rfl ix_5 rfl (by decide) wd_103 rfl rfl dX1_fits_128 ?_
            refine la_iload_n (i := 2) B dX1_fits_131 rfl rfl ?_
            refine la_iald (i := 13) (v := h 13 sn.toNatClampNeg) B (lh_nc_lt (by decide)) rfl h8 rfl dX1_fits_132 ?_
            refine la_icmp_ne (tgt := 143) B dX1_fits_133 (by decide) (fun c133 => ?_) (fun c133 => ?_)
            · refine la_iincp B dX1_fits_143 rfl (by decide) ?_
              refine la_goto (tgt := 46) B dX1_fits_146 (by decide) ?_
              refine la_sub (lv2 := [(0, .ref (ad 30)), (1, .int wl), (2, .int sn), (3, .int yr), (4, .int (nI (i + 1)))]) ⟨rfl, rfl, rfl, rfl, (congrArg (fun z => some (Value.int z)) (nI_1 i)), trivial⟩ (by simp [Value.category]) ?_
              exact ih (i + 1) (by omega) (by rw [hr]; simp only [LX1_fits, if_pos c80, if_pos c97, if_neg c111, if_neg c133])
            · refine la_iload B dX1_fits_136 rfl ?_
              refine la_if_ne (tgt := 143) B dX1_fits_138 (by decide) (fun c138 => ?_) (fun c138 => ?_)
              · refine la_iincp B dX1_fits_143 rfl (by decide) ?_
                refine la_goto (tgt := 46) B dX1_fits_146 (by decide) ?_
                refine la_sub (lv2 := [(0, .ref (ad 30)), (1, .int wl), (2, .int sn), (3, .int yr), (4, .int (nI (i + 1)))]) ⟨rfl, rfl, rfl, rfl, (congrArg (fun z => some (Value.int z)) (nI_1 i)), trivial⟩ (by simp [Value.category]) ?_
                exact ih (i + 1) (by omega) (by rw [hr]; simp only [LX1_fits, if_pos c80, if_pos c97, if_neg c111, if_pos c133, if_neg c138])
              · refine la_iconst (v := 0) B dX1_fits_141 (by decide) ?_
                exact la_zreturn B rfl (by rw [hr]; simp only [LX1_fits, if_pos c80, if_pos c97, if_neg c111, if_pos c133, if_pos c138]) rfl rfl dX1_fits_142
        · refine la_iconst (v := 0) B dX1_fits_100 (by decide) ?_
          exact la_zreturn B rfl (by rw [hr]; simp only [LX1_fits, if_pos c80, if_neg c97]) rfl rfl dX1_fits_101

def fX1_fits (h : lh_HS) (wl : Int32) (sn : Int32) : Int32 := (if (((h 33 wl.toNatClampNeg) >>> (sn &&& 31)) &&& 1) = 0 then 0 else (if (h 34 wl.toNatClampNeg) ≤ (h 36 sn.toNatClampNeg) then (LX1_fits h wl sn (h 25 wl.toNatClampNeg) wl.toNatClampNeg 0) else 0))
set_option maxHeartbeats 4000000 in
set_option maxRecDepth 100000 in
theorem ct_X1_fits {l : Launch} {D : va_G} {ad : Nat → Nat} {bs : Nat} {cI cZ : ClassId} {t9 : Nat} {k : Bool} (h : lh_HS) (wl : Int32) (sn : Int32) (hw : vp_in wl 5) (h8 : vp_in sn 8) : lh_CTi l D ad bs cI cZ t9 k yX1_fits cX1_fits 6 (some .boolean) 1 [.ref (ad 30), .int wl, .int sn] h (fX1_fits h wl sn) h := by
  refine lh_ofi (lv := [(0, .ref (ad 30)), (1, .int wl), (2, .int sn)]) (by decide) (Nat.le_of_ble_eq_true rfl) rfl (by simp [Value.category]) ⟨rfl, rfl, rfl, trivial⟩ ?_
  intro p e s m args below meth c B
  have B : lh_BK p (lh_rm 1) s m args meth c D ad bs cI cZ t9 k "LightHours$Hanging" cX1_fits 6 (some .boolean) := B
  obtain ⟨jw, hjw, ejw⟩ := vp_in_of hw (by omega)
  have hN : wl = nI wl.toNatClampNeg := by rw [ejw, nI_clamp (by omega)]
  have hM : wl.toNatClampNeg < 5 := by rw [ejw, nI_clamp (by omega)]; exact hjw
  refine la_aload_n (i := 0) B dX1_fits_0 rfl rfl ?_
  refine la_get (i := 30) (ci := 1) (j := 6) (C := RX1) (T := TX1) (N := 10) B (lh_nc_lt (by decide)) rfl ix_1 rfl (by decide) wd_284 rfl rfl dX1_fits_1 ?_
  refine la_iload_n (i := 1) B dX1_fits_4 rfl rfl ?_
  refine la_iald (i := 33) (v := h 33 wl.toNatClampNeg) B (lh_nc_lt (by decide)) rfl hw rfl dX1_fits_5 ?_
  refine la_iload_n (i := 2) B dX1_fits_6 rfl rfl ?_
  refine la_ishr B dX1_fits_7 ?_
  refine la_iconst (v := 1) B dX1_fits_8 (by decide) ?_
  refine la_iand B dX1_fits_9 ?_
  refine la_if_eq (tgt := 28) B dX1_fits_10 (by decide) (fun c10 => ?_) (fun c10 => ?_)
  · refine la_iconst (v := 0) B dX1_fits_28 (by decide) ?_
    exact la_zreturn B rfl (by simp only [fX1_fits, if_pos c10]) rfl rfl dX1_fits_29
  · refine la_aload_n (i := 0) B dX1_fits_13 rfl rfl ?_
    refine la_get (i := 30) (ci := 1) (j := 7) (C := RX1) (T := TX1) (N := 10) B (lh_nc_lt (by decide)) rfl ix_1 rfl (by decide) wd_285 rfl rfl dX1_fits_14 ?_
    refine la_iload_n (i := 1) B dX1_fits_17 rfl rfl ?_
    refine la_iald (i := 34) (v := h 34 wl.toNatClampNeg) B (lh_nc_lt (by decide)) rfl hw rfl dX1_fits_18 ?_
    refine la_aload_n (i := 0) B dX1_fits_19 rfl rfl ?_
    refine la_get (i := 30) (ci := 1) (j := 9) (C := RX1) (T := TX1) (N := 10) B (lh_nc_lt (by decide)) rfl ix_1 rfl (by decide) wd_287 rfl rfl dX1_fits_20 ?_
    refine la_iload_n (i := 2) B dX1_fits_23 rfl rfl ?_
    refine la_iald (i := 36) (v := h 36 sn.toNatClampNeg) B (lh_nc_lt (by decide)) rfl h8 rfl dX1_fits_24 ?_
    refine la_icmp_le (tgt := 30) B dX1_fits_25 (by decide) (fun c25 => ?_) (fun c25 => ?_)
    · refine la_aload_n (i := 0) B dX1_fits_30 rfl rfl ?_
      refine la_get (i := 30) (ci := 1) (j := 0) (C := RX1) (T := TX1) (N := 10) B (lh_nc_lt (by decide)) rfl ix_1 rfl (by decide) wd_276 rfl rfl dX1_fits_31 ?_
      refine la_get (i := 1) (ci := 2) (j := 4) (C := RX2) (T := TX2) (N := 5) B (lh_nc_lt (by decide)) rfl ix_2 rfl (by decide) wd_228 rfl rfl dX1_fits_34 ?_
      refine la_get (i := 6) (ci := 7) (j := 2) (C := RX7) (T := TX7) (N := 4) B (lh_nc_lt (by decide)) rfl ix_7 rfl (by decide) wd_200 rfl rfl dX1_fits_37 ?_
      refine la_iload_n (i := 1) B dX1_fits_40 rfl rfl ?_
      refine la_iald (i := 25) (v := h 25 wl.toNatClampNeg) B (lh_nc_lt (by decide)) rfl hw rfl dX1_fits_41 ?_
      refine la_istore_n (i := 3) B dX1_fits_42 rfl (by decide) ?_
      refine la_iconst (v := 0) B dX1_fits_43 (by decide) ?_
      refine la_istore B dX1_fits_44 (by decide) ?_
      refine la_sub (lv2 := [(0, .ref (ad 30)), (1, .int wl), (2, .int sn), (3, .int (h 25 wl.toNatClampNeg)), (4, .int (nI 0))]) ⟨rfl, rfl, rfl, rfl, rfl, trivial⟩ (by simp [Value.category]) ?_
      exact lp_X1_fits h wl sn _ B hN (by omega) h8 _ 0 (Nat.zero_add _) (by simp only [fX1_fits, if_neg c10, if_pos c25])
    · refine la_iconst (v := 0) B dX1_fits_28 (by decide) ?_
      exact la_zreturn B rfl (by simp only [fX1_fits, if_neg c10, if_neg c25]) rfl rfl dX1_fits_29

def LX1_countHung (h : lh_HS)  : Nat → Nat → Int32 → Int32
  | 0, i, acc => acc
  | n + 1, i, acc => (if (h 31 (nI i).toNatClampNeg) = ((-4)) then (LX1_countHung h n (i + 1) acc) else (LX1_countHung h n (i + 1) (acc + 1)))
set_option maxHeartbeats 4000000 in
set_option maxRecDepth 100000 in
theorem lp_X1_countHung {l : Launch} {D : va_G} {ad : Nat → Nat} {bs : Nat} {cI cZ : ClassId} {t9 : Nat} {k : Bool} {p : Program} {e : Env} {s : State} {m : MethodId} {args : Array Value} {below : List Frame} {meth : Method} {c : Code} (h : lh_HS)  {r : Int32} (B : lh_BK p (lh_rm 0) s m args meth c D ad bs cI cZ t9 k "LightHours$Hanging" cX1_countHung 3 (some .int)) {N : Nat} (hN : h 6 0 = nI N) (hM : N ≤ 5) :
    ∀ (n i : Nat) (acc : Int32), i + n = N → r = LX1_countHung h n i acc → lh_AJ p l e (lh_rm 0) s m args below meth c D ad bs cI cZ k 3 (MQ below (lh_Qi D ad bs cI cZ k r h) args s 0 0 (lh_A bs)) 4 [(0, .ref (ad 30)), (1, .int acc), (2, .int (nI i))] [] h := by
  intro n
  induction n with
  | zero =>
    intro i acc hi hr
    have hexit : h 6 0 ≤ nI i := by rw [hN]; exact nI_le (by omega) (by omega)
    refine la_iload_n (i := 2) B dX1_countHung_4 rfl rfl ?_
    refine la_aload_n (i := 0) B dX1_countHung_5 rfl rfl ?_
    refine la_get (i := 30) (ci := 1) (j := 0) (C := RX1) (T := TX1) (N := 10) B (lh_nc_lt (by decide)) rfl ix_1 rfl (by decide) wd_276 rfl rfl dX1_countHung_6 ?_
    refine la_get (i := 1) (ci := 2) (j := 4) (C := RX2) (T := TX2) (N := 5) B (lh_nc_lt (by decide)) rfl ix_2 rfl (by decide) wd_228 rfl rfl dX1_countHung_9 ?_
    refine la_get (i := 6) (ci := 7) (j := 0) (v := .int (h 6 0)) (C := RX7) (T := TX7) (N := 4) B (lh_nc_lt (by decide)) rfl ix_7 rfl (by decide) wd_194 rfl rfl dX1_countHung_12 ?_
    refine la_icmp_ge (tgt := 38) B dX1_countHung_15 (by decide) (fun c15 => ?_) (fun c15 => ?_)
    · refine la_iload_n (i := 1) B dX1_countHung_38 rfl rfl ?_
      exact la_ireturn B rfl (by rw [hr]; simp only [LX1_countHung]) rfl dX1_countHung_39
    · exact absurd hexit c15
  | succ n ih =>
    intro i acc hi hr
    have hcont : ¬ h 6 0 ≤ nI i := by rw [hN]; exact nI_ge (by omega) (by omega)
    have hb : vp_in (nI i) 5 := vp_in_nI (by omega) (by omega)
    refine la_iload_n (i := 2) B dX1_countHung_4 rfl rfl ?_
    refine la_aload_n (i := 0) B dX1_countHung_5 rfl rfl ?_
    refine la_get (i := 30) (ci := 1) (j := 0) (C := RX1) (T := TX1) (N := 10) B (lh_nc_lt (by decide)) rfl ix_1 rfl (by decide) wd_276 rfl rfl dX1_countHung_6 ?_
    refine la_get (i := 1) (ci := 2) (j := 4) (C := RX2) (T := TX2) (N := 5) B (lh_nc_lt (by decide)) rfl ix_2 rfl (by decide) wd_228 rfl rfl dX1_countHung_9 ?_
    refine la_get (i := 6) (ci := 7) (j := 0) (v := .int (h 6 0)) (C := RX7) (T := TX7) (N := 4) B (lh_nc_lt (by decide)) rfl ix_7 rfl (by decide) wd_194 rfl rfl dX1_countHung_12 ?_
    refine la_icmp_ge (tgt := 38) B dX1_countHung_15 (by decide) (fun c15 => ?_) (fun c15 => ?_)
    · exact absurd c15 hcont
    · refine la_aload_n (i := 0) B dX1_countHung_18 rfl rfl ?_
      refine la_get (i := 30) (ci := 1) (j := 3) (C := RX1) (T := TX1) (N := 10) B (lh_nc_lt (by decide)) rfl ix_1 rfl (by decide) wd_279 rfl rfl dX1_countHung_19 ?_
      refine la_iload_n (i := 2) B dX1_countHung_22 rfl rfl ?_
      refine la_iald (i := 31) (v := h 31 (nI i).toNatClampNeg) B (lh_nc_lt (by decide)) rfl hb rfl dX1_countHung_23 ?_
      refine la_bipush (v := -4) B dX1_countHung_24 (by decide) ?_
      refine la_icmp_eq (tgt := 32) B dX1_countHung_26 (by decide) (fun c26 => ?_) (fun c26 => ?_)
      · refine la_iincp B dX1_countHung_32 rfl (by decide) ?_
        refine la_goto (tgt := 4) B dX1_countHung_35 (by decide) ?_
        refine la_sub (lv2 := [(0, .ref (ad 30)), (1, .int acc), (2, .int (nI (i + 1)))]) ⟨rfl, rfl, (congrArg (fun z => some (Value.int z)) (nI_1 i)), trivial⟩ (by simp [Value.category]) ?_
        exact ih (i + 1) acc (by omega) (by rw [hr]; simp only [LX1_countHung, if_pos c26])
      · refine la_iincp B dX1_countHung_29 rfl (by decide) ?_
        refine la_iincp B dX1_countHung_32 rfl (by decide) ?_
        refine la_goto (tgt := 4) B dX1_countHung_35 (by decide) ?_
        refine la_sub (lv2 := [(0, .ref (ad 30)), (1, .int ((acc + 1))), (2, .int (nI (i + 1)))]) ⟨rfl, rfl, (congrArg (fun z => some (Value.int z)) (nI_1 i)), trivial⟩ (by simp [Value.category]) ?_
        exact ih (i + 1) (acc + 1) (by omega) (by rw [hr]; simp only [LX1_countHung, if_neg c26])

def fX1_countHung (h : lh_HS)  : Int32 := (LX1_countHung h (lh_N h 6) 0 0)
set_option maxHeartbeats 4000000 in
set_option maxRecDepth 100000 in
theorem ct_X1_countHung {l : Launch} {D : va_G} {ad : Nat → Nat} {bs : Nat} {cI cZ : ClassId} {t9 : Nat} {k : Bool} (h : lh_HS)  (hN : h 6 0 = nI (lh_N h 6)) (hM : lh_N h 6 ≤ 5) : lh_CTi l D ad bs cI cZ t9 k yX1_countHung cX1_countHung 3 (some .int) 0 [.ref (ad 30)] h (fX1_countHung h ) h := by
  refine lh_ofi (lv := [(0, .ref (ad 30))]) (by decide) (Nat.le_of_ble_eq_true rfl) rfl (by simp [Value.category]) ⟨rfl, trivial⟩ ?_
  intro p e s m args below meth c B
  have B : lh_BK p (lh_rm 0) s m args meth c D ad bs cI cZ t9 k "LightHours$Hanging" cX1_countHung 3 (some .int) := B
  refine la_iconst (v := 0) B dX1_countHung_0 (by decide) ?_
  refine la_istore_n (i := 1) B dX1_countHung_1 rfl (by decide) ?_
  refine la_iconst (v := 0) B dX1_countHung_2 (by decide) ?_
  refine la_istore_n (i := 2) B dX1_countHung_3 rfl (by decide) ?_
  refine la_sub (lv2 := [(0, .ref (ad 30)), (1, .int 0), (2, .int (nI 0))]) ⟨rfl, rfl, rfl, trivial⟩ (by simp [Value.category]) ?_
  exact lp_X1_countHung h B hN hM _ 0 0 (Nat.zero_add _) (by simp only [fX1_countHung])

def LX1_lightOn (h : lh_HS) (sn : Int32) : Nat → Nat → Int32 → Int32
  | 0, i, acc => acc
  | n + 1, i, acc => (if (h 31 (nI i).toNatClampNeg) = sn then (LX1_lightOn h sn n (i + 1) (acc + (h 34 (nI i).toNatClampNeg))) else (LX1_lightOn h sn n (i + 1) acc))
set_option maxHeartbeats 4000000 in
set_option maxRecDepth 100000 in
theorem lp_X1_lightOn {l : Launch} {D : va_G} {ad : Nat → Nat} {bs : Nat} {cI cZ : ClassId} {t9 : Nat} {k : Bool} {p : Program} {e : Env} {s : State} {m : MethodId} {args : Array Value} {below : List Frame} {meth : Method} {c : Code} (h : lh_HS) (sn : Int32) {r : Int32} (B : lh_BK p (lh_rm 0) s m args meth c D ad bs cI cZ t9 k "LightHours$Hanging" cX1_lightOn 4 (some .int)) {N : Nat} (hN : h 6 0 = nI N) (hM : N ≤ 5) :
    ∀ (n i : Nat) (acc : Int32), i + n = N → r = LX1_lightOn h sn n i acc → lh_AJ p l e (lh_rm 0) s m args below meth c D ad bs cI cZ k 4 (MQ below (lh_Qi D ad bs cI cZ k r h) args s 0 0 (lh_A bs)) 4 [(0, .ref (ad 30)), (1, .int sn), (2, .int acc), (3, .int (nI i))] [] h := by
  intro n
  induction n with
  | zero =>
    intro i acc hi hr
    have hexit : h 6 0 ≤ nI i := by rw [hN]; exact nI_le (by omega) (by omega)
    refine la_iload_n (i := 3) B dX1_lightOn_4 rfl rfl ?_
    refine la_aload_n (i := 0) B dX1_lightOn_5 rfl rfl ?_
    refine la_get (i := 30) (ci := 1) (j := 0) (C := RX1) (T := TX1) (N := 10) B (lh_nc_lt (by decide)) rfl ix_1 rfl (by decide) wd_276 rfl rfl dX1_lightOn_6 ?_
    refine la_get (i := 1) (ci := 2) (j := 4) (C := RX2) (T := TX2) (N := 5) B (lh_nc_lt (by decide)) rfl ix_2 rfl (by decide) wd_228 rfl rfl dX1_lightOn_9 ?_
    refine la_get (i := 6) (ci := 7) (j := 0) (v := .int (h 6 0)) (C := RX7) (T := TX7) (N := 4) B (lh_nc_lt (by decide)) rfl ix_7 rfl (by decide) wd_194 rfl rfl dX1_lightOn_12 ?_
    refine la_icmp_ge (tgt := 43) B dX1_lightOn_15 (by decide) (fun c15 => ?_) (fun c15 => ?_)
    · refine la_iload_n (i := 2) B dX1_lightOn_43 rfl rfl ?_
      exact la_ireturn B rfl (by rw [hr]; simp only [LX1_lightOn]) rfl dX1_lightOn_44
    · exact absurd hexit c15
  | succ n ih =>
    intro i acc hi hr
    have hcont : ¬ h 6 0 ≤ nI i := by rw [hN]; exact nI_ge (by omega) (by omega)
    have hb : vp_in (nI i) 5 := vp_in_nI (by omega) (by omega)
    refine la_iload_n (i := 3) B dX1_lightOn_4 rfl rfl ?_
    refine la_aload_n (i := 0) B dX1_lightOn_5 rfl rfl ?_
    refine la_get (i := 30) (ci := 1) (j := 0) (C := RX1) (T := TX1) (N := 10) B (lh_nc_lt (by decide)) rfl ix_1 rfl (by decide) wd_276 rfl rfl dX1_lightOn_6 ?_
    refine la_get (i := 1) (ci := 2) (j := 4) (C := RX2) (T := TX2) (N := 5) B (lh_nc_lt (by decide)) rfl ix_2 rfl (by decide) wd_228 rfl rfl dX1_lightOn_9 ?_
    refine la_get (i := 6) (ci := 7) (j := 0) (v := .int (h 6 0)) (C := RX7) (T := TX7) (N := 4) B (lh_nc_lt (by decide)) rfl ix_7 rfl (by decide) wd_194 rfl rfl dX1_lightOn_12 ?_
    refine la_icmp_ge (tgt := 43) B dX1_lightOn_15 (by decide) (fun c15 => ?_) (fun c15 => ?_)
    · exact absurd c15 hcont
    · refine la_aload_n (i := 0) B dX1_lightOn_18 rfl rfl ?_
      refine la_get (i := 30) (ci := 1) (j := 3) (C := RX1) (T := TX1) (N := 10) B (lh_nc_lt (by decide)) rfl ix_1 rfl (by decide) wd_279 rfl rfl dX1_lightOn_19 ?_
      refine la_iload_n (i := 3) B dX1_lightOn_22 rfl rfl ?_
      refine la_iald (i := 31) (v := h 31 (nI i).toNatClampNeg) B (lh_nc_lt (by decide)) rfl hb rfl dX1_lightOn_23 ?_
      refine la_iload_n (i := 1) B dX1_lightOn_24 rfl rfl ?_
      refine la_icmp_ne (tgt := 37) B dX1_lightOn_25 (by decide) (fun c25 => ?_) (fun c25 => ?_)
      · refine la_iincp B dX1_lightOn_37 rfl (by decide) ?_
        refine la_goto (tgt := 4) B dX1_lightOn_40 (by decide) ?_
        refine la_sub (lv2 := [(0, .ref (ad 30)), (1, .int sn), (2, .int acc), (3, .int (nI (i + 1)))]) ⟨rfl, rfl, rfl, (congrArg (fun z => some (Value.int z)) (nI_1 i)), trivial⟩ (by simp [Value.category]) ?_
        exact ih (i + 1) acc (by omega) (by rw [hr]; simp only [LX1_lightOn, if_neg c25])
      · refine la_iload_n (i := 2) B dX1_lightOn_28 rfl rfl ?_
        refine la_aload_n (i := 0) B dX1_lightOn_29 rfl rfl ?_
        refine la_get (i := 30) (ci := 1) (j := 7) (C := RX1) (T := TX1) (N := 10) B (lh_nc_lt (by decide)) rfl ix_1 rfl (by decide) wd_285 rfl rfl dX1_lightOn_30 ?_
        refine la_iload_n (i := 3) B dX1_lightOn_33 rfl rfl ?_
        refine la_iald (i := 34) (v := h 34 (nI i).toNatClampNeg) B (lh_nc_lt (by decide)) rfl hb rfl dX1_lightOn_34 ?_
        refine la_iadd B dX1_lightOn_35 ?_
        refine la_istore_n (i := 2) B dX1_lightOn_36 rfl (by decide) ?_
        refine la_iincp B dX1_lightOn_37 rfl (by decide) ?_
        refine la_goto (tgt := 4) B dX1_lightOn_40 (by decide) ?_
        refine la_sub (lv2 := [(0, .ref (ad 30)), (1, .int sn), (2, .int ((acc + (h 34 (nI i).toNatClampNeg)))), (3, .int (nI (i + 1)))]) ⟨rfl, rfl, rfl, (congrArg (fun z => some (Value.int z)) (nI_1 i)), trivial⟩ (by simp [Value.category]) ?_
        exact ih (i + 1) (acc + (h 34 (nI i).toNatClampNeg)) (by omega) (by rw [hr]; simp only [LX1_lightOn, if_pos c25])

def fX1_lightOn (h : lh_HS) (sn : Int32) : Int32 := (LX1_lightOn h sn (lh_N h 6) 0 0)
set_option maxHeartbeats 4000000 in
set_option maxRecDepth 100000 in
theorem ct_X1_lightOn {l : Launch} {D : va_G} {ad : Nat → Nat} {bs : Nat} {cI cZ : ClassId} {t9 : Nat} {k : Bool} (h : lh_HS) (sn : Int32) (hN : h 6 0 = nI (lh_N h 6)) (hM : lh_N h 6 ≤ 5) : lh_CTi l D ad bs cI cZ t9 k yX1_lightOn cX1_lightOn 4 (some .int) 0 [.ref (ad 30), .int sn] h (fX1_lightOn h sn) h := by
  refine lh_ofi (lv := [(0, .ref (ad 30)), (1, .int sn)]) (by decide) (Nat.le_of_ble_eq_true rfl) rfl (by simp [Value.category]) ⟨rfl, rfl, trivial⟩ ?_
  intro p e s m args below meth c B
  have B : lh_BK p (lh_rm 0) s m args meth c D ad bs cI cZ t9 k "LightHours$Hanging" cX1_lightOn 4 (some .int) := B
  refine la_iconst (v := 0) B dX1_lightOn_0 (by decide) ?_
  refine la_istore_n (i := 2) B dX1_lightOn_1 rfl (by decide) ?_
  refine la_iconst (v := 0) B dX1_lightOn_2 (by decide) ?_
  refine la_istore_n (i := 3) B dX1_lightOn_3 rfl (by decide) ?_
  refine la_sub (lv2 := [(0, .ref (ad 30)), (1, .int sn), (2, .int 0), (3, .int (nI 0))]) ⟨rfl, rfl, rfl, rfl, trivial⟩ (by simp [Value.category]) ?_
  exact lp_X1_lightOn h sn B hN hM _ 0 0 (Nat.zero_add _) (by simp only [fX1_lightOn])
