def LX0_countOf (h : lh_HS) (s : Int32) : Nat → Nat → Int32 → Int32
  | 0, i, acc => acc
  | n + 1, i, acc => (if (fX0_standsFor h (nI i) s) = 0 then (LX0_countOf h s n (i + 1) acc) else (LX0_countOf h s n (i + 1) (acc + 1)))
set_option maxHeartbeats 4000000 in
set_option maxRecDepth 100000 in
theorem lp_X0_countOf {l : Launch} {D : va_G} {ad : Nat → Nat} {bs : Nat} {cI cZ : ClassId} {t9 : Nat} {k : Bool} {p : Program} {e : Env} {s : State} {m : MethodId} {args : Array Value} {below : List Frame} {meth : Method} {c : Code} (h : lh_HS) (s : Int32) {r : Int32} (B : lh_BK p (lh_rm 1) s m args meth c D ad bs cI cZ t9 k "LightHours$Bookings" cX0_countOf 4 (some .int)) {N : Nat} (hN : h 4 0 = nI N) (hM : N ≤ 30) :
    ∀ (n i : Nat) (acc : Int32), i + n = N → r = LX0_countOf h s n i acc → lh_AJ p l e (lh_rm 1) s m args below meth c D ad bs cI cZ k 4 (MQ below (lh_Qi D ad bs cI cZ k r h) args s 0 0 (lh_A bs)) 4 [(0, .ref (ad 4)), (1, .int s), (2, .int acc), (3, .int (nI i))] [] h := by
  intro n
  induction n with
  | zero =>
    intro i acc hi hr
    have hexit : h 4 0 ≤ nI i := by rw [hN]; exact nI_le (by omega) (by omega)
    refine la_iload_n (i := 3) B dX0_countOf_4 rfl rfl ?_
    refine la_aload_n (i := 0) B dX0_countOf_5 rfl rfl ?_
    refine la_get (i := 4) (ci := 0) (j := 0) (v := .int (h 4 0)) (C := RX0) (T := TX0) (N := 6) B (lh_nc_lt (by decide)) rfl ix_0 rfl (by decide) wd_133 rfl rfl dX0_countOf_6 ?_
    refine la_icmp_ge (tgt := 30) B dX0_countOf_9 (by decide) (fun c9 => ?_) (fun c9 => ?_)
    · refine la_iload_n (i := 2) B dX0_countOf_30 rfl rfl ?_
      exact la_ireturn B rfl (by rw [hr]; simp only [LX0_countOf]) rfl dX0_countOf_31
    · exact absurd hexit c9
  | succ n ih =>
    intro i acc hi hr
    have hcont : ¬ h 4 0 ≤ nI i := by rw [hN]; exact nI_ge (by omega) (by omega)
    have hb : vp_in (nI i) 30 := vp_in_nI (by omega) (by omega)
    refine la_iload_n (i := 3) B dX0_countOf_4 rfl rfl ?_
    refine la_aload_n (i := 0) B dX0_countOf_5 rfl rfl ?_
    refine la_get (i := 4) (ci := 0) (j := 0) (v := .int (h 4 0)) (C := RX0) (T := TX0) (N := 6) B (lh_nc_lt (by decide)) rfl ix_0 rfl (by decide) wd_133 rfl rfl dX0_countOf_6 ?_
    refine la_icmp_ge (tgt := 30) B dX0_countOf_9 (by decide) (fun c9 => ?_) (fun c9 => ?_)
    · exact absurd c9 hcont
    · refine la_aload_n (i := 0) B dX0_countOf_12 rfl rfl ?_
      refine la_iload_n (i := 3) B dX0_countOf_13 rfl rfl ?_
      refine la_iload_n (i := 1) B dX0_countOf_14 rfl rfl ?_
      refine la_callVi (i := 4) B (ct_X0_standsFor h (nI i) s hb) lk_X0_36 (by decide) (lh_nc_lt (by decide)) rfl rfl rfl (by simp [Value.category]) dX0_countOf_15 ?_
      refine la_if_eq (tgt := 24) B dX0_countOf_18 (by decide) (fun c18 => ?_) (fun c18 => ?_)
      · refine la_iincp B dX0_countOf_24 rfl (by decide) ?_
        refine la_goto (tgt := 4) B dX0_countOf_27 (by decide) ?_
        refine la_sub (lv2 := [(0, .ref (ad 4)), (1, .int s), (2, .int acc), (3, .int (nI (i + 1)))]) ⟨rfl, rfl, rfl, (congrArg (fun z => some (Value.int z)) (nI_1 i)), trivial⟩ (by simp [Value.category]) ?_
        exact ih (i + 1) acc (by omega) (by rw [hr]; simp only [LX0_countOf, if_pos c18])
      · refine la_iincp B dX0_countOf_21 rfl (by decide) ?_
        refine la_iincp B dX0_countOf_24 rfl (by decide) ?_
        refine la_goto (tgt := 4) B dX0_countOf_27 (by decide) ?_
        refine la_sub (lv2 := [(0, .ref (ad 4)), (1, .int s), (2, .int ((acc + 1))), (3, .int (nI (i + 1)))]) ⟨rfl, rfl, rfl, (congrArg (fun z => some (Value.int z)) (nI_1 i)), trivial⟩ (by simp [Value.category]) ?_
        exact ih (i + 1) (acc + 1) (by omega) (by rw [hr]; simp only [LX0_countOf, if_neg c18])
