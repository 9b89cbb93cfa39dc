theorem lh_min {h : lh_HS} {n a b : Int32} : ¬ fX9_in h n a b = 0 ↔ a.toInt ≤ n.toInt ∧ n.toInt ≤ b.toInt := by
  have e : fX9_in h n a b = fX8_within h n a b := rfl
  rw [e]; exact lh_within_iff
theorem lh_mis {h : lh_HS} {k M : Nat} {kd n : Int32} (hk : kd.toNatClampNeg = k) (hc : lh_mc h k M) (hM : M < 2 ^ 30) (c : ¬ fX9_is h kd n = 0) : lh_ix n (lh_m h k) := by
  have c2 := lh_min.mp c
  rw [hk, hc.1] at c2
  have hm := hc.2
  rw [lh_ix_iff (by omega)]
  have e := pk_sub_toInt (a := lh_m h k) (b := 1) (by omega) (by omega)
  have e1 : (nI (lh_m h k) - 1).toInt = (lh_m h k : Int) - 1 := e
  have e0 : (0 : Int32).toInt = 0 := by decide
  omega
theorem lh_myear {h : lh_HS} {n : Int32} (c : ¬ fX9_isYear h n = 0) : lh_ix n 10 := by
  have := lh_min.mp c
  rw [lh_ix_iff (by omega)]
  have e0 : (0 : Int32).toInt = 0 := by decide
  have e9 : (9 : Int32).toInt = 9 := by decide
  omega
theorem lh_mne {h : lh_HS} {k M : Nat} {x : Int32} (hc : lh_mc h k M) (hx : x = nI M) (c : ¬ h 38 k = x) : lh_ix (h 38 k) M := by
  have h2 := hc.2
  rw [hc.1] at c ⊢
  refine ⟨_, ?_, rfl⟩
  rcases Nat.lt_or_ge (lh_m h k) M with q | q
  · exact q
  · exact absurd (by rw [hx, show lh_m h k = M from by omega]) c
theorem lh_of4 {h : lh_HS} {sn wh : Int32} (hs : lh_ix sn 8) (c1 : ¬ fX9_in h wh 0 7 = 0) (c2 : ¬ 4 ≤ wh) : vp_in (7 * sn + wh) 56 := by
  have c3 := lh_min.mp c1
  rw [Int32.le_iff_toInt_le] at c2
  have e0 : (0 : Int32).toInt = 0 := by decide
  have e4 : (4 : Int32).toInt = 4 := by decide
  have hw : lh_ix wh 4 := by rw [lh_ix_iff (by omega)]; omega
  obtain ⟨j, hj, rfl⟩ := hw
  obtain ⟨q, hq, rfl⟩ := hs
  rw [show (7 : Int32) = nI 7 from rfl, pk_mul, nI_add]
  exact vp_in_nI (by omega) (by omega)
def LX9_findPast_h (sn : Int32) : Nat → Nat → lh_HS → lh_HS
  | 0, i, h => (if (h 37 10) ≤ (h 37 11) then lh_up h 37 12 0 else lh_up (lh_up (lh_up h 37 12 1) 37 10 (h 41 ((7 * sn) + 5).toNatClampNeg)) 37 11 (h 41 ((7 * sn) + 6).toNatClampNeg))
  | n + 1, i, h => (if (h 43 (3 * (nI i)).toNatClampNeg) = sn then (if ((h 45 (h 43 ((3 * (nI i)) + 2).toNatClampNeg).toNatClampNeg) - (fX9_booked h sn (h 43 ((3 * (nI i)) + 1).toNatClampNeg) 1)) ≤ (h 37 10) then (if (h 37 11) ≤ (((h 45 ((h 43 ((3 * (nI i)) + 2).toNatClampNeg) + 1).toNatClampNeg) - 1) - (fX9_booked h sn (h 43 ((3 * (nI i)) + 1).toNatClampNeg) 0)) then (LX9_findPast_h sn n (i + 1) (lh_up (lh_up h 37 10 (h 37 10)) 37 11 (h 37 11))) else (LX9_findPast_h sn n (i + 1) (lh_up (lh_up h 37 10 (h 37 10)) 37 11 (((h 45 ((h 43 ((3 * (nI i)) + 2).toNatClampNeg) + 1).toNatClampNeg) - 1) - (fX9_booked h sn (h 43 ((3 * (nI i)) + 1).toNatClampNeg) 0))))) else (if (h 37 11) ≤ (((h 45 ((h 43 ((3 * (nI i)) + 2).toNatClampNeg) + 1).toNatClampNeg) - 1) - (fX9_booked h sn (h 43 ((3 * (nI i)) + 1).toNatClampNeg) 0)) then (LX9_findPast_h sn n (i + 1) (lh_up (lh_up h 37 10 ((h 45 (h 43 ((3 * (nI i)) + 2).toNatClampNeg).toNatClampNeg) - (fX9_booked h sn (h 43 ((3 * (nI i)) + 1).toNatClampNeg) 1))) 37 11 (h 37 11))) else (LX9_findPast_h sn n (i + 1) (lh_up (lh_up h 37 10 ((h 45 (h 43 ((3 * (nI i)) + 2).toNatClampNeg).toNatClampNeg) - (fX9_booked h sn (h 43 ((3 * (nI i)) + 1).toNatClampNeg) 1))) 37 11 (((h 45 ((h 43 ((3 * (nI i)) + 2).toNatClampNeg) + 1).toNatClampNeg) - 1) - (fX9_booked h sn (h 43 ((3 * (nI i)) + 1).toNatClampNeg) 0)))))) else (LX9_findPast_h sn n (i + 1) h))
set_option maxHeartbeats 4000000 in
set_option maxRecDepth 100000 in
theorem lp_X9_findPast {l : Launch} {D : va_G} {ad : Nat → Nat} {bs : Nat} {cI cZ : ClassId} {t9 : Nat} {k : Bool} {p : Program} {e : Env} {s : State} {m : MethodId} {args : Array Value} {below : List Frame} {meth : Method} {c : Code} (sn : Int32) {h2 : lh_HS} (B : lh_BK p (lh_rm 3) s m args meth c D ad bs cI cZ t9 k "LightHoursModel" cX9_findPast 7 none) {h0 : lh_HS} (J0 : lh_J h0) {N : Nat} (hN0 : N = lh_m h0 3) (hs : lh_ix sn 8) :
    ∀ (n i : Nat) (h : lh_HS), i + n = N → h2 = LX9_findPast_h sn n i h → lh_fm h0 h → lh_AJ p l e (lh_rm 3) s m args below meth c D ad bs cI cZ k 7 (MQ below (lh_Qv D ad bs cI cZ k h2) args s 0 0 (lh_A bs)) 33 [(0, .ref (ad 37)), (1, .int sn), (2, .int (nI i))] [] h := by
  intro n
  induction n with
  | zero =>
    intro i h hi hh hv
    have J := J0.fm hv
    have hM := J0.1.2.2.2.1.2
    have hN : h 38 3 = nI N := by rw [hv 38 (by decide) (by decide), hN0]; exact J0.1.2.2.2.1.1
    have hexit : h 38 3 ≤ nI i := by rw [hN]; exact nI_le (by omega) (by omega)
    refine la_iload_n (i := 2) B dX9_findPast_33 rfl rfl ?_
    refine la_aload_n (i := 0) B dX9_findPast_34 rfl rfl ?_
    refine la_get (i := 37) (ci := 9) (j := 0) (C := RX9) (T := TX9) (N := 18) B (lh_nc_lt (by decide)) rfl ix_9 rfl (by decide) wd_673 rfl rfl dX9_findPast_35 ?_
    refine la_iconst (v := 3) B dX9_findPast_38 (by decide) ?_
    refine la_iald (i := 38) (v := h 38 3) B (lh_nc_lt (by decide)) rfl (by unfold vp_in; decide) rfl dX9_findPast_39 ?_
    refine la_icmp_ge (tgt := 166) B dX9_findPast_40 (by decide) (fun c40 => ?_) (fun c40 => ?_)
    · refine la_aload_n (i := 0) B dX9_findPast_166 rfl rfl ?_
      refine la_aload_n (i := 0) B dX9_findPast_167 rfl rfl ?_
      refine la_get (i := 37) (ci := 9) (j := 10) (v := .int (h 37 10)) (C := RX9) (T := TX9) (N := 18) B (lh_nc_lt (by decide)) rfl ix_9 rfl (by decide) wd_683 rfl rfl dX9_findPast_168 ?_
      refine la_aload_n (i := 0) B dX9_findPast_171 rfl rfl ?_
      refine la_get (i := 37) (ci := 9) (j := 11) (v := .int (h 37 11)) (C := RX9) (T := TX9) (N := 18) B (lh_nc_lt (by decide)) rfl ix_9 rfl (by decide) wd_684 rfl rfl dX9_findPast_172 ?_
      refine la_icmp_le (tgt := 182) B dX9_findPast_175 (by decide) (fun c175 => ?_) (fun c175 => ?_)
      · refine la_iconst (v := 0) B dX9_findPast_182 (by decide) ?_
        refine la_put (i := 37) (ci := 9) (j := 12) (C := RX9) (T := TX9) (N := 18) (ty0 := tyX9) B (lh_nc_lt (by decide)) rfl rfl ix_9 tyX9_ok nmX9 rfl (by decide) wd_685 rfl rfl rfl rfl rfl (Nat.le_of_ble_eq_true rfl) dX9_findPast_183 ?_
        refine la_aload_n (i := 0) B dX9_findPast_186 rfl rfl ?_
        refine la_get (i := 37) (ci := 9) (j := 12) (v := .int 0) (C := RX9) (T := TX9) (N := 18) B (lh_nc_lt (by decide)) rfl ix_9 rfl (by decide) wd_685 rfl rfl dX9_findPast_187 ?_
        refine la_if_eq (tgt := 224) B dX9_findPast_190 (by decide) (fun c190 => ?_) (fun c190 => ?_)
        · exact la_return B rfl (by rw [hh]; simp only [LX9_findPast_h, if_pos c175]) dX9_findPast_224
        · exact absurd c190 (by decide)
      · refine la_iconst (v := 1) B dX9_findPast_178 (by decide) ?_
        refine la_goto (tgt := 183) B dX9_findPast_179 (by decide) ?_
        refine la_put (i := 37) (ci := 9) (j := 12) (C := RX9) (T := TX9) (N := 18) (ty0 := tyX9) B (lh_nc_lt (by decide)) rfl rfl ix_9 tyX9_ok nmX9 rfl (by decide) wd_685 rfl rfl rfl rfl rfl (Nat.le_of_ble_eq_true rfl) dX9_findPast_183 ?_
        refine la_aload_n (i := 0) B dX9_findPast_186 rfl rfl ?_
        refine la_get (i := 37) (ci := 9) (j := 12) (v := .int 1) (C := RX9) (T := TX9) (N := 18) B (lh_nc_lt (by decide)) rfl ix_9 rfl (by decide) wd_685 rfl rfl dX9_findPast_187 ?_
        refine la_if_eq (tgt := 224) B dX9_findPast_190 (by decide) (fun c190 => ?_) (fun c190 => ?_)
        · exact absurd c190 (by decide)
        · refine la_aload_n (i := 0) B dX9_findPast_193 rfl rfl ?_
          refine la_aload_n (i := 0) B dX9_findPast_194 rfl rfl ?_
          refine la_get (i := 37) (ci := 9) (j := 3) (C := RX9) (T := TX9) (N := 18) B (lh_nc_lt (by decide)) rfl ix_9 rfl (by decide) wd_676 rfl rfl dX9_findPast_195 ?_
          refine la_bipush (v := 7) B dX9_findPast_198 (by decide) ?_
          refine la_iload_n (i := 1) B dX9_findPast_200 rfl rfl ?_
          refine la_imul B dX9_findPast_201 ?_
          refine la_iconst (v := 5) B dX9_findPast_202 (by decide) ?_
          refine la_iadd B dX9_findPast_203 ?_
          refine la_iald (i := 41) (v := h 41 ((7 * sn) + 5).toNatClampNeg) B (lh_nc_lt (by decide)) rfl (lh_lin 7 5 hs (by decide) (by decide)) rfl dX9_findPast_204 ?_
          refine la_put (i := 37) (ci := 9) (j := 10) (C := RX9) (T := TX9) (N := 18) (ty0 := tyX9) B (lh_nc_lt (by decide)) rfl rfl ix_9 tyX9_ok nmX9 rfl (by decide) wd_683 rfl rfl rfl rfl rfl (Nat.le_of_ble_eq_true rfl) dX9_findPast_205 ?_
          refine la_aload_n (i := 0) B dX9_findPast_208 rfl rfl ?_
          refine la_aload_n (i := 0) B dX9_findPast_209 rfl rfl ?_
          refine la_get (i := 37) (ci := 9) (j := 3) (C := RX9) (T := TX9) (N := 18) B (lh_nc_lt (by decide)) rfl ix_9 rfl (by decide) wd_676 rfl rfl dX9_findPast_210 ?_
          refine la_bipush (v := 7) B dX9_findPast_213 (by decide) ?_
          refine la_iload_n (i := 1) B dX9_findPast_215 rfl rfl ?_
          refine la_imul B dX9_findPast_216 ?_
          refine la_bipush (v := 6) B dX9_findPast_217 (by decide) ?_
          refine la_iadd B dX9_findPast_219 ?_
          refine la_iald (i := 41) (v := h 41 ((7 * sn) + 6).toNatClampNeg) B (lh_nc_lt (by decide)) rfl (lh_lin 7 6 hs (by decide) (by decide)) rfl dX9_findPast_220 ?_
          refine la_put (i := 37) (ci := 9) (j := 11) (C := RX9) (T := TX9) (N := 18) (ty0 := tyX9) B (lh_nc_lt (by decide)) rfl rfl ix_9 tyX9_ok nmX9 rfl (by decide) wd_684 rfl rfl rfl rfl rfl (Nat.le_of_ble_eq_true rfl) dX9_findPast_221 ?_
          exact la_return B rfl (by rw [hh]; simp only [LX9_findPast_h, if_neg c175]) dX9_findPast_224
    · exact absurd hexit c40
  | succ n ih =>
    intro i h hi hh hv
    have J := J0.fm hv
    have hM := J0.1.2.2.2.1.2
    have hN : h 38 3 = nI N := by rw [hv 38 (by decide) (by decide), hN0]; exact J0.1.2.2.2.1.1
    have hcont : ¬ h 38 3 ≤ nI i := by rw [hN]; exact nI_ge (by omega) (by omega)
    have hti : lh_ix (nI i) 12 := lh_ix_nI (by omega)
    obtain ⟨g1, g2⟩ := J0.2.2.1 i (by omega)
    have e2 : ((3 * nI i) + 2).toNatClampNeg = 3 * i + 2 := lh_at (k := 3) (c := 2) (by omega)
    have ht : vp_in (h 43 ((3 * nI i) + 2).toNatClampNeg) 9 := by
      rw [hv 43 (by decide) (by decide), e2]
      exact g2.vp (by omega) (by omega)
    have ht1 : vp_in (h 43 ((3 * nI i) + 2).toNatClampNeg + 1) 9 := by
      rw [hv 43 (by decide) (by decide), e2]
      obtain ⟨j, hj, e⟩ := g2
      rw [e, nI_1]
      exact vp_in_nI (by omega) (by omega)
    refine la_iload_n (i := 2) B dX9_findPast_33 rfl rfl ?_
    refine la_aload_n (i := 0) B dX9_findPast_34 rfl rfl ?_
    refine la_get (i := 37) (ci := 9) (j := 0) (C := RX9) (T := TX9) (N := 18) B (lh_nc_lt (by decide)) rfl ix_9 rfl (by decide) wd_673 rfl rfl dX9_findPast_35 ?_
    refine la_iconst (v := 3) B dX9_findPast_38 (by decide) ?_
    refine la_iald (i := 38) (v := h 38 3) B (lh_nc_lt (by decide)) rfl (by unfold vp_in; decide) rfl dX9_findPast_39 ?_
    refine la_icmp_ge (tgt := 166) B dX9_findPast_40 (by decide) (fun c40 => ?_) (fun c40 => ?_)
    · exact absurd c40 hcont
    · refine la_aload_n (i := 0) B dX9_findPast_43 rfl rfl ?_
      refine la_get (i := 37) (ci := 9) (j := 5) (C := RX9) (T := TX9) (N := 18) B (lh_nc_lt (by decide)) rfl ix_9 rfl (by decide) wd_678 rfl rfl dX9_findPast_44 ?_
      refine la_iconst (v := 3) B dX9_findPast_47 (by decide) ?_
      refine la_iload_n (i := 2) B dX9_findPast_48 rfl rfl ?_
      refine la_imul B dX9_findPast_49 ?_
      refine la_iald (i := 43) (v := h 43 (3 * (nI i)).toNatClampNeg) B (lh_nc_lt (by decide)) rfl (lh_lin0 3 hti (by decide) (by decide)) rfl dX9_findPast_50 ?_
      refine la_iload_n (i := 1) B dX9_findPast_51 rfl rfl ?_
      refine la_icmp_ne (tgt := 160) B dX9_findPast_52 (by decide) (fun c52 => ?_) (fun c52 => ?_)
      · refine la_iincp B dX9_findPast_160 rfl (by decide) ?_
        refine la_goto (tgt := 33) B dX9_findPast_163 (by decide) ?_
        refine la_sub (lv2 := [(0, .ref (ad 37)), (1, .int sn), (2, .int (nI (i + 1)))]) ⟨rfl, rfl, (congrArg (fun z => some (Value.int z)) (nI_1 i)), trivial⟩ (by simp [Value.category]) ?_
        exact ih (i + 1) h (by omega) (by rw [hh]; simp only [LX9_findPast_h, if_neg c52]) hv
      · refine la_aload_n (i := 0) B dX9_findPast_55 rfl rfl ?_
        refine la_get (i := 37) (ci := 9) (j := 5) (C := RX9) (T := TX9) (N := 18) B (lh_nc_lt (by decide)) rfl ix_9 rfl (by decide) wd_678 rfl rfl dX9_findPast_56 ?_
        refine la_iconst (v := 3) B dX9_findPast_59 (by decide) ?_
        refine la_iload_n (i := 2) B dX9_findPast_60 rfl rfl ?_
        refine la_imul B dX9_findPast_61 ?_
        refine la_iconst (v := 1) B dX9_findPast_62 (by decide) ?_
        refine la_iadd B dX9_findPast_63 ?_
        refine la_iald (i := 43) (v := h 43 ((3 * (nI i)) + 1).toNatClampNeg) B (lh_nc_lt (by decide)) rfl (lh_lin 3 1 hti (by decide) (by decide)) rfl dX9_findPast_64 ?_
        refine la_istore_n (i := 3) B dX9_findPast_65 rfl (by decide) ?_
        refine la_aload_n (i := 0) B dX9_findPast_66 rfl rfl ?_
        refine la_get (i := 37) (ci := 9) (j := 5) (C := RX9) (T := TX9) (N := 18) B (lh_nc_lt (by decide)) rfl ix_9 rfl (by decide) wd_678 rfl rfl dX9_findPast_67 ?_
        refine la_iconst (v := 3) B dX9_findPast_70 (by decide) ?_
        refine la_iload_n (i := 2) B dX9_findPast_71 rfl rfl ?_
        refine la_imul B dX9_findPast_72 ?_
        refine la_iconst (v := 2) B dX9_findPast_73 (by decide) ?_
        refine la_iadd B dX9_findPast_74 ?_
        refine la_iald (i := 43) (v := h 43 ((3 * (nI i)) + 2).toNatClampNeg) B (lh_nc_lt (by decide)) rfl (lh_lin 3 2 hti (by decide) (by decide)) rfl dX9_findPast_75 ?_
        refine la_istore B dX9_findPast_76 (by decide) ?_
        refine la_aload_n (i := 0) B dX9_findPast_78 rfl rfl ?_
        refine la_get (i := 37) (ci := 9) (j := 7) (C := RX9) (T := TX9) (N := 18) B (lh_nc_lt (by decide)) rfl ix_9 rfl (by decide) wd_680 rfl rfl dX9_findPast_79 ?_
        refine la_iload B dX9_findPast_82 rfl ?_
        refine la_iald (i := 45) (v := h 45 (h 43 ((3 * (nI i)) + 2).toNatClampNeg).toNatClampNeg) B (lh_nc_lt (by decide)) rfl ht rfl dX9_findPast_84 ?_
        refine la_aload_n (i := 0) B dX9_findPast_85 rfl rfl ?_
        refine la_iload_n (i := 1) B dX9_findPast_86 rfl rfl ?_
        refine la_iload_n (i := 3) B dX9_findPast_87 rfl rfl ?_
        refine la_iconst (v := 1) B dX9_findPast_88 (by decide) ?_
        refine la_callVi (i := 37) B (ct_X9_booked h sn (h 43 ((3 * (nI i)) + 1).toNatClampNeg) 1 J) lk_X9_84 (by decide) (lh_nc_lt (by decide)) rfl rfl rfl (by simp [Value.category]) dX9_findPast_89 ?_
        refine la_isub B dX9_findPast_92 ?_
        refine la_istore B dX9_findPast_93 (by decide) ?_
        refine la_aload_n (i := 0) B dX9_findPast_95 rfl rfl ?_
        refine la_get (i := 37) (ci := 9) (j := 7) (C := RX9) (T := TX9) (N := 18) B (lh_nc_lt (by decide)) rfl ix_9 rfl (by decide) wd_680 rfl rfl dX9_findPast_96 ?_
        refine la_iload B dX9_findPast_99 rfl ?_
        refine la_iconst (v := 1) B dX9_findPast_101 (by decide) ?_
        refine la_iadd B dX9_findPast_102 ?_
        refine la_iald (i := 45) (v := h 45 ((h 43 ((3 * (nI i)) + 2).toNatClampNeg) + 1).toNatClampNeg) B (lh_nc_lt (by decide)) rfl ht1 rfl dX9_findPast_103 ?_
        refine la_iconst (v := 1) B dX9_findPast_104 (by decide) ?_
        refine la_isub B dX9_findPast_105 ?_
        refine la_aload_n (i := 0) B dX9_findPast_106 rfl rfl ?_
        refine la_iload_n (i := 1) B dX9_findPast_107 rfl rfl ?_
        refine la_iload_n (i := 3) B dX9_findPast_108 rfl rfl ?_
        refine la_iconst (v := 0) B dX9_findPast_109 (by decide) ?_
        refine la_callVi (i := 37) B (ct_X9_booked h sn (h 43 ((3 * (nI i)) + 1).toNatClampNeg) 0 J) lk_X9_84 (by decide) (lh_nc_lt (by decide)) rfl rfl rfl (by simp [Value.category]) dX9_findPast_110 ?_
        refine la_isub B dX9_findPast_113 ?_
        refine la_istore B dX9_findPast_114 (by decide) ?_
        refine la_aload_n (i := 0) B dX9_findPast_116 rfl rfl ?_
        refine la_iload B dX9_findPast_117 rfl ?_
        refine la_aload_n (i := 0) B dX9_findPast_119 rfl rfl ?_
        refine la_get (i := 37) (ci := 9) (j := 10) (v := .int (h 37 10)) (C := RX9) (T := TX9) (N := 18) B (lh_nc_lt (by decide)) rfl ix_9 rfl (by decide) wd_683 rfl rfl dX9_findPast_120 ?_
        refine la_icmp_le (tgt := 131) B dX9_findPast_123 (by decide) (fun c123 => ?_) (fun c123 => ?_)
        · refine la_aload_n (i := 0) B dX9_findPast_131 rfl rfl ?_
          refine la_get (i := 37) (ci := 9) (j := 10) (v := .int (h 37 10)) (C := RX9) (T := TX9) (N := 18) B (lh_nc_lt (by decide)) rfl ix_9 rfl (by decide) wd_683 rfl rfl dX9_findPast_132 ?_
          refine la_put (i := 37) (ci := 9) (j := 10) (C := RX9) (T := TX9) (N := 18) (ty0 := tyX9) B (lh_nc_lt (by decide)) rfl rfl ix_9 tyX9_ok nmX9 rfl (by decide) wd_683 rfl rfl rfl rfl rfl (Nat.le_of_ble_eq_true rfl) dX9_findPast_135 ?_
          refine la_aload_n (i := 0) B dX9_findPast_138 rfl rfl ?_
          refine la_iload B dX9_findPast_139 rfl ?_
          refine la_aload_n (i := 0) B dX9_findPast_141 rfl rfl ?_
          refine la_get (i := 37) (ci := 9) (j := 11) (v := .int (h 37 11)) (C := RX9) (T := TX9) (N := 18) B (lh_nc_lt (by decide)) rfl ix_9 rfl (by decide) wd_684 rfl rfl dX9_findPast_142 ?_
          refine la_icmp_ge (tgt := 153) B dX9_findPast_145 (by decide) (fun c145 => ?_) (fun c145 => ?_)
          · refine la_aload_n (i := 0) B dX9_findPast_153 rfl rfl ?_
            refine la_get (i := 37) (ci := 9) (j := 11) (v := .int (h 37 11)) (C := RX9) (T := TX9) (N := 18) B (lh_nc_lt (by decide)) rfl ix_9 rfl (by decide) wd_684 rfl rfl dX9_findPast_154 ?_
            refine la_put (i := 37) (ci := 9) (j := 11) (C := RX9) (T := TX9) (N := 18) (ty0 := tyX9) B (lh_nc_lt (by decide)) rfl rfl ix_9 tyX9_ok nmX9 rfl (by decide) wd_684 rfl rfl rfl rfl rfl (Nat.le_of_ble_eq_true rfl) dX9_findPast_157 ?_
            refine la_iincp B dX9_findPast_160 rfl (by decide) ?_
            refine la_goto (tgt := 33) B dX9_findPast_163 (by decide) ?_
            refine la_sub (lv2 := [(0, .ref (ad 37)), (1, .int sn), (2, .int (nI (i + 1)))]) ⟨rfl, rfl, (congrArg (fun z => some (Value.int z)) (nI_1 i)), trivial⟩ (by simp [Value.category]) ?_
            exact ih (i + 1) (lh_up (lh_up h 37 10 (h 37 10)) 37 11 (h 37 11)) (by omega) (by rw [hh]; simp only [LX9_findPast_h, if_pos c52, if_pos c123, if_pos c145]) ((hv.up (i := 37) (Or.inl (by decide))).up (i := 37) (Or.inl (by decide)))
          · refine la_iload B dX9_findPast_148 rfl ?_
            refine la_goto (tgt := 157) B dX9_findPast_150 (by decide) ?_
            refine la_put (i := 37) (ci := 9) (j := 11) (C := RX9) (T := TX9) (N := 18) (ty0 := tyX9) B (lh_nc_lt (by decide)) rfl rfl ix_9 tyX9_ok nmX9 rfl (by decide) wd_684 rfl rfl rfl rfl rfl (Nat.le_of_ble_eq_true rfl) dX9_findPast_157 ?_
            refine la_iincp B dX9_findPast_160 rfl (by decide) ?_
            refine la_goto (tgt := 33) B dX9_findPast_163 (by decide) ?_
            refine la_sub (lv2 := [(0, .ref (ad 37)), (1, .int sn), (2, .int (nI (i + 1)))]) ⟨rfl, rfl, (congrArg (fun z => some (Value.int z)) (nI_1 i)), trivial⟩ (by simp [Value.category]) ?_
            exact ih (i + 1) (lh_up (lh_up h 37 10 (h 37 10)) 37 11 (((h 45 ((h 43 ((3 * (nI i)) + 2).toNatClampNeg) + 1).toNatClampNeg) - 1) - (fX9_booked h sn (h 43 ((3 * (nI i)) + 1).toNatClampNeg) 0))) (by omega) (by rw [hh]; simp only [LX9_findPast_h, if_pos c52, if_pos c123, if_neg c145]) ((hv.up (i := 37) (Or.inl (by decide))).up (i := 37) (Or.inl (by decide)))
        · refine la_iload B dX9_findPast_126 rfl ?_
          refine la_goto (tgt := 135) B dX9_findPast_128 (by decide) ?_
          refine la_put (i := 37) (ci := 9) (j := 10) (C := RX9) (T := TX9) (N := 18) (ty0 := tyX9) B (lh_nc_lt (by decide)) rfl rfl ix_9 tyX9_ok nmX9 rfl (by decide) wd_683 rfl rfl rfl rfl rfl (Nat.le_of_ble_eq_true rfl) dX9_findPast_135 ?_
          refine la_aload_n (i := 0) B dX9_findPast_138 rfl rfl ?_
          refine la_iload B dX9_findPast_139 rfl ?_
          refine la_aload_n (i := 0) B dX9_findPast_141 rfl rfl ?_
          refine la_get (i := 37) (ci := 9) (j := 11) (v := .int (h 37 11)) (C := RX9) (T := TX9) (N := 18) B (lh_nc_lt (by decide)) rfl ix_9 rfl (by decide) wd_684 rfl rfl dX9_findPast_142 ?_
          refine la_icmp_ge (tgt := 153) B dX9_findPast_145 (by decide) (fun c145 => ?_) (fun c145 => ?_)
          · refine la_aload_n (i := 0) B dX9_findPast_153 rfl rfl ?_
            refine la_get (i := 37) (ci := 9) (j := 11) (v := .int (h 37 11)) (C := RX9) (T := TX9) (N := 18) B (lh_nc_lt (by decide)) rfl ix_9 rfl (by decide) wd_684 rfl rfl dX9_findPast_154 ?_
            refine la_put (i := 37) (ci := 9) (j := 11) (C := RX9) (T := TX9) (N := 18) (ty0 := tyX9) B (lh_nc_lt (by decide)) rfl rfl ix_9 tyX9_ok nmX9 rfl (by decide) wd_684 rfl rfl rfl rfl rfl (Nat.le_of_ble_eq_true rfl) dX9_findPast_157 ?_
            refine la_iincp B dX9_findPast_160 rfl (by decide) ?_
            refine la_goto (tgt := 33) B dX9_findPast_163 (by decide) ?_
            refine la_sub (lv2 := [(0, .ref (ad 37)), (1, .int sn), (2, .int (nI (i + 1)))]) ⟨rfl, rfl, (congrArg (fun z => some (Value.int z)) (nI_1 i)), trivial⟩ (by simp [Value.category]) ?_
            exact ih (i + 1) (lh_up (lh_up h 37 10 ((h 45 (h 43 ((3 * (nI i)) + 2).toNatClampNeg).toNatClampNeg) - (fX9_booked h sn (h 43 ((3 * (nI i)) + 1).toNatClampNeg) 1))) 37 11 (h 37 11)) (by omega) (by rw [hh]; simp only [LX9_findPast_h, if_pos c52, if_neg c123, if_pos c145]) ((hv.up (i := 37) (Or.inl (by decide))).up (i := 37) (Or.inl (by decide)))
          · refine la_iload B dX9_findPast_148 rfl ?_
            refine la_goto (tgt := 157) B dX9_findPast_150 (by decide) ?_
            refine la_put (i := 37) (ci := 9) (j := 11) (C := RX9) (T := TX9) (N := 18) (ty0 := tyX9) B (lh_nc_lt (by decide)) rfl rfl ix_9 tyX9_ok nmX9 rfl (by decide) wd_684 rfl rfl rfl rfl rfl (Nat.le_of_ble_eq_true rfl) dX9_findPast_157 ?_
            refine la_iincp B dX9_findPast_160 rfl (by decide) ?_
            refine la_goto (tgt := 33) B dX9_findPast_163 (by decide) ?_
            refine la_sub (lv2 := [(0, .ref (ad 37)), (1, .int sn), (2, .int (nI (i + 1)))]) ⟨rfl, rfl, (congrArg (fun z => some (Value.int z)) (nI_1 i)), trivial⟩ (by simp [Value.category]) ?_
            exact ih (i + 1) (lh_up (lh_up h 37 10 ((h 45 (h 43 ((3 * (nI i)) + 2).toNatClampNeg).toNatClampNeg) - (fX9_booked h sn (h 43 ((3 * (nI i)) + 1).toNatClampNeg) 1))) 37 11 (((h 45 ((h 43 ((3 * (nI i)) + 2).toNatClampNeg) + 1).toNatClampNeg) - 1) - (fX9_booked h sn (h 43 ((3 * (nI i)) + 1).toNatClampNeg) 0))) (by omega) (by rw [hh]; simp only [LX9_findPast_h, if_pos c52, if_neg c123, if_neg c145]) ((hv.up (i := 37) (Or.inl (by decide))).up (i := 37) (Or.inl (by decide)))

def gX9_findPast (h : lh_HS) (sn : Int32) : lh_HS := (LX9_findPast_h sn (lh_m h 3) 0 (lh_up (lh_up h 37 10 (h 41 ((7 * sn) + 5).toNatClampNeg)) 37 11 (h 41 ((7 * sn) + 6).toNatClampNeg)))
set_option maxHeartbeats 4000000 in
set_option maxRecDepth 100000 in
theorem ct_X9_findPast {l : Launch} {D : va_G} {ad : Nat → Nat} {bs : Nat} {cI cZ : ClassId} {t9 : Nat} {k : Bool} (h : lh_HS) (sn : Int32) (J : lh_J h) (hs : lh_ix sn 8) : lh_CTv l D ad bs cI cZ t9 k yX9_findPast cX9_findPast 7 3 [.ref (ad 37), .int sn] h (gX9_findPast h sn) := by
  refine lh_ofv (lv := [(0, .ref (ad 37)), (1, .int sn)]) (by decide) (Nat.le_of_ble_eq_true rfl) rfl (by simp [Value.category]) ⟨rfl, rfl, trivial⟩ ?_
  intro p e s m args below meth c B
  have B : lh_BK p (lh_rm 3) s m args meth c D ad bs cI cZ t9 k "LightHoursModel" cX9_findPast 7 none := B
  refine la_aload_n (i := 0) B dX9_findPast_0 rfl rfl ?_
  refine la_aload_n (i := 0) B dX9_findPast_1 rfl rfl ?_
  refine la_get (i := 37) (ci := 9) (j := 3) (C := RX9) (T := TX9) (N := 18) B (lh_nc_lt (by decide)) rfl ix_9 rfl (by decide) wd_676 rfl rfl dX9_findPast_2 ?_
  refine la_bipush (v := 7) B dX9_findPast_5 (by decide) ?_
  refine la_iload_n (i := 1) B dX9_findPast_7 rfl rfl ?_
  refine la_imul B dX9_findPast_8 ?_
  refine la_iconst (v := 5) B dX9_findPast_9 (by decide) ?_
  refine la_iadd B dX9_findPast_10 ?_
  refine la_iald (i := 41) (v := h 41 ((7 * sn) + 5).toNatClampNeg) B (lh_nc_lt (by decide)) rfl (lh_lin 7 5 hs (by decide) (by decide)) rfl dX9_findPast_11 ?_
  refine la_put (i := 37) (ci := 9) (j := 10) (C := RX9) (T := TX9) (N := 18) (ty0 := tyX9) B (lh_nc_lt (by decide)) rfl rfl ix_9 tyX9_ok nmX9 rfl (by decide) wd_683 rfl rfl rfl rfl rfl (Nat.le_of_ble_eq_true rfl) dX9_findPast_12 ?_
  refine la_aload_n (i := 0) B dX9_findPast_15 rfl rfl ?_
  refine la_aload_n (i := 0) B dX9_findPast_16 rfl rfl ?_
  refine la_get (i := 37) (ci := 9) (j := 3) (C := RX9) (T := TX9) (N := 18) B (lh_nc_lt (by decide)) rfl ix_9 rfl (by decide) wd_676 rfl rfl dX9_findPast_17 ?_
  refine la_bipush (v := 7) B dX9_findPast_20 (by decide) ?_
  refine la_iload_n (i := 1) B dX9_findPast_22 rfl rfl ?_
  refine la_imul B dX9_findPast_23 ?_
  refine la_bipush (v := 6) B dX9_findPast_24 (by decide) ?_
  refine la_iadd B dX9_findPast_26 ?_
  refine la_iald (i := 41) (v := h 41 ((7 * sn) + 6).toNatClampNeg) B (lh_nc_lt (by decide)) rfl (lh_lin 7 6 hs (by decide) (by decide)) rfl dX9_findPast_27 ?_
  refine la_put (i := 37) (ci := 9) (j := 11) (C := RX9) (T := TX9) (N := 18) (ty0 := tyX9) B (lh_nc_lt (by decide)) rfl rfl ix_9 tyX9_ok nmX9 rfl (by decide) wd_684 rfl rfl rfl rfl rfl (Nat.le_of_ble_eq_true rfl) dX9_findPast_28 ?_
  refine la_iconst (v := 0) B dX9_findPast_31 (by decide) ?_
  refine la_istore_n (i := 2) B dX9_findPast_32 rfl (by decide) ?_
  refine la_sub (lv2 := [(0, .ref (ad 37)), (1, .int sn), (2, .int (nI 0))]) ⟨rfl, rfl, rfl, trivial⟩ (by simp [Value.category]) ?_
  exact lp_X9_findPast sn B J rfl hs _ 0 (lh_up (lh_up h 37 10 (h 41 ((7 * sn) + 5).toNatClampNeg)) 37 11 (h 41 ((7 * sn) + 6).toNatClampNeg)) (Nat.zero_add _) (by simp only [gX9_findPast]) (((lh_fm.rf h).up (i := 37) (Or.inl (by decide))).up (i := 37) (Or.inl (by decide)))

theorem ne_LfindPast (sn : Int32) : ∀ (n i : Nat) (h : lh_HS) (q z : Nat), (q ≠ 37 ∨ (z ≠ 10 ∧ z ≠ 11 ∧ z ≠ 12)) → LX9_findPast_h sn n i h q z = h q z := by
  intro n
  induction n with
  | zero =>
    intro i h q z hq
    simp only [LX9_findPast_h]
    repeat' split
    all_goals (repeat rw [lh_up_ne (by omega)])
  | succ n ih =>
    intro i h q z hq
    simp only [LX9_findPast_h]
    repeat' split
    all_goals (rw [ih _ _ q z hq]; repeat rw [lh_up_ne (by omega)])
theorem ne_findPast (h : lh_HS) (sn : Int32) (q z : Nat) (hq : q ≠ 37 ∨ (z ≠ 10 ∧ z ≠ 11 ∧ z ≠ 12)) : gX9_findPast h sn q z = h q z := by
  unfold gX9_findPast
  rw [ne_LfindPast _ _ _ _ _ _ hq, lh_up_ne (by omega), lh_up_ne (by omega)]
theorem fm_findPast {a h : lh_HS} (f : lh_fm a h) (sn : Int32) : lh_fm a (gX9_findPast h sn) := fun q h1 h2 => by
  rw [← f q h1 h2]; funext z; exact ne_findPast h sn q z (Or.inl (by omega))
def fX9_spentOf (h : lh_HS) (sn : Int32) (yr : Int32) (gr : Int32) : Int32 := (if gr = 0 then ((gX9_findPast h sn) 37 10) + (fX9_booked (gX9_findPast h sn) sn yr gr) else ((gX9_findPast h sn) 37 11) + (fX9_booked (gX9_findPast h sn) sn yr gr))
def gX9_spentOf (h : lh_HS) (sn : Int32) (yr : Int32) (gr : Int32) : lh_HS := gX9_findPast h sn
set_option maxHeartbeats 4000000 in
set_option maxRecDepth 100000 in
theorem ct_X9_spentOf {l : Launch} {D : va_G} {ad : Nat → Nat} {bs : Nat} {cI cZ : ClassId} {t9 : Nat} {k : Bool} (h : lh_HS) (sn : Int32) (yr : Int32) (gr : Int32) (J : lh_J h) (hs : lh_ix sn 8) : lh_CTi l D ad bs cI cZ t9 k yX9_spentOf cX9_spentOf 4 (some .int) 4 [.ref (ad 37), .int sn, .int yr, .int gr] h (fX9_spentOf h sn yr gr) (gX9_spentOf h sn yr gr) := by
  refine lh_ofi (lv := [(0, .ref (ad 37)), (1, .int sn), (2, .int yr), (3, .int gr)]) (by decide) (Nat.le_of_ble_eq_true rfl) rfl (by simp [Value.category]) ⟨rfl, rfl, rfl, rfl, trivial⟩ ?_
  intro p e s m args below meth c B
  have B : lh_BK p (lh_rm 4) s m args meth c D ad bs cI cZ t9 k "LightHoursModel" cX9_spentOf 4 (some .int) := B
  refine la_aload_n (i := 0) B dX9_spentOf_0 rfl rfl ?_
  refine la_iload_n (i := 1) B dX9_spentOf_1 rfl rfl ?_
  refine la_callVv (i := 37) B (ct_X9_findPast h sn J hs) lk_X9_91 (by decide) (lh_nc_lt (by decide)) rfl rfl rfl (by simp [Value.category]) dX9_spentOf_2 ?_
  refine la_iload_n (i := 3) B dX9_spentOf_5 rfl rfl ?_
  refine la_if_eq (tgt := 16) B dX9_spentOf_6 (by decide) (fun c6 => ?_) (fun c6 => ?_)
  · refine la_aload_n (i := 0) B dX9_spentOf_16 rfl rfl ?_
    refine la_get (i := 37) (ci := 9) (j := 10) (v := .int ((gX9_findPast h sn) 37 10)) (C := RX9) (T := TX9) (N := 18) B (lh_nc_lt (by decide)) rfl ix_9 rfl (by decide) wd_683 rfl rfl dX9_spentOf_17 ?_
    refine la_aload_n (i := 0) B dX9_spentOf_20 rfl rfl ?_
    refine la_iload_n (i := 1) B dX9_spentOf_21 rfl rfl ?_
    refine la_iload_n (i := 2) B dX9_spentOf_22 rfl rfl ?_
    refine la_iload_n (i := 3) B dX9_spentOf_23 rfl rfl ?_
    refine la_callVi (i := 37) B (ct_X9_booked (gX9_findPast h sn) sn yr gr (J.fm (fm_findPast (lh_fm.rf h) sn))) lk_X9_84 (by decide) (lh_nc_lt (by decide)) rfl rfl rfl (by simp [Value.category]) dX9_spentOf_24 ?_
    refine la_iadd B dX9_spentOf_27 ?_
    exact la_ireturn B rfl (by simp only [fX9_spentOf, if_pos c6]) (by simp only [gX9_spentOf, if_pos c6]) dX9_spentOf_28
  · refine la_aload_n (i := 0) B dX9_spentOf_9 rfl rfl ?_
    refine la_get (i := 37) (ci := 9) (j := 11) (v := .int ((gX9_findPast h sn) 37 11)) (C := RX9) (T := TX9) (N := 18) B (lh_nc_lt (by decide)) rfl ix_9 rfl (by decide) wd_684 rfl rfl dX9_spentOf_10 ?_
    refine la_goto (tgt := 20) B dX9_spentOf_13 (by decide) ?_
    refine la_aload_n (i := 0) B dX9_spentOf_20 rfl rfl ?_
    refine la_iload_n (i := 1) B dX9_spentOf_21 rfl rfl ?_
    refine la_iload_n (i := 2) B dX9_spentOf_22 rfl rfl ?_
    refine la_iload_n (i := 3) B dX9_spentOf_23 rfl rfl ?_
    refine la_callVi (i := 37) B (ct_X9_booked (gX9_findPast h sn) sn yr gr (J.fm (fm_findPast (lh_fm.rf h) sn))) lk_X9_84 (by decide) (lh_nc_lt (by decide)) rfl rfl rfl (by simp [Value.category]) dX9_spentOf_24 ?_
    refine la_iadd B dX9_spentOf_27 ?_
    exact la_ireturn B rfl (by simp only [fX9_spentOf, if_neg c6]) (by simp only [gX9_spentOf, if_neg c6]) dX9_spentOf_28

def fX9_leastLeft (h : lh_HS) (sn : Int32) : Int32 := (h 41 (7 * sn).toNatClampNeg) - (fX9_spentOf h sn 9 1)
def gX9_leastLeft (h : lh_HS) (sn : Int32) : lh_HS := gX9_spentOf h sn 9 1
set_option maxHeartbeats 4000000 in
set_option maxRecDepth 100000 in
theorem ct_X9_leastLeft {l : Launch} {D : va_G} {ad : Nat → Nat} {bs : Nat} {cI cZ : ClassId} {t9 : Nat} {k : Bool} (h : lh_HS) (sn : Int32) (J : lh_J h) (hs : lh_ix sn 8) : lh_CTi l D ad bs cI cZ t9 k yX9_leastLeft cX9_leastLeft 2 (some .int) 5 [.ref (ad 37), .int sn] h (fX9_leastLeft h sn) (gX9_leastLeft h sn) := by
  refine lh_ofi (lv := [(0, .ref (ad 37)), (1, .int sn)]) (by decide) (Nat.le_of_ble_eq_true rfl) rfl (by simp [Value.category]) ⟨rfl, rfl, trivial⟩ ?_
  intro p e s m args below meth c B
  have B : lh_BK p (lh_rm 5) s m args meth c D ad bs cI cZ t9 k "LightHoursModel" cX9_leastLeft 2 (some .int) := B
  refine la_aload_n (i := 0) B dX9_leastLeft_0 rfl rfl ?_
  refine la_get (i := 37) (ci := 9) (j := 3) (C := RX9) (T := TX9) (N := 18) B (lh_nc_lt (by decide)) rfl ix_9 rfl (by decide) wd_676 rfl rfl dX9_leastLeft_1 ?_
  refine la_bipush (v := 7) B dX9_leastLeft_4 (by decide) ?_
  refine la_iload_n (i := 1) B dX9_leastLeft_6 rfl rfl ?_
  refine la_imul B dX9_leastLeft_7 ?_
  refine la_iald (i := 41) (v := h 41 (7 * sn).toNatClampNeg) B (lh_nc_lt (by decide)) rfl (lh_lin0 7 hs (by decide) (by decide)) rfl dX9_leastLeft_8 ?_
  refine la_aload_n (i := 0) B dX9_leastLeft_9 rfl rfl ?_
  refine la_iload_n (i := 1) B dX9_leastLeft_10 rfl rfl ?_
  refine la_bipush (v := 9) B dX9_leastLeft_11 (by decide) ?_
  refine la_iconst (v := 1) B dX9_leastLeft_13 (by decide) ?_
  refine la_callVi (i := 37) B (ct_X9_spentOf h sn 9 1 J hs) lk_X9_95 (by decide) (lh_nc_lt (by decide)) rfl rfl rfl (by simp [Value.category]) dX9_leastLeft_14 ?_
  refine la_isub B dX9_leastLeft_17 ?_
  exact la_ireturn B rfl (by simp only [fX9_leastLeft]) (by simp only [gX9_leastLeft]) dX9_leastLeft_18

theorem ge_spentOf (h : lh_HS) (sn yr gr : Int32) : gX9_spentOf h sn yr gr = gX9_findPast h sn := by
  unfold gX9_spentOf; first | rfl | (split <;> rfl)
theorem ge_leastLeft (h : lh_HS) (sn : Int32) : gX9_leastLeft h sn = gX9_findPast h sn := by
  unfold gX9_leastLeft; rw [ge_spentOf]
theorem fm_leastLeft {a h : lh_HS} (f : lh_fm a h) (sn : Int32) : lh_fm a (gX9_leastLeft h sn) := by rw [ge_leastLeft]; exact fm_findPast f sn
theorem fm_spentOf {a h : lh_HS} (f : lh_fm a h) (sn yr gr : Int32) : lh_fm a (gX9_spentOf h sn yr gr) := by rw [ge_spentOf]; exact fm_findPast f sn
def LX9_room (wo : Int32) (rr : Int32) : Nat → Nat → lh_HS → Int32
  | 0, i, h => fX9_came h 0
  | n + 1, i, h => (LX9_room wo rr n (i + 1) (lh_up h 40 (((10 * rr) + (nI i)).toNatClampNeg) (((-1)))))
def LX9_room_h (wo : Int32) (rr : Int32) : Nat → Nat → lh_HS → lh_HS
  | 0, i, h => gX9_came h 0
  | n + 1, i, h => (LX9_room_h wo rr n (i + 1) (lh_up h 40 (((10 * rr) + (nI i)).toNatClampNeg) (((-1)))))
set_option maxHeartbeats 4000000 in
set_option maxRecDepth 100000 in
theorem lp_X9_room {l : Launch} {D : va_G} {ad : Nat → Nat} {bs : Nat} {cI cZ : ClassId} {t9 : Nat} {k : Bool} {p : Program} {e : Env} {s : State} {m : MethodId} {args : Array Value} {below : List Frame} {meth : Method} {c : Code} (wo : Int32) (rr : Int32) {r : Int32} {h2 : lh_HS} (B : lh_BK p (lh_rm 8) s m args meth c D ad bs cI cZ t9 k "LightHoursModel" cX9_room 4 (some .int)) (hrr : lh_ix rr 4) :
    ∀ (n i : Nat) (h : lh_HS), i + n = 10 → r = LX9_room wo rr n i h → h2 = LX9_room_h wo rr n i h → True → lh_AJ p l e (lh_rm 8) s m args below meth c D ad bs cI cZ k 4 (MQ below (lh_Qi D ad bs cI cZ k r h2) args s 0 0 (lh_A bs)) 42 [(0, .ref (ad 37)), (1, .int wo), (2, .int rr), (3, .int (nI i))] [] h := by
  intro n
  induction n with
  | zero =>
    intro i h hi hr hh hv
    have hexit : (10 : Int32) ≤ nI i := nI_le (a := 10) (by omega) (by omega)
    refine la_iload_n (i := 3) B dX9_room_42 rfl rfl ?_
    refine la_bipush (v := 10) B dX9_room_43 (by decide) ?_
    refine la_icmp_ge (tgt := 66) B dX9_room_45 (by decide) (fun c45 => ?_) (fun c45 => ?_)
    · refine la_aload_n (i := 0) B dX9_room_66 rfl rfl ?_
      refine la_iconst (v := 0) B dX9_room_67 (by decide) ?_
      refine la_callVi (i := 37) B (ct_X9_came h 0 (by unfold vp_in; decide)) lk_X9_51 (by decide) (lh_nc_lt (by decide)) rfl rfl rfl (by simp [Value.category]) dX9_room_68 ?_
      exact la_ireturn B rfl (by rw [hr]; simp only [LX9_room]) (by rw [hh]; simp only [LX9_room_h]) dX9_room_71
    · exact absurd hexit c45
  | succ n ih =>
    intro i h hi hr hh hv
    have hcont : ¬ (10 : Int32) ≤ nI i := nI_ge (b := 10) (by omega) (by omega)
    have hy : lh_ix (nI i) 10 := lh_ix_nI (by omega)
    refine la_iload_n (i := 3) B dX9_room_42 rfl rfl ?_
    refine la_bipush (v := 10) B dX9_room_43 (by decide) ?_
    refine la_icmp_ge (tgt := 66) B dX9_room_45 (by decide) (fun c45 => ?_) (fun c45 => ?_)
    · exact absurd c45 hcont
    · refine la_aload_n (i := 0) B dX9_room_48 rfl rfl ?_
      refine la_get (i := 37) (ci := 9) (j := 2) (C := RX9) (T := TX9) (N := 18) B (lh_nc_lt (by decide)) rfl ix_9 rfl (by decide) wd_675 rfl rfl dX9_room_49 ?_
      refine la_bipush (v := 10) B dX9_room_52 (by decide) ?_
      refine la_iload_n (i := 2) B dX9_room_54 rfl rfl ?_
      refine la_imul B dX9_room_55 ?_
      refine la_iload_n (i := 3) B dX9_room_56 rfl rfl ?_
      refine la_iadd B dX9_room_57 ?_
      refine la_iconst (v := -1) B dX9_room_58 (by decide) ?_
      refine la_iast (i := 40) (j := ((10 * rr) + (nI i)).toNatClampNeg) B (lh_nc_lt (by decide)) rfl rfl (lh_lin2 hrr hy) rfl dX9_room_59 ?_
      refine la_iincp B dX9_room_60 rfl (by decide) ?_
      refine la_goto (tgt := 42) B dX9_room_63 (by decide) ?_
      refine la_sub (lv2 := [(0, .ref (ad 37)), (1, .int wo), (2, .int rr), (3, .int (nI (i + 1)))]) ⟨rfl, rfl, rfl, (congrArg (fun z => some (Value.int z)) (nI_1 i)), trivial⟩ (by simp [Value.category]) ?_
      exact ih (i + 1) (lh_up h 40 (((10 * rr) + (nI i)).toNatClampNeg) (((-1)))) (by omega) (by rw [hr]; simp only [LX9_room]) (by rw [hh]; simp only [LX9_room_h]) trivial

def fX9_room (h : lh_HS) (wo : Int32) : Int32 := (if (fX9_in h wo 1 200) = 0 then (-1) else (if (h 38 0) = 4 then (-2) else (LX9_room wo (h 38 0) 10 0 (lh_up h 39 ((h 38 0).toNatClampNeg) wo))))
def gX9_room (h : lh_HS) (wo : Int32) : lh_HS := (if (fX9_in h wo 1 200) = 0 then h else (if (h 38 0) = 4 then h else (LX9_room_h wo (h 38 0) 10 0 (lh_up h 39 ((h 38 0).toNatClampNeg) wo))))
set_option maxHeartbeats 4000000 in
set_option maxRecDepth 100000 in
theorem ct_X9_room {l : Launch} {D : va_G} {ad : Nat → Nat} {bs : Nat} {cI cZ : ClassId} {t9 : Nat} {k : Bool} (h : lh_HS) (wo : Int32) (J : lh_J h) : lh_CTi l D ad bs cI cZ t9 k yX9_room cX9_room 4 (some .int) 8 [.ref (ad 37), .int wo] h (fX9_room h wo) (gX9_room h wo) := by
  refine lh_ofi (lv := [(0, .ref (ad 37)), (1, .int wo)]) (by decide) (Nat.le_of_ble_eq_true rfl) rfl (by simp [Value.category]) ⟨rfl, rfl, trivial⟩ ?_
  intro p e s m args below meth c B
  have B : lh_BK p (lh_rm 8) s m args meth c D ad bs cI cZ t9 k "LightHoursModel" cX9_room 4 (some .int) := B
  refine la_iload_n (i := 1) B dX9_room_0 rfl rfl ?_
  refine la_iconst (v := 1) B dX9_room_1 (by decide) ?_
  refine la_sipush (v := 200) B dX9_room_2 (by decide) ?_
  refine la_callSi B (ct_X9_in h wo 1 200) lk_X9_47 (by decide) rfl (by simp [Value.category]) dX9_room_5 ?_
  refine la_if_ne (tgt := 13) B dX9_room_8 (by decide) (fun c8 => ?_) (fun c8 => ?_)
  · refine la_aload_n (i := 0) B dX9_room_13 rfl rfl ?_
    refine la_get (i := 37) (ci := 9) (j := 0) (C := RX9) (T := TX9) (N := 18) B (lh_nc_lt (by decide)) rfl ix_9 rfl (by decide) wd_673 rfl rfl dX9_room_14 ?_
    refine la_iconst (v := 0) B dX9_room_17 (by decide) ?_
    refine la_iald (i := 38) (v := h 38 0) B (lh_nc_lt (by decide)) rfl (by unfold vp_in; decide) rfl dX9_room_18 ?_
    refine la_iconst (v := 4) B dX9_room_19 (by decide) ?_
    refine la_icmp_ne (tgt := 26) B dX9_room_20 (by decide) (fun c20 => ?_) (fun c20 => ?_)
    · refine la_aload_n (i := 0) B dX9_room_26 rfl rfl ?_
      refine la_get (i := 37) (ci := 9) (j := 0) (C := RX9) (T := TX9) (N := 18) B (lh_nc_lt (by decide)) rfl ix_9 rfl (by decide) wd_673 rfl rfl dX9_room_27 ?_
      refine la_iconst (v := 0) B dX9_room_30 (by decide) ?_
      refine la_iald (i := 38) (v := h 38 0) B (lh_nc_lt (by decide)) rfl (by unfold vp_in; decide) rfl dX9_room_31 ?_
      refine la_istore_n (i := 2) B dX9_room_32 rfl (by decide) ?_
      refine la_aload_n (i := 0) B dX9_room_33 rfl rfl ?_
      refine la_get (i := 37) (ci := 9) (j := 1) (C := RX9) (T := TX9) (N := 18) B (lh_nc_lt (by decide)) rfl ix_9 rfl (by decide) wd_674 rfl rfl dX9_room_34 ?_
      refine la_iload_n (i := 2) B dX9_room_37 rfl rfl ?_
      refine la_iload_n (i := 1) B dX9_room_38 rfl rfl ?_
      refine la_iast (i := 39) (j := (h 38 0).toNatClampNeg) B (lh_nc_lt (by decide)) rfl rfl ((lh_mne J.1.1 rfl c20).vp (by decide) (by decide)) rfl dX9_room_39 ?_
      refine la_iconst (v := 0) B dX9_room_40 (by decide) ?_
      refine la_istore_n (i := 3) B dX9_room_41 rfl (by decide) ?_
      refine la_sub (lv2 := [(0, .ref (ad 37)), (1, .int wo), (2, .int (h 38 0)), (3, .int (nI 0))]) ⟨rfl, rfl, rfl, rfl, trivial⟩ (by simp [Value.category]) ?_
      exact lp_X9_room wo (h 38 0) B (lh_mne J.1.1 rfl c20) _ 0 (lh_up h 39 ((h 38 0).toNatClampNeg) wo) (Nat.zero_add _) (by simp only [fX9_room, if_neg c8, if_neg c20]) (by simp only [gX9_room, if_neg c8, if_neg c20]) trivial
    · refine la_bipush (v := -2) B dX9_room_23 (by decide) ?_
      exact la_ireturn B rfl (by simp only [fX9_room, if_neg c8, if_pos c20]) (by simp only [gX9_room, if_neg c8, if_pos c20]) dX9_room_25
  · refine la_iconst (v := -1) B dX9_room_11 (by decide) ?_
    exact la_ireturn B rfl (by simp only [fX9_room, if_pos c8]) (by simp only [gX9_room, if_pos c8]) dX9_room_12

def fX9_reading (h : lh_HS) (rn : Int32) (yr : Int32) (vv : Int32) : Int32 := (if (fX9_is h 0 rn) = 0 then (-1) else (if (fX9_isYear h yr) = 0 then (-1) else (if (fX9_in h vv ((-1)) (h 39 rn.toNatClampNeg)) = 0 then (-1) else 1)))
def gX9_reading (h : lh_HS) (rn : Int32) (yr : Int32) (vv : Int32) : lh_HS := (if (fX9_is h 0 rn) = 0 then h else (if (fX9_isYear h yr) = 0 then h else (if (fX9_in h vv ((-1)) (h 39 rn.toNatClampNeg)) = 0 then h else lh_up h 40 (((10 * rn) + yr).toNatClampNeg) vv)))
set_option maxHeartbeats 4000000 in
set_option maxRecDepth 100000 in
theorem ct_X9_reading {l : Launch} {D : va_G} {ad : Nat → Nat} {bs : Nat} {cI cZ : ClassId} {t9 : Nat} {k : Bool} (h : lh_HS) (rn : Int32) (yr : Int32) (vv : Int32) (J : lh_J h) : lh_CTi l D ad bs cI cZ t9 k yX9_reading cX9_reading 4 (some .int) 8 [.ref (ad 37), .int rn, .int yr, .int vv] h (fX9_reading h rn yr vv) (gX9_reading h rn yr vv) := by
  refine lh_ofi (lv := [(0, .ref (ad 37)), (1, .int rn), (2, .int yr), (3, .int vv)]) (by decide) (Nat.le_of_ble_eq_true rfl) rfl (by simp [Value.category]) ⟨rfl, rfl, rfl, rfl, trivial⟩ ?_
  intro p e s m args below meth c B
  have B : lh_BK p (lh_rm 8) s m args meth c D ad bs cI cZ t9 k "LightHoursModel" cX9_reading 4 (some .int) := B
  refine la_aload_n (i := 0) B dX9_reading_0 rfl rfl ?_
  refine la_iconst (v := 0) B dX9_reading_1 (by decide) ?_
  refine la_iload_n (i := 1) B dX9_reading_2 rfl rfl ?_
  refine la_callVi (i := 37) B (ct_X9_is h 0 rn (by unfold vp_in; decide)) lk_X9_55 (by decide) (lh_nc_lt (by decide)) rfl rfl rfl (by simp [Value.category]) dX9_reading_3 ?_
  refine la_if_eq (tgt := 30) B dX9_reading_6 (by decide) (fun c6 => ?_) (fun c6 => ?_)
  · refine la_iconst (v := -1) B dX9_reading_30 (by decide) ?_
    exact la_ireturn B rfl (by simp only [fX9_reading, if_pos c6]) (by simp only [gX9_reading, if_pos c6]) dX9_reading_31
  · refine la_iload_n (i := 2) B dX9_reading_9 rfl rfl ?_
    refine la_callSi B (ct_X9_isYear h yr) lk_X9_59 (by decide) rfl (by simp [Value.category]) dX9_reading_10 ?_
    refine la_if_eq (tgt := 30) B dX9_reading_13 (by decide) (fun c13 => ?_) (fun c13 => ?_)
    · refine la_iconst (v := -1) B dX9_reading_30 (by decide) ?_
      exact la_ireturn B rfl (by simp only [fX9_reading, if_neg c6, if_pos c13]) (by simp only [gX9_reading, if_neg c6, if_pos c13]) dX9_reading_31
    · refine la_iload_n (i := 3) B dX9_reading_16 rfl rfl ?_
      refine la_iconst (v := -1) B dX9_reading_17 (by decide) ?_
      refine la_aload_n (i := 0) B dX9_reading_18 rfl rfl ?_
      refine la_get (i := 37) (ci := 9) (j := 1) (C := RX9) (T := TX9) (N := 18) B (lh_nc_lt (by decide)) rfl ix_9 rfl (by decide) wd_674 rfl rfl dX9_reading_19 ?_
      refine la_iload_n (i := 1) B dX9_reading_22 rfl rfl ?_
      refine la_iald (i := 39) (v := h 39 rn.toNatClampNeg) B (lh_nc_lt (by decide)) rfl (((lh_mis (k := 0) rfl J.1.1 (by decide) c6).mono J.1.1.2).vp (by decide) (by decide)) rfl dX9_reading_23 ?_
      refine la_callSi B (ct_X9_in h vv ((-1)) (h 39 rn.toNatClampNeg)) lk_X9_47 (by decide) rfl (by simp [Value.category]) dX9_reading_24 ?_
      refine la_if_ne (tgt := 32) B dX9_reading_27 (by decide) (fun c27 => ?_) (fun c27 => ?_)
      · refine la_aload_n (i := 0) B dX9_reading_32 rfl rfl ?_
        refine la_get (i := 37) (ci := 9) (j := 2) (C := RX9) (T := TX9) (N := 18) B (lh_nc_lt (by decide)) rfl ix_9 rfl (by decide) wd_675 rfl rfl dX9_reading_33 ?_
        refine la_bipush (v := 10) B dX9_reading_36 (by decide) ?_
        refine la_iload_n (i := 1) B dX9_reading_38 rfl rfl ?_
        refine la_imul B dX9_reading_39 ?_
        refine la_iload_n (i := 2) B dX9_reading_40 rfl rfl ?_
        refine la_iadd B dX9_reading_41 ?_
        refine la_iload_n (i := 3) B dX9_reading_42 rfl rfl ?_
        refine la_iast (i := 40) (j := ((10 * rn) + yr).toNatClampNeg) B (lh_nc_lt (by decide)) rfl rfl (lh_lin2 ((lh_mis (k := 0) rfl J.1.1 (by decide) c6).mono J.1.1.2) (lh_myear c13)) rfl dX9_reading_43 ?_
        refine la_iconst (v := 1) B dX9_reading_44 (by decide) ?_
        exact la_ireturn B rfl (by simp only [fX9_reading, if_neg c6, if_neg c13, if_neg c27]) (by simp only [gX9_reading, if_neg c6, if_neg c13, if_neg c27]) dX9_reading_45
      · refine la_iconst (v := -1) B dX9_reading_30 (by decide) ?_
        exact la_ireturn B rfl (by simp only [fX9_reading, if_neg c6, if_neg c13, if_pos c27]) (by simp only [gX9_reading, if_neg c6, if_neg c13, if_pos c27]) dX9_reading_31

def fX9_light (h : lh_HS) (rn : Int32) (yr : Int32) (gr : Int32) : Int32 := (if (fX9_is h 0 rn) = 0 then (-1) else (if (fX9_isYear h yr) = 0 then (-1) else fX9_lightOf h rn yr gr))
set_option maxHeartbeats 4000000 in
set_option maxRecDepth 100000 in
theorem ct_X9_light {l : Launch} {D : va_G} {ad : Nat → Nat} {bs : Nat} {cI cZ : ClassId} {t9 : Nat} {k : Bool} (h : lh_HS) (rn : Int32) (yr : Int32) (gr : Int32) (J : lh_J h) : lh_CTi l D ad bs cI cZ t9 k yX9_light cX9_light 4 (some .int) 8 [.ref (ad 37), .int rn, .int yr, .int gr] h (fX9_light h rn yr gr) h := by
  refine lh_ofi (lv := [(0, .ref (ad 37)), (1, .int rn), (2, .int yr), (3, .int gr)]) (by decide) (Nat.le_of_ble_eq_true rfl) rfl (by simp [Value.category]) ⟨rfl, rfl, rfl, rfl, trivial⟩ ?_
  intro p e s m args below meth c B
  have B : lh_BK p (lh_rm 8) s m args meth c D ad bs cI cZ t9 k "LightHoursModel" cX9_light 4 (some .int) := B
  refine la_aload_n (i := 0) B dX9_light_0 rfl rfl ?_
  refine la_iconst (v := 0) B dX9_light_1 (by decide) ?_
  refine la_iload_n (i := 1) B dX9_light_2 rfl rfl ?_
  refine la_callVi (i := 37) B (ct_X9_is h 0 rn (by unfold vp_in; decide)) lk_X9_55 (by decide) (lh_nc_lt (by decide)) rfl rfl rfl (by simp [Value.category]) dX9_light_3 ?_
  refine la_if_eq (tgt := 26) B dX9_light_6 (by decide) (fun c6 => ?_) (fun c6 => ?_)
  · refine la_iconst (v := -1) B dX9_light_26 (by decide) ?_
    exact la_ireturn B rfl (by simp only [fX9_light, if_pos c6]) rfl dX9_light_27
  · refine la_iload_n (i := 2) B dX9_light_9 rfl rfl ?_
    refine la_callSi B (ct_X9_isYear h yr) lk_X9_59 (by decide) rfl (by simp [Value.category]) dX9_light_10 ?_
    refine la_if_eq (tgt := 26) B dX9_light_13 (by decide) (fun c13 => ?_) (fun c13 => ?_)
    · refine la_iconst (v := -1) B dX9_light_26 (by decide) ?_
      exact la_ireturn B rfl (by simp only [fX9_light, if_neg c6, if_pos c13]) rfl dX9_light_27
    · refine la_aload_n (i := 0) B dX9_light_16 rfl rfl ?_
      refine la_iload_n (i := 1) B dX9_light_17 rfl rfl ?_
      refine la_iload_n (i := 2) B dX9_light_18 rfl rfl ?_
      refine la_iload_n (i := 3) B dX9_light_19 rfl rfl ?_
      refine la_callVi (i := 37) B (ct_X9_lightOf h rn yr gr ((lh_mis (k := 0) rfl J.1.1 (by decide) c6).mono J.1.1.2) (lh_myear c13)) lk_X9_63 (by decide) (lh_nc_lt (by decide)) rfl rfl rfl (by simp [Value.category]) dX9_light_20 ?_
      refine la_goto (tgt := 27) B dX9_light_23 (by decide) ?_
      exact la_ireturn B rfl (by simp only [fX9_light, if_neg c6, if_neg c13]) rfl dX9_light_27

def fX9_sheet (h : lh_HS) (li : Int32) (th : Int32) (va : Int32) (re : Int32) : Int32 := (if (fX9_in h li 1 2000) = 0 then (-1) else (if (fX9_in h th 1 15) = 0 then (-1) else (if (fX9_in h va 1 9) = 0 then (-1) else (if (fX9_in h re 0 3) = 0 then (-1) else (if (h 38 1) = 8 then (-2) else fX9_came (lh_up (lh_up (lh_up (lh_up (lh_up (lh_up (lh_up h 41 ((7 * (h 38 1)).toNatClampNeg) li) 41 (((7 * (h 38 1)) + 1).toNatClampNeg) th) 41 (((7 * (h 38 1)) + 2).toNatClampNeg) va) 41 (((7 * (h 38 1)) + 3).toNatClampNeg) re) 41 (((7 * (h 38 1)) + 4).toNatClampNeg) (((-1)))) 41 (((7 * (h 38 1)) + 5).toNatClampNeg) 0) 41 (((7 * (h 38 1)) + 6).toNatClampNeg) 0) 1)))))
def gX9_sheet (h : lh_HS) (li : Int32) (th : Int32) (va : Int32) (re : Int32) : lh_HS := (if (fX9_in h li 1 2000) = 0 then h else (if (fX9_in h th 1 15) = 0 then h else (if (fX9_in h va 1 9) = 0 then h else (if (fX9_in h re 0 3) = 0 then h else (if (h 38 1) = 8 then h else gX9_came (lh_up (lh_up (lh_up (lh_up (lh_up (lh_up (lh_up h 41 ((7 * (h 38 1)).toNatClampNeg) li) 41 (((7 * (h 38 1)) + 1).toNatClampNeg) th) 41 (((7 * (h 38 1)) + 2).toNatClampNeg) va) 41 (((7 * (h 38 1)) + 3).toNatClampNeg) re) 41 (((7 * (h 38 1)) + 4).toNatClampNeg) (((-1)))) 41 (((7 * (h 38 1)) + 5).toNatClampNeg) 0) 41 (((7 * (h 38 1)) + 6).toNatClampNeg) 0) 1)))))
set_option maxHeartbeats 4000000 in
set_option maxRecDepth 100000 in
theorem ct_X9_sheet {l : Launch} {D : va_G} {ad : Nat → Nat} {bs : Nat} {cI cZ : ClassId} {t9 : Nat} {k : Bool} (h : lh_HS) (li : Int32) (th : Int32) (va : Int32) (re : Int32) (J : lh_J h) : lh_CTi l D ad bs cI cZ t9 k yX9_sheet cX9_sheet 6 (some .int) 8 [.ref (ad 37), .int li, .int th, .int va, .int re] h (fX9_sheet h li th va re) (gX9_sheet h li th va re) := by
  refine lh_ofi (lv := [(0, .ref (ad 37)), (1, .int li), (2, .int th), (3, .int va), (4, .int re)]) (by decide) (Nat.le_of_ble_eq_true rfl) rfl (by simp [Value.category]) ⟨rfl, rfl, rfl, rfl, rfl, trivial⟩ ?_
  intro p e s m args below meth c B
  have B : lh_BK p (lh_rm 8) s m args meth c D ad bs cI cZ t9 k "LightHoursModel" cX9_sheet 6 (some .int) := B
  refine la_iload_n (i := 1) B dX9_sheet_0 rfl rfl ?_
  refine la_iconst (v := 1) B dX9_sheet_1 (by decide) ?_
  refine la_sipush (v := 2000) B dX9_sheet_2 (by decide) ?_
  refine la_callSi B (ct_X9_in h li 1 2000) lk_X9_47 (by decide) rfl (by simp [Value.category]) dX9_sheet_5 ?_
  refine la_if_eq (tgt := 41) B dX9_sheet_8 (by decide) (fun c8 => ?_) (fun c8 => ?_)
  · refine la_iconst (v := -1) B dX9_sheet_41 (by decide) ?_
    exact la_ireturn B rfl (by simp only [fX9_sheet, if_pos c8]) (by simp only [gX9_sheet, if_pos c8]) dX9_sheet_42
  · refine la_iload_n (i := 2) B dX9_sheet_11 rfl rfl ?_
    refine la_iconst (v := 1) B dX9_sheet_12 (by decide) ?_
    refine la_bipush (v := 15) B dX9_sheet_13 (by decide) ?_
    refine la_callSi B (ct_X9_in h th 1 15) lk_X9_47 (by decide) rfl (by simp [Value.category]) dX9_sheet_15 ?_
    refine la_if_eq (tgt := 41) B dX9_sheet_18 (by decide) (fun c18 => ?_) (fun c18 => ?_)
    · refine la_iconst (v := -1) B dX9_sheet_41 (by decide) ?_
      exact la_ireturn B rfl (by simp only [fX9_sheet, if_neg c8, if_pos c18]) (by simp only [gX9_sheet, if_neg c8, if_pos c18]) dX9_sheet_42
    · refine la_iload_n (i := 3) B dX9_sheet_21 rfl rfl ?_
      refine la_iconst (v := 1) B dX9_sheet_22 (by decide) ?_
      refine la_bipush (v := 9) B dX9_sheet_23 (by decide) ?_
      refine la_callSi B (ct_X9_in h va 1 9) lk_X9_47 (by decide) rfl (by simp [Value.category]) dX9_sheet_25 ?_
      refine la_if_eq (tgt := 41) B dX9_sheet_28 (by decide) (fun c28 => ?_) (fun c28 => ?_)
      · refine la_iconst (v := -1) B dX9_sheet_41 (by decide) ?_
        exact la_ireturn B rfl (by simp only [fX9_sheet, if_neg c8, if_neg c18, if_pos c28]) (by simp only [gX9_sheet, if_neg c8, if_neg c18, if_pos c28]) dX9_sheet_42
      · refine la_iload B dX9_sheet_31 rfl ?_
        refine la_iconst (v := 0) B dX9_sheet_33 (by decide) ?_
        refine la_iconst (v := 3) B dX9_sheet_34 (by decide) ?_
        refine la_callSi B (ct_X9_in h re 0 3) lk_X9_47 (by decide) rfl (by simp [Value.category]) dX9_sheet_35 ?_
        refine la_if_ne (tgt := 43) B dX9_sheet_38 (by decide) (fun c38 => ?_) (fun c38 => ?_)
        · refine la_aload_n (i := 0) B dX9_sheet_43 rfl rfl ?_
          refine la_get (i := 37) (ci := 9) (j := 0) (C := RX9) (T := TX9) (N := 18) B (lh_nc_lt (by decide)) rfl ix_9 rfl (by decide) wd_673 rfl rfl dX9_sheet_44 ?_
          refine la_iconst (v := 1) B dX9_sheet_47 (by decide) ?_
          refine la_iald (i := 38) (v := h 38 1) B (lh_nc_lt (by decide)) rfl (by unfold vp_in; decide) rfl dX9_sheet_48 ?_
          refine la_bipush (v := 8) B dX9_sheet_49 (by decide) ?_
          refine la_icmp_ne (tgt := 57) B dX9_sheet_51 (by decide) (fun c51 => ?_) (fun c51 => ?_)
          · refine la_bipush (v := 7) B dX9_sheet_57 (by decide) ?_
            refine la_aload_n (i := 0) B dX9_sheet_59 rfl rfl ?_
            refine la_get (i := 37) (ci := 9) (j := 0) (C := RX9) (T := TX9) (N := 18) B (lh_nc_lt (by decide)) rfl ix_9 rfl (by decide) wd_673 rfl rfl dX9_sheet_60 ?_
            refine la_iconst (v := 1) B dX9_sheet_63 (by decide) ?_
            refine la_iald (i := 38) (v := h 38 1) B (lh_nc_lt (by decide)) rfl (by unfold vp_in; decide) rfl dX9_sheet_64 ?_
            refine la_imul B dX9_sheet_65 ?_
            refine la_istore B dX9_sheet_66 (by decide) ?_
            refine la_aload_n (i := 0) B dX9_sheet_68 rfl rfl ?_
            refine la_get (i := 37) (ci := 9) (j := 3) (C := RX9) (T := TX9) (N := 18) B (lh_nc_lt (by decide)) rfl ix_9 rfl (by decide) wd_676 rfl rfl dX9_sheet_69 ?_
            refine la_iload B dX9_sheet_72 rfl ?_
            refine la_iload_n (i := 1) B dX9_sheet_74 rfl rfl ?_
            refine la_iast (i := 41) (j := (7 * (h 38 1)).toNatClampNeg) B (lh_nc_lt (by decide)) rfl rfl (lh_lin0 7 (lh_mne J.1.2.1 rfl c51) (by decide) (by decide)) rfl dX9_sheet_75 ?_
            refine la_aload_n (i := 0) B dX9_sheet_76 rfl rfl ?_
            refine la_get (i := 37) (ci := 9) (j := 3) (C := RX9) (T := TX9) (N := 18) B (lh_nc_lt (by decide)) rfl ix_9 rfl (by decide) wd_676 rfl rfl dX9_sheet_77 ?_
            refine la_iload B dX9_sheet_80 rfl ?_
            refine la_iconst (v := 1) B dX9_sheet_82 (by decide) ?_
            refine la_iadd B dX9_sheet_83 ?_
            refine la_iload_n (i := 2) B dX9_sheet_84 rfl rfl ?_
            refine la_iast (i := 41) (j := ((7 * (h 38 1)) + 1).toNatClampNeg) B (lh_nc_lt (by decide)) rfl rfl (lh_lin 7 1 (lh_mne J.1.2.1 rfl c51) (by decide) (by decide)) rfl dX9_sheet_85 ?_
            refine la_aload_n (i := 0) B dX9_sheet_86 rfl rfl ?_
            refine la_get (i := 37) (ci := 9) (j := 3) (C := RX9) (T := TX9) (N := 18) B (lh_nc_lt (by decide)) rfl ix_9 rfl (by decide) wd_676 rfl rfl dX9_sheet_87 ?_
            refine la_iload B dX9_sheet_90 rfl ?_
            refine la_iconst (v := 2) B dX9_sheet_92 (by decide) ?_
            refine la_iadd B dX9_sheet_93 ?_
            refine la_iload_n (i := 3) B dX9_sheet_94 rfl rfl ?_
            refine la_iast (i := 41) (j := ((7 * (h 38 1)) + 2).toNatClampNeg) B (lh_nc_lt (by decide)) rfl rfl (lh_lin 7 2 (lh_mne J.1.2.1 rfl c51) (by decide) (by decide)) rfl dX9_sheet_95 ?_
            refine la_aload_n (i := 0) B dX9_sheet_96 rfl rfl ?_
            refine la_get (i := 37) (ci := 9) (j := 3) (C := RX9) (T := TX9) (N := 18) B (lh_nc_lt (by decide)) rfl ix_9 rfl (by decide) wd_676 rfl rfl dX9_sheet_97 ?_
            refine la_iload B dX9_sheet_100 rfl ?_
            refine la_iconst (v := 3) B dX9_sheet_102 (by decide) ?_
            refine la_iadd B dX9_sheet_103 ?_
            refine la_iload B dX9_sheet_104 rfl ?_
            refine la_iast (i := 41) (j := ((7 * (h 38 1)) + 3).toNatClampNeg) B (lh_nc_lt (by decide)) rfl rfl (lh_lin 7 3 (lh_mne J.1.2.1 rfl c51) (by decide) (by decide)) rfl dX9_sheet_106 ?_
            refine la_aload_n (i := 0) B dX9_sheet_107 rfl rfl ?_
            refine la_get (i := 37) (ci := 9) (j := 3) (C := RX9) (T := TX9) (N := 18) B (lh_nc_lt (by decide)) rfl ix_9 rfl (by decide) wd_676 rfl rfl dX9_sheet_108 ?_
            refine la_iload B dX9_sheet_111 rfl ?_
            refine la_iconst (v := 4) B dX9_sheet_113 (by decide) ?_
            refine la_iadd B dX9_sheet_114 ?_
            refine la_iconst (v := -1) B dX9_sheet_115 (by decide) ?_
            refine la_iast (i := 41) (j := ((7 * (h 38 1)) + 4).toNatClampNeg) B (lh_nc_lt (by decide)) rfl rfl (lh_lin 7 4 (lh_mne J.1.2.1 rfl c51) (by decide) (by decide)) rfl dX9_sheet_116 ?_
            refine la_aload_n (i := 0) B dX9_sheet_117 rfl rfl ?_
            refine la_get (i := 37) (ci := 9) (j := 3) (C := RX9) (T := TX9) (N := 18) B (lh_nc_lt (by decide)) rfl ix_9 rfl (by decide) wd_676 rfl rfl dX9_sheet_118 ?_
            refine la_iload B dX9_sheet_121 rfl ?_
            refine la_iconst (v := 5) B dX9_sheet_123 (by decide) ?_
            refine la_iadd B dX9_sheet_124 ?_
            refine la_iconst (v := 0) B dX9_sheet_125 (by decide) ?_
            refine la_iast (i := 41) (j := ((7 * (h 38 1)) + 5).toNatClampNeg) B (lh_nc_lt (by decide)) rfl rfl (lh_lin 7 5 (lh_mne J.1.2.1 rfl c51) (by decide) (by decide)) rfl dX9_sheet_126 ?_
            refine la_aload_n (i := 0) B dX9_sheet_127 rfl rfl ?_
            refine la_get (i := 37) (ci := 9) (j := 3) (C := RX9) (T := TX9) (N := 18) B (lh_nc_lt (by decide)) rfl ix_9 rfl (by decide) wd_676 rfl rfl dX9_sheet_128 ?_
            refine la_iload B dX9_sheet_131 rfl ?_
            refine la_bipush (v := 6) B dX9_sheet_133 (by decide) ?_
            refine la_iadd B dX9_sheet_135 ?_
            refine la_iconst (v := 0) B dX9_sheet_136 (by decide) ?_
            refine la_iast (i := 41) (j := ((7 * (h 38 1)) + 6).toNatClampNeg) B (lh_nc_lt (by decide)) rfl rfl (lh_lin 7 6 (lh_mne J.1.2.1 rfl c51) (by decide) (by decide)) rfl dX9_sheet_137 ?_
            refine la_aload_n (i := 0) B dX9_sheet_138 rfl rfl ?_
            refine la_iconst (v := 1) B dX9_sheet_139 (by decide) ?_
            refine la_callVi (i := 37) B (ct_X9_came (lh_up (lh_up (lh_up (lh_up (lh_up (lh_up (lh_up h 41 ((7 * (h 38 1)).toNatClampNeg) li) 41 (((7 * (h 38 1)) + 1).toNatClampNeg) th) 41 (((7 * (h 38 1)) + 2).toNatClampNeg) va) 41 (((7 * (h 38 1)) + 3).toNatClampNeg) re) 41 (((7 * (h 38 1)) + 4).toNatClampNeg) (((-1)))) 41 (((7 * (h 38 1)) + 5).toNatClampNeg) 0) 41 (((7 * (h 38 1)) + 6).toNatClampNeg) 0) 1 (by unfold vp_in; decide)) lk_X9_51 (by decide) (lh_nc_lt (by decide)) rfl rfl rfl (by simp [Value.category]) dX9_sheet_140 ?_
            exact la_ireturn B rfl (by simp only [fX9_sheet, if_neg c8, if_neg c18, if_neg c28, if_neg c38, if_neg c51]) (by simp only [gX9_sheet, if_neg c8, if_neg c18, if_neg c28, if_neg c38, if_neg c51]) dX9_sheet_143
          · refine la_bipush (v := -2) B dX9_sheet_54 (by decide) ?_
            exact la_ireturn B rfl (by simp only [fX9_sheet, if_neg c8, if_neg c18, if_neg c28, if_neg c38, if_pos c51]) (by simp only [gX9_sheet, if_neg c8, if_neg c18, if_neg c28, if_neg c38, if_pos c51]) dX9_sheet_56
        · refine la_iconst (v := -1) B dX9_sheet_41 (by decide) ?_
          exact la_ireturn B rfl (by simp only [fX9_sheet, if_neg c8, if_neg c18, if_neg c28, if_pos c38]) (by simp only [gX9_sheet, if_neg c8, if_neg c18, if_neg c28, if_pos c38]) dX9_sheet_42

def fX9_sisters (h : lh_HS) (sa : Int32) (sb : Int32) : Int32 := (if (fX9_is h 1 sa) = 0 then (-1) else (if (fX9_is h 1 sb) = 0 then (-1) else (if sa = sb then (-1) else (if 0 ≤ (fX9_sisterOf h sa) then (-3) else (if (fX9_sisterOf h sb) < 0 then 1 else (-3))))))
def gX9_sisters (h : lh_HS) (sa : Int32) (sb : Int32) : lh_HS := (if (fX9_is h 1 sa) = 0 then h else (if (fX9_is h 1 sb) = 0 then h else (if sa = sb then h else (if 0 ≤ (fX9_sisterOf h sa) then h else (if (fX9_sisterOf h sb) < 0 then lh_up (lh_up h 41 (((7 * sa) + 4).toNatClampNeg) sb) 41 (((7 * sb) + 4).toNatClampNeg) sa else h)))))
set_option maxHeartbeats 4000000 in
set_option maxRecDepth 100000 in
theorem ct_X9_sisters {l : Launch} {D : va_G} {ad : Nat → Nat} {bs : Nat} {cI cZ : ClassId} {t9 : Nat} {k : Bool} (h : lh_HS) (sa : Int32) (sb : Int32) (J : lh_J h) : lh_CTi l D ad bs cI cZ t9 k yX9_sisters cX9_sisters 3 (some .int) 8 [.ref (ad 37), .int sa, .int sb] h (fX9_sisters h sa sb) (gX9_sisters h sa sb) := by
  refine lh_ofi (lv := [(0, .ref (ad 37)), (1, .int sa), (2, .int sb)]) (by decide) (Nat.le_of_ble_eq_true rfl) rfl (by simp [Value.category]) ⟨rfl, rfl, rfl, trivial⟩ ?_
  intro p e s m args below meth c B
  have B : lh_BK p (lh_rm 8) s m args meth c D ad bs cI cZ t9 k "LightHoursModel" cX9_sisters 3 (some .int) := B
  refine la_aload_n (i := 0) B dX9_sisters_0 rfl rfl ?_
  refine la_iconst (v := 1) B dX9_sisters_1 (by decide) ?_
  refine la_iload_n (i := 1) B dX9_sisters_2 rfl rfl ?_
  refine la_callVi (i := 37) B (ct_X9_is h 1 sa (by unfold vp_in; decide)) lk_X9_55 (by decide) (lh_nc_lt (by decide)) rfl rfl rfl (by simp [Value.category]) dX9_sisters_3 ?_
  refine la_if_eq (tgt := 23) B dX9_sisters_6 (by decide) (fun c6 => ?_) (fun c6 => ?_)
  · refine la_iconst (v := -1) B dX9_sisters_23 (by decide) ?_
    exact la_ireturn B rfl (by simp only [fX9_sisters, if_pos c6]) (by simp only [gX9_sisters, if_pos c6]) dX9_sisters_24
  · refine la_aload_n (i := 0) B dX9_sisters_9 rfl rfl ?_
    refine la_iconst (v := 1) B dX9_sisters_10 (by decide) ?_
    refine la_iload_n (i := 2) B dX9_sisters_11 rfl rfl ?_
    refine la_callVi (i := 37) B (ct_X9_is h 1 sb (by unfold vp_in; decide)) lk_X9_55 (by decide) (lh_nc_lt (by decide)) rfl rfl rfl (by simp [Value.category]) dX9_sisters_12 ?_
    refine la_if_eq (tgt := 23) B dX9_sisters_15 (by decide) (fun c15 => ?_) (fun c15 => ?_)
    · refine la_iconst (v := -1) B dX9_sisters_23 (by decide) ?_
      exact la_ireturn B rfl (by simp only [fX9_sisters, if_neg c6, if_pos c15]) (by simp only [gX9_sisters, if_neg c6, if_pos c15]) dX9_sisters_24
    · refine la_iload_n (i := 1) B dX9_sisters_18 rfl rfl ?_
      refine la_iload_n (i := 2) B dX9_sisters_19 rfl rfl ?_
      refine la_icmp_ne (tgt := 25) B dX9_sisters_20 (by decide) (fun c20 => ?_) (fun c20 => ?_)
      · refine la_aload_n (i := 0) B dX9_sisters_25 rfl rfl ?_
        refine la_iload_n (i := 1) B dX9_sisters_26 rfl rfl ?_
        refine la_callVi (i := 37) B (ct_X9_sisterOf h sa ((lh_mis (k := 1) rfl J.1.2.1 (by decide) c6).mono J.1.2.1.2)) lk_X9_67 (by decide) (lh_nc_lt (by decide)) rfl rfl rfl (by simp [Value.category]) dX9_sisters_27 ?_
        refine la_if_ge (tgt := 41) B dX9_sisters_30 (by decide) (fun c30 => ?_) (fun c30 => ?_)
        · refine la_bipush (v := -3) B dX9_sisters_41 (by decide) ?_
          exact la_ireturn B rfl (by simp only [fX9_sisters, if_neg c6, if_neg c15, if_neg c20, if_pos c30]) (by simp only [gX9_sisters, if_neg c6, if_neg c15, if_neg c20, if_pos c30]) dX9_sisters_43
        · refine la_aload_n (i := 0) B dX9_sisters_33 rfl rfl ?_
          refine la_iload_n (i := 2) B dX9_sisters_34 rfl rfl ?_
          refine la_callVi (i := 37) B (ct_X9_sisterOf h sb ((lh_mis (k := 1) rfl J.1.2.1 (by decide) c15).mono J.1.2.1.2)) lk_X9_67 (by decide) (lh_nc_lt (by decide)) rfl rfl rfl (by simp [Value.category]) dX9_sisters_35 ?_
          refine la_if_lt (tgt := 44) B dX9_sisters_38 (by decide) (fun c38 => ?_) (fun c38 => ?_)
          · refine la_aload_n (i := 0) B dX9_sisters_44 rfl rfl ?_
            refine la_get (i := 37) (ci := 9) (j := 3) (C := RX9) (T := TX9) (N := 18) B (lh_nc_lt (by decide)) rfl ix_9 rfl (by decide) wd_676 rfl rfl dX9_sisters_45 ?_
            refine la_bipush (v := 7) B dX9_sisters_48 (by decide) ?_
            refine la_iload_n (i := 1) B dX9_sisters_50 rfl rfl ?_
            refine la_imul B dX9_sisters_51 ?_
            refine la_iconst (v := 4) B dX9_sisters_52 (by decide) ?_
            refine la_iadd B dX9_sisters_53 ?_
            refine la_iload_n (i := 2) B dX9_sisters_54 rfl rfl ?_
            refine la_iast (i := 41) (j := ((7 * sa) + 4).toNatClampNeg) B (lh_nc_lt (by decide)) rfl rfl (lh_lin 7 4 ((lh_mis (k := 1) rfl J.1.2.1 (by decide) c6).mono J.1.2.1.2) (by decide) (by decide)) rfl dX9_sisters_55 ?_
            refine la_aload_n (i := 0) B dX9_sisters_56 rfl rfl ?_
            refine la_get (i := 37) (ci := 9) (j := 3) (C := RX9) (T := TX9) (N := 18) B (lh_nc_lt (by decide)) rfl ix_9 rfl (by decide) wd_676 rfl rfl dX9_sisters_57 ?_
            refine la_bipush (v := 7) B dX9_sisters_60 (by decide) ?_
            refine la_iload_n (i := 2) B dX9_sisters_62 rfl rfl ?_
            refine la_imul B dX9_sisters_63 ?_
            refine la_iconst (v := 4) B dX9_sisters_64 (by decide) ?_
            refine la_iadd B dX9_sisters_65 ?_
            refine la_iload_n (i := 1) B dX9_sisters_66 rfl rfl ?_
            refine la_iast (i := 41) (j := ((7 * sb) + 4).toNatClampNeg) B (lh_nc_lt (by decide)) rfl rfl (lh_lin 7 4 ((lh_mis (k := 1) rfl J.1.2.1 (by decide) c15).mono J.1.2.1.2) (by decide) (by decide)) rfl dX9_sisters_67 ?_
            refine la_iconst (v := 1) B dX9_sisters_68 (by decide) ?_
            exact la_ireturn B rfl (by simp only [fX9_sisters, if_neg c6, if_neg c15, if_neg c20, if_neg c30, if_pos c38]) (by simp only [gX9_sisters, if_neg c6, if_neg c15, if_neg c20, if_neg c30, if_pos c38]) dX9_sisters_69
          · refine la_bipush (v := -3) B dX9_sisters_41 (by decide) ?_
            exact la_ireturn B rfl (by simp only [fX9_sisters, if_neg c6, if_neg c15, if_neg c20, if_neg c30, if_neg c38]) (by simp only [gX9_sisters, if_neg c6, if_neg c15, if_neg c20, if_neg c30, if_neg c38]) dX9_sisters_43
      · refine la_iconst (v := -1) B dX9_sisters_23 (by decide) ?_
        exact la_ireturn B rfl (by simp only [fX9_sisters, if_neg c6, if_neg c15, if_pos c20]) (by simp only [gX9_sisters, if_neg c6, if_neg c15, if_pos c20]) dX9_sisters_24

def fX9_past (h : lh_HS) (sn : Int32) (le : Int32) (gr : Int32) : Int32 := (if (fX9_is h 1 sn) = 0 then (-1) else (if (fX9_in h le 0 2000) = 0 then (-1) else (if (fX9_in h gr le 2000) = 0 then (-1) else 1)))
def gX9_past (h : lh_HS) (sn : Int32) (le : Int32) (gr : Int32) : lh_HS := (if (fX9_is h 1 sn) = 0 then h else (if (fX9_in h le 0 2000) = 0 then h else (if (fX9_in h gr le 2000) = 0 then h else lh_up (lh_up h 41 (((7 * sn) + 5).toNatClampNeg) le) 41 (((7 * sn) + 6).toNatClampNeg) gr)))
set_option maxHeartbeats 4000000 in
set_option maxRecDepth 100000 in
theorem ct_X9_past {l : Launch} {D : va_G} {ad : Nat → Nat} {bs : Nat} {cI cZ : ClassId} {t9 : Nat} {k : Bool} (h : lh_HS) (sn : Int32) (le : Int32) (gr : Int32) (J : lh_J h) : lh_CTi l D ad bs cI cZ t9 k yX9_past cX9_past 4 (some .int) 8 [.ref (ad 37), .int sn, .int le, .int gr] h (fX9_past h sn le gr) (gX9_past h sn le gr) := by
  refine lh_ofi (lv := [(0, .ref (ad 37)), (1, .int sn), (2, .int le), (3, .int gr)]) (by decide) (Nat.le_of_ble_eq_true rfl) rfl (by simp [Value.category]) ⟨rfl, rfl, rfl, rfl, trivial⟩ ?_
  intro p e s m args below meth c B
  have B : lh_BK p (lh_rm 8) s m args meth c D ad bs cI cZ t9 k "LightHoursModel" cX9_past 4 (some .int) := B
  refine la_aload_n (i := 0) B dX9_past_0 rfl rfl ?_
  refine la_iconst (v := 1) B dX9_past_1 (by decide) ?_
  refine la_iload_n (i := 1) B dX9_past_2 rfl rfl ?_
  refine la_callVi (i := 37) B (ct_X9_is h 1 sn (by unfold vp_in; decide)) lk_X9_55 (by decide) (lh_nc_lt (by decide)) rfl rfl rfl (by simp [Value.category]) dX9_past_3 ?_
  refine la_if_eq (tgt := 31) B dX9_past_6 (by decide) (fun c6 => ?_) (fun c6 => ?_)
  · refine la_iconst (v := -1) B dX9_past_31 (by decide) ?_
    exact la_ireturn B rfl (by simp only [fX9_past, if_pos c6]) (by simp only [gX9_past, if_pos c6]) dX9_past_32
  · refine la_iload_n (i := 2) B dX9_past_9 rfl rfl ?_
    refine la_iconst (v := 0) B dX9_past_10 (by decide) ?_
    refine la_sipush (v := 2000) B dX9_past_11 (by decide) ?_
    refine la_callSi B (ct_X9_in h le 0 2000) lk_X9_47 (by decide) rfl (by simp [Value.category]) dX9_past_14 ?_
    refine la_if_eq (tgt := 31) B dX9_past_17 (by decide) (fun c17 => ?_) (fun c17 => ?_)
    · refine la_iconst (v := -1) B dX9_past_31 (by decide) ?_
      exact la_ireturn B rfl (by simp only [fX9_past, if_neg c6, if_pos c17]) (by simp only [gX9_past, if_neg c6, if_pos c17]) dX9_past_32
    · refine la_iload_n (i := 3) B dX9_past_20 rfl rfl ?_
      refine la_iload_n (i := 2) B dX9_past_21 rfl rfl ?_
      refine la_sipush (v := 2000) B dX9_past_22 (by decide) ?_
      refine la_callSi B (ct_X9_in h gr le 2000) lk_X9_47 (by decide) rfl (by simp [Value.category]) dX9_past_25 ?_
      refine la_if_ne (tgt := 33) B dX9_past_28 (by decide) (fun c28 => ?_) (fun c28 => ?_)
      · refine la_aload_n (i := 0) B dX9_past_33 rfl rfl ?_
        refine la_get (i := 37) (ci := 9) (j := 3) (C := RX9) (T := TX9) (N := 18) B (lh_nc_lt (by decide)) rfl ix_9 rfl (by decide) wd_676 rfl rfl dX9_past_34 ?_
        refine la_bipush (v := 7) B dX9_past_37 (by decide) ?_
        refine la_iload_n (i := 1) B dX9_past_39 rfl rfl ?_
        refine la_imul B dX9_past_40 ?_
        refine la_iconst (v := 5) B dX9_past_41 (by decide) ?_
        refine la_iadd B dX9_past_42 ?_
        refine la_iload_n (i := 2) B dX9_past_43 rfl rfl ?_
        refine la_iast (i := 41) (j := ((7 * sn) + 5).toNatClampNeg) B (lh_nc_lt (by decide)) rfl rfl (lh_lin 7 5 ((lh_mis (k := 1) rfl J.1.2.1 (by decide) c6).mono J.1.2.1.2) (by decide) (by decide)) rfl dX9_past_44 ?_
        refine la_aload_n (i := 0) B dX9_past_45 rfl rfl ?_
        refine la_get (i := 37) (ci := 9) (j := 3) (C := RX9) (T := TX9) (N := 18) B (lh_nc_lt (by decide)) rfl ix_9 rfl (by decide) wd_676 rfl rfl dX9_past_46 ?_
        refine la_bipush (v := 7) B dX9_past_49 (by decide) ?_
        refine la_iload_n (i := 1) B dX9_past_51 rfl rfl ?_
        refine la_imul B dX9_past_52 ?_
        refine la_bipush (v := 6) B dX9_past_53 (by decide) ?_
        refine la_iadd B dX9_past_55 ?_
        refine la_iload_n (i := 3) B dX9_past_56 rfl rfl ?_
        refine la_iast (i := 41) (j := ((7 * sn) + 6).toNatClampNeg) B (lh_nc_lt (by decide)) rfl rfl (lh_lin 7 6 ((lh_mis (k := 1) rfl J.1.2.1 (by decide) c6).mono J.1.2.1.2) (by decide) (by decide)) rfl dX9_past_57 ?_
        refine la_iconst (v := 1) B dX9_past_58 (by decide) ?_
        exact la_ireturn B rfl (by simp only [fX9_past, if_neg c6, if_neg c17, if_neg c28]) (by simp only [gX9_past, if_neg c6, if_neg c17, if_neg c28]) dX9_past_59
      · refine la_iconst (v := -1) B dX9_past_31 (by decide) ?_
        exact la_ireturn B rfl (by simp only [fX9_past, if_neg c6, if_neg c17, if_pos c28]) (by simp only [gX9_past, if_neg c6, if_neg c17, if_pos c28]) dX9_past_32

def fX9_of (h : lh_HS) (sn : Int32) (wh : Int32) : Int32 := (if (fX9_is h 1 sn) = 0 then (-1) else (if (fX9_in h wh 0 7) = 0 then (-1) else (if 4 ≤ wh then (if wh = 4 then (if 0 ≤ (fX9_sisterOf h sn) then fX9_sisterOf h sn else (-4)) else (if wh = 5 then (if ((gX9_findPast h sn) 37 12) = 0 then 0 else 1) else (if wh = 6 then fX9_bookedMany h sn else fX9_threadMany h sn))) else h 41 ((7 * sn) + wh).toNatClampNeg)))
def gX9_of (h : lh_HS) (sn : Int32) (wh : Int32) : lh_HS := (if (fX9_is h 1 sn) = 0 then h else (if (fX9_in h wh 0 7) = 0 then h else (if 4 ≤ wh then (if wh = 4 then h else (if wh = 5 then gX9_findPast h sn else h)) else h)))
set_option maxHeartbeats 4000000 in
set_option maxRecDepth 100000 in
theorem ct_X9_of {l : Launch} {D : va_G} {ad : Nat → Nat} {bs : Nat} {cI cZ : ClassId} {t9 : Nat} {k : Bool} (h : lh_HS) (sn : Int32) (wh : Int32) (J : lh_J h) : lh_CTi l D ad bs cI cZ t9 k yX9_of cX9_of 3 (some .int) 8 [.ref (ad 37), .int sn, .int wh] h (fX9_of h sn wh) (gX9_of h sn wh) := by
  refine lh_ofi (lv := [(0, .ref (ad 37)), (1, .int sn), (2, .int wh)]) (by decide) (Nat.le_of_ble_eq_true rfl) rfl (by simp [Value.category]) ⟨rfl, rfl, rfl, trivial⟩ ?_
  intro p e s m args below meth c B
  have B : lh_BK p (lh_rm 8) s m args meth c D ad bs cI cZ t9 k "LightHoursModel" cX9_of 3 (some .int) := B
  refine la_aload_n (i := 0) B dX9_of_0 rfl rfl ?_
  refine la_iconst (v := 1) B dX9_of_1 (by decide) ?_
  refine la_iload_n (i := 1) B dX9_of_2 rfl rfl ?_
  refine la_callVi (i := 37) B (ct_X9_is h 1 sn (by unfold vp_in; decide)) lk_X9_55 (by decide) (lh_nc_lt (by decide)) rfl rfl rfl (by simp [Value.category]) dX9_of_3 ?_
  refine la_if_eq (tgt := 19) B dX9_of_6 (by decide) (fun c6 => ?_) (fun c6 => ?_)
  · refine la_iconst (v := -1) B dX9_of_19 (by decide) ?_
    exact la_ireturn B rfl (by simp only [fX9_of, if_pos c6]) (by simp only [gX9_of, if_pos c6]) dX9_of_20
  · refine la_iload_n (i := 2) B dX9_of_9 rfl rfl ?_
    refine la_iconst (v := 0) B dX9_of_10 (by decide) ?_
    refine la_bipush (v := 7) B dX9_of_11 (by decide) ?_
    refine la_callSi B (ct_X9_in h wh 0 7) lk_X9_47 (by decide) rfl (by simp [Value.category]) dX9_of_13 ?_
    refine la_if_ne (tgt := 21) B dX9_of_16 (by decide) (fun c16 => ?_) (fun c16 => ?_)
    · refine la_iload_n (i := 2) B dX9_of_21 rfl rfl ?_
      refine la_iconst (v := 4) B dX9_of_22 (by decide) ?_
      refine la_icmp_ge (tgt := 38) B dX9_of_23 (by decide) (fun c23 => ?_) (fun c23 => ?_)
      · refine la_iload_n (i := 2) B dX9_of_38 rfl rfl ?_
        by_cases s39_4 : wh = 4
        · refine la_tabIn (off := 25) (tgt := 64) B dX9_of_39 (by rw [s39_4]; decide) (by rw [s39_4]; decide) (by rw [s39_4]; decide) (by decide) ?_
          refine la_aload_n (i := 0) B dX9_of_64 rfl rfl ?_
          refine la_iload_n (i := 1) B dX9_of_65 rfl rfl ?_
          refine la_callVi (i := 37) B (ct_X9_sisterOf h sn ((lh_mis (k := 1) rfl J.1.2.1 (by decide) c6).mono J.1.2.1.2)) lk_X9_67 (by decide) (lh_nc_lt (by decide)) rfl rfl rfl (by simp [Value.category]) dX9_of_66 ?_
          refine la_if_ge (tgt := 77) B dX9_of_69 (by decide) (fun c69 => ?_) (fun c69 => ?_)
          · refine la_aload_n (i := 0) B dX9_of_77 rfl rfl ?_
            refine la_iload_n (i := 1) B dX9_of_78 rfl rfl ?_
            refine la_callVi (i := 37) B (ct_X9_sisterOf h sn ((lh_mis (k := 1) rfl J.1.2.1 (by decide) c6).mono J.1.2.1.2)) lk_X9_67 (by decide) (lh_nc_lt (by decide)) rfl rfl rfl (by simp [Value.category]) dX9_of_79 ?_
            exact la_ireturn B rfl (by simp only [fX9_of, if_neg c6, if_neg c16, if_pos c23, if_pos s39_4, if_pos c69]) (by simp only [gX9_of, if_neg c6, if_neg c16, if_pos c23, if_pos s39_4, if_pos c69]) dX9_of_82
          · refine la_bipush (v := -4) B dX9_of_72 (by decide) ?_
            refine la_goto (tgt := 82) B dX9_of_74 (by decide) ?_
            exact la_ireturn B rfl (by simp only [fX9_of, if_neg c6, if_neg c16, if_pos c23, if_pos s39_4, if_neg c69]) (by simp only [gX9_of, if_neg c6, if_neg c16, if_pos c23, if_pos s39_4, if_neg c69]) dX9_of_82
        · have ts39_4 := lv_neT s39_4 (show (4 : Int32).toInt = 4 from by decide)
          by_cases s39_5 : wh = 5
          · refine la_tabIn (off := 44) (tgt := 83) B dX9_of_39 (by rw [s39_5]; decide) (by rw [s39_5]; decide) (by rw [s39_5]; decide) (by decide) ?_
            refine la_aload_n (i := 0) B dX9_of_83 rfl rfl ?_
            refine la_iload_n (i := 1) B dX9_of_84 rfl rfl ?_
            refine la_callVv (i := 37) B (ct_X9_findPast h sn J ((lh_mis (k := 1) rfl J.1.2.1 (by decide) c6).mono J.1.2.1.2)) lk_X9_91 (by decide) (lh_nc_lt (by decide)) rfl rfl rfl (by simp [Value.category]) dX9_of_85 ?_
            refine la_aload_n (i := 0) B dX9_of_88 rfl rfl ?_
            refine la_get (i := 37) (ci := 9) (j := 12) (v := .int ((gX9_findPast h sn) 37 12)) (C := RX9) (T := TX9) (N := 18) B (lh_nc_lt (by decide)) rfl ix_9 rfl (by decide) wd_685 rfl rfl dX9_of_89 ?_
            refine la_if_eq (tgt := 99) B dX9_of_92 (by decide) (fun c92 => ?_) (fun c92 => ?_)
            · refine la_iconst (v := 0) B dX9_of_99 (by decide) ?_
              exact la_ireturn B rfl (by simp only [fX9_of, if_neg c6, if_neg c16, if_pos c23, if_neg s39_4, if_pos s39_5, if_pos c92]) (by simp only [gX9_of, if_neg c6, if_neg c16, if_pos c23, if_neg s39_4, if_pos s39_5, if_pos c92]) dX9_of_100
            · refine la_iconst (v := 1) B dX9_of_95 (by decide) ?_
              refine la_goto (tgt := 100) B dX9_of_96 (by decide) ?_
              exact la_ireturn B rfl (by simp only [fX9_of, if_neg c6, if_neg c16, if_pos c23, if_neg s39_4, if_pos s39_5, if_neg c92]) (by simp only [gX9_of, if_neg c6, if_neg c16, if_pos c23, if_neg s39_4, if_pos s39_5, if_neg c92]) dX9_of_100
          · have ts39_5 := lv_neT s39_5 (show (5 : Int32).toInt = 5 from by decide)
            by_cases s39_6 : wh = 6
            · refine la_tabIn (off := 62) (tgt := 101) B dX9_of_39 (by rw [s39_6]; decide) (by rw [s39_6]; decide) (by rw [s39_6]; decide) (by decide) ?_
              refine la_aload_n (i := 0) B dX9_of_101 rfl rfl ?_
              refine la_iload_n (i := 1) B dX9_of_102 rfl rfl ?_
              refine la_callVi (i := 37) B (ct_X9_bookedMany h sn J) lk_X9_98 (by decide) (lh_nc_lt (by decide)) rfl rfl rfl (by simp [Value.category]) dX9_of_103 ?_
              exact la_ireturn B rfl (by simp only [fX9_of, if_neg c6, if_neg c16, if_pos c23, if_neg s39_4, if_neg s39_5, if_pos s39_6]) (by simp only [gX9_of, if_neg c6, if_neg c16, if_pos c23, if_neg s39_4, if_neg s39_5, if_pos s39_6]) dX9_of_106
            · have ts39_6 := lv_neT s39_6 (show (6 : Int32).toInt = 6 from by decide)
              refine la_tabOut (tgt := 107) B dX9_of_39 (by omega) (by decide) ?_
              refine la_aload_n (i := 0) B dX9_of_107 rfl rfl ?_
              refine la_iload_n (i := 1) B dX9_of_108 rfl rfl ?_
              refine la_callVi (i := 37) B (ct_X9_threadMany h sn J) lk_X9_101 (by decide) (lh_nc_lt (by decide)) rfl rfl rfl (by simp [Value.category]) dX9_of_109 ?_
              exact la_ireturn B rfl (by simp only [fX9_of, if_neg c6, if_neg c16, if_pos c23, if_neg s39_4, if_neg s39_5, if_neg s39_6]) (by simp only [gX9_of, if_neg c6, if_neg c16, if_pos c23, if_neg s39_4, if_neg s39_5, if_neg s39_6]) dX9_of_112
      · refine la_aload_n (i := 0) B dX9_of_26 rfl rfl ?_
        refine la_get (i := 37) (ci := 9) (j := 3) (C := RX9) (T := TX9) (N := 18) B (lh_nc_lt (by decide)) rfl ix_9 rfl (by decide) wd_676 rfl rfl dX9_of_27 ?_
        refine la_bipush (v := 7) B dX9_of_30 (by decide) ?_
        refine la_iload_n (i := 1) B dX9_of_32 rfl rfl ?_
        refine la_imul B dX9_of_33 ?_
        refine la_iload_n (i := 2) B dX9_of_34 rfl rfl ?_
        refine la_iadd B dX9_of_35 ?_
        refine la_iald (i := 41) (v := h 41 ((7 * sn) + wh).toNatClampNeg) B (lh_nc_lt (by decide)) rfl (lh_of4 ((lh_mis (k := 1) rfl J.1.2.1 (by decide) c6).mono J.1.2.1.2) c16 c23) rfl dX9_of_36 ?_
        exact la_ireturn B rfl (by simp only [fX9_of, if_neg c6, if_neg c16, if_neg c23]) (by simp only [gX9_of, if_neg c6, if_neg c16, if_neg c23]) dX9_of_37
    · refine la_iconst (v := -1) B dX9_of_19 (by decide) ?_
      exact la_ireturn B rfl (by simp only [fX9_of, if_neg c6, if_pos c16]) (by simp only [gX9_of, if_neg c6, if_pos c16]) dX9_of_20

def fX9_books (h : lh_HS) (sn : Int32) (rn : Int32) (yr : Int32) (am : Int32) : Int32 := fX9_came (lh_up (lh_up (lh_up (lh_up (lh_up h 42 ((5 * (h 38 2)).toNatClampNeg) sn) 42 (((5 * (h 38 2)) + 1).toNatClampNeg) rn) 42 (((5 * (h 38 2)) + 2).toNatClampNeg) yr) 42 (((5 * (h 38 2)) + 3).toNatClampNeg) am) 42 (((5 * (h 38 2)) + 4).toNatClampNeg) 0) 2
def gX9_books (h : lh_HS) (sn : Int32) (rn : Int32) (yr : Int32) (am : Int32) : lh_HS := gX9_came (lh_up (lh_up (lh_up (lh_up (lh_up h 42 ((5 * (h 38 2)).toNatClampNeg) sn) 42 (((5 * (h 38 2)) + 1).toNatClampNeg) rn) 42 (((5 * (h 38 2)) + 2).toNatClampNeg) yr) 42 (((5 * (h 38 2)) + 3).toNatClampNeg) am) 42 (((5 * (h 38 2)) + 4).toNatClampNeg) 0) 2
set_option maxHeartbeats 4000000 in
set_option maxRecDepth 100000 in
theorem ct_X9_books {l : Launch} {D : va_G} {ad : Nat → Nat} {bs : Nat} {cI cZ : ClassId} {t9 : Nat} {k : Bool} (h : lh_HS) (sn : Int32) (rn : Int32) (yr : Int32) (am : Int32) (hc : lh_ix (h 38 2) 30) : lh_CTi l D ad bs cI cZ t9 k yX9_books cX9_books 6 (some .int) 1 [.ref (ad 37), .int sn, .int rn, .int yr, .int am] h (fX9_books h sn rn yr am) (gX9_books h sn rn yr am) := by
  refine lh_ofi (lv := [(0, .ref (ad 37)), (1, .int sn), (2, .int rn), (3, .int yr), (4, .int am)]) (by decide) (Nat.le_of_ble_eq_true rfl) rfl (by simp [Value.category]) ⟨rfl, rfl, rfl, rfl, rfl, trivial⟩ ?_
  intro p e s m args below meth c B
  have B : lh_BK p (lh_rm 1) s m args meth c D ad bs cI cZ t9 k "LightHoursModel" cX9_books 6 (some .int) := B
  refine la_iconst (v := 5) B dX9_books_0 (by decide) ?_
  refine la_aload_n (i := 0) B dX9_books_1 rfl rfl ?_
  refine la_get (i := 37) (ci := 9) (j := 0) (C := RX9) (T := TX9) (N := 18) B (lh_nc_lt (by decide)) rfl ix_9 rfl (by decide) wd_673 rfl rfl dX9_books_2 ?_
  refine la_iconst (v := 2) B dX9_books_5 (by decide) ?_
  refine la_iald (i := 38) (v := h 38 2) B (lh_nc_lt (by decide)) rfl (by unfold vp_in; decide) rfl dX9_books_6 ?_
  refine la_imul B dX9_books_7 ?_
  refine la_istore B dX9_books_8 (by decide) ?_
  refine la_aload_n (i := 0) B dX9_books_10 rfl rfl ?_
  refine la_get (i := 37) (ci := 9) (j := 4) (C := RX9) (T := TX9) (N := 18) B (lh_nc_lt (by decide)) rfl ix_9 rfl (by decide) wd_677 rfl rfl dX9_books_11 ?_
  refine la_iload B dX9_books_14 rfl ?_
  refine la_iload_n (i := 1) B dX9_books_16 rfl rfl ?_
  refine la_iast (i := 42) (j := (5 * (h 38 2)).toNatClampNeg) B (lh_nc_lt (by decide)) rfl rfl (lh_lin0 5 hc (by decide) (by decide)) rfl dX9_books_17 ?_
  refine la_aload_n (i := 0) B dX9_books_18 rfl rfl ?_
  refine la_get (i := 37) (ci := 9) (j := 4) (C := RX9) (T := TX9) (N := 18) B (lh_nc_lt (by decide)) rfl ix_9 rfl (by decide) wd_677 rfl rfl dX9_books_19 ?_
  refine la_iload B dX9_books_22 rfl ?_
  refine la_iconst (v := 1) B dX9_books_24 (by decide) ?_
  refine la_iadd B dX9_books_25 ?_
  refine la_iload_n (i := 2) B dX9_books_26 rfl rfl ?_
  refine la_iast (i := 42) (j := ((5 * (h 38 2)) + 1).toNatClampNeg) B (lh_nc_lt (by decide)) rfl rfl (lh_lin 5 1 hc (by decide) (by decide)) rfl dX9_books_27 ?_
  refine la_aload_n (i := 0) B dX9_books_28 rfl rfl ?_
  refine la_get (i := 37) (ci := 9) (j := 4) (C := RX9) (T := TX9) (N := 18) B (lh_nc_lt (by decide)) rfl ix_9 rfl (by decide) wd_677 rfl rfl dX9_books_29 ?_
  refine la_iload B dX9_books_32 rfl ?_
  refine la_iconst (v := 2) B dX9_books_34 (by decide) ?_
  refine la_iadd B dX9_books_35 ?_
  refine la_iload_n (i := 3) B dX9_books_36 rfl rfl ?_
  refine la_iast (i := 42) (j := ((5 * (h 38 2)) + 2).toNatClampNeg) B (lh_nc_lt (by decide)) rfl rfl (lh_lin 5 2 hc (by decide) (by decide)) rfl dX9_books_37 ?_
  refine la_aload_n (i := 0) B dX9_books_38 rfl rfl ?_
  refine la_get (i := 37) (ci := 9) (j := 4) (C := RX9) (T := TX9) (N := 18) B (lh_nc_lt (by decide)) rfl ix_9 rfl (by decide) wd_677 rfl rfl dX9_books_39 ?_
  refine la_iload B dX9_books_42 rfl ?_
  refine la_iconst (v := 3) B dX9_books_44 (by decide) ?_
  refine la_iadd B dX9_books_45 ?_
  refine la_iload B dX9_books_46 rfl ?_
  refine la_iast (i := 42) (j := ((5 * (h 38 2)) + 3).toNatClampNeg) B (lh_nc_lt (by decide)) rfl rfl (lh_lin 5 3 hc (by decide) (by decide)) rfl dX9_books_48 ?_
  refine la_aload_n (i := 0) B dX9_books_49 rfl rfl ?_
  refine la_get (i := 37) (ci := 9) (j := 4) (C := RX9) (T := TX9) (N := 18) B (lh_nc_lt (by decide)) rfl ix_9 rfl (by decide) wd_677 rfl rfl dX9_books_50 ?_
  refine la_iload B dX9_books_53 rfl ?_
  refine la_iconst (v := 4) B dX9_books_55 (by decide) ?_
  refine la_iadd B dX9_books_56 ?_
  refine la_iconst (v := 0) B dX9_books_57 (by decide) ?_
  refine la_iast (i := 42) (j := ((5 * (h 38 2)) + 4).toNatClampNeg) B (lh_nc_lt (by decide)) rfl rfl (lh_lin 5 4 hc (by decide) (by decide)) rfl dX9_books_58 ?_
  refine la_aload_n (i := 0) B dX9_books_59 rfl rfl ?_
  refine la_iconst (v := 2) B dX9_books_60 (by decide) ?_
  refine la_callVi (i := 37) B (ct_X9_came (lh_up (lh_up (lh_up (lh_up (lh_up h 42 ((5 * (h 38 2)).toNatClampNeg) sn) 42 (((5 * (h 38 2)) + 1).toNatClampNeg) rn) 42 (((5 * (h 38 2)) + 2).toNatClampNeg) yr) 42 (((5 * (h 38 2)) + 3).toNatClampNeg) am) 42 (((5 * (h 38 2)) + 4).toNatClampNeg) 0) 2 (by unfold vp_in; decide)) lk_X9_51 (by decide) (lh_nc_lt (by decide)) rfl rfl rfl (by simp [Value.category]) dX9_books_61 ?_
  exact la_ireturn B rfl (by simp only [fX9_books]) (by simp only [gX9_books]) dX9_books_64

def fX9_show (h : lh_HS) (sn : Int32) (rn : Int32) (yr : Int32) : Int32 := (if (fX9_is h 1 sn) = 0 then (-1) else (if (fX9_is h 0 rn) = 0 then (-1) else (if (fX9_isYear h yr) = 0 then (-1) else (if (fX9_isShown h sn yr) = 0 then (if (h 38 2) = 30 then (-2) else fX9_books h sn rn yr 0) else (-3)))))
def gX9_show (h : lh_HS) (sn : Int32) (rn : Int32) (yr : Int32) : lh_HS := (if (fX9_is h 1 sn) = 0 then h else (if (fX9_is h 0 rn) = 0 then h else (if (fX9_isYear h yr) = 0 then h else (if (fX9_isShown h sn yr) = 0 then (if (h 38 2) = 30 then h else gX9_books h sn rn yr 0) else h))))
set_option maxHeartbeats 4000000 in
set_option maxRecDepth 100000 in
theorem ct_X9_show {l : Launch} {D : va_G} {ad : Nat → Nat} {bs : Nat} {cI cZ : ClassId} {t9 : Nat} {k : Bool} (h : lh_HS) (sn : Int32) (rn : Int32) (yr : Int32) (J : lh_J h) : lh_CTi l D ad bs cI cZ t9 k yX9_show cX9_show 4 (some .int) 8 [.ref (ad 37), .int sn, .int rn, .int yr] h (fX9_show h sn rn yr) (gX9_show h sn rn yr) := by
  refine lh_ofi (lv := [(0, .ref (ad 37)), (1, .int sn), (2, .int rn), (3, .int yr)]) (by decide) (Nat.le_of_ble_eq_true rfl) rfl (by simp [Value.category]) ⟨rfl, rfl, rfl, rfl, trivial⟩ ?_
  intro p e s m args below meth c B
  have B : lh_BK p (lh_rm 8) s m args meth c D ad bs cI cZ t9 k "LightHoursModel" cX9_show 4 (some .int) := B
  refine la_aload_n (i := 0) B dX9_show_0 rfl rfl ?_
  refine la_iconst (v := 1) B dX9_show_1 (by decide) ?_
  refine la_iload_n (i := 1) B dX9_show_2 rfl rfl ?_
  refine la_callVi (i := 37) B (ct_X9_is h 1 sn (by unfold vp_in; decide)) lk_X9_55 (by decide) (lh_nc_lt (by decide)) rfl rfl rfl (by simp [Value.category]) dX9_show_3 ?_
  refine la_if_eq (tgt := 25) B dX9_show_6 (by decide) (fun c6 => ?_) (fun c6 => ?_)
  · refine la_iconst (v := -1) B dX9_show_25 (by decide) ?_
    exact la_ireturn B rfl (by simp only [fX9_show, if_pos c6]) (by simp only [gX9_show, if_pos c6]) dX9_show_26
  · refine la_aload_n (i := 0) B dX9_show_9 rfl rfl ?_
    refine la_iconst (v := 0) B dX9_show_10 (by decide) ?_
    refine la_iload_n (i := 2) B dX9_show_11 rfl rfl ?_
    refine la_callVi (i := 37) B (ct_X9_is h 0 rn (by unfold vp_in; decide)) lk_X9_55 (by decide) (lh_nc_lt (by decide)) rfl rfl rfl (by simp [Value.category]) dX9_show_12 ?_
    refine la_if_eq (tgt := 25) B dX9_show_15 (by decide) (fun c15 => ?_) (fun c15 => ?_)
    · refine la_iconst (v := -1) B dX9_show_25 (by decide) ?_
      exact la_ireturn B rfl (by simp only [fX9_show, if_neg c6, if_pos c15]) (by simp only [gX9_show, if_neg c6, if_pos c15]) dX9_show_26
    · refine la_iload_n (i := 3) B dX9_show_18 rfl rfl ?_
      refine la_callSi B (ct_X9_isYear h yr) lk_X9_59 (by decide) rfl (by simp [Value.category]) dX9_show_19 ?_
      refine la_if_ne (tgt := 27) B dX9_show_22 (by decide) (fun c22 => ?_) (fun c22 => ?_)
      · refine la_aload_n (i := 0) B dX9_show_27 rfl rfl ?_
        refine la_iload_n (i := 1) B dX9_show_28 rfl rfl ?_
        refine la_iload_n (i := 3) B dX9_show_29 rfl rfl ?_
        refine la_callVi (i := 37) B (ct_X9_isShown h sn yr J) lk_X9_104 (by decide) (lh_nc_lt (by decide)) rfl rfl rfl (by simp [Value.category]) dX9_show_30 ?_
        refine la_if_eq (tgt := 39) B dX9_show_33 (by decide) (fun c33 => ?_) (fun c33 => ?_)
        · refine la_aload_n (i := 0) B dX9_show_39 rfl rfl ?_
          refine la_get (i := 37) (ci := 9) (j := 0) (C := RX9) (T := TX9) (N := 18) B (lh_nc_lt (by decide)) rfl ix_9 rfl (by decide) wd_673 rfl rfl dX9_show_40 ?_
          refine la_iconst (v := 2) B dX9_show_43 (by decide) ?_
          refine la_iald (i := 38) (v := h 38 2) B (lh_nc_lt (by decide)) rfl (by unfold vp_in; decide) rfl dX9_show_44 ?_
          refine la_bipush (v := 30) B dX9_show_45 (by decide) ?_
          refine la_icmp_ne (tgt := 55) B dX9_show_47 (by decide) (fun c47 => ?_) (fun c47 => ?_)
          · refine la_aload_n (i := 0) B dX9_show_55 rfl rfl ?_
            refine la_iload_n (i := 1) B dX9_show_56 rfl rfl ?_
            refine la_iload_n (i := 2) B dX9_show_57 rfl rfl ?_
            refine la_iload_n (i := 3) B dX9_show_58 rfl rfl ?_
            refine la_iconst (v := 0) B dX9_show_59 (by decide) ?_
            refine la_callVi (i := 37) B (ct_X9_books h sn rn yr 0 (lh_mne J.1.2.2.1 rfl c47)) lk_X9_107 (by decide) (lh_nc_lt (by decide)) rfl rfl rfl (by simp [Value.category]) dX9_show_60 ?_
            exact la_ireturn B rfl (by simp only [fX9_show, if_neg c6, if_neg c15, if_neg c22, if_pos c33, if_neg c47]) (by simp only [gX9_show, if_neg c6, if_neg c15, if_neg c22, if_pos c33, if_neg c47]) dX9_show_63
          · refine la_bipush (v := -2) B dX9_show_50 (by decide) ?_
            refine la_goto (tgt := 63) B dX9_show_52 (by decide) ?_
            exact la_ireturn B rfl (by simp only [fX9_show, if_neg c6, if_neg c15, if_neg c22, if_pos c33, if_pos c47]) (by simp only [gX9_show, if_neg c6, if_neg c15, if_neg c22, if_pos c33, if_pos c47]) dX9_show_63
        · refine la_bipush (v := -3) B dX9_show_36 (by decide) ?_
          exact la_ireturn B rfl (by simp only [fX9_show, if_neg c6, if_neg c15, if_neg c22, if_neg c33]) (by simp only [gX9_show, if_neg c6, if_neg c15, if_neg c22, if_neg c33]) dX9_show_38
      · refine la_iconst (v := -1) B dX9_show_25 (by decide) ?_
        exact la_ireturn B rfl (by simp only [fX9_show, if_neg c6, if_neg c15, if_pos c22]) (by simp only [gX9_show, if_neg c6, if_neg c15, if_pos c22]) dX9_show_26

def fX9_lend (h : lh_HS) (sn : Int32) (yr : Int32) (am : Int32) : Int32 := (if (fX9_is h 1 sn) = 0 then (-1) else (if (fX9_isYear h yr) = 0 then (-1) else (if (fX9_in h am 1 500) = 0 then (-1) else (if am ≤ (fX9_leastLeft h sn) then (if ((gX9_leastLeft h sn) 38 2) = 30 then (-2) else fX9_books (gX9_leastLeft h sn) sn ((-1)) yr am) else (-4)))))
def gX9_lend (h : lh_HS) (sn : Int32) (yr : Int32) (am : Int32) : lh_HS := (if (fX9_is h 1 sn) = 0 then h else (if (fX9_isYear h yr) = 0 then h else (if (fX9_in h am 1 500) = 0 then h else (if am ≤ (fX9_leastLeft h sn) then (if ((gX9_leastLeft h sn) 38 2) = 30 then gX9_leastLeft h sn else gX9_books (gX9_leastLeft h sn) sn ((-1)) yr am) else gX9_leastLeft h sn))))
set_option maxHeartbeats 4000000 in
set_option maxRecDepth 100000 in
theorem ct_X9_lend {l : Launch} {D : va_G} {ad : Nat → Nat} {bs : Nat} {cI cZ : ClassId} {t9 : Nat} {k : Bool} (h : lh_HS) (sn : Int32) (yr : Int32) (am : Int32) (J : lh_J h) : lh_CTi l D ad bs cI cZ t9 k yX9_lend cX9_lend 4 (some .int) 8 [.ref (ad 37), .int sn, .int yr, .int am] h (fX9_lend h sn yr am) (gX9_lend h sn yr am) := by
  refine lh_ofi (lv := [(0, .ref (ad 37)), (1, .int sn), (2, .int yr), (3, .int am)]) (by decide) (Nat.le_of_ble_eq_true rfl) rfl (by simp [Value.category]) ⟨rfl, rfl, rfl, rfl, trivial⟩ ?_
  intro p e s m args below meth c B
  have B : lh_BK p (lh_rm 8) s m args meth c D ad bs cI cZ t9 k "LightHoursModel" cX9_lend 4 (some .int) := B
  refine la_aload_n (i := 0) B dX9_lend_0 rfl rfl ?_
  refine la_iconst (v := 1) B dX9_lend_1 (by decide) ?_
  refine la_iload_n (i := 1) B dX9_lend_2 rfl rfl ?_
  refine la_callVi (i := 37) B (ct_X9_is h 1 sn (by unfold vp_in; decide)) lk_X9_55 (by decide) (lh_nc_lt (by decide)) rfl rfl rfl (by simp [Value.category]) dX9_lend_3 ?_
  refine la_if_eq (tgt := 27) B dX9_lend_6 (by decide) (fun c6 => ?_) (fun c6 => ?_)
  · refine la_iconst (v := -1) B dX9_lend_27 (by decide) ?_
    exact la_ireturn B rfl (by simp only [fX9_lend, if_pos c6]) (by simp only [gX9_lend, if_pos c6]) dX9_lend_28
  · refine la_iload_n (i := 2) B dX9_lend_9 rfl rfl ?_
    refine la_callSi B (ct_X9_isYear h yr) lk_X9_59 (by decide) rfl (by simp [Value.category]) dX9_lend_10 ?_
    refine la_if_eq (tgt := 27) B dX9_lend_13 (by decide) (fun c13 => ?_) (fun c13 => ?_)
    · refine la_iconst (v := -1) B dX9_lend_27 (by decide) ?_
      exact la_ireturn B rfl (by simp only [fX9_lend, if_neg c6, if_pos c13]) (by simp only [gX9_lend, if_neg c6, if_pos c13]) dX9_lend_28
    · refine la_iload_n (i := 3) B dX9_lend_16 rfl rfl ?_
      refine la_iconst (v := 1) B dX9_lend_17 (by decide) ?_
      refine la_sipush (v := 500) B dX9_lend_18 (by decide) ?_
      refine la_callSi B (ct_X9_in h am 1 500) lk_X9_47 (by decide) rfl (by simp [Value.category]) dX9_lend_21 ?_
      refine la_if_ne (tgt := 29) B dX9_lend_24 (by decide) (fun c24 => ?_) (fun c24 => ?_)
      · refine la_aload_n (i := 0) B dX9_lend_29 rfl rfl ?_
        refine la_iload_n (i := 1) B dX9_lend_30 rfl rfl ?_
        refine la_callVi (i := 37) B (ct_X9_leastLeft h sn J ((lh_mis (k := 1) rfl J.1.2.1 (by decide) c6).mono J.1.2.1.2)) lk_X9_111 (by decide) (lh_nc_lt (by decide)) rfl rfl rfl (by simp [Value.category]) dX9_lend_31 ?_
        refine la_iload_n (i := 3) B dX9_lend_34 rfl rfl ?_
        refine la_icmp_ge (tgt := 41) B dX9_lend_35 (by decide) (fun c35 => ?_) (fun c35 => ?_)
        · refine la_aload_n (i := 0) B dX9_lend_41 rfl rfl ?_
          refine la_get (i := 37) (ci := 9) (j := 0) (C := RX9) (T := TX9) (N := 18) B (lh_nc_lt (by decide)) rfl ix_9 rfl (by decide) wd_673 rfl rfl dX9_lend_42 ?_
          refine la_iconst (v := 2) B dX9_lend_45 (by decide) ?_
          refine la_iald (i := 38) (v := (gX9_leastLeft h sn) 38 2) B (lh_nc_lt (by decide)) rfl (by unfold vp_in; decide) rfl dX9_lend_46 ?_
          refine la_bipush (v := 30) B dX9_lend_47 (by decide) ?_
          refine la_icmp_ne (tgt := 57) B dX9_lend_49 (by decide) (fun c49 => ?_) (fun c49 => ?_)
          · refine la_aload_n (i := 0) B dX9_lend_57 rfl rfl ?_
            refine la_iload_n (i := 1) B dX9_lend_58 rfl rfl ?_
            refine la_iconst (v := -1) B dX9_lend_59 (by decide) ?_
            refine la_iload_n (i := 2) B dX9_lend_60 rfl rfl ?_
            refine la_iload_n (i := 3) B dX9_lend_61 rfl rfl ?_
            refine la_callVi (i := 37) B (ct_X9_books (gX9_leastLeft h sn) sn ((-1)) yr am (lh_mne (J.fm (fm_leastLeft (lh_fm.rf h) sn)).1.2.2.1 rfl c49)) lk_X9_107 (by decide) (lh_nc_lt (by decide)) rfl rfl rfl (by simp [Value.category]) dX9_lend_62 ?_
            exact la_ireturn B rfl (by simp only [fX9_lend, if_neg c6, if_neg c13, if_neg c24, if_pos c35, if_neg c49]) (by simp only [gX9_lend, if_neg c6, if_neg c13, if_neg c24, if_pos c35, if_neg c49]) dX9_lend_65
          · refine la_bipush (v := -2) B dX9_lend_52 (by decide) ?_
            refine la_goto (tgt := 65) B dX9_lend_54 (by decide) ?_
            exact la_ireturn B rfl (by simp only [fX9_lend, if_neg c6, if_neg c13, if_neg c24, if_pos c35, if_pos c49]) (by simp only [gX9_lend, if_neg c6, if_neg c13, if_neg c24, if_pos c35, if_pos c49]) dX9_lend_65
        · refine la_bipush (v := -4) B dX9_lend_38 (by decide) ?_
          exact la_ireturn B rfl (by simp only [fX9_lend, if_neg c6, if_neg c13, if_neg c24, if_neg c35]) (by simp only [gX9_lend, if_neg c6, if_neg c13, if_neg c24, if_neg c35]) dX9_lend_40
      · refine la_iconst (v := -1) B dX9_lend_27 (by decide) ?_
        exact la_ireturn B rfl (by simp only [fX9_lend, if_neg c6, if_neg c13, if_pos c24]) (by simp only [gX9_lend, if_neg c6, if_neg c13, if_pos c24]) dX9_lend_28

def fX9_lacks (h : lh_HS) (sn : Int32) (am : Int32) : Int32 := (if (fX9_is h 1 sn) = 0 then (-1) else (if (fX9_in h am 1 500) = 0 then (-1) else (if (am - (fX9_leastLeft h sn)) ≤ 0 then 0 else am - (fX9_leastLeft h sn))))
def gX9_lacks (h : lh_HS) (sn : Int32) (am : Int32) : lh_HS := (if (fX9_is h 1 sn) = 0 then h else (if (fX9_in h am 1 500) = 0 then h else gX9_leastLeft h sn))
set_option maxHeartbeats 4000000 in
set_option maxRecDepth 100000 in
theorem ct_X9_lacks {l : Launch} {D : va_G} {ad : Nat → Nat} {bs : Nat} {cI cZ : ClassId} {t9 : Nat} {k : Bool} (h : lh_HS) (sn : Int32) (am : Int32) (J : lh_J h) : lh_CTi l D ad bs cI cZ t9 k yX9_lacks cX9_lacks 4 (some .int) 8 [.ref (ad 37), .int sn, .int am] h (fX9_lacks h sn am) (gX9_lacks h sn am) := by
  refine lh_ofi (lv := [(0, .ref (ad 37)), (1, .int sn), (2, .int am)]) (by decide) (Nat.le_of_ble_eq_true rfl) rfl (by simp [Value.category]) ⟨rfl, rfl, rfl, trivial⟩ ?_
  intro p e s m args below meth c B
  have B : lh_BK p (lh_rm 8) s m args meth c D ad bs cI cZ t9 k "LightHoursModel" cX9_lacks 4 (some .int) := B
  refine la_aload_n (i := 0) B dX9_lacks_0 rfl rfl ?_
  refine la_iconst (v := 1) B dX9_lacks_1 (by decide) ?_
  refine la_iload_n (i := 1) B dX9_lacks_2 rfl rfl ?_
  refine la_callVi (i := 37) B (ct_X9_is h 1 sn (by unfold vp_in; decide)) lk_X9_55 (by decide) (lh_nc_lt (by decide)) rfl rfl rfl (by simp [Value.category]) dX9_lacks_3 ?_
  refine la_if_eq (tgt := 20) B dX9_lacks_6 (by decide) (fun c6 => ?_) (fun c6 => ?_)
  · refine la_iconst (v := -1) B dX9_lacks_20 (by decide) ?_
    exact la_ireturn B rfl (by simp only [fX9_lacks, if_pos c6]) (by simp only [gX9_lacks, if_pos c6]) dX9_lacks_21
  · refine la_iload_n (i := 2) B dX9_lacks_9 rfl rfl ?_
    refine la_iconst (v := 1) B dX9_lacks_10 (by decide) ?_
    refine la_sipush (v := 500) B dX9_lacks_11 (by decide) ?_
    refine la_callSi B (ct_X9_in h am 1 500) lk_X9_47 (by decide) rfl (by simp [Value.category]) dX9_lacks_14 ?_
    refine la_if_ne (tgt := 22) B dX9_lacks_17 (by decide) (fun c17 => ?_) (fun c17 => ?_)
    · refine la_iload_n (i := 2) B dX9_lacks_22 rfl rfl ?_
      refine la_aload_n (i := 0) B dX9_lacks_23 rfl rfl ?_
      refine la_iload_n (i := 1) B dX9_lacks_24 rfl rfl ?_
      refine la_callVi (i := 37) B (ct_X9_leastLeft h sn J ((lh_mis (k := 1) rfl J.1.2.1 (by decide) c6).mono J.1.2.1.2)) lk_X9_111 (by decide) (lh_nc_lt (by decide)) rfl rfl rfl (by simp [Value.category]) dX9_lacks_25 ?_
      refine la_isub B dX9_lacks_28 ?_
      refine la_istore_n (i := 3) B dX9_lacks_29 rfl (by decide) ?_
      refine la_iload_n (i := 3) B dX9_lacks_30 rfl rfl ?_
      refine la_if_le (tgt := 38) B dX9_lacks_31 (by decide) (fun c31 => ?_) (fun c31 => ?_)
      · refine la_iconst (v := 0) B dX9_lacks_38 (by decide) ?_
        exact la_ireturn B rfl (by simp only [fX9_lacks, if_neg c6, if_neg c17, if_pos c31]) (by simp only [gX9_lacks, if_neg c6, if_neg c17, if_pos c31]) dX9_lacks_39
      · refine la_iload_n (i := 3) B dX9_lacks_34 rfl rfl ?_
        refine la_goto (tgt := 39) B dX9_lacks_35 (by decide) ?_
        exact la_ireturn B rfl (by simp only [fX9_lacks, if_neg c6, if_neg c17, if_neg c31]) (by simp only [gX9_lacks, if_neg c6, if_neg c17, if_neg c31]) dX9_lacks_39
    · refine la_iconst (v := -1) B dX9_lacks_20 (by decide) ?_
      exact la_ireturn B rfl (by simp only [fX9_lacks, if_neg c6, if_pos c17]) (by simp only [gX9_lacks, if_neg c6, if_pos c17]) dX9_lacks_21

def fX9_cancel (h : lh_HS) (bn : Int32) : Int32 := (if (fX9_is h 2 bn) = 0 then (-1) else (if (h 42 ((5 * bn) + 4).toNatClampNeg) = 1 then (-3) else 1))
def gX9_cancel (h : lh_HS) (bn : Int32) : lh_HS := (if (fX9_is h 2 bn) = 0 then h else (if (h 42 ((5 * bn) + 4).toNatClampNeg) = 1 then h else lh_up h 42 (((5 * bn) + 4).toNatClampNeg) 1))
set_option maxHeartbeats 4000000 in
set_option maxRecDepth 100000 in
theorem ct_X9_cancel {l : Launch} {D : va_G} {ad : Nat → Nat} {bs : Nat} {cI cZ : ClassId} {t9 : Nat} {k : Bool} (h : lh_HS) (bn : Int32) (J : lh_J h) : lh_CTi l D ad bs cI cZ t9 k yX9_cancel cX9_cancel 2 (some .int) 8 [.ref (ad 37), .int bn] h (fX9_cancel h bn) (gX9_cancel h bn) := by
  refine lh_ofi (lv := [(0, .ref (ad 37)), (1, .int bn)]) (by decide) (Nat.le_of_ble_eq_true rfl) rfl (by simp [Value.category]) ⟨rfl, rfl, trivial⟩ ?_
  intro p e s m args below meth c B
  have B : lh_BK p (lh_rm 8) s m args meth c D ad bs cI cZ t9 k "LightHoursModel" cX9_cancel 2 (some .int) := B
  refine la_aload_n (i := 0) B dX9_cancel_0 rfl rfl ?_
  refine la_iconst (v := 2) B dX9_cancel_1 (by decide) ?_
  refine la_iload_n (i := 1) B dX9_cancel_2 rfl rfl ?_
  refine la_callVi (i := 37) B (ct_X9_is h 2 bn (by unfold vp_in; decide)) lk_X9_55 (by decide) (lh_nc_lt (by decide)) rfl rfl rfl (by simp [Value.category]) dX9_cancel_3 ?_
  refine la_if_ne (tgt := 11) B dX9_cancel_6 (by decide) (fun c6 => ?_) (fun c6 => ?_)
  · refine la_aload_n (i := 0) B dX9_cancel_11 rfl rfl ?_
    refine la_get (i := 37) (ci := 9) (j := 4) (C := RX9) (T := TX9) (N := 18) B (lh_nc_lt (by decide)) rfl ix_9 rfl (by decide) wd_677 rfl rfl dX9_cancel_12 ?_
    refine la_iconst (v := 5) B dX9_cancel_15 (by decide) ?_
    refine la_iload_n (i := 1) B dX9_cancel_16 rfl rfl ?_
    refine la_imul B dX9_cancel_17 ?_
    refine la_iconst (v := 4) B dX9_cancel_18 (by decide) ?_
    refine la_iadd B dX9_cancel_19 ?_
    refine la_iald (i := 42) (v := h 42 ((5 * bn) + 4).toNatClampNeg) B (lh_nc_lt (by decide)) rfl (lh_lin 5 4 ((lh_mis (k := 2) rfl J.1.2.2.1 (by decide) c6).mono J.1.2.2.1.2) (by decide) (by decide)) rfl dX9_cancel_20 ?_
    refine la_iconst (v := 1) B dX9_cancel_21 (by decide) ?_
    refine la_icmp_ne (tgt := 28) B dX9_cancel_22 (by decide) (fun c22 => ?_) (fun c22 => ?_)
    · refine la_aload_n (i := 0) B dX9_cancel_28 rfl rfl ?_
      refine la_get (i := 37) (ci := 9) (j := 4) (C := RX9) (T := TX9) (N := 18) B (lh_nc_lt (by decide)) rfl ix_9 rfl (by decide) wd_677 rfl rfl dX9_cancel_29 ?_
      refine la_iconst (v := 5) B dX9_cancel_32 (by decide) ?_
      refine la_iload_n (i := 1) B dX9_cancel_33 rfl rfl ?_
      refine la_imul B dX9_cancel_34 ?_
      refine la_iconst (v := 4) B dX9_cancel_35 (by decide) ?_
      refine la_iadd B dX9_cancel_36 ?_
      refine la_iconst (v := 1) B dX9_cancel_37 (by decide) ?_
      refine la_iast (i := 42) (j := ((5 * bn) + 4).toNatClampNeg) B (lh_nc_lt (by decide)) rfl rfl (lh_lin 5 4 ((lh_mis (k := 2) rfl J.1.2.2.1 (by decide) c6).mono J.1.2.2.1.2) (by decide) (by decide)) rfl dX9_cancel_38 ?_
      refine la_iconst (v := 1) B dX9_cancel_39 (by decide) ?_
      exact la_ireturn B rfl (by simp only [fX9_cancel, if_neg c6, if_neg c22]) (by simp only [gX9_cancel, if_neg c6, if_neg c22]) dX9_cancel_40
    · refine la_bipush (v := -3) B dX9_cancel_25 (by decide) ?_
      exact la_ireturn B rfl (by simp only [fX9_cancel, if_neg c6, if_pos c22]) (by simp only [gX9_cancel, if_neg c6, if_pos c22]) dX9_cancel_27
  · refine la_iconst (v := -1) B dX9_cancel_9 (by decide) ?_
    exact la_ireturn B rfl (by simp only [fX9_cancel, if_pos c6]) (by simp only [gX9_cancel, if_pos c6]) dX9_cancel_10

def fX9_booking (h : lh_HS) (bn : Int32) (wh : Int32) : Int32 := (if (fX9_is h 2 bn) = 0 then (-1) else (if (fX9_in h wh 0 6) = 0 then (-1) else (if wh = 0 then (if 0 ≤ (h 42 ((5 * bn) + 1).toNatClampNeg) then 0 else 1) else (if wh = 1 then h 42 (5 * bn).toNatClampNeg else (if wh = 2 then (if 0 ≤ (h 42 ((5 * bn) + 1).toNatClampNeg) then h 42 ((5 * bn) + 1).toNatClampNeg else (-4)) else (if wh = 3 then h 42 ((5 * bn) + 2).toNatClampNeg else (if wh = 4 then fX9_spends h bn 0 else (if wh = 5 then fX9_spends h bn 1 else h 42 ((5 * bn) + 4).toNatClampNeg))))))))
set_option maxHeartbeats 4000000 in
set_option maxRecDepth 100000 in
theorem ct_X9_booking {l : Launch} {D : va_G} {ad : Nat → Nat} {bs : Nat} {cI cZ : ClassId} {t9 : Nat} {k : Bool} (h : lh_HS) (bn : Int32) (wh : Int32) (J : lh_J h) : lh_CTi l D ad bs cI cZ t9 k yX9_booking cX9_booking 4 (some .int) 8 [.ref (ad 37), .int bn, .int wh] h (fX9_booking h bn wh) h := by
  refine lh_ofi (lv := [(0, .ref (ad 37)), (1, .int bn), (2, .int wh)]) (by decide) (Nat.le_of_ble_eq_true rfl) rfl (by simp [Value.category]) ⟨rfl, rfl, rfl, trivial⟩ ?_
  intro p e s m args below meth c B
  have B : lh_BK p (lh_rm 8) s m args meth c D ad bs cI cZ t9 k "LightHoursModel" cX9_booking 4 (some .int) := B
  have hsp6 : ¬ fX9_is h 2 bn = 0 → 0 ≤ h 42 ((5 * bn) + 1).toNatClampNeg → lh_ix (h 42 ((5 * bn) + 1).toNatClampNeg) 4 ∧ lh_ix (h 42 ((5 * bn) + 2).toNatClampNeg) 10 := by
    intro c6
    obtain ⟨j, hj, rfl⟩ := (lh_mis (k := 2) rfl J.1.2.2.1 (by decide) c6)
    exact lh_mspend J hj
  refine la_aload_n (i := 0) B dX9_booking_0 rfl rfl ?_
  refine la_iconst (v := 2) B dX9_booking_1 (by decide) ?_
  refine la_iload_n (i := 1) B dX9_booking_2 rfl rfl ?_
  refine la_callVi (i := 37) B (ct_X9_is h 2 bn (by unfold vp_in; decide)) lk_X9_55 (by decide) (lh_nc_lt (by decide)) rfl rfl rfl (by simp [Value.category]) dX9_booking_3 ?_
  refine la_if_eq (tgt := 19) B dX9_booking_6 (by decide) (fun c6 => ?_) (fun c6 => ?_)
  · refine la_iconst (v := -1) B dX9_booking_19 (by decide) ?_
    exact la_ireturn B rfl (by simp only [fX9_booking, if_pos c6]) rfl dX9_booking_20
  · refine la_iload_n (i := 2) B dX9_booking_9 rfl rfl ?_
    refine la_iconst (v := 0) B dX9_booking_10 (by decide) ?_
    refine la_bipush (v := 6) B dX9_booking_11 (by decide) ?_
    refine la_callSi B (ct_X9_in h wh 0 6) lk_X9_47 (by decide) rfl (by simp [Value.category]) dX9_booking_13 ?_
    refine la_if_ne (tgt := 21) B dX9_booking_16 (by decide) (fun c16 => ?_) (fun c16 => ?_)
    · refine la_iconst (v := 5) B dX9_booking_21 (by decide) ?_
      refine la_iload_n (i := 1) B dX9_booking_22 rfl rfl ?_
      refine la_imul B dX9_booking_23 ?_
      refine la_istore_n (i := 3) B dX9_booking_24 rfl (by decide) ?_
      refine la_iload_n (i := 2) B dX9_booking_25 rfl rfl ?_
      by_cases s26_0 : wh = 0
      · refine la_tabIn (off := 38) (tgt := 64) B dX9_booking_26 (by rw [s26_0]; decide) (by rw [s26_0]; decide) (by rw [s26_0]; decide) (by decide) ?_
        refine la_aload_n (i := 0) B dX9_booking_64 rfl rfl ?_
        refine la_get (i := 37) (ci := 9) (j := 4) (C := RX9) (T := TX9) (N := 18) B (lh_nc_lt (by decide)) rfl ix_9 rfl (by decide) wd_677 rfl rfl dX9_booking_65 ?_
        refine la_iload_n (i := 3) B dX9_booking_68 rfl rfl ?_
        refine la_iconst (v := 1) B dX9_booking_69 (by decide) ?_
        refine la_iadd B dX9_booking_70 ?_
        refine la_iald (i := 42) (v := h 42 ((5 * bn) + 1).toNatClampNeg) B (lh_nc_lt (by decide)) rfl (lh_lin 5 1 ((lh_mis (k := 2) rfl J.1.2.2.1 (by decide) c6).mono J.1.2.2.1.2) (by decide) (by decide)) rfl dX9_booking_71 ?_
        refine la_if_ge (tgt := 79) B dX9_booking_72 (by decide) (fun c72 => ?_) (fun c72 => ?_)
        · refine la_iconst (v := 0) B dX9_booking_79 (by decide) ?_
          exact la_ireturn B rfl (by simp only [fX9_booking, if_neg c6, if_neg c16, if_pos s26_0, if_pos c72]) rfl dX9_booking_80
        · refine la_iconst (v := 1) B dX9_booking_75 (by decide) ?_
          refine la_goto (tgt := 80) B dX9_booking_76 (by decide) ?_
          exact la_ireturn B rfl (by simp only [fX9_booking, if_neg c6, if_neg c16, if_pos s26_0, if_neg c72]) rfl dX9_booking_80
      · have ts26_0 := lv_neT s26_0 (show (0 : Int32).toInt = 0 from by decide)
        by_cases s26_1 : wh = 1
        · refine la_tabIn (off := 55) (tgt := 81) B dX9_booking_26 (by rw [s26_1]; decide) (by rw [s26_1]; decide) (by rw [s26_1]; decide) (by decide) ?_
          refine la_aload_n (i := 0) B dX9_booking_81 rfl rfl ?_
          refine la_get (i := 37) (ci := 9) (j := 4) (C := RX9) (T := TX9) (N := 18) B (lh_nc_lt (by decide)) rfl ix_9 rfl (by decide) wd_677 rfl rfl dX9_booking_82 ?_
          refine la_iload_n (i := 3) B dX9_booking_85 rfl rfl ?_
          refine la_iald (i := 42) (v := h 42 (5 * bn).toNatClampNeg) B (lh_nc_lt (by decide)) rfl (lh_lin0 5 ((lh_mis (k := 2) rfl J.1.2.2.1 (by decide) c6).mono J.1.2.2.1.2) (by decide) (by decide)) rfl dX9_booking_86 ?_
          exact la_ireturn B rfl (by simp only [fX9_booking, if_neg c6, if_neg c16, if_neg s26_0, if_pos s26_1]) rfl dX9_booking_87
        · have ts26_1 := lv_neT s26_1 (show (1 : Int32).toInt = 1 from by decide)
          by_cases s26_2 : wh = 2
          · refine la_tabIn (off := 62) (tgt := 88) B dX9_booking_26 (by rw [s26_2]; decide) (by rw [s26_2]; decide) (by rw [s26_2]; decide) (by decide) ?_
            refine la_aload_n (i := 0) B dX9_booking_88 rfl rfl ?_
            refine la_get (i := 37) (ci := 9) (j := 4) (C := RX9) (T := TX9) (N := 18) B (lh_nc_lt (by decide)) rfl ix_9 rfl (by decide) wd_677 rfl rfl dX9_booking_89 ?_
            refine la_iload_n (i := 3) B dX9_booking_92 rfl rfl ?_
            refine la_iconst (v := 1) B dX9_booking_93 (by decide) ?_
            refine la_iadd B dX9_booking_94 ?_
            refine la_iald (i := 42) (v := h 42 ((5 * bn) + 1).toNatClampNeg) B (lh_nc_lt (by decide)) rfl (lh_lin 5 1 ((lh_mis (k := 2) rfl J.1.2.2.1 (by decide) c6).mono J.1.2.2.1.2) (by decide) (by decide)) rfl dX9_booking_95 ?_
            refine la_if_ge (tgt := 104) B dX9_booking_96 (by decide) (fun c96 => ?_) (fun c96 => ?_)
            · refine la_aload_n (i := 0) B dX9_booking_104 rfl rfl ?_
              refine la_get (i := 37) (ci := 9) (j := 4) (C := RX9) (T := TX9) (N := 18) B (lh_nc_lt (by decide)) rfl ix_9 rfl (by decide) wd_677 rfl rfl dX9_booking_105 ?_
              refine la_iload_n (i := 3) B dX9_booking_108 rfl rfl ?_
              refine la_iconst (v := 1) B dX9_booking_109 (by decide) ?_
              refine la_iadd B dX9_booking_110 ?_
              refine la_iald (i := 42) (v := h 42 ((5 * bn) + 1).toNatClampNeg) B (lh_nc_lt (by decide)) rfl (lh_lin 5 1 ((lh_mis (k := 2) rfl J.1.2.2.1 (by decide) c6).mono J.1.2.2.1.2) (by decide) (by decide)) rfl dX9_booking_111 ?_
              exact la_ireturn B rfl (by simp only [fX9_booking, if_neg c6, if_neg c16, if_neg s26_0, if_neg s26_1, if_pos s26_2, if_pos c96]) rfl dX9_booking_112
            · refine la_bipush (v := -4) B dX9_booking_99 (by decide) ?_
              refine la_goto (tgt := 112) B dX9_booking_101 (by decide) ?_
              exact la_ireturn B rfl (by simp only [fX9_booking, if_neg c6, if_neg c16, if_neg s26_0, if_neg s26_1, if_pos s26_2, if_neg c96]) rfl dX9_booking_112
          · have ts26_2 := lv_neT s26_2 (show (2 : Int32).toInt = 2 from by decide)
            by_cases s26_3 : wh = 3
            · refine la_tabIn (off := 87) (tgt := 113) B dX9_booking_26 (by rw [s26_3]; decide) (by rw [s26_3]; decide) (by rw [s26_3]; decide) (by decide) ?_
              refine la_aload_n (i := 0) B dX9_booking_113 rfl rfl ?_
              refine la_get (i := 37) (ci := 9) (j := 4) (C := RX9) (T := TX9) (N := 18) B (lh_nc_lt (by decide)) rfl ix_9 rfl (by decide) wd_677 rfl rfl dX9_booking_114 ?_
              refine la_iload_n (i := 3) B dX9_booking_117 rfl rfl ?_
              refine la_iconst (v := 2) B dX9_booking_118 (by decide) ?_
              refine la_iadd B dX9_booking_119 ?_
              refine la_iald (i := 42) (v := h 42 ((5 * bn) + 2).toNatClampNeg) B (lh_nc_lt (by decide)) rfl (lh_lin 5 2 ((lh_mis (k := 2) rfl J.1.2.2.1 (by decide) c6).mono J.1.2.2.1.2) (by decide) (by decide)) rfl dX9_booking_120 ?_
              exact la_ireturn B rfl (by simp only [fX9_booking, if_neg c6, if_neg c16, if_neg s26_0, if_neg s26_1, if_neg s26_2, if_pos s26_3]) rfl dX9_booking_121
            · have ts26_3 := lv_neT s26_3 (show (3 : Int32).toInt = 3 from by decide)
              by_cases s26_4 : wh = 4
              · refine la_tabIn (off := 96) (tgt := 122) B dX9_booking_26 (by rw [s26_4]; decide) (by rw [s26_4]; decide) (by rw [s26_4]; decide) (by decide) ?_
                refine la_aload_n (i := 0) B dX9_booking_122 rfl rfl ?_
                refine la_iload_n (i := 1) B dX9_booking_123 rfl rfl ?_
                refine la_iload_n (i := 2) B dX9_booking_124 rfl rfl ?_
                refine la_iconst (v := 5) B dX9_booking_125 (by decide) ?_
                refine la_icmp_ne (tgt := 133) B dX9_booking_126 (by decide) (fun c126 => ?_) (fun c126 => ?_)
                · refine la_iconst (v := 0) B dX9_booking_133 (by decide) ?_
                  refine la_callVi (i := 37) B (ct_X9_spends h bn 0 ((lh_mis (k := 2) rfl J.1.2.2.1 (by decide) c6).mono J.1.2.2.1.2) (hsp6 c6)) lk_X9_73 (by decide) (lh_nc_lt (by decide)) rfl rfl rfl (by simp [Value.category]) dX9_booking_134 ?_
                  exact la_ireturn B rfl (by simp only [fX9_booking, if_neg c6, if_neg c16, if_neg s26_0, if_neg s26_1, if_neg s26_2, if_neg s26_3, if_pos s26_4]) rfl dX9_booking_137
                · exact absurd (s26_4.symm.trans c126) (by decide)
              · have ts26_4 := lv_neT s26_4 (show (4 : Int32).toInt = 4 from by decide)
                by_cases s26_5 : wh = 5
                · refine la_tabIn (off := 96) (tgt := 122) B dX9_booking_26 (by rw [s26_5]; decide) (by rw [s26_5]; decide) (by rw [s26_5]; decide) (by decide) ?_
                  refine la_aload_n (i := 0) B dX9_booking_122 rfl rfl ?_
                  refine la_iload_n (i := 1) B dX9_booking_123 rfl rfl ?_
                  refine la_iload_n (i := 2) B dX9_booking_124 rfl rfl ?_
                  refine la_iconst (v := 5) B dX9_booking_125 (by decide) ?_
                  refine la_icmp_ne (tgt := 133) B dX9_booking_126 (by decide) (fun c126 => ?_) (fun c126 => ?_)
                  · exact absurd s26_5 c126
                  · refine la_iconst (v := 1) B dX9_booking_129 (by decide) ?_
                    refine la_goto (tgt := 134) B dX9_booking_130 (by decide) ?_
                    refine la_callVi (i := 37) B (ct_X9_spends h bn 1 ((lh_mis (k := 2) rfl J.1.2.2.1 (by decide) c6).mono J.1.2.2.1.2) (hsp6 c6)) lk_X9_73 (by decide) (lh_nc_lt (by decide)) rfl rfl rfl (by simp [Value.category]) dX9_booking_134 ?_
                    exact la_ireturn B rfl (by simp only [fX9_booking, if_neg c6, if_neg c16, if_neg s26_0, if_neg s26_1, if_neg s26_2, if_neg s26_3, if_neg s26_4, if_pos s26_5]) rfl dX9_booking_137
                · have ts26_5 := lv_neT s26_5 (show (5 : Int32).toInt = 5 from by decide)
                  refine la_tabOut (tgt := 138) B dX9_booking_26 (by omega) (by decide) ?_
                  refine la_aload_n (i := 0) B dX9_booking_138 rfl rfl ?_
                  refine la_get (i := 37) (ci := 9) (j := 4) (C := RX9) (T := TX9) (N := 18) B (lh_nc_lt (by decide)) rfl ix_9 rfl (by decide) wd_677 rfl rfl dX9_booking_139 ?_
                  refine la_iload_n (i := 3) B dX9_booking_142 rfl rfl ?_
                  refine la_iconst (v := 4) B dX9_booking_143 (by decide) ?_
                  refine la_iadd B dX9_booking_144 ?_
                  refine la_iald (i := 42) (v := h 42 ((5 * bn) + 4).toNatClampNeg) B (lh_nc_lt (by decide)) rfl (lh_lin 5 4 ((lh_mis (k := 2) rfl J.1.2.2.1 (by decide) c6).mono J.1.2.2.1.2) (by decide) (by decide)) rfl dX9_booking_145 ?_
                  exact la_ireturn B rfl (by simp only [fX9_booking, if_neg c6, if_neg c16, if_neg s26_0, if_neg s26_1, if_neg s26_2, if_neg s26_3, if_neg s26_4, if_neg s26_5]) rfl dX9_booking_146
    · refine la_iconst (v := -1) B dX9_booking_19 (by decide) ?_
      exact la_ireturn B rfl (by simp only [fX9_booking, if_neg c6, if_pos c16]) rfl dX9_booking_20

def fX9_thread (h : lh_HS) (sn : Int32) (yr : Int32) (st1 : Int32) : Int32 := (if (fX9_is h 1 sn) = 0 then (-1) else (if (fX9_isYear h yr) = 0 then (-1) else (if (fX9_in h st1 0 7) = 0 then (-1) else (if (h 38 3) = 12 then (-2) else fX9_came (lh_up (lh_up (lh_up h 43 ((3 * (h 38 3)).toNatClampNeg) sn) 43 (((3 * (h 38 3)) + 1).toNatClampNeg) yr) 43 (((3 * (h 38 3)) + 2).toNatClampNeg) st1) 3))))
def gX9_thread (h : lh_HS) (sn : Int32) (yr : Int32) (st1 : Int32) : lh_HS := (if (fX9_is h 1 sn) = 0 then h else (if (fX9_isYear h yr) = 0 then h else (if (fX9_in h st1 0 7) = 0 then h else (if (h 38 3) = 12 then h else gX9_came (lh_up (lh_up (lh_up h 43 ((3 * (h 38 3)).toNatClampNeg) sn) 43 (((3 * (h 38 3)) + 1).toNatClampNeg) yr) 43 (((3 * (h 38 3)) + 2).toNatClampNeg) st1) 3))))
set_option maxHeartbeats 4000000 in
set_option maxRecDepth 100000 in
theorem ct_X9_thread {l : Launch} {D : va_G} {ad : Nat → Nat} {bs : Nat} {cI cZ : ClassId} {t9 : Nat} {k : Bool} (h : lh_HS) (sn : Int32) (yr : Int32) (st1 : Int32) (J : lh_J h) : lh_CTi l D ad bs cI cZ t9 k yX9_thread cX9_thread 5 (some .int) 8 [.ref (ad 37), .int sn, .int yr, .int st1] h (fX9_thread h sn yr st1) (gX9_thread h sn yr st1) := by
  refine lh_ofi (lv := [(0, .ref (ad 37)), (1, .int sn), (2, .int yr), (3, .int st1)]) (by decide) (Nat.le_of_ble_eq_true rfl) rfl (by simp [Value.category]) ⟨rfl, rfl, rfl, rfl, trivial⟩ ?_
  intro p e s m args below meth c B
  have B : lh_BK p (lh_rm 8) s m args meth c D ad bs cI cZ t9 k "LightHoursModel" cX9_thread 5 (some .int) := B
  refine la_aload_n (i := 0) B dX9_thread_0 rfl rfl ?_
  refine la_iconst (v := 1) B dX9_thread_1 (by decide) ?_
  refine la_iload_n (i := 1) B dX9_thread_2 rfl rfl ?_
  refine la_callVi (i := 37) B (ct_X9_is h 1 sn (by unfold vp_in; decide)) lk_X9_55 (by decide) (lh_nc_lt (by decide)) rfl rfl rfl (by simp [Value.category]) dX9_thread_3 ?_
  refine la_if_eq (tgt := 26) B dX9_thread_6 (by decide) (fun c6 => ?_) (fun c6 => ?_)
  · refine la_iconst (v := -1) B dX9_thread_26 (by decide) ?_
    exact la_ireturn B rfl (by simp only [fX9_thread, if_pos c6]) (by simp only [gX9_thread, if_pos c6]) dX9_thread_27
  · refine la_iload_n (i := 2) B dX9_thread_9 rfl rfl ?_
    refine la_callSi B (ct_X9_isYear h yr) lk_X9_59 (by decide) rfl (by simp [Value.category]) dX9_thread_10 ?_
    refine la_if_eq (tgt := 26) B dX9_thread_13 (by decide) (fun c13 => ?_) (fun c13 => ?_)
    · refine la_iconst (v := -1) B dX9_thread_26 (by decide) ?_
      exact la_ireturn B rfl (by simp only [fX9_thread, if_neg c6, if_pos c13]) (by simp only [gX9_thread, if_neg c6, if_pos c13]) dX9_thread_27
    · refine la_iload_n (i := 3) B dX9_thread_16 rfl rfl ?_
      refine la_iconst (v := 0) B dX9_thread_17 (by decide) ?_
      refine la_bipush (v := 7) B dX9_thread_18 (by decide) ?_
      refine la_callSi B (ct_X9_in h st1 0 7) lk_X9_47 (by decide) rfl (by simp [Value.category]) dX9_thread_20 ?_
      refine la_if_ne (tgt := 28) B dX9_thread_23 (by decide) (fun c23 => ?_) (fun c23 => ?_)
      · refine la_aload_n (i := 0) B dX9_thread_28 rfl rfl ?_
        refine la_get (i := 37) (ci := 9) (j := 0) (C := RX9) (T := TX9) (N := 18) B (lh_nc_lt (by decide)) rfl ix_9 rfl (by decide) wd_673 rfl rfl dX9_thread_29 ?_
        refine la_iconst (v := 3) B dX9_thread_32 (by decide) ?_
        refine la_iald (i := 38) (v := h 38 3) B (lh_nc_lt (by decide)) rfl (by unfold vp_in; decide) rfl dX9_thread_33 ?_
        refine la_bipush (v := 12) B dX9_thread_34 (by decide) ?_
        refine la_icmp_ne (tgt := 42) B dX9_thread_36 (by decide) (fun c36 => ?_) (fun c36 => ?_)
        · refine la_iconst (v := 3) B dX9_thread_42 (by decide) ?_
          refine la_aload_n (i := 0) B dX9_thread_43 rfl rfl ?_
          refine la_get (i := 37) (ci := 9) (j := 0) (C := RX9) (T := TX9) (N := 18) B (lh_nc_lt (by decide)) rfl ix_9 rfl (by decide) wd_673 rfl rfl dX9_thread_44 ?_
          refine la_iconst (v := 3) B dX9_thread_47 (by decide) ?_
          refine la_iald (i := 38) (v := h 38 3) B (lh_nc_lt (by decide)) rfl (by unfold vp_in; decide) rfl dX9_thread_48 ?_
          refine la_imul B dX9_thread_49 ?_
          refine la_istore B dX9_thread_50 (by decide) ?_
          refine la_aload_n (i := 0) B dX9_thread_52 rfl rfl ?_
          refine la_get (i := 37) (ci := 9) (j := 5) (C := RX9) (T := TX9) (N := 18) B (lh_nc_lt (by decide)) rfl ix_9 rfl (by decide) wd_678 rfl rfl dX9_thread_53 ?_
          refine la_iload B dX9_thread_56 rfl ?_
          refine la_iload_n (i := 1) B dX9_thread_58 rfl rfl ?_
          refine la_iast (i := 43) (j := (3 * (h 38 3)).toNatClampNeg) B (lh_nc_lt (by decide)) rfl rfl (lh_lin0 3 (lh_mne J.1.2.2.2.1 rfl c36) (by decide) (by decide)) rfl dX9_thread_59 ?_
          refine la_aload_n (i := 0) B dX9_thread_60 rfl rfl ?_
          refine la_get (i := 37) (ci := 9) (j := 5) (C := RX9) (T := TX9) (N := 18) B (lh_nc_lt (by decide)) rfl ix_9 rfl (by decide) wd_678 rfl rfl dX9_thread_61 ?_
          refine la_iload B dX9_thread_64 rfl ?_
          refine la_iconst (v := 1) B dX9_thread_66 (by decide) ?_
          refine la_iadd B dX9_thread_67 ?_
          refine la_iload_n (i := 2) B dX9_thread_68 rfl rfl ?_
          refine la_iast (i := 43) (j := ((3 * (h 38 3)) + 1).toNatClampNeg) B (lh_nc_lt (by decide)) rfl rfl (lh_lin 3 1 (lh_mne J.1.2.2.2.1 rfl c36) (by decide) (by decide)) rfl dX9_thread_69 ?_
          refine la_aload_n (i := 0) B dX9_thread_70 rfl rfl ?_
          refine la_get (i := 37) (ci := 9) (j := 5) (C := RX9) (T := TX9) (N := 18) B (lh_nc_lt (by decide)) rfl ix_9 rfl (by decide) wd_678 rfl rfl dX9_thread_71 ?_
          refine la_iload B dX9_thread_74 rfl ?_
          refine la_iconst (v := 2) B dX9_thread_76 (by decide) ?_
          refine la_iadd B dX9_thread_77 ?_
          refine la_iload_n (i := 3) B dX9_thread_78 rfl rfl ?_
          refine la_iast (i := 43) (j := ((3 * (h 38 3)) + 2).toNatClampNeg) B (lh_nc_lt (by decide)) rfl rfl (lh_lin 3 2 (lh_mne J.1.2.2.2.1 rfl c36) (by decide) (by decide)) rfl dX9_thread_79 ?_
          refine la_aload_n (i := 0) B dX9_thread_80 rfl rfl ?_
          refine la_iconst (v := 3) B dX9_thread_81 (by decide) ?_
          refine la_callVi (i := 37) B (ct_X9_came (lh_up (lh_up (lh_up h 43 ((3 * (h 38 3)).toNatClampNeg) sn) 43 (((3 * (h 38 3)) + 1).toNatClampNeg) yr) 43 (((3 * (h 38 3)) + 2).toNatClampNeg) st1) 3 (by unfold vp_in; decide)) lk_X9_51 (by decide) (lh_nc_lt (by decide)) rfl rfl rfl (by simp [Value.category]) dX9_thread_82 ?_
          exact la_ireturn B rfl (by simp only [fX9_thread, if_neg c6, if_neg c13, if_neg c23, if_neg c36]) (by simp only [gX9_thread, if_neg c6, if_neg c13, if_neg c23, if_neg c36]) dX9_thread_85
        · refine la_bipush (v := -2) B dX9_thread_39 (by decide) ?_
          exact la_ireturn B rfl (by simp only [fX9_thread, if_neg c6, if_neg c13, if_neg c23, if_pos c36]) (by simp only [gX9_thread, if_neg c6, if_neg c13, if_neg c23, if_pos c36]) dX9_thread_41
      · refine la_iconst (v := -1) B dX9_thread_26 (by decide) ?_
        exact la_ireturn B rfl (by simp only [fX9_thread, if_neg c6, if_neg c13, if_pos c23]) (by simp only [gX9_thread, if_neg c6, if_neg c13, if_pos c23]) dX9_thread_27

def fX9_cut (h : lh_HS)  : Int32 := (if (h 38 3) = 0 then (-4) else ((h 38 3) - 1))
def gX9_cut (h : lh_HS)  : lh_HS := (if (h 38 3) = 0 then h else lh_up h 38 3 (((h 38 3) - 1)))
set_option maxHeartbeats 4000000 in
set_option maxRecDepth 100000 in
theorem ct_X9_cut {l : Launch} {D : va_G} {ad : Nat → Nat} {bs : Nat} {cI cZ : ClassId} {t9 : Nat} {k : Bool} (h : lh_HS)  (J : lh_J h) : lh_CTi l D ad bs cI cZ t9 k yX9_cut cX9_cut 1 (some .int) 8 [.ref (ad 37)] h (fX9_cut h ) (gX9_cut h ) := by
  refine lh_ofi (lv := [(0, .ref (ad 37))]) (by decide) (Nat.le_of_ble_eq_true rfl) rfl (by simp [Value.category]) ⟨rfl, trivial⟩ ?_
  intro p e s m args below meth c B
  have B : lh_BK p (lh_rm 8) s m args meth c D ad bs cI cZ t9 k "LightHoursModel" cX9_cut 1 (some .int) := B
  refine la_aload_n (i := 0) B dX9_cut_0 rfl rfl ?_
  refine la_get (i := 37) (ci := 9) (j := 0) (C := RX9) (T := TX9) (N := 18) B (lh_nc_lt (by decide)) rfl ix_9 rfl (by decide) wd_673 rfl rfl dX9_cut_1 ?_
  refine la_iconst (v := 3) B dX9_cut_4 (by decide) ?_
  refine la_iald (i := 38) (v := h 38 3) B (lh_nc_lt (by decide)) rfl (by unfold vp_in; decide) rfl dX9_cut_5 ?_
  refine la_if_ne (tgt := 12) B dX9_cut_6 (by decide) (fun c6 => ?_) (fun c6 => ?_)
  · refine la_aload_n (i := 0) B dX9_cut_12 rfl rfl ?_
    refine la_get (i := 37) (ci := 9) (j := 0) (C := RX9) (T := TX9) (N := 18) B (lh_nc_lt (by decide)) rfl ix_9 rfl (by decide) wd_673 rfl rfl dX9_cut_13 ?_
    refine la_iconst (v := 3) B dX9_cut_16 (by decide) ?_
    refine la_dup2 B dX9_cut_17 rfl rfl ?_
    refine la_iald (i := 38) (v := h 38 3) B (lh_nc_lt (by decide)) rfl (by unfold vp_in; decide) rfl dX9_cut_18 ?_
    refine la_iconst (v := 1) B dX9_cut_19 (by decide) ?_
    refine la_isub B dX9_cut_20 ?_
    refine la_iast (i := 38) (j := 3) B (lh_nc_lt (by decide)) rfl rfl (by unfold vp_in; decide) rfl dX9_cut_21 ?_
    refine la_aload_n (i := 0) B dX9_cut_22 rfl rfl ?_
    refine la_get (i := 37) (ci := 9) (j := 0) (C := RX9) (T := TX9) (N := 18) B (lh_nc_lt (by decide)) rfl ix_9 rfl (by decide) wd_673 rfl rfl dX9_cut_23 ?_
    refine la_iconst (v := 3) B dX9_cut_26 (by decide) ?_
    refine la_iald (i := 38) (v := ((h 38 3) - 1)) B (lh_nc_lt (by decide)) rfl (by unfold vp_in; decide) rfl dX9_cut_27 ?_
    exact la_ireturn B rfl (by simp only [fX9_cut, if_neg c6]) (by simp only [gX9_cut, if_neg c6]) dX9_cut_28
  · refine la_bipush (v := -4) B dX9_cut_9 (by decide) ?_
    exact la_ireturn B rfl (by simp only [fX9_cut, if_pos c6]) (by simp only [gX9_cut, if_pos c6]) dX9_cut_11

def fX9_pastOf (h : lh_HS) (sn : Int32) (gr : Int32) : Int32 := (if (fX9_is h 1 sn) = 0 then (-1) else (if gr = 0 then (gX9_findPast h sn) 37 10 else (gX9_findPast h sn) 37 11))
def gX9_pastOf (h : lh_HS) (sn : Int32) (gr : Int32) : lh_HS := (if (fX9_is h 1 sn) = 0 then h else gX9_findPast h sn)
set_option maxHeartbeats 4000000 in
set_option maxRecDepth 100000 in
theorem ct_X9_pastOf {l : Launch} {D : va_G} {ad : Nat → Nat} {bs : Nat} {cI cZ : ClassId} {t9 : Nat} {k : Bool} (h : lh_HS) (sn : Int32) (gr : Int32) (J : lh_J h) : lh_CTi l D ad bs cI cZ t9 k yX9_pastOf cX9_pastOf 3 (some .int) 8 [.ref (ad 37), .int sn, .int gr] h (fX9_pastOf h sn gr) (gX9_pastOf h sn gr) := by
  refine lh_ofi (lv := [(0, .ref (ad 37)), (1, .int sn), (2, .int gr)]) (by decide) (Nat.le_of_ble_eq_true rfl) rfl (by simp [Value.category]) ⟨rfl, rfl, rfl, trivial⟩ ?_
  intro p e s m args below meth c B
  have B : lh_BK p (lh_rm 8) s m args meth c D ad bs cI cZ t9 k "LightHoursModel" cX9_pastOf 3 (some .int) := B
  refine la_aload_n (i := 0) B dX9_pastOf_0 rfl rfl ?_
  refine la_iconst (v := 1) B dX9_pastOf_1 (by decide) ?_
  refine la_iload_n (i := 1) B dX9_pastOf_2 rfl rfl ?_
  refine la_callVi (i := 37) B (ct_X9_is h 1 sn (by unfold vp_in; decide)) lk_X9_55 (by decide) (lh_nc_lt (by decide)) rfl rfl rfl (by simp [Value.category]) dX9_pastOf_3 ?_
  refine la_if_ne (tgt := 11) B dX9_pastOf_6 (by decide) (fun c6 => ?_) (fun c6 => ?_)
  · refine la_aload_n (i := 0) B dX9_pastOf_11 rfl rfl ?_
    refine la_iload_n (i := 1) B dX9_pastOf_12 rfl rfl ?_
    refine la_callVv (i := 37) B (ct_X9_findPast h sn J ((lh_mis (k := 1) rfl J.1.2.1 (by decide) c6).mono J.1.2.1.2)) lk_X9_91 (by decide) (lh_nc_lt (by decide)) rfl rfl rfl (by simp [Value.category]) dX9_pastOf_13 ?_
    refine la_iload_n (i := 2) B dX9_pastOf_16 rfl rfl ?_
    refine la_if_eq (tgt := 27) B dX9_pastOf_17 (by decide) (fun c17 => ?_) (fun c17 => ?_)
    · refine la_aload_n (i := 0) B dX9_pastOf_27 rfl rfl ?_
      refine la_get (i := 37) (ci := 9) (j := 10) (v := .int ((gX9_findPast h sn) 37 10)) (C := RX9) (T := TX9) (N := 18) B (lh_nc_lt (by decide)) rfl ix_9 rfl (by decide) wd_683 rfl rfl dX9_pastOf_28 ?_
      exact la_ireturn B rfl (by simp only [fX9_pastOf, if_neg c6, if_pos c17]) (by simp only [gX9_pastOf, if_neg c6, if_pos c17]) dX9_pastOf_31
    · refine la_aload_n (i := 0) B dX9_pastOf_20 rfl rfl ?_
      refine la_get (i := 37) (ci := 9) (j := 11) (v := .int ((gX9_findPast h sn) 37 11)) (C := RX9) (T := TX9) (N := 18) B (lh_nc_lt (by decide)) rfl ix_9 rfl (by decide) wd_684 rfl rfl dX9_pastOf_21 ?_
      refine la_goto (tgt := 31) B dX9_pastOf_24 (by decide) ?_
      exact la_ireturn B rfl (by simp only [fX9_pastOf, if_neg c6, if_neg c17]) (by simp only [gX9_pastOf, if_neg c6, if_neg c17]) dX9_pastOf_31
  · refine la_iconst (v := -1) B dX9_pastOf_9 (by decide) ?_
    exact la_ireturn B rfl (by simp only [fX9_pastOf, if_pos c6]) (by simp only [gX9_pastOf, if_pos c6]) dX9_pastOf_10

def fX9_spent (h : lh_HS) (sn : Int32) (yr : Int32) (gr : Int32) : Int32 := (if (fX9_is h 1 sn) = 0 then (-1) else (if (fX9_isYear h yr) = 0 then (-1) else fX9_spentOf h sn yr gr))
def gX9_spent (h : lh_HS) (sn : Int32) (yr : Int32) (gr : Int32) : lh_HS := (if (fX9_is h 1 sn) = 0 then h else (if (fX9_isYear h yr) = 0 then h else gX9_spentOf h sn yr gr))
set_option maxHeartbeats 4000000 in
set_option maxRecDepth 100000 in
theorem ct_X9_spent {l : Launch} {D : va_G} {ad : Nat → Nat} {bs : Nat} {cI cZ : ClassId} {t9 : Nat} {k : Bool} (h : lh_HS) (sn : Int32) (yr : Int32) (gr : Int32) (J : lh_J h) : lh_CTi l D ad bs cI cZ t9 k yX9_spent cX9_spent 4 (some .int) 8 [.ref (ad 37), .int sn, .int yr, .int gr] h (fX9_spent h sn yr gr) (gX9_spent h sn yr gr) := by
  refine lh_ofi (lv := [(0, .ref (ad 37)), (1, .int sn), (2, .int yr), (3, .int gr)]) (by decide) (Nat.le_of_ble_eq_true rfl) rfl (by simp [Value.category]) ⟨rfl, rfl, rfl, rfl, trivial⟩ ?_
  intro p e s m args below meth c B
  have B : lh_BK p (lh_rm 8) s m args meth c D ad bs cI cZ t9 k "LightHoursModel" cX9_spent 4 (some .int) := B
  refine la_aload_n (i := 0) B dX9_spent_0 rfl rfl ?_
  refine la_iconst (v := 1) B dX9_spent_1 (by decide) ?_
  refine la_iload_n (i := 1) B dX9_spent_2 rfl rfl ?_
  refine la_callVi (i := 37) B (ct_X9_is h 1 sn (by unfold vp_in; decide)) lk_X9_55 (by decide) (lh_nc_lt (by decide)) rfl rfl rfl (by simp [Value.category]) dX9_spent_3 ?_
  refine la_if_eq (tgt := 26) B dX9_spent_6 (by decide) (fun c6 => ?_) (fun c6 => ?_)
  · refine la_iconst (v := -1) B dX9_spent_26 (by decide) ?_
    exact la_ireturn B rfl (by simp only [fX9_spent, if_pos c6]) (by simp only [gX9_spent, if_pos c6]) dX9_spent_27
  · refine la_iload_n (i := 2) B dX9_spent_9 rfl rfl ?_
    refine la_callSi B (ct_X9_isYear h yr) lk_X9_59 (by decide) rfl (by simp [Value.category]) dX9_spent_10 ?_
    refine la_if_eq (tgt := 26) B dX9_spent_13 (by decide) (fun c13 => ?_) (fun c13 => ?_)
    · refine la_iconst (v := -1) B dX9_spent_26 (by decide) ?_
      exact la_ireturn B rfl (by simp only [fX9_spent, if_neg c6, if_pos c13]) (by simp only [gX9_spent, if_neg c6, if_pos c13]) dX9_spent_27
    · refine la_aload_n (i := 0) B dX9_spent_16 rfl rfl ?_
      refine la_iload_n (i := 1) B dX9_spent_17 rfl rfl ?_
      refine la_iload_n (i := 2) B dX9_spent_18 rfl rfl ?_
      refine la_iload_n (i := 3) B dX9_spent_19 rfl rfl ?_
      refine la_callVi (i := 37) B (ct_X9_spentOf h sn yr gr J ((lh_mis (k := 1) rfl J.1.2.1 (by decide) c6).mono J.1.2.1.2)) lk_X9_95 (by decide) (lh_nc_lt (by decide)) rfl rfl rfl (by simp [Value.category]) dX9_spent_20 ?_
      refine la_goto (tgt := 27) B dX9_spent_23 (by decide) ?_
      exact la_ireturn B rfl (by simp only [fX9_spent, if_neg c6, if_neg c13]) (by simp only [gX9_spent, if_neg c6, if_neg c13]) dX9_spent_27

def fX9_left (h : lh_HS) (sn : Int32) (gr : Int32) : Int32 := (if (fX9_is h 1 sn) = 0 then -1000000 else (if gr = 0 then fX9_leastLeft h sn else (h 41 (7 * sn).toNatClampNeg) - (fX9_spentOf h sn 9 0)))
def gX9_left (h : lh_HS) (sn : Int32) (gr : Int32) : lh_HS := (if (fX9_is h 1 sn) = 0 then h else (if gr = 0 then gX9_leastLeft h sn else gX9_spentOf h sn 9 0))
set_option maxHeartbeats 4000000 in
set_option maxRecDepth 100000 in
theorem ct_X9_left {l : Launch} {D : va_G} {ad : Nat → Nat} {bs : Nat} {cI cZ : ClassId} {t9 : Nat} {k : Bool} (h : lh_HS) (sn : Int32) (gr : Int32) (J : lh_J h) : lh_CTi l D ad bs cI cZ t9 k yX9_left cX9_left 3 (some .int) 8 [.ref (ad 37), .int sn, .int gr] h (fX9_left h sn gr) (gX9_left h sn gr) := by
  refine lh_ofi (lv := [(0, .ref (ad 37)), (1, .int sn), (2, .int gr)]) (by decide) (Nat.le_of_ble_eq_true rfl) rfl (by simp [Value.category]) ⟨rfl, rfl, rfl, trivial⟩ ?_
  intro p e s m args below meth c B
  have B : lh_BK p (lh_rm 8) s m args meth c D ad bs cI cZ t9 k "LightHoursModel" cX9_left 3 (some .int) := B
  refine la_aload_n (i := 0) B dX9_left_0 rfl rfl ?_
  refine la_iconst (v := 1) B dX9_left_1 (by decide) ?_
  refine la_iload_n (i := 1) B dX9_left_2 rfl rfl ?_
  refine la_callVi (i := 37) B (ct_X9_is h 1 sn (by unfold vp_in; decide)) lk_X9_55 (by decide) (lh_nc_lt (by decide)) rfl rfl rfl (by simp [Value.category]) dX9_left_3 ?_
  refine la_if_ne (tgt := 12) B dX9_left_6 (by decide) (fun c6 => ?_) (fun c6 => ?_)
  · refine la_iload_n (i := 2) B dX9_left_12 rfl rfl ?_
    refine la_if_eq (tgt := 37) B dX9_left_13 (by decide) (fun c13 => ?_) (fun c13 => ?_)
    · refine la_aload_n (i := 0) B dX9_left_37 rfl rfl ?_
      refine la_iload_n (i := 1) B dX9_left_38 rfl rfl ?_
      refine la_callVi (i := 37) B (ct_X9_leastLeft h sn J ((lh_mis (k := 1) rfl J.1.2.1 (by decide) c6).mono J.1.2.1.2)) lk_X9_111 (by decide) (lh_nc_lt (by decide)) rfl rfl rfl (by simp [Value.category]) dX9_left_39 ?_
      exact la_ireturn B rfl (by simp only [fX9_left, if_neg c6, if_pos c13]) (by simp only [gX9_left, if_neg c6, if_pos c13]) dX9_left_42
    · refine la_aload_n (i := 0) B dX9_left_16 rfl rfl ?_
      refine la_get (i := 37) (ci := 9) (j := 3) (C := RX9) (T := TX9) (N := 18) B (lh_nc_lt (by decide)) rfl ix_9 rfl (by decide) wd_676 rfl rfl dX9_left_17 ?_
      refine la_bipush (v := 7) B dX9_left_20 (by decide) ?_
      refine la_iload_n (i := 1) B dX9_left_22 rfl rfl ?_
      refine la_imul B dX9_left_23 ?_
      refine la_iald (i := 41) (v := h 41 (7 * sn).toNatClampNeg) B (lh_nc_lt (by decide)) rfl (lh_lin0 7 ((lh_mis (k := 1) rfl J.1.2.1 (by decide) c6).mono J.1.2.1.2) (by decide) (by decide)) rfl dX9_left_24 ?_
      refine la_aload_n (i := 0) B dX9_left_25 rfl rfl ?_
      refine la_iload_n (i := 1) B dX9_left_26 rfl rfl ?_
      refine la_bipush (v := 9) B dX9_left_27 (by decide) ?_
      refine la_iconst (v := 0) B dX9_left_29 (by decide) ?_
      refine la_callVi (i := 37) B (ct_X9_spentOf h sn 9 0 J ((lh_mis (k := 1) rfl J.1.2.1 (by decide) c6).mono J.1.2.1.2)) lk_X9_95 (by decide) (lh_nc_lt (by decide)) rfl rfl rfl (by simp [Value.category]) dX9_left_30 ?_
      refine la_isub B dX9_left_33 ?_
      refine la_goto (tgt := 42) B dX9_left_34 (by decide) ?_
      exact la_ireturn B rfl (by simp only [fX9_left, if_neg c6, if_neg c13]) (by simp only [gX9_left, if_neg c6, if_neg c13]) dX9_left_42
  · refine la_ldc B wd_858 dX9_left_9 ?_
    exact la_ireturn B rfl (by simp only [fX9_left, if_pos c6]) (by simp only [gX9_left, if_pos c6]) dX9_left_11

def LX9_step (v5 : Int32) : Nat → Nat → lh_HS → Int32
  | 0, i, h => nI i
  | n + 1, i, h => (if v5 < (h 45 ((nI i) + 1).toNatClampNeg) then nI i else (LX9_step v5 n (i + 1) h))
def LX9_step_h (v5 : Int32) : Nat → Nat → lh_HS → lh_HS
  | 0, i, h => h
  | n + 1, i, h => (if v5 < (h 45 ((nI i) + 1).toNatClampNeg) then h else (LX9_step_h v5 n (i + 1) h))
set_option maxHeartbeats 4000000 in
set_option maxRecDepth 100000 in
theorem lp_X9_step {l : Launch} {D : va_G} {ad : Nat → Nat} {bs : Nat} {cI cZ : ClassId} {t9 : Nat} {k : Bool} {p : Program} {e : Env} {s : State} {m : MethodId} {args : Array Value} {below : List Frame} {meth : Method} {c : Code} (v5 : Int32) {r : Int32} {h2 : lh_HS} (B : lh_BK p (lh_rm 8) s m args meth c D ad bs cI cZ t9 k "LightHoursModel" cX9_step 6 (some .int)) (hv5 : v5 < 100000) :
    ∀ (n i : Nat) (h : lh_HS), i + n = 7 → r = LX9_step v5 n i h → h2 = LX9_step_h v5 n i h → lh_J h → lh_AJ p l e (lh_rm 8) s m args below meth c D ad bs cI cZ k 6 (MQ below (lh_Qi D ad bs cI cZ k r h2) args s 0 0 (lh_A bs)) 30 [(0, .ref (ad 37)), (4, .int v5), (5, .int (nI i))] [] h := by
  intro n
  induction n with
  | zero =>
    intro i h hi hr hh hv
    have hb : vp_in (nI i + 1) 9 := by rw [nI_1]; exact vp_in_nI (by omega) (by omega)
    have hlt : v5 < h 45 (nI i + 1).toNatClampNeg := by
      rw [show i = 7 from by omega, show (nI 7 + 1).toNatClampNeg = 8 from by decide, hv.2.2.2.2 8 (by decide)]
      exact hv5
    refine la_iload B dX9_step_30 rfl ?_
    refine la_aload_n (i := 0) B dX9_step_32 rfl rfl ?_
    refine la_get (i := 37) (ci := 9) (j := 7) (C := RX9) (T := TX9) (N := 18) B (lh_nc_lt (by decide)) rfl ix_9 rfl (by decide) wd_680 rfl rfl dX9_step_33 ?_
    refine la_iload B dX9_step_36 rfl ?_
    refine la_iconst (v := 1) B dX9_step_38 (by decide) ?_
    refine la_iadd B dX9_step_39 ?_
    refine la_iald (i := 45) (v := h 45 ((nI i) + 1).toNatClampNeg) B (lh_nc_lt (by decide)) rfl hb rfl dX9_step_40 ?_
    refine la_icmp_lt (tgt := 50) B dX9_step_41 (by decide) (fun c41 => ?_) (fun c41 => ?_)
    · refine la_iload B dX9_step_50 rfl ?_
      exact la_ireturn B rfl (by rw [hr]; simp only [LX9_step]) (by rw [hh]; simp only [LX9_step_h]) dX9_step_52
    · exact absurd hlt c41
  | succ n ih =>
    intro i h hi hr hh hv
    have hb : vp_in (nI i + 1) 9 := by rw [nI_1]; exact vp_in_nI (by omega) (by omega)
    refine la_iload B dX9_step_30 rfl ?_
    refine la_aload_n (i := 0) B dX9_step_32 rfl rfl ?_
    refine la_get (i := 37) (ci := 9) (j := 7) (C := RX9) (T := TX9) (N := 18) B (lh_nc_lt (by decide)) rfl ix_9 rfl (by decide) wd_680 rfl rfl dX9_step_33 ?_
    refine la_iload B dX9_step_36 rfl ?_
    refine la_iconst (v := 1) B dX9_step_38 (by decide) ?_
    refine la_iadd B dX9_step_39 ?_
    refine la_iald (i := 45) (v := h 45 ((nI i) + 1).toNatClampNeg) B (lh_nc_lt (by decide)) rfl hb rfl dX9_step_40 ?_
    refine la_icmp_lt (tgt := 50) B dX9_step_41 (by decide) (fun c41 => ?_) (fun c41 => ?_)
    · refine la_iload B dX9_step_50 rfl ?_
      exact la_ireturn B rfl (by rw [hr]; simp only [LX9_step, if_pos c41]) (by rw [hh]; simp only [LX9_step_h, if_pos c41]) dX9_step_52
    · refine la_iincp B dX9_step_44 rfl (by decide) ?_
      refine la_goto (tgt := 30) B dX9_step_47 (by decide) ?_
      refine la_sub (lv2 := [(0, .ref (ad 37)), (4, .int v5), (5, .int (nI (i + 1)))]) ⟨rfl, rfl, (congrArg (fun z => some (Value.int z)) (nI_1 i)), trivial⟩ (by simp [Value.category]) ?_
      exact ih (i + 1) h (by omega) (by rw [hr]; simp only [LX9_step, if_neg c41]) (by rw [hh]; simp only [LX9_step_h, if_neg c41]) hv

def fX9_step (h : lh_HS) (sn : Int32) (yr : Int32) (gr : Int32) : Int32 := (if (fX9_is h 1 sn) = 0 then (-1) else (if (fX9_isYear h yr) = 0 then (-1) else (LX9_step (fX9_spentOf h sn yr gr) 7 0 (gX9_spentOf h sn yr gr))))
def gX9_step (h : lh_HS) (sn : Int32) (yr : Int32) (gr : Int32) : lh_HS := (if (fX9_is h 1 sn) = 0 then h else (if (fX9_isYear h yr) = 0 then h else (LX9_step_h (fX9_spentOf h sn yr gr) 7 0 (gX9_spentOf h sn yr gr))))
set_option maxHeartbeats 4000000 in
set_option maxRecDepth 100000 in
theorem ct_X9_step {l : Launch} {D : va_G} {ad : Nat → Nat} {bs : Nat} {cI cZ : ClassId} {t9 : Nat} {k : Bool} (h : lh_HS) (sn : Int32) (yr : Int32) (gr : Int32) (J : lh_J h) (hlt : ¬ fX9_is h 1 sn = 0 → ¬ fX9_isYear h yr = 0 → fX9_spentOf h sn yr gr < 100000) : lh_CTi l D ad bs cI cZ t9 k yX9_step cX9_step 6 (some .int) 8 [.ref (ad 37), .int sn, .int yr, .int gr] h (fX9_step h sn yr gr) (gX9_step h sn yr gr) := by
  refine lh_ofi (lv := [(0, .ref (ad 37)), (1, .int sn), (2, .int yr), (3, .int gr)]) (by decide) (Nat.le_of_ble_eq_true rfl) rfl (by simp [Value.category]) ⟨rfl, rfl, rfl, rfl, trivial⟩ ?_
  intro p e s m args below meth c B
  have B : lh_BK p (lh_rm 8) s m args meth c D ad bs cI cZ t9 k "LightHoursModel" cX9_step 6 (some .int) := B
  refine la_aload_n (i := 0) B dX9_step_0 rfl rfl ?_
  refine la_iconst (v := 1) B dX9_step_1 (by decide) ?_
  refine la_iload_n (i := 1) B dX9_step_2 rfl rfl ?_
  refine la_callVi (i := 37) B (ct_X9_is h 1 sn (by unfold vp_in; decide)) lk_X9_55 (by decide) (lh_nc_lt (by decide)) rfl rfl rfl (by simp [Value.category]) dX9_step_3 ?_
  refine la_if_eq (tgt := 16) B dX9_step_6 (by decide) (fun c6 => ?_) (fun c6 => ?_)
  · refine la_iconst (v := -1) B dX9_step_16 (by decide) ?_
    exact la_ireturn B rfl (by simp only [fX9_step, if_pos c6]) (by simp only [gX9_step, if_pos c6]) dX9_step_17
  · refine la_iload_n (i := 2) B dX9_step_9 rfl rfl ?_
    refine la_callSi B (ct_X9_isYear h yr) lk_X9_59 (by decide) rfl (by simp [Value.category]) dX9_step_10 ?_
    refine la_if_ne (tgt := 18) B dX9_step_13 (by decide) (fun c13 => ?_) (fun c13 => ?_)
    · refine la_aload_n (i := 0) B dX9_step_18 rfl rfl ?_
      refine la_iload_n (i := 1) B dX9_step_19 rfl rfl ?_
      refine la_iload_n (i := 2) B dX9_step_20 rfl rfl ?_
      refine la_iload_n (i := 3) B dX9_step_21 rfl rfl ?_
      refine la_callVi (i := 37) B (ct_X9_spentOf h sn yr gr J ((lh_mis (k := 1) rfl J.1.2.1 (by decide) c6).mono J.1.2.1.2)) lk_X9_95 (by decide) (lh_nc_lt (by decide)) rfl rfl rfl (by simp [Value.category]) dX9_step_22 ?_
      refine la_istore B dX9_step_25 (by decide) ?_
      refine la_iconst (v := 0) B dX9_step_27 (by decide) ?_
      refine la_istore B dX9_step_28 (by decide) ?_
      refine la_sub (lv2 := [(0, .ref (ad 37)), (4, .int (fX9_spentOf h sn yr gr)), (5, .int (nI 0))]) ⟨rfl, rfl, rfl, trivial⟩ (by simp [Value.category]) ?_
      exact lp_X9_step _ B (hlt c6 c13) 7 0 (gX9_spentOf h sn yr gr) rfl (by simp only [fX9_step, if_neg c6, if_neg c13]) (by simp only [gX9_step, if_neg c6, if_neg c13]) (J.fm (fm_spentOf (lh_fm.rf h) sn yr gr))
    · refine la_iconst (v := -1) B dX9_step_16 (by decide) ?_
      exact la_ireturn B rfl (by simp only [fX9_step, if_neg c6, if_pos c13]) (by simp only [gX9_step, if_neg c6, if_pos c13]) dX9_step_17

def fX9_wall (h : lh_HS) (rn : Int32) (yr : Int32) (th : Int32) : Int32 := (if (fX9_is h 0 rn) = 0 then (-1) else (if (fX9_isYear h yr) = 0 then (-1) else (if (fX9_in h th 0 3) = 0 then (-1) else (if (h 38 4) = 5 then (-2) else fX9_came (lh_up (lh_up (lh_up h 44 ((3 * (h 38 4)).toNatClampNeg) rn) 44 (((3 * (h 38 4)) + 1).toNatClampNeg) yr) 44 (((3 * (h 38 4)) + 2).toNatClampNeg) th) 4))))
def gX9_wall (h : lh_HS) (rn : Int32) (yr : Int32) (th : Int32) : lh_HS := (if (fX9_is h 0 rn) = 0 then h else (if (fX9_isYear h yr) = 0 then h else (if (fX9_in h th 0 3) = 0 then h else (if (h 38 4) = 5 then h else gX9_came (lh_up (lh_up (lh_up h 44 ((3 * (h 38 4)).toNatClampNeg) rn) 44 (((3 * (h 38 4)) + 1).toNatClampNeg) yr) 44 (((3 * (h 38 4)) + 2).toNatClampNeg) th) 4))))
set_option maxHeartbeats 4000000 in
set_option maxRecDepth 100000 in
theorem ct_X9_wall {l : Launch} {D : va_G} {ad : Nat → Nat} {bs : Nat} {cI cZ : ClassId} {t9 : Nat} {k : Bool} (h : lh_HS) (rn : Int32) (yr : Int32) (th : Int32) (J : lh_J h) : lh_CTi l D ad bs cI cZ t9 k yX9_wall cX9_wall 5 (some .int) 8 [.ref (ad 37), .int rn, .int yr, .int th] h (fX9_wall h rn yr th) (gX9_wall h rn yr th) := by
  refine lh_ofi (lv := [(0, .ref (ad 37)), (1, .int rn), (2, .int yr), (3, .int th)]) (by decide) (Nat.le_of_ble_eq_true rfl) rfl (by simp [Value.category]) ⟨rfl, rfl, rfl, rfl, trivial⟩ ?_
  intro p e s m args below meth c B
  have B : lh_BK p (lh_rm 8) s m args meth c D ad bs cI cZ t9 k "LightHoursModel" cX9_wall 5 (some .int) := B
  refine la_aload_n (i := 0) B dX9_wall_0 rfl rfl ?_
  refine la_iconst (v := 0) B dX9_wall_1 (by decide) ?_
  refine la_iload_n (i := 1) B dX9_wall_2 rfl rfl ?_
  refine la_callVi (i := 37) B (ct_X9_is h 0 rn (by unfold vp_in; decide)) lk_X9_55 (by decide) (lh_nc_lt (by decide)) rfl rfl rfl (by simp [Value.category]) dX9_wall_3 ?_
  refine la_if_eq (tgt := 25) B dX9_wall_6 (by decide) (fun c6 => ?_) (fun c6 => ?_)
  · refine la_iconst (v := -1) B dX9_wall_25 (by decide) ?_
    exact la_ireturn B rfl (by simp only [fX9_wall, if_pos c6]) (by simp only [gX9_wall, if_pos c6]) dX9_wall_26
  · refine la_iload_n (i := 2) B dX9_wall_9 rfl rfl ?_
    refine la_callSi B (ct_X9_isYear h yr) lk_X9_59 (by decide) rfl (by simp [Value.category]) dX9_wall_10 ?_
    refine la_if_eq (tgt := 25) B dX9_wall_13 (by decide) (fun c13 => ?_) (fun c13 => ?_)
    · refine la_iconst (v := -1) B dX9_wall_25 (by decide) ?_
      exact la_ireturn B rfl (by simp only [fX9_wall, if_neg c6, if_pos c13]) (by simp only [gX9_wall, if_neg c6, if_pos c13]) dX9_wall_26
    · refine la_iload_n (i := 3) B dX9_wall_16 rfl rfl ?_
      refine la_iconst (v := 0) B dX9_wall_17 (by decide) ?_
      refine la_iconst (v := 3) B dX9_wall_18 (by decide) ?_
      refine la_callSi B (ct_X9_in h th 0 3) lk_X9_47 (by decide) rfl (by simp [Value.category]) dX9_wall_19 ?_
      refine la_if_ne (tgt := 27) B dX9_wall_22 (by decide) (fun c22 => ?_) (fun c22 => ?_)
      · refine la_aload_n (i := 0) B dX9_wall_27 rfl rfl ?_
        refine la_get (i := 37) (ci := 9) (j := 0) (C := RX9) (T := TX9) (N := 18) B (lh_nc_lt (by decide)) rfl ix_9 rfl (by decide) wd_673 rfl rfl dX9_wall_28 ?_
        refine la_iconst (v := 4) B dX9_wall_31 (by decide) ?_
        refine la_iald (i := 38) (v := h 38 4) B (lh_nc_lt (by decide)) rfl (by unfold vp_in; decide) rfl dX9_wall_32 ?_
        refine la_iconst (v := 5) B dX9_wall_33 (by decide) ?_
        refine la_icmp_ne (tgt := 40) B dX9_wall_34 (by decide) (fun c34 => ?_) (fun c34 => ?_)
        · refine la_iconst (v := 3) B dX9_wall_40 (by decide) ?_
          refine la_aload_n (i := 0) B dX9_wall_41 rfl rfl ?_
          refine la_get (i := 37) (ci := 9) (j := 0) (C := RX9) (T := TX9) (N := 18) B (lh_nc_lt (by decide)) rfl ix_9 rfl (by decide) wd_673 rfl rfl dX9_wall_42 ?_
          refine la_iconst (v := 4) B dX9_wall_45 (by decide) ?_
          refine la_iald (i := 38) (v := h 38 4) B (lh_nc_lt (by decide)) rfl (by unfold vp_in; decide) rfl dX9_wall_46 ?_
          refine la_imul B dX9_wall_47 ?_
          refine la_istore B dX9_wall_48 (by decide) ?_
          refine la_aload_n (i := 0) B dX9_wall_50 rfl rfl ?_
          refine la_get (i := 37) (ci := 9) (j := 6) (C := RX9) (T := TX9) (N := 18) B (lh_nc_lt (by decide)) rfl ix_9 rfl (by decide) wd_679 rfl rfl dX9_wall_51 ?_
          refine la_iload B dX9_wall_54 rfl ?_
          refine la_iload_n (i := 1) B dX9_wall_56 rfl rfl ?_
          refine la_iast (i := 44) (j := (3 * (h 38 4)).toNatClampNeg) B (lh_nc_lt (by decide)) rfl rfl (lh_lin0 3 (lh_mne J.1.2.2.2.2 rfl c34) (by decide) (by decide)) rfl dX9_wall_57 ?_
          refine la_aload_n (i := 0) B dX9_wall_58 rfl rfl ?_
          refine la_get (i := 37) (ci := 9) (j := 6) (C := RX9) (T := TX9) (N := 18) B (lh_nc_lt (by decide)) rfl ix_9 rfl (by decide) wd_679 rfl rfl dX9_wall_59 ?_
          refine la_iload B dX9_wall_62 rfl ?_
          refine la_iconst (v := 1) B dX9_wall_64 (by decide) ?_
          refine la_iadd B dX9_wall_65 ?_
          refine la_iload_n (i := 2) B dX9_wall_66 rfl rfl ?_
          refine la_iast (i := 44) (j := ((3 * (h 38 4)) + 1).toNatClampNeg) B (lh_nc_lt (by decide)) rfl rfl (lh_lin 3 1 (lh_mne J.1.2.2.2.2 rfl c34) (by decide) (by decide)) rfl dX9_wall_67 ?_
          refine la_aload_n (i := 0) B dX9_wall_68 rfl rfl ?_
          refine la_get (i := 37) (ci := 9) (j := 6) (C := RX9) (T := TX9) (N := 18) B (lh_nc_lt (by decide)) rfl ix_9 rfl (by decide) wd_679 rfl rfl dX9_wall_69 ?_
          refine la_iload B dX9_wall_72 rfl ?_
          refine la_iconst (v := 2) B dX9_wall_74 (by decide) ?_
          refine la_iadd B dX9_wall_75 ?_
          refine la_iload_n (i := 3) B dX9_wall_76 rfl rfl ?_
          refine la_iast (i := 44) (j := ((3 * (h 38 4)) + 2).toNatClampNeg) B (lh_nc_lt (by decide)) rfl rfl (lh_lin 3 2 (lh_mne J.1.2.2.2.2 rfl c34) (by decide) (by decide)) rfl dX9_wall_77 ?_
          refine la_aload_n (i := 0) B dX9_wall_78 rfl rfl ?_
          refine la_iconst (v := 4) B dX9_wall_79 (by decide) ?_
          refine la_callVi (i := 37) B (ct_X9_came (lh_up (lh_up (lh_up h 44 ((3 * (h 38 4)).toNatClampNeg) rn) 44 (((3 * (h 38 4)) + 1).toNatClampNeg) yr) 44 (((3 * (h 38 4)) + 2).toNatClampNeg) th) 4 (by unfold vp_in; decide)) lk_X9_51 (by decide) (lh_nc_lt (by decide)) rfl rfl rfl (by simp [Value.category]) dX9_wall_80 ?_
          exact la_ireturn B rfl (by simp only [fX9_wall, if_neg c6, if_neg c13, if_neg c22, if_neg c34]) (by simp only [gX9_wall, if_neg c6, if_neg c13, if_neg c22, if_neg c34]) dX9_wall_83
        · refine la_bipush (v := -2) B dX9_wall_37 (by decide) ?_
          exact la_ireturn B rfl (by simp only [fX9_wall, if_neg c6, if_neg c13, if_neg c22, if_pos c34]) (by simp only [gX9_wall, if_neg c6, if_neg c13, if_neg c22, if_pos c34]) dX9_wall_39
      · refine la_iconst (v := -1) B dX9_wall_25 (by decide) ?_
        exact la_ireturn B rfl (by simp only [fX9_wall, if_neg c6, if_neg c13, if_pos c22]) (by simp only [gX9_wall, if_neg c6, if_neg c13, if_pos c22]) dX9_wall_26

def fX9_strip (h : lh_HS)  : Int32 := (if (h 38 4) = 0 then (-4) else ((h 38 4) - 1))
def gX9_strip (h : lh_HS)  : lh_HS := (if (h 38 4) = 0 then h else lh_up h 38 4 (((h 38 4) - 1)))
set_option maxHeartbeats 4000000 in
set_option maxRecDepth 100000 in
theorem ct_X9_strip {l : Launch} {D : va_G} {ad : Nat → Nat} {bs : Nat} {cI cZ : ClassId} {t9 : Nat} {k : Bool} (h : lh_HS)  (J : lh_J h) : lh_CTi l D ad bs cI cZ t9 k yX9_strip cX9_strip 1 (some .int) 8 [.ref (ad 37)] h (fX9_strip h ) (gX9_strip h ) := by
  refine lh_ofi (lv := [(0, .ref (ad 37))]) (by decide) (Nat.le_of_ble_eq_true rfl) rfl (by simp [Value.category]) ⟨rfl, trivial⟩ ?_
  intro p e s m args below meth c B
  have B : lh_BK p (lh_rm 8) s m args meth c D ad bs cI cZ t9 k "LightHoursModel" cX9_strip 1 (some .int) := B
  refine la_aload_n (i := 0) B dX9_strip_0 rfl rfl ?_
  refine la_get (i := 37) (ci := 9) (j := 0) (C := RX9) (T := TX9) (N := 18) B (lh_nc_lt (by decide)) rfl ix_9 rfl (by decide) wd_673 rfl rfl dX9_strip_1 ?_
  refine la_iconst (v := 4) B dX9_strip_4 (by decide) ?_
  refine la_iald (i := 38) (v := h 38 4) B (lh_nc_lt (by decide)) rfl (by unfold vp_in; decide) rfl dX9_strip_5 ?_
  refine la_if_ne (tgt := 12) B dX9_strip_6 (by decide) (fun c6 => ?_) (fun c6 => ?_)
  · refine la_aload_n (i := 0) B dX9_strip_12 rfl rfl ?_
    refine la_get (i := 37) (ci := 9) (j := 0) (C := RX9) (T := TX9) (N := 18) B (lh_nc_lt (by decide)) rfl ix_9 rfl (by decide) wd_673 rfl rfl dX9_strip_13 ?_
    refine la_iconst (v := 4) B dX9_strip_16 (by decide) ?_
    refine la_dup2 B dX9_strip_17 rfl rfl ?_
    refine la_iald (i := 38) (v := h 38 4) B (lh_nc_lt (by decide)) rfl (by unfold vp_in; decide) rfl dX9_strip_18 ?_
    refine la_iconst (v := 1) B dX9_strip_19 (by decide) ?_
    refine la_isub B dX9_strip_20 ?_
    refine la_iast (i := 38) (j := 4) B (lh_nc_lt (by decide)) rfl rfl (by unfold vp_in; decide) rfl dX9_strip_21 ?_
    refine la_aload_n (i := 0) B dX9_strip_22 rfl rfl ?_
    refine la_get (i := 37) (ci := 9) (j := 0) (C := RX9) (T := TX9) (N := 18) B (lh_nc_lt (by decide)) rfl ix_9 rfl (by decide) wd_673 rfl rfl dX9_strip_23 ?_
    refine la_iconst (v := 4) B dX9_strip_26 (by decide) ?_
    refine la_iald (i := 38) (v := ((h 38 4) - 1)) B (lh_nc_lt (by decide)) rfl (by unfold vp_in; decide) rfl dX9_strip_27 ?_
    exact la_ireturn B rfl (by simp only [fX9_strip, if_neg c6]) (by simp only [gX9_strip, if_neg c6]) dX9_strip_28
  · refine la_bipush (v := -4) B dX9_strip_9 (by decide) ?_
    exact la_ireturn B rfl (by simp only [fX9_strip, if_pos c6]) (by simp only [gX9_strip, if_pos c6]) dX9_strip_11

theorem fm_of {a h : lh_HS} (f : lh_fm a h) (sn wh : Int32) : lh_fm a (gX9_of h sn wh) := by
  unfold gX9_of
  repeat' split
  all_goals first | exact f | exact fm_findPast f sn
def LX9_quarrels  : Nat → Nat → Int32 → lh_HS → Int32
  | 0, i, acc, h => acc
  | n + 1, i, acc, h => (LX9_quarrels n (i + 1) (acc + (fX9_of h (nI i) 5)) (gX9_of h (nI i) 5))
def LX9_quarrels_h  : Nat → Nat → Int32 → lh_HS → lh_HS
  | 0, i, acc, h => h
  | n + 1, i, acc, h => (LX9_quarrels_h n (i + 1) (acc + (fX9_of h (nI i) 5)) (gX9_of h (nI i) 5))
set_option maxHeartbeats 4000000 in
set_option maxRecDepth 100000 in
theorem lp_X9_quarrels {l : Launch} {D : va_G} {ad : Nat → Nat} {bs : Nat} {cI cZ : ClassId} {t9 : Nat} {k : Bool} {p : Program} {e : Env} {s : State} {m : MethodId} {args : Array Value} {below : List Frame} {meth : Method} {c : Code}  {r : Int32} {h2 : lh_HS} (B : lh_BK p (lh_rm 9) s m args meth c D ad bs cI cZ t9 k "LightHoursModel" cX9_quarrels 3 (some .int)) {h0 : lh_HS} (J0 : lh_J h0) {N : Nat} (hN0 : N = lh_m h0 1) :
    ∀ (n i : Nat) (acc : Int32) (h : lh_HS), i + n = N → r = LX9_quarrels n i acc h → h2 = LX9_quarrels_h n i acc h → lh_fm h0 h → lh_AJ p l e (lh_rm 9) s m args below meth c D ad bs cI cZ k 3 (MQ below (lh_Qi D ad bs cI cZ k r h2) args s 0 0 (lh_A bs)) 4 [(0, .ref (ad 37)), (1, .int acc), (2, .int (nI i))] [] h := by
  intro n
  induction n with
  | zero =>
    intro i acc h hi hr hh hv
    have J := J0.fm hv
    have hM := J0.1.2.1.2
    have hN : h 38 1 = nI N := by rw [hv 38 (by decide) (by decide), hN0]; exact J0.1.2.1.1
    have hexit : h 38 1 ≤ nI i := by rw [hN]; exact nI_le (by omega) (by omega)
    refine la_iload_n (i := 2) B dX9_quarrels_4 rfl rfl ?_
    refine la_aload_n (i := 0) B dX9_quarrels_5 rfl rfl ?_
    refine la_get (i := 37) (ci := 9) (j := 0) (C := RX9) (T := TX9) (N := 18) B (lh_nc_lt (by decide)) rfl ix_9 rfl (by decide) wd_673 rfl rfl dX9_quarrels_6 ?_
    refine la_iconst (v := 1) B dX9_quarrels_9 (by decide) ?_
    refine la_iald (i := 38) (v := h 38 1) B (lh_nc_lt (by decide)) rfl (by unfold vp_in; decide) rfl dX9_quarrels_10 ?_
    refine la_icmp_ge (tgt := 29) B dX9_quarrels_11 (by decide) (fun c11 => ?_) (fun c11 => ?_)
    · refine la_iload_n (i := 1) B dX9_quarrels_29 rfl rfl ?_
      exact la_ireturn B rfl (by rw [hr]; simp only [LX9_quarrels]) (by rw [hh]; simp only [LX9_quarrels_h]) dX9_quarrels_30
    · exact absurd hexit c11
  | succ n ih =>
    intro i acc h hi hr hh hv
    have J := J0.fm hv
    have hM := J0.1.2.1.2
    have hN : h 38 1 = nI N := by rw [hv 38 (by decide) (by decide), hN0]; exact J0.1.2.1.1
    have hcont : ¬ h 38 1 ≤ nI i := by rw [hN]; exact nI_ge (by omega) (by omega)
    refine la_iload_n (i := 2) B dX9_quarrels_4 rfl rfl ?_
    refine la_aload_n (i := 0) B dX9_quarrels_5 rfl rfl ?_
    refine la_get (i := 37) (ci := 9) (j := 0) (C := RX9) (T := TX9) (N := 18) B (lh_nc_lt (by decide)) rfl ix_9 rfl (by decide) wd_673 rfl rfl dX9_quarrels_6 ?_
    refine la_iconst (v := 1) B dX9_quarrels_9 (by decide) ?_
    refine la_iald (i := 38) (v := h 38 1) B (lh_nc_lt (by decide)) rfl (by unfold vp_in; decide) rfl dX9_quarrels_10 ?_
    refine la_icmp_ge (tgt := 29) B dX9_quarrels_11 (by decide) (fun c11 => ?_) (fun c11 => ?_)
    · exact absurd c11 hcont
    · refine la_iload_n (i := 1) B dX9_quarrels_14 rfl rfl ?_
      refine la_aload_n (i := 0) B dX9_quarrels_15 rfl rfl ?_
      refine la_iload_n (i := 2) B dX9_quarrels_16 rfl rfl ?_
      refine la_iconst (v := 5) B dX9_quarrels_17 (by decide) ?_
      refine la_callVi (i := 37) B (ct_X9_of h (nI i) 5 J) lk_X9_137 (by decide) (lh_nc_lt (by decide)) rfl rfl rfl (by simp [Value.category]) dX9_quarrels_18 ?_
      refine la_iadd B dX9_quarrels_21 ?_
      refine la_istore_n (i := 1) B dX9_quarrels_22 rfl (by decide) ?_
      refine la_iincp B dX9_quarrels_23 rfl (by decide) ?_
      refine la_goto (tgt := 4) B dX9_quarrels_26 (by decide) ?_
      refine la_sub (lv2 := [(0, .ref (ad 37)), (1, .int ((acc + (fX9_of h (nI i) 5)))), (2, .int (nI (i + 1)))]) ⟨rfl, rfl, (congrArg (fun z => some (Value.int z)) (nI_1 i)), trivial⟩ (by simp [Value.category]) ?_
      exact ih (i + 1) (acc + (fX9_of h (nI i) 5)) (gX9_of h (nI i) 5) (by omega) (by rw [hr]; simp only [LX9_quarrels]) (by rw [hh]; simp only [LX9_quarrels_h]) (fm_of hv _ _)

def fX9_quarrels (h : lh_HS)  : Int32 := (LX9_quarrels (lh_m h 1) 0 0 h)
def gX9_quarrels (h : lh_HS)  : lh_HS := (LX9_quarrels_h (lh_m h 1) 0 0 h)
set_option maxHeartbeats 4000000 in
set_option maxRecDepth 100000 in
theorem ct_X9_quarrels {l : Launch} {D : va_G} {ad : Nat → Nat} {bs : Nat} {cI cZ : ClassId} {t9 : Nat} {k : Bool} (h : lh_HS)  (J : lh_J h) : lh_CTi l D ad bs cI cZ t9 k yX9_quarrels cX9_quarrels 3 (some .int) 9 [.ref (ad 37)] h (fX9_quarrels h ) (gX9_quarrels h ) := by
  refine lh_ofi (lv := [(0, .ref (ad 37))]) (by decide) (Nat.le_of_ble_eq_true rfl) rfl (by simp [Value.category]) ⟨rfl, trivial⟩ ?_
  intro p e s m args below meth c B
  have B : lh_BK p (lh_rm 9) s m args meth c D ad bs cI cZ t9 k "LightHoursModel" cX9_quarrels 3 (some .int) := B
  refine la_iconst (v := 0) B dX9_quarrels_0 (by decide) ?_
  refine la_istore_n (i := 1) B dX9_quarrels_1 rfl (by decide) ?_
  refine la_iconst (v := 0) B dX9_quarrels_2 (by decide) ?_
  refine la_istore_n (i := 2) B dX9_quarrels_3 rfl (by decide) ?_
  refine la_sub (lv2 := [(0, .ref (ad 37)), (1, .int 0), (2, .int (nI 0))]) ⟨rfl, rfl, rfl, trivial⟩ (by simp [Value.category]) ?_
  exact lp_X9_quarrels B J rfl _ 0 0 h (Nat.zero_add _) (by simp only [fX9_quarrels]) (by simp only [gX9_quarrels]) (lh_fm.rf h)

def LX9_overspent  : Nat → Nat → Int32 → lh_HS → Int32
  | 0, i, acc, h => acc
  | n + 1, i, acc, h => (if 0 ≤ (fX9_leastLeft h (nI i)) then (LX9_overspent n (i + 1) (acc + 0) (gX9_leastLeft h (nI i))) else (LX9_overspent n (i + 1) (acc + 1) (gX9_leastLeft h (nI i))))
def LX9_overspent_h  : Nat → Nat → Int32 → lh_HS → lh_HS
  | 0, i, acc, h => h
  | n + 1, i, acc, h => (if 0 ≤ (fX9_leastLeft h (nI i)) then (LX9_overspent_h n (i + 1) (acc + 0) (gX9_leastLeft h (nI i))) else (LX9_overspent_h n (i + 1) (acc + 1) (gX9_leastLeft h (nI i))))
set_option maxHeartbeats 4000000 in
set_option maxRecDepth 100000 in
theorem lp_X9_overspent {l : Launch} {D : va_G} {ad : Nat → Nat} {bs : Nat} {cI cZ : ClassId} {t9 : Nat} {k : Bool} {p : Program} {e : Env} {s : State} {m : MethodId} {args : Array Value} {below : List Frame} {meth : Method} {c : Code}  {r : Int32} {h2 : lh_HS} (B : lh_BK p (lh_rm 9) s m args meth c D ad bs cI cZ t9 k "LightHoursModel" cX9_overspent 3 (some .int)) {h0 : lh_HS} (J0 : lh_J h0) {N : Nat} (hN0 : N = lh_m h0 1) :
    ∀ (n i : Nat) (acc : Int32) (h : lh_HS), i + n = N → r = LX9_overspent n i acc h → h2 = LX9_overspent_h n i acc h → lh_fm h0 h → lh_AJ p l e (lh_rm 9) s m args below meth c D ad bs cI cZ k 3 (MQ below (lh_Qi D ad bs cI cZ k r h2) args s 0 0 (lh_A bs)) 4 [(0, .ref (ad 37)), (1, .int acc), (2, .int (nI i))] [] h := by
  intro n
  induction n with
  | zero =>
    intro i acc h hi hr hh hv
    have J := J0.fm hv
    have hM := J0.1.2.1.2
    have hN : h 38 1 = nI N := by rw [hv 38 (by decide) (by decide), hN0]; exact J0.1.2.1.1
    have hexit : h 38 1 ≤ nI i := by rw [hN]; exact nI_le (by omega) (by omega)
    refine la_iload_n (i := 2) B dX9_overspent_4 rfl rfl ?_
    refine la_aload_n (i := 0) B dX9_overspent_5 rfl rfl ?_
    refine la_get (i := 37) (ci := 9) (j := 0) (C := RX9) (T := TX9) (N := 18) B (lh_nc_lt (by decide)) rfl ix_9 rfl (by decide) wd_673 rfl rfl dX9_overspent_6 ?_
    refine la_iconst (v := 1) B dX9_overspent_9 (by decide) ?_
    refine la_iald (i := 38) (v := h 38 1) B (lh_nc_lt (by decide)) rfl (by unfold vp_in; decide) rfl dX9_overspent_10 ?_
    refine la_icmp_ge (tgt := 36) B dX9_overspent_11 (by decide) (fun c11 => ?_) (fun c11 => ?_)
    · refine la_iload_n (i := 1) B dX9_overspent_36 rfl rfl ?_
      exact la_ireturn B rfl (by rw [hr]; simp only [LX9_overspent]) (by rw [hh]; simp only [LX9_overspent_h]) dX9_overspent_37
    · exact absurd hexit c11
  | succ n ih =>
    intro i acc h hi hr hh hv
    have J := J0.fm hv
    have hM := J0.1.2.1.2
    have hN : h 38 1 = nI N := by rw [hv 38 (by decide) (by decide), hN0]; exact J0.1.2.1.1
    have hcont : ¬ h 38 1 ≤ nI i := by rw [hN]; exact nI_ge (by omega) (by omega)
    have hs : lh_ix (nI i) 8 := lh_ix_nI (by omega)
    refine la_iload_n (i := 2) B dX9_overspent_4 rfl rfl ?_
    refine la_aload_n (i := 0) B dX9_overspent_5 rfl rfl ?_
    refine la_get (i := 37) (ci := 9) (j := 0) (C := RX9) (T := TX9) (N := 18) B (lh_nc_lt (by decide)) rfl ix_9 rfl (by decide) wd_673 rfl rfl dX9_overspent_6 ?_
    refine la_iconst (v := 1) B dX9_overspent_9 (by decide) ?_
    refine la_iald (i := 38) (v := h 38 1) B (lh_nc_lt (by decide)) rfl (by unfold vp_in; decide) rfl dX9_overspent_10 ?_
    refine la_icmp_ge (tgt := 36) B dX9_overspent_11 (by decide) (fun c11 => ?_) (fun c11 => ?_)
    · exact absurd c11 hcont
    · refine la_iload_n (i := 1) B dX9_overspent_14 rfl rfl ?_
      refine la_aload_n (i := 0) B dX9_overspent_15 rfl rfl ?_
      refine la_iload_n (i := 2) B dX9_overspent_16 rfl rfl ?_
      refine la_callVi (i := 37) B (ct_X9_leastLeft h (nI i) J hs) lk_X9_111 (by decide) (lh_nc_lt (by decide)) rfl rfl rfl (by simp [Value.category]) dX9_overspent_17 ?_
      refine la_if_ge (tgt := 27) B dX9_overspent_20 (by decide) (fun c20 => ?_) (fun c20 => ?_)
      · refine la_iconst (v := 0) B dX9_overspent_27 (by decide) ?_
        refine la_iadd B dX9_overspent_28 ?_
        refine la_istore_n (i := 1) B dX9_overspent_29 rfl (by decide) ?_
        refine la_iincp B dX9_overspent_30 rfl (by decide) ?_
        refine la_goto (tgt := 4) B dX9_overspent_33 (by decide) ?_
        refine la_sub (lv2 := [(0, .ref (ad 37)), (1, .int ((acc + 0))), (2, .int (nI (i + 1)))]) ⟨rfl, rfl, (congrArg (fun z => some (Value.int z)) (nI_1 i)), trivial⟩ (by simp [Value.category]) ?_
        exact ih (i + 1) (acc + 0) (gX9_leastLeft h (nI i)) (by omega) (by rw [hr]; simp only [LX9_overspent, if_pos c20]) (by rw [hh]; simp only [LX9_overspent_h, if_pos c20]) (fm_leastLeft hv _)
      · refine la_iconst (v := 1) B dX9_overspent_23 (by decide) ?_
        refine la_goto (tgt := 28) B dX9_overspent_24 (by decide) ?_
        refine la_iadd B dX9_overspent_28 ?_
        refine la_istore_n (i := 1) B dX9_overspent_29 rfl (by decide) ?_
        refine la_iincp B dX9_overspent_30 rfl (by decide) ?_
        refine la_goto (tgt := 4) B dX9_overspent_33 (by decide) ?_
        refine la_sub (lv2 := [(0, .ref (ad 37)), (1, .int ((acc + 1))), (2, .int (nI (i + 1)))]) ⟨rfl, rfl, (congrArg (fun z => some (Value.int z)) (nI_1 i)), trivial⟩ (by simp [Value.category]) ?_
        exact ih (i + 1) (acc + 1) (gX9_leastLeft h (nI i)) (by omega) (by rw [hr]; simp only [LX9_overspent, if_neg c20]) (by rw [hh]; simp only [LX9_overspent_h, if_neg c20]) (fm_leastLeft hv _)

def fX9_overspent (h : lh_HS)  : Int32 := (LX9_overspent (lh_m h 1) 0 0 h)
def gX9_overspent (h : lh_HS)  : lh_HS := (LX9_overspent_h (lh_m h 1) 0 0 h)
set_option maxHeartbeats 4000000 in
set_option maxRecDepth 100000 in
theorem ct_X9_overspent {l : Launch} {D : va_G} {ad : Nat → Nat} {bs : Nat} {cI cZ : ClassId} {t9 : Nat} {k : Bool} (h : lh_HS)  (J : lh_J h) : lh_CTi l D ad bs cI cZ t9 k yX9_overspent cX9_overspent 3 (some .int) 9 [.ref (ad 37)] h (fX9_overspent h ) (gX9_overspent h ) := by
  refine lh_ofi (lv := [(0, .ref (ad 37))]) (by decide) (Nat.le_of_ble_eq_true rfl) rfl (by simp [Value.category]) ⟨rfl, trivial⟩ ?_
  intro p e s m args below meth c B
  have B : lh_BK p (lh_rm 9) s m args meth c D ad bs cI cZ t9 k "LightHoursModel" cX9_overspent 3 (some .int) := B
  refine la_iconst (v := 0) B dX9_overspent_0 (by decide) ?_
  refine la_istore_n (i := 1) B dX9_overspent_1 rfl (by decide) ?_
  refine la_iconst (v := 0) B dX9_overspent_2 (by decide) ?_
  refine la_istore_n (i := 2) B dX9_overspent_3 rfl (by decide) ?_
  refine la_sub (lv2 := [(0, .ref (ad 37)), (1, .int 0), (2, .int (nI 0))]) ⟨rfl, rfl, rfl, trivial⟩ (by simp [Value.category]) ?_
  exact lp_X9_overspent B J rfl _ 0 0 h (Nat.zero_add _) (by simp only [fX9_overspent]) (by simp only [gX9_overspent]) (lh_fm.rf h)

def fX9_many (h : lh_HS) (wh : Int32) : Int32 := (if wh = 0 then h 38 0 else (if wh = 1 then h 38 1 else (if wh = 2 then h 38 2 else (if wh = 3 then fX9_cancelled h  else (if wh = 4 then h 38 3 else (if wh = 5 then h 38 4 else (if wh = 6 then fX9_quarrels h  else (if wh = 7 then fX9_overspent h  else (if wh = 8 then fX9_readMany h  else (-1))))))))))
def gX9_many (h : lh_HS) (wh : Int32) : lh_HS := (if wh = 0 then h else (if wh = 1 then h else (if wh = 2 then h else (if wh = 3 then h else (if wh = 4 then h else (if wh = 5 then h else (if wh = 6 then gX9_quarrels h  else (if wh = 7 then gX9_overspent h  else h))))))))
set_option maxHeartbeats 4000000 in
set_option maxRecDepth 100000 in
theorem ct_X9_many {l : Launch} {D : va_G} {ad : Nat → Nat} {bs : Nat} {cI cZ : ClassId} {t9 : Nat} {k : Bool} (h : lh_HS) (wh : Int32) (J : lh_J h) : lh_CTi l D ad bs cI cZ t9 k yX9_many cX9_many 2 (some .int) 10 [.ref (ad 37), .int wh] h (fX9_many h wh) (gX9_many h wh) := by
  refine lh_ofi (lv := [(0, .ref (ad 37)), (1, .int wh)]) (by decide) (Nat.le_of_ble_eq_true rfl) rfl (by simp [Value.category]) ⟨rfl, rfl, trivial⟩ ?_
  intro p e s m args below meth c B
  have B : lh_BK p (lh_rm 10) s m args meth c D ad bs cI cZ t9 k "LightHoursModel" cX9_many 2 (some .int) := B
  refine la_iload_n (i := 1) B dX9_many_0 rfl rfl ?_
  by_cases s1_0 : wh = 0
  · refine la_tabIn (off := 51) (tgt := 52) B dX9_many_1 (by rw [s1_0]; decide) (by rw [s1_0]; decide) (by rw [s1_0]; decide) (by decide) ?_
    refine la_aload_n (i := 0) B dX9_many_52 rfl rfl ?_
    refine la_get (i := 37) (ci := 9) (j := 0) (C := RX9) (T := TX9) (N := 18) B (lh_nc_lt (by decide)) rfl ix_9 rfl (by decide) wd_673 rfl rfl dX9_many_53 ?_
    refine la_iconst (v := 0) B dX9_many_56 (by decide) ?_
    refine la_iald (i := 38) (v := h 38 0) B (lh_nc_lt (by decide)) rfl (by unfold vp_in; decide) rfl dX9_many_57 ?_
    exact la_ireturn B rfl (by simp only [fX9_many, if_pos s1_0]) (by simp only [gX9_many, if_pos s1_0]) dX9_many_58
  · have ts1_0 := lv_neT s1_0 (show (0 : Int32).toInt = 0 from by decide)
    by_cases s1_1 : wh = 1
    · refine la_tabIn (off := 58) (tgt := 59) B dX9_many_1 (by rw [s1_1]; decide) (by rw [s1_1]; decide) (by rw [s1_1]; decide) (by decide) ?_
      refine la_aload_n (i := 0) B dX9_many_59 rfl rfl ?_
      refine la_get (i := 37) (ci := 9) (j := 0) (C := RX9) (T := TX9) (N := 18) B (lh_nc_lt (by decide)) rfl ix_9 rfl (by decide) wd_673 rfl rfl dX9_many_60 ?_
      refine la_iconst (v := 1) B dX9_many_63 (by decide) ?_
      refine la_iald (i := 38) (v := h 38 1) B (lh_nc_lt (by decide)) rfl (by unfold vp_in; decide) rfl dX9_many_64 ?_
      exact la_ireturn B rfl (by simp only [fX9_many, if_neg s1_0, if_pos s1_1]) (by simp only [gX9_many, if_neg s1_0, if_pos s1_1]) dX9_many_65
    · have ts1_1 := lv_neT s1_1 (show (1 : Int32).toInt = 1 from by decide)
      by_cases s1_2 : wh = 2
      · refine la_tabIn (off := 65) (tgt := 66) B dX9_many_1 (by rw [s1_2]; decide) (by rw [s1_2]; decide) (by rw [s1_2]; decide) (by decide) ?_
        refine la_aload_n (i := 0) B dX9_many_66 rfl rfl ?_
        refine la_get (i := 37) (ci := 9) (j := 0) (C := RX9) (T := TX9) (N := 18) B (lh_nc_lt (by decide)) rfl ix_9 rfl (by decide) wd_673 rfl rfl dX9_many_67 ?_
        refine la_iconst (v := 2) B dX9_many_70 (by decide) ?_
        refine la_iald (i := 38) (v := h 38 2) B (lh_nc_lt (by decide)) rfl (by unfold vp_in; decide) rfl dX9_many_71 ?_
        exact la_ireturn B rfl (by simp only [fX9_many, if_neg s1_0, if_neg s1_1, if_pos s1_2]) (by simp only [gX9_many, if_neg s1_0, if_neg s1_1, if_pos s1_2]) dX9_many_72
      · have ts1_2 := lv_neT s1_2 (show (2 : Int32).toInt = 2 from by decide)
        by_cases s1_3 : wh = 3
        · refine la_tabIn (off := 72) (tgt := 73) B dX9_many_1 (by rw [s1_3]; decide) (by rw [s1_3]; decide) (by rw [s1_3]; decide) (by decide) ?_
          refine la_aload_n (i := 0) B dX9_many_73 rfl rfl ?_
          refine la_callVi (i := 37) B (ct_X9_cancelled h  J) lk_X9_140 (by decide) (lh_nc_lt (by decide)) rfl rfl rfl (by simp [Value.category]) dX9_many_74 ?_
          exact la_ireturn B rfl (by simp only [fX9_many, if_neg s1_0, if_neg s1_1, if_neg s1_2, if_pos s1_3]) (by simp only [gX9_many, if_neg s1_0, if_neg s1_1, if_neg s1_2, if_pos s1_3]) dX9_many_77
        · have ts1_3 := lv_neT s1_3 (show (3 : Int32).toInt = 3 from by decide)
          by_cases s1_4 : wh = 4
          · refine la_tabIn (off := 77) (tgt := 78) B dX9_many_1 (by rw [s1_4]; decide) (by rw [s1_4]; decide) (by rw [s1_4]; decide) (by decide) ?_
            refine la_aload_n (i := 0) B dX9_many_78 rfl rfl ?_
            refine la_get (i := 37) (ci := 9) (j := 0) (C := RX9) (T := TX9) (N := 18) B (lh_nc_lt (by decide)) rfl ix_9 rfl (by decide) wd_673 rfl rfl dX9_many_79 ?_
            refine la_iconst (v := 3) B dX9_many_82 (by decide) ?_
            refine la_iald (i := 38) (v := h 38 3) B (lh_nc_lt (by decide)) rfl (by unfold vp_in; decide) rfl dX9_many_83 ?_
            exact la_ireturn B rfl (by simp only [fX9_many, if_neg s1_0, if_neg s1_1, if_neg s1_2, if_neg s1_3, if_pos s1_4]) (by simp only [gX9_many, if_neg s1_0, if_neg s1_1, if_neg s1_2, if_neg s1_3, if_pos s1_4]) dX9_many_84
          · have ts1_4 := lv_neT s1_4 (show (4 : Int32).toInt = 4 from by decide)
            by_cases s1_5 : wh = 5
            · refine la_tabIn (off := 84) (tgt := 85) B dX9_many_1 (by rw [s1_5]; decide) (by rw [s1_5]; decide) (by rw [s1_5]; decide) (by decide) ?_
              refine la_aload_n (i := 0) B dX9_many_85 rfl rfl ?_
              refine la_get (i := 37) (ci := 9) (j := 0) (C := RX9) (T := TX9) (N := 18) B (lh_nc_lt (by decide)) rfl ix_9 rfl (by decide) wd_673 rfl rfl dX9_many_86 ?_
              refine la_iconst (v := 4) B dX9_many_89 (by decide) ?_
              refine la_iald (i := 38) (v := h 38 4) B (lh_nc_lt (by decide)) rfl (by unfold vp_in; decide) rfl dX9_many_90 ?_
              exact la_ireturn B rfl (by simp only [fX9_many, if_neg s1_0, if_neg s1_1, if_neg s1_2, if_neg s1_3, if_neg s1_4, if_pos s1_5]) (by simp only [gX9_many, if_neg s1_0, if_neg s1_1, if_neg s1_2, if_neg s1_3, if_neg s1_4, if_pos s1_5]) dX9_many_91
            · have ts1_5 := lv_neT s1_5 (show (5 : Int32).toInt = 5 from by decide)
              by_cases s1_6 : wh = 6
              · refine la_tabIn (off := 91) (tgt := 92) B dX9_many_1 (by rw [s1_6]; decide) (by rw [s1_6]; decide) (by rw [s1_6]; decide) (by decide) ?_
                refine la_aload_n (i := 0) B dX9_many_92 rfl rfl ?_
                refine la_callVi (i := 37) B (ct_X9_quarrels h  J) lk_X9_144 (by decide) (lh_nc_lt (by decide)) rfl rfl rfl (by simp [Value.category]) dX9_many_93 ?_
                exact la_ireturn B rfl (by simp only [fX9_many, if_neg s1_0, if_neg s1_1, if_neg s1_2, if_neg s1_3, if_neg s1_4, if_neg s1_5, if_pos s1_6]) (by simp only [gX9_many, if_neg s1_0, if_neg s1_1, if_neg s1_2, if_neg s1_3, if_neg s1_4, if_neg s1_5, if_pos s1_6]) dX9_many_96
              · have ts1_6 := lv_neT s1_6 (show (6 : Int32).toInt = 6 from by decide)
                by_cases s1_7 : wh = 7
                · refine la_tabIn (off := 96) (tgt := 97) B dX9_many_1 (by rw [s1_7]; decide) (by rw [s1_7]; decide) (by rw [s1_7]; decide) (by decide) ?_
                  refine la_aload_n (i := 0) B dX9_many_97 rfl rfl ?_
                  refine la_callVi (i := 37) B (ct_X9_overspent h  J) lk_X9_147 (by decide) (lh_nc_lt (by decide)) rfl rfl rfl (by simp [Value.category]) dX9_many_98 ?_
                  exact la_ireturn B rfl (by simp only [fX9_many, if_neg s1_0, if_neg s1_1, if_neg s1_2, if_neg s1_3, if_neg s1_4, if_neg s1_5, if_neg s1_6, if_pos s1_7]) (by simp only [gX9_many, if_neg s1_0, if_neg s1_1, if_neg s1_2, if_neg s1_3, if_neg s1_4, if_neg s1_5, if_neg s1_6, if_pos s1_7]) dX9_many_101
                · have ts1_7 := lv_neT s1_7 (show (7 : Int32).toInt = 7 from by decide)
                  by_cases s1_8 : wh = 8
                  · refine la_tabIn (off := 101) (tgt := 102) B dX9_many_1 (by rw [s1_8]; decide) (by rw [s1_8]; decide) (by rw [s1_8]; decide) (by decide) ?_
                    refine la_aload_n (i := 0) B dX9_many_102 rfl rfl ?_
                    refine la_callVi (i := 37) B (ct_X9_readMany h  J) lk_X9_150 (by decide) (lh_nc_lt (by decide)) rfl rfl rfl (by simp [Value.category]) dX9_many_103 ?_
                    exact la_ireturn B rfl (by simp only [fX9_many, if_neg s1_0, if_neg s1_1, if_neg s1_2, if_neg s1_3, if_neg s1_4, if_neg s1_5, if_neg s1_6, if_neg s1_7, if_pos s1_8]) (by simp only [gX9_many, if_neg s1_0, if_neg s1_1, if_neg s1_2, if_neg s1_3, if_neg s1_4, if_neg s1_5, if_neg s1_6, if_neg s1_7, if_pos s1_8]) dX9_many_106
                  · have ts1_8 := lv_neT s1_8 (show (8 : Int32).toInt = 8 from by decide)
                    refine la_tabOut (tgt := 107) B dX9_many_1 (by omega) (by decide) ?_
                    refine la_iconst (v := -1) B dX9_many_107 (by decide) ?_
                    exact la_ireturn B rfl (by simp only [fX9_many, if_neg s1_0, if_neg s1_1, if_neg s1_2, if_neg s1_3, if_neg s1_4, if_neg s1_5, if_neg s1_6, if_neg s1_7, if_neg s1_8]) (by simp only [gX9_many, if_neg s1_0, if_neg s1_1, if_neg s1_2, if_neg s1_3, if_neg s1_4, if_neg s1_5, if_neg s1_6, if_neg s1_7, if_neg s1_8]) dX9_many_108
