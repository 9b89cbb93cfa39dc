def LX3_sum3_h  : Nat → Nat → lh_HS → lh_HS
  | 0, i, h => h
  | n + 1, i, h => (LX3_sum3_h n (i + 1) (lh_up (lh_up h 28 ((nI i).toNatClampNeg) (((h 28 (nI i).toNatClampNeg) + (h 28 ((nI i) - 1).toNatClampNeg)))) 29 ((nI i).toNatClampNeg) (((h 29 (nI i).toNatClampNeg) + (h 29 ((nI i) - 1).toNatClampNeg)))))
set_option maxHeartbeats 4000000 in
set_option maxRecDepth 100000 in
theorem lp_X3_sum3 {l : Launch} {D : va_G} {ad : Nat → Nat} {bs : Nat} {cI cZ : ClassId} {t9 : Nat} {k : Bool} {p : Program} {e : Env} {s : State} {m : MethodId} {args : Array Value} {below : List Frame} {meth : Method} {c : Code}  {h2 : lh_HS} (B : lh_BK p (lh_rm 2) s m args meth c D ad bs cI cZ t9 k "LightHours$Ledger" cX3_sumSpends 3 none)  :
    ∀ (n i : Nat) (h : lh_HS), i + n = 10 → h2 = LX3_sum3_h n i h → 1 ≤ i → lh_AJ p l e (lh_rm 2) s m args below meth c D ad bs cI cZ k 3 (MQ below (lh_Qv D ad bs cI cZ k h2) args s 0 0 (lh_A bs)) 112 [(0, .ref (ad 27)), (2, .int (nI i))] [] h := by
  intro n
  induction n with
  | zero =>
    intro i h hi hh hv
    have hexit : (10 : Int32) ≤ nI i := nI_le (a := 10) (by omega) (by omega)
    refine la_iload_n (i := 2) B dX3_sumSpends_112 rfl rfl ?_
    refine la_bipush (v := 10) B dX3_sumSpends_113 (by decide) ?_
    refine la_icmp_ge (tgt := 158) B dX3_sumSpends_115 (by decide) (fun c115 => ?_) (fun c115 => ?_)
    · exact la_return B rfl (by rw [hh]; simp only [LX3_sum3_h]) dX3_sumSpends_158
    · exact absurd hexit c115
  | succ n ih =>
    intro i h hi hh hv
    have hcont : ¬ (10 : Int32) ≤ nI i := nI_ge (b := 10) (by omega) (by omega)
    have hb : vp_in (nI i) 10 := vp_in_nI (by omega) (by omega)
    have hb1 : vp_in (nI i - 1) 10 := by
      rw [show (1 : Int32) = nI 1 from rfl, pk_sub hv]
      exact vp_in_nI (by omega) (by omega)
    refine la_iload_n (i := 2) B dX3_sumSpends_112 rfl rfl ?_
    refine la_bipush (v := 10) B dX3_sumSpends_113 (by decide) ?_
    refine la_icmp_ge (tgt := 158) B dX3_sumSpends_115 (by decide) (fun c115 => ?_) (fun c115 => ?_)
    · exact absurd c115 hcont
    · refine la_aload_n (i := 0) B dX3_sumSpends_118 rfl rfl ?_
      refine la_get (i := 27) (ci := 3) (j := 5) (C := RX3) (T := TX3) (N := 7) B (lh_nc_lt (by decide)) rfl ix_3 rfl (by decide) wd_253 rfl rfl dX3_sumSpends_119 ?_
      refine la_iload_n (i := 2) B dX3_sumSpends_122 rfl rfl ?_
      refine la_dup2 B dX3_sumSpends_123 rfl rfl ?_
      refine la_iald (i := 28) (v := h 28 (nI i).toNatClampNeg) B (lh_nc_lt (by decide)) rfl hb rfl dX3_sumSpends_124 ?_
      refine la_aload_n (i := 0) B dX3_sumSpends_125 rfl rfl ?_
      refine la_get (i := 27) (ci := 3) (j := 5) (C := RX3) (T := TX3) (N := 7) B (lh_nc_lt (by decide)) rfl ix_3 rfl (by decide) wd_253 rfl rfl dX3_sumSpends_126 ?_
      refine la_iload_n (i := 2) B dX3_sumSpends_129 rfl rfl ?_
      refine la_iconst (v := 1) B dX3_sumSpends_130 (by decide) ?_
      refine la_isub B dX3_sumSpends_131 ?_
      refine la_iald (i := 28) (v := h 28 ((nI i) - 1).toNatClampNeg) B (lh_nc_lt (by decide)) rfl hb1 rfl dX3_sumSpends_132 ?_
      refine la_iadd B dX3_sumSpends_133 ?_
      refine la_iast (i := 28) (j := (nI i).toNatClampNeg) B (lh_nc_lt (by decide)) rfl rfl hb rfl dX3_sumSpends_134 ?_
      refine la_aload_n (i := 0) B dX3_sumSpends_135 rfl rfl ?_
      refine la_get (i := 27) (ci := 3) (j := 6) (C := RX3) (T := TX3) (N := 7) B (lh_nc_lt (by decide)) rfl ix_3 rfl (by decide) wd_254 rfl rfl dX3_sumSpends_136 ?_
      refine la_iload_n (i := 2) B dX3_sumSpends_139 rfl rfl ?_
      refine la_dup2 B dX3_sumSpends_140 rfl rfl ?_
      refine la_iald (i := 29) (v := h 29 (nI i).toNatClampNeg) B (lh_nc_lt (by decide)) rfl hb rfl dX3_sumSpends_141 ?_
      refine la_aload_n (i := 0) B dX3_sumSpends_142 rfl rfl ?_
      refine la_get (i := 27) (ci := 3) (j := 6) (C := RX3) (T := TX3) (N := 7) B (lh_nc_lt (by decide)) rfl ix_3 rfl (by decide) wd_254 rfl rfl dX3_sumSpends_143 ?_
      refine la_iload_n (i := 2) B dX3_sumSpends_146 rfl rfl ?_
      refine la_iconst (v := 1) B dX3_sumSpends_147 (by decide) ?_
      refine la_isub B dX3_sumSpends_148 ?_
      refine la_iald (i := 29) (v := h 29 ((nI i) - 1).toNatClampNeg) B (lh_nc_lt (by decide)) rfl hb1 rfl dX3_sumSpends_149 ?_
      refine la_iadd B dX3_sumSpends_150 ?_
      refine la_iast (i := 29) (j := (nI i).toNatClampNeg) B (lh_nc_lt (by decide)) rfl rfl hb rfl dX3_sumSpends_151 ?_
      refine la_iincp B dX3_sumSpends_152 rfl (by decide) ?_
      refine la_goto (tgt := 112) B dX3_sumSpends_155 (by decide) ?_
      refine la_sub (lv2 := [(0, .ref (ad 27)), (2, .int (nI (i + 1)))]) ⟨rfl, (congrArg (fun z => some (Value.int z)) (nI_1 i)), trivial⟩ (by simp [Value.category]) ?_
      exact ih (i + 1) (lh_up (lh_up h 28 ((nI i).toNatClampNeg) (((h 28 (nI i).toNatClampNeg) + (h 28 ((nI i) - 1).toNatClampNeg)))) 29 ((nI i).toNatClampNeg) (((h 29 (nI i).toNatClampNeg) + (h 29 ((nI i) - 1).toNatClampNeg)))) (by omega) (by rw [hh]; simp only [LX3_sum3_h]) (by omega)

theorem lh_hq {h0 h : lh_HS} {b : Int32} (f : lh_fr h0 h) (hb : lh_ix b (lh_N h0 4)) : lh_ix b (lh_N h 4) := by
  unfold lh_N at *
  rw [f 4 (by decide) (by decide)]
  exact hb
def LX3_sum2_h  : Nat → Nat → lh_HS → lh_HS
  | 0, i, h => (LX3_sum3_h 9 1 h)
  | n + 1, i, h => (if (fX0_standsFor h (nI i) (h 27 1)) = 0 then (LX3_sum2_h n (i + 1) h) else (LX3_sum2_h n (i + 1) (lh_up (lh_up h 28 ((h 18 (nI i).toNatClampNeg).toNatClampNeg) (((h 28 (h 18 (nI i).toNatClampNeg).toNatClampNeg) + (fX2_spendEnd h (nI i) 0)))) 29 ((h 18 (nI i).toNatClampNeg).toNatClampNeg) (((h 29 (h 18 (nI i).toNatClampNeg).toNatClampNeg) + (fX2_spendEnd (lh_up h 28 ((h 18 (nI i).toNatClampNeg).toNatClampNeg) (((h 28 (h 18 (nI i).toNatClampNeg).toNatClampNeg) + (fX2_spendEnd h (nI i) 0)))) (nI i) 1))))))
set_option maxHeartbeats 4000000 in
set_option maxRecDepth 100000 in
theorem lp_X3_sum2 {l : Launch} {D : va_G} {ad : Nat → Nat} {bs : Nat} {cI cZ : ClassId} {t9 : Nat} {k : Bool} {p : Program} {e : Env} {s : State} {m : MethodId} {args : Array Value} {below : List Frame} {meth : Method} {c : Code}  {h2 : lh_HS} (B : lh_BK p (lh_rm 2) s m args meth c D ad bs cI cZ t9 k "LightHours$Ledger" cX3_sumSpends 3 none) {h0 : lh_HS} (I0 : lh_I h0) {sv : Int32} (hs : lh_ix sv (lh_N h0 3)) {N : Nat} (hN0 : N = lh_N h0 4) :
    ∀ (n i : Nat) (h : lh_HS), i + n = N → h2 = LX3_sum2_h n i h → lh_fr h0 h ∧ h 27 1 = sv → lh_AJ p l e (lh_rm 2) s m args below meth c D ad bs cI cZ k 3 (MQ below (lh_Qv D ad bs cI cZ k h2) args s 0 0 (lh_A bs)) 38 [(0, .ref (ad 27)), (1, .ref (ad 4)), (2, .int (nI i))] [] h := by
  intro n
  induction n with
  | zero =>
    intro i h hi hh hv
    have hM := I0.1.2.2.1.2
    have hN : h 4 0 = nI N := by rw [hv.1 4 (by decide) (by decide), hN0]; exact I0.1.2.2.1.1
    have hexit : h 4 0 ≤ nI i := by rw [hN]; exact nI_le (by omega) (by omega)
    refine la_iload_n (i := 2) B dX3_sumSpends_38 rfl rfl ?_
    refine la_aload_n (i := 1) B dX3_sumSpends_39 rfl rfl ?_
    refine la_get (i := 4) (ci := 0) (j := 0) (v := .int (h 4 0)) (C := RX0) (T := TX0) (N := 6) B (lh_nc_lt (by decide)) rfl ix_0 rfl (by decide) wd_134 rfl rfl dX3_sumSpends_40 ?_
    refine la_icmp_ge (tgt := 110) B dX3_sumSpends_43 (by decide) (fun c43 => ?_) (fun c43 => ?_)
    · refine la_iconst (v := 1) B dX3_sumSpends_110 (by decide) ?_
      refine la_istore_n (i := 2) B dX3_sumSpends_111 rfl (by decide) ?_
      refine la_sub (lv2 := [(0, .ref (ad 27)), (2, .int (nI 1))]) ⟨rfl, rfl, trivial⟩ (by simp [Value.category]) ?_
      exact lp_X3_sum3 B 9 1 h rfl (by rw [hh]; simp only [LX3_sum2_h]) (Nat.le_refl 1)
    · exact absurd hexit c43
  | succ n ih =>
    intro i h hi hh hv
    have hM := I0.1.2.2.1.2
    have hN : h 4 0 = nI N := by rw [hv.1 4 (by decide) (by decide), hN0]; exact I0.1.2.2.1.1
    have hcont : ¬ h 4 0 ≤ nI i := by rw [hN]; exact nI_ge (by omega) (by omega)
    have hb : vp_in (nI i) 30 := vp_in_nI (by omega) (by omega)
    have hq : lh_ix (nI i) (lh_N h0 4) := lh_ix_nI (by omega)
    have hy : vp_in (h 18 (nI i).toNatClampNeg) 10 := by
      rw [hv.1 18 (by decide) (by decide), nI_clamp (by omega)]
      exact (I0.2.2.2.1 i (by omega)).2.2.1.vp (Nat.le_refl _) (by omega)
    refine la_iload_n (i := 2) B dX3_sumSpends_38 rfl rfl ?_
    refine la_aload_n (i := 1) B dX3_sumSpends_39 rfl rfl ?_
    refine la_get (i := 4) (ci := 0) (j := 0) (v := .int (h 4 0)) (C := RX0) (T := TX0) (N := 6) B (lh_nc_lt (by decide)) rfl ix_0 rfl (by decide) wd_134 rfl rfl dX3_sumSpends_40 ?_
    refine la_icmp_ge (tgt := 110) B dX3_sumSpends_43 (by decide) (fun c43 => ?_) (fun c43 => ?_)
    · exact absurd c43 hcont
    · refine la_aload_n (i := 1) B dX3_sumSpends_46 rfl rfl ?_
      refine la_iload_n (i := 2) B dX3_sumSpends_47 rfl rfl ?_
      refine la_aload_n (i := 0) B dX3_sumSpends_48 rfl rfl ?_
      refine la_get (i := 27) (ci := 3) (j := 1) (v := .int (h 27 1)) (C := RX3) (T := TX3) (N := 7) B (lh_nc_lt (by decide)) rfl ix_3 rfl (by decide) wd_248 rfl rfl dX3_sumSpends_49 ?_
      refine la_callVi (i := 4) B (ct_X0_standsFor h (nI i) (h 27 1) hb) lk_X3_53 (by decide) (lh_nc_lt (by decide)) rfl rfl rfl (by simp [Value.category]) dX3_sumSpends_52 ?_
      refine la_if_eq (tgt := 104) B dX3_sumSpends_55 (by decide) (fun c55 => ?_) (fun c55 => ?_)
      · refine la_iincp B dX3_sumSpends_104 rfl (by decide) ?_
        refine la_goto (tgt := 38) B dX3_sumSpends_107 (by decide) ?_
        refine la_sub (lv2 := [(0, .ref (ad 27)), (1, .ref (ad 4)), (2, .int (nI (i + 1)))]) ⟨rfl, rfl, (congrArg (fun z => some (Value.int z)) (nI_1 i)), trivial⟩ (by simp [Value.category]) ?_
        exact ih (i + 1) h (by omega) (by rw [hh]; simp only [LX3_sum2_h, if_pos c55]) hv
      · refine la_aload_n (i := 0) B dX3_sumSpends_58 rfl rfl ?_
        refine la_get (i := 27) (ci := 3) (j := 5) (C := RX3) (T := TX3) (N := 7) B (lh_nc_lt (by decide)) rfl ix_3 rfl (by decide) wd_253 rfl rfl dX3_sumSpends_59 ?_
        refine la_aload_n (i := 1) B dX3_sumSpends_62 rfl rfl ?_
        refine la_get (i := 4) (ci := 0) (j := 3) (C := RX0) (T := TX0) (N := 6) B (lh_nc_lt (by decide)) rfl ix_0 rfl (by decide) wd_143 rfl rfl dX3_sumSpends_63 ?_
        refine la_iload_n (i := 2) B dX3_sumSpends_66 rfl rfl ?_
        refine la_iald (i := 18) (v := h 18 (nI i).toNatClampNeg) B (lh_nc_lt (by decide)) rfl hb rfl dX3_sumSpends_67 ?_
        refine la_dup2 B dX3_sumSpends_68 rfl rfl ?_
        refine la_iald (i := 28) (v := h 28 (h 18 (nI i).toNatClampNeg).toNatClampNeg) B (lh_nc_lt (by decide)) rfl hy rfl dX3_sumSpends_69 ?_
        refine la_aload_n (i := 0) B dX3_sumSpends_70 rfl rfl ?_
        refine la_get (i := 27) (ci := 3) (j := 0) (C := RX3) (T := TX3) (N := 7) B (lh_nc_lt (by decide)) rfl ix_3 rfl (by decide) wd_247 rfl rfl dX3_sumSpends_71 ?_
        refine la_iload_n (i := 2) B dX3_sumSpends_74 rfl rfl ?_
        refine la_iconst (v := 0) B dX3_sumSpends_75 (by decide) ?_
        have hf1 : lh_fr h0 h := hv.1
        have hp1 := lh_spendpre (I0.fr hf1) (lh_hq hf1 hq)
        refine la_callVi (i := 1) B (ct_X2_spendEnd h (nI i) 0 hp1.1 hp1.2.1 hp1.2.2) lk_X3_60 (by decide) (lh_nc_lt (by decide)) rfl rfl rfl (by simp [Value.category]) dX3_sumSpends_76 ?_
        refine la_iadd B dX3_sumSpends_79 ?_
        refine la_iast (i := 28) (j := (h 18 (nI i).toNatClampNeg).toNatClampNeg) B (lh_nc_lt (by decide)) rfl rfl hy rfl dX3_sumSpends_80 ?_
        refine la_aload_n (i := 0) B dX3_sumSpends_81 rfl rfl ?_
        refine la_get (i := 27) (ci := 3) (j := 6) (C := RX3) (T := TX3) (N := 7) B (lh_nc_lt (by decide)) rfl ix_3 rfl (by decide) wd_254 rfl rfl dX3_sumSpends_82 ?_
        refine la_aload_n (i := 1) B dX3_sumSpends_85 rfl rfl ?_
        refine la_get (i := 4) (ci := 0) (j := 3) (C := RX0) (T := TX0) (N := 6) B (lh_nc_lt (by decide)) rfl ix_0 rfl (by decide) wd_143 rfl rfl dX3_sumSpends_86 ?_
        refine la_iload_n (i := 2) B dX3_sumSpends_89 rfl rfl ?_
        refine la_iald (i := 18) (v := h 18 (nI i).toNatClampNeg) B (lh_nc_lt (by decide)) rfl hb rfl dX3_sumSpends_90 ?_
        refine la_dup2 B dX3_sumSpends_91 rfl rfl ?_
        refine la_iald (i := 29) (v := h 29 (h 18 (nI i).toNatClampNeg).toNatClampNeg) B (lh_nc_lt (by decide)) rfl hy rfl dX3_sumSpends_92 ?_
        refine la_aload_n (i := 0) B dX3_sumSpends_93 rfl rfl ?_
        refine la_get (i := 27) (ci := 3) (j := 0) (C := RX3) (T := TX3) (N := 7) B (lh_nc_lt (by decide)) rfl ix_3 rfl (by decide) wd_247 rfl rfl dX3_sumSpends_94 ?_
        refine la_iload_n (i := 2) B dX3_sumSpends_97 rfl rfl ?_
        refine la_iconst (v := 1) B dX3_sumSpends_98 (by decide) ?_
        have hf2 : lh_fr h0 (lh_up h 28 ((h 18 (nI i).toNatClampNeg).toNatClampNeg) (((h 28 (h 18 (nI i).toNatClampNeg).toNatClampNeg) + (fX2_spendEnd h (nI i) 0)))) := (hv.1.up (i := 28) (by decide))
        have hp2 := lh_spendpre (I0.fr hf2) (lh_hq hf2 hq)
        refine la_callVi (i := 1) B (ct_X2_spendEnd (lh_up h 28 ((h 18 (nI i).toNatClampNeg).toNatClampNeg) (((h 28 (h 18 (nI i).toNatClampNeg).toNatClampNeg) + (fX2_spendEnd h (nI i) 0)))) (nI i) 1 hp2.1 hp2.2.1 hp2.2.2) lk_X3_60 (by decide) (lh_nc_lt (by decide)) rfl rfl rfl (by simp [Value.category]) dX3_sumSpends_99 ?_
        refine la_iadd B dX3_sumSpends_102 ?_
        refine la_iast (i := 29) (j := (h 18 (nI i).toNatClampNeg).toNatClampNeg) B (lh_nc_lt (by decide)) rfl rfl hy rfl dX3_sumSpends_103 ?_
        refine la_iincp B dX3_sumSpends_104 rfl (by decide) ?_
        refine la_goto (tgt := 38) B dX3_sumSpends_107 (by decide) ?_
        refine la_sub (lv2 := [(0, .ref (ad 27)), (1, .ref (ad 4)), (2, .int (nI (i + 1)))]) ⟨rfl, rfl, (congrArg (fun z => some (Value.int z)) (nI_1 i)), trivial⟩ (by simp [Value.category]) ?_
        exact ih (i + 1) (lh_up (lh_up h 28 ((h 18 (nI i).toNatClampNeg).toNatClampNeg) (((h 28 (h 18 (nI i).toNatClampNeg).toNatClampNeg) + (fX2_spendEnd h (nI i) 0)))) 29 ((h 18 (nI i).toNatClampNeg).toNatClampNeg) (((h 29 (h 18 (nI i).toNatClampNeg).toNatClampNeg) + (fX2_spendEnd (lh_up h 28 ((h 18 (nI i).toNatClampNeg).toNatClampNeg) (((h 28 (h 18 (nI i).toNatClampNeg).toNatClampNeg) + (fX2_spendEnd h (nI i) 0)))) (nI i) 1)))) (by omega) (by rw [hh]; simp only [LX3_sum2_h, if_neg c55]) ⟨((hv.1.up (i := 28) (by decide)).up (i := 29) (by decide)), by rw [← hv.2]; simp only [lh_up_ne (show (27 : Nat) ≠ 28 ∨ (1 : Nat) ≠ _ from Or.inl (by decide)), lh_up_ne (show (27 : Nat) ≠ 29 ∨ (1 : Nat) ≠ _ from Or.inl (by decide))]⟩

def LX3_sum1_h  : Nat → Nat → lh_HS → lh_HS
  | 0, i, h => (LX3_sum2_h (lh_N h 4) 0 h)
  | n + 1, i, h => (LX3_sum1_h n (i + 1) (lh_up (lh_up h 28 ((nI i).toNatClampNeg) 0) 29 ((nI i).toNatClampNeg) 0))
set_option maxHeartbeats 4000000 in
set_option maxRecDepth 100000 in
theorem lp_X3_sum1 {l : Launch} {D : va_G} {ad : Nat → Nat} {bs : Nat} {cI cZ : ClassId} {t9 : Nat} {k : Bool} {p : Program} {e : Env} {s : State} {m : MethodId} {args : Array Value} {below : List Frame} {meth : Method} {c : Code}  {h2 : lh_HS} (B : lh_BK p (lh_rm 2) s m args meth c D ad bs cI cZ t9 k "LightHours$Ledger" cX3_sumSpends 3 none) {h0 : lh_HS} (I0 : lh_I h0) {sv : Int32} (hs : lh_ix sv (lh_N h0 3)) :
    ∀ (n i : Nat) (h : lh_HS), i + n = 10 → h2 = LX3_sum1_h n i h → lh_fr h0 h ∧ h 27 1 = sv → lh_AJ p l e (lh_rm 2) s m args below meth c D ad bs cI cZ k 3 (MQ below (lh_Qv D ad bs cI cZ k h2) args s 0 0 (lh_A bs)) 2 [(0, .ref (ad 27)), (1, .int (nI i))] [] h := by
  intro n
  induction n with
  | zero =>
    intro i h hi hh hv
    have hexit : (10 : Int32) ≤ nI i := nI_le (a := 10) (by omega) (by omega)
    refine la_iload_n (i := 1) B dX3_sumSpends_2 rfl rfl ?_
    refine la_bipush (v := 10) B dX3_sumSpends_3 (by decide) ?_
    refine la_icmp_ge (tgt := 28) B dX3_sumSpends_5 (by decide) (fun c5 => ?_) (fun c5 => ?_)
    · refine la_aload_n (i := 0) B dX3_sumSpends_28 rfl rfl ?_
      refine la_get (i := 27) (ci := 3) (j := 0) (C := RX3) (T := TX3) (N := 7) B (lh_nc_lt (by decide)) rfl ix_3 rfl (by decide) wd_247 rfl rfl dX3_sumSpends_29 ?_
      refine la_get (i := 1) (ci := 2) (j := 2) (C := RX2) (T := TX2) (N := 5) B (lh_nc_lt (by decide)) rfl ix_2 rfl (by decide) wd_221 rfl rfl dX3_sumSpends_32 ?_
      refine la_astore_n (i := 1) B dX3_sumSpends_35 rfl (by decide) ?_
      refine la_iconst (v := 0) B dX3_sumSpends_36 (by decide) ?_
      refine la_istore_n (i := 2) B dX3_sumSpends_37 rfl (by decide) ?_
      refine la_sub (lv2 := [(0, .ref (ad 27)), (1, .ref (ad 4)), (2, .int (nI 0))]) ⟨rfl, rfl, rfl, trivial⟩ (by simp [Value.category]) ?_
      exact lp_X3_sum2 B I0 hs (hv.1.N (by decide) (by decide)) _ 0 h (Nat.zero_add _) (by rw [hh]; simp only [LX3_sum1_h]) hv
    · exact absurd hexit c5
  | succ n ih =>
    intro i h hi hh hv
    have hcont : ¬ (10 : Int32) ≤ nI i := nI_ge (b := 10) (by omega) (by omega)
    have hb : vp_in (nI i) 10 := vp_in_nI (by omega) (by omega)
    refine la_iload_n (i := 1) B dX3_sumSpends_2 rfl rfl ?_
    refine la_bipush (v := 10) B dX3_sumSpends_3 (by decide) ?_
    refine la_icmp_ge (tgt := 28) B dX3_sumSpends_5 (by decide) (fun c5 => ?_) (fun c5 => ?_)
    · exact absurd c5 hcont
    · refine la_aload_n (i := 0) B dX3_sumSpends_8 rfl rfl ?_
      refine la_get (i := 27) (ci := 3) (j := 5) (C := RX3) (T := TX3) (N := 7) B (lh_nc_lt (by decide)) rfl ix_3 rfl (by decide) wd_253 rfl rfl dX3_sumSpends_9 ?_
      refine la_iload_n (i := 1) B dX3_sumSpends_12 rfl rfl ?_
      refine la_iconst (v := 0) B dX3_sumSpends_13 (by decide) ?_
      refine la_iast (i := 28) (j := (nI i).toNatClampNeg) B (lh_nc_lt (by decide)) rfl rfl hb rfl dX3_sumSpends_14 ?_
      refine la_aload_n (i := 0) B dX3_sumSpends_15 rfl rfl ?_
      refine la_get (i := 27) (ci := 3) (j := 6) (C := RX3) (T := TX3) (N := 7) B (lh_nc_lt (by decide)) rfl ix_3 rfl (by decide) wd_254 rfl rfl dX3_sumSpends_16 ?_
      refine la_iload_n (i := 1) B dX3_sumSpends_19 rfl rfl ?_
      refine la_iconst (v := 0) B dX3_sumSpends_20 (by decide) ?_
      refine la_iast (i := 29) (j := (nI i).toNatClampNeg) B (lh_nc_lt (by decide)) rfl rfl hb rfl dX3_sumSpends_21 ?_
      refine la_iincp B dX3_sumSpends_22 rfl (by decide) ?_
      refine la_goto (tgt := 2) B dX3_sumSpends_25 (by decide) ?_
      refine la_sub (lv2 := [(0, .ref (ad 27)), (1, .int (nI (i + 1)))]) ⟨rfl, (congrArg (fun z => some (Value.int z)) (nI_1 i)), trivial⟩ (by simp [Value.category]) ?_
      exact ih (i + 1) (lh_up (lh_up h 28 ((nI i).toNatClampNeg) 0) 29 ((nI i).toNatClampNeg) 0) (by omega) (by rw [hh]; simp only [LX3_sum1_h]) ⟨((hv.1.up (i := 28) (by decide)).up (i := 29) (by decide)), by rw [← hv.2]; simp only [lh_up_ne (show (27 : Nat) ≠ 28 ∨ (1 : Nat) ≠ _ from Or.inl (by decide)), lh_up_ne (show (27 : Nat) ≠ 29 ∨ (1 : Nat) ≠ _ from Or.inl (by decide))]⟩

def gX3_sumSpends (h : lh_HS)  : lh_HS := (LX3_sum1_h 10 0 h)
set_option maxHeartbeats 4000000 in
set_option maxRecDepth 100000 in
theorem ct_X3_sumSpends {l : Launch} {D : va_G} {ad : Nat → Nat} {bs : Nat} {cI cZ : ClassId} {t9 : Nat} {k : Bool} (h : lh_HS)  (I : lh_I h) (hs : lh_ix (h 27 1) (lh_N h 3)) : lh_CTv l D ad bs cI cZ t9 k yX3_sumSpends cX3_sumSpends 3 2 [.ref (ad 27)] h (gX3_sumSpends h ) := by
  refine lh_ofv (lv := [(0, .ref (ad 27))]) (by decide) (Nat.le_of_ble_eq_true rfl) rfl (by simp [Value.category]) ⟨rfl, trivial⟩ ?_
  intro p e s m args below meth c B
  have B : lh_BK p (lh_rm 2) s m args meth c D ad bs cI cZ t9 k "LightHours$Ledger" cX3_sumSpends 3 none := B
  refine la_iconst (v := 0) B dX3_sumSpends_0 (by decide) ?_
  refine la_istore_n (i := 1) B dX3_sumSpends_1 rfl (by decide) ?_
  refine la_sub (lv2 := [(0, .ref (ad 27)), (1, .int (nI 0))]) ⟨rfl, rfl, trivial⟩ (by simp [Value.category]) ?_
  exact lp_X3_sum1 B I hs _ 0 h (Nat.zero_add _) (by simp only [gX3_sumSpends]) ⟨lh_fr.rf h, rfl⟩

def LX3_nar_h  : Nat → Nat → Int32 → Int32 → lh_HS → lh_HS
  | 0, i, le, gr, h => (if le ≤ gr then lh_up (lh_up (lh_up h 27 2 0) 27 3 le) 27 4 gr else lh_up (lh_up (lh_up h 27 2 1) 27 3 (h 14 (h 27 1).toNatClampNeg)) 27 4 (h 15 (h 27 1).toNatClampNeg))
  | n + 1, i, le, gr, h => (if (h 21 (nI i).toNatClampNeg) = (h 27 1) then (LX3_nar_h n (i + 1) (if le < ((lh_T (h 23 (nI i).toNatClampNeg).toNatClampNeg) - (h 29 (h 22 (nI i).toNatClampNeg).toNatClampNeg)) then ((lh_T (h 23 (nI i).toNatClampNeg).toNatClampNeg) - (h 29 (h 22 (nI i).toNatClampNeg).toNatClampNeg)) else le) (if (((lh_T ((h 23 (nI i).toNatClampNeg) + 1).toNatClampNeg) - 1) - (h 28 (h 22 (nI i).toNatClampNeg).toNatClampNeg)) < gr then (((lh_T ((h 23 (nI i).toNatClampNeg) + 1).toNatClampNeg) - 1) - (h 28 (h 22 (nI i).toNatClampNeg).toNatClampNeg)) else gr) h) else (LX3_nar_h n (i + 1) le gr h))
set_option maxHeartbeats 4000000 in
set_option maxRecDepth 100000 in
theorem lp_X3_nar {l : Launch} {D : va_G} {ad : Nat → Nat} {bs : Nat} {cI cZ : ClassId} {t9 : Nat} {k : Bool} {p : Program} {e : Env} {s : State} {m : MethodId} {args : Array Value} {below : List Frame} {meth : Method} {c : Code}  {h2 : lh_HS} (B : lh_BK p (lh_rm 1) s m args meth c D ad bs cI cZ t9 k "LightHours$Ledger" cX3_narrowPast 7 none) {h0 : lh_HS} (I0 : lh_I h0) {sv : Int32} (hs : lh_ix sv (lh_N h0 3)) {N : Nat} (hN0 : N = lh_N h0 5) :
    ∀ (n i : Nat) (le : Int32) (gr : Int32) (h : lh_HS), i + n = N → h2 = LX3_nar_h n i le gr h → lh_fr h0 h ∧ h 27 1 = sv → lh_AJ p l e (lh_rm 1) s m args below meth c D ad bs cI cZ k 7 (MQ below (lh_Qv D ad bs cI cZ k h2) args s 0 0 (lh_A bs)) 43 [(0, .ref (ad 27)), (1, .int le), (2, .int gr), (3, .ref (ad 5)), (4, .int (nI i))] [] h := by
  intro n
  induction n with
  | zero =>
    intro i le gr h hi hh hv
    have hM := I0.1.2.2.2.1.2
    have hN : h 5 0 = nI N := by rw [hv.1 5 (by decide) (by decide), hN0]; exact I0.1.2.2.2.1.1
    have hexit : h 5 0 ≤ nI i := by rw [hN]; exact nI_le (by omega) (by omega)
    have h8 : vp_in (h 27 1) 8 := by rw [hv.2]; exact hs.vp I0.1.2.1.2 (by omega)
    refine la_iload B dX3_narrowPast_43 rfl ?_
    refine la_aload_n (i := 3) B dX3_narrowPast_45 rfl rfl ?_
    refine la_get (i := 5) (ci := 6) (j := 0) (v := .int (h 5 0)) (C := RX6) (T := TX6) (N := 4) B (lh_nc_lt (by decide)) rfl ix_6 rfl (by decide) wd_170 rfl rfl dX3_narrowPast_46 ?_
    refine la_icmp_ge (tgt := 132) B dX3_narrowPast_49 (by decide) (fun c49 => ?_) (fun c49 => ?_)
    · refine la_aload_n (i := 0) B dX3_narrowPast_132 rfl rfl ?_
      refine la_iload_n (i := 1) B dX3_narrowPast_133 rfl rfl ?_
      refine la_iload_n (i := 2) B dX3_narrowPast_134 rfl rfl ?_
      refine la_icmp_le (tgt := 142) B dX3_narrowPast_135 (by decide) (fun c135 => ?_) (fun c135 => ?_)
      · refine la_iconst (v := 0) B dX3_narrowPast_142 (by decide) ?_
        refine la_put (i := 27) (ci := 3) (j := 2) (C := RX3) (T := TX3) (N := 7) (ty0 := tyX3) B (lh_nc_lt (by decide)) rfl rfl ix_3 tyX3_ok nmX3 rfl (by decide) wd_249 rfl rfl rfl rfl rfl (Nat.le_of_ble_eq_true rfl) dX3_narrowPast_143 ?_
        refine la_aload_n (i := 0) B dX3_narrowPast_146 rfl rfl ?_
        refine la_aload_n (i := 0) B dX3_narrowPast_147 rfl rfl ?_
        refine la_get (i := 27) (ci := 3) (j := 2) (v := .int 0) (C := RX3) (T := TX3) (N := 7) B (lh_nc_lt (by decide)) rfl ix_3 rfl (by decide) wd_249 rfl rfl dX3_narrowPast_148 ?_
        refine la_if_eq (tgt := 172) B dX3_narrowPast_151 (by decide) (fun c151 => ?_) (fun c151 => ?_)
        · refine la_iload_n (i := 1) B dX3_narrowPast_172 rfl rfl ?_
          refine la_put (i := 27) (ci := 3) (j := 3) (C := RX3) (T := TX3) (N := 7) (ty0 := tyX3) B (lh_nc_lt (by decide)) rfl rfl ix_3 tyX3_ok nmX3 rfl (by decide) wd_251 rfl rfl rfl rfl rfl (Nat.le_of_ble_eq_true rfl) dX3_narrowPast_173 ?_
          refine la_aload_n (i := 0) B dX3_narrowPast_176 rfl rfl ?_
          refine la_aload_n (i := 0) B dX3_narrowPast_177 rfl rfl ?_
          refine la_get (i := 27) (ci := 3) (j := 2) (v := .int 0) (C := RX3) (T := TX3) (N := 7) B (lh_nc_lt (by decide)) rfl ix_3 rfl (by decide) wd_249 rfl rfl dX3_narrowPast_178 ?_
          refine la_if_eq (tgt := 202) B dX3_narrowPast_181 (by decide) (fun c181 => ?_) (fun c181 => ?_)
          · refine la_iload_n (i := 2) B dX3_narrowPast_202 rfl rfl ?_
            refine la_put (i := 27) (ci := 3) (j := 4) (C := RX3) (T := TX3) (N := 7) (ty0 := tyX3) B (lh_nc_lt (by decide)) rfl rfl ix_3 tyX3_ok nmX3 rfl (by decide) wd_252 rfl rfl rfl rfl rfl (Nat.le_of_ble_eq_true rfl) dX3_narrowPast_203 ?_
            exact la_return B rfl (by rw [hh]; simp only [LX3_nar_h, if_pos c135]) dX3_narrowPast_206
          · exact absurd c181 (by decide)
        · exact absurd c151 (by decide)
      · refine la_iconst (v := 1) B dX3_narrowPast_138 (by decide) ?_
        refine la_goto (tgt := 143) B dX3_narrowPast_139 (by decide) ?_
        refine la_put (i := 27) (ci := 3) (j := 2) (C := RX3) (T := TX3) (N := 7) (ty0 := tyX3) B (lh_nc_lt (by decide)) rfl rfl ix_3 tyX3_ok nmX3 rfl (by decide) wd_249 rfl rfl rfl rfl rfl (Nat.le_of_ble_eq_true rfl) dX3_narrowPast_143 ?_
        refine la_aload_n (i := 0) B dX3_narrowPast_146 rfl rfl ?_
        refine la_aload_n (i := 0) B dX3_narrowPast_147 rfl rfl ?_
        refine la_get (i := 27) (ci := 3) (j := 2) (v := .int 1) (C := RX3) (T := TX3) (N := 7) B (lh_nc_lt (by decide)) rfl ix_3 rfl (by decide) wd_249 rfl rfl dX3_narrowPast_148 ?_
        refine la_if_eq (tgt := 172) B dX3_narrowPast_151 (by decide) (fun c151 => ?_) (fun c151 => ?_)
        · exact absurd c151 (by decide)
        · refine la_aload_n (i := 0) B dX3_narrowPast_154 rfl rfl ?_
          refine la_get (i := 27) (ci := 3) (j := 0) (C := RX3) (T := TX3) (N := 7) B (lh_nc_lt (by decide)) rfl ix_3 rfl (by decide) wd_247 rfl rfl dX3_narrowPast_155 ?_
          refine la_get (i := 1) (ci := 2) (j := 1) (C := RX2) (T := TX2) (N := 5) B (lh_nc_lt (by decide)) rfl ix_2 rfl (by decide) wd_217 rfl rfl dX3_narrowPast_158 ?_
          refine la_get (i := 3) (ci := 5) (j := 6) (C := RX5) (T := TX5) (N := 8) B (lh_nc_lt (by decide)) rfl ix_5 rfl (by decide) wd_105 rfl rfl dX3_narrowPast_161 ?_
          refine la_aload_n (i := 0) B dX3_narrowPast_164 rfl rfl ?_
          refine la_get (i := 27) (ci := 3) (j := 1) (v := .int (h 27 1)) (C := RX3) (T := TX3) (N := 7) B (lh_nc_lt (by decide)) rfl ix_3 rfl (by decide) wd_248 rfl rfl dX3_narrowPast_165 ?_
          refine la_iald (i := 14) (v := h 14 (h 27 1).toNatClampNeg) B (lh_nc_lt (by decide)) rfl h8 rfl dX3_narrowPast_168 ?_
          refine la_goto (tgt := 173) B dX3_narrowPast_169 (by decide) ?_
          refine la_put (i := 27) (ci := 3) (j := 3) (C := RX3) (T := TX3) (N := 7) (ty0 := tyX3) B (lh_nc_lt (by decide)) rfl rfl ix_3 tyX3_ok nmX3 rfl (by decide) wd_251 rfl rfl rfl rfl rfl (Nat.le_of_ble_eq_true rfl) dX3_narrowPast_173 ?_
          refine la_aload_n (i := 0) B dX3_narrowPast_176 rfl rfl ?_
          refine la_aload_n (i := 0) B dX3_narrowPast_177 rfl rfl ?_
          refine la_get (i := 27) (ci := 3) (j := 2) (v := .int 1) (C := RX3) (T := TX3) (N := 7) B (lh_nc_lt (by decide)) rfl ix_3 rfl (by decide) wd_249 rfl rfl dX3_narrowPast_178 ?_
          refine la_if_eq (tgt := 202) B dX3_narrowPast_181 (by decide) (fun c181 => ?_) (fun c181 => ?_)
          · exact absurd c181 (by decide)
          · refine la_aload_n (i := 0) B dX3_narrowPast_184 rfl rfl ?_
            refine la_get (i := 27) (ci := 3) (j := 0) (C := RX3) (T := TX3) (N := 7) B (lh_nc_lt (by decide)) rfl ix_3 rfl (by decide) wd_247 rfl rfl dX3_narrowPast_185 ?_
            refine la_get (i := 1) (ci := 2) (j := 1) (C := RX2) (T := TX2) (N := 5) B (lh_nc_lt (by decide)) rfl ix_2 rfl (by decide) wd_217 rfl rfl dX3_narrowPast_188 ?_
            refine la_get (i := 3) (ci := 5) (j := 7) (C := RX5) (T := TX5) (N := 8) B (lh_nc_lt (by decide)) rfl ix_5 rfl (by decide) wd_108 rfl rfl dX3_narrowPast_191 ?_
            refine la_aload_n (i := 0) B dX3_narrowPast_194 rfl rfl ?_
            refine la_get (i := 27) (ci := 3) (j := 1) (v := .int (h 27 1)) (C := RX3) (T := TX3) (N := 7) B (lh_nc_lt (by decide)) rfl ix_3 rfl (by decide) wd_248 rfl rfl dX3_narrowPast_195 ?_
            refine la_iald (i := 15) (v := h 15 (h 27 1).toNatClampNeg) B (lh_nc_lt (by decide)) rfl h8 rfl dX3_narrowPast_198 ?_
            refine la_goto (tgt := 203) B dX3_narrowPast_199 (by decide) ?_
            refine la_put (i := 27) (ci := 3) (j := 4) (C := RX3) (T := TX3) (N := 7) (ty0 := tyX3) B (lh_nc_lt (by decide)) rfl rfl ix_3 tyX3_ok nmX3 rfl (by decide) wd_252 rfl rfl rfl rfl rfl (Nat.le_of_ble_eq_true rfl) dX3_narrowPast_203 ?_
            exact la_return B rfl (by rw [hh]; simp only [LX3_nar_h, if_neg c135]) dX3_narrowPast_206
    · exact absurd hexit c49
  | succ n ih =>
    intro i le gr h hi hh hv
    have hM := I0.1.2.2.2.1.2
    have hN : h 5 0 = nI N := by rw [hv.1 5 (by decide) (by decide), hN0]; exact I0.1.2.2.2.1.1
    have hcont : ¬ h 5 0 ≤ nI i := by rw [hN]; exact nI_ge (by omega) (by omega)
    have hb : vp_in (nI i) 12 := vp_in_nI (by omega) (by omega)
    obtain ⟨-, g22, g23⟩ := I0.2.2.2.2.1 i (by omega)
    have hy : vp_in (h 22 (nI i).toNatClampNeg) 10 := by
      rw [hv.1 22 (by decide) (by decide), nI_clamp (by omega)]
      exact g22.vp (Nat.le_refl _) (by omega)
    have ht : vp_in (h 23 (nI i).toNatClampNeg) 9 := by
      rw [hv.1 23 (by decide) (by decide), nI_clamp (by omega)]
      exact g23.vp (by omega) (by omega)
    have ht1 : vp_in (h 23 (nI i).toNatClampNeg + 1) 9 := by
      rw [hv.1 23 (by decide) (by decide), nI_clamp (by omega)]
      obtain ⟨j, hj, e⟩ := g23
      rw [e, nI_1]
      exact vp_in_nI (by omega) (by omega)
    refine la_iload B dX3_narrowPast_43 rfl ?_
    refine la_aload_n (i := 3) B dX3_narrowPast_45 rfl rfl ?_
    refine la_get (i := 5) (ci := 6) (j := 0) (v := .int (h 5 0)) (C := RX6) (T := TX6) (N := 4) B (lh_nc_lt (by decide)) rfl ix_6 rfl (by decide) wd_170 rfl rfl dX3_narrowPast_46 ?_
    refine la_icmp_ge (tgt := 132) B dX3_narrowPast_49 (by decide) (fun c49 => ?_) (fun c49 => ?_)
    · exact absurd c49 hcont
    · refine la_aload_n (i := 3) B dX3_narrowPast_52 rfl rfl ?_
      refine la_get (i := 5) (ci := 6) (j := 1) (C := RX6) (T := TX6) (N := 4) B (lh_nc_lt (by decide)) rfl ix_6 rfl (by decide) wd_173 rfl rfl dX3_narrowPast_53 ?_
      refine la_iload B dX3_narrowPast_56 rfl ?_
      refine la_iald (i := 21) (v := h 21 (nI i).toNatClampNeg) B (lh_nc_lt (by decide)) rfl hb rfl dX3_narrowPast_58 ?_
      refine la_aload_n (i := 0) B dX3_narrowPast_59 rfl rfl ?_
      refine la_get (i := 27) (ci := 3) (j := 1) (v := .int (h 27 1)) (C := RX3) (T := TX3) (N := 7) B (lh_nc_lt (by decide)) rfl ix_3 rfl (by decide) wd_248 rfl rfl dX3_narrowPast_60 ?_
      refine la_icmp_ne (tgt := 126) B dX3_narrowPast_63 (by decide) (fun c63 => ?_) (fun c63 => ?_)
      · refine la_iincp B dX3_narrowPast_126 rfl (by decide) ?_
        refine la_goto (tgt := 43) B dX3_narrowPast_129 (by decide) ?_
        refine la_sub (lv2 := [(0, .ref (ad 27)), (1, .int le), (2, .int gr), (3, .ref (ad 5)), (4, .int (nI (i + 1)))]) ⟨rfl, rfl, rfl, rfl, (congrArg (fun z => some (Value.int z)) (nI_1 i)), trivial⟩ (by simp [Value.category]) ?_
        exact ih (i + 1) le gr h (by omega) (by rw [hh]; simp only [LX3_nar_h, if_neg c63]) hv
      · refine la_aload_n (i := 3) B dX3_narrowPast_66 rfl rfl ?_
        refine la_get (i := 5) (ci := 6) (j := 3) (C := RX6) (T := TX6) (N := 4) B (lh_nc_lt (by decide)) rfl ix_6 rfl (by decide) wd_177 rfl rfl dX3_narrowPast_67 ?_
        refine la_iload B dX3_narrowPast_70 rfl ?_
        refine la_iald (i := 23) (v := h 23 (nI i).toNatClampNeg) B (lh_nc_lt (by decide)) rfl hb rfl dX3_narrowPast_72 ?_
        refine la_istore B dX3_narrowPast_73 (by decide) ?_
        refine la_aload_n (i := 3) B dX3_narrowPast_75 rfl rfl ?_
        refine la_get (i := 5) (ci := 6) (j := 2) (C := RX6) (T := TX6) (N := 4) B (lh_nc_lt (by decide)) rfl ix_6 rfl (by decide) wd_175 rfl rfl dX3_narrowPast_76 ?_
        refine la_iload B dX3_narrowPast_79 rfl ?_
        refine la_iald (i := 22) (v := h 22 (nI i).toNatClampNeg) B (lh_nc_lt (by decide)) rfl hb rfl dX3_narrowPast_81 ?_
        refine la_istore B dX3_narrowPast_82 (by decide) ?_
        refine la_iload_n (i := 1) B dX3_narrowPast_84 rfl rfl ?_
        refine la_getsN B dX3_narrowPast_85 ?_
        refine la_iload B dX3_narrowPast_88 rfl ?_
        refine la_ti B ht dX3_narrowPast_90 ?_
        refine la_aload_n (i := 0) B dX3_narrowPast_91 rfl rfl ?_
        refine la_get (i := 27) (ci := 3) (j := 6) (C := RX3) (T := TX3) (N := 7) B (lh_nc_lt (by decide)) rfl ix_3 rfl (by decide) wd_254 rfl rfl dX3_narrowPast_92 ?_
        refine la_iload B dX3_narrowPast_95 rfl ?_
        refine la_iald (i := 29) (v := h 29 (h 22 (nI i).toNatClampNeg).toNatClampNeg) B (lh_nc_lt (by decide)) rfl hy rfl dX3_narrowPast_97 ?_
        refine la_isub B dX3_narrowPast_98 ?_
        refine la_mmax B wd_416 wd_417 wd_45 wd_418 (by decide) (by decide) dX3_narrowPast_99 ?_
        refine la_istore_n (i := 1) B dX3_narrowPast_102 rfl (by decide) ?_
        refine la_iload_n (i := 2) B dX3_narrowPast_103 rfl rfl ?_
        refine la_getsN B dX3_narrowPast_104 ?_
        refine la_iload B dX3_narrowPast_107 rfl ?_
        refine la_iconst (v := 1) B dX3_narrowPast_109 (by decide) ?_
        refine la_iadd B dX3_narrowPast_110 ?_
        refine la_ti B ht1 dX3_narrowPast_111 ?_
        refine la_iconst (v := 1) B dX3_narrowPast_112 (by decide) ?_
        refine la_isub B dX3_narrowPast_113 ?_
        refine la_aload_n (i := 0) B dX3_narrowPast_114 rfl rfl ?_
        refine la_get (i := 27) (ci := 3) (j := 5) (C := RX3) (T := TX3) (N := 7) B (lh_nc_lt (by decide)) rfl ix_3 rfl (by decide) wd_253 rfl rfl dX3_narrowPast_115 ?_
        refine la_iload B dX3_narrowPast_118 rfl ?_
        refine la_iald (i := 28) (v := h 28 (h 22 (nI i).toNatClampNeg).toNatClampNeg) B (lh_nc_lt (by decide)) rfl hy rfl dX3_narrowPast_120 ?_
        refine la_isub B dX3_narrowPast_121 ?_
        refine la_mmin B wd_419 wd_420 wd_45 wd_421 (by decide) (by decide) dX3_narrowPast_122 ?_
        refine la_istore_n (i := 2) B dX3_narrowPast_125 rfl (by decide) ?_
        refine la_iincp B dX3_narrowPast_126 rfl (by decide) ?_
        refine la_goto (tgt := 43) B dX3_narrowPast_129 (by decide) ?_
        refine la_sub (lv2 := [(0, .ref (ad 27)), (1, .int ((if le < ((lh_T (h 23 (nI i).toNatClampNeg).toNatClampNeg) - (h 29 (h 22 (nI i).toNatClampNeg).toNatClampNeg)) then ((lh_T (h 23 (nI i).toNatClampNeg).toNatClampNeg) - (h 29 (h 22 (nI i).toNatClampNeg).toNatClampNeg)) else le))), (2, .int ((if (((lh_T ((h 23 (nI i).toNatClampNeg) + 1).toNatClampNeg) - 1) - (h 28 (h 22 (nI i).toNatClampNeg).toNatClampNeg)) < gr then (((lh_T ((h 23 (nI i).toNatClampNeg) + 1).toNatClampNeg) - 1) - (h 28 (h 22 (nI i).toNatClampNeg).toNatClampNeg)) else gr))), (3, .ref (ad 5)), (4, .int (nI (i + 1)))]) ⟨rfl, rfl, rfl, rfl, (congrArg (fun z => some (Value.int z)) (nI_1 i)), trivial⟩ (by simp [Value.category]) ?_
        exact ih (i + 1) (if le < ((lh_T (h 23 (nI i).toNatClampNeg).toNatClampNeg) - (h 29 (h 22 (nI i).toNatClampNeg).toNatClampNeg)) then ((lh_T (h 23 (nI i).toNatClampNeg).toNatClampNeg) - (h 29 (h 22 (nI i).toNatClampNeg).toNatClampNeg)) else le) (if (((lh_T ((h 23 (nI i).toNatClampNeg) + 1).toNatClampNeg) - 1) - (h 28 (h 22 (nI i).toNatClampNeg).toNatClampNeg)) < gr then (((lh_T ((h 23 (nI i).toNatClampNeg) + 1).toNatClampNeg) - 1) - (h 28 (h 22 (nI i).toNatClampNeg).toNatClampNeg)) else gr) h (by omega) (by rw [hh]; simp only [LX3_nar_h, if_pos c63]) hv

def gX3_narrowPast (h : lh_HS)  : lh_HS := (LX3_nar_h (lh_N h 5) 0 (h 14 (h 27 1).toNatClampNeg) (h 15 (h 27 1).toNatClampNeg) h)
set_option maxHeartbeats 4000000 in
set_option maxRecDepth 100000 in
theorem ct_X3_narrowPast {l : Launch} {D : va_G} {ad : Nat → Nat} {bs : Nat} {cI cZ : ClassId} {t9 : Nat} {k : Bool} (h : lh_HS)  (I : lh_I h) (hs : lh_ix (h 27 1) (lh_N h 3)) : lh_CTv l D ad bs cI cZ t9 k yX3_narrowPast cX3_narrowPast 7 1 [.ref (ad 27)] h (gX3_narrowPast h ) := by
  refine lh_ofv (lv := [(0, .ref (ad 27))]) (by decide) (Nat.le_of_ble_eq_true rfl) rfl (by simp [Value.category]) ⟨rfl, trivial⟩ ?_
  intro p e s m args below meth c B
  have B : lh_BK p (lh_rm 1) s m args meth c D ad bs cI cZ t9 k "LightHours$Ledger" cX3_narrowPast 7 none := B
  have h8 : vp_in (h 27 1) 8 := hs.vp I.1.2.1.2 (by omega)
  refine la_aload_n (i := 0) B dX3_narrowPast_0 rfl rfl ?_
  refine la_get (i := 27) (ci := 3) (j := 0) (C := RX3) (T := TX3) (N := 7) B (lh_nc_lt (by decide)) rfl ix_3 rfl (by decide) wd_247 rfl rfl dX3_narrowPast_1 ?_
  refine la_get (i := 1) (ci := 2) (j := 1) (C := RX2) (T := TX2) (N := 5) B (lh_nc_lt (by decide)) rfl ix_2 rfl (by decide) wd_217 rfl rfl dX3_narrowPast_4 ?_
  refine la_get (i := 3) (ci := 5) (j := 6) (C := RX5) (T := TX5) (N := 8) B (lh_nc_lt (by decide)) rfl ix_5 rfl (by decide) wd_105 rfl rfl dX3_narrowPast_7 ?_
  refine la_aload_n (i := 0) B dX3_narrowPast_10 rfl rfl ?_
  refine la_get (i := 27) (ci := 3) (j := 1) (v := .int (h 27 1)) (C := RX3) (T := TX3) (N := 7) B (lh_nc_lt (by decide)) rfl ix_3 rfl (by decide) wd_248 rfl rfl dX3_narrowPast_11 ?_
  refine la_iald (i := 14) (v := h 14 (h 27 1).toNatClampNeg) B (lh_nc_lt (by decide)) rfl h8 rfl dX3_narrowPast_14 ?_
  refine la_istore_n (i := 1) B dX3_narrowPast_15 rfl (by decide) ?_
  refine la_aload_n (i := 0) B dX3_narrowPast_16 rfl rfl ?_
  refine la_get (i := 27) (ci := 3) (j := 0) (C := RX3) (T := TX3) (N := 7) B (lh_nc_lt (by decide)) rfl ix_3 rfl (by decide) wd_247 rfl rfl dX3_narrowPast_17 ?_
  refine la_get (i := 1) (ci := 2) (j := 1) (C := RX2) (T := TX2) (N := 5) B (lh_nc_lt (by decide)) rfl ix_2 rfl (by decide) wd_217 rfl rfl dX3_narrowPast_20 ?_
  refine la_get (i := 3) (ci := 5) (j := 7) (C := RX5) (T := TX5) (N := 8) B (lh_nc_lt (by decide)) rfl ix_5 rfl (by decide) wd_108 rfl rfl dX3_narrowPast_23 ?_
  refine la_aload_n (i := 0) B dX3_narrowPast_26 rfl rfl ?_
  refine la_get (i := 27) (ci := 3) (j := 1) (v := .int (h 27 1)) (C := RX3) (T := TX3) (N := 7) B (lh_nc_lt (by decide)) rfl ix_3 rfl (by decide) wd_248 rfl rfl dX3_narrowPast_27 ?_
  refine la_iald (i := 15) (v := h 15 (h 27 1).toNatClampNeg) B (lh_nc_lt (by decide)) rfl h8 rfl dX3_narrowPast_30 ?_
  refine la_istore_n (i := 2) B dX3_narrowPast_31 rfl (by decide) ?_
  refine la_aload_n (i := 0) B dX3_narrowPast_32 rfl rfl ?_
  refine la_get (i := 27) (ci := 3) (j := 0) (C := RX3) (T := TX3) (N := 7) B (lh_nc_lt (by decide)) rfl ix_3 rfl (by decide) wd_247 rfl rfl dX3_narrowPast_33 ?_
  refine la_get (i := 1) (ci := 2) (j := 3) (C := RX2) (T := TX2) (N := 5) B (lh_nc_lt (by decide)) rfl ix_2 rfl (by decide) wd_225 rfl rfl dX3_narrowPast_36 ?_
  refine la_astore_n (i := 3) B dX3_narrowPast_39 rfl (by decide) ?_
  refine la_iconst (v := 0) B dX3_narrowPast_40 (by decide) ?_
  refine la_istore B dX3_narrowPast_41 (by decide) ?_
  refine la_sub (lv2 := [(0, .ref (ad 27)), (1, .int (h 14 (h 27 1).toNatClampNeg)), (2, .int (h 15 (h 27 1).toNatClampNeg)), (3, .ref (ad 5)), (4, .int (nI 0))]) ⟨rfl, rfl, rfl, rfl, rfl, trivial⟩ (by simp [Value.category]) ?_
  exact lp_X3_nar B I hs rfl _ 0 _ _ h (Nat.zero_add _) (by simp only [gX3_narrowPast]) ⟨lh_fr.rf h, rfl⟩

theorem fr_sum3 : ∀ (n i : Nat) (h : lh_HS) (q : Nat), q ≠ 28 → q ≠ 29 → LX3_sum3_h n i h q = h q := by
  intro n
  induction n with
  | zero => intro i h q _ _; rfl
  | succ n ih =>
    intro i h q h1 h2
    simp only [LX3_sum3_h]
    rw [ih _ _ q h1 h2]
    funext z
    rw [lh_up_ne (Or.inl h2), lh_up_ne (Or.inl h1)]
theorem fr_sum2 : ∀ (n i : Nat) (h : lh_HS) (q : Nat), q ≠ 28 → q ≠ 29 → LX3_sum2_h n i h q = h q := by
  intro n
  induction n with
  | zero => intro i h q h1 h2; simp only [LX3_sum2_h]; exact fr_sum3 _ _ _ q h1 h2
  | succ n ih =>
    intro i h q h1 h2
    simp only [LX3_sum2_h]
    split
    · exact ih _ _ q h1 h2
    · rw [ih _ _ q h1 h2]
      funext z
      rw [lh_up_ne (Or.inl h2), lh_up_ne (Or.inl h1)]
theorem fr_sum1 : ∀ (n i : Nat) (h : lh_HS) (q : Nat), q ≠ 28 → q ≠ 29 → LX3_sum1_h n i h q = h q := by
  intro n
  induction n with
  | zero => intro i h q h1 h2; simp only [LX3_sum1_h]; exact fr_sum2 _ _ _ q h1 h2
  | succ n ih =>
    intro i h q h1 h2
    simp only [LX3_sum1_h]
    rw [ih _ _ q h1 h2]
    funext z
    rw [lh_up_ne (Or.inl h2), lh_up_ne (Or.inl h1)]
theorem fr_nar : ∀ (n i : Nat) (le gr : Int32) (h : lh_HS) (q : Nat), q ≠ 27 → LX3_nar_h n i le gr h q = h q := by
  intro n
  induction n with
  | zero =>
    intro i le gr h q h1
    simp only [LX3_nar_h]
    split <;> (funext z; simp only [lh_up_ne (Or.inl h1)])
  | succ n ih =>
    intro i le gr h q h1
    simp only [LX3_nar_h]
    split <;> exact ih _ _ _ _ q h1
theorem fr_sumSpends (h : lh_HS) (q : Nat) (h1 : q ≠ 28) (h2 : q ≠ 29) : gX3_sumSpends h q = h q := fr_sum1 _ _ _ q h1 h2
theorem fr_narrowPast (h : lh_HS) (q : Nat) (h1 : q ≠ 27) : gX3_narrowPast h q = h q := fr_nar _ _ _ _ _ q h1
theorem lh_open_fr (h : lh_HS) (x : Int32) : lh_fr h (gX3_sumSpends (lh_up h 27 1 x)) := fun q h1 h2 => by
  rw [fr_sumSpends _ q (by omega) (by omega)]
  funext z
  exact lh_up_ne (Or.inl (by omega))
def gX3_openAt (h : lh_HS) (sn : Int32) : lh_HS := gX3_narrowPast (gX3_sumSpends (lh_up h 27 1 sn) ) 
set_option maxHeartbeats 4000000 in
set_option maxRecDepth 100000 in
theorem ct_X3_openAt {l : Launch} {D : va_G} {ad : Nat → Nat} {bs : Nat} {cI cZ : ClassId} {t9 : Nat} {k : Bool} (h : lh_HS) (sn : Int32) (I : lh_I h) (hs : lh_ix sn (lh_N h 3)) : lh_CTr l D ad bs cI cZ t9 k yX3_openAt cX3_openAt 2 (some (.object "LightHours$Ledger")) 3 [.ref (ad 27), .int sn] h 27 (gX3_openAt h sn) := by
  refine lh_ofr (lv := [(0, .ref (ad 27)), (1, .int sn)]) (by decide) (Nat.le_of_ble_eq_true rfl) rfl (by simp [Value.category]) ⟨rfl, rfl, trivial⟩ ?_
  intro p e s m args below meth c B
  have B : lh_BK p (lh_rm 3) s m args meth c D ad bs cI cZ t9 k "LightHours$Ledger" cX3_openAt 2 (some (.object "LightHours$Ledger")) := B
  have hs2 : lh_ix (lh_up h 27 1 sn 27 1) (lh_N (lh_up h 27 1 sn) 3) := by
    rw [lh_up_eq]
    unfold lh_N
    rw [lh_up_ne (Or.inl (by decide))]
    exact hs
  have hs3 : lh_ix (gX3_sumSpends (lh_up h 27 1 sn) 27 1) (lh_N (gX3_sumSpends (lh_up h 27 1 sn)) 3) := by
    unfold lh_N at *
    rw [fr_sumSpends _ 27 (by decide) (by decide), fr_sumSpends _ 3 (by decide) (by decide)]
    exact hs2
  refine la_aload_n (i := 0) B dX3_openAt_0 rfl rfl ?_
  refine la_iload_n (i := 1) B dX3_openAt_1 rfl rfl ?_
  refine la_put (i := 27) (ci := 3) (j := 1) (C := RX3) (T := TX3) (N := 7) (ty0 := tyX3) B (lh_nc_lt (by decide)) rfl rfl ix_3 tyX3_ok nmX3 rfl (by decide) wd_248 rfl rfl rfl rfl rfl (Nat.le_of_ble_eq_true rfl) dX3_openAt_2 ?_
  refine la_aload_n (i := 0) B dX3_openAt_5 rfl rfl ?_
  refine la_callVv (i := 27) B (ct_X3_sumSpends (lh_up h 27 1 sn) (I.fr ((lh_fr.rf h).up (by decide))) hs2) lk_X3_36 (by decide) (lh_nc_lt (by decide)) rfl rfl rfl (by simp [Value.category]) dX3_openAt_6 ?_
  refine la_aload_n (i := 0) B dX3_openAt_9 rfl rfl ?_
  refine la_callVv (i := 27) B (ct_X3_narrowPast (gX3_sumSpends (lh_up h 27 1 sn) ) (I.fr (lh_open_fr h sn)) hs3) lk_X3_39 (by decide) (lh_nc_lt (by decide)) rfl rfl rfl (by simp [Value.category]) dX3_openAt_10 ?_
  refine la_aload_n (i := 0) B dX3_openAt_13 rfl rfl ?_
  exact la_areturn B rfl (by simp only [gX3_openAt]) dX3_openAt_14

theorem fr_openAt (h : lh_HS) (x : Int32) (q : Nat) (h1 : q ≠ 27) (h2 : q ≠ 28) (h3 : q ≠ 29) : gX3_openAt h x q = h q := by
  unfold gX3_openAt
  rw [fr_narrowPast _ q h1, fr_sumSpends _ q h2 h3]
  funext z
  exact lh_up_ne (Or.inl h1)
theorem lh_openfr {a h : lh_HS} (f : lh_fr a h) (x : Int32) : lh_fr a (gX3_openAt h x) := fun q h1 h2 => by
  rw [fr_openAt h x q (by omega) (by omega) (by omega)]
  exact f q h1 h2