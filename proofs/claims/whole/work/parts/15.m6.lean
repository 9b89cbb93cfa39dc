def LX1_place_h (w : Nat) (ws : Int32) (G : Int32 → lh_HS → lh_HS) : Nat → Nat → lh_HS → lh_HS
  | 0, i, h => G ws h
  | n + 1, i, h => (if (fX1_fits h (nI w) (nI i)) = 0 then (LX1_place_h w ws G n (i + 1) h) else (LX1_place_h w ws G n (i + 1) (lh_up (lh_up (G (ws + (h 11 (nI i).toNatClampNeg)) (lh_up (lh_up h 32 ((nI w).toNatClampNeg) ((nI i))) 36 ((nI i).toNatClampNeg) (((h 36 (nI i).toNatClampNeg) - (h 34 (nI w).toNatClampNeg))))) 36 ((nI i).toNatClampNeg) ((((G (ws + (h 11 (nI i).toNatClampNeg)) (lh_up (lh_up h 32 ((nI w).toNatClampNeg) ((nI i))) 36 ((nI i).toNatClampNeg) (((h 36 (nI i).toNatClampNeg) - (h 34 (nI w).toNatClampNeg))))) 36 (nI i).toNatClampNeg) + ((G (ws + (h 11 (nI i).toNatClampNeg)) (lh_up (lh_up h 32 ((nI w).toNatClampNeg) ((nI i))) 36 ((nI i).toNatClampNeg) (((h 36 (nI i).toNatClampNeg) - (h 34 (nI w).toNatClampNeg))))) 34 (nI w).toNatClampNeg)))) 32 ((nI w).toNatClampNeg) (((-4))))))
set_option maxHeartbeats 4000000 in
set_option maxRecDepth 100000 in
theorem lp_X1_place {l : Launch} {D : va_G} {ad : Nat → Nat} {bs : Nat} {cI cZ : ClassId} {t9 : Nat} {k : Bool} {p : Program} {e : Env} {s : State} {m : MethodId} {args : Array Value} {below : List Frame} {meth : Method} {c : Code} (w : Nat) (ws : Int32) (G : Int32 → lh_HS → lh_HS) {h2 : lh_HS} {dd : Nat} (B : lh_BK p (lh_rm (3 + (dd + 1))) s m args meth c D ad bs cI cZ t9 k "LightHours$Hanging" cX1_place 4 none) {h0 : lh_HS} (I0 : lh_I h0) {N : Nat} (hN0 : N = lh_N h0 3) (hw : vp_in (nI w) 5) (HG : ∀ (z : Int32) (h : lh_HS), lh_fr h0 h → lh_CTv l D ad bs cI cZ t9 k yX1_place cX1_place 4 (3 + dd) [.ref (ad 30), .int (nI w + 1), .int z] h (G z h)) (FG : ∀ (z : Int32) (h : lh_HS), lh_fr h0 h → lh_fr h0 (G z h)) :
    ∀ (n i : Nat) (h : lh_HS), i + n = N → h2 = LX1_place_h w ws G n i h → lh_fr h0 h → lh_AJ p l e (lh_rm (3 + (dd + 1))) s m args below meth c D ad bs cI cZ k 4 (MQ below (lh_Qv D ad bs cI cZ k h2) args s 0 0 (lh_A bs)) 43 [(0, .ref (ad 30)), (1, .int (nI w)), (2, .int ws), (3, .int (nI i))] [] h := by
  intro n
  induction n with
  | zero =>
    intro i h hi hh hv
    have hM := I0.1.2.1.2
    have hN : h 3 0 = nI N := by rw [hv 3 (by decide) (by decide), hN0]; exact I0.1.2.1.1
    have hexit : h 3 0 ≤ nI i := by rw [hN]; exact nI_le (by omega) (by omega)
    refine la_iload_n (i := 3) B dX1_place_43 rfl rfl ?_
    refine la_aload_n (i := 0) B dX1_place_44 rfl rfl ?_
    refine la_get (i := 30) (ci := 1) (j := 0) (C := RX1) (T := TX1) (N := 10) B (lh_nc_lt (by decide)) rfl ix_1 rfl (by decide) wd_276 rfl rfl dX1_place_45 ?_
    refine la_get (i := 1) (ci := 2) (j := 1) (C := RX2) (T := TX2) (N := 5) B (lh_nc_lt (by decide)) rfl ix_2 rfl (by decide) wd_218 rfl rfl dX1_place_48 ?_
    refine la_get (i := 3) (ci := 5) (j := 0) (v := .int (h 3 0)) (C := RX5) (T := TX5) (N := 8) B (lh_nc_lt (by decide)) rfl ix_5 rfl (by decide) wd_87 rfl rfl dX1_place_51 ?_
    refine la_icmp_ge (tgt := 138) B dX1_place_54 (by decide) (fun c54 => ?_) (fun c54 => ?_)
    · refine la_aload_n (i := 0) B dX1_place_138 rfl rfl ?_
      refine la_iload_n (i := 1) B dX1_place_139 rfl rfl ?_
      refine la_iconst (v := 1) B dX1_place_140 (by decide) ?_
      refine la_iadd B dX1_place_141 ?_
      refine la_iload_n (i := 2) B dX1_place_142 rfl rfl ?_
      refine la_callSv B (HG ws h hv) lk_X1_60 (by constructor <;> (simp only [lh_rm]; omega)) rfl (by simp [Value.category]) dX1_place_143 ?_
      exact la_return B rfl (by rw [hh]; simp only [LX1_place_h]) dX1_place_146
    · exact absurd hexit c54
  | succ n ih =>
    intro i h hi hh hv
    have hM := I0.1.2.1.2
    have hN : h 3 0 = nI N := by rw [hv 3 (by decide) (by decide), hN0]; exact I0.1.2.1.1
    have hcont : ¬ h 3 0 ≤ nI i := by rw [hN]; exact nI_ge (by omega) (by omega)
    have hb : vp_in (nI i) 8 := vp_in_nI (by omega) (by omega)
    refine la_iload_n (i := 3) B dX1_place_43 rfl rfl ?_
    refine la_aload_n (i := 0) B dX1_place_44 rfl rfl ?_
    refine la_get (i := 30) (ci := 1) (j := 0) (C := RX1) (T := TX1) (N := 10) B (lh_nc_lt (by decide)) rfl ix_1 rfl (by decide) wd_276 rfl rfl dX1_place_45 ?_
    refine la_get (i := 1) (ci := 2) (j := 1) (C := RX2) (T := TX2) (N := 5) B (lh_nc_lt (by decide)) rfl ix_2 rfl (by decide) wd_218 rfl rfl dX1_place_48 ?_
    refine la_get (i := 3) (ci := 5) (j := 0) (v := .int (h 3 0)) (C := RX5) (T := TX5) (N := 8) B (lh_nc_lt (by decide)) rfl ix_5 rfl (by decide) wd_87 rfl rfl dX1_place_51 ?_
    refine la_icmp_ge (tgt := 138) B dX1_place_54 (by decide) (fun c54 => ?_) (fun c54 => ?_)
    · exact absurd c54 hcont
    · refine la_aload_n (i := 0) B dX1_place_57 rfl rfl ?_
      refine la_iload_n (i := 1) B dX1_place_58 rfl rfl ?_
      refine la_iload_n (i := 3) B dX1_place_59 rfl rfl ?_
      refine la_callVi (i := 30) B (ct_X1_fits h (nI w) (nI i) hw hb) lk_X1_131 (by constructor <;> (simp only [lh_rm]; omega)) (lh_nc_lt (by decide)) rfl rfl rfl (by simp [Value.category]) dX1_place_60 ?_
      refine la_if_eq (tgt := 132) B dX1_place_63 (by decide) (fun c63 => ?_) (fun c63 => ?_)
      · refine la_iincp B dX1_place_132 rfl (by decide) ?_
        refine la_goto (tgt := 43) B dX1_place_135 (by decide) ?_
        refine la_sub (lv2 := [(0, .ref (ad 30)), (1, .int (nI w)), (2, .int ws), (3, .int (nI (i + 1)))]) ⟨rfl, rfl, rfl, (congrArg (fun z => some (Value.int z)) (nI_1 i)), trivial⟩ (by simp [Value.category]) ?_
        exact ih (i + 1) h (by omega) (by rw [hh]; simp only [LX1_place_h, if_pos c63]) hv
      · refine la_aload_n (i := 0) B dX1_place_66 rfl rfl ?_
        refine la_get (i := 30) (ci := 1) (j := 5) (C := RX1) (T := TX1) (N := 10) B (lh_nc_lt (by decide)) rfl ix_1 rfl (by decide) wd_283 rfl rfl dX1_place_67 ?_
        refine la_iload_n (i := 1) B dX1_place_70 rfl rfl ?_
        refine la_iload_n (i := 3) B dX1_place_71 rfl rfl ?_
        refine la_iast (i := 32) (j := (nI w).toNatClampNeg) B (lh_nc_lt (by decide)) rfl rfl hw rfl dX1_place_72 ?_
        refine la_aload_n (i := 0) B dX1_place_73 rfl rfl ?_
        refine la_get (i := 30) (ci := 1) (j := 9) (C := RX1) (T := TX1) (N := 10) B (lh_nc_lt (by decide)) rfl ix_1 rfl (by decide) wd_287 rfl rfl dX1_place_74 ?_
        refine la_iload_n (i := 3) B dX1_place_77 rfl rfl ?_
        refine la_dup2 B dX1_place_78 rfl rfl ?_
        refine la_iald (i := 36) (v := h 36 (nI i).toNatClampNeg) B (lh_nc_lt (by decide)) rfl hb rfl dX1_place_79 ?_
        refine la_aload_n (i := 0) B dX1_place_80 rfl rfl ?_
        refine la_get (i := 30) (ci := 1) (j := 7) (C := RX1) (T := TX1) (N := 10) B (lh_nc_lt (by decide)) rfl ix_1 rfl (by decide) wd_285 rfl rfl dX1_place_81 ?_
        refine la_iload_n (i := 1) B dX1_place_84 rfl rfl ?_
        refine la_iald (i := 34) (v := h 34 (nI w).toNatClampNeg) B (lh_nc_lt (by decide)) rfl hw rfl dX1_place_85 ?_
        refine la_isub B dX1_place_86 ?_
        refine la_iast (i := 36) (j := (nI i).toNatClampNeg) B (lh_nc_lt (by decide)) rfl rfl hb rfl dX1_place_87 ?_
        refine la_aload_n (i := 0) B dX1_place_88 rfl rfl ?_
        refine la_iload_n (i := 1) B dX1_place_89 rfl rfl ?_
        refine la_iconst (v := 1) B dX1_place_90 (by decide) ?_
        refine la_iadd B dX1_place_91 ?_
        refine la_iload_n (i := 2) B dX1_place_92 rfl rfl ?_
        refine la_aload_n (i := 0) B dX1_place_93 rfl rfl ?_
        refine la_get (i := 30) (ci := 1) (j := 0) (C := RX1) (T := TX1) (N := 10) B (lh_nc_lt (by decide)) rfl ix_1 rfl (by decide) wd_276 rfl rfl dX1_place_94 ?_
        refine la_get (i := 1) (ci := 2) (j := 1) (C := RX2) (T := TX2) (N := 5) B (lh_nc_lt (by decide)) rfl ix_2 rfl (by decide) wd_218 rfl rfl dX1_place_97 ?_
        refine la_get (i := 3) (ci := 5) (j := 3) (C := RX5) (T := TX5) (N := 8) B (lh_nc_lt (by decide)) rfl ix_5 rfl (by decide) wd_96 rfl rfl dX1_place_100 ?_
        refine la_iload_n (i := 3) B dX1_place_103 rfl rfl ?_
        refine la_iald (i := 11) (v := h 11 (nI i).toNatClampNeg) B (lh_nc_lt (by decide)) rfl hb rfl dX1_place_104 ?_
        refine la_iadd B dX1_place_105 ?_
        refine la_callSv B (HG (ws + (h 11 (nI i).toNatClampNeg)) (lh_up (lh_up h 32 ((nI w).toNatClampNeg) ((nI i))) 36 ((nI i).toNatClampNeg) (((h 36 (nI i).toNatClampNeg) - (h 34 (nI w).toNatClampNeg)))) ((hv.up (i := 32) (by decide)).up (i := 36) (by decide))) lk_X1_60 (by constructor <;> (simp only [lh_rm]; omega)) rfl (by simp [Value.category]) dX1_place_106 ?_
        refine la_aload_n (i := 0) B dX1_place_109 rfl rfl ?_
        refine la_get (i := 30) (ci := 1) (j := 9) (C := RX1) (T := TX1) (N := 10) B (lh_nc_lt (by decide)) rfl ix_1 rfl (by decide) wd_287 rfl rfl dX1_place_110 ?_
        refine la_iload_n (i := 3) B dX1_place_113 rfl rfl ?_
        refine la_dup2 B dX1_place_114 rfl rfl ?_
        refine la_iald (i := 36) (v := (G (ws + (h 11 (nI i).toNatClampNeg)) (lh_up (lh_up h 32 ((nI w).toNatClampNeg) ((nI i))) 36 ((nI i).toNatClampNeg) (((h 36 (nI i).toNatClampNeg) - (h 34 (nI w).toNatClampNeg))))) 36 (nI i).toNatClampNeg) B (lh_nc_lt (by decide)) rfl hb rfl dX1_place_115 ?_
        refine la_aload_n (i := 0) B dX1_place_116 rfl rfl ?_
        refine la_get (i := 30) (ci := 1) (j := 7) (C := RX1) (T := TX1) (N := 10) B (lh_nc_lt (by decide)) rfl ix_1 rfl (by decide) wd_285 rfl rfl dX1_place_117 ?_
        refine la_iload_n (i := 1) B dX1_place_120 rfl rfl ?_
        refine la_iald (i := 34) (v := (G (ws + (h 11 (nI i).toNatClampNeg)) (lh_up (lh_up h 32 ((nI w).toNatClampNeg) ((nI i))) 36 ((nI i).toNatClampNeg) (((h 36 (nI i).toNatClampNeg) - (h 34 (nI w).toNatClampNeg))))) 34 (nI w).toNatClampNeg) B (lh_nc_lt (by decide)) rfl hw rfl dX1_place_121 ?_
        refine la_iadd B dX1_place_122 ?_
        refine la_iast (i := 36) (j := (nI i).toNatClampNeg) B (lh_nc_lt (by decide)) rfl rfl hb rfl dX1_place_123 ?_
        refine la_aload_n (i := 0) B dX1_place_124 rfl rfl ?_
        refine la_get (i := 30) (ci := 1) (j := 5) (C := RX1) (T := TX1) (N := 10) B (lh_nc_lt (by decide)) rfl ix_1 rfl (by decide) wd_283 rfl rfl dX1_place_125 ?_
        refine la_iload_n (i := 1) B dX1_place_128 rfl rfl ?_
        refine la_bipush (v := -4) B dX1_place_129 (by decide) ?_
        refine la_iast (i := 32) (j := (nI w).toNatClampNeg) B (lh_nc_lt (by decide)) rfl rfl hw rfl dX1_place_131 ?_
        refine la_iincp B dX1_place_132 rfl (by decide) ?_
        refine la_goto (tgt := 43) B dX1_place_135 (by decide) ?_
        refine la_sub (lv2 := [(0, .ref (ad 30)), (1, .int (nI w)), (2, .int ws), (3, .int (nI (i + 1)))]) ⟨rfl, rfl, rfl, (congrArg (fun z => some (Value.int z)) (nI_1 i)), trivial⟩ (by simp [Value.category]) ?_
        exact ih (i + 1) (lh_up (lh_up (G (ws + (h 11 (nI i).toNatClampNeg)) (lh_up (lh_up h 32 ((nI w).toNatClampNeg) ((nI i))) 36 ((nI i).toNatClampNeg) (((h 36 (nI i).toNatClampNeg) - (h 34 (nI w).toNatClampNeg))))) 36 ((nI i).toNatClampNeg) ((((G (ws + (h 11 (nI i).toNatClampNeg)) (lh_up (lh_up h 32 ((nI w).toNatClampNeg) ((nI i))) 36 ((nI i).toNatClampNeg) (((h 36 (nI i).toNatClampNeg) - (h 34 (nI w).toNatClampNeg))))) 36 (nI i).toNatClampNeg) + ((G (ws + (h 11 (nI i).toNatClampNeg)) (lh_up (lh_up h 32 ((nI w).toNatClampNeg) ((nI i))) 36 ((nI i).toNatClampNeg) (((h 36 (nI i).toNatClampNeg) - (h 34 (nI w).toNatClampNeg))))) 34 (nI w).toNatClampNeg)))) 32 ((nI w).toNatClampNeg) (((-4)))) (by omega) (by rw [hh]; simp only [LX1_place_h, if_neg c63]) (((FG _ _ ((hv.up (i := 32) (by decide)).up (i := 36) (by decide))).up (i := 36) (by decide)).up (i := 32) (by decide))

def gX1_place : Nat → Nat → Int32 → lh_HS → lh_HS
  | 0, w, ws, h => gX1_takeIfBetter h ws
  | dd + 1, w, ws, h => if (h 30 4) < (ws + (h 35 (nI w).toNatClampNeg)) then LX1_place_h w ws (gX1_place dd (w + 1)) (lh_N h 3) 0 h else h
theorem fr_take {a h : lh_HS} (f : lh_fr a h) (z : Int32) : lh_fr a (gX1_takeIfBetter h z) := by
  unfold gX1_takeIfBetter
  split
  · exact f
  · exact (f.up (i := 30) (by decide)).row (i := 31) (by decide)
theorem fr_Lplace {h0 : lh_HS} (w : Nat) (ws : Int32) (G : Int32 → lh_HS → lh_HS) (FG : ∀ (z : Int32) (h : lh_HS), lh_fr h0 h → lh_fr h0 (G z h)) : ∀ (n i : Nat) (h : lh_HS), lh_fr h0 h → lh_fr h0 (LX1_place_h w ws G n i h) := by
  intro n
  induction n with
  | zero => intro i h f; exact FG _ _ f
  | succ n ih =>
    intro i h f
    simp only [LX1_place_h]
    split
    · exact ih _ _ f
    · exact ih _ _ (((FG _ _ ((f.up (i := 32) (by decide)).up (i := 36) (by decide))).up (i := 36) (by decide)).up (i := 32) (by decide))
theorem fr_place {h0 : lh_HS} : ∀ (dd w : Nat) (ws : Int32) (h : lh_HS), lh_fr h0 h → lh_fr h0 (gX1_place dd w ws h) := by
  intro dd
  induction dd with
  | zero => intro w ws h f; exact fr_take f ws
  | succ dd ih =>
    intro w ws h f
    simp only [gX1_place]
    split
    · exact fr_Lplace w ws _ (fun z h f => ih (w + 1) z h f) _ _ _ f
    · exact f
set_option maxHeartbeats 4000000 in
set_option maxRecDepth 100000 in
theorem ct_X1_place {l : Launch} {D : va_G} {ad : Nat → Nat} {bs : Nat} {cI cZ : ClassId} {t9 : Nat} {k : Bool} {h0 : lh_HS} (I0 : lh_I h0) : ∀ (dd w : Nat) (ws : Int32) (h : lh_HS), w + dd = lh_N h0 6 → lh_fr h0 h → lh_CTv l D ad bs cI cZ t9 k yX1_place cX1_place 4 (3 + dd) [.ref (ad 30), .int (nI w), .int ws] h (gX1_place dd w ws h) := by
  have hM := I0.1.2.2.2.2.2
  intro dd
  induction dd with
  | zero =>
    intro w ws h hd hf
    have hN : h 6 0 = nI (lh_N h0 6) := by rw [hf 6 (by decide) (by decide)]; exact I0.1.2.2.2.2.1
    have hge : h 6 0 ≤ nI w := by rw [hN]; exact nI_le (by omega) (by omega)
    refine lh_ofv (lv := [(0, .ref (ad 30)), (1, .int (nI w)), (2, .int ws)]) (by decide) (Nat.le_of_ble_eq_true rfl) rfl (by simp [Value.category]) ⟨rfl, rfl, rfl, trivial⟩ ?_
    intro p e s m args below meth c B
    have B : lh_BK p (lh_rm (3 + 0)) s m args meth c D ad bs cI cZ t9 k "LightHours$Hanging" cX1_place 4 none := B
    refine la_iload_n (i := 1) B dX1_place_0 rfl rfl ?_
    refine la_aload_n (i := 0) B dX1_place_1 rfl rfl ?_
    refine la_get (i := 30) (ci := 1) (j := 0) (C := RX1) (T := TX1) (N := 10) B (lh_nc_lt (by decide)) rfl ix_1 rfl (by decide) wd_276 rfl rfl dX1_place_2 ?_
    refine la_get (i := 1) (ci := 2) (j := 4) (C := RX2) (T := TX2) (N := 5) B (lh_nc_lt (by decide)) rfl ix_2 rfl (by decide) wd_228 rfl rfl dX1_place_5 ?_
    refine la_get (i := 6) (ci := 7) (j := 0) (v := .int (h 6 0)) (C := RX7) (T := TX7) (N := 4) B (lh_nc_lt (by decide)) rfl ix_7 rfl (by decide) wd_194 rfl rfl dX1_place_8 ?_
    refine la_icmp_ge (tgt := 19) B dX1_place_11 (by decide) (fun c11 => ?_) (fun c11 => ?_)
    · refine la_aload_n (i := 0) B dX1_place_19 rfl rfl ?_
      refine la_iload_n (i := 2) B dX1_place_20 rfl rfl ?_
      refine la_callVv (i := 30) B (ct_X1_takeIfBetter h ws) lk_X1_127 (by constructor <;> (simp only [lh_rm]; omega)) (lh_nc_lt (by decide)) rfl rfl rfl (by simp [Value.category]) dX1_place_21 ?_
      exact la_return B rfl (by simp only [gX1_place]) dX1_place_24
    · exact absurd hge c11
  | succ dd ih =>
    intro w ws h hd hf
    have hN : h 6 0 = nI (lh_N h0 6) := by rw [hf 6 (by decide) (by decide)]; exact I0.1.2.2.2.2.1
    have hlt : ¬ h 6 0 ≤ nI w := by rw [hN]; exact nI_ge (by omega) (by omega)
    have h5 : nI w < 5 := nI_lt (b := 5) (by omega) (by omega)
    have hw : vp_in (nI w) 5 := vp_in_nI (by omega) (by omega)
    have hw6 : vp_in (nI w) 6 := vp_in_nI (by omega) (by omega)
    refine lh_ofv (lv := [(0, .ref (ad 30)), (1, .int (nI w)), (2, .int ws)]) (by decide) (Nat.le_of_ble_eq_true rfl) rfl (by simp [Value.category]) ⟨rfl, rfl, rfl, trivial⟩ ?_
    intro p e s m args below meth c B
    have B : lh_BK p (lh_rm (3 + (dd + 1))) s m args meth c D ad bs cI cZ t9 k "LightHours$Hanging" cX1_place 4 none := B
    refine la_iload_n (i := 1) B dX1_place_0 rfl rfl ?_
    refine la_aload_n (i := 0) B dX1_place_1 rfl rfl ?_
    refine la_get (i := 30) (ci := 1) (j := 0) (C := RX1) (T := TX1) (N := 10) B (lh_nc_lt (by decide)) rfl ix_1 rfl (by decide) wd_276 rfl rfl dX1_place_2 ?_
    refine la_get (i := 1) (ci := 2) (j := 4) (C := RX2) (T := TX2) (N := 5) B (lh_nc_lt (by decide)) rfl ix_2 rfl (by decide) wd_228 rfl rfl dX1_place_5 ?_
    refine la_get (i := 6) (ci := 7) (j := 0) (v := .int (h 6 0)) (C := RX7) (T := TX7) (N := 4) B (lh_nc_lt (by decide)) rfl ix_7 rfl (by decide) wd_194 rfl rfl dX1_place_8 ?_
    refine la_icmp_ge (tgt := 19) B dX1_place_11 (by decide) (fun c11 => ?_) (fun c11 => ?_)
    · exact absurd c11 hlt
    · refine la_iload_n (i := 1) B dX1_place_14 rfl rfl ?_
      refine la_iconst (v := 5) B dX1_place_15 (by decide) ?_
      refine la_icmp_lt (tgt := 25) B dX1_place_16 (by decide) (fun c16 => ?_) (fun c16 => ?_)
      · refine la_iload_n (i := 2) B dX1_place_25 rfl rfl ?_
        refine la_aload_n (i := 0) B dX1_place_26 rfl rfl ?_
        refine la_get (i := 30) (ci := 1) (j := 8) (C := RX1) (T := TX1) (N := 10) B (lh_nc_lt (by decide)) rfl ix_1 rfl (by decide) wd_286 rfl rfl dX1_place_27 ?_
        refine la_iload_n (i := 1) B dX1_place_30 rfl rfl ?_
        refine la_iald (i := 35) (v := h 35 (nI w).toNatClampNeg) B (lh_nc_lt (by decide)) rfl hw6 rfl dX1_place_31 ?_
        refine la_iadd B dX1_place_32 ?_
        refine la_aload_n (i := 0) B dX1_place_33 rfl rfl ?_
        refine la_get (i := 30) (ci := 1) (j := 4) (v := .int (h 30 4)) (C := RX1) (T := TX1) (N := 10) B (lh_nc_lt (by decide)) rfl ix_1 rfl (by decide) wd_281 rfl rfl dX1_place_34 ?_
        refine la_icmp_gt (tgt := 41) B dX1_place_37 (by decide) (fun c37 => ?_) (fun c37 => ?_)
        · refine la_iconst (v := 0) B dX1_place_41 (by decide) ?_
          refine la_istore_n (i := 3) B dX1_place_42 rfl (by decide) ?_
          refine la_sub (lv2 := [(0, .ref (ad 30)), (1, .int (nI w)), (2, .int ws), (3, .int (nI 0))]) ⟨rfl, rfl, rfl, rfl, trivial⟩ (by simp [Value.category]) ?_
          exact lp_X1_place w ws (gX1_place dd (w + 1)) B I0 (hf.N (by decide) (by decide)) hw (fun z h f => by rw [nI_1]; exact ih (w + 1) z h (by omega) f) (fun z h f => fr_place dd (w + 1) z h f) _ 0 h (Nat.zero_add _) (by simp only [gX1_place, if_pos c37]) hf
        · exact la_return B rfl (by simp only [gX1_place, if_neg c37]) dX1_place_40
      · exact absurd h5 c16
def LX1_find_h (W : Nat) : Nat → lh_HS → lh_HS
  | 0, h => lh_up h 30 2 1
  | n + 1, h => (LX1_find_h W n (lh_up (gX1_place (W - n) n 0 (lh_up (lh_up h 30 4 ((-1))) 35 ((nI n).toNatClampNeg) (((h 35 ((nI n) + 1).toNatClampNeg) + 9)))) 35 ((nI n).toNatClampNeg) (((gX1_place (W - n) n 0 (lh_up (lh_up h 30 4 ((-1))) 35 ((nI n).toNatClampNeg) (((h 35 ((nI n) + 1).toNatClampNeg) + 9)))) 30 4))))
set_option maxHeartbeats 4000000 in
set_option maxRecDepth 100000 in
theorem lp_X1_find {l : Launch} {D : va_G} {ad : Nat → Nat} {bs : Nat} {cI cZ : ClassId} {t9 : Nat} {k : Bool} {p : Program} {e : Env} {s : State} {m : MethodId} {args : Array Value} {below : List Frame} {meth : Method} {c : Code} {W : Nat} {h2 : lh_HS} (B : lh_BK p (lh_rm 9) s m args meth c D ad bs cI cZ t9 k "LightHours$Hanging" cX1_find 3 none) {h0 : lh_HS} (I0 : lh_I h0) (hW : W = lh_N h0 6) :
    ∀ (n : Nat) (h : lh_HS), n ≤ W → h2 = LX1_find_h W n h → lh_fr h0 h → lh_AJ p l e (lh_rm 9) s m args below meth c D ad bs cI cZ k 3 (MQ below (lh_Qv D ad bs cI cZ k h2) args s 0 0 (lh_A bs)) 39 [(0, .ref (ad 30)), (1, .int (nI W)), (2, .int (nI n - 1))] [] h := by
  have hM := I0.1.2.2.2.2.2
  intro n
  induction n with
  | zero =>
    intro h hn hh hv
    refine la_iload_n (i := 2) B dX1_find_39 rfl rfl ?_
    refine la_if_lt (tgt := 87) B dX1_find_40 (by decide) (fun c40 => ?_) (fun c40 => ?_)
    · refine la_aload_n (i := 0) B dX1_find_87 rfl rfl ?_
      refine la_iconst (v := 1) B dX1_find_88 (by decide) ?_
      refine la_put (i := 30) (ci := 1) (j := 2) (C := RX1) (T := TX1) (N := 10) (ty0 := tyX1) B (lh_nc_lt (by decide)) rfl rfl ix_1 tyX1_ok nmX1 rfl (by decide) wd_278 rfl rfl rfl rfl rfl (Nat.le_of_ble_eq_true rfl) dX1_find_89 ?_
      exact la_return B rfl (by rw [hh]; simp only [LX1_find_h]) dX1_find_92
    · exact absurd (show nI 0 - 1 < 0 from by decide) c40
  | succ n ih =>
    intro h hn hh hv
    have hb : vp_in (nI n) 6 := vp_in_nI (by omega) (by omega)
    have hb1 : vp_in (nI n + 1) 6 := by rw [nI_1]; exact vp_in_nI (by omega) (by omega)
    refine la_sub (lv2 := [(0, .ref (ad 30)), (1, .int (nI W)), (2, .int (nI n))]) ⟨rfl, rfl, congrArg (fun z => some (Value.int z)) (nI_pred n), trivial⟩ (by simp [Value.category]) ?_
    refine la_iload_n (i := 2) B dX1_find_39 rfl rfl ?_
    refine la_if_lt (tgt := 87) B dX1_find_40 (by decide) (fun c40 => ?_) (fun c40 => ?_)
    · exact absurd c40 (nI_pos (by omega))
    · refine la_aload_n (i := 0) B dX1_find_43 rfl rfl ?_
      refine la_iconst (v := -1) B dX1_find_44 (by decide) ?_
      refine la_put (i := 30) (ci := 1) (j := 4) (C := RX1) (T := TX1) (N := 10) (ty0 := tyX1) B (lh_nc_lt (by decide)) rfl rfl ix_1 tyX1_ok nmX1 rfl (by decide) wd_281 rfl rfl rfl rfl rfl (Nat.le_of_ble_eq_true rfl) dX1_find_45 ?_
      refine la_aload_n (i := 0) B dX1_find_48 rfl rfl ?_
      refine la_get (i := 30) (ci := 1) (j := 8) (C := RX1) (T := TX1) (N := 10) B (lh_nc_lt (by decide)) rfl ix_1 rfl (by decide) wd_286 rfl rfl dX1_find_49 ?_
      refine la_iload_n (i := 2) B dX1_find_52 rfl rfl ?_
      refine la_aload_n (i := 0) B dX1_find_53 rfl rfl ?_
      refine la_get (i := 30) (ci := 1) (j := 8) (C := RX1) (T := TX1) (N := 10) B (lh_nc_lt (by decide)) rfl ix_1 rfl (by decide) wd_286 rfl rfl dX1_find_54 ?_
      refine la_iload_n (i := 2) B dX1_find_57 rfl rfl ?_
      refine la_iconst (v := 1) B dX1_find_58 (by decide) ?_
      refine la_iadd B dX1_find_59 ?_
      refine la_iald (i := 35) (v := h 35 ((nI n) + 1).toNatClampNeg) B (lh_nc_lt (by decide)) rfl hb1 rfl dX1_find_60 ?_
      refine la_bipush (v := 9) B dX1_find_61 (by decide) ?_
      refine la_iadd B dX1_find_63 ?_
      refine la_iast (i := 35) (j := (nI n).toNatClampNeg) B (lh_nc_lt (by decide)) rfl rfl hb rfl dX1_find_64 ?_
      refine la_aload_n (i := 0) B dX1_find_65 rfl rfl ?_
      refine la_iload_n (i := 2) B dX1_find_66 rfl rfl ?_
      refine la_iconst (v := 0) B dX1_find_67 (by decide) ?_
      refine la_callSv B (ct_X1_place I0 (W - n) n 0 (lh_up (lh_up h 30 4 ((-1))) 35 ((nI n).toNatClampNeg) (((h 35 ((nI n) + 1).toNatClampNeg) + 9))) (by omega) ((hv.up (i := 30) (by decide)).up (i := 35) (by decide))) lk_X1_60 (by constructor <;> (simp only [lh_rm]; omega)) rfl (by simp [Value.category]) dX1_find_68 ?_
      refine la_aload_n (i := 0) B dX1_find_71 rfl rfl ?_
      refine la_get (i := 30) (ci := 1) (j := 8) (C := RX1) (T := TX1) (N := 10) B (lh_nc_lt (by decide)) rfl ix_1 rfl (by decide) wd_286 rfl rfl dX1_find_72 ?_
      refine la_iload_n (i := 2) B dX1_find_75 rfl rfl ?_
      refine la_aload_n (i := 0) B dX1_find_76 rfl rfl ?_
      refine la_get (i := 30) (ci := 1) (j := 4) (v := .int ((gX1_place (W - n) n 0 (lh_up (lh_up h 30 4 ((-1))) 35 ((nI n).toNatClampNeg) (((h 35 ((nI n) + 1).toNatClampNeg) + 9)))) 30 4)) (C := RX1) (T := TX1) (N := 10) B (lh_nc_lt (by decide)) rfl ix_1 rfl (by decide) wd_281 rfl rfl dX1_find_77 ?_
      refine la_iast (i := 35) (j := (nI n).toNatClampNeg) B (lh_nc_lt (by decide)) rfl rfl hb rfl dX1_find_80 ?_
      refine la_iincm B dX1_find_81 rfl (by decide) ?_
      refine la_goto (tgt := 39) B dX1_find_84 (by decide) ?_
      refine la_sub (lv2 := [(0, .ref (ad 30)), (1, .int (nI W)), (2, .int (nI n - 1))]) ⟨rfl, rfl, congrArg (fun z => some (Value.int z)) (show nI n + (-1) = nI n - 1 from (Int32.sub_eq_add_neg _ _).symm), trivial⟩ (by simp [Value.category]) ?_
      exact ih _ (by omega) (by rw [hh]; simp only [LX1_find_h]) ((fr_place _ _ _ _ ((hv.up (i := 30) (by decide)).up (i := 35) (by decide))).up (i := 35) (by decide))
theorem fr_prep2 {h0 : lh_HS} : ∀ (n i : Nat) (h : lh_HS), lh_fr h0 h → lh_fr h0 (LX1_prep2_h n i h) := by
  intro n
  induction n with
  | zero => intro i h f; exact f
  | succ n ih =>
    intro i h f
    simp only [LX1_prep2_h]
    exact ih _ _ (((f.up (i := 32) (by decide)).up (i := 34) (by decide)).up (i := 33) (by decide))
theorem fr_prep1 {h0 : lh_HS} : ∀ (n i : Nat) (h : lh_HS), lh_fr h0 h → lh_fr h0 (LX1_prep1_h n i h) := by
  intro n
  induction n with
  | zero => intro i h f; exact fr_prep2 _ _ _ f
  | succ n ih =>
    intro i h f
    simp only [LX1_prep1_h]
    exact ih _ _ ((lh_openfr f _).up (i := 36) (by decide))
theorem fr_prepare {h0 h : lh_HS} (f : lh_fr h0 h) : lh_fr h0 (gX1_prepare h) := fr_prep1 _ _ _ f
def gX1_find (h : lh_HS)  : lh_HS := (if (h 30 2) = 0 then (LX1_find_h (lh_N h 6) (lh_N h 6) (lh_up (lh_up (gX1_prepare h ) 30 4 0) 35 (((gX1_prepare h ) 6 0).toNatClampNeg) 0)) else h)
set_option maxHeartbeats 4000000 in
set_option maxRecDepth 100000 in
theorem ct_X1_find {l : Launch} {D : va_G} {ad : Nat → Nat} {bs : Nat} {cI cZ : ClassId} {t9 : Nat} {k : Bool} (h : lh_HS)  (I : lh_I h) : lh_CTv l D ad bs cI cZ t9 k yX1_find cX1_find 3 9 [.ref (ad 30)] h (gX1_find h ) := by
  refine lh_ofv (lv := [(0, .ref (ad 30))]) (by decide) (Nat.le_of_ble_eq_true rfl) rfl (by simp [Value.category]) ⟨rfl, trivial⟩ ?_
  intro p e s m args below meth c B
  have B : lh_BK p (lh_rm 9) s m args meth c D ad bs cI cZ t9 k "LightHours$Hanging" cX1_find 3 none := B
  have hM := I.1.2.2.2.2.2
  have hb0 : vp_in (gX1_prepare h 6 0) 6 := by rw [fr_prepare (lh_fr.rf h) 6 (by decide) (by decide), I.1.2.2.2.2.1]; exact vp_in_nI (by omega) (by omega)
  refine la_aload_n (i := 0) B dX1_find_0 rfl rfl ?_
  refine la_get (i := 30) (ci := 1) (j := 2) (v := .int (h 30 2)) (C := RX1) (T := TX1) (N := 10) B (lh_nc_lt (by decide)) rfl ix_1 rfl (by decide) wd_278 rfl rfl dX1_find_1 ?_
  refine la_if_eq (tgt := 8) B dX1_find_4 (by decide) (fun c4 => ?_) (fun c4 => ?_)
  · refine la_aload_n (i := 0) B dX1_find_8 rfl rfl ?_
    refine la_callVv (i := 30) B (ct_X1_prepare h  I) lk_X1_46 (by decide) (lh_nc_lt (by decide)) rfl rfl rfl (by simp [Value.category]) dX1_find_9 ?_
    refine la_aload_n (i := 0) B dX1_find_12 rfl rfl ?_
    refine la_get (i := 30) (ci := 1) (j := 0) (C := RX1) (T := TX1) (N := 10) B (lh_nc_lt (by decide)) rfl ix_1 rfl (by decide) wd_276 rfl rfl dX1_find_13 ?_
    refine la_get (i := 1) (ci := 2) (j := 4) (C := RX2) (T := TX2) (N := 5) B (lh_nc_lt (by decide)) rfl ix_2 rfl (by decide) wd_228 rfl rfl dX1_find_16 ?_
    refine la_get (i := 6) (ci := 7) (j := 0) (v := .int ((gX1_prepare h ) 6 0)) (C := RX7) (T := TX7) (N := 4) B (lh_nc_lt (by decide)) rfl ix_7 rfl (by decide) wd_194 rfl rfl dX1_find_19 ?_
    refine la_istore_n (i := 1) B dX1_find_22 rfl (by decide) ?_
    refine la_aload_n (i := 0) B dX1_find_23 rfl rfl ?_
    refine la_iconst (v := 0) B dX1_find_24 (by decide) ?_
    refine la_put (i := 30) (ci := 1) (j := 4) (C := RX1) (T := TX1) (N := 10) (ty0 := tyX1) B (lh_nc_lt (by decide)) rfl rfl ix_1 tyX1_ok nmX1 rfl (by decide) wd_281 rfl rfl rfl rfl rfl (Nat.le_of_ble_eq_true rfl) dX1_find_25 ?_
    refine la_aload_n (i := 0) B dX1_find_28 rfl rfl ?_
    refine la_get (i := 30) (ci := 1) (j := 8) (C := RX1) (T := TX1) (N := 10) B (lh_nc_lt (by decide)) rfl ix_1 rfl (by decide) wd_286 rfl rfl dX1_find_29 ?_
    refine la_iload_n (i := 1) B dX1_find_32 rfl rfl ?_
    refine la_iconst (v := 0) B dX1_find_33 (by decide) ?_
    refine la_iast (i := 35) (j := ((gX1_prepare h ) 6 0).toNatClampNeg) B (lh_nc_lt (by decide)) rfl rfl hb0 rfl dX1_find_34 ?_
    refine la_iload_n (i := 1) B dX1_find_35 rfl rfl ?_
    refine la_iconst (v := 1) B dX1_find_36 (by decide) ?_
    refine la_isub B dX1_find_37 ?_
    refine la_istore_n (i := 2) B dX1_find_38 rfl (by decide) ?_
    have hw6 : gX1_prepare h 6 0 = nI (lh_N h 6) := by rw [fr_prepare (lh_fr.rf h) 6 (by decide) (by decide)]; exact I.1.2.2.2.2.1
    refine la_sub (lv2 := [(0, .ref (ad 30)), (1, .int (nI (lh_N h 6))), (2, .int (nI (lh_N h 6) - 1))]) ⟨rfl, congrArg (fun z => some (Value.int z)) hw6, congrArg (fun z => some (Value.int (z - 1))) hw6, trivial⟩ (by simp [Value.category]) ?_
    exact lp_X1_find B I rfl _ _ (Nat.le_refl _) (by simp only [gX1_find, if_pos c4]) (((fr_prepare (lh_fr.rf h)).up (i := 30) (by decide)).up (i := 35) (by decide))
  · exact la_return B rfl (by simp only [gX1_find, if_neg c4]) dX1_find_7

theorem fr_Lfind {h0 : lh_HS} (W : Nat) : ∀ (n : Nat) (h : lh_HS), lh_fr h0 h → lh_fr h0 (LX1_find_h W n h) := by
  intro n
  induction n with
  | zero => intro h f; exact f.up (i := 30) (by decide)
  | succ n ih =>
    intro h f
    simp only [LX1_find_h]
    exact ih _ ((fr_place _ _ _ _ ((f.up (i := 30) (by decide)).up (i := 35) (by decide))).up (i := 35) (by decide))
theorem fr_find {h0 h : lh_HS} (f : lh_fr h0 h) : lh_fr h0 (gX1_find h) := by
  unfold gX1_find
  split
  · exact fr_Lfind _ _ _ (((fr_prepare f).up (i := 30) (by decide)).up (i := 35) (by decide))
  · exact f