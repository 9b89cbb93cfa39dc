def fX9_valueOf (h : lh_HS) (wl : Int32) : Int32 := (if (h 47 wl.toNatClampNeg) = (h 38 1) then 0 else h 41 ((7 * (h 47 wl.toNatClampNeg)) + 2).toNatClampNeg)
set_option maxHeartbeats 4000000 in
set_option maxRecDepth 100000 in
theorem ct_X9_valueOf {l : Launch} {D : va_G} {ad : Nat → Nat} {bs : Nat} {cI cZ : ClassId} {t9 : Nat} {k : Bool} (h : lh_HS) (wl : Int32) (hw6 : vp_in wl 6) (hc : ¬ h 47 wl.toNatClampNeg = h 38 1 → lh_ix (h 47 wl.toNatClampNeg) 8) : lh_CTi l D ad bs cI cZ t9 k yX9_valueOf cX9_valueOf 2 (some .int) 0 [.ref (ad 37), .int wl] h (fX9_valueOf h wl) h := by
  refine lh_ofi (lv := [(0, .ref (ad 37)), (1, .int wl)]) (by decide) (Nat.le_of_ble_eq_true rfl) rfl (by simp [Value.category]) ⟨rfl, rfl, trivial⟩ ?_
  intro p e s m args below meth c B
  have B : lh_BK p (lh_rm 0) s m args meth c D ad bs cI cZ t9 k "LightHoursModel" cX9_valueOf 2 (some .int) := B
  refine la_aload_n (i := 0) B dX9_valueOf_0 rfl rfl ?_
  refine la_get (i := 37) (ci := 9) (j := 13) (C := RX9) (T := TX9) (N := 18) B (lh_nc_lt (by decide)) rfl ix_9 rfl (by decide) wd_686 rfl rfl dX9_valueOf_1 ?_
  refine la_iload_n (i := 1) B dX9_valueOf_4 rfl rfl ?_
  refine la_iald (i := 47) (v := h 47 wl.toNatClampNeg) B (lh_nc_lt (by decide)) rfl hw6 rfl dX9_valueOf_5 ?_
  refine la_aload_n (i := 0) B dX9_valueOf_6 rfl rfl ?_
  refine la_get (i := 37) (ci := 9) (j := 0) (C := RX9) (T := TX9) (N := 18) B (lh_nc_lt (by decide)) rfl ix_9 rfl (by decide) wd_673 rfl rfl dX9_valueOf_7 ?_
  refine la_iconst (v := 1) B dX9_valueOf_10 (by decide) ?_
  refine la_iald (i := 38) (v := h 38 1) B (lh_nc_lt (by decide)) rfl (by unfold vp_in; decide) rfl dX9_valueOf_11 ?_
  refine la_icmp_ne (tgt := 19) B dX9_valueOf_12 (by decide) (fun c12 => ?_) (fun c12 => ?_)
  · refine la_aload_n (i := 0) B dX9_valueOf_19 rfl rfl ?_
    refine la_get (i := 37) (ci := 9) (j := 3) (C := RX9) (T := TX9) (N := 18) B (lh_nc_lt (by decide)) rfl ix_9 rfl (by decide) wd_676 rfl rfl dX9_valueOf_20 ?_
    refine la_bipush (v := 7) B dX9_valueOf_23 (by decide) ?_
    refine la_aload_n (i := 0) B dX9_valueOf_25 rfl rfl ?_
    refine la_get (i := 37) (ci := 9) (j := 13) (C := RX9) (T := TX9) (N := 18) B (lh_nc_lt (by decide)) rfl ix_9 rfl (by decide) wd_686 rfl rfl dX9_valueOf_26 ?_
    refine la_iload_n (i := 1) B dX9_valueOf_29 rfl rfl ?_
    refine la_iald (i := 47) (v := h 47 wl.toNatClampNeg) B (lh_nc_lt (by decide)) rfl hw6 rfl dX9_valueOf_30 ?_
    refine la_imul B dX9_valueOf_31 ?_
    refine la_iconst (v := 2) B dX9_valueOf_32 (by decide) ?_
    refine la_iadd B dX9_valueOf_33 ?_
    refine la_iald (i := 41) (v := h 41 ((7 * (h 47 wl.toNatClampNeg)) + 2).toNatClampNeg) B (lh_nc_lt (by decide)) rfl (lh_lin 7 2 (hc c12) (by decide) (by decide)) rfl dX9_valueOf_34 ?_
    exact la_ireturn B rfl (by simp only [fX9_valueOf, if_neg c12]) rfl dX9_valueOf_35
  · refine la_iconst (v := 0) B dX9_valueOf_15 (by decide) ?_
    refine la_goto (tgt := 35) B dX9_valueOf_16 (by decide) ?_
    exact la_ireturn B rfl (by simp only [fX9_valueOf, if_pos c12]) rfl dX9_valueOf_35

def LX9_fits (h : lh_HS) (wl : Int32) (sv : Int32) (yr : Int32) (si : Int32) : Nat → Nat → Int32 → Int32 → Int32
  | 0, i, gd, li => (if gd = 0 then 0 else (if (h 49 sv.toNatClampNeg) < li then 0 else 1))
  | n + 1, i, gd, li => (if gd = 0 then 0 else (if (h 47 (nI i).toNatClampNeg) = sv then (if (fX9_away h (h 44 ((3 * (nI i)) + 1).toNatClampNeg) yr) ≤ (h 41 ((7 * sv) + 3).toNatClampNeg) then (LX9_fits h wl sv yr si n (i + 1) 0 (li + (fX9_lightOf h (h 44 (3 * (nI i)).toNatClampNeg) (h 44 ((3 * (nI i)) + 1).toNatClampNeg) 1))) else (if (h 47 (nI i).toNatClampNeg) = si then (if (h 44 ((3 * (nI i)) + 1).toNatClampNeg) = yr then (LX9_fits h wl sv yr si n (i + 1) 0 (li + (fX9_lightOf h (h 44 (3 * (nI i)).toNatClampNeg) (h 44 ((3 * (nI i)) + 1).toNatClampNeg) 1))) else (LX9_fits h wl sv yr si n (i + 1) 1 (li + (fX9_lightOf h (h 44 (3 * (nI i)).toNatClampNeg) (h 44 ((3 * (nI i)) + 1).toNatClampNeg) 1)))) else (LX9_fits h wl sv yr si n (i + 1) 1 (li + (fX9_lightOf h (h 44 (3 * (nI i)).toNatClampNeg) (h 44 ((3 * (nI i)) + 1).toNatClampNeg) 1))))) else (if (h 47 (nI i).toNatClampNeg) = si then (if (h 44 ((3 * (nI i)) + 1).toNatClampNeg) = yr then (LX9_fits h wl sv yr si n (i + 1) 0 li) else (LX9_fits h wl sv yr si n (i + 1) 1 li)) else (LX9_fits h wl sv yr si n (i + 1) 1 li))))
set_option maxHeartbeats 4000000 in
set_option maxRecDepth 100000 in
theorem lp_X9_fits {l : Launch} {D : va_G} {ad : Nat → Nat} {bs : Nat} {cI cZ : ClassId} {t9 : Nat} {k : Bool} {p : Program} {e : Env} {s : State} {m : MethodId} {args : Array Value} {below : List Frame} {meth : Method} {c : Code} (h : lh_HS) (wl : Int32) (sv : Int32) (yr : Int32) (si : Int32) {r : Int32} (B : lh_BK p (lh_rm 2) s m args meth c D ad bs cI cZ t9 k "LightHoursModel" cX9_fits 9 (some .boolean)) {N : Nat} (J : lh_J h) (hN0 : wl = nI N) (hM : N ≤ lh_m h 4) (hM5 : N ≤ 5) (hs : lh_ix sv 8) :
    ∀ (n i : Nat) (gd : Int32) (li : Int32), i + n = N → r = LX9_fits h wl sv yr si n i gd li → lh_AJ p l e (lh_rm 2) s m args below meth c D ad bs cI cZ k 9 (MQ below (lh_Qi D ad bs cI cZ k r h) args s 0 0 (lh_A bs)) 127 [(0, .ref (ad 37)), (1, .int wl), (2, .int sv), (3, .int yr), (4, .int gd), (5, .int si), (6, .int li), (7, .int (nI i))] [] h := by
  intro n
  induction n with
  | zero =>
    intro i gd li hi hr
    have hexit : wl ≤ nI i := by rw [hN0]; exact nI_le (by omega) (by omega)
    refine la_iload B dX9_fits_127 rfl ?_
    refine la_iload_n (i := 1) B dX9_fits_129 rfl rfl ?_
    refine la_icmp_ge (tgt := 246) B dX9_fits_130 (by decide) (fun c130 => ?_) (fun c130 => ?_)
    · refine la_iload B dX9_fits_246 rfl ?_
      refine la_if_eq (tgt := 266) B dX9_fits_248 (by decide) (fun c248 => ?_) (fun c248 => ?_)
      · refine la_iconst (v := 0) B dX9_fits_266 (by decide) ?_
        exact la_zreturn B rfl (by rw [hr]; simp only [LX9_fits, if_pos c248]) rfl rfl dX9_fits_267
      · refine la_iload B dX9_fits_251 rfl ?_
        refine la_aload_n (i := 0) B dX9_fits_253 rfl rfl ?_
        refine la_get (i := 37) (ci := 9) (j := 15) (C := RX9) (T := TX9) (N := 18) B (lh_nc_lt (by decide)) rfl ix_9 rfl (by decide) wd_688 rfl rfl dX9_fits_254 ?_
        refine la_iload_n (i := 2) B dX9_fits_257 rfl rfl ?_
        refine la_iald (i := 49) (v := h 49 sv.toNatClampNeg) B (lh_nc_lt (by decide)) rfl (hs.vp (by decide) (by decide)) rfl dX9_fits_258 ?_
        refine la_icmp_gt (tgt := 266) B dX9_fits_259 (by decide) (fun c259 => ?_) (fun c259 => ?_)
        · refine la_iconst (v := 0) B dX9_fits_266 (by decide) ?_
          exact la_zreturn B rfl (by rw [hr]; simp only [LX9_fits, if_neg c248, if_pos c259]) rfl rfl dX9_fits_267
        · refine la_iconst (v := 1) B dX9_fits_262 (by decide) ?_
          refine la_goto (tgt := 267) B dX9_fits_263 (by decide) ?_
          exact la_zreturn B rfl (by rw [hr]; simp only [LX9_fits, if_neg c248, if_neg c259]) rfl rfl dX9_fits_267
    · exact absurd hexit c130
  | succ n ih =>
    intro i gd li hi hr
    have hN : wl = nI N := hN0
    have hbi : lh_ix (nI i) 5 := lh_ix_nI (by omega)
    have hb6 : vp_in (nI i) 6 := vp_in_nI (by omega) (by omega)
    have hcont : ¬ wl ≤ nI i := by rw [hN]; exact nI_ge (by omega) (by omega)
    obtain ⟨g1, g2⟩ := J.2.2.2.1 i (by omega)
    have e0 : (3 * nI i).toNatClampNeg = 3 * i := lh_at0 (k := 3) (by omega)
    have e1 : ((3 * nI i) + 1).toNatClampNeg = 3 * i + 1 := lh_at (k := 3) (c := 1) (by omega)
    have g1 : lh_ix (h 44 (3 * nI i).toNatClampNeg) 4 := by rw [e0]; exact g1
    have g2 : lh_ix (h 44 ((3 * nI i) + 1).toNatClampNeg) 10 := by rw [e1]; exact g2
    refine la_iload B dX9_fits_127 rfl ?_
    refine la_iload_n (i := 1) B dX9_fits_129 rfl rfl ?_
    refine la_icmp_ge (tgt := 246) B dX9_fits_130 (by decide) (fun c130 => ?_) (fun c130 => ?_)
    · exact absurd c130 hcont
    · refine la_iload B dX9_fits_133 rfl ?_
      refine la_if_eq (tgt := 246) B dX9_fits_135 (by decide) (fun c135 => ?_) (fun c135 => ?_)
      · refine la_iload B dX9_fits_246 rfl ?_
        refine la_if_eq (tgt := 266) B dX9_fits_248 (by decide) (fun c248 => ?_) (fun c248 => ?_)
        · refine la_iconst (v := 0) B dX9_fits_266 (by decide) ?_
          exact la_zreturn B rfl (by rw [hr]; simp only [LX9_fits, if_pos c135]) rfl rfl dX9_fits_267
        · exact absurd c135 c248
      · refine la_aload_n (i := 0) B dX9_fits_138 rfl rfl ?_
        refine la_get (i := 37) (ci := 9) (j := 6) (C := RX9) (T := TX9) (N := 18) B (lh_nc_lt (by decide)) rfl ix_9 rfl (by decide) wd_679 rfl rfl dX9_fits_139 ?_
        refine la_iconst (v := 3) B dX9_fits_142 (by decide) ?_
        refine la_iload B dX9_fits_143 rfl ?_
        refine la_imul B dX9_fits_145 ?_
        refine la_iconst (v := 1) B dX9_fits_146 (by decide) ?_
        refine la_iadd B dX9_fits_147 ?_
        refine la_iald (i := 44) (v := h 44 ((3 * (nI i)) + 1).toNatClampNeg) B (lh_nc_lt (by decide)) rfl (lh_lin 3 1 hbi (by decide) (by decide)) rfl dX9_fits_148 ?_
        refine la_istore B dX9_fits_149 (by decide) ?_
        refine la_aload_n (i := 0) B dX9_fits_151 rfl rfl ?_
        refine la_get (i := 37) (ci := 9) (j := 13) (C := RX9) (T := TX9) (N := 18) B (lh_nc_lt (by decide)) rfl ix_9 rfl (by decide) wd_686 rfl rfl dX9_fits_152 ?_
        refine la_iload B dX9_fits_155 rfl ?_
        refine la_iald (i := 47) (v := h 47 (nI i).toNatClampNeg) B (lh_nc_lt (by decide)) rfl hb6 rfl dX9_fits_157 ?_
        refine la_iload_n (i := 2) B dX9_fits_158 rfl rfl ?_
        refine la_icmp_ne (tgt := 210) B dX9_fits_159 (by decide) (fun c159 => ?_) (fun c159 => ?_)
        · refine la_iload B dX9_fits_210 rfl ?_
          refine la_if_eq (tgt := 237) B dX9_fits_212 (by decide) (fun c212 => ?_) (fun c212 => ?_)
          · exact absurd c212 c135
          · refine la_aload_n (i := 0) B dX9_fits_215 rfl rfl ?_
            refine la_get (i := 37) (ci := 9) (j := 13) (C := RX9) (T := TX9) (N := 18) B (lh_nc_lt (by decide)) rfl ix_9 rfl (by decide) wd_686 rfl rfl dX9_fits_216 ?_
            refine la_iload B dX9_fits_219 rfl ?_
            refine la_iald (i := 47) (v := h 47 (nI i).toNatClampNeg) B (lh_nc_lt (by decide)) rfl hb6 rfl dX9_fits_221 ?_
            refine la_iload B dX9_fits_222 rfl ?_
            refine la_icmp_ne (tgt := 233) B dX9_fits_224 (by decide) (fun c224 => ?_) (fun c224 => ?_)
            · refine la_iconst (v := 1) B dX9_fits_233 (by decide) ?_
              refine la_goto (tgt := 238) B dX9_fits_234 (by decide) ?_
              refine la_istore B dX9_fits_238 (by decide) ?_
              refine la_iincp B dX9_fits_240 rfl (by decide) ?_
              refine la_goto (tgt := 127) B dX9_fits_243 (by decide) ?_
              refine la_sub (lv2 := [(0, .ref (ad 37)), (1, .int wl), (2, .int sv), (3, .int yr), (4, .int 1), (5, .int si), (6, .int li), (7, .int (nI (i + 1)))]) ⟨rfl, rfl, rfl, rfl, rfl, rfl, rfl, (congrArg (fun z => some (Value.int z)) (nI_1 i)), trivial⟩ (by simp [Value.category]) ?_
              exact ih (i + 1) 1 li (by omega) (by rw [hr]; simp only [LX9_fits, if_neg c135, if_neg c159, if_neg c224])
            · refine la_iload B dX9_fits_227 rfl ?_
              refine la_iload_n (i := 3) B dX9_fits_229 rfl rfl ?_
              refine la_icmp_eq (tgt := 237) B dX9_fits_230 (by decide) (fun c230 => ?_) (fun c230 => ?_)
              · refine la_iconst (v := 0) B dX9_fits_237 (by decide) ?_
                refine la_istore B dX9_fits_238 (by decide) ?_
                refine la_iincp B dX9_fits_240 rfl (by decide) ?_
                refine la_goto (tgt := 127) B dX9_fits_243 (by decide) ?_
                refine la_sub (lv2 := [(0, .ref (ad 37)), (1, .int wl), (2, .int sv), (3, .int yr), (4, .int 0), (5, .int si), (6, .int li), (7, .int (nI (i + 1)))]) ⟨rfl, rfl, rfl, rfl, rfl, rfl, rfl, (congrArg (fun z => some (Value.int z)) (nI_1 i)), trivial⟩ (by simp [Value.category]) ?_
                exact ih (i + 1) 0 li (by omega) (by rw [hr]; simp only [LX9_fits, if_neg c135, if_neg c159, if_pos c224, if_pos c230])
              · refine la_iconst (v := 1) B dX9_fits_233 (by decide) ?_
                refine la_goto (tgt := 238) B dX9_fits_234 (by decide) ?_
                refine la_istore B dX9_fits_238 (by decide) ?_
                refine la_iincp B dX9_fits_240 rfl (by decide) ?_
                refine la_goto (tgt := 127) B dX9_fits_243 (by decide) ?_
                refine la_sub (lv2 := [(0, .ref (ad 37)), (1, .int wl), (2, .int sv), (3, .int yr), (4, .int 1), (5, .int si), (6, .int li), (7, .int (nI (i + 1)))]) ⟨rfl, rfl, rfl, rfl, rfl, rfl, rfl, (congrArg (fun z => some (Value.int z)) (nI_1 i)), trivial⟩ (by simp [Value.category]) ?_
                exact ih (i + 1) 1 li (by omega) (by rw [hr]; simp only [LX9_fits, if_neg c135, if_neg c159, if_pos c224, if_neg c230])
        · refine la_iload B dX9_fits_162 rfl ?_
          refine la_iload_n (i := 3) B dX9_fits_164 rfl rfl ?_
          refine la_callSi B (ct_X9_away h (h 44 ((3 * (nI i)) + 1).toNatClampNeg) yr) lk_X9_115 (by decide) rfl (by simp [Value.category]) dX9_fits_165 ?_
          refine la_aload_n (i := 0) B dX9_fits_168 rfl rfl ?_
          refine la_get (i := 37) (ci := 9) (j := 3) (C := RX9) (T := TX9) (N := 18) B (lh_nc_lt (by decide)) rfl ix_9 rfl (by decide) wd_676 rfl rfl dX9_fits_169 ?_
          refine la_bipush (v := 7) B dX9_fits_172 (by decide) ?_
          refine la_iload_n (i := 2) B dX9_fits_174 rfl rfl ?_
          refine la_imul B dX9_fits_175 ?_
          refine la_iconst (v := 3) B dX9_fits_176 (by decide) ?_
          refine la_iadd B dX9_fits_177 ?_
          refine la_iald (i := 41) (v := h 41 ((7 * sv) + 3).toNatClampNeg) B (lh_nc_lt (by decide)) rfl (lh_lin 7 3 hs (by decide) (by decide)) rfl dX9_fits_178 ?_
          refine la_icmp_le (tgt := 186) B dX9_fits_179 (by decide) (fun c179 => ?_) (fun c179 => ?_)
          · refine la_iconst (v := 0) B dX9_fits_186 (by decide) ?_
            refine la_istore B dX9_fits_187 (by decide) ?_
            refine la_iload B dX9_fits_189 rfl ?_
            refine la_aload_n (i := 0) B dX9_fits_191 rfl rfl ?_
            refine la_aload_n (i := 0) B dX9_fits_192 rfl rfl ?_
            refine la_get (i := 37) (ci := 9) (j := 6) (C := RX9) (T := TX9) (N := 18) B (lh_nc_lt (by decide)) rfl ix_9 rfl (by decide) wd_679 rfl rfl dX9_fits_193 ?_
            refine la_iconst (v := 3) B dX9_fits_196 (by decide) ?_
            refine la_iload B dX9_fits_197 rfl ?_
            refine la_imul B dX9_fits_199 ?_
            refine la_iald (i := 44) (v := h 44 (3 * (nI i)).toNatClampNeg) B (lh_nc_lt (by decide)) rfl (lh_lin0 3 hbi (by decide) (by decide)) rfl dX9_fits_200 ?_
            refine la_iload B dX9_fits_201 rfl ?_
            refine la_iconst (v := 1) B dX9_fits_203 (by decide) ?_
            refine la_callVi (i := 37) B (ct_X9_lightOf h (h 44 (3 * (nI i)).toNatClampNeg) (h 44 ((3 * (nI i)) + 1).toNatClampNeg) 1 g1 g2) lk_X9_63 (by decide) (lh_nc_lt (by decide)) rfl rfl rfl (by simp [Value.category]) dX9_fits_204 ?_
            refine la_iadd B dX9_fits_207 ?_
            refine la_istore B dX9_fits_208 (by decide) ?_
            refine la_iload B dX9_fits_210 rfl ?_
            refine la_if_eq (tgt := 237) B dX9_fits_212 (by decide) (fun c212 => ?_) (fun c212 => ?_)
            · refine la_iconst (v := 0) B dX9_fits_237 (by decide) ?_
              refine la_istore B dX9_fits_238 (by decide) ?_
              refine la_iincp B dX9_fits_240 rfl (by decide) ?_
              refine la_goto (tgt := 127) B dX9_fits_243 (by decide) ?_
              refine la_sub (lv2 := [(0, .ref (ad 37)), (1, .int wl), (2, .int sv), (3, .int yr), (4, .int 0), (5, .int si), (6, .int ((li + (fX9_lightOf h (h 44 (3 * (nI i)).toNatClampNeg) (h 44 ((3 * (nI i)) + 1).toNatClampNeg) 1)))), (7, .int (nI (i + 1)))]) ⟨rfl, rfl, rfl, rfl, rfl, rfl, rfl, (congrArg (fun z => some (Value.int z)) (nI_1 i)), trivial⟩ (by simp [Value.category]) ?_
              exact ih (i + 1) 0 (li + (fX9_lightOf h (h 44 (3 * (nI i)).toNatClampNeg) (h 44 ((3 * (nI i)) + 1).toNatClampNeg) 1)) (by omega) (by rw [hr]; simp only [LX9_fits, if_neg c135, if_pos c159, if_pos c179])
            · exact absurd c212 (by decide)
          · refine la_iconst (v := 1) B dX9_fits_182 (by decide) ?_
            refine la_goto (tgt := 187) B dX9_fits_183 (by decide) ?_
            refine la_istore B dX9_fits_187 (by decide) ?_
            refine la_iload B dX9_fits_189 rfl ?_
            refine la_aload_n (i := 0) B dX9_fits_191 rfl rfl ?_
            refine la_aload_n (i := 0) B dX9_fits_192 rfl rfl ?_
            refine la_get (i := 37) (ci := 9) (j := 6) (C := RX9) (T := TX9) (N := 18) B (lh_nc_lt (by decide)) rfl ix_9 rfl (by decide) wd_679 rfl rfl dX9_fits_193 ?_
            refine la_iconst (v := 3) B dX9_fits_196 (by decide) ?_
            refine la_iload B dX9_fits_197 rfl ?_
            refine la_imul B dX9_fits_199 ?_
            refine la_iald (i := 44) (v := h 44 (3 * (nI i)).toNatClampNeg) B (lh_nc_lt (by decide)) rfl (lh_lin0 3 hbi (by decide) (by decide)) rfl dX9_fits_200 ?_
            refine la_iload B dX9_fits_201 rfl ?_
            refine la_iconst (v := 1) B dX9_fits_203 (by decide) ?_
            refine la_callVi (i := 37) B (ct_X9_lightOf h (h 44 (3 * (nI i)).toNatClampNeg) (h 44 ((3 * (nI i)) + 1).toNatClampNeg) 1 g1 g2) lk_X9_63 (by decide) (lh_nc_lt (by decide)) rfl rfl rfl (by simp [Value.category]) dX9_fits_204 ?_
            refine la_iadd B dX9_fits_207 ?_
            refine la_istore B dX9_fits_208 (by decide) ?_
            refine la_iload B dX9_fits_210 rfl ?_
            refine la_if_eq (tgt := 237) B dX9_fits_212 (by decide) (fun c212 => ?_) (fun c212 => ?_)
            · exact absurd c212 (by decide)
            · refine la_aload_n (i := 0) B dX9_fits_215 rfl rfl ?_
              refine la_get (i := 37) (ci := 9) (j := 13) (C := RX9) (T := TX9) (N := 18) B (lh_nc_lt (by decide)) rfl ix_9 rfl (by decide) wd_686 rfl rfl dX9_fits_216 ?_
              refine la_iload B dX9_fits_219 rfl ?_
              refine la_iald (i := 47) (v := h 47 (nI i).toNatClampNeg) B (lh_nc_lt (by decide)) rfl hb6 rfl dX9_fits_221 ?_
              refine la_iload B dX9_fits_222 rfl ?_
              refine la_icmp_ne (tgt := 233) B dX9_fits_224 (by decide) (fun c224 => ?_) (fun c224 => ?_)
              · refine la_iconst (v := 1) B dX9_fits_233 (by decide) ?_
                refine la_goto (tgt := 238) B dX9_fits_234 (by decide) ?_
                refine la_istore B dX9_fits_238 (by decide) ?_
                refine la_iincp B dX9_fits_240 rfl (by decide) ?_
                refine la_goto (tgt := 127) B dX9_fits_243 (by decide) ?_
                refine la_sub (lv2 := [(0, .ref (ad 37)), (1, .int wl), (2, .int sv), (3, .int yr), (4, .int 1), (5, .int si), (6, .int ((li + (fX9_lightOf h (h 44 (3 * (nI i)).toNatClampNeg) (h 44 ((3 * (nI i)) + 1).toNatClampNeg) 1)))), (7, .int (nI (i + 1)))]) ⟨rfl, rfl, rfl, rfl, rfl, rfl, rfl, (congrArg (fun z => some (Value.int z)) (nI_1 i)), trivial⟩ (by simp [Value.category]) ?_
                exact ih (i + 1) 1 (li + (fX9_lightOf h (h 44 (3 * (nI i)).toNatClampNeg) (h 44 ((3 * (nI i)) + 1).toNatClampNeg) 1)) (by omega) (by rw [hr]; simp only [LX9_fits, if_neg c135, if_pos c159, if_neg c179, if_neg c224])
              · refine la_iload B dX9_fits_227 rfl ?_
                refine la_iload_n (i := 3) B dX9_fits_229 rfl rfl ?_
                refine la_icmp_eq (tgt := 237) B dX9_fits_230 (by decide) (fun c230 => ?_) (fun c230 => ?_)
                · refine la_iconst (v := 0) B dX9_fits_237 (by decide) ?_
                  refine la_istore B dX9_fits_238 (by decide) ?_
                  refine la_iincp B dX9_fits_240 rfl (by decide) ?_
                  refine la_goto (tgt := 127) B dX9_fits_243 (by decide) ?_
                  refine la_sub (lv2 := [(0, .ref (ad 37)), (1, .int wl), (2, .int sv), (3, .int yr), (4, .int 0), (5, .int si), (6, .int ((li + (fX9_lightOf h (h 44 (3 * (nI i)).toNatClampNeg) (h 44 ((3 * (nI i)) + 1).toNatClampNeg) 1)))), (7, .int (nI (i + 1)))]) ⟨rfl, rfl, rfl, rfl, rfl, rfl, rfl, (congrArg (fun z => some (Value.int z)) (nI_1 i)), trivial⟩ (by simp [Value.category]) ?_
                  exact ih (i + 1) 0 (li + (fX9_lightOf h (h 44 (3 * (nI i)).toNatClampNeg) (h 44 ((3 * (nI i)) + 1).toNatClampNeg) 1)) (by omega) (by rw [hr]; simp only [LX9_fits, if_neg c135, if_pos c159, if_neg c179, if_pos c224, if_pos c230])
                · refine la_iconst (v := 1) B dX9_fits_233 (by decide) ?_
                  refine la_goto (tgt := 238) B dX9_fits_234 (by decide) ?_
                  refine la_istore B dX9_fits_238 (by decide) ?_
                  refine la_iincp B dX9_fits_240 rfl (by decide) ?_
                  refine la_goto (tgt := 127) B dX9_fits_243 (by decide) ?_
                  refine la_sub (lv2 := [(0, .ref (ad 37)), (1, .int wl), (2, .int sv), (3, .int yr), (4, .int 1), (5, .int si), (6, .int ((li + (fX9_lightOf h (h 44 (3 * (nI i)).toNatClampNeg) (h 44 ((3 * (nI i)) + 1).toNatClampNeg) 1)))), (7, .int (nI (i + 1)))]) ⟨rfl, rfl, rfl, rfl, rfl, rfl, rfl, (congrArg (fun z => some (Value.int z)) (nI_1 i)), trivial⟩ (by simp [Value.category]) ?_
                  exact ih (i + 1) 1 (li + (fX9_lightOf h (h 44 (3 * (nI i)).toNatClampNeg) (h 44 ((3 * (nI i)) + 1).toNatClampNeg) 1)) (by omega) (by rw [hr]; simp only [LX9_fits, if_neg c135, if_pos c159, if_neg c179, if_pos c224, if_neg c230])

def fX9_fits (h : lh_HS) (wl : Int32) : Int32 := (if (h 47 wl.toNatClampNeg) = (h 38 1) then 1 else (if (((h 41 ((7 * (h 47 wl.toNatClampNeg)) + 1).toNatClampNeg) >>> ((h 44 ((3 * wl) + 2).toNatClampNeg) &&& 31)) &&& 1) = 1 then (if (fX9_rests h (h 47 wl.toNatClampNeg) (h 44 ((3 * wl) + 1).toNatClampNeg)) = 0 then (LX9_fits h wl (h 47 wl.toNatClampNeg) (h 44 ((3 * wl) + 1).toNatClampNeg) (fX9_sisterOf h (h 47 wl.toNatClampNeg)) wl.toNatClampNeg 0 0 (fX9_lightOf h (h 44 (3 * wl).toNatClampNeg) (h 44 ((3 * wl) + 1).toNatClampNeg) 1)) else (if (fX9_sisterOf h (h 47 wl.toNatClampNeg)) < 0 then (LX9_fits h wl (h 47 wl.toNatClampNeg) (h 44 ((3 * wl) + 1).toNatClampNeg) (fX9_sisterOf h (h 47 wl.toNatClampNeg)) wl.toNatClampNeg 0 1 (fX9_lightOf h (h 44 (3 * wl).toNatClampNeg) (h 44 ((3 * wl) + 1).toNatClampNeg) 1)) else (if (fX9_isShown h (fX9_sisterOf h (h 47 wl.toNatClampNeg)) (h 44 ((3 * wl) + 1).toNatClampNeg)) = 0 then (LX9_fits h wl (h 47 wl.toNatClampNeg) (h 44 ((3 * wl) + 1).toNatClampNeg) (fX9_sisterOf h (h 47 wl.toNatClampNeg)) wl.toNatClampNeg 0 1 (fX9_lightOf h (h 44 (3 * wl).toNatClampNeg) (h 44 ((3 * wl) + 1).toNatClampNeg) 1)) else (LX9_fits h wl (h 47 wl.toNatClampNeg) (h 44 ((3 * wl) + 1).toNatClampNeg) (fX9_sisterOf h (h 47 wl.toNatClampNeg)) wl.toNatClampNeg 0 0 (fX9_lightOf h (h 44 (3 * wl).toNatClampNeg) (h 44 ((3 * wl) + 1).toNatClampNeg) 1))))) else (LX9_fits h wl (h 47 wl.toNatClampNeg) (h 44 ((3 * wl) + 1).toNatClampNeg) (fX9_sisterOf h (h 47 wl.toNatClampNeg)) wl.toNatClampNeg 0 0 (fX9_lightOf h (h 44 (3 * wl).toNatClampNeg) (h 44 ((3 * wl) + 1).toNatClampNeg) 1))))
set_option maxHeartbeats 4000000 in
set_option maxRecDepth 100000 in
theorem ct_X9_fits {l : Launch} {D : va_G} {ad : Nat → Nat} {bs : Nat} {cI cZ : ClassId} {t9 : Nat} {k : Bool} (h : lh_HS) (wl : Int32) (J : lh_J h) (hwl : lh_ix wl (lh_m h 4)) (hc : ¬ h 47 wl.toNatClampNeg = h 38 1 → lh_ix (h 47 wl.toNatClampNeg) 8) : lh_CTi l D ad bs cI cZ t9 k yX9_fits cX9_fits 9 (some .boolean) 2 [.ref (ad 37), .int wl] h (fX9_fits h wl) h := by
  refine lh_ofi (lv := [(0, .ref (ad 37)), (1, .int wl)]) (by decide) (Nat.le_of_ble_eq_true rfl) rfl (by simp [Value.category]) ⟨rfl, rfl, trivial⟩ ?_
  intro p e s m args below meth c B
  have B : lh_BK p (lh_rm 2) s m args meth c D ad bs cI cZ t9 k "LightHoursModel" cX9_fits 9 (some .boolean) := B
  have hM := J.1.2.2.2.2.2
  have hw : lh_ix wl 5 := hwl.mono hM
  have hwN : wl = nI wl.toNatClampNeg := (hwl.cl (by omega)).2
  have hwM : wl.toNatClampNeg ≤ lh_m h 4 := Nat.le_of_lt (hwl.cl (by omega)).1
  have hry : lh_ix (h 44 (3 * wl).toNatClampNeg) 4 ∧ lh_ix (h 44 ((3 * wl) + 1).toNatClampNeg) 10 := by
    obtain ⟨j, hj, rfl⟩ := hwl
    have e0 : (3 * nI j).toNatClampNeg = 3 * j := lh_at0 (k := 3) (by omega)
    have e1 : ((3 * nI j) + 1).toNatClampNeg = 3 * j + 1 := lh_at (k := 3) (c := 1) (by omega)
    rw [e0, e1]
    exact J.2.2.2.1 j hj
  have hr := hry.1
  have hy := hry.2
  refine la_aload_n (i := 0) B dX9_fits_0 rfl rfl ?_
  refine la_get (i := 37) (ci := 9) (j := 13) (C := RX9) (T := TX9) (N := 18) B (lh_nc_lt (by decide)) rfl ix_9 rfl (by decide) wd_686 rfl rfl dX9_fits_1 ?_
  refine la_iload_n (i := 1) B dX9_fits_4 rfl rfl ?_
  refine la_iald (i := 47) (v := h 47 wl.toNatClampNeg) B (lh_nc_lt (by decide)) rfl (hw.vp (by decide) (by decide)) rfl dX9_fits_5 ?_
  refine la_istore_n (i := 2) B dX9_fits_6 rfl (by decide) ?_
  refine la_iload_n (i := 2) B dX9_fits_7 rfl rfl ?_
  refine la_aload_n (i := 0) B dX9_fits_8 rfl rfl ?_
  refine la_get (i := 37) (ci := 9) (j := 0) (C := RX9) (T := TX9) (N := 18) B (lh_nc_lt (by decide)) rfl ix_9 rfl (by decide) wd_673 rfl rfl dX9_fits_9 ?_
  refine la_iconst (v := 1) B dX9_fits_12 (by decide) ?_
  refine la_iald (i := 38) (v := h 38 1) B (lh_nc_lt (by decide)) rfl (by unfold vp_in; decide) rfl dX9_fits_13 ?_
  refine la_icmp_ne (tgt := 19) B dX9_fits_14 (by decide) (fun c14 => ?_) (fun c14 => ?_)
  · have hs := hc c14
    refine la_aload_n (i := 0) B dX9_fits_19 rfl rfl ?_
    refine la_get (i := 37) (ci := 9) (j := 6) (C := RX9) (T := TX9) (N := 18) B (lh_nc_lt (by decide)) rfl ix_9 rfl (by decide) wd_679 rfl rfl dX9_fits_20 ?_
    refine la_iconst (v := 3) B dX9_fits_23 (by decide) ?_
    refine la_iload_n (i := 1) B dX9_fits_24 rfl rfl ?_
    refine la_imul B dX9_fits_25 ?_
    refine la_iconst (v := 1) B dX9_fits_26 (by decide) ?_
    refine la_iadd B dX9_fits_27 ?_
    refine la_iald (i := 44) (v := h 44 ((3 * wl) + 1).toNatClampNeg) B (lh_nc_lt (by decide)) rfl (lh_lin 3 1 hw (by decide) (by decide)) rfl dX9_fits_28 ?_
    refine la_istore_n (i := 3) B dX9_fits_29 rfl (by decide) ?_
    refine la_aload_n (i := 0) B dX9_fits_30 rfl rfl ?_
    refine la_get (i := 37) (ci := 9) (j := 3) (C := RX9) (T := TX9) (N := 18) B (lh_nc_lt (by decide)) rfl ix_9 rfl (by decide) wd_676 rfl rfl dX9_fits_31 ?_
    refine la_bipush (v := 7) B dX9_fits_34 (by decide) ?_
    refine la_iload_n (i := 2) B dX9_fits_36 rfl rfl ?_
    refine la_imul B dX9_fits_37 ?_
    refine la_iconst (v := 1) B dX9_fits_38 (by decide) ?_
    refine la_iadd B dX9_fits_39 ?_
    refine la_iald (i := 41) (v := h 41 ((7 * (h 47 wl.toNatClampNeg)) + 1).toNatClampNeg) B (lh_nc_lt (by decide)) rfl (lh_lin 7 1 hs (by decide) (by decide)) rfl dX9_fits_40 ?_
    refine la_aload_n (i := 0) B dX9_fits_41 rfl rfl ?_
    refine la_get (i := 37) (ci := 9) (j := 6) (C := RX9) (T := TX9) (N := 18) B (lh_nc_lt (by decide)) rfl ix_9 rfl (by decide) wd_679 rfl rfl dX9_fits_42 ?_
    refine la_iconst (v := 3) B dX9_fits_45 (by decide) ?_
    refine la_iload_n (i := 1) B dX9_fits_46 rfl rfl ?_
    refine la_imul B dX9_fits_47 ?_
    refine la_iconst (v := 2) B dX9_fits_48 (by decide) ?_
    refine la_iadd B dX9_fits_49 ?_
    refine la_iald (i := 44) (v := h 44 ((3 * wl) + 2).toNatClampNeg) B (lh_nc_lt (by decide)) rfl (lh_lin 3 2 hw (by decide) (by decide)) rfl dX9_fits_50 ?_
    refine la_ishr B dX9_fits_51 ?_
    refine la_iconst (v := 1) B dX9_fits_52 (by decide) ?_
    refine la_iand B dX9_fits_53 ?_
    refine la_iconst (v := 1) B dX9_fits_54 (by decide) ?_
    refine la_icmp_ne (tgt := 71) B dX9_fits_55 (by decide) (fun c55 => ?_) (fun c55 => ?_)
    · refine la_iconst (v := 0) B dX9_fits_71 (by decide) ?_
      refine la_istore B dX9_fits_72 (by decide) ?_
      refine la_aload_n (i := 0) B dX9_fits_74 rfl rfl ?_
      refine la_iload_n (i := 2) B dX9_fits_75 rfl rfl ?_
      refine la_callVi (i := 37) B (ct_X9_sisterOf h (h 47 wl.toNatClampNeg) hs) lk_X9_67 (by decide) (lh_nc_lt (by decide)) rfl rfl rfl (by simp [Value.category]) dX9_fits_76 ?_
      refine la_istore B dX9_fits_79 (by decide) ?_
      refine la_iload B dX9_fits_81 rfl ?_
      refine la_if_eq (tgt := 105) B dX9_fits_83 (by decide) (fun c83 => ?_) (fun c83 => ?_)
      · refine la_iconst (v := 0) B dX9_fits_105 (by decide) ?_
        refine la_istore B dX9_fits_106 (by decide) ?_
        refine la_aload_n (i := 0) B dX9_fits_108 rfl rfl ?_
        refine la_aload_n (i := 0) B dX9_fits_109 rfl rfl ?_
        refine la_get (i := 37) (ci := 9) (j := 6) (C := RX9) (T := TX9) (N := 18) B (lh_nc_lt (by decide)) rfl ix_9 rfl (by decide) wd_679 rfl rfl dX9_fits_110 ?_
        refine la_iconst (v := 3) B dX9_fits_113 (by decide) ?_
        refine la_iload_n (i := 1) B dX9_fits_114 rfl rfl ?_
        refine la_imul B dX9_fits_115 ?_
        refine la_iald (i := 44) (v := h 44 (3 * wl).toNatClampNeg) B (lh_nc_lt (by decide)) rfl (lh_lin0 3 hw (by decide) (by decide)) rfl dX9_fits_116 ?_
        refine la_iload_n (i := 3) B dX9_fits_117 rfl rfl ?_
        refine la_iconst (v := 1) B dX9_fits_118 (by decide) ?_
        refine la_callVi (i := 37) B (ct_X9_lightOf h (h 44 (3 * wl).toNatClampNeg) (h 44 ((3 * wl) + 1).toNatClampNeg) 1 hr hy) lk_X9_63 (by decide) (lh_nc_lt (by decide)) rfl rfl rfl (by simp [Value.category]) dX9_fits_119 ?_
        refine la_istore B dX9_fits_122 (by decide) ?_
        refine la_iconst (v := 0) B dX9_fits_124 (by decide) ?_
        refine la_istore B dX9_fits_125 (by decide) ?_
        refine la_sub (lv2 := [(0, .ref (ad 37)), (1, .int wl), (2, .int (h 47 wl.toNatClampNeg)), (3, .int (h 44 ((3 * wl) + 1).toNatClampNeg)), (4, .int 0), (5, .int (fX9_sisterOf h (h 47 wl.toNatClampNeg))), (6, .int (fX9_lightOf h (h 44 (3 * wl).toNatClampNeg) (h 44 ((3 * wl) + 1).toNatClampNeg) 1)), (7, .int (nI 0))]) ⟨rfl, rfl, rfl, rfl, rfl, rfl, rfl, rfl, trivial⟩ (by simp [Value.category]) ?_
        exact lp_X9_fits h wl (h 47 wl.toNatClampNeg) (h 44 ((3 * wl) + 1).toNatClampNeg) (fX9_sisterOf h (h 47 wl.toNatClampNeg)) B J hwN hwM (by have := J.1.2.2.2.2.2; omega) hs _ 0 0 (fX9_lightOf h (h 44 (3 * wl).toNatClampNeg) (h 44 ((3 * wl) + 1).toNatClampNeg) 1) (Nat.zero_add _) (by simp only [fX9_fits, if_neg c14, if_neg c55])
      · exact absurd c83 (by decide)
    · refine la_aload_n (i := 0) B dX9_fits_58 rfl rfl ?_
      refine la_iload_n (i := 2) B dX9_fits_59 rfl rfl ?_
      refine la_iload_n (i := 3) B dX9_fits_60 rfl rfl ?_
      refine la_callVi (i := 37) B (ct_X9_rests h (h 47 wl.toNatClampNeg) (h 44 ((3 * wl) + 1).toNatClampNeg) J hs) lk_X9_119 (by decide) (lh_nc_lt (by decide)) rfl rfl rfl (by simp [Value.category]) dX9_fits_61 ?_
      refine la_if_eq (tgt := 71) B dX9_fits_64 (by decide) (fun c64 => ?_) (fun c64 => ?_)
      · refine la_iconst (v := 0) B dX9_fits_71 (by decide) ?_
        refine la_istore B dX9_fits_72 (by decide) ?_
        refine la_aload_n (i := 0) B dX9_fits_74 rfl rfl ?_
        refine la_iload_n (i := 2) B dX9_fits_75 rfl rfl ?_
        refine la_callVi (i := 37) B (ct_X9_sisterOf h (h 47 wl.toNatClampNeg) hs) lk_X9_67 (by decide) (lh_nc_lt (by decide)) rfl rfl rfl (by simp [Value.category]) dX9_fits_76 ?_
        refine la_istore B dX9_fits_79 (by decide) ?_
        refine la_iload B dX9_fits_81 rfl ?_
        refine la_if_eq (tgt := 105) B dX9_fits_83 (by decide) (fun c83 => ?_) (fun c83 => ?_)
        · refine la_iconst (v := 0) B dX9_fits_105 (by decide) ?_
          refine la_istore B dX9_fits_106 (by decide) ?_
          refine la_aload_n (i := 0) B dX9_fits_108 rfl rfl ?_
          refine la_aload_n (i := 0) B dX9_fits_109 rfl rfl ?_
          refine la_get (i := 37) (ci := 9) (j := 6) (C := RX9) (T := TX9) (N := 18) B (lh_nc_lt (by decide)) rfl ix_9 rfl (by decide) wd_679 rfl rfl dX9_fits_110 ?_
          refine la_iconst (v := 3) B dX9_fits_113 (by decide) ?_
          refine la_iload_n (i := 1) B dX9_fits_114 rfl rfl ?_
          refine la_imul B dX9_fits_115 ?_
          refine la_iald (i := 44) (v := h 44 (3 * wl).toNatClampNeg) B (lh_nc_lt (by decide)) rfl (lh_lin0 3 hw (by decide) (by decide)) rfl dX9_fits_116 ?_
          refine la_iload_n (i := 3) B dX9_fits_117 rfl rfl ?_
          refine la_iconst (v := 1) B dX9_fits_118 (by decide) ?_
          refine la_callVi (i := 37) B (ct_X9_lightOf h (h 44 (3 * wl).toNatClampNeg) (h 44 ((3 * wl) + 1).toNatClampNeg) 1 hr hy) lk_X9_63 (by decide) (lh_nc_lt (by decide)) rfl rfl rfl (by simp [Value.category]) dX9_fits_119 ?_
          refine la_istore B dX9_fits_122 (by decide) ?_
          refine la_iconst (v := 0) B dX9_fits_124 (by decide) ?_
          refine la_istore B dX9_fits_125 (by decide) ?_
          refine la_sub (lv2 := [(0, .ref (ad 37)), (1, .int wl), (2, .int (h 47 wl.toNatClampNeg)), (3, .int (h 44 ((3 * wl) + 1).toNatClampNeg)), (4, .int 0), (5, .int (fX9_sisterOf h (h 47 wl.toNatClampNeg))), (6, .int (fX9_lightOf h (h 44 (3 * wl).toNatClampNeg) (h 44 ((3 * wl) + 1).toNatClampNeg) 1)), (7, .int (nI 0))]) ⟨rfl, rfl, rfl, rfl, rfl, rfl, rfl, rfl, trivial⟩ (by simp [Value.category]) ?_
          exact lp_X9_fits h wl (h 47 wl.toNatClampNeg) (h 44 ((3 * wl) + 1).toNatClampNeg) (fX9_sisterOf h (h 47 wl.toNatClampNeg)) B J hwN hwM (by have := J.1.2.2.2.2.2; omega) hs _ 0 0 (fX9_lightOf h (h 44 (3 * wl).toNatClampNeg) (h 44 ((3 * wl) + 1).toNatClampNeg) 1) (Nat.zero_add _) (by simp only [fX9_fits, if_neg c14, if_pos c55, if_pos c64])
        · exact absurd c83 (by decide)
      · refine la_iconst (v := 1) B dX9_fits_67 (by decide) ?_
        refine la_goto (tgt := 72) B dX9_fits_68 (by decide) ?_
        refine la_istore B dX9_fits_72 (by decide) ?_
        refine la_aload_n (i := 0) B dX9_fits_74 rfl rfl ?_
        refine la_iload_n (i := 2) B dX9_fits_75 rfl rfl ?_
        refine la_callVi (i := 37) B (ct_X9_sisterOf h (h 47 wl.toNatClampNeg) hs) lk_X9_67 (by decide) (lh_nc_lt (by decide)) rfl rfl rfl (by simp [Value.category]) dX9_fits_76 ?_
        refine la_istore B dX9_fits_79 (by decide) ?_
        refine la_iload B dX9_fits_81 rfl ?_
        refine la_if_eq (tgt := 105) B dX9_fits_83 (by decide) (fun c83 => ?_) (fun c83 => ?_)
        · exact absurd c83 (by decide)
        · refine la_iload B dX9_fits_86 rfl ?_
          refine la_if_lt (tgt := 101) B dX9_fits_88 (by decide) (fun c88 => ?_) (fun c88 => ?_)
          · refine la_iconst (v := 1) B dX9_fits_101 (by decide) ?_
            refine la_goto (tgt := 106) B dX9_fits_102 (by decide) ?_
            refine la_istore B dX9_fits_106 (by decide) ?_
            refine la_aload_n (i := 0) B dX9_fits_108 rfl rfl ?_
            refine la_aload_n (i := 0) B dX9_fits_109 rfl rfl ?_
            refine la_get (i := 37) (ci := 9) (j := 6) (C := RX9) (T := TX9) (N := 18) B (lh_nc_lt (by decide)) rfl ix_9 rfl (by decide) wd_679 rfl rfl dX9_fits_110 ?_
            refine la_iconst (v := 3) B dX9_fits_113 (by decide) ?_
            refine la_iload_n (i := 1) B dX9_fits_114 rfl rfl ?_
            refine la_imul B dX9_fits_115 ?_
            refine la_iald (i := 44) (v := h 44 (3 * wl).toNatClampNeg) B (lh_nc_lt (by decide)) rfl (lh_lin0 3 hw (by decide) (by decide)) rfl dX9_fits_116 ?_
            refine la_iload_n (i := 3) B dX9_fits_117 rfl rfl ?_
            refine la_iconst (v := 1) B dX9_fits_118 (by decide) ?_
            refine la_callVi (i := 37) B (ct_X9_lightOf h (h 44 (3 * wl).toNatClampNeg) (h 44 ((3 * wl) + 1).toNatClampNeg) 1 hr hy) lk_X9_63 (by decide) (lh_nc_lt (by decide)) rfl rfl rfl (by simp [Value.category]) dX9_fits_119 ?_
            refine la_istore B dX9_fits_122 (by decide) ?_
            refine la_iconst (v := 0) B dX9_fits_124 (by decide) ?_
            refine la_istore B dX9_fits_125 (by decide) ?_
            refine la_sub (lv2 := [(0, .ref (ad 37)), (1, .int wl), (2, .int (h 47 wl.toNatClampNeg)), (3, .int (h 44 ((3 * wl) + 1).toNatClampNeg)), (4, .int 1), (5, .int (fX9_sisterOf h (h 47 wl.toNatClampNeg))), (6, .int (fX9_lightOf h (h 44 (3 * wl).toNatClampNeg) (h 44 ((3 * wl) + 1).toNatClampNeg) 1)), (7, .int (nI 0))]) ⟨rfl, rfl, rfl, rfl, rfl, rfl, rfl, rfl, trivial⟩ (by simp [Value.category]) ?_
            exact lp_X9_fits h wl (h 47 wl.toNatClampNeg) (h 44 ((3 * wl) + 1).toNatClampNeg) (fX9_sisterOf h (h 47 wl.toNatClampNeg)) B J hwN hwM (by have := J.1.2.2.2.2.2; omega) hs _ 0 1 (fX9_lightOf h (h 44 (3 * wl).toNatClampNeg) (h 44 ((3 * wl) + 1).toNatClampNeg) 1) (Nat.zero_add _) (by simp only [fX9_fits, if_neg c14, if_pos c55, if_neg c64, if_pos c88])
          · refine la_aload_n (i := 0) B dX9_fits_91 rfl rfl ?_
            refine la_iload B dX9_fits_92 rfl ?_
            refine la_iload_n (i := 3) B dX9_fits_94 rfl rfl ?_
            refine la_callVi (i := 37) B (ct_X9_isShown h (fX9_sisterOf h (h 47 wl.toNatClampNeg)) (h 44 ((3 * wl) + 1).toNatClampNeg) J) lk_X9_104 (by decide) (lh_nc_lt (by decide)) rfl rfl rfl (by simp [Value.category]) dX9_fits_95 ?_
            refine la_if_ne (tgt := 105) B dX9_fits_98 (by decide) (fun c98 => ?_) (fun c98 => ?_)
            · refine la_iconst (v := 0) B dX9_fits_105 (by decide) ?_
              refine la_istore B dX9_fits_106 (by decide) ?_
              refine la_aload_n (i := 0) B dX9_fits_108 rfl rfl ?_
              refine la_aload_n (i := 0) B dX9_fits_109 rfl rfl ?_
              refine la_get (i := 37) (ci := 9) (j := 6) (C := RX9) (T := TX9) (N := 18) B (lh_nc_lt (by decide)) rfl ix_9 rfl (by decide) wd_679 rfl rfl dX9_fits_110 ?_
              refine la_iconst (v := 3) B dX9_fits_113 (by decide) ?_
              refine la_iload_n (i := 1) B dX9_fits_114 rfl rfl ?_
              refine la_imul B dX9_fits_115 ?_
              refine la_iald (i := 44) (v := h 44 (3 * wl).toNatClampNeg) B (lh_nc_lt (by decide)) rfl (lh_lin0 3 hw (by decide) (by decide)) rfl dX9_fits_116 ?_
              refine la_iload_n (i := 3) B dX9_fits_117 rfl rfl ?_
              refine la_iconst (v := 1) B dX9_fits_118 (by decide) ?_
              refine la_callVi (i := 37) B (ct_X9_lightOf h (h 44 (3 * wl).toNatClampNeg) (h 44 ((3 * wl) + 1).toNatClampNeg) 1 hr hy) lk_X9_63 (by decide) (lh_nc_lt (by decide)) rfl rfl rfl (by simp [Value.category]) dX9_fits_119 ?_
              refine la_istore B dX9_fits_122 (by decide) ?_
              refine la_iconst (v := 0) B dX9_fits_124 (by decide) ?_
              refine la_istore B dX9_fits_125 (by decide) ?_
              refine la_sub (lv2 := [(0, .ref (ad 37)), (1, .int wl), (2, .int (h 47 wl.toNatClampNeg)), (3, .int (h 44 ((3 * wl) + 1).toNatClampNeg)), (4, .int 0), (5, .int (fX9_sisterOf h (h 47 wl.toNatClampNeg))), (6, .int (fX9_lightOf h (h 44 (3 * wl).toNatClampNeg) (h 44 ((3 * wl) + 1).toNatClampNeg) 1)), (7, .int (nI 0))]) ⟨rfl, rfl, rfl, rfl, rfl, rfl, rfl, rfl, trivial⟩ (by simp [Value.category]) ?_
              exact lp_X9_fits h wl (h 47 wl.toNatClampNeg) (h 44 ((3 * wl) + 1).toNatClampNeg) (fX9_sisterOf h (h 47 wl.toNatClampNeg)) B J hwN hwM (by have := J.1.2.2.2.2.2; omega) hs _ 0 0 (fX9_lightOf h (h 44 (3 * wl).toNatClampNeg) (h 44 ((3 * wl) + 1).toNatClampNeg) 1) (Nat.zero_add _) (by simp only [fX9_fits, if_neg c14, if_pos c55, if_neg c64, if_neg c88, if_neg c98])
            · refine la_iconst (v := 1) B dX9_fits_101 (by decide) ?_
              refine la_goto (tgt := 106) B dX9_fits_102 (by decide) ?_
              refine la_istore B dX9_fits_106 (by decide) ?_
              refine la_aload_n (i := 0) B dX9_fits_108 rfl rfl ?_
              refine la_aload_n (i := 0) B dX9_fits_109 rfl rfl ?_
              refine la_get (i := 37) (ci := 9) (j := 6) (C := RX9) (T := TX9) (N := 18) B (lh_nc_lt (by decide)) rfl ix_9 rfl (by decide) wd_679 rfl rfl dX9_fits_110 ?_
              refine la_iconst (v := 3) B dX9_fits_113 (by decide) ?_
              refine la_iload_n (i := 1) B dX9_fits_114 rfl rfl ?_
              refine la_imul B dX9_fits_115 ?_
              refine la_iald (i := 44) (v := h 44 (3 * wl).toNatClampNeg) B (lh_nc_lt (by decide)) rfl (lh_lin0 3 hw (by decide) (by decide)) rfl dX9_fits_116 ?_
              refine la_iload_n (i := 3) B dX9_fits_117 rfl rfl ?_
              refine la_iconst (v := 1) B dX9_fits_118 (by decide) ?_
              refine la_callVi (i := 37) B (ct_X9_lightOf h (h 44 (3 * wl).toNatClampNeg) (h 44 ((3 * wl) + 1).toNatClampNeg) 1 hr hy) lk_X9_63 (by decide) (lh_nc_lt (by decide)) rfl rfl rfl (by simp [Value.category]) dX9_fits_119 ?_
              refine la_istore B dX9_fits_122 (by decide) ?_
              refine la_iconst (v := 0) B dX9_fits_124 (by decide) ?_
              refine la_istore B dX9_fits_125 (by decide) ?_
              refine la_sub (lv2 := [(0, .ref (ad 37)), (1, .int wl), (2, .int (h 47 wl.toNatClampNeg)), (3, .int (h 44 ((3 * wl) + 1).toNatClampNeg)), (4, .int 1), (5, .int (fX9_sisterOf h (h 47 wl.toNatClampNeg))), (6, .int (fX9_lightOf h (h 44 (3 * wl).toNatClampNeg) (h 44 ((3 * wl) + 1).toNatClampNeg) 1)), (7, .int (nI 0))]) ⟨rfl, rfl, rfl, rfl, rfl, rfl, rfl, rfl, trivial⟩ (by simp [Value.category]) ?_
              exact lp_X9_fits h wl (h 47 wl.toNatClampNeg) (h 44 ((3 * wl) + 1).toNatClampNeg) (fX9_sisterOf h (h 47 wl.toNatClampNeg)) B J hwN hwM (by have := J.1.2.2.2.2.2; omega) hs _ 0 1 (fX9_lightOf h (h 44 (3 * wl).toNatClampNeg) (h 44 ((3 * wl) + 1).toNatClampNeg) 1) (Nat.zero_add _) (by simp only [fX9_fits, if_neg c14, if_pos c55, if_neg c64, if_neg c88, if_pos c98])
  · refine la_iconst (v := 1) B dX9_fits_17 (by decide) ?_
    exact la_zreturn B rfl (by simp only [fX9_fits, if_pos c14]) rfl rfl dX9_fits_18

def LX9_takes2_h (wo : Int32) : Nat → Nat → lh_HS → lh_HS
  | 0, i, h => h
  | n + 1, i, h => (LX9_takes2_h wo n (i + 1) (lh_up h 48 ((nI i).toNatClampNeg) ((h 47 (nI i).toNatClampNeg))))
set_option maxHeartbeats 4000000 in
set_option maxRecDepth 100000 in
theorem lp_X9_takes2 {l : Launch} {D : va_G} {ad : Nat → Nat} {bs : Nat} {cI cZ : ClassId} {t9 : Nat} {k : Bool} {p : Program} {e : Env} {s : State} {m : MethodId} {args : Array Value} {below : List Frame} {meth : Method} {c : Code} (wo : Int32) {h2 : lh_HS} (B : lh_BK p (lh_rm 1) s m args meth c D ad bs cI cZ t9 k "LightHoursModel" cX9_takes 3 none)  :
    ∀ (n i : Nat) (h : lh_HS), i + n = 5 → h2 = LX9_takes2_h wo n i h → True → lh_AJ p l e (lh_rm 1) s m args below meth c D ad bs cI cZ k 3 (MQ below (lh_Qv D ad bs cI cZ k h2) args s 0 0 (lh_A bs)) 43 [(0, .ref (ad 37)), (1, .int wo), (2, .int (nI i))] [] h := by
  intro n
  induction n with
  | zero =>
    intro i h hi hh hv
    have hexit : (5 : Int32) ≤ nI i := nI_le (a := 5) (by omega) (by omega)
    refine la_iload_n (i := 2) B dX9_takes_43 rfl rfl ?_
    refine la_iconst (v := 5) B dX9_takes_44 (by decide) ?_
    refine la_icmp_ge (tgt := 66) B dX9_takes_45 (by decide) (fun c45 => ?_) (fun c45 => ?_)
    · exact la_return B rfl (by rw [hh]; simp only [LX9_takes2_h]) dX9_takes_66
    · exact absurd hexit c45
  | succ n ih =>
    intro i h hi hh hv
    have hcont : ¬ (5 : Int32) ≤ nI i := nI_ge (b := 5) (by omega) (by omega)
    have hb5 : vp_in (nI i) 5 := vp_in_nI (by omega) (by omega)
    have hb6 : vp_in (nI i) 6 := vp_in_nI (by omega) (by omega)
    refine la_iload_n (i := 2) B dX9_takes_43 rfl rfl ?_
    refine la_iconst (v := 5) B dX9_takes_44 (by decide) ?_
    refine la_icmp_ge (tgt := 66) B dX9_takes_45 (by decide) (fun c45 => ?_) (fun c45 => ?_)
    · exact absurd c45 hcont
    · refine la_aload_n (i := 0) B dX9_takes_48 rfl rfl ?_
      refine la_get (i := 37) (ci := 9) (j := 14) (C := RX9) (T := TX9) (N := 18) B (lh_nc_lt (by decide)) rfl ix_9 rfl (by decide) wd_687 rfl rfl dX9_takes_49 ?_
      refine la_iload_n (i := 2) B dX9_takes_52 rfl rfl ?_
      refine la_aload_n (i := 0) B dX9_takes_53 rfl rfl ?_
      refine la_get (i := 37) (ci := 9) (j := 13) (C := RX9) (T := TX9) (N := 18) B (lh_nc_lt (by decide)) rfl ix_9 rfl (by decide) wd_686 rfl rfl dX9_takes_54 ?_
      refine la_iload_n (i := 2) B dX9_takes_57 rfl rfl ?_
      refine la_iald (i := 47) (v := h 47 (nI i).toNatClampNeg) B (lh_nc_lt (by decide)) rfl hb6 rfl dX9_takes_58 ?_
      refine la_iast (i := 48) (j := (nI i).toNatClampNeg) B (lh_nc_lt (by decide)) rfl rfl hb5 rfl dX9_takes_59 ?_
      refine la_iincp B dX9_takes_60 rfl (by decide) ?_
      refine la_goto (tgt := 43) B dX9_takes_63 (by decide) ?_
      refine la_sub (lv2 := [(0, .ref (ad 37)), (1, .int wo), (2, .int (nI (i + 1)))]) ⟨rfl, rfl, (congrArg (fun z => some (Value.int z)) (nI_1 i)), trivial⟩ (by simp [Value.category]) ?_
      exact ih (i + 1) (lh_up h 48 ((nI i).toNatClampNeg) ((h 47 (nI i).toNatClampNeg))) (by omega) (by rw [hh]; simp only [LX9_takes2_h]) trivial

def lh_ch (h : lh_HS) (w : Nat) : Prop := ∀ v, v < w → h 47 v = h 38 1 ∨ lh_ix (h 47 v) 8
def LX9_takes1_h  : Nat → Nat → Int32 → lh_HS → lh_HS
  | 0, i, acc, h => (if acc ≤ (h 37 16) then h else (LX9_takes2_h acc 5 0 (lh_up h 37 16 acc)))
  | n + 1, i, acc, h => (LX9_takes1_h n (i + 1) (acc + (fX9_valueOf h (nI i))) h)
set_option maxHeartbeats 4000000 in
set_option maxRecDepth 100000 in
theorem lp_X9_takes1 {l : Launch} {D : va_G} {ad : Nat → Nat} {bs : Nat} {cI cZ : ClassId} {t9 : Nat} {k : Bool} {p : Program} {e : Env} {s : State} {m : MethodId} {args : Array Value} {below : List Frame} {meth : Method} {c : Code}  {h2 : lh_HS} (B : lh_BK p (lh_rm 1) s m args meth c D ad bs cI cZ t9 k "LightHoursModel" cX9_takes 3 none) {N : Nat} :
    ∀ (n i : Nat) (acc : Int32) (h : lh_HS), i + n = N → h2 = LX9_takes1_h n i acc h → (lh_J h ∧ lh_ch h N ∧ lh_m h 4 = N) → lh_AJ p l e (lh_rm 1) s m args below meth c D ad bs cI cZ k 3 (MQ below (lh_Qv D ad bs cI cZ k h2) args s 0 0 (lh_A bs)) 4 [(0, .ref (ad 37)), (1, .int acc), (2, .int (nI i))] [] h := by
  intro n
  induction n with
  | zero =>
    intro i acc h hi hh hv
    have hM := hv.1.1.2.2.2.2.2
    have hNm := hv.2.2
    have hN : h 38 4 = nI N := by rw [← hNm]; exact hv.1.1.2.2.2.2.1
    have hexit : h 38 4 ≤ nI i := by rw [hN]; exact nI_le (by omega) (by omega)
    refine la_iload_n (i := 2) B dX9_takes_4 rfl rfl ?_
    refine la_aload_n (i := 0) B dX9_takes_5 rfl rfl ?_
    refine la_get (i := 37) (ci := 9) (j := 0) (C := RX9) (T := TX9) (N := 18) B (lh_nc_lt (by decide)) rfl ix_9 rfl (by decide) wd_673 rfl rfl dX9_takes_6 ?_
    refine la_iconst (v := 4) B dX9_takes_9 (by decide) ?_
    refine la_iald (i := 38) (v := h 38 4) B (lh_nc_lt (by decide)) rfl (by unfold vp_in; decide) rfl dX9_takes_10 ?_
    refine la_icmp_ge (tgt := 28) B dX9_takes_11 (by decide) (fun c11 => ?_) (fun c11 => ?_)
    · refine la_iload_n (i := 1) B dX9_takes_28 rfl rfl ?_
      refine la_aload_n (i := 0) B dX9_takes_29 rfl rfl ?_
      refine la_get (i := 37) (ci := 9) (j := 16) (v := .int (h 37 16)) (C := RX9) (T := TX9) (N := 18) B (lh_nc_lt (by decide)) rfl ix_9 rfl (by decide) wd_689 rfl rfl dX9_takes_30 ?_
      refine la_icmp_le (tgt := 66) B dX9_takes_33 (by decide) (fun c33 => ?_) (fun c33 => ?_)
      · exact la_return B rfl (by rw [hh]; simp only [LX9_takes1_h, if_pos c33]) dX9_takes_66
      · refine la_aload_n (i := 0) B dX9_takes_36 rfl rfl ?_
        refine la_iload_n (i := 1) B dX9_takes_37 rfl rfl ?_
        refine la_put (i := 37) (ci := 9) (j := 16) (C := RX9) (T := TX9) (N := 18) (ty0 := tyX9) B (lh_nc_lt (by decide)) rfl rfl ix_9 tyX9_ok nmX9 rfl (by decide) wd_689 rfl rfl rfl rfl rfl (Nat.le_of_ble_eq_true rfl) dX9_takes_38 ?_
        refine la_iconst (v := 0) B dX9_takes_41 (by decide) ?_
        refine la_istore_n (i := 2) B dX9_takes_42 rfl (by decide) ?_
        refine la_sub (lv2 := [(0, .ref (ad 37)), (1, .int acc), (2, .int (nI 0))]) ⟨rfl, rfl, rfl, trivial⟩ (by simp [Value.category]) ?_
        exact lp_X9_takes2 acc B _ 0 (lh_up h 37 16 acc) (Nat.zero_add _) (by rw [hh]; simp only [LX9_takes1_h, if_neg c33]) trivial
    · exact absurd hexit c11
  | succ n ih =>
    intro i acc h hi hh hv
    have hM := hv.1.1.2.2.2.2.2
    have hNm := hv.2.2
    have hN : h 38 4 = nI N := by rw [← hNm]; exact hv.1.1.2.2.2.2.1
    have hcont : ¬ h 38 4 ≤ nI i := by rw [hN]; exact nI_ge (by omega) (by omega)
    have hb6 : vp_in (nI i) 6 := vp_in_nI (by omega) (by omega)
    have hcv : ¬ h 47 (nI i).toNatClampNeg = h 38 1 → lh_ix (h 47 (nI i).toNatClampNeg) 8 := fun q => by
      rw [nI_clamp (by omega)] at q ⊢
      exact (hv.2.1 i (by omega)).resolve_left q
    refine la_iload_n (i := 2) B dX9_takes_4 rfl rfl ?_
    refine la_aload_n (i := 0) B dX9_takes_5 rfl rfl ?_
    refine la_get (i := 37) (ci := 9) (j := 0) (C := RX9) (T := TX9) (N := 18) B (lh_nc_lt (by decide)) rfl ix_9 rfl (by decide) wd_673 rfl rfl dX9_takes_6 ?_
    refine la_iconst (v := 4) B dX9_takes_9 (by decide) ?_
    refine la_iald (i := 38) (v := h 38 4) B (lh_nc_lt (by decide)) rfl (by unfold vp_in; decide) rfl dX9_takes_10 ?_
    refine la_icmp_ge (tgt := 28) B dX9_takes_11 (by decide) (fun c11 => ?_) (fun c11 => ?_)
    · exact absurd c11 hcont
    · refine la_iload_n (i := 1) B dX9_takes_14 rfl rfl ?_
      refine la_aload_n (i := 0) B dX9_takes_15 rfl rfl ?_
      refine la_iload_n (i := 2) B dX9_takes_16 rfl rfl ?_
      refine la_callVi (i := 37) B (ct_X9_valueOf h (nI i) hb6 hcv) lk_X9_131 (by decide) (lh_nc_lt (by decide)) rfl rfl rfl (by simp [Value.category]) dX9_takes_17 ?_
      refine la_iadd B dX9_takes_20 ?_
      refine la_istore_n (i := 1) B dX9_takes_21 rfl (by decide) ?_
      refine la_iincp B dX9_takes_22 rfl (by decide) ?_
      refine la_goto (tgt := 4) B dX9_takes_25 (by decide) ?_
      refine la_sub (lv2 := [(0, .ref (ad 37)), (1, .int ((acc + (fX9_valueOf h (nI i))))), (2, .int (nI (i + 1)))]) ⟨rfl, rfl, (congrArg (fun z => some (Value.int z)) (nI_1 i)), trivial⟩ (by simp [Value.category]) ?_
      exact ih (i + 1) (acc + (fX9_valueOf h (nI i))) h (by omega) (by rw [hh]; simp only [LX9_takes1_h]) hv

def gX9_takes (h : lh_HS)  : lh_HS := (LX9_takes1_h (lh_m h 4) 0 0 h)
set_option maxHeartbeats 4000000 in
set_option maxRecDepth 100000 in
theorem ct_X9_takes {l : Launch} {D : va_G} {ad : Nat → Nat} {bs : Nat} {cI cZ : ClassId} {t9 : Nat} {k : Bool} (h : lh_HS)  (J : lh_J h) (hch : lh_ch h (lh_m h 4)) : lh_CTv l D ad bs cI cZ t9 k yX9_takes cX9_takes 3 1 [.ref (ad 37)] h (gX9_takes h ) := by
  refine lh_ofv (lv := [(0, .ref (ad 37))]) (by decide) (Nat.le_of_ble_eq_true rfl) rfl (by simp [Value.category]) ⟨rfl, trivial⟩ ?_
  intro p e s m args below meth c B
  have B : lh_BK p (lh_rm 1) s m args meth c D ad bs cI cZ t9 k "LightHoursModel" cX9_takes 3 none := B
  refine la_iconst (v := 0) B dX9_takes_0 (by decide) ?_
  refine la_istore_n (i := 1) B dX9_takes_1 rfl (by decide) ?_
  refine la_iconst (v := 0) B dX9_takes_2 (by decide) ?_
  refine la_istore_n (i := 2) B dX9_takes_3 rfl (by decide) ?_
  refine la_sub (lv2 := [(0, .ref (ad 37)), (1, .int 0), (2, .int (nI 0))]) ⟨rfl, rfl, rfl, trivial⟩ (by simp [Value.category]) ?_
  exact lp_X9_takes1 B _ 0 0 h (Nat.zero_add _) (by simp only [gX9_takes]) ⟨J, hch, rfl⟩
