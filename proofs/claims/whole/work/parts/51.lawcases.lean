set_option maxHeartbeats 4000000 in
set_option maxRecDepth 100000 in
theorem lw_c_room {p : Program} {l : Launch} {e : Env} {s : State} {m : MethodId} {below : List Frame} {meth : Method} {c : Code} {D : va_G} {ad : Nat → Nat} {cI cZ : ClassId} {t9 : Nat} {k : Bool} {b L : Nat} {xs : Nat → Int32} {i : Nat} {h : lh_HS} (B : lh_BL p s m meth c b L xs D ad cI cZ t9 k) (L0 : lh_INV k h) (hi5 : i + 5 ≤ L) (hL : L ≤ 2560) (IH : ∀ h : lh_HS, lh_INV k h → lh_LJ p l e s m below meth c D ad cI cZ k b 18 [(0, .ref b), (1, .ref (ad 0)), (2, .ref (ad 37)), (3, .int (nI i + 5))] [] h) : lh_LJ p l e s m below meth c D ad cI cZ k b 156 [(0, .ref b), (1, .ref (ad 0)), (2, .ref (ad 37)), (3, .int (nI i))] [] h := by
  refine ll_aload_n (i := 1) B dL_law_156 rfl rfl ?_
  refine ll_aload_n (i := 0) B dL_law_157 rfl rfl ?_
  refine ll_iload_n (i := 3) B dL_law_158 rfl rfl ?_
  refine ll_iconst (v := 1) B dL_law_159 (by decide) ?_
  refine ll_iadd B dL_law_160 ?_
  refine ll_sld B (ll_in (c := 1) (by omega) hL) dL_law_161 ?_
  refine ll_callVi (i := 0) B (ct_X8_room h (xs ((nI i) + 1).toNatClampNeg) L0.1) lk_L_13 (by decide) (lh_nc_lt (by decide)) rfl rfl rfl (by simp [Value.category]) dL_law_162 ?_
  refine ll_aload_n (i := 2) B dL_law_165 rfl rfl ?_
  refine ll_aload_n (i := 0) B dL_law_166 rfl rfl ?_
  refine ll_iload_n (i := 3) B dL_law_167 rfl rfl ?_
  refine ll_iconst (v := 1) B dL_law_168 (by decide) ?_
  refine ll_iadd B dL_law_169 ?_
  refine ll_sld B (ll_in (c := 1) (by omega) hL) dL_law_170 ?_
  refine ll_callVi (i := 37) B (ct_X9_room (gX8_room h (xs ((nI i) + 1).toNatClampNeg)) (xs ((nI i) + 1).toNatClampNeg) (op_room L0 (xs ((nI i) + 1).toNatClampNeg)).1) lk_L_17 (by decide) (lh_nc_lt (by decide)) rfl rfl rfl (by simp [Value.category]) dL_law_171 ?_
  refine ll_icmp_eq (tgt := 1067) B dL_law_174 (by decide) (fun c174 => ?_) (fun c174 => ?_)
  · refine ll_iinc5 B dL_law_1067 rfl (by decide) ?_
    refine ll_goto (tgt := 18) B dL_law_1070 (by decide) ?_
    exact ll_sub (lv2 := [(0, .ref b), (1, .ref (ad 0)), (2, .ref (ad 37)), (3, .int (nI i + 5))]) ⟨rfl, rfl, rfl, rfl, trivial⟩ (by simp [Value.category]) (IH _ (op_room L0 (xs ((nI i) + 1).toNatClampNeg)).2.2)
  · exact absurd (op_room L0 (xs ((nI i) + 1).toNatClampNeg)).2.1 c174
set_option maxHeartbeats 4000000 in
set_option maxRecDepth 100000 in
theorem lw_c_reading {p : Program} {l : Launch} {e : Env} {s : State} {m : MethodId} {below : List Frame} {meth : Method} {c : Code} {D : va_G} {ad : Nat → Nat} {cI cZ : ClassId} {t9 : Nat} {k : Bool} {b L : Nat} {xs : Nat → Int32} {i : Nat} {h : lh_HS} (B : lh_BL p s m meth c b L xs D ad cI cZ t9 k) (L0 : lh_INV k h) (hi5 : i + 5 ≤ L) (hL : L ≤ 2560) (IH : ∀ h : lh_HS, lh_INV k h → lh_LJ p l e s m below meth c D ad cI cZ k b 18 [(0, .ref b), (1, .ref (ad 0)), (2, .ref (ad 37)), (3, .int (nI i + 5))] [] h) : lh_LJ p l e s m below meth c D ad cI cZ k b 179 [(0, .ref b), (1, .ref (ad 0)), (2, .ref (ad 37)), (3, .int (nI i))] [] h := by
  refine ll_aload_n (i := 1) B dL_law_179 rfl rfl ?_
  refine ll_aload_n (i := 0) B dL_law_180 rfl rfl ?_
  refine ll_iload_n (i := 3) B dL_law_181 rfl rfl ?_
  refine ll_iconst (v := 1) B dL_law_182 (by decide) ?_
  refine ll_iadd B dL_law_183 ?_
  refine ll_sld B (ll_in (c := 1) (by omega) hL) dL_law_184 ?_
  refine ll_aload_n (i := 0) B dL_law_185 rfl rfl ?_
  refine ll_iload_n (i := 3) B dL_law_186 rfl rfl ?_
  refine ll_iconst (v := 2) B dL_law_187 (by decide) ?_
  refine ll_iadd B dL_law_188 ?_
  refine ll_sld B (ll_in (c := 2) (by omega) hL) dL_law_189 ?_
  refine ll_aload_n (i := 0) B dL_law_190 rfl rfl ?_
  refine ll_iload_n (i := 3) B dL_law_191 rfl rfl ?_
  refine ll_iconst (v := 3) B dL_law_192 (by decide) ?_
  refine ll_iadd B dL_law_193 ?_
  refine ll_sld B (ll_in (c := 3) (by omega) hL) dL_law_194 ?_
  refine ll_callVi (i := 0) B (ct_X8_reading h (xs ((nI i) + 1).toNatClampNeg) (xs ((nI i) + 2).toNatClampNeg) (xs ((nI i) + 3).toNatClampNeg) L0.1) lk_L_18 (by decide) (lh_nc_lt (by decide)) rfl rfl rfl (by simp [Value.category]) dL_law_195 ?_
  refine ll_aload_n (i := 2) B dL_law_198 rfl rfl ?_
  refine ll_aload_n (i := 0) B dL_law_199 rfl rfl ?_
  refine ll_iload_n (i := 3) B dL_law_200 rfl rfl ?_
  refine ll_iconst (v := 1) B dL_law_201 (by decide) ?_
  refine ll_iadd B dL_law_202 ?_
  refine ll_sld B (ll_in (c := 1) (by omega) hL) dL_law_203 ?_
  refine ll_aload_n (i := 0) B dL_law_204 rfl rfl ?_
  refine ll_iload_n (i := 3) B dL_law_205 rfl rfl ?_
  refine ll_iconst (v := 2) B dL_law_206 (by decide) ?_
  refine ll_iadd B dL_law_207 ?_
  refine ll_sld B (ll_in (c := 2) (by omega) hL) dL_law_208 ?_
  refine ll_aload_n (i := 0) B dL_law_209 rfl rfl ?_
  refine ll_iload_n (i := 3) B dL_law_210 rfl rfl ?_
  refine ll_iconst (v := 3) B dL_law_211 (by decide) ?_
  refine ll_iadd B dL_law_212 ?_
  refine ll_sld B (ll_in (c := 3) (by omega) hL) dL_law_213 ?_
  refine ll_callVi (i := 37) B (ct_X9_reading (gX8_reading h (xs ((nI i) + 1).toNatClampNeg) (xs ((nI i) + 2).toNatClampNeg) (xs ((nI i) + 3).toNatClampNeg)) (xs ((nI i) + 1).toNatClampNeg) (xs ((nI i) + 2).toNatClampNeg) (xs ((nI i) + 3).toNatClampNeg) (op_reading L0 (xs ((nI i) + 1).toNatClampNeg) (xs ((nI i) + 2).toNatClampNeg) (xs ((nI i) + 3).toNatClampNeg)).1) lk_L_22 (by decide) (lh_nc_lt (by decide)) rfl rfl rfl (by simp [Value.category]) dL_law_214 ?_
  refine ll_icmp_eq (tgt := 1067) B dL_law_217 (by decide) (fun c217 => ?_) (fun c217 => ?_)
  · refine ll_iinc5 B dL_law_1067 rfl (by decide) ?_
    refine ll_goto (tgt := 18) B dL_law_1070 (by decide) ?_
    exact ll_sub (lv2 := [(0, .ref b), (1, .ref (ad 0)), (2, .ref (ad 37)), (3, .int (nI i + 5))]) ⟨rfl, rfl, rfl, rfl, trivial⟩ (by simp [Value.category]) (IH _ (op_reading L0 (xs ((nI i) + 1).toNatClampNeg) (xs ((nI i) + 2).toNatClampNeg) (xs ((nI i) + 3).toNatClampNeg)).2.2)
  · exact absurd (op_reading L0 (xs ((nI i) + 1).toNatClampNeg) (xs ((nI i) + 2).toNatClampNeg) (xs ((nI i) + 3).toNatClampNeg)).2.1 c217
set_option maxHeartbeats 4000000 in
set_option maxRecDepth 100000 in
theorem lw_c_light {p : Program} {l : Launch} {e : Env} {s : State} {m : MethodId} {below : List Frame} {meth : Method} {c : Code} {D : va_G} {ad : Nat → Nat} {cI cZ : ClassId} {t9 : Nat} {k : Bool} {b L : Nat} {xs : Nat → Int32} {i : Nat} {h : lh_HS} (B : lh_BL p s m meth c b L xs D ad cI cZ t9 k) (L0 : lh_INV k h) (hi5 : i + 5 ≤ L) (hL : L ≤ 2560) (IH : ∀ h : lh_HS, lh_INV k h → lh_LJ p l e s m below meth c D ad cI cZ k b 18 [(0, .ref b), (1, .ref (ad 0)), (2, .ref (ad 37)), (3, .int (nI i + 5))] [] h) : lh_LJ p l e s m below meth c D ad cI cZ k b 222 [(0, .ref b), (1, .ref (ad 0)), (2, .ref (ad 37)), (3, .int (nI i))] [] h := by
  refine ll_aload_n (i := 1) B dL_law_222 rfl rfl ?_
  refine ll_aload_n (i := 0) B dL_law_223 rfl rfl ?_
  refine ll_iload_n (i := 3) B dL_law_224 rfl rfl ?_
  refine ll_iconst (v := 1) B dL_law_225 (by decide) ?_
  refine ll_iadd B dL_law_226 ?_
  refine ll_sld B (ll_in (c := 1) (by omega) hL) dL_law_227 ?_
  refine ll_aload_n (i := 0) B dL_law_228 rfl rfl ?_
  refine ll_iload_n (i := 3) B dL_law_229 rfl rfl ?_
  refine ll_iconst (v := 2) B dL_law_230 (by decide) ?_
  refine ll_iadd B dL_law_231 ?_
  refine ll_sld B (ll_in (c := 2) (by omega) hL) dL_law_232 ?_
  refine ll_aload_n (i := 0) B dL_law_233 rfl rfl ?_
  refine ll_iload_n (i := 3) B dL_law_234 rfl rfl ?_
  refine ll_iconst (v := 3) B dL_law_235 (by decide) ?_
  refine ll_iadd B dL_law_236 ?_
  refine ll_sld B (ll_in (c := 3) (by omega) hL) dL_law_237 ?_
  refine ll_if_eq (tgt := 245) B dL_law_238 (by decide) (fun c238 => ?_) (fun c238 => ?_)
  · refine ll_iconst (v := 0) B dL_law_245 (by decide) ?_
    refine ll_callVi (i := 0) B (ct_X8_light h (xs ((nI i) + 1).toNatClampNeg) (xs ((nI i) + 2).toNatClampNeg) 0 L0.1) lk_L_23 (by decide) (lh_nc_lt (by decide)) rfl rfl rfl (by simp [Value.category]) dL_law_246 ?_
    refine ll_aload_n (i := 2) B dL_law_249 rfl rfl ?_
    refine ll_aload_n (i := 0) B dL_law_250 rfl rfl ?_
    refine ll_iload_n (i := 3) B dL_law_251 rfl rfl ?_
    refine ll_iconst (v := 1) B dL_law_252 (by decide) ?_
    refine ll_iadd B dL_law_253 ?_
    refine ll_sld B (ll_in (c := 1) (by omega) hL) dL_law_254 ?_
    refine ll_aload_n (i := 0) B dL_law_255 rfl rfl ?_
    refine ll_iload_n (i := 3) B dL_law_256 rfl rfl ?_
    refine ll_iconst (v := 2) B dL_law_257 (by decide) ?_
    refine ll_iadd B dL_law_258 ?_
    refine ll_sld B (ll_in (c := 2) (by omega) hL) dL_law_259 ?_
    refine ll_aload_n (i := 0) B dL_law_260 rfl rfl ?_
    refine ll_iload_n (i := 3) B dL_law_261 rfl rfl ?_
    refine ll_iconst (v := 3) B dL_law_262 (by decide) ?_
    refine ll_iadd B dL_law_263 ?_
    refine ll_sld B (ll_in (c := 3) (by omega) hL) dL_law_264 ?_
    refine ll_if_eq (tgt := 272) B dL_law_265 (by decide) (fun c265 => ?_) (fun c265 => ?_)
    · refine ll_iconst (v := 0) B dL_law_272 (by decide) ?_
      refine ll_callVi (i := 37) B (ct_X9_light h (xs ((nI i) + 1).toNatClampNeg) (xs ((nI i) + 2).toNatClampNeg) 0 (op_light L0 (xs ((nI i) + 1).toNatClampNeg) (xs ((nI i) + 2).toNatClampNeg) 0).1) lk_L_27 (by decide) (lh_nc_lt (by decide)) rfl rfl rfl (by simp [Value.category]) dL_law_273 ?_
      refine ll_icmp_eq (tgt := 1067) B dL_law_276 (by decide) (fun c276 => ?_) (fun c276 => ?_)
      · refine ll_iinc5 B dL_law_1067 rfl (by decide) ?_
        refine ll_goto (tgt := 18) B dL_law_1070 (by decide) ?_
        exact ll_sub (lv2 := [(0, .ref b), (1, .ref (ad 0)), (2, .ref (ad 37)), (3, .int (nI i + 5))]) ⟨rfl, rfl, rfl, rfl, trivial⟩ (by simp [Value.category]) (IH _ (op_light L0 (xs ((nI i) + 1).toNatClampNeg) (xs ((nI i) + 2).toNatClampNeg) 0).2.2)
      · exact absurd (op_light L0 (xs ((nI i) + 1).toNatClampNeg) (xs ((nI i) + 2).toNatClampNeg) 0).2.1 c276
    · exact absurd c238 c265
  · refine ll_iconst (v := 1) B dL_law_241 (by decide) ?_
    refine ll_goto (tgt := 246) B dL_law_242 (by decide) ?_
    refine ll_callVi (i := 0) B (ct_X8_light h (xs ((nI i) + 1).toNatClampNeg) (xs ((nI i) + 2).toNatClampNeg) 1 L0.1) lk_L_23 (by decide) (lh_nc_lt (by decide)) rfl rfl rfl (by simp [Value.category]) dL_law_246 ?_
    refine ll_aload_n (i := 2) B dL_law_249 rfl rfl ?_
    refine ll_aload_n (i := 0) B dL_law_250 rfl rfl ?_
    refine ll_iload_n (i := 3) B dL_law_251 rfl rfl ?_
    refine ll_iconst (v := 1) B dL_law_252 (by decide) ?_
    refine ll_iadd B dL_law_253 ?_
    refine ll_sld B (ll_in (c := 1) (by omega) hL) dL_law_254 ?_
    refine ll_aload_n (i := 0) B dL_law_255 rfl rfl ?_
    refine ll_iload_n (i := 3) B dL_law_256 rfl rfl ?_
    refine ll_iconst (v := 2) B dL_law_257 (by decide) ?_
    refine ll_iadd B dL_law_258 ?_
    refine ll_sld B (ll_in (c := 2) (by omega) hL) dL_law_259 ?_
    refine ll_aload_n (i := 0) B dL_law_260 rfl rfl ?_
    refine ll_iload_n (i := 3) B dL_law_261 rfl rfl ?_
    refine ll_iconst (v := 3) B dL_law_262 (by decide) ?_
    refine ll_iadd B dL_law_263 ?_
    refine ll_sld B (ll_in (c := 3) (by omega) hL) dL_law_264 ?_
    refine ll_if_eq (tgt := 272) B dL_law_265 (by decide) (fun c265 => ?_) (fun c265 => ?_)
    · exact absurd c265 c238
    · refine ll_iconst (v := 1) B dL_law_268 (by decide) ?_
      refine ll_goto (tgt := 273) B dL_law_269 (by decide) ?_
      refine ll_callVi (i := 37) B (ct_X9_light h (xs ((nI i) + 1).toNatClampNeg) (xs ((nI i) + 2).toNatClampNeg) 1 (op_light L0 (xs ((nI i) + 1).toNatClampNeg) (xs ((nI i) + 2).toNatClampNeg) 1).1) lk_L_27 (by decide) (lh_nc_lt (by decide)) rfl rfl rfl (by simp [Value.category]) dL_law_273 ?_
      refine ll_icmp_eq (tgt := 1067) B dL_law_276 (by decide) (fun c276 => ?_) (fun c276 => ?_)
      · refine ll_iinc5 B dL_law_1067 rfl (by decide) ?_
        refine ll_goto (tgt := 18) B dL_law_1070 (by decide) ?_
        exact ll_sub (lv2 := [(0, .ref b), (1, .ref (ad 0)), (2, .ref (ad 37)), (3, .int (nI i + 5))]) ⟨rfl, rfl, rfl, rfl, trivial⟩ (by simp [Value.category]) (IH _ (op_light L0 (xs ((nI i) + 1).toNatClampNeg) (xs ((nI i) + 2).toNatClampNeg) 1).2.2)
      · exact absurd (op_light L0 (xs ((nI i) + 1).toNatClampNeg) (xs ((nI i) + 2).toNatClampNeg) 1).2.1 c276
set_option maxHeartbeats 4000000 in
set_option maxRecDepth 100000 in
theorem lw_c_sheet {p : Program} {l : Launch} {e : Env} {s : State} {m : MethodId} {below : List Frame} {meth : Method} {c : Code} {D : va_G} {ad : Nat → Nat} {cI cZ : ClassId} {t9 : Nat} {k : Bool} {b L : Nat} {xs : Nat → Int32} {i : Nat} {h : lh_HS} (B : lh_BL p s m meth c b L xs D ad cI cZ t9 k) (L0 : lh_INV k h) (hi5 : i + 5 ≤ L) (hL : L ≤ 2560) (IH : ∀ h : lh_HS, lh_INV k h → lh_LJ p l e s m below meth c D ad cI cZ k b 18 [(0, .ref b), (1, .ref (ad 0)), (2, .ref (ad 37)), (3, .int (nI i + 5))] [] h) : lh_LJ p l e s m below meth c D ad cI cZ k b 281 [(0, .ref b), (1, .ref (ad 0)), (2, .ref (ad 37)), (3, .int (nI i))] [] h := by
  refine ll_aload_n (i := 1) B dL_law_281 rfl rfl ?_
  refine ll_aload_n (i := 0) B dL_law_282 rfl rfl ?_
  refine ll_iload_n (i := 3) B dL_law_283 rfl rfl ?_
  refine ll_iconst (v := 1) B dL_law_284 (by decide) ?_
  refine ll_iadd B dL_law_285 ?_
  refine ll_sld B (ll_in (c := 1) (by omega) hL) dL_law_286 ?_
  refine ll_aload_n (i := 0) B dL_law_287 rfl rfl ?_
  refine ll_iload_n (i := 3) B dL_law_288 rfl rfl ?_
  refine ll_iconst (v := 2) B dL_law_289 (by decide) ?_
  refine ll_iadd B dL_law_290 ?_
  refine ll_sld B (ll_in (c := 2) (by omega) hL) dL_law_291 ?_
  refine ll_aload_n (i := 0) B dL_law_292 rfl rfl ?_
  refine ll_iload_n (i := 3) B dL_law_293 rfl rfl ?_
  refine ll_iconst (v := 3) B dL_law_294 (by decide) ?_
  refine ll_iadd B dL_law_295 ?_
  refine ll_sld B (ll_in (c := 3) (by omega) hL) dL_law_296 ?_
  refine ll_aload_n (i := 0) B dL_law_297 rfl rfl ?_
  refine ll_iload_n (i := 3) B dL_law_298 rfl rfl ?_
  refine ll_iconst (v := 4) B dL_law_299 (by decide) ?_
  refine ll_iadd B dL_law_300 ?_
  refine ll_sld B (ll_in (c := 4) (by omega) hL) dL_law_301 ?_
  refine ll_callVi (i := 0) B (ct_X8_sheet h (xs ((nI i) + 1).toNatClampNeg) (xs ((nI i) + 2).toNatClampNeg) (xs ((nI i) + 3).toNatClampNeg) (xs ((nI i) + 4).toNatClampNeg) L0.1) lk_L_28 (by decide) (lh_nc_lt (by decide)) rfl rfl rfl (by simp [Value.category]) dL_law_302 ?_
  refine ll_aload_n (i := 2) B dL_law_305 rfl rfl ?_
  refine ll_aload_n (i := 0) B dL_law_306 rfl rfl ?_
  refine ll_iload_n (i := 3) B dL_law_307 rfl rfl ?_
  refine ll_iconst (v := 1) B dL_law_308 (by decide) ?_
  refine ll_iadd B dL_law_309 ?_
  refine ll_sld B (ll_in (c := 1) (by omega) hL) dL_law_310 ?_
  refine ll_aload_n (i := 0) B dL_law_311 rfl rfl ?_
  refine ll_iload_n (i := 3) B dL_law_312 rfl rfl ?_
  refine ll_iconst (v := 2) B dL_law_313 (by decide) ?_
  refine ll_iadd B dL_law_314 ?_
  refine ll_sld B (ll_in (c := 2) (by omega) hL) dL_law_315 ?_
  refine ll_aload_n (i := 0) B dL_law_316 rfl rfl ?_
  refine ll_iload_n (i := 3) B dL_law_317 rfl rfl ?_
  refine ll_iconst (v := 3) B dL_law_318 (by decide) ?_
  refine ll_iadd B dL_law_319 ?_
  refine ll_sld B (ll_in (c := 3) (by omega) hL) dL_law_320 ?_
  refine ll_aload_n (i := 0) B dL_law_321 rfl rfl ?_
  refine ll_iload_n (i := 3) B dL_law_322 rfl rfl ?_
  refine ll_iconst (v := 4) B dL_law_323 (by decide) ?_
  refine ll_iadd B dL_law_324 ?_
  refine ll_sld B (ll_in (c := 4) (by omega) hL) dL_law_325 ?_
  refine ll_callVi (i := 37) B (ct_X9_sheet (gX8_sheet h (xs ((nI i) + 1).toNatClampNeg) (xs ((nI i) + 2).toNatClampNeg) (xs ((nI i) + 3).toNatClampNeg) (xs ((nI i) + 4).toNatClampNeg)) (xs ((nI i) + 1).toNatClampNeg) (xs ((nI i) + 2).toNatClampNeg) (xs ((nI i) + 3).toNatClampNeg) (xs ((nI i) + 4).toNatClampNeg) (op_sheet L0 (xs ((nI i) + 1).toNatClampNeg) (xs ((nI i) + 2).toNatClampNeg) (xs ((nI i) + 3).toNatClampNeg) (xs ((nI i) + 4).toNatClampNeg)).1) lk_L_32 (by decide) (lh_nc_lt (by decide)) rfl rfl rfl (by simp [Value.category]) dL_law_326 ?_
  refine ll_icmp_eq (tgt := 1067) B dL_law_329 (by decide) (fun c329 => ?_) (fun c329 => ?_)
  · refine ll_iinc5 B dL_law_1067 rfl (by decide) ?_
    refine ll_goto (tgt := 18) B dL_law_1070 (by decide) ?_
    exact ll_sub (lv2 := [(0, .ref b), (1, .ref (ad 0)), (2, .ref (ad 37)), (3, .int (nI i + 5))]) ⟨rfl, rfl, rfl, rfl, trivial⟩ (by simp [Value.category]) (IH _ (op_sheet L0 (xs ((nI i) + 1).toNatClampNeg) (xs ((nI i) + 2).toNatClampNeg) (xs ((nI i) + 3).toNatClampNeg) (xs ((nI i) + 4).toNatClampNeg)).2.2)
  · exact absurd (op_sheet L0 (xs ((nI i) + 1).toNatClampNeg) (xs ((nI i) + 2).toNatClampNeg) (xs ((nI i) + 3).toNatClampNeg) (xs ((nI i) + 4).toNatClampNeg)).2.1 c329
set_option maxHeartbeats 4000000 in
set_option maxRecDepth 100000 in
theorem lw_c_sisters {p : Program} {l : Launch} {e : Env} {s : State} {m : MethodId} {below : List Frame} {meth : Method} {c : Code} {D : va_G} {ad : Nat → Nat} {cI cZ : ClassId} {t9 : Nat} {k : Bool} {b L : Nat} {xs : Nat → Int32} {i : Nat} {h : lh_HS} (B : lh_BL p s m meth c b L xs D ad cI cZ t9 k) (L0 : lh_INV k h) (hi5 : i + 5 ≤ L) (hL : L ≤ 2560) (IH : ∀ h : lh_HS, lh_INV k h → lh_LJ p l e s m below meth c D ad cI cZ k b 18 [(0, .ref b), (1, .ref (ad 0)), (2, .ref (ad 37)), (3, .int (nI i + 5))] [] h) : lh_LJ p l e s m below meth c D ad cI cZ k b 334 [(0, .ref b), (1, .ref (ad 0)), (2, .ref (ad 37)), (3, .int (nI i))] [] h := by
  refine ll_aload_n (i := 1) B dL_law_334 rfl rfl ?_
  refine ll_aload_n (i := 0) B dL_law_335 rfl rfl ?_
  refine ll_iload_n (i := 3) B dL_law_336 rfl rfl ?_
  refine ll_iconst (v := 1) B dL_law_337 (by decide) ?_
  refine ll_iadd B dL_law_338 ?_
  refine ll_sld B (ll_in (c := 1) (by omega) hL) dL_law_339 ?_
  refine ll_aload_n (i := 0) B dL_law_340 rfl rfl ?_
  refine ll_iload_n (i := 3) B dL_law_341 rfl rfl ?_
  refine ll_iconst (v := 2) B dL_law_342 (by decide) ?_
  refine ll_iadd B dL_law_343 ?_
  refine ll_sld B (ll_in (c := 2) (by omega) hL) dL_law_344 ?_
  refine ll_callVi (i := 0) B (ct_X8_sisters h (xs ((nI i) + 1).toNatClampNeg) (xs ((nI i) + 2).toNatClampNeg) L0.1) lk_L_33 (by decide) (lh_nc_lt (by decide)) rfl rfl rfl (by simp [Value.category]) dL_law_345 ?_
  refine ll_aload_n (i := 2) B dL_law_348 rfl rfl ?_
  refine ll_aload_n (i := 0) B dL_law_349 rfl rfl ?_
  refine ll_iload_n (i := 3) B dL_law_350 rfl rfl ?_
  refine ll_iconst (v := 1) B dL_law_351 (by decide) ?_
  refine ll_iadd B dL_law_352 ?_
  refine ll_sld B (ll_in (c := 1) (by omega) hL) dL_law_353 ?_
  refine ll_aload_n (i := 0) B dL_law_354 rfl rfl ?_
  refine ll_iload_n (i := 3) B dL_law_355 rfl rfl ?_
  refine ll_iconst (v := 2) B dL_law_356 (by decide) ?_
  refine ll_iadd B dL_law_357 ?_
  refine ll_sld B (ll_in (c := 2) (by omega) hL) dL_law_358 ?_
  refine ll_callVi (i := 37) B (ct_X9_sisters (gX8_sisters h (xs ((nI i) + 1).toNatClampNeg) (xs ((nI i) + 2).toNatClampNeg)) (xs ((nI i) + 1).toNatClampNeg) (xs ((nI i) + 2).toNatClampNeg) (op_sisters L0 (xs ((nI i) + 1).toNatClampNeg) (xs ((nI i) + 2).toNatClampNeg)).1) lk_L_37 (by decide) (lh_nc_lt (by decide)) rfl rfl rfl (by simp [Value.category]) dL_law_359 ?_
  refine ll_icmp_eq (tgt := 1067) B dL_law_362 (by decide) (fun c362 => ?_) (fun c362 => ?_)
  · refine ll_iinc5 B dL_law_1067 rfl (by decide) ?_
    refine ll_goto (tgt := 18) B dL_law_1070 (by decide) ?_
    exact ll_sub (lv2 := [(0, .ref b), (1, .ref (ad 0)), (2, .ref (ad 37)), (3, .int (nI i + 5))]) ⟨rfl, rfl, rfl, rfl, trivial⟩ (by simp [Value.category]) (IH _ (op_sisters L0 (xs ((nI i) + 1).toNatClampNeg) (xs ((nI i) + 2).toNatClampNeg)).2.2)
  · exact absurd (op_sisters L0 (xs ((nI i) + 1).toNatClampNeg) (xs ((nI i) + 2).toNatClampNeg)).2.1 c362
set_option maxHeartbeats 4000000 in
set_option maxRecDepth 100000 in
theorem lw_c_past {p : Program} {l : Launch} {e : Env} {s : State} {m : MethodId} {below : List Frame} {meth : Method} {c : Code} {D : va_G} {ad : Nat → Nat} {cI cZ : ClassId} {t9 : Nat} {k : Bool} {b L : Nat} {xs : Nat → Int32} {i : Nat} {h : lh_HS} (B : lh_BL p s m meth c b L xs D ad cI cZ t9 k) (L0 : lh_INV k h) (hi5 : i + 5 ≤ L) (hL : L ≤ 2560) (IH : ∀ h : lh_HS, lh_INV k h → lh_LJ p l e s m below meth c D ad cI cZ k b 18 [(0, .ref b), (1, .ref (ad 0)), (2, .ref (ad 37)), (3, .int (nI i + 5))] [] h) : lh_LJ p l e s m below meth c D ad cI cZ k b 367 [(0, .ref b), (1, .ref (ad 0)), (2, .ref (ad 37)), (3, .int (nI i))] [] h := by
  refine ll_aload_n (i := 1) B dL_law_367 rfl rfl ?_
  refine ll_aload_n (i := 0) B dL_law_368 rfl rfl ?_
  refine ll_iload_n (i := 3) B dL_law_369 rfl rfl ?_
  refine ll_iconst (v := 1) B dL_law_370 (by decide) ?_
  refine ll_iadd B dL_law_371 ?_
  refine ll_sld B (ll_in (c := 1) (by omega) hL) dL_law_372 ?_
  refine ll_aload_n (i := 0) B dL_law_373 rfl rfl ?_
  refine ll_iload_n (i := 3) B dL_law_374 rfl rfl ?_
  refine ll_iconst (v := 2) B dL_law_375 (by decide) ?_
  refine ll_iadd B dL_law_376 ?_
  refine ll_sld B (ll_in (c := 2) (by omega) hL) dL_law_377 ?_
  refine ll_aload_n (i := 0) B dL_law_378 rfl rfl ?_
  refine ll_iload_n (i := 3) B dL_law_379 rfl rfl ?_
  refine ll_iconst (v := 3) B dL_law_380 (by decide) ?_
  refine ll_iadd B dL_law_381 ?_
  refine ll_sld B (ll_in (c := 3) (by omega) hL) dL_law_382 ?_
  refine ll_callVi (i := 0) B (ct_X8_past h (xs ((nI i) + 1).toNatClampNeg) (xs ((nI i) + 2).toNatClampNeg) (xs ((nI i) + 3).toNatClampNeg) L0.1) lk_L_38 (by decide) (lh_nc_lt (by decide)) rfl rfl rfl (by simp [Value.category]) dL_law_383 ?_
  refine ll_aload_n (i := 2) B dL_law_386 rfl rfl ?_
  refine ll_aload_n (i := 0) B dL_law_387 rfl rfl ?_
  refine ll_iload_n (i := 3) B dL_law_388 rfl rfl ?_
  refine ll_iconst (v := 1) B dL_law_389 (by decide) ?_
  refine ll_iadd B dL_law_390 ?_
  refine ll_sld B (ll_in (c := 1) (by omega) hL) dL_law_391 ?_
  refine ll_aload_n (i := 0) B dL_law_392 rfl rfl ?_
  refine ll_iload_n (i := 3) B dL_law_393 rfl rfl ?_
  refine ll_iconst (v := 2) B dL_law_394 (by decide) ?_
  refine ll_iadd B dL_law_395 ?_
  refine ll_sld B (ll_in (c := 2) (by omega) hL) dL_law_396 ?_
  refine ll_aload_n (i := 0) B dL_law_397 rfl rfl ?_
  refine ll_iload_n (i := 3) B dL_law_398 rfl rfl ?_
  refine ll_iconst (v := 3) B dL_law_399 (by decide) ?_
  refine ll_iadd B dL_law_400 ?_
  refine ll_sld B (ll_in (c := 3) (by omega) hL) dL_law_401 ?_
  refine ll_callVi (i := 37) B (ct_X9_past (gX8_past h (xs ((nI i) + 1).toNatClampNeg) (xs ((nI i) + 2).toNatClampNeg) (xs ((nI i) + 3).toNatClampNeg)) (xs ((nI i) + 1).toNatClampNeg) (xs ((nI i) + 2).toNatClampNeg) (xs ((nI i) + 3).toNatClampNeg) (op_past L0 (xs ((nI i) + 1).toNatClampNeg) (xs ((nI i) + 2).toNatClampNeg) (xs ((nI i) + 3).toNatClampNeg)).1) lk_L_41 (by decide) (lh_nc_lt (by decide)) rfl rfl rfl (by simp [Value.category]) dL_law_402 ?_
  refine ll_icmp_eq (tgt := 1067) B dL_law_405 (by decide) (fun c405 => ?_) (fun c405 => ?_)
  · refine ll_iinc5 B dL_law_1067 rfl (by decide) ?_
    refine ll_goto (tgt := 18) B dL_law_1070 (by decide) ?_
    exact ll_sub (lv2 := [(0, .ref b), (1, .ref (ad 0)), (2, .ref (ad 37)), (3, .int (nI i + 5))]) ⟨rfl, rfl, rfl, rfl, trivial⟩ (by simp [Value.category]) (IH _ (op_past L0 (xs ((nI i) + 1).toNatClampNeg) (xs ((nI i) + 2).toNatClampNeg) (xs ((nI i) + 3).toNatClampNeg)).2.2)
  · exact absurd (op_past L0 (xs ((nI i) + 1).toNatClampNeg) (xs ((nI i) + 2).toNatClampNeg) (xs ((nI i) + 3).toNatClampNeg)).2.1 c405
set_option maxHeartbeats 4000000 in
set_option maxRecDepth 100000 in
theorem lw_c_of {p : Program} {l : Launch} {e : Env} {s : State} {m : MethodId} {below : List Frame} {meth : Method} {c : Code} {D : va_G} {ad : Nat → Nat} {cI cZ : ClassId} {t9 : Nat} {k : Bool} {b L : Nat} {xs : Nat → Int32} {i : Nat} {h : lh_HS} (B : lh_BL p s m meth c b L xs D ad cI cZ t9 k) (L0 : lh_INV k h) (hi5 : i + 5 ≤ L) (hL : L ≤ 2560) (IH : ∀ h : lh_HS, lh_INV k h → lh_LJ p l e s m below meth c D ad cI cZ k b 18 [(0, .ref b), (1, .ref (ad 0)), (2, .ref (ad 37)), (3, .int (nI i + 5))] [] h) : lh_LJ p l e s m below meth c D ad cI cZ k b 410 [(0, .ref b), (1, .ref (ad 0)), (2, .ref (ad 37)), (3, .int (nI i))] [] h := by
  refine ll_aload_n (i := 1) B dL_law_410 rfl rfl ?_
  refine ll_aload_n (i := 0) B dL_law_411 rfl rfl ?_
  refine ll_iload_n (i := 3) B dL_law_412 rfl rfl ?_
  refine ll_iconst (v := 1) B dL_law_413 (by decide) ?_
  refine ll_iadd B dL_law_414 ?_
  refine ll_sld B (ll_in (c := 1) (by omega) hL) dL_law_415 ?_
  refine ll_aload_n (i := 0) B dL_law_416 rfl rfl ?_
  refine ll_iload_n (i := 3) B dL_law_417 rfl rfl ?_
  refine ll_iconst (v := 2) B dL_law_418 (by decide) ?_
  refine ll_iadd B dL_law_419 ?_
  refine ll_sld B (ll_in (c := 2) (by omega) hL) dL_law_420 ?_
  refine ll_callVi (i := 0) B (ct_X8_of h (xs ((nI i) + 1).toNatClampNeg) (xs ((nI i) + 2).toNatClampNeg) L0.1) lk_L_42 (by decide) (lh_nc_lt (by decide)) rfl rfl rfl (by simp [Value.category]) dL_law_421 ?_
  refine ll_aload_n (i := 2) B dL_law_424 rfl rfl ?_
  refine ll_aload_n (i := 0) B dL_law_425 rfl rfl ?_
  refine ll_iload_n (i := 3) B dL_law_426 rfl rfl ?_
  refine ll_iconst (v := 1) B dL_law_427 (by decide) ?_
  refine ll_iadd B dL_law_428 ?_
  refine ll_sld B (ll_in (c := 1) (by omega) hL) dL_law_429 ?_
  refine ll_aload_n (i := 0) B dL_law_430 rfl rfl ?_
  refine ll_iload_n (i := 3) B dL_law_431 rfl rfl ?_
  refine ll_iconst (v := 2) B dL_law_432 (by decide) ?_
  refine ll_iadd B dL_law_433 ?_
  refine ll_sld B (ll_in (c := 2) (by omega) hL) dL_law_434 ?_
  refine ll_callVi (i := 37) B (ct_X9_of (gX8_of h (xs ((nI i) + 1).toNatClampNeg) (xs ((nI i) + 2).toNatClampNeg)) (xs ((nI i) + 1).toNatClampNeg) (xs ((nI i) + 2).toNatClampNeg) (op_of L0 (xs ((nI i) + 1).toNatClampNeg) (xs ((nI i) + 2).toNatClampNeg)).1) lk_L_45 (by decide) (lh_nc_lt (by decide)) rfl rfl rfl (by simp [Value.category]) dL_law_435 ?_
  refine ll_icmp_eq (tgt := 1067) B dL_law_438 (by decide) (fun c438 => ?_) (fun c438 => ?_)
  · refine ll_iinc5 B dL_law_1067 rfl (by decide) ?_
    refine ll_goto (tgt := 18) B dL_law_1070 (by decide) ?_
    exact ll_sub (lv2 := [(0, .ref b), (1, .ref (ad 0)), (2, .ref (ad 37)), (3, .int (nI i + 5))]) ⟨rfl, rfl, rfl, rfl, trivial⟩ (by simp [Value.category]) (IH _ (op_of L0 (xs ((nI i) + 1).toNatClampNeg) (xs ((nI i) + 2).toNatClampNeg)).2.2)
  · exact absurd (op_of L0 (xs ((nI i) + 1).toNatClampNeg) (xs ((nI i) + 2).toNatClampNeg)).2.1 c438
set_option maxHeartbeats 4000000 in
set_option maxRecDepth 100000 in
theorem lw_c_show {p : Program} {l : Launch} {e : Env} {s : State} {m : MethodId} {below : List Frame} {meth : Method} {c : Code} {D : va_G} {ad : Nat → Nat} {cI cZ : ClassId} {t9 : Nat} {k : Bool} {b L : Nat} {xs : Nat → Int32} {i : Nat} {h : lh_HS} (B : lh_BL p s m meth c b L xs D ad cI cZ t9 k) (L0 : lh_INV k h) (hi5 : i + 5 ≤ L) (hL : L ≤ 2560) (IH : ∀ h : lh_HS, lh_INV k h → lh_LJ p l e s m below meth c D ad cI cZ k b 18 [(0, .ref b), (1, .ref (ad 0)), (2, .ref (ad 37)), (3, .int (nI i + 5))] [] h) : lh_LJ p l e s m below meth c D ad cI cZ k b 443 [(0, .ref b), (1, .ref (ad 0)), (2, .ref (ad 37)), (3, .int (nI i))] [] h := by
  refine ll_aload_n (i := 1) B dL_law_443 rfl rfl ?_
  refine ll_aload_n (i := 0) B dL_law_444 rfl rfl ?_
  refine ll_iload_n (i := 3) B dL_law_445 rfl rfl ?_
  refine ll_iconst (v := 1) B dL_law_446 (by decide) ?_
  refine ll_iadd B dL_law_447 ?_
  refine ll_sld B (ll_in (c := 1) (by omega) hL) dL_law_448 ?_
  refine ll_aload_n (i := 0) B dL_law_449 rfl rfl ?_
  refine ll_iload_n (i := 3) B dL_law_450 rfl rfl ?_
  refine ll_iconst (v := 2) B dL_law_451 (by decide) ?_
  refine ll_iadd B dL_law_452 ?_
  refine ll_sld B (ll_in (c := 2) (by omega) hL) dL_law_453 ?_
  refine ll_aload_n (i := 0) B dL_law_454 rfl rfl ?_
  refine ll_iload_n (i := 3) B dL_law_455 rfl rfl ?_
  refine ll_iconst (v := 3) B dL_law_456 (by decide) ?_
  refine ll_iadd B dL_law_457 ?_
  refine ll_sld B (ll_in (c := 3) (by omega) hL) dL_law_458 ?_
  refine ll_callVi (i := 0) B (ct_X8_show h (xs ((nI i) + 1).toNatClampNeg) (xs ((nI i) + 2).toNatClampNeg) (xs ((nI i) + 3).toNatClampNeg) L0.1) lk_L_46 (by decide) (lh_nc_lt (by decide)) rfl rfl rfl (by simp [Value.category]) dL_law_459 ?_
  refine ll_aload_n (i := 2) B dL_law_462 rfl rfl ?_
  refine ll_aload_n (i := 0) B dL_law_463 rfl rfl ?_
  refine ll_iload_n (i := 3) B dL_law_464 rfl rfl ?_
  refine ll_iconst (v := 1) B dL_law_465 (by decide) ?_
  refine ll_iadd B dL_law_466 ?_
  refine ll_sld B (ll_in (c := 1) (by omega) hL) dL_law_467 ?_
  refine ll_aload_n (i := 0) B dL_law_468 rfl rfl ?_
  refine ll_iload_n (i := 3) B dL_law_469 rfl rfl ?_
  refine ll_iconst (v := 2) B dL_law_470 (by decide) ?_
  refine ll_iadd B dL_law_471 ?_
  refine ll_sld B (ll_in (c := 2) (by omega) hL) dL_law_472 ?_
  refine ll_aload_n (i := 0) B dL_law_473 rfl rfl ?_
  refine ll_iload_n (i := 3) B dL_law_474 rfl rfl ?_
  refine ll_iconst (v := 3) B dL_law_475 (by decide) ?_
  refine ll_iadd B dL_law_476 ?_
  refine ll_sld B (ll_in (c := 3) (by omega) hL) dL_law_477 ?_
  refine ll_callVi (i := 37) B (ct_X9_show (gX8_show h (xs ((nI i) + 1).toNatClampNeg) (xs ((nI i) + 2).toNatClampNeg) (xs ((nI i) + 3).toNatClampNeg)) (xs ((nI i) + 1).toNatClampNeg) (xs ((nI i) + 2).toNatClampNeg) (xs ((nI i) + 3).toNatClampNeg) (op_show L0 (xs ((nI i) + 1).toNatClampNeg) (xs ((nI i) + 2).toNatClampNeg) (xs ((nI i) + 3).toNatClampNeg)).1) lk_L_49 (by decide) (lh_nc_lt (by decide)) rfl rfl rfl (by simp [Value.category]) dL_law_478 ?_
  refine ll_icmp_eq (tgt := 1067) B dL_law_481 (by decide) (fun c481 => ?_) (fun c481 => ?_)
  · refine ll_iinc5 B dL_law_1067 rfl (by decide) ?_
    refine ll_goto (tgt := 18) B dL_law_1070 (by decide) ?_
    exact ll_sub (lv2 := [(0, .ref b), (1, .ref (ad 0)), (2, .ref (ad 37)), (3, .int (nI i + 5))]) ⟨rfl, rfl, rfl, rfl, trivial⟩ (by simp [Value.category]) (IH _ (op_show L0 (xs ((nI i) + 1).toNatClampNeg) (xs ((nI i) + 2).toNatClampNeg) (xs ((nI i) + 3).toNatClampNeg)).2.2)
  · exact absurd (op_show L0 (xs ((nI i) + 1).toNatClampNeg) (xs ((nI i) + 2).toNatClampNeg) (xs ((nI i) + 3).toNatClampNeg)).2.1 c481
set_option maxHeartbeats 4000000 in
set_option maxRecDepth 100000 in
theorem lw_c_lend {p : Program} {l : Launch} {e : Env} {s : State} {m : MethodId} {below : List Frame} {meth : Method} {c : Code} {D : va_G} {ad : Nat → Nat} {cI cZ : ClassId} {t9 : Nat} {k : Bool} {b L : Nat} {xs : Nat → Int32} {i : Nat} {h : lh_HS} (B : lh_BL p s m meth c b L xs D ad cI cZ t9 k) (L0 : lh_INV k h) (hi5 : i + 5 ≤ L) (hL : L ≤ 2560) (IH : ∀ h : lh_HS, lh_INV k h → lh_LJ p l e s m below meth c D ad cI cZ k b 18 [(0, .ref b), (1, .ref (ad 0)), (2, .ref (ad 37)), (3, .int (nI i + 5))] [] h) : lh_LJ p l e s m below meth c D ad cI cZ k b 486 [(0, .ref b), (1, .ref (ad 0)), (2, .ref (ad 37)), (3, .int (nI i))] [] h := by
  refine ll_aload_n (i := 1) B dL_law_486 rfl rfl ?_
  refine ll_aload_n (i := 0) B dL_law_487 rfl rfl ?_
  refine ll_iload_n (i := 3) B dL_law_488 rfl rfl ?_
  refine ll_iconst (v := 1) B dL_law_489 (by decide) ?_
  refine ll_iadd B dL_law_490 ?_
  refine ll_sld B (ll_in (c := 1) (by omega) hL) dL_law_491 ?_
  refine ll_aload_n (i := 0) B dL_law_492 rfl rfl ?_
  refine ll_iload_n (i := 3) B dL_law_493 rfl rfl ?_
  refine ll_iconst (v := 2) B dL_law_494 (by decide) ?_
  refine ll_iadd B dL_law_495 ?_
  refine ll_sld B (ll_in (c := 2) (by omega) hL) dL_law_496 ?_
  refine ll_aload_n (i := 0) B dL_law_497 rfl rfl ?_
  refine ll_iload_n (i := 3) B dL_law_498 rfl rfl ?_
  refine ll_iconst (v := 3) B dL_law_499 (by decide) ?_
  refine ll_iadd B dL_law_500 ?_
  refine ll_sld B (ll_in (c := 3) (by omega) hL) dL_law_501 ?_
  refine ll_callVi (i := 0) B (ct_X8_lend h (xs ((nI i) + 1).toNatClampNeg) (xs ((nI i) + 2).toNatClampNeg) (xs ((nI i) + 3).toNatClampNeg) L0.1) lk_L_50 (by decide) (lh_nc_lt (by decide)) rfl rfl rfl (by simp [Value.category]) dL_law_502 ?_
  refine ll_aload_n (i := 2) B dL_law_505 rfl rfl ?_
  refine ll_aload_n (i := 0) B dL_law_506 rfl rfl ?_
  refine ll_iload_n (i := 3) B dL_law_507 rfl rfl ?_
  refine ll_iconst (v := 1) B dL_law_508 (by decide) ?_
  refine ll_iadd B dL_law_509 ?_
  refine ll_sld B (ll_in (c := 1) (by omega) hL) dL_law_510 ?_
  refine ll_aload_n (i := 0) B dL_law_511 rfl rfl ?_
  refine ll_iload_n (i := 3) B dL_law_512 rfl rfl ?_
  refine ll_iconst (v := 2) B dL_law_513 (by decide) ?_
  refine ll_iadd B dL_law_514 ?_
  refine ll_sld B (ll_in (c := 2) (by omega) hL) dL_law_515 ?_
  refine ll_aload_n (i := 0) B dL_law_516 rfl rfl ?_
  refine ll_iload_n (i := 3) B dL_law_517 rfl rfl ?_
  refine ll_iconst (v := 3) B dL_law_518 (by decide) ?_
  refine ll_iadd B dL_law_519 ?_
  refine ll_sld B (ll_in (c := 3) (by omega) hL) dL_law_520 ?_
  refine ll_callVi (i := 37) B (ct_X9_lend (gX8_lend h (xs ((nI i) + 1).toNatClampNeg) (xs ((nI i) + 2).toNatClampNeg) (xs ((nI i) + 3).toNatClampNeg)) (xs ((nI i) + 1).toNatClampNeg) (xs ((nI i) + 2).toNatClampNeg) (xs ((nI i) + 3).toNatClampNeg) (op_lend L0 (xs ((nI i) + 1).toNatClampNeg) (xs ((nI i) + 2).toNatClampNeg) (xs ((nI i) + 3).toNatClampNeg)).1) lk_L_53 (by decide) (lh_nc_lt (by decide)) rfl rfl rfl (by simp [Value.category]) dL_law_521 ?_
  refine ll_icmp_eq (tgt := 1067) B dL_law_524 (by decide) (fun c524 => ?_) (fun c524 => ?_)
  · refine ll_iinc5 B dL_law_1067 rfl (by decide) ?_
    refine ll_goto (tgt := 18) B dL_law_1070 (by decide) ?_
    exact ll_sub (lv2 := [(0, .ref b), (1, .ref (ad 0)), (2, .ref (ad 37)), (3, .int (nI i + 5))]) ⟨rfl, rfl, rfl, rfl, trivial⟩ (by simp [Value.category]) (IH _ (op_lend L0 (xs ((nI i) + 1).toNatClampNeg) (xs ((nI i) + 2).toNatClampNeg) (xs ((nI i) + 3).toNatClampNeg)).2.2)
  · exact absurd (op_lend L0 (xs ((nI i) + 1).toNatClampNeg) (xs ((nI i) + 2).toNatClampNeg) (xs ((nI i) + 3).toNatClampNeg)).2.1 c524
set_option maxHeartbeats 4000000 in
set_option maxRecDepth 100000 in
theorem lw_c_lacks {p : Program} {l : Launch} {e : Env} {s : State} {m : MethodId} {below : List Frame} {meth : Method} {c : Code} {D : va_G} {ad : Nat → Nat} {cI cZ : ClassId} {t9 : Nat} {k : Bool} {b L : Nat} {xs : Nat → Int32} {i : Nat} {h : lh_HS} (B : lh_BL p s m meth c b L xs D ad cI cZ t9 k) (L0 : lh_INV k h) (hi5 : i + 5 ≤ L) (hL : L ≤ 2560) (IH : ∀ h : lh_HS, lh_INV k h → lh_LJ p l e s m below meth c D ad cI cZ k b 18 [(0, .ref b), (1, .ref (ad 0)), (2, .ref (ad 37)), (3, .int (nI i + 5))] [] h) : lh_LJ p l e s m below meth c D ad cI cZ k b 529 [(0, .ref b), (1, .ref (ad 0)), (2, .ref (ad 37)), (3, .int (nI i))] [] h := by
  refine ll_aload_n (i := 1) B dL_law_529 rfl rfl ?_
  refine ll_aload_n (i := 0) B dL_law_530 rfl rfl ?_
  refine ll_iload_n (i := 3) B dL_law_531 rfl rfl ?_
  refine ll_iconst (v := 1) B dL_law_532 (by decide) ?_
  refine ll_iadd B dL_law_533 ?_
  refine ll_sld B (ll_in (c := 1) (by omega) hL) dL_law_534 ?_
  refine ll_aload_n (i := 0) B dL_law_535 rfl rfl ?_
  refine ll_iload_n (i := 3) B dL_law_536 rfl rfl ?_
  refine ll_iconst (v := 2) B dL_law_537 (by decide) ?_
  refine ll_iadd B dL_law_538 ?_
  refine ll_sld B (ll_in (c := 2) (by omega) hL) dL_law_539 ?_
  refine ll_callVi (i := 0) B (ct_X8_lacks h (xs ((nI i) + 1).toNatClampNeg) (xs ((nI i) + 2).toNatClampNeg) L0.1) lk_L_54 (by decide) (lh_nc_lt (by decide)) rfl rfl rfl (by simp [Value.category]) dL_law_540 ?_
  refine ll_aload_n (i := 2) B dL_law_543 rfl rfl ?_
  refine ll_aload_n (i := 0) B dL_law_544 rfl rfl ?_
  refine ll_iload_n (i := 3) B dL_law_545 rfl rfl ?_
  refine ll_iconst (v := 1) B dL_law_546 (by decide) ?_
  refine ll_iadd B dL_law_547 ?_
  refine ll_sld B (ll_in (c := 1) (by omega) hL) dL_law_548 ?_
  refine ll_aload_n (i := 0) B dL_law_549 rfl rfl ?_
  refine ll_iload_n (i := 3) B dL_law_550 rfl rfl ?_
  refine ll_iconst (v := 2) B dL_law_551 (by decide) ?_
  refine ll_iadd B dL_law_552 ?_
  refine ll_sld B (ll_in (c := 2) (by omega) hL) dL_law_553 ?_
  refine ll_callVi (i := 37) B (ct_X9_lacks (gX8_lacks h (xs ((nI i) + 1).toNatClampNeg) (xs ((nI i) + 2).toNatClampNeg)) (xs ((nI i) + 1).toNatClampNeg) (xs ((nI i) + 2).toNatClampNeg) (op_lacks L0 (xs ((nI i) + 1).toNatClampNeg) (xs ((nI i) + 2).toNatClampNeg)).1) lk_L_57 (by decide) (lh_nc_lt (by decide)) rfl rfl rfl (by simp [Value.category]) dL_law_554 ?_
  refine ll_icmp_eq (tgt := 1067) B dL_law_557 (by decide) (fun c557 => ?_) (fun c557 => ?_)
  · refine ll_iinc5 B dL_law_1067 rfl (by decide) ?_
    refine ll_goto (tgt := 18) B dL_law_1070 (by decide) ?_
    exact ll_sub (lv2 := [(0, .ref b), (1, .ref (ad 0)), (2, .ref (ad 37)), (3, .int (nI i + 5))]) ⟨rfl, rfl, rfl, rfl, trivial⟩ (by simp [Value.category]) (IH _ (op_lacks L0 (xs ((nI i) + 1).toNatClampNeg) (xs ((nI i) + 2).toNatClampNeg)).2.2)
  · exact absurd (op_lacks L0 (xs ((nI i) + 1).toNatClampNeg) (xs ((nI i) + 2).toNatClampNeg)).2.1 c557
set_option maxHeartbeats 4000000 in
set_option maxRecDepth 100000 in
theorem lw_c_cancel {p : Program} {l : Launch} {e : Env} {s : State} {m : MethodId} {below : List Frame} {meth : Method} {c : Code} {D : va_G} {ad : Nat → Nat} {cI cZ : ClassId} {t9 : Nat} {k : Bool} {b L : Nat} {xs : Nat → Int32} {i : Nat} {h : lh_HS} (B : lh_BL p s m meth c b L xs D ad cI cZ t9 k) (L0 : lh_INV k h) (hi5 : i + 5 ≤ L) (hL : L ≤ 2560) (IH : ∀ h : lh_HS, lh_INV k h → lh_LJ p l e s m below meth c D ad cI cZ k b 18 [(0, .ref b), (1, .ref (ad 0)), (2, .ref (ad 37)), (3, .int (nI i + 5))] [] h) : lh_LJ p l e s m below meth c D ad cI cZ k b 562 [(0, .ref b), (1, .ref (ad 0)), (2, .ref (ad 37)), (3, .int (nI i))] [] h := by
  refine ll_aload_n (i := 1) B dL_law_562 rfl rfl ?_
  refine ll_aload_n (i := 0) B dL_law_563 rfl rfl ?_
  refine ll_iload_n (i := 3) B dL_law_564 rfl rfl ?_
  refine ll_iconst (v := 1) B dL_law_565 (by decide) ?_
  refine ll_iadd B dL_law_566 ?_
  refine ll_sld B (ll_in (c := 1) (by omega) hL) dL_law_567 ?_
  refine ll_callVi (i := 0) B (ct_X8_cancel h (xs ((nI i) + 1).toNatClampNeg) L0.1) lk_L_58 (by decide) (lh_nc_lt (by decide)) rfl rfl rfl (by simp [Value.category]) dL_law_568 ?_
  refine ll_aload_n (i := 2) B dL_law_571 rfl rfl ?_
  refine ll_aload_n (i := 0) B dL_law_572 rfl rfl ?_
  refine ll_iload_n (i := 3) B dL_law_573 rfl rfl ?_
  refine ll_iconst (v := 1) B dL_law_574 (by decide) ?_
  refine ll_iadd B dL_law_575 ?_
  refine ll_sld B (ll_in (c := 1) (by omega) hL) dL_law_576 ?_
  refine ll_callVi (i := 37) B (ct_X9_cancel (gX8_cancel h (xs ((nI i) + 1).toNatClampNeg)) (xs ((nI i) + 1).toNatClampNeg) (op_cancel L0 (xs ((nI i) + 1).toNatClampNeg)).1) lk_L_61 (by decide) (lh_nc_lt (by decide)) rfl rfl rfl (by simp [Value.category]) dL_law_577 ?_
  refine ll_icmp_eq (tgt := 1067) B dL_law_580 (by decide) (fun c580 => ?_) (fun c580 => ?_)
  · refine ll_iinc5 B dL_law_1067 rfl (by decide) ?_
    refine ll_goto (tgt := 18) B dL_law_1070 (by decide) ?_
    exact ll_sub (lv2 := [(0, .ref b), (1, .ref (ad 0)), (2, .ref (ad 37)), (3, .int (nI i + 5))]) ⟨rfl, rfl, rfl, rfl, trivial⟩ (by simp [Value.category]) (IH _ (op_cancel L0 (xs ((nI i) + 1).toNatClampNeg)).2.2)
  · exact absurd (op_cancel L0 (xs ((nI i) + 1).toNatClampNeg)).2.1 c580
set_option maxHeartbeats 4000000 in
set_option maxRecDepth 100000 in
theorem lw_c_booking {p : Program} {l : Launch} {e : Env} {s : State} {m : MethodId} {below : List Frame} {meth : Method} {c : Code} {D : va_G} {ad : Nat → Nat} {cI cZ : ClassId} {t9 : Nat} {k : Bool} {b L : Nat} {xs : Nat → Int32} {i : Nat} {h : lh_HS} (B : lh_BL p s m meth c b L xs D ad cI cZ t9 k) (L0 : lh_INV k h) (hi5 : i + 5 ≤ L) (hL : L ≤ 2560) (IH : ∀ h : lh_HS, lh_INV k h → lh_LJ p l e s m below meth c D ad cI cZ k b 18 [(0, .ref b), (1, .ref (ad 0)), (2, .ref (ad 37)), (3, .int (nI i + 5))] [] h) : lh_LJ p l e s m below meth c D ad cI cZ k b 585 [(0, .ref b), (1, .ref (ad 0)), (2, .ref (ad 37)), (3, .int (nI i))] [] h := by
  refine ll_aload_n (i := 1) B dL_law_585 rfl rfl ?_
  refine ll_aload_n (i := 0) B dL_law_586 rfl rfl ?_
  refine ll_iload_n (i := 3) B dL_law_587 rfl rfl ?_
  refine ll_iconst (v := 1) B dL_law_588 (by decide) ?_
  refine ll_iadd B dL_law_589 ?_
  refine ll_sld B (ll_in (c := 1) (by omega) hL) dL_law_590 ?_
  refine ll_aload_n (i := 0) B dL_law_591 rfl rfl ?_
  refine ll_iload_n (i := 3) B dL_law_592 rfl rfl ?_
  refine ll_iconst (v := 2) B dL_law_593 (by decide) ?_
  refine ll_iadd B dL_law_594 ?_
  refine ll_sld B (ll_in (c := 2) (by omega) hL) dL_law_595 ?_
  refine ll_callVi (i := 0) B (ct_X8_booking h (xs ((nI i) + 1).toNatClampNeg) (xs ((nI i) + 2).toNatClampNeg) L0.1) lk_L_62 (by decide) (lh_nc_lt (by decide)) rfl rfl rfl (by simp [Value.category]) dL_law_596 ?_
  refine ll_aload_n (i := 2) B dL_law_599 rfl rfl ?_
  refine ll_aload_n (i := 0) B dL_law_600 rfl rfl ?_
  refine ll_iload_n (i := 3) B dL_law_601 rfl rfl ?_
  refine ll_iconst (v := 1) B dL_law_602 (by decide) ?_
  refine ll_iadd B dL_law_603 ?_
  refine ll_sld B (ll_in (c := 1) (by omega) hL) dL_law_604 ?_
  refine ll_aload_n (i := 0) B dL_law_605 rfl rfl ?_
  refine ll_iload_n (i := 3) B dL_law_606 rfl rfl ?_
  refine ll_iconst (v := 2) B dL_law_607 (by decide) ?_
  refine ll_iadd B dL_law_608 ?_
  refine ll_sld B (ll_in (c := 2) (by omega) hL) dL_law_609 ?_
  refine ll_callVi (i := 37) B (ct_X9_booking h (xs ((nI i) + 1).toNatClampNeg) (xs ((nI i) + 2).toNatClampNeg) (op_booking L0 (xs ((nI i) + 1).toNatClampNeg) (xs ((nI i) + 2).toNatClampNeg)).1) lk_L_65 (by decide) (lh_nc_lt (by decide)) rfl rfl rfl (by simp [Value.category]) dL_law_610 ?_
  refine ll_icmp_eq (tgt := 1067) B dL_law_613 (by decide) (fun c613 => ?_) (fun c613 => ?_)
  · refine ll_iinc5 B dL_law_1067 rfl (by decide) ?_
    refine ll_goto (tgt := 18) B dL_law_1070 (by decide) ?_
    exact ll_sub (lv2 := [(0, .ref b), (1, .ref (ad 0)), (2, .ref (ad 37)), (3, .int (nI i + 5))]) ⟨rfl, rfl, rfl, rfl, trivial⟩ (by simp [Value.category]) (IH _ (op_booking L0 (xs ((nI i) + 1).toNatClampNeg) (xs ((nI i) + 2).toNatClampNeg)).2.2)
  · exact absurd (op_booking L0 (xs ((nI i) + 1).toNatClampNeg) (xs ((nI i) + 2).toNatClampNeg)).2.1 c613
set_option maxHeartbeats 4000000 in
set_option maxRecDepth 100000 in
theorem lw_c_thread {p : Program} {l : Launch} {e : Env} {s : State} {m : MethodId} {below : List Frame} {meth : Method} {c : Code} {D : va_G} {ad : Nat → Nat} {cI cZ : ClassId} {t9 : Nat} {k : Bool} {b L : Nat} {xs : Nat → Int32} {i : Nat} {h : lh_HS} (B : lh_BL p s m meth c b L xs D ad cI cZ t9 k) (L0 : lh_INV k h) (hi5 : i + 5 ≤ L) (hL : L ≤ 2560) (IH : ∀ h : lh_HS, lh_INV k h → lh_LJ p l e s m below meth c D ad cI cZ k b 18 [(0, .ref b), (1, .ref (ad 0)), (2, .ref (ad 37)), (3, .int (nI i + 5))] [] h) : lh_LJ p l e s m below meth c D ad cI cZ k b 618 [(0, .ref b), (1, .ref (ad 0)), (2, .ref (ad 37)), (3, .int (nI i))] [] h := by
  refine ll_aload_n (i := 1) B dL_law_618 rfl rfl ?_
  refine ll_aload_n (i := 0) B dL_law_619 rfl rfl ?_
  refine ll_iload_n (i := 3) B dL_law_620 rfl rfl ?_
  refine ll_iconst (v := 1) B dL_law_621 (by decide) ?_
  refine ll_iadd B dL_law_622 ?_
  refine ll_sld B (ll_in (c := 1) (by omega) hL) dL_law_623 ?_
  refine ll_aload_n (i := 0) B dL_law_624 rfl rfl ?_
  refine ll_iload_n (i := 3) B dL_law_625 rfl rfl ?_
  refine ll_iconst (v := 2) B dL_law_626 (by decide) ?_
  refine ll_iadd B dL_law_627 ?_
  refine ll_sld B (ll_in (c := 2) (by omega) hL) dL_law_628 ?_
  refine ll_aload_n (i := 0) B dL_law_629 rfl rfl ?_
  refine ll_iload_n (i := 3) B dL_law_630 rfl rfl ?_
  refine ll_iconst (v := 3) B dL_law_631 (by decide) ?_
  refine ll_iadd B dL_law_632 ?_
  refine ll_sld B (ll_in (c := 3) (by omega) hL) dL_law_633 ?_
  refine ll_callVi (i := 0) B (ct_X8_thread h (xs ((nI i) + 1).toNatClampNeg) (xs ((nI i) + 2).toNatClampNeg) (xs ((nI i) + 3).toNatClampNeg) L0.1) lk_L_66 (by decide) (lh_nc_lt (by decide)) rfl rfl rfl (by simp [Value.category]) dL_law_634 ?_
  refine ll_aload_n (i := 2) B dL_law_637 rfl rfl ?_
  refine ll_aload_n (i := 0) B dL_law_638 rfl rfl ?_
  refine ll_iload_n (i := 3) B dL_law_639 rfl rfl ?_
  refine ll_iconst (v := 1) B dL_law_640 (by decide) ?_
  refine ll_iadd B dL_law_641 ?_
  refine ll_sld B (ll_in (c := 1) (by omega) hL) dL_law_642 ?_
  refine ll_aload_n (i := 0) B dL_law_643 rfl rfl ?_
  refine ll_iload_n (i := 3) B dL_law_644 rfl rfl ?_
  refine ll_iconst (v := 2) B dL_law_645 (by decide) ?_
  refine ll_iadd B dL_law_646 ?_
  refine ll_sld B (ll_in (c := 2) (by omega) hL) dL_law_647 ?_
  refine ll_aload_n (i := 0) B dL_law_648 rfl rfl ?_
  refine ll_iload_n (i := 3) B dL_law_649 rfl rfl ?_
  refine ll_iconst (v := 3) B dL_law_650 (by decide) ?_
  refine ll_iadd B dL_law_651 ?_
  refine ll_sld B (ll_in (c := 3) (by omega) hL) dL_law_652 ?_
  refine ll_callVi (i := 37) B (ct_X9_thread (gX8_thread h (xs ((nI i) + 1).toNatClampNeg) (xs ((nI i) + 2).toNatClampNeg) (xs ((nI i) + 3).toNatClampNeg)) (xs ((nI i) + 1).toNatClampNeg) (xs ((nI i) + 2).toNatClampNeg) (xs ((nI i) + 3).toNatClampNeg) (op_thread L0 (xs ((nI i) + 1).toNatClampNeg) (xs ((nI i) + 2).toNatClampNeg) (xs ((nI i) + 3).toNatClampNeg)).1) lk_L_69 (by decide) (lh_nc_lt (by decide)) rfl rfl rfl (by simp [Value.category]) dL_law_653 ?_
  refine ll_icmp_eq (tgt := 1067) B dL_law_656 (by decide) (fun c656 => ?_) (fun c656 => ?_)
  · refine ll_iinc5 B dL_law_1067 rfl (by decide) ?_
    refine ll_goto (tgt := 18) B dL_law_1070 (by decide) ?_
    exact ll_sub (lv2 := [(0, .ref b), (1, .ref (ad 0)), (2, .ref (ad 37)), (3, .int (nI i + 5))]) ⟨rfl, rfl, rfl, rfl, trivial⟩ (by simp [Value.category]) (IH _ (op_thread L0 (xs ((nI i) + 1).toNatClampNeg) (xs ((nI i) + 2).toNatClampNeg) (xs ((nI i) + 3).toNatClampNeg)).2.2)
  · exact absurd (op_thread L0 (xs ((nI i) + 1).toNatClampNeg) (xs ((nI i) + 2).toNatClampNeg) (xs ((nI i) + 3).toNatClampNeg)).2.1 c656
set_option maxHeartbeats 4000000 in
set_option maxRecDepth 100000 in
theorem lw_c_cut {p : Program} {l : Launch} {e : Env} {s : State} {m : MethodId} {below : List Frame} {meth : Method} {c : Code} {D : va_G} {ad : Nat → Nat} {cI cZ : ClassId} {t9 : Nat} {k : Bool} {b L : Nat} {xs : Nat → Int32} {i : Nat} {h : lh_HS} (B : lh_BL p s m meth c b L xs D ad cI cZ t9 k) (L0 : lh_INV k h) (hi5 : i + 5 ≤ L) (hL : L ≤ 2560) (IH : ∀ h : lh_HS, lh_INV k h → lh_LJ p l e s m below meth c D ad cI cZ k b 18 [(0, .ref b), (1, .ref (ad 0)), (2, .ref (ad 37)), (3, .int (nI i + 5))] [] h) : lh_LJ p l e s m below meth c D ad cI cZ k b 661 [(0, .ref b), (1, .ref (ad 0)), (2, .ref (ad 37)), (3, .int (nI i))] [] h := by
  refine ll_aload_n (i := 1) B dL_law_661 rfl rfl ?_
  refine ll_callVi (i := 0) B (ct_X8_cut h  L0.1) lk_L_70 (by decide) (lh_nc_lt (by decide)) rfl rfl rfl (by simp [Value.category]) dL_law_662 ?_
  refine ll_aload_n (i := 2) B dL_law_665 rfl rfl ?_
  refine ll_callVi (i := 37) B (ct_X9_cut (gX8_cut h )  (op_cut L0).1) lk_L_74 (by decide) (lh_nc_lt (by decide)) rfl rfl rfl (by simp [Value.category]) dL_law_666 ?_
  refine ll_icmp_eq (tgt := 1067) B dL_law_669 (by decide) (fun c669 => ?_) (fun c669 => ?_)
  · refine ll_iinc5 B dL_law_1067 rfl (by decide) ?_
    refine ll_goto (tgt := 18) B dL_law_1070 (by decide) ?_
    exact ll_sub (lv2 := [(0, .ref b), (1, .ref (ad 0)), (2, .ref (ad 37)), (3, .int (nI i + 5))]) ⟨rfl, rfl, rfl, rfl, trivial⟩ (by simp [Value.category]) (IH _ (op_cut L0).2.2)
  · exact absurd (op_cut L0).2.1 c669
set_option maxHeartbeats 4000000 in
set_option maxRecDepth 100000 in
theorem lw_c_pastOf {p : Program} {l : Launch} {e : Env} {s : State} {m : MethodId} {below : List Frame} {meth : Method} {c : Code} {D : va_G} {ad : Nat → Nat} {cI cZ : ClassId} {t9 : Nat} {k : Bool} {b L : Nat} {xs : Nat → Int32} {i : Nat} {h : lh_HS} (B : lh_BL p s m meth c b L xs D ad cI cZ t9 k) (L0 : lh_INV k h) (hi5 : i + 5 ≤ L) (hL : L ≤ 2560) (IH : ∀ h : lh_HS, lh_INV k h → lh_LJ p l e s m below meth c D ad cI cZ k b 18 [(0, .ref b), (1, .ref (ad 0)), (2, .ref (ad 37)), (3, .int (nI i + 5))] [] h) : lh_LJ p l e s m below meth c D ad cI cZ k b 674 [(0, .ref b), (1, .ref (ad 0)), (2, .ref (ad 37)), (3, .int (nI i))] [] h := by
  refine ll_aload_n (i := 1) B dL_law_674 rfl rfl ?_
  refine ll_aload_n (i := 0) B dL_law_675 rfl rfl ?_
  refine ll_iload_n (i := 3) B dL_law_676 rfl rfl ?_
  refine ll_iconst (v := 1) B dL_law_677 (by decide) ?_
  refine ll_iadd B dL_law_678 ?_
  refine ll_sld B (ll_in (c := 1) (by omega) hL) dL_law_679 ?_
  refine ll_aload_n (i := 0) B dL_law_680 rfl rfl ?_
  refine ll_iload_n (i := 3) B dL_law_681 rfl rfl ?_
  refine ll_iconst (v := 2) B dL_law_682 (by decide) ?_
  refine ll_iadd B dL_law_683 ?_
  refine ll_sld B (ll_in (c := 2) (by omega) hL) dL_law_684 ?_
  refine ll_if_eq (tgt := 692) B dL_law_685 (by decide) (fun c685 => ?_) (fun c685 => ?_)
  · refine ll_iconst (v := 0) B dL_law_692 (by decide) ?_
    refine ll_callVi (i := 0) B (ct_X8_pastOf h (xs ((nI i) + 1).toNatClampNeg) 0 L0.1) lk_L_75 (by decide) (lh_nc_lt (by decide)) rfl rfl rfl (by simp [Value.category]) dL_law_693 ?_
    refine ll_aload_n (i := 2) B dL_law_696 rfl rfl ?_
    refine ll_aload_n (i := 0) B dL_law_697 rfl rfl ?_
    refine ll_iload_n (i := 3) B dL_law_698 rfl rfl ?_
    refine ll_iconst (v := 1) B dL_law_699 (by decide) ?_
    refine ll_iadd B dL_law_700 ?_
    refine ll_sld B (ll_in (c := 1) (by omega) hL) dL_law_701 ?_
    refine ll_aload_n (i := 0) B dL_law_702 rfl rfl ?_
    refine ll_iload_n (i := 3) B dL_law_703 rfl rfl ?_
    refine ll_iconst (v := 2) B dL_law_704 (by decide) ?_
    refine ll_iadd B dL_law_705 ?_
    refine ll_sld B (ll_in (c := 2) (by omega) hL) dL_law_706 ?_
    refine ll_if_eq (tgt := 714) B dL_law_707 (by decide) (fun c707 => ?_) (fun c707 => ?_)
    · refine ll_iconst (v := 0) B dL_law_714 (by decide) ?_
      refine ll_callVi (i := 37) B (ct_X9_pastOf (gX8_pastOf h (xs ((nI i) + 1).toNatClampNeg) 0) (xs ((nI i) + 1).toNatClampNeg) 0 (op_pastOf L0 (xs ((nI i) + 1).toNatClampNeg) 0).1) lk_L_79 (by decide) (lh_nc_lt (by decide)) rfl rfl rfl (by simp [Value.category]) dL_law_715 ?_
      refine ll_icmp_eq (tgt := 1067) B dL_law_718 (by decide) (fun c718 => ?_) (fun c718 => ?_)
      · refine ll_iinc5 B dL_law_1067 rfl (by decide) ?_
        refine ll_goto (tgt := 18) B dL_law_1070 (by decide) ?_
        exact ll_sub (lv2 := [(0, .ref b), (1, .ref (ad 0)), (2, .ref (ad 37)), (3, .int (nI i + 5))]) ⟨rfl, rfl, rfl, rfl, trivial⟩ (by simp [Value.category]) (IH _ (op_pastOf L0 (xs ((nI i) + 1).toNatClampNeg) 0).2.2)
      · exact absurd (op_pastOf L0 (xs ((nI i) + 1).toNatClampNeg) 0).2.1 c718
    · exact absurd c685 c707
  · refine ll_iconst (v := 1) B dL_law_688 (by decide) ?_
    refine ll_goto (tgt := 693) B dL_law_689 (by decide) ?_
    refine ll_callVi (i := 0) B (ct_X8_pastOf h (xs ((nI i) + 1).toNatClampNeg) 1 L0.1) lk_L_75 (by decide) (lh_nc_lt (by decide)) rfl rfl rfl (by simp [Value.category]) dL_law_693 ?_
    refine ll_aload_n (i := 2) B dL_law_696 rfl rfl ?_
    refine ll_aload_n (i := 0) B dL_law_697 rfl rfl ?_
    refine ll_iload_n (i := 3) B dL_law_698 rfl rfl ?_
    refine ll_iconst (v := 1) B dL_law_699 (by decide) ?_
    refine ll_iadd B dL_law_700 ?_
    refine ll_sld B (ll_in (c := 1) (by omega) hL) dL_law_701 ?_
    refine ll_aload_n (i := 0) B dL_law_702 rfl rfl ?_
    refine ll_iload_n (i := 3) B dL_law_703 rfl rfl ?_
    refine ll_iconst (v := 2) B dL_law_704 (by decide) ?_
    refine ll_iadd B dL_law_705 ?_
    refine ll_sld B (ll_in (c := 2) (by omega) hL) dL_law_706 ?_
    refine ll_if_eq (tgt := 714) B dL_law_707 (by decide) (fun c707 => ?_) (fun c707 => ?_)
    · exact absurd c707 c685
    · refine ll_iconst (v := 1) B dL_law_710 (by decide) ?_
      refine ll_goto (tgt := 715) B dL_law_711 (by decide) ?_
      refine ll_callVi (i := 37) B (ct_X9_pastOf (gX8_pastOf h (xs ((nI i) + 1).toNatClampNeg) 1) (xs ((nI i) + 1).toNatClampNeg) 1 (op_pastOf L0 (xs ((nI i) + 1).toNatClampNeg) 1).1) lk_L_79 (by decide) (lh_nc_lt (by decide)) rfl rfl rfl (by simp [Value.category]) dL_law_715 ?_
      refine ll_icmp_eq (tgt := 1067) B dL_law_718 (by decide) (fun c718 => ?_) (fun c718 => ?_)
      · refine ll_iinc5 B dL_law_1067 rfl (by decide) ?_
        refine ll_goto (tgt := 18) B dL_law_1070 (by decide) ?_
        exact ll_sub (lv2 := [(0, .ref b), (1, .ref (ad 0)), (2, .ref (ad 37)), (3, .int (nI i + 5))]) ⟨rfl, rfl, rfl, rfl, trivial⟩ (by simp [Value.category]) (IH _ (op_pastOf L0 (xs ((nI i) + 1).toNatClampNeg) 1).2.2)
      · exact absurd (op_pastOf L0 (xs ((nI i) + 1).toNatClampNeg) 1).2.1 c718
set_option maxHeartbeats 4000000 in
set_option maxRecDepth 100000 in
theorem lw_c_spent {p : Program} {l : Launch} {e : Env} {s : State} {m : MethodId} {below : List Frame} {meth : Method} {c : Code} {D : va_G} {ad : Nat → Nat} {cI cZ : ClassId} {t9 : Nat} {k : Bool} {b L : Nat} {xs : Nat → Int32} {i : Nat} {h : lh_HS} (B : lh_BL p s m meth c b L xs D ad cI cZ t9 k) (L0 : lh_INV k h) (hi5 : i + 5 ≤ L) (hL : L ≤ 2560) (IH : ∀ h : lh_HS, lh_INV k h → lh_LJ p l e s m below meth c D ad cI cZ k b 18 [(0, .ref b), (1, .ref (ad 0)), (2, .ref (ad 37)), (3, .int (nI i + 5))] [] h) : lh_LJ p l e s m below meth c D ad cI cZ k b 723 [(0, .ref b), (1, .ref (ad 0)), (2, .ref (ad 37)), (3, .int (nI i))] [] h := by
  refine ll_aload_n (i := 1) B dL_law_723 rfl rfl ?_
  refine ll_aload_n (i := 0) B dL_law_724 rfl rfl ?_
  refine ll_iload_n (i := 3) B dL_law_725 rfl rfl ?_
  refine ll_iconst (v := 1) B dL_law_726 (by decide) ?_
  refine ll_iadd B dL_law_727 ?_
  refine ll_sld B (ll_in (c := 1) (by omega) hL) dL_law_728 ?_
  refine ll_aload_n (i := 0) B dL_law_729 rfl rfl ?_
  refine ll_iload_n (i := 3) B dL_law_730 rfl rfl ?_
  refine ll_iconst (v := 2) B dL_law_731 (by decide) ?_
  refine ll_iadd B dL_law_732 ?_
  refine ll_sld B (ll_in (c := 2) (by omega) hL) dL_law_733 ?_
  refine ll_aload_n (i := 0) B dL_law_734 rfl rfl ?_
  refine ll_iload_n (i := 3) B dL_law_735 rfl rfl ?_
  refine ll_iconst (v := 3) B dL_law_736 (by decide) ?_
  refine ll_iadd B dL_law_737 ?_
  refine ll_sld B (ll_in (c := 3) (by omega) hL) dL_law_738 ?_
  refine ll_if_eq (tgt := 746) B dL_law_739 (by decide) (fun c739 => ?_) (fun c739 => ?_)
  · refine ll_iconst (v := 0) B dL_law_746 (by decide) ?_
    refine ll_callVi (i := 0) B (ct_X8_spent h (xs ((nI i) + 1).toNatClampNeg) (xs ((nI i) + 2).toNatClampNeg) 0 L0.1) lk_L_80 (by decide) (lh_nc_lt (by decide)) rfl rfl rfl (by simp [Value.category]) dL_law_747 ?_
    refine ll_aload_n (i := 2) B dL_law_750 rfl rfl ?_
    refine ll_aload_n (i := 0) B dL_law_751 rfl rfl ?_
    refine ll_iload_n (i := 3) B dL_law_752 rfl rfl ?_
    refine ll_iconst (v := 1) B dL_law_753 (by decide) ?_
    refine ll_iadd B dL_law_754 ?_
    refine ll_sld B (ll_in (c := 1) (by omega) hL) dL_law_755 ?_
    refine ll_aload_n (i := 0) B dL_law_756 rfl rfl ?_
    refine ll_iload_n (i := 3) B dL_law_757 rfl rfl ?_
    refine ll_iconst (v := 2) B dL_law_758 (by decide) ?_
    refine ll_iadd B dL_law_759 ?_
    refine ll_sld B (ll_in (c := 2) (by omega) hL) dL_law_760 ?_
    refine ll_aload_n (i := 0) B dL_law_761 rfl rfl ?_
    refine ll_iload_n (i := 3) B dL_law_762 rfl rfl ?_
    refine ll_iconst (v := 3) B dL_law_763 (by decide) ?_
    refine ll_iadd B dL_law_764 ?_
    refine ll_sld B (ll_in (c := 3) (by omega) hL) dL_law_765 ?_
    refine ll_if_eq (tgt := 773) B dL_law_766 (by decide) (fun c766 => ?_) (fun c766 => ?_)
    · refine ll_iconst (v := 0) B dL_law_773 (by decide) ?_
      refine ll_callVi (i := 37) B (ct_X9_spent (gX8_spent h (xs ((nI i) + 1).toNatClampNeg) (xs ((nI i) + 2).toNatClampNeg) 0) (xs ((nI i) + 1).toNatClampNeg) (xs ((nI i) + 2).toNatClampNeg) 0 (op_spent L0 (xs ((nI i) + 1).toNatClampNeg) (xs ((nI i) + 2).toNatClampNeg) 0).1) lk_L_83 (by decide) (lh_nc_lt (by decide)) rfl rfl rfl (by simp [Value.category]) dL_law_774 ?_
      refine ll_icmp_eq (tgt := 1067) B dL_law_777 (by decide) (fun c777 => ?_) (fun c777 => ?_)
      · refine ll_iinc5 B dL_law_1067 rfl (by decide) ?_
        refine ll_goto (tgt := 18) B dL_law_1070 (by decide) ?_
        exact ll_sub (lv2 := [(0, .ref b), (1, .ref (ad 0)), (2, .ref (ad 37)), (3, .int (nI i + 5))]) ⟨rfl, rfl, rfl, rfl, trivial⟩ (by simp [Value.category]) (IH _ (op_spent L0 (xs ((nI i) + 1).toNatClampNeg) (xs ((nI i) + 2).toNatClampNeg) 0).2.2)
      · exact absurd (op_spent L0 (xs ((nI i) + 1).toNatClampNeg) (xs ((nI i) + 2).toNatClampNeg) 0).2.1 c777
    · exact absurd c739 c766
  · refine ll_iconst (v := 1) B dL_law_742 (by decide) ?_
    refine ll_goto (tgt := 747) B dL_law_743 (by decide) ?_
    refine ll_callVi (i := 0) B (ct_X8_spent h (xs ((nI i) + 1).toNatClampNeg) (xs ((nI i) + 2).toNatClampNeg) 1 L0.1) lk_L_80 (by decide) (lh_nc_lt (by decide)) rfl rfl rfl (by simp [Value.category]) dL_law_747 ?_
    refine ll_aload_n (i := 2) B dL_law_750 rfl rfl ?_
    refine ll_aload_n (i := 0) B dL_law_751 rfl rfl ?_
    refine ll_iload_n (i := 3) B dL_law_752 rfl rfl ?_
    refine ll_iconst (v := 1) B dL_law_753 (by decide) ?_
    refine ll_iadd B dL_law_754 ?_
    refine ll_sld B (ll_in (c := 1) (by omega) hL) dL_law_755 ?_
    refine ll_aload_n (i := 0) B dL_law_756 rfl rfl ?_
    refine ll_iload_n (i := 3) B dL_law_757 rfl rfl ?_
    refine ll_iconst (v := 2) B dL_law_758 (by decide) ?_
    refine ll_iadd B dL_law_759 ?_
    refine ll_sld B (ll_in (c := 2) (by omega) hL) dL_law_760 ?_
    refine ll_aload_n (i := 0) B dL_law_761 rfl rfl ?_
    refine ll_iload_n (i := 3) B dL_law_762 rfl rfl ?_
    refine ll_iconst (v := 3) B dL_law_763 (by decide) ?_
    refine ll_iadd B dL_law_764 ?_
    refine ll_sld B (ll_in (c := 3) (by omega) hL) dL_law_765 ?_
    refine ll_if_eq (tgt := 773) B dL_law_766 (by decide) (fun c766 => ?_) (fun c766 => ?_)
    · exact absurd c766 c739
    · refine ll_iconst (v := 1) B dL_law_769 (by decide) ?_
      refine ll_goto (tgt := 774) B dL_law_770 (by decide) ?_
      refine ll_callVi (i := 37) B (ct_X9_spent (gX8_spent h (xs ((nI i) + 1).toNatClampNeg) (xs ((nI i) + 2).toNatClampNeg) 1) (xs ((nI i) + 1).toNatClampNeg) (xs ((nI i) + 2).toNatClampNeg) 1 (op_spent L0 (xs ((nI i) + 1).toNatClampNeg) (xs ((nI i) + 2).toNatClampNeg) 1).1) lk_L_83 (by decide) (lh_nc_lt (by decide)) rfl rfl rfl (by simp [Value.category]) dL_law_774 ?_
      refine ll_icmp_eq (tgt := 1067) B dL_law_777 (by decide) (fun c777 => ?_) (fun c777 => ?_)
      · refine ll_iinc5 B dL_law_1067 rfl (by decide) ?_
        refine ll_goto (tgt := 18) B dL_law_1070 (by decide) ?_
        exact ll_sub (lv2 := [(0, .ref b), (1, .ref (ad 0)), (2, .ref (ad 37)), (3, .int (nI i + 5))]) ⟨rfl, rfl, rfl, rfl, trivial⟩ (by simp [Value.category]) (IH _ (op_spent L0 (xs ((nI i) + 1).toNatClampNeg) (xs ((nI i) + 2).toNatClampNeg) 1).2.2)
      · exact absurd (op_spent L0 (xs ((nI i) + 1).toNatClampNeg) (xs ((nI i) + 2).toNatClampNeg) 1).2.1 c777
set_option maxHeartbeats 4000000 in
set_option maxRecDepth 100000 in
theorem lw_c_left {p : Program} {l : Launch} {e : Env} {s : State} {m : MethodId} {below : List Frame} {meth : Method} {c : Code} {D : va_G} {ad : Nat → Nat} {cI cZ : ClassId} {t9 : Nat} {k : Bool} {b L : Nat} {xs : Nat → Int32} {i : Nat} {h : lh_HS} (B : lh_BL p s m meth c b L xs D ad cI cZ t9 k) (L0 : lh_INV k h) (hi5 : i + 5 ≤ L) (hL : L ≤ 2560) (IH : ∀ h : lh_HS, lh_INV k h → lh_LJ p l e s m below meth c D ad cI cZ k b 18 [(0, .ref b), (1, .ref (ad 0)), (2, .ref (ad 37)), (3, .int (nI i + 5))] [] h) : lh_LJ p l e s m below meth c D ad cI cZ k b 782 [(0, .ref b), (1, .ref (ad 0)), (2, .ref (ad 37)), (3, .int (nI i))] [] h := by
  refine ll_aload_n (i := 1) B dL_law_782 rfl rfl ?_
  refine ll_aload_n (i := 0) B dL_law_783 rfl rfl ?_
  refine ll_iload_n (i := 3) B dL_law_784 rfl rfl ?_
  refine ll_iconst (v := 1) B dL_law_785 (by decide) ?_
  refine ll_iadd B dL_law_786 ?_
  refine ll_sld B (ll_in (c := 1) (by omega) hL) dL_law_787 ?_
  refine ll_aload_n (i := 0) B dL_law_788 rfl rfl ?_
  refine ll_iload_n (i := 3) B dL_law_789 rfl rfl ?_
  refine ll_iconst (v := 2) B dL_law_790 (by decide) ?_
  refine ll_iadd B dL_law_791 ?_
  refine ll_sld B (ll_in (c := 2) (by omega) hL) dL_law_792 ?_
  refine ll_if_eq (tgt := 800) B dL_law_793 (by decide) (fun c793 => ?_) (fun c793 => ?_)
  · refine ll_iconst (v := 0) B dL_law_800 (by decide) ?_
    refine ll_callVi (i := 0) B (ct_X8_left h (xs ((nI i) + 1).toNatClampNeg) 0 L0.1) lk_L_84 (by decide) (lh_nc_lt (by decide)) rfl rfl rfl (by simp [Value.category]) dL_law_801 ?_
    refine ll_aload_n (i := 2) B dL_law_804 rfl rfl ?_
    refine ll_aload_n (i := 0) B dL_law_805 rfl rfl ?_
    refine ll_iload_n (i := 3) B dL_law_806 rfl rfl ?_
    refine ll_iconst (v := 1) B dL_law_807 (by decide) ?_
    refine ll_iadd B dL_law_808 ?_
    refine ll_sld B (ll_in (c := 1) (by omega) hL) dL_law_809 ?_
    refine ll_aload_n (i := 0) B dL_law_810 rfl rfl ?_
    refine ll_iload_n (i := 3) B dL_law_811 rfl rfl ?_
    refine ll_iconst (v := 2) B dL_law_812 (by decide) ?_
    refine ll_iadd B dL_law_813 ?_
    refine ll_sld B (ll_in (c := 2) (by omega) hL) dL_law_814 ?_
    refine ll_if_eq (tgt := 822) B dL_law_815 (by decide) (fun c815 => ?_) (fun c815 => ?_)
    · refine ll_iconst (v := 0) B dL_law_822 (by decide) ?_
      refine ll_callVi (i := 37) B (ct_X9_left (gX8_left h (xs ((nI i) + 1).toNatClampNeg) 0) (xs ((nI i) + 1).toNatClampNeg) 0 (op_left L0 (xs ((nI i) + 1).toNatClampNeg) 0).1) lk_L_87 (by decide) (lh_nc_lt (by decide)) rfl rfl rfl (by simp [Value.category]) dL_law_823 ?_
      refine ll_icmp_eq (tgt := 1067) B dL_law_826 (by decide) (fun c826 => ?_) (fun c826 => ?_)
      · refine ll_iinc5 B dL_law_1067 rfl (by decide) ?_
        refine ll_goto (tgt := 18) B dL_law_1070 (by decide) ?_
        exact ll_sub (lv2 := [(0, .ref b), (1, .ref (ad 0)), (2, .ref (ad 37)), (3, .int (nI i + 5))]) ⟨rfl, rfl, rfl, rfl, trivial⟩ (by simp [Value.category]) (IH _ (op_left L0 (xs ((nI i) + 1).toNatClampNeg) 0).2.2)
      · exact absurd (op_left L0 (xs ((nI i) + 1).toNatClampNeg) 0).2.1 c826
    · exact absurd c793 c815
  · refine ll_iconst (v := 1) B dL_law_796 (by decide) ?_
    refine ll_goto (tgt := 801) B dL_law_797 (by decide) ?_
    refine ll_callVi (i := 0) B (ct_X8_left h (xs ((nI i) + 1).toNatClampNeg) 1 L0.1) lk_L_84 (by decide) (lh_nc_lt (by decide)) rfl rfl rfl (by simp [Value.category]) dL_law_801 ?_
    refine ll_aload_n (i := 2) B dL_law_804 rfl rfl ?_
    refine ll_aload_n (i := 0) B dL_law_805 rfl rfl ?_
    refine ll_iload_n (i := 3) B dL_law_806 rfl rfl ?_
    refine ll_iconst (v := 1) B dL_law_807 (by decide) ?_
    refine ll_iadd B dL_law_808 ?_
    refine ll_sld B (ll_in (c := 1) (by omega) hL) dL_law_809 ?_
    refine ll_aload_n (i := 0) B dL_law_810 rfl rfl ?_
    refine ll_iload_n (i := 3) B dL_law_811 rfl rfl ?_
    refine ll_iconst (v := 2) B dL_law_812 (by decide) ?_
    refine ll_iadd B dL_law_813 ?_
    refine ll_sld B (ll_in (c := 2) (by omega) hL) dL_law_814 ?_
    refine ll_if_eq (tgt := 822) B dL_law_815 (by decide) (fun c815 => ?_) (fun c815 => ?_)
    · exact absurd c815 c793
    · refine ll_iconst (v := 1) B dL_law_818 (by decide) ?_
      refine ll_goto (tgt := 823) B dL_law_819 (by decide) ?_
      refine ll_callVi (i := 37) B (ct_X9_left (gX8_left h (xs ((nI i) + 1).toNatClampNeg) 1) (xs ((nI i) + 1).toNatClampNeg) 1 (op_left L0 (xs ((nI i) + 1).toNatClampNeg) 1).1) lk_L_87 (by decide) (lh_nc_lt (by decide)) rfl rfl rfl (by simp [Value.category]) dL_law_823 ?_
      refine ll_icmp_eq (tgt := 1067) B dL_law_826 (by decide) (fun c826 => ?_) (fun c826 => ?_)
      · refine ll_iinc5 B dL_law_1067 rfl (by decide) ?_
        refine ll_goto (tgt := 18) B dL_law_1070 (by decide) ?_
        exact ll_sub (lv2 := [(0, .ref b), (1, .ref (ad 0)), (2, .ref (ad 37)), (3, .int (nI i + 5))]) ⟨rfl, rfl, rfl, rfl, trivial⟩ (by simp [Value.category]) (IH _ (op_left L0 (xs ((nI i) + 1).toNatClampNeg) 1).2.2)
      · exact absurd (op_left L0 (xs ((nI i) + 1).toNatClampNeg) 1).2.1 c826
set_option maxHeartbeats 4000000 in
set_option maxRecDepth 100000 in
theorem lw_c_step {p : Program} {l : Launch} {e : Env} {s : State} {m : MethodId} {below : List Frame} {meth : Method} {c : Code} {D : va_G} {ad : Nat → Nat} {cI cZ : ClassId} {t9 : Nat} {k : Bool} {b L : Nat} {xs : Nat → Int32} {i : Nat} {h : lh_HS} (B : lh_BL p s m meth c b L xs D ad cI cZ t9 k) (L0 : lh_INV k h) (hi5 : i + 5 ≤ L) (hL : L ≤ 2560) (IH : ∀ h : lh_HS, lh_INV k h → lh_LJ p l e s m below meth c D ad cI cZ k b 18 [(0, .ref b), (1, .ref (ad 0)), (2, .ref (ad 37)), (3, .int (nI i + 5))] [] h) : lh_LJ p l e s m below meth c D ad cI cZ k b 831 [(0, .ref b), (1, .ref (ad 0)), (2, .ref (ad 37)), (3, .int (nI i))] [] h := by
  refine ll_aload_n (i := 1) B dL_law_831 rfl rfl ?_
  refine ll_aload_n (i := 0) B dL_law_832 rfl rfl ?_
  refine ll_iload_n (i := 3) B dL_law_833 rfl rfl ?_
  refine ll_iconst (v := 1) B dL_law_834 (by decide) ?_
  refine ll_iadd B dL_law_835 ?_
  refine ll_sld B (ll_in (c := 1) (by omega) hL) dL_law_836 ?_
  refine ll_aload_n (i := 0) B dL_law_837 rfl rfl ?_
  refine ll_iload_n (i := 3) B dL_law_838 rfl rfl ?_
  refine ll_iconst (v := 2) B dL_law_839 (by decide) ?_
  refine ll_iadd B dL_law_840 ?_
  refine ll_sld B (ll_in (c := 2) (by omega) hL) dL_law_841 ?_
  refine ll_aload_n (i := 0) B dL_law_842 rfl rfl ?_
  refine ll_iload_n (i := 3) B dL_law_843 rfl rfl ?_
  refine ll_iconst (v := 3) B dL_law_844 (by decide) ?_
  refine ll_iadd B dL_law_845 ?_
  refine ll_sld B (ll_in (c := 3) (by omega) hL) dL_law_846 ?_
  refine ll_if_eq (tgt := 854) B dL_law_847 (by decide) (fun c847 => ?_) (fun c847 => ?_)
  · refine ll_iconst (v := 0) B dL_law_854 (by decide) ?_
    refine ll_callVi (i := 0) B (ct_X8_step h (xs ((nI i) + 1).toNatClampNeg) (xs ((nI i) + 2).toNatClampNeg) 0 L0.1) lk_L_88 (by decide) (lh_nc_lt (by decide)) rfl rfl rfl (by simp [Value.category]) dL_law_855 ?_
    refine ll_aload_n (i := 2) B dL_law_858 rfl rfl ?_
    refine ll_aload_n (i := 0) B dL_law_859 rfl rfl ?_
    refine ll_iload_n (i := 3) B dL_law_860 rfl rfl ?_
    refine ll_iconst (v := 1) B dL_law_861 (by decide) ?_
    refine ll_iadd B dL_law_862 ?_
    refine ll_sld B (ll_in (c := 1) (by omega) hL) dL_law_863 ?_
    refine ll_aload_n (i := 0) B dL_law_864 rfl rfl ?_
    refine ll_iload_n (i := 3) B dL_law_865 rfl rfl ?_
    refine ll_iconst (v := 2) B dL_law_866 (by decide) ?_
    refine ll_iadd B dL_law_867 ?_
    refine ll_sld B (ll_in (c := 2) (by omega) hL) dL_law_868 ?_
    refine ll_aload_n (i := 0) B dL_law_869 rfl rfl ?_
    refine ll_iload_n (i := 3) B dL_law_870 rfl rfl ?_
    refine ll_iconst (v := 3) B dL_law_871 (by decide) ?_
    refine ll_iadd B dL_law_872 ?_
    refine ll_sld B (ll_in (c := 3) (by omega) hL) dL_law_873 ?_
    refine ll_if_eq (tgt := 881) B dL_law_874 (by decide) (fun c874 => ?_) (fun c874 => ?_)
    · refine ll_iconst (v := 0) B dL_law_881 (by decide) ?_
      refine ll_callVi (i := 37) B (ct_X9_step (gX8_step h (xs ((nI i) + 1).toNatClampNeg) (xs ((nI i) + 2).toNatClampNeg) 0) (xs ((nI i) + 1).toNatClampNeg) (xs ((nI i) + 2).toNatClampNeg) 0 (op_step L0 (xs ((nI i) + 1).toNatClampNeg) (xs ((nI i) + 2).toNatClampNeg) 0).1.1 (op_step L0 (xs ((nI i) + 1).toNatClampNeg) (xs ((nI i) + 2).toNatClampNeg) 0).1.2) lk_L_91 (by decide) (lh_nc_lt (by decide)) rfl rfl rfl (by simp [Value.category]) dL_law_882 ?_
      refine ll_icmp_eq (tgt := 1067) B dL_law_885 (by decide) (fun c885 => ?_) (fun c885 => ?_)
      · refine ll_iinc5 B dL_law_1067 rfl (by decide) ?_
        refine ll_goto (tgt := 18) B dL_law_1070 (by decide) ?_
        exact ll_sub (lv2 := [(0, .ref b), (1, .ref (ad 0)), (2, .ref (ad 37)), (3, .int (nI i + 5))]) ⟨rfl, rfl, rfl, rfl, trivial⟩ (by simp [Value.category]) (IH _ (op_step L0 (xs ((nI i) + 1).toNatClampNeg) (xs ((nI i) + 2).toNatClampNeg) 0).2.2)
      · exact absurd (op_step L0 (xs ((nI i) + 1).toNatClampNeg) (xs ((nI i) + 2).toNatClampNeg) 0).2.1 c885
    · exact absurd c847 c874
  · refine ll_iconst (v := 1) B dL_law_850 (by decide) ?_
    refine ll_goto (tgt := 855) B dL_law_851 (by decide) ?_
    refine ll_callVi (i := 0) B (ct_X8_step h (xs ((nI i) + 1).toNatClampNeg) (xs ((nI i) + 2).toNatClampNeg) 1 L0.1) lk_L_88 (by decide) (lh_nc_lt (by decide)) rfl rfl rfl (by simp [Value.category]) dL_law_855 ?_
    refine ll_aload_n (i := 2) B dL_law_858 rfl rfl ?_
    refine ll_aload_n (i := 0) B dL_law_859 rfl rfl ?_
    refine ll_iload_n (i := 3) B dL_law_860 rfl rfl ?_
    refine ll_iconst (v := 1) B dL_law_861 (by decide) ?_
    refine ll_iadd B dL_law_862 ?_
    refine ll_sld B (ll_in (c := 1) (by omega) hL) dL_law_863 ?_
    refine ll_aload_n (i := 0) B dL_law_864 rfl rfl ?_
    refine ll_iload_n (i := 3) B dL_law_865 rfl rfl ?_
    refine ll_iconst (v := 2) B dL_law_866 (by decide) ?_
    refine ll_iadd B dL_law_867 ?_
    refine ll_sld B (ll_in (c := 2) (by omega) hL) dL_law_868 ?_
    refine ll_aload_n (i := 0) B dL_law_869 rfl rfl ?_
    refine ll_iload_n (i := 3) B dL_law_870 rfl rfl ?_
    refine ll_iconst (v := 3) B dL_law_871 (by decide) ?_
    refine ll_iadd B dL_law_872 ?_
    refine ll_sld B (ll_in (c := 3) (by omega) hL) dL_law_873 ?_
    refine ll_if_eq (tgt := 881) B dL_law_874 (by decide) (fun c874 => ?_) (fun c874 => ?_)
    · exact absurd c874 c847
    · refine ll_iconst (v := 1) B dL_law_877 (by decide) ?_
      refine ll_goto (tgt := 882) B dL_law_878 (by decide) ?_
      refine ll_callVi (i := 37) B (ct_X9_step (gX8_step h (xs ((nI i) + 1).toNatClampNeg) (xs ((nI i) + 2).toNatClampNeg) 1) (xs ((nI i) + 1).toNatClampNeg) (xs ((nI i) + 2).toNatClampNeg) 1 (op_step L0 (xs ((nI i) + 1).toNatClampNeg) (xs ((nI i) + 2).toNatClampNeg) 1).1.1 (op_step L0 (xs ((nI i) + 1).toNatClampNeg) (xs ((nI i) + 2).toNatClampNeg) 1).1.2) lk_L_91 (by decide) (lh_nc_lt (by decide)) rfl rfl rfl (by simp [Value.category]) dL_law_882 ?_
      refine ll_icmp_eq (tgt := 1067) B dL_law_885 (by decide) (fun c885 => ?_) (fun c885 => ?_)
      · refine ll_iinc5 B dL_law_1067 rfl (by decide) ?_
        refine ll_goto (tgt := 18) B dL_law_1070 (by decide) ?_
        exact ll_sub (lv2 := [(0, .ref b), (1, .ref (ad 0)), (2, .ref (ad 37)), (3, .int (nI i + 5))]) ⟨rfl, rfl, rfl, rfl, trivial⟩ (by simp [Value.category]) (IH _ (op_step L0 (xs ((nI i) + 1).toNatClampNeg) (xs ((nI i) + 2).toNatClampNeg) 1).2.2)
      · exact absurd (op_step L0 (xs ((nI i) + 1).toNatClampNeg) (xs ((nI i) + 2).toNatClampNeg) 1).2.1 c885
set_option maxHeartbeats 4000000 in
set_option maxRecDepth 100000 in
theorem lw_c_wall {p : Program} {l : Launch} {e : Env} {s : State} {m : MethodId} {below : List Frame} {meth : Method} {c : Code} {D : va_G} {ad : Nat → Nat} {cI cZ : ClassId} {t9 : Nat} {k : Bool} {b L : Nat} {xs : Nat → Int32} {i : Nat} {h : lh_HS} (B : lh_BL p s m meth c b L xs D ad cI cZ t9 k) (L0 : lh_INV k h) (hi5 : i + 5 ≤ L) (hL : L ≤ 2560) (IH : ∀ h : lh_HS, lh_INV k h → lh_LJ p l e s m below meth c D ad cI cZ k b 18 [(0, .ref b), (1, .ref (ad 0)), (2, .ref (ad 37)), (3, .int (nI i + 5))] [] h) : lh_LJ p l e s m below meth c D ad cI cZ k b 890 [(0, .ref b), (1, .ref (ad 0)), (2, .ref (ad 37)), (3, .int (nI i))] [] h := by
  refine ll_aload_n (i := 1) B dL_law_890 rfl rfl ?_
  refine ll_aload_n (i := 0) B dL_law_891 rfl rfl ?_
  refine ll_iload_n (i := 3) B dL_law_892 rfl rfl ?_
  refine ll_iconst (v := 1) B dL_law_893 (by decide) ?_
  refine ll_iadd B dL_law_894 ?_
  refine ll_sld B (ll_in (c := 1) (by omega) hL) dL_law_895 ?_
  refine ll_aload_n (i := 0) B dL_law_896 rfl rfl ?_
  refine ll_iload_n (i := 3) B dL_law_897 rfl rfl ?_
  refine ll_iconst (v := 2) B dL_law_898 (by decide) ?_
  refine ll_iadd B dL_law_899 ?_
  refine ll_sld B (ll_in (c := 2) (by omega) hL) dL_law_900 ?_
  refine ll_aload_n (i := 0) B dL_law_901 rfl rfl ?_
  refine ll_iload_n (i := 3) B dL_law_902 rfl rfl ?_
  refine ll_iconst (v := 3) B dL_law_903 (by decide) ?_
  refine ll_iadd B dL_law_904 ?_
  refine ll_sld B (ll_in (c := 3) (by omega) hL) dL_law_905 ?_
  refine ll_callVi (i := 0) B (ct_X8_wall h (xs ((nI i) + 1).toNatClampNeg) (xs ((nI i) + 2).toNatClampNeg) (xs ((nI i) + 3).toNatClampNeg) L0.1) lk_L_92 (by decide) (lh_nc_lt (by decide)) rfl rfl rfl (by simp [Value.category]) dL_law_906 ?_
  refine ll_aload_n (i := 2) B dL_law_909 rfl rfl ?_
  refine ll_aload_n (i := 0) B dL_law_910 rfl rfl ?_
  refine ll_iload_n (i := 3) B dL_law_911 rfl rfl ?_
  refine ll_iconst (v := 1) B dL_law_912 (by decide) ?_
  refine ll_iadd B dL_law_913 ?_
  refine ll_sld B (ll_in (c := 1) (by omega) hL) dL_law_914 ?_
  refine ll_aload_n (i := 0) B dL_law_915 rfl rfl ?_
  refine ll_iload_n (i := 3) B dL_law_916 rfl rfl ?_
  refine ll_iconst (v := 2) B dL_law_917 (by decide) ?_
  refine ll_iadd B dL_law_918 ?_
  refine ll_sld B (ll_in (c := 2) (by omega) hL) dL_law_919 ?_
  refine ll_aload_n (i := 0) B dL_law_920 rfl rfl ?_
  refine ll_iload_n (i := 3) B dL_law_921 rfl rfl ?_
  refine ll_iconst (v := 3) B dL_law_922 (by decide) ?_
  refine ll_iadd B dL_law_923 ?_
  refine ll_sld B (ll_in (c := 3) (by omega) hL) dL_law_924 ?_
  refine ll_callVi (i := 37) B (ct_X9_wall (gX8_wall h (xs ((nI i) + 1).toNatClampNeg) (xs ((nI i) + 2).toNatClampNeg) (xs ((nI i) + 3).toNatClampNeg)) (xs ((nI i) + 1).toNatClampNeg) (xs ((nI i) + 2).toNatClampNeg) (xs ((nI i) + 3).toNatClampNeg) (op_wall L0 (xs ((nI i) + 1).toNatClampNeg) (xs ((nI i) + 2).toNatClampNeg) (xs ((nI i) + 3).toNatClampNeg)).1) lk_L_95 (by decide) (lh_nc_lt (by decide)) rfl rfl rfl (by simp [Value.category]) dL_law_925 ?_
  refine ll_icmp_eq (tgt := 1067) B dL_law_928 (by decide) (fun c928 => ?_) (fun c928 => ?_)
  · refine ll_iinc5 B dL_law_1067 rfl (by decide) ?_
    refine ll_goto (tgt := 18) B dL_law_1070 (by decide) ?_
    exact ll_sub (lv2 := [(0, .ref b), (1, .ref (ad 0)), (2, .ref (ad 37)), (3, .int (nI i + 5))]) ⟨rfl, rfl, rfl, rfl, trivial⟩ (by simp [Value.category]) (IH _ (op_wall L0 (xs ((nI i) + 1).toNatClampNeg) (xs ((nI i) + 2).toNatClampNeg) (xs ((nI i) + 3).toNatClampNeg)).2.2)
  · exact absurd (op_wall L0 (xs ((nI i) + 1).toNatClampNeg) (xs ((nI i) + 2).toNatClampNeg) (xs ((nI i) + 3).toNatClampNeg)).2.1 c928
set_option maxHeartbeats 4000000 in
set_option maxRecDepth 100000 in
theorem lw_c_strip {p : Program} {l : Launch} {e : Env} {s : State} {m : MethodId} {below : List Frame} {meth : Method} {c : Code} {D : va_G} {ad : Nat → Nat} {cI cZ : ClassId} {t9 : Nat} {k : Bool} {b L : Nat} {xs : Nat → Int32} {i : Nat} {h : lh_HS} (B : lh_BL p s m meth c b L xs D ad cI cZ t9 k) (L0 : lh_INV k h) (hi5 : i + 5 ≤ L) (hL : L ≤ 2560) (IH : ∀ h : lh_HS, lh_INV k h → lh_LJ p l e s m below meth c D ad cI cZ k b 18 [(0, .ref b), (1, .ref (ad 0)), (2, .ref (ad 37)), (3, .int (nI i + 5))] [] h) : lh_LJ p l e s m below meth c D ad cI cZ k b 933 [(0, .ref b), (1, .ref (ad 0)), (2, .ref (ad 37)), (3, .int (nI i))] [] h := by
  refine ll_aload_n (i := 1) B dL_law_933 rfl rfl ?_
  refine ll_callVi (i := 0) B (ct_X8_strip h  L0.1) lk_L_96 (by decide) (lh_nc_lt (by decide)) rfl rfl rfl (by simp [Value.category]) dL_law_934 ?_
  refine ll_aload_n (i := 2) B dL_law_937 rfl rfl ?_
  refine ll_callVi (i := 37) B (ct_X9_strip (gX8_strip h )  (op_strip L0).1) lk_L_99 (by decide) (lh_nc_lt (by decide)) rfl rfl rfl (by simp [Value.category]) dL_law_938 ?_
  refine ll_icmp_eq (tgt := 1067) B dL_law_941 (by decide) (fun c941 => ?_) (fun c941 => ?_)
  · refine ll_iinc5 B dL_law_1067 rfl (by decide) ?_
    refine ll_goto (tgt := 18) B dL_law_1070 (by decide) ?_
    exact ll_sub (lv2 := [(0, .ref b), (1, .ref (ad 0)), (2, .ref (ad 37)), (3, .int (nI i + 5))]) ⟨rfl, rfl, rfl, rfl, trivial⟩ (by simp [Value.category]) (IH _ (op_strip L0).2.2)
  · exact absurd (op_strip L0).2.1 c941
set_option maxHeartbeats 4000000 in
set_option maxRecDepth 100000 in
theorem lw_c_hung {p : Program} {l : Launch} {e : Env} {s : State} {m : MethodId} {below : List Frame} {meth : Method} {c : Code} {D : va_G} {ad : Nat → Nat} {cI cZ : ClassId} {t9 : Nat} {k : Bool} {b L : Nat} {xs : Nat → Int32} {i : Nat} {h : lh_HS} (B : lh_BL p s m meth c b L xs D ad cI cZ t9 k) (L0 : lh_INV k h) (hi5 : i + 5 ≤ L) (hL : L ≤ 2560) (IH : ∀ h : lh_HS, lh_INV k h → lh_LJ p l e s m below meth c D ad cI cZ k b 18 [(0, .ref b), (1, .ref (ad 0)), (2, .ref (ad 37)), (3, .int (nI i + 5))] [] h) : lh_LJ p l e s m below meth c D ad cI cZ k b 946 [(0, .ref b), (1, .ref (ad 0)), (2, .ref (ad 37)), (3, .int (nI i))] [] h := by
  refine ll_aload_n (i := 1) B dL_law_946 rfl rfl ?_
  refine ll_aload_n (i := 0) B dL_law_947 rfl rfl ?_
  refine ll_iload_n (i := 3) B dL_law_948 rfl rfl ?_
  refine ll_iconst (v := 1) B dL_law_949 (by decide) ?_
  refine ll_iadd B dL_law_950 ?_
  refine ll_sld B (ll_in (c := 1) (by omega) hL) dL_law_951 ?_
  refine ll_callVi (i := 0) B (ct_X8_hung h (xs ((nI i) + 1).toNatClampNeg) L0.1) lk_L_100 (by decide) (lh_nc_lt (by decide)) rfl rfl rfl (by simp [Value.category]) dL_law_952 ?_
  refine ll_aload_n (i := 2) B dL_law_955 rfl rfl ?_
  refine ll_aload_n (i := 0) B dL_law_956 rfl rfl ?_
  refine ll_iload_n (i := 3) B dL_law_957 rfl rfl ?_
  refine ll_iconst (v := 1) B dL_law_958 (by decide) ?_
  refine ll_iadd B dL_law_959 ?_
  refine ll_sld B (ll_in (c := 1) (by omega) hL) dL_law_960 ?_
  refine ll_callVi (i := 37) B (ct_X9_hung (gX8_hung h (xs ((nI i) + 1).toNatClampNeg)) (xs ((nI i) + 1).toNatClampNeg) (op_hung L0 (xs ((nI i) + 1).toNatClampNeg)).1) lk_L_103 (by decide) (lh_nc_lt (by decide)) rfl rfl rfl (by simp [Value.category]) dL_law_961 ?_
  refine ll_icmp_eq (tgt := 1067) B dL_law_964 (by decide) (fun c964 => ?_) (fun c964 => ?_)
  · refine ll_iinc5 B dL_law_1067 rfl (by decide) ?_
    refine ll_goto (tgt := 18) B dL_law_1070 (by decide) ?_
    exact ll_sub (lv2 := [(0, .ref b), (1, .ref (ad 0)), (2, .ref (ad 37)), (3, .int (nI i + 5))]) ⟨rfl, rfl, rfl, rfl, trivial⟩ (by simp [Value.category]) (IH _ (op_hung L0 (xs ((nI i) + 1).toNatClampNeg)).2.2)
  · exact absurd (op_hung L0 (xs ((nI i) + 1).toNatClampNeg)).2.1 c964
set_option maxHeartbeats 4000000 in
set_option maxRecDepth 100000 in
theorem lw_c_worth {p : Program} {l : Launch} {e : Env} {s : State} {m : MethodId} {below : List Frame} {meth : Method} {c : Code} {D : va_G} {ad : Nat → Nat} {cI cZ : ClassId} {t9 : Nat} {k : Bool} {b L : Nat} {xs : Nat → Int32} {i : Nat} {h : lh_HS} (B : lh_BL p s m meth c b L xs D ad cI cZ t9 k) (L0 : lh_INV k h) (hi5 : i + 5 ≤ L) (hL : L ≤ 2560) (IH : ∀ h : lh_HS, lh_INV k h → lh_LJ p l e s m below meth c D ad cI cZ k b 18 [(0, .ref b), (1, .ref (ad 0)), (2, .ref (ad 37)), (3, .int (nI i + 5))] [] h) : lh_LJ p l e s m below meth c D ad cI cZ k b 969 [(0, .ref b), (1, .ref (ad 0)), (2, .ref (ad 37)), (3, .int (nI i))] [] h := by
  refine ll_aload_n (i := 1) B dL_law_969 rfl rfl ?_
  refine ll_callVi (i := 0) B (ct_X8_worth h  L0.1) lk_L_104 (by decide) (lh_nc_lt (by decide)) rfl rfl rfl (by simp [Value.category]) dL_law_970 ?_
  refine ll_aload_n (i := 2) B dL_law_973 rfl rfl ?_
  refine ll_callVi (i := 37) B (ct_X9_worth (gX8_worth h )  (op_worth L0).1) lk_L_107 (by decide) (lh_nc_lt (by decide)) rfl rfl rfl (by simp [Value.category]) dL_law_974 ?_
  refine ll_icmp_eq (tgt := 1067) B dL_law_977 (by decide) (fun c977 => ?_) (fun c977 => ?_)
  · refine ll_iinc5 B dL_law_1067 rfl (by decide) ?_
    refine ll_goto (tgt := 18) B dL_law_1070 (by decide) ?_
    exact ll_sub (lv2 := [(0, .ref b), (1, .ref (ad 0)), (2, .ref (ad 37)), (3, .int (nI i + 5))]) ⟨rfl, rfl, rfl, rfl, trivial⟩ (by simp [Value.category]) (IH _ (op_worth L0).2.2)
  · exact absurd (op_worth L0).2.1 c977
set_option maxHeartbeats 4000000 in
set_option maxRecDepth 100000 in
theorem lw_c_spares {p : Program} {l : Launch} {e : Env} {s : State} {m : MethodId} {below : List Frame} {meth : Method} {c : Code} {D : va_G} {ad : Nat → Nat} {cI cZ : ClassId} {t9 : Nat} {k : Bool} {b L : Nat} {xs : Nat → Int32} {i : Nat} {h : lh_HS} (B : lh_BL p s m meth c b L xs D ad cI cZ t9 k) (L0 : lh_INV k h) (hi5 : i + 5 ≤ L) (hL : L ≤ 2560) (IH : ∀ h : lh_HS, lh_INV k h → lh_LJ p l e s m below meth c D ad cI cZ k b 18 [(0, .ref b), (1, .ref (ad 0)), (2, .ref (ad 37)), (3, .int (nI i + 5))] [] h) : lh_LJ p l e s m below meth c D ad cI cZ k b 982 [(0, .ref b), (1, .ref (ad 0)), (2, .ref (ad 37)), (3, .int (nI i))] [] h := by
  refine ll_aload_n (i := 1) B dL_law_982 rfl rfl ?_
  refine ll_aload_n (i := 0) B dL_law_983 rfl rfl ?_
  refine ll_iload_n (i := 3) B dL_law_984 rfl rfl ?_
  refine ll_iconst (v := 1) B dL_law_985 (by decide) ?_
  refine ll_iadd B dL_law_986 ?_
  refine ll_sld B (ll_in (c := 1) (by omega) hL) dL_law_987 ?_
  refine ll_callVi (i := 0) B (ct_X8_spares h (xs ((nI i) + 1).toNatClampNeg) L0.1) lk_L_108 (by decide) (lh_nc_lt (by decide)) rfl rfl rfl (by simp [Value.category]) dL_law_988 ?_
  refine ll_aload_n (i := 2) B dL_law_991 rfl rfl ?_
  refine ll_aload_n (i := 0) B dL_law_992 rfl rfl ?_
  refine ll_iload_n (i := 3) B dL_law_993 rfl rfl ?_
  refine ll_iconst (v := 1) B dL_law_994 (by decide) ?_
  refine ll_iadd B dL_law_995 ?_
  refine ll_sld B (ll_in (c := 1) (by omega) hL) dL_law_996 ?_
  refine ll_callVi (i := 37) B (ct_X9_spares (gX8_spares h (xs ((nI i) + 1).toNatClampNeg)) (xs ((nI i) + 1).toNatClampNeg) (op_spares L0 (xs ((nI i) + 1).toNatClampNeg)).1) lk_L_111 (by decide) (lh_nc_lt (by decide)) rfl rfl rfl (by simp [Value.category]) dL_law_997 ?_
  refine ll_icmp_eq (tgt := 1067) B dL_law_1000 (by decide) (fun c1000 => ?_) (fun c1000 => ?_)
  · refine ll_iinc5 B dL_law_1067 rfl (by decide) ?_
    refine ll_goto (tgt := 18) B dL_law_1070 (by decide) ?_
    exact ll_sub (lv2 := [(0, .ref b), (1, .ref (ad 0)), (2, .ref (ad 37)), (3, .int (nI i + 5))]) ⟨rfl, rfl, rfl, rfl, trivial⟩ (by simp [Value.category]) (IH _ (op_spares L0 (xs ((nI i) + 1).toNatClampNeg)).2.2)
  · exact absurd (op_spares L0 (xs ((nI i) + 1).toNatClampNeg)).2.1 c1000
set_option maxHeartbeats 4000000 in
set_option maxRecDepth 100000 in
theorem lw_c_hang {p : Program} {l : Launch} {e : Env} {s : State} {m : MethodId} {below : List Frame} {meth : Method} {c : Code} {D : va_G} {ad : Nat → Nat} {cI cZ : ClassId} {t9 : Nat} {k : Bool} {b L : Nat} {xs : Nat → Int32} {i : Nat} {h : lh_HS} (B : lh_BL p s m meth c b L xs D ad cI cZ t9 k) (L0 : lh_INV k h) (hi5 : i + 5 ≤ L) (hL : L ≤ 2560) (IH : ∀ h : lh_HS, lh_INV k h → lh_LJ p l e s m below meth c D ad cI cZ k b 18 [(0, .ref b), (1, .ref (ad 0)), (2, .ref (ad 37)), (3, .int (nI i + 5))] [] h) : lh_LJ p l e s m below meth c D ad cI cZ k b 1005 [(0, .ref b), (1, .ref (ad 0)), (2, .ref (ad 37)), (3, .int (nI i))] [] h := by
  refine ll_aload_n (i := 1) B dL_law_1005 rfl rfl ?_
  refine ll_callVi (i := 0) B (ct_X8_hang h  L0.1) lk_L_112 (by decide) (lh_nc_lt (by decide)) rfl rfl rfl (by simp [Value.category]) dL_law_1006 ?_
  refine ll_aload_n (i := 2) B dL_law_1009 rfl rfl ?_
  refine ll_callVi (i := 37) B (ct_X9_hang (gX8_hang h )  (op_hang L0).1.1 (op_hang L0).1.2) lk_L_115 (by decide) (lh_nc_lt (by decide)) rfl rfl rfl (by simp [Value.category]) dL_law_1010 ?_
  refine ll_icmp_eq (tgt := 1067) B dL_law_1013 (by decide) (fun c1013 => ?_) (fun c1013 => ?_)
  · refine ll_iinc5 B dL_law_1067 rfl (by decide) ?_
    refine ll_goto (tgt := 18) B dL_law_1070 (by decide) ?_
    exact ll_sub (lv2 := [(0, .ref b), (1, .ref (ad 0)), (2, .ref (ad 37)), (3, .int (nI i + 5))]) ⟨rfl, rfl, rfl, rfl, trivial⟩ (by simp [Value.category]) (IH _ (op_hang L0).2.2)
  · exact absurd (op_hang L0).2.1 c1013
set_option maxHeartbeats 4000000 in
set_option maxRecDepth 100000 in
theorem lw_c_many {p : Program} {l : Launch} {e : Env} {s : State} {m : MethodId} {below : List Frame} {meth : Method} {c : Code} {D : va_G} {ad : Nat → Nat} {cI cZ : ClassId} {t9 : Nat} {k : Bool} {b L : Nat} {xs : Nat → Int32} {i : Nat} {h : lh_HS} (B : lh_BL p s m meth c b L xs D ad cI cZ t9 k) (L0 : lh_INV k h) (hi5 : i + 5 ≤ L) (hL : L ≤ 2560) (IH : ∀ h : lh_HS, lh_INV k h → lh_LJ p l e s m below meth c D ad cI cZ k b 18 [(0, .ref b), (1, .ref (ad 0)), (2, .ref (ad 37)), (3, .int (nI i + 5))] [] h) : lh_LJ p l e s m below meth c D ad cI cZ k b 1018 [(0, .ref b), (1, .ref (ad 0)), (2, .ref (ad 37)), (3, .int (nI i))] [] h := by
  refine ll_aload_n (i := 1) B dL_law_1018 rfl rfl ?_
  refine ll_aload_n (i := 0) B dL_law_1019 rfl rfl ?_
  refine ll_iload_n (i := 3) B dL_law_1020 rfl rfl ?_
  refine ll_iconst (v := 1) B dL_law_1021 (by decide) ?_
  refine ll_iadd B dL_law_1022 ?_
  refine ll_sld B (ll_in (c := 1) (by omega) hL) dL_law_1023 ?_
  refine ll_callVi (i := 0) B (ct_X8_many h (xs ((nI i) + 1).toNatClampNeg) L0.1) lk_L_116 (by decide) (lh_nc_lt (by decide)) rfl rfl rfl (by simp [Value.category]) dL_law_1024 ?_
  refine ll_aload_n (i := 2) B dL_law_1027 rfl rfl ?_
  refine ll_aload_n (i := 0) B dL_law_1028 rfl rfl ?_
  refine ll_iload_n (i := 3) B dL_law_1029 rfl rfl ?_
  refine ll_iconst (v := 1) B dL_law_1030 (by decide) ?_
  refine ll_iadd B dL_law_1031 ?_
  refine ll_sld B (ll_in (c := 1) (by omega) hL) dL_law_1032 ?_
  refine ll_callVi (i := 37) B (ct_X9_many (gX8_many h (xs ((nI i) + 1).toNatClampNeg)) (xs ((nI i) + 1).toNatClampNeg) (op_many L0 (xs ((nI i) + 1).toNatClampNeg)).1) lk_L_119 (by decide) (lh_nc_lt (by decide)) rfl rfl rfl (by simp [Value.category]) dL_law_1033 ?_
  refine ll_icmp_eq (tgt := 1067) B dL_law_1036 (by decide) (fun c1036 => ?_) (fun c1036 => ?_)
  · refine ll_iinc5 B dL_law_1067 rfl (by decide) ?_
    refine ll_goto (tgt := 18) B dL_law_1070 (by decide) ?_
    exact ll_sub (lv2 := [(0, .ref b), (1, .ref (ad 0)), (2, .ref (ad 37)), (3, .int (nI i + 5))]) ⟨rfl, rfl, rfl, rfl, trivial⟩ (by simp [Value.category]) (IH _ (op_many L0 (xs ((nI i) + 1).toNatClampNeg)).2.2)
  · exact absurd (op_many L0 (xs ((nI i) + 1).toNatClampNeg)).2.1 c1036
set_option maxHeartbeats 4000000 in
set_option maxRecDepth 100000 in
theorem lw_c_keep_t {p : Program} {l : Launch} {e : Env} {s : State} {m : MethodId} {below : List Frame} {meth : Method} {c : Code} {D : va_G} {ad : Nat → Nat} {cI cZ : ClassId} {t9 : Nat} {b L : Nat} {xs : Nat → Int32} {i : Nat} {h : lh_HS} (B : lh_BL p s m meth c b L xs D ad cI cZ t9 true) (L0 : lh_INV true h) (IH : ∀ h : lh_HS, lh_INV true h → lh_LJ p l e s m below meth c D ad cI cZ true b 18 [(0, .ref b), (1, .ref (ad 0)), (2, .ref (ad 37)), (3, .int (nI i + 5))] [] h) : lh_LJ p l e s m below meth c D ad cI cZ true b 1041 [(0, .ref b), (1, .ref (ad 0)), (2, .ref (ad 37)), (3, .int (nI i))] [] h := by
  refine ll_aload_n (i := 1) B dL_law_1041 rfl rfl ?_
  refine ll_callVi (i := 0) B (ct_X8_keep_t h L0.2.1) lk_L_120 (by decide) (lh_nc_lt (by decide)) rfl rfl rfl (by simp [Value.category]) dL_law_1042 ?_
  generalize hg1 : gX8_keep_t h = hs1
  refine ll_aload_n (i := 2) B dL_law_1045 rfl rfl ?_
  refine ll_callVi (i := 37) B (ct_X9_keep hs1) lk_L_123 (by decide) (lh_nc_lt (by decide)) rfl rfl rfl (by simp [Value.category]) dL_law_1046 ?_
  subst hg1
  refine ll_icmp_eq (tgt := 1067) B dL_law_1049 (by decide) (fun c1 => ?_) (fun c1 => ?_)
  · refine ll_iinc5 B dL_law_1067 rfl (by decide) ?_
    refine ll_goto (tgt := 18) B dL_law_1070 (by decide) ?_
    exact ll_sub (lv2 := [(0, .ref b), (1, .ref (ad 0)), (2, .ref (ad 37)), (3, .int (nI i + 5))]) ⟨rfl, rfl, rfl, rfl, trivial⟩ (by simp [Value.category]) (IH _ (op_keep_t L0))
  · exact absurd rfl c1
set_option maxHeartbeats 4000000 in
set_option maxRecDepth 100000 in
theorem lw_c_back_t {p : Program} {l : Launch} {e : Env} {s : State} {m : MethodId} {below : List Frame} {meth : Method} {c : Code} {D : va_G} {ad : Nat → Nat} {cI cZ : ClassId} {t9 : Nat} {b L : Nat} {xs : Nat → Int32} {i : Nat} {h : lh_HS} (B : lh_BL p s m meth c b L xs D ad cI cZ t9 true) (L0 : lh_INV true h) (IH : ∀ h : lh_HS, lh_INV true h → lh_LJ p l e s m below meth c D ad cI cZ true b 18 [(0, .ref b), (1, .ref (ad 0)), (2, .ref (ad 37)), (3, .int (nI i + 5))] [] h) : lh_LJ p l e s m below meth c D ad cI cZ true b 1054 [(0, .ref b), (1, .ref (ad 0)), (2, .ref (ad 37)), (3, .int (nI i))] [] h := by
  refine ll_aload_n (i := 1) B dL_law_1054 rfl rfl ?_
  refine ll_callVi (i := 0) B (ct_X8_back_t h (L0.2.2.1 rfl)) lk_L_124 (by decide) (lh_nc_lt (by decide)) rfl rfl rfl (by simp [Value.category]) dL_law_1055 ?_
  generalize hg1 : gX8_back_t h = hs1
  refine ll_aload_n (i := 2) B dL_law_1058 rfl rfl ?_
  refine ll_callVi (i := 37) B (ct_X9_back hs1) lk_L_127 (by decide) (lh_nc_lt (by decide)) rfl rfl rfl (by simp [Value.category]) dL_law_1059 ?_
  subst hg1
  refine ll_icmp_eq (tgt := 1067) B dL_law_1062 (by decide) (fun c1 => ?_) (fun c1 => ?_)
  · refine ll_iinc5 B dL_law_1067 rfl (by decide) ?_
    refine ll_goto (tgt := 18) B dL_law_1070 (by decide) ?_
    exact ll_sub (lv2 := [(0, .ref b), (1, .ref (ad 0)), (2, .ref (ad 37)), (3, .int (nI i + 5))]) ⟨rfl, rfl, rfl, rfl, trivial⟩ (by simp [Value.category]) (IH _ (op_back_t L0).2)
  · exact absurd (op_back_t L0).1 c1
set_option maxHeartbeats 4000000 in
set_option maxRecDepth 100000 in
theorem lw_c_back_f {p : Program} {l : Launch} {e : Env} {s : State} {m : MethodId} {below : List Frame} {meth : Method} {c : Code} {D : va_G} {ad : Nat → Nat} {cI cZ : ClassId} {t9 : Nat} {b L : Nat} {xs : Nat → Int32} {i : Nat} {h : lh_HS} (B : lh_BL p s m meth c b L xs D ad cI cZ t9 false) (L0 : lh_INV false h) (IH : ∀ h : lh_HS, lh_INV false h → lh_LJ p l e s m below meth c D ad cI cZ false b 18 [(0, .ref b), (1, .ref (ad 0)), (2, .ref (ad 37)), (3, .int (nI i + 5))] [] h) : lh_LJ p l e s m below meth c D ad cI cZ false b 1054 [(0, .ref b), (1, .ref (ad 0)), (2, .ref (ad 37)), (3, .int (nI i))] [] h := by
  refine ll_aload_n (i := 1) B dL_law_1054 rfl rfl ?_
  refine ll_callVi (i := 0) B (ct_X8_back_f h) lk_L_124 (by decide) (lh_nc_lt (by decide)) rfl rfl rfl (by simp [Value.category]) dL_law_1055 ?_
  refine ll_aload_n (i := 2) B dL_law_1058 rfl rfl ?_
  refine ll_callVi (i := 37) B (ct_X9_back h) lk_L_127 (by decide) (lh_nc_lt (by decide)) rfl rfl rfl (by simp [Value.category]) dL_law_1059 ?_
  refine ll_icmp_eq (tgt := 1067) B dL_law_1062 (by decide) (fun c1 => ?_) (fun c1 => ?_)
  · refine ll_iinc5 B dL_law_1067 rfl (by decide) ?_
    refine ll_goto (tgt := 18) B dL_law_1070 (by decide) ?_
    exact ll_sub (lv2 := [(0, .ref b), (1, .ref (ad 0)), (2, .ref (ad 37)), (3, .int (nI i + 5))]) ⟨rfl, rfl, rfl, rfl, trivial⟩ (by simp [Value.category]) (IH _ (op_back_f L0).2)
  · exact absurd (op_back_f L0).1 c1
set_option maxHeartbeats 4000000 in
set_option maxRecDepth 100000 in
theorem lw_c_keep_f {p : Program} {l : Launch} {e : Env} {s : State} {m : MethodId} {below : List Frame} {meth : Method} {c : Code} {D : va_G} {ad : Nat → Nat} {cI cZ : ClassId} {t9 : Nat} {b L : Nat} {xs : Nat → Int32} {i : Nat} {h : lh_HS} (B : lh_BL p s m meth c b L xs D ad cI cZ t9 false) (L0 : lh_INV false h) (IH : ∀ (ad2 : Nat → Nat) (h : lh_HS), lh_BL p s m meth c b L xs D ad2 cI cZ t9 true → ad2 0 = ad 0 → ad2 37 = ad 37 → lh_INV true h → lh_LJ p l e s m below meth c D ad2 cI cZ true b 18 [(0, .ref b), (1, .ref (ad 0)), (2, .ref (ad 37)), (3, .int (nI i + 5))] [] h) : lh_LJ p l e s m below meth c D ad cI cZ false b 1041 [(0, .ref b), (1, .ref (ad 0)), (2, .ref (ad 37)), (3, .int (nI i))] [] h := by
  refine ll_aload_n (i := 1) B dL_law_1041 rfl rfl ?_
  intro H locs ls hP hS hl
  refine va_calli (lh_runVc (ad := ad) (k := false) (h := h) (i := 0) (As := []) (st := []) (cl := 50) (sl := 1068) (mc := 26) (ms := 331) (rm := lh_rn 10 26 331) B.1 B.2.1 B.2.2.2.1 B.2.2.2.2.1 B.2.2.2.2.2.1 (Or.inl B.2.2.2.2.2.2.2.2.2) B.2.2.2.2.2.2.2.2.2.1 (ct_X8_keep_f h L0.2.1) rfl rfl lk_L_120 (by decide) (by decide) (by decide) rfl rfl (by simp) dL_law_1042 hP hS hl.1) hS (fun q _ h => h) (fun q h => h) (fun r2 ad2 t H1 locs1 ht _ hr2 hB _ _ hS1 => ?_)
  obtain ⟨hP1, hA1, e0, e37⟩ := hB
  subst hr2
  rw [ht] at hP1
  have hop := op_keep_f L0
  generalize gX2_copyFrom_k (lh_hk h) = hs1 at hP1 hop
  obtain ⟨g1, g2, g3, g4, g5, g6, g7, g8, g9, gK, gA, gR⟩ := B
  have B2 : lh_BL p s m meth c b L xs D ad2 cI cZ t9 true := ⟨g1, g2, g3, g4, g5, g6, g7, g8, g9, gK, hA1, gR⟩
  refine (?_ : lh_LJ p l e s m below meth c D ad2 cI cZ true b 1045 [(0, .ref b), (1, .ref (ad 0)), (2, .ref (ad 37)), (3, .int (nI i))] [.int 1] hs1) H1 locs1 ls hP1 hS1 hl
  refine ll_aload_n (i := 2) B2 dL_law_1045 rfl rfl ?_
  refine ll_callVi (i := 37) B2 (ct_X9_keep hs1) lk_L_123 (by decide) (lh_nc_lt (by decide)) rfl rfl (by rw [e37]; rfl) (by simp [Value.category]) dL_law_1046 ?_
  refine ll_icmp_eq (tgt := 1067) B2 dL_law_1049 (by decide) (fun c1 => ?_) (fun c1 => ?_)
  · refine ll_iinc5 B2 dL_law_1067 rfl (by decide) ?_
    refine ll_goto (tgt := 18) B2 dL_law_1070 (by decide) ?_
    exact ll_sub (lv2 := [(0, .ref b), (1, .ref (ad 0)), (2, .ref (ad 37)), (3, .int (nI i + 5))]) ⟨rfl, rfl, rfl, rfl, trivial⟩ (by simp [Value.category]) (IH _ _ B2 e0 e37 hop)
  · exact absurd rfl c1