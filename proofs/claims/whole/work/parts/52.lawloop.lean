set_option maxHeartbeats 4000000 in
set_option maxRecDepth 100000 in
theorem lw_c_dflt {p : Program} {l : Launch} {e : Env} {s : State} {m : MethodId} {below : List Frame} {meth : Method} {c : Code} {D : va_G} {ad : Nat → Nat} {cI cZ : ClassId} {t9 : Nat} {k : Bool} {b L : Nat} {xs : Nat → Int32} {i : Nat} {h : lh_HS} (B : lh_BL p s m meth c b L xs D ad cI cZ t9 k) (L0 : lh_INV k h) (IH : ∀ h : lh_HS, lh_INV k h → lh_LJ p l e s m below meth c D ad cI cZ k b 18 [(0, .ref b), (1, .ref (ad 0)), (2, .ref (ad 37)), (3, .int (nI i + 5))] [] h) : lh_LJ p l e s m below meth c D ad cI cZ k b 1067 [(0, .ref b), (1, .ref (ad 0)), (2, .ref (ad 37)), (3, .int (nI i))] [] h := by
  refine ll_iinc5 B dL_law_1067 rfl (by decide) ?_
  refine ll_goto (tgt := 18) B dL_law_1070 (by decide) ?_
  exact ll_sub (lv2 := [(0, .ref b), (1, .ref (ad 0)), (2, .ref (ad 37)), (3, .int (nI i + 5))]) ⟨rfl, rfl, rfl, rfl, trivial⟩ (by simp [Value.category]) (IH _ L0)
set_option maxHeartbeats 4000000 in
set_option maxRecDepth 100000 in
theorem lw_sw {p : Program} {l : Launch} {e : Env} {s : State} {m : MethodId} {below : List Frame} {meth : Method} {c : Code} {D : va_G} {ad : Nat → Nat} {cI cZ : ClassId} {t9 : Nat} {k : Bool} {b L : Nat} {xs : Nat → Int32} {i : Nat} {h : lh_HS} (B : lh_BL p s m meth c b L xs D ad cI cZ t9 k) (L0 : lh_INV k h) (hi5 : i + 5 ≤ L) (hL : L ≤ 2560) (IH : ∀ (k2 : Bool) (ad2 : Nat → Nat) (h2 : lh_HS), lh_BL p s m meth c b L xs D ad2 cI cZ t9 k2 → ad2 0 = ad 0 → ad2 37 = ad 37 → lh_INV k2 h2 → lh_LJ p l e s m below meth c D ad2 cI cZ k2 b 18 [(0, .ref b), (1, .ref (ad 0)), (2, .ref (ad 37)), (3, .int (nI i + 5))] [] h2) (x : Int32) : lh_LJ p l e s m below meth c D ad cI cZ k b 32 [(0, .ref b), (1, .ref (ad 0)), (2, .ref (ad 37)), (3, .int (nI i))] [.int x] h := by
  have IH1 : ∀ h : lh_HS, lh_INV k h → lh_LJ p l e s m below meth c D ad cI cZ k b 18 [(0, .ref b), (1, .ref (ad 0)), (2, .ref (ad 37)), (3, .int (nI i + 5))] [] h := fun h hh => IH k ad h B rfl rfl hh
  by_cases h1 : x.toInt < 0
  · exact ll_tabOut (tgt := 1067) B dL_law_32 (Or.inl h1) (by decide) (lw_c_dflt B L0 IH1)
  by_cases h2 : 26 < x.toInt
  · exact ll_tabOut (tgt := 1067) B dL_law_32 (Or.inr h2) (by decide) (lw_c_dflt B L0 IH1)
  rcases (show x.toInt = 0 ∨ x.toInt = 1 ∨ x.toInt = 2 ∨ x.toInt = 3 ∨ x.toInt = 4 ∨ x.toInt = 5 ∨ x.toInt = 6 ∨ x.toInt = 7 ∨ x.toInt = 8 ∨ x.toInt = 9 ∨ x.toInt = 10 ∨ x.toInt = 11 ∨ x.toInt = 12 ∨ x.toInt = 13 ∨ x.toInt = 14 ∨ x.toInt = 15 ∨ x.toInt = 16 ∨ x.toInt = 17 ∨ x.toInt = 18 ∨ x.toInt = 19 ∨ x.toInt = 20 ∨ x.toInt = 21 ∨ x.toInt = 22 ∨ x.toInt = 23 ∨ x.toInt = 24 ∨ x.toInt = 25 ∨ x.toInt = 26 by omega) with hx | hx | hx | hx | hx | hx | hx | hx | hx | hx | hx | hx | hx | hx | hx | hx | hx | hx | hx | hx | hx | hx | hx | hx | hx | hx | hx
  · exact ll_tabIn (off := 124) (tgt := 156) B dL_law_32 h1 h2 (by rw [hx]; rfl) (by decide) (lw_c_room B L0 hi5 hL IH1)
  · exact ll_tabIn (off := 147) (tgt := 179) B dL_law_32 h1 h2 (by rw [hx]; rfl) (by decide) (lw_c_reading B L0 hi5 hL IH1)
  · exact ll_tabIn (off := 190) (tgt := 222) B dL_law_32 h1 h2 (by rw [hx]; rfl) (by decide) (lw_c_light B L0 hi5 hL IH1)
  · exact ll_tabIn (off := 249) (tgt := 281) B dL_law_32 h1 h2 (by rw [hx]; rfl) (by decide) (lw_c_sheet B L0 hi5 hL IH1)
  · exact ll_tabIn (off := 302) (tgt := 334) B dL_law_32 h1 h2 (by rw [hx]; rfl) (by decide) (lw_c_sisters B L0 hi5 hL IH1)
  · exact ll_tabIn (off := 335) (tgt := 367) B dL_law_32 h1 h2 (by rw [hx]; rfl) (by decide) (lw_c_past B L0 hi5 hL IH1)
  · exact ll_tabIn (off := 378) (tgt := 410) B dL_law_32 h1 h2 (by rw [hx]; rfl) (by decide) (lw_c_of B L0 hi5 hL IH1)
  · exact ll_tabIn (off := 411) (tgt := 443) B dL_law_32 h1 h2 (by rw [hx]; rfl) (by decide) (lw_c_show B L0 hi5 hL IH1)
  · exact ll_tabIn (off := 454) (tgt := 486) B dL_law_32 h1 h2 (by rw [hx]; rfl) (by decide) (lw_c_lend B L0 hi5 hL IH1)
  · exact ll_tabIn (off := 497) (tgt := 529) B dL_law_32 h1 h2 (by rw [hx]; rfl) (by decide) (lw_c_lacks B L0 hi5 hL IH1)
  · exact ll_tabIn (off := 530) (tgt := 562) B dL_law_32 h1 h2 (by rw [hx]; rfl) (by decide) (lw_c_cancel B L0 hi5 hL IH1)
  · exact ll_tabIn (off := 553) (tgt := 585) B dL_law_32 h1 h2 (by rw [hx]; rfl) (by decide) (lw_c_booking B L0 hi5 hL IH1)
  · exact ll_tabIn (off := 586) (tgt := 618) B dL_law_32 h1 h2 (by rw [hx]; rfl) (by decide) (lw_c_thread B L0 hi5 hL IH1)
  · exact ll_tabIn (off := 629) (tgt := 661) B dL_law_32 h1 h2 (by rw [hx]; rfl) (by decide) (lw_c_cut B L0 hi5 hL IH1)
  · exact ll_tabIn (off := 642) (tgt := 674) B dL_law_32 h1 h2 (by rw [hx]; rfl) (by decide) (lw_c_pastOf B L0 hi5 hL IH1)
  · exact ll_tabIn (off := 691) (tgt := 723) B dL_law_32 h1 h2 (by rw [hx]; rfl) (by decide) (lw_c_spent B L0 hi5 hL IH1)
  · exact ll_tabIn (off := 750) (tgt := 782) B dL_law_32 h1 h2 (by rw [hx]; rfl) (by decide) (lw_c_left B L0 hi5 hL IH1)
  · exact ll_tabIn (off := 799) (tgt := 831) B dL_law_32 h1 h2 (by rw [hx]; rfl) (by decide) (lw_c_step B L0 hi5 hL IH1)
  · exact ll_tabIn (off := 858) (tgt := 890) B dL_law_32 h1 h2 (by rw [hx]; rfl) (by decide) (lw_c_wall B L0 hi5 hL IH1)
  · exact ll_tabIn (off := 901) (tgt := 933) B dL_law_32 h1 h2 (by rw [hx]; rfl) (by decide) (lw_c_strip B L0 hi5 hL IH1)
  · exact ll_tabIn (off := 914) (tgt := 946) B dL_law_32 h1 h2 (by rw [hx]; rfl) (by decide) (lw_c_hung B L0 hi5 hL IH1)
  · exact ll_tabIn (off := 937) (tgt := 969) B dL_law_32 h1 h2 (by rw [hx]; rfl) (by decide) (lw_c_worth B L0 hi5 hL IH1)
  · exact ll_tabIn (off := 950) (tgt := 982) B dL_law_32 h1 h2 (by rw [hx]; rfl) (by decide) (lw_c_spares B L0 hi5 hL IH1)
  · exact ll_tabIn (off := 973) (tgt := 1005) B dL_law_32 h1 h2 (by rw [hx]; rfl) (by decide) (lw_c_hang B L0 hi5 hL IH1)
  · exact ll_tabIn (off := 986) (tgt := 1018) B dL_law_32 h1 h2 (by rw [hx]; rfl) (by decide) (lw_c_many B L0 hi5 hL IH1)
  · cases k with
    | true => exact ll_tabIn (off := 1009) (tgt := 1041) B dL_law_32 h1 h2 (by rw [hx]; rfl) (by decide) (lw_c_keep_t B L0 IH1)
    | false => exact ll_tabIn (off := 1009) (tgt := 1041) B dL_law_32 h1 h2 (by rw [hx]; rfl) (by decide) (lw_c_keep_f B L0 (fun ad2 h2 B2 e0 e37 hh => IH true ad2 h2 B2 e0 e37 hh))
  · cases k with
    | true => exact ll_tabIn (off := 1022) (tgt := 1054) B dL_law_32 h1 h2 (by rw [hx]; rfl) (by decide) (lw_c_back_t B L0 IH1)
    | false => exact ll_tabIn (off := 1022) (tgt := 1054) B dL_law_32 h1 h2 (by rw [hx]; rfl) (by decide) (lw_c_back_f B L0 IH1)

set_option maxHeartbeats 4000000 in
set_option maxRecDepth 100000 in
theorem lw_loop {p : Program} {l : Launch} {e : Env} {s : State} {m : MethodId} {below : List Frame} {meth : Method} {c : Code} {D : va_G} {cI cZ : ClassId} {t9 : Nat} {b L : Nat} {xs : Nat → Int32} (hL : L ≤ 2560) : ∀ (n i : Nat), L + 1 ≤ i + n → i ≤ L → ∀ (k : Bool) (ad : Nat → Nat) (h : lh_HS), lh_BL p s m meth c b L xs D ad cI cZ t9 k → lh_INV k h → lh_LJ p l e s m below meth c D ad cI cZ k b 18 [(0, .ref b), (1, .ref (ad 0)), (2, .ref (ad 37)), (3, .int (nI i))] [] h := by
  intro n
  induction n with
  | zero => intro i h1 h2; exact absurd h1 (by omega)
  | succ n ih =>
    intro i hn hi k ad h B L0
    refine ll_iload_n (i := 3) B dL_law_18 rfl rfl ?_
    refine ll_aload_n (i := 0) B dL_law_19 rfl rfl ?_
    refine ll_slen B dL_law_20 ?_
    refine ll_iconst (v := 5) B dL_law_21 (by decide) ?_
    refine ll_isub B dL_law_22 ?_
    refine ll_icmp_gt (tgt := 1073) B dL_law_23 (by decide) (fun c23 => ?_) (fun c23 => ?_)
    · refine ll_iconst (v := 1) B dL_law_1073 (by decide) ?_
      exact ll_end B dL_law_1074
    · have e1 : (nI L - 5).toInt = (L : Int) - 5 := pk_sub_toInt (a := L) (b := 5) (by omega) (by omega)
      have hi5 : i + 5 ≤ L := by
        rw [Int32.lt_iff_toInt_lt, e1, nI_toInt (by omega)] at c23
        omega
      refine ll_aload_n (i := 0) B dL_law_26 rfl rfl ?_
      refine ll_iload_n (i := 3) B dL_law_27 rfl rfl ?_
      refine ll_sld B (vp_in_nI (by omega) (by omega)) dL_law_28 ?_
      refine ll_bipush (v := 31) B dL_law_29 (by decide) ?_
      refine ll_iand B dL_law_31 ?_
      refine lw_sw B L0 hi5 hL (fun k2 ad2 h2 B2 e0 e37 hh => ?_) _
      rw [← e0, ← e37, show nI i + 5 = nI (i + 5) from nI_add i 5]
      exact ih (i + 5) (by omega) hi5 k2 ad2 h2 B2 hh
