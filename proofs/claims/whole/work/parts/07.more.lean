/-! more rows: iinc by one, the nest's static, arraycopy of whole rows; copyRow -/
theorem lh_arr_congr {cA : ClassId} {n : Nat} {f g : Nat → Int32} (e : ∀ j, j < n → f j = g j) : vp_cell cA (n, .inl f) = vp_cell cA (n, .inl g) := by
  rw [vp_cell_i, vp_cell_i]
  unfold arrV
  congr 2
  funext j
  exact congrArg Value.int (e j.val j.isLt)
theorem lh_P_congr {D : va_G} {cl : List vw_C} {ws : va_W} {q a n : Nat} {cA : ClassId} {f g : Nat → Int32} {H : Heap} (e : ∀ j, j < n → f j = g j) (hP : va_P D cl (ws.set q (a, .inl (cA, n, .inl f))) H) : va_P D cl (ws.set q (a, .inl (cA, n, .inl g))) H := by
  intro i w hi
  by_cases c : q = i
  · subst c
    by_cases hl : q < ws.length
    · rw [List.getElem?_set_self hl] at hi
      cases hi
      have h1 := hP q _ (List.getElem?_set_self hl)
      show H[a]? = some (vp_cell cA (n, .inl g))
      rw [← lh_arr_congr e]
      exact h1
    · rw [List.getElem?_eq_none (by rw [List.length_set]; omega)] at hi
      cases hi
  · rw [List.getElem?_set_ne c] at hi
    exact hP i w (by rw [List.getElem?_set_ne c]; exact hi)
section LHM
variable {p : Program} {l : Launch} {e : Env} {R : Room} {s : State} {m : MethodId} {args : Array Value} {below : List Frame} {meth : Method} {c : Code} {Q : State → Prop}
variable {D : va_G} {ad : Nat → Nat} {bs : Nat} {cI cZ : ClassId} {t9 : Nat} {k : Bool}
variable {own : String} {cc : ByteArray} {nL : Nat} {ret : Option FieldType}
variable {pc : Nat} {lv : List (Nat × Value)} {st stk : List Value} {h h' : lh_HS}
theorem la_iincp (B : lh_BK p R s m args meth c D ad bs cI cZ t9 k own cc nL ret) {i : Nat} {x : Int32} (hdg : decode cc pc = .ok (.iinc i 1, 3)) (hx : lv.lookup i = some (.int x)) (hn : i < nL) (K : lh_AJ p l e R s m args below meth c D ad bs cI cZ k nL Q (pc + 3) ((i, .int (x + 1)) :: lv) st h) : lh_AJ p l e R s m args below meth c D ad bs cI cZ k nL Q pc lv st h :=
  la_iinc B hdg hx (by rw [show Int32.ofInt 1 = 1 from by decide]) hn K
theorem la_iincm (B : lh_BK p R s m args meth c D ad bs cI cZ t9 k own cc nL ret) {i : Nat} {x : Int32} (hdg : decode cc pc = .ok (.iinc i (-1), 3)) (hx : lv.lookup i = some (.int x)) (hn : i < nL) (K : lh_AJ p l e R s m args below meth c D ad bs cI cZ k nL Q (pc + 3) ((i, .int (x + (-1))) :: lv) st h) : lh_AJ p l e R s m args below meth c D ad bs cI cZ k nL Q pc lv st h :=
  la_iinc B hdg hx (by rw [show Int32.ofInt (-1) = -1 from by decide]) hn K
theorem la_getsN (B : lh_BK p R s m args meth c D ad bs cI cZ t9 k "LightHours$Ledger" cc nL ret) (hdg : decode cc pc = .ok (.getstatic 89, 3)) (K : lh_AJ p l e R s m args below meth c D ad bs cI cZ k nL Q (pc + 3) lv (.ref t9 :: st) h) : lh_AJ p l e R s m args below meth c D ad bs cI cZ k nL Q pc lv st h :=
  fun H locs ls hP hS hl => va_getsN B.1 B.2.1 B.2.2.2.2.2.2.2.2.2.2.1 hS B.2.2.2.2.1 (va_Nw.use rfl B.2.2.2.2.2.2.2.2.2.1.2) (fun _ h9 => h9) hdg (K H locs ls hP hS hl)
theorem la_copy (B : lh_BK p R s m args meth c D ad bs cI cZ t9 k own cc nL ret) {q0 q1 N index : Nat} {x : Int32} (hi0 : q0 < lh_nc k) (hi1 : q1 < lh_nc k) (hs0 : ∀ r, lh_sh ad cI cZ k q0 r = .inl (cI, N, .inl r)) (hs1 : ∀ r, lh_sh ad cI cZ k q1 r = .inl (cI, N, .inl r)) (hx : x = nI N) (hN : N < 2 ^ 31) (hw1 : Cond.methodLink own index arraycopyName ∈ GT) (hw2 : Cond.native arraycopyName ∈ GT) (hw3 : Cond.static arraycopyName ∈ GT) (hw4 : Cond.initialized "java/lang/System" ∈ GT) (hf : 1 ≤ R.frames) (hloc : (st.map fun v => v.category).sum + (nativeFrameWords "java/lang/System" "arraycopy" 5 + 11) ≤ R.locals) (hdg : decode cc pc = .ok (.invokestatic index, 3)) (K : lh_AJ p l e R s m args below meth c D ad bs cI cZ k nL Q (pc + 3) lv st (lh_row h q1 (h q0))) : lh_AJ p l e R s m args below meth c D ad bs cI cZ k nL Q pc lv (.int x :: .int 0 :: .ref (ad q1) :: .int 0 :: .ref (ad q0) :: st) h := by
  intro H locs ls hP hS hl
  have hc : x.toNatClampNeg = N := by rw [hx]; exact nI_clamp hN
  refine va_copyi B.1 B.2.1 (by rw [B.2.2.2.1, hl.1]) B.2.2.2.2.1 (B.2.2.2.2.2.1 _ hw1) (B.2.2.2.2.2.1 _ hw2) (B.2.2.2.2.2.1 _ hw3) (B.2.2.2.2.2.1 _ hw4) B.2.2.2.2.2.2.2.1 hP (B.2.2.2.2.2.2.2.2.1.D cI cZ h) hS q0 q1 0 0 (by rw [lh_get hi0, hs0]) (by rw [lh_get hi1, hs1]) rfl rfl rfl (by decide) (by decide) (by rw [hx]; exact nI_pos hN) (by rw [hc]; show 0 + N ≤ N; omega) (by rw [hc]; show 0 + N ≤ N; omega) (fun i _ => rfl) hf hloc hdg (fun H1 locs1 hP1 _ hS1 => ?_)
  have hP2 := lh_P_congr (g := h q0) (fun j hj => by rw [hc]; exact sb_cpy0 hj) hP1
  rw [← hs1 (h q0), lh_set] at hP2
  exact K H1 locs1 ls hP2 hS1 hl
end LHM
theorem lh_nar {x : Int32} (h : x = 0 ∨ x = 1) : narrow .boolean (.int x) = .int x := by rcases h with rfl | rfl <;> rfl
theorem lh_narv {x : Int32} (h : x = 0 ∨ x = 1) : vp_nar .boolean x = x := by rcases h with rfl | rfl <;> rfl
theorem lk_X8_37 : lh_LS "LightHours" 37 yX8_within cX8_within 3 (some .boolean) 3 := ⟨lh_goodS wd_326 wd_327 wd_35 wd_328, by decide +kernel⟩
theorem lk_X8_51 : lh_LV "LightHours" 51 yX4_add cX4_add 3 (some .int) 1 := ⟨lh_goodV wd_329 wd_330 wd_331 wd_37 wd_332, by decide +kernel⟩
theorem lk_X8_55 : lh_LV "LightHours" 55 yX8_changed cX8_changed 2 (some .int) 1 := ⟨lh_goodV wd_337 wd_339 wd_0 wd_35 wd_340, by decide +kernel⟩
theorem lk_X8_58 : lh_LV "LightHours" 58 yX4_has cX4_has 2 (some .boolean) 1 := ⟨lh_goodV wd_349 wd_350 wd_351 wd_37 wd_352, by decide +kernel⟩
theorem lk_X8_62 : lh_LS "LightHours" 62 yX8_isYear cX8_isYear 1 (some .boolean) 1 := ⟨lh_goodS wd_353 wd_354 wd_35 wd_355, by decide +kernel⟩
theorem lk_X8_69 : lh_LV "LightHours" 69 yX4_read cX4_read 4 none 3 := ⟨lh_goodV wd_356 wd_334 wd_335 wd_37 wd_336, by decide +kernel⟩
theorem lk_X8_73 : lh_LV "LightHours" 73 yX4_lightEnd cX4_lightEnd 5 (some .int) 3 := ⟨lh_goodV wd_361 wd_362 wd_363 wd_37 wd_364, by decide +kernel⟩
theorem lk_X8_84 : lh_LV "LightHours" 84 yX5_add cX5_add 5 (some .int) 4 := ⟨lh_goodV wd_369 wd_370 wd_371 wd_38 wd_372, by decide +kernel⟩
theorem lk_X8_87 : lh_LV "LightHours" 87 yX5_has cX5_has 2 (some .boolean) 1 := ⟨lh_goodV wd_377 wd_378 wd_379 wd_38 wd_380, by decide +kernel⟩
theorem lk_X8_109 : lh_LV "LightHours" 109 yX3_openAt cX3_openAt 2 (some (.object "LightHours$Ledger")) 1 := ⟨lh_goodV wd_389 wd_390 wd_391 wd_42 wd_392, by decide +kernel⟩
theorem lk_X8_121 : lh_LV "LightHours" 121 yX0_countOf cX0_countOf 4 (some .int) 1 := ⟨lh_goodV wd_422 wd_423 wd_424 wd_39 wd_425, by decide +kernel⟩
theorem lk_X8_130 : lh_LV "LightHours" 130 yX6_countOf cX6_countOf 4 (some .int) 1 := ⟨lh_goodV wd_427 wd_428 wd_429 wd_40 wd_430, by decide +kernel⟩
theorem lk_X8_133 : lh_LV "LightHours" 133 yX0_shownWithin cX0_shownWithin 5 (some .boolean) 3 := ⟨lh_goodV wd_435 wd_436 wd_437 wd_39 wd_438, by decide +kernel⟩
theorem lk_X8_137 : lh_LV "LightHours" 137 yX0_addShow cX0_addShow 4 (some .int) 3 := ⟨lh_goodV wd_443 wd_444 wd_445 wd_39 wd_446, by decide +kernel⟩
theorem lk_X8_141 : lh_LV "LightHours" 141 yX3_leftEnd cX3_leftEnd 2 (some .int) 1 := ⟨lh_goodV wd_455 wd_456 wd_457 wd_42 wd_458, by decide +kernel⟩
theorem lk_X8_145 : lh_LV "LightHours" 145 yX0_addLoan cX0_addLoan 4 (some .int) 3 := ⟨lh_goodV wd_463 wd_464 wd_465 wd_39 wd_466, by decide +kernel⟩
theorem lk_X8_154 : lh_LV "LightHours" 154 yX0_has cX0_has 2 (some .boolean) 1 := ⟨lh_goodV wd_476 wd_477 wd_478 wd_39 wd_479, by decide +kernel⟩
theorem lk_X8_159 : lh_LV "LightHours" 159 yX0_isLoan cX0_isLoan 2 (some .boolean) 1 := ⟨lh_goodV wd_484 wd_406 wd_407 wd_39 wd_408, by decide +kernel⟩
theorem lk_X8_171 : lh_LV "LightHours" 171 yX2_spendEnd cX2_spendEnd 3 (some .int) 2 := ⟨lh_goodV wd_485 wd_402 wd_403 wd_36 wd_404, by decide +kernel⟩
theorem lk_X8_176 : lh_LV "LightHours" 176 yX6_add cX6_add 4 (some .int) 3 := ⟨lh_goodV wd_490 wd_491 wd_492 wd_40 wd_493, by decide +kernel⟩
theorem lk_X8_178 : lh_LV "LightHours" 178 yX3_pastEnd cX3_pastEnd 2 (some .int) 1 := ⟨lh_goodV wd_502 wd_503 wd_504 wd_42 wd_505, by decide +kernel⟩
theorem lk_X8_181 : lh_LV "LightHours" 181 yX3_spentEnd cX3_spentEnd 3 (some .int) 2 := ⟨lh_goodV wd_510 wd_460 wd_461 wd_42 wd_462, by decide +kernel⟩
theorem lk_X8_185 : lh_LS "LightHours" 185 yX8_stepOfAmount cX8_stepOfAmount 2 (some .int) 1 := ⟨lh_goodS wd_520 wd_521 wd_35 wd_522, by decide +kernel⟩
theorem lk_X8_195 : lh_LV "LightHours" 195 yX7_add cX7_add 4 (some .int) 3 := ⟨lh_goodV wd_528 wd_529 wd_530 wd_41 wd_531, by decide +kernel⟩
theorem lk_X8_196 : lh_LV "LightHours" 196 yX7_has cX7_has 2 (some .boolean) 1 := ⟨lh_goodV wd_540 wd_541 wd_542 wd_41 wd_543, by decide +kernel⟩
theorem lk_X8_197 : lh_LV "LightHours" 197 yX1_find cX1_find 3 none 0 := ⟨lh_goodV wd_544 wd_545 wd_546 wd_43 wd_547, by decide +kernel⟩
theorem lk_X8_206 : lh_LV "LightHours" 206 yX1_lightOn cX1_lightOn 4 (some .int) 1 := ⟨lh_goodV wd_595 wd_596 wd_597 wd_43 wd_598, by decide +kernel⟩
theorem lk_X8_209 : lh_LV "LightHours" 209 yX1_countHung cX1_countHung 3 (some .int) 0 := ⟨lh_goodV wd_603 wd_604 wd_605 wd_43 wd_606, by decide +kernel⟩
theorem lk_X8_215 : lh_LV "LightHours" 215 yX0_countCancelled cX0_countCancelled 3 (some .int) 0 := ⟨lh_goodV wd_611 wd_612 wd_613 wd_39 wd_614, by decide +kernel⟩
theorem lk_X8_218 : lh_LV "LightHours" 218 yX3_countQuarrels cX3_countQuarrels 3 (some .int) 0 := ⟨lh_goodV wd_615 wd_616 wd_617 wd_42 wd_618, by decide +kernel⟩
theorem lk_X8_221 : lh_LV "LightHours" 221 yX3_countOverspent cX3_countOverspent 3 (some .int) 0 := ⟨lh_goodV wd_620 wd_621 wd_622 wd_42 wd_623, by decide +kernel⟩
theorem lk_X8_224 : lh_LV "LightHours" 224 yX4_countReadings cX4_countReadings 3 (some .int) 0 := ⟨lh_goodV wd_625 wd_626 wd_627 wd_37 wd_628, by decide +kernel⟩
theorem lk_X8_227 : lh_LV "LightHours" 227 yX2_copyFrom cX2_copyFrom 2 none 1 := ⟨lh_goodV wd_633 wd_634 wd_635 wd_36 wd_636, by decide +kernel⟩
theorem lk_X8_230 : lh_LV "LightHours" 230 yX1_forget cX1_forget 1 none 0 := ⟨lh_goodV wd_341 wd_342 wd_343 wd_43 wd_344, by decide +kernel⟩
theorem lk_X0_32 : lh_LV "LightHours$Bookings" 32 yX0_add cX0_add 5 (some .int) 4 := ⟨lh_goodV wd_447 wd_449 wd_3 wd_39 wd_450, by decide +kernel⟩
theorem lk_X0_36 : lh_LV "LightHours$Bookings" 36 yX0_standsFor cX0_standsFor 3 (some .boolean) 2 := ⟨lh_goodV wd_426 wd_398 wd_399 wd_39 wd_400, by decide +kernel⟩
theorem lk_X0_40 : lh_LV "LightHours$Bookings" 40 yX0_isLoan cX0_isLoan 2 (some .boolean) 1 := ⟨lh_goodV wd_439 wd_406 wd_407 wd_39 wd_408, by decide +kernel⟩
theorem lk_X0_50 : lh_LN "LightHours$Bookings" 50 yX8_copyRow cX8_copyRow 2 none 2 := ⟨lh_goodB wd_577, by decide +kernel, wd_576, wd_35, by decide +kernel⟩
theorem lk_X1_46 : lh_LV "LightHours$Hanging" 46 yX1_prepare cX1_prepare 2 none 0 := ⟨lh_goodV wd_548 wd_550 wd_4 wd_43 wd_551, by decide +kernel⟩
theorem lk_X1_60 : lh_LS "LightHours$Hanging" 60 yX1_place cX1_place 4 none 3 := ⟨lh_goodS wd_568 wd_569 wd_43 wd_570, by decide +kernel⟩
theorem lk_X1_71 : lh_LV "LightHours$Hanging" 71 yX3_openAt cX3_openAt 2 (some (.object "LightHours$Ledger")) 1 := ⟨lh_goodV wd_552 wd_390 wd_391 wd_42 wd_392, by decide +kernel⟩
theorem lk_X1_77 : lh_LV "LightHours$Hanging" 77 yX3_leftEnd cX3_leftEnd 2 (some .int) 1 := ⟨lh_goodV wd_553 wd_456 wd_457 wd_42 wd_458, by decide +kernel⟩
theorem lk_X1_91 : lh_LV "LightHours$Hanging" 91 yX4_lightEnd cX4_lightEnd 5 (some .int) 3 := ⟨lh_goodV wd_554 wd_362 wd_363 wd_37 wd_364, by decide +kernel⟩
theorem lk_X1_97 : lh_LV "LightHours$Hanging" 97 yX1_sheetsFor cX1_sheetsFor 5 (some .int) 1 := ⟨lh_goodV wd_555 wd_557 wd_5 wd_43 wd_558, by decide +kernel⟩
theorem lk_X1_104 : lh_LV "LightHours$Hanging" 104 yX5_hasTheme cX5_hasTheme 3 (some .boolean) 2 := ⟨lh_goodV wd_559 wd_560 wd_561 wd_38 wd_562, by decide +kernel⟩
theorem lk_X1_108 : lh_LV "LightHours$Hanging" 108 yX1_shownTooNear cX1_shownTooNear 4 (some .boolean) 2 := ⟨lh_goodV wd_563 wd_565 wd_6 wd_43 wd_566, by decide +kernel⟩
theorem lk_X1_118 : lh_LV "LightHours$Hanging" 118 yX0_shownWithin cX0_shownWithin 5 (some .boolean) 3 := ⟨lh_goodV wd_567 wd_436 wd_437 wd_39 wd_438, by decide +kernel⟩
theorem lk_X1_127 : lh_LV "LightHours$Hanging" 127 yX1_takeIfBetter cX1_takeIfBetter 2 none 1 := ⟨lh_goodV wd_571 wd_573 wd_7 wd_43 wd_574, by decide +kernel⟩
theorem lk_X1_131 : lh_LV "LightHours$Hanging" 131 yX1_fits cX1_fits 6 (some .boolean) 2 := ⟨lh_goodV wd_582 wd_584 wd_8 wd_43 wd_585, by decide +kernel⟩
theorem lk_X1_137 : lh_LN "LightHours$Hanging" 137 yX8_copyRow cX8_copyRow 2 none 2 := ⟨lh_goodB wd_577, by decide +kernel, wd_576, wd_35, by decide +kernel⟩
theorem lk_X2_44 : lh_LV "LightHours$House" 44 yX0_isLoan cX0_isLoan 2 (some .boolean) 1 := ⟨lh_goodV wd_405 wd_406 wd_407 wd_39 wd_408, by decide +kernel⟩
theorem lk_X2_58 : lh_LV "LightHours$House" 58 yX4_lightEnd cX4_lightEnd 5 (some .int) 3 := ⟨lh_goodV wd_409 wd_362 wd_363 wd_37 wd_364, by decide +kernel⟩
theorem lk_X2_62 : lh_LV "LightHours$House" 62 yX4_copyFrom cX4_copyFrom 2 none 1 := ⟨lh_goodV wd_637 wd_638 wd_639 wd_37 wd_640, by decide +kernel⟩
theorem lk_X2_66 : lh_LV "LightHours$House" 66 yX5_copyFrom cX5_copyFrom 2 none 1 := ⟨lh_goodV wd_642 wd_643 wd_644 wd_38 wd_645, by decide +kernel⟩
theorem lk_X2_69 : lh_LV "LightHours$House" 69 yX0_copyFrom cX0_copyFrom 3 none 1 := ⟨lh_goodV wd_647 wd_648 wd_649 wd_39 wd_650, by decide +kernel⟩
theorem lk_X2_72 : lh_LV "LightHours$House" 72 yX6_copyFrom cX6_copyFrom 2 none 1 := ⟨lh_goodV wd_652 wd_653 wd_654 wd_40 wd_655, by decide +kernel⟩
theorem lk_X2_75 : lh_LV "LightHours$House" 75 yX7_copyFrom cX7_copyFrom 2 none 1 := ⟨lh_goodV wd_657 wd_658 wd_659 wd_41 wd_660, by decide +kernel⟩
theorem lk_X3_36 : lh_LV "LightHours$Ledger" 36 yX3_sumSpends cX3_sumSpends 3 none 0 := ⟨lh_goodV wd_393 wd_395 wd_1 wd_42 wd_396, by decide +kernel⟩
theorem lk_X3_39 : lh_LV "LightHours$Ledger" 39 yX3_narrowPast cX3_narrowPast 7 none 0 := ⟨lh_goodV wd_410 wd_412 wd_2 wd_42 wd_413, by decide +kernel⟩
theorem lk_X3_53 : lh_LV "LightHours$Ledger" 53 yX0_standsFor cX0_standsFor 3 (some .boolean) 2 := ⟨lh_goodV wd_397 wd_398 wd_399 wd_39 wd_400, by decide +kernel⟩
theorem lk_X3_60 : lh_LV "LightHours$Ledger" 60 yX2_spendEnd cX2_spendEnd 3 (some .int) 2 := ⟨lh_goodV wd_401 wd_402 wd_403 wd_36 wd_404, by decide +kernel⟩
theorem lk_X3_104 : lh_LV "LightHours$Ledger" 104 yX3_spentEnd cX3_spentEnd 3 (some .int) 2 := ⟨lh_goodV wd_459 wd_460 wd_461 wd_42 wd_462, by decide +kernel⟩
theorem lk_X3_108 : lh_LV "LightHours$Ledger" 108 yX3_openAt cX3_openAt 2 (some (.object "LightHours$Ledger")) 1 := ⟨lh_goodV wd_619 wd_390 wd_391 wd_42 wd_392, by decide +kernel⟩
theorem lk_X3_112 : lh_LV "LightHours$Ledger" 112 yX3_leftEnd cX3_leftEnd 2 (some .int) 1 := ⟨lh_goodV wd_624 wd_456 wd_457 wd_42 wd_458, by decide +kernel⟩
theorem lk_X4_22 : lh_LV "LightHours$Rooms" 22 yX4_read cX4_read 4 none 3 := ⟨lh_goodV wd_333 wd_334 wd_335 wd_37 wd_336, by decide +kernel⟩
theorem lk_X4_26 : lh_LN "LightHours$Rooms" 26 yX8_copyRow cX8_copyRow 2 none 2 := ⟨lh_goodB wd_577, by decide +kernel, wd_576, wd_35, by decide +kernel⟩
theorem lk_X5_37 : lh_LN "LightHours$Sheets" 37 yX8_copyRow cX8_copyRow 2 none 2 := ⟨lh_goodB wd_577, by decide +kernel, wd_576, wd_35, by decide +kernel⟩
theorem lk_X6_25 : lh_LN "LightHours$Threads" 25 yX8_copyRow cX8_copyRow 2 none 2 := ⟨lh_goodB wd_577, by decide +kernel, wd_576, wd_35, by decide +kernel⟩
theorem lk_X7_25 : lh_LN "LightHours$Walls" 25 yX8_copyRow cX8_copyRow 2 none 2 := ⟨lh_goodB wd_577, by decide +kernel, wd_576, wd_35, by decide +kernel⟩
theorem lk_L_13 : lh_LV "LightHoursLaw" 13 yX8_room cX8_room 2 (some .int) 1 := ⟨lh_goodV wd_322 wd_323 wd_324 wd_35 wd_325, by decide +kernel⟩
theorem lk_L_17 : lh_LV "LightHoursLaw" 17 yX9_room cX9_room 4 (some .int) 1 := ⟨lh_goodV wd_728 wd_729 wd_730 wd_44 wd_731, by decide +kernel⟩
theorem lk_L_18 : lh_LV "LightHoursLaw" 18 yX8_reading cX8_reading 4 (some .int) 3 := ⟨lh_goodV wd_345 wd_346 wd_347 wd_35 wd_348, by decide +kernel⟩
theorem lk_L_22 : lh_LV "LightHoursLaw" 22 yX9_reading cX9_reading 4 (some .int) 3 := ⟨lh_goodV wd_739 wd_740 wd_741 wd_44 wd_742, by decide +kernel⟩
theorem lk_L_23 : lh_LV "LightHoursLaw" 23 yX8_light cX8_light 4 (some .int) 3 := ⟨lh_goodV wd_357 wd_358 wd_359 wd_35 wd_360, by decide +kernel⟩
theorem lk_L_27 : lh_LV "LightHoursLaw" 27 yX9_light cX9_light 4 (some .int) 3 := ⟨lh_goodV wd_750 wd_751 wd_752 wd_44 wd_753, by decide +kernel⟩
theorem lk_L_28 : lh_LV "LightHoursLaw" 28 yX8_sheet cX8_sheet 5 (some .int) 4 := ⟨lh_goodV wd_365 wd_366 wd_367 wd_35 wd_368, by decide +kernel⟩
theorem lk_L_32 : lh_LV "LightHoursLaw" 32 yX9_sheet cX9_sheet 6 (some .int) 4 := ⟨lh_goodV wd_758 wd_759 wd_760 wd_44 wd_761, by decide +kernel⟩
theorem lk_L_33 : lh_LV "LightHoursLaw" 33 yX8_sisters cX8_sisters 4 (some .int) 2 := ⟨lh_goodV wd_373 wd_374 wd_375 wd_35 wd_376, by decide +kernel⟩
theorem lk_L_37 : lh_LV "LightHoursLaw" 37 yX9_sisters cX9_sisters 3 (some .int) 2 := ⟨lh_goodV wd_762 wd_763 wd_764 wd_44 wd_765, by decide +kernel⟩
theorem lk_L_38 : lh_LV "LightHoursLaw" 38 yX8_past cX8_past 4 (some .int) 3 := ⟨lh_goodV wd_381 wd_382 wd_383 wd_35 wd_384, by decide +kernel⟩
theorem lk_L_41 : lh_LV "LightHoursLaw" 41 yX9_past cX9_past 4 (some .int) 3 := ⟨lh_goodV wd_770 wd_771 wd_772 wd_44 wd_773, by decide +kernel⟩
theorem lk_L_42 : lh_LV "LightHoursLaw" 42 yX8_of cX8_of 4 (some .int) 2 := ⟨lh_goodV wd_385 wd_386 wd_387 wd_35 wd_388, by decide +kernel⟩
theorem lk_L_45 : lh_LV "LightHoursLaw" 45 yX9_of cX9_of 3 (some .int) 2 := ⟨lh_goodV wd_774 wd_775 wd_776 wd_44 wd_777, by decide +kernel⟩
theorem lk_L_46 : lh_LV "LightHoursLaw" 46 yX8_show cX8_show 4 (some .int) 3 := ⟨lh_goodV wd_431 wd_432 wd_433 wd_35 wd_434, by decide +kernel⟩
theorem lk_L_49 : lh_LV "LightHoursLaw" 49 yX9_show cX9_show 4 (some .int) 3 := ⟨lh_goodV wd_802 wd_803 wd_804 wd_44 wd_805, by decide +kernel⟩
theorem lk_L_50 : lh_LV "LightHoursLaw" 50 yX8_lend cX8_lend 4 (some .int) 3 := ⟨lh_goodV wd_451 wd_452 wd_453 wd_35 wd_454, by decide +kernel⟩
theorem lk_L_53 : lh_LV "LightHoursLaw" 53 yX9_lend cX9_lend 4 (some .int) 3 := ⟨lh_goodV wd_814 wd_815 wd_816 wd_44 wd_817, by decide +kernel⟩
theorem lk_L_54 : lh_LV "LightHoursLaw" 54 yX8_lacks cX8_lacks 3 (some .int) 2 := ⟨lh_goodV wd_467 wd_468 wd_469 wd_35 wd_470, by decide +kernel⟩
theorem lk_L_57 : lh_LV "LightHoursLaw" 57 yX9_lacks cX9_lacks 4 (some .int) 2 := ⟨lh_goodV wd_826 wd_827 wd_828 wd_44 wd_829, by decide +kernel⟩
theorem lk_L_58 : lh_LV "LightHoursLaw" 58 yX8_cancel cX8_cancel 3 (some .int) 1 := ⟨lh_goodV wd_472 wd_473 wd_474 wd_35 wd_475, by decide +kernel⟩
theorem lk_L_61 : lh_LV "LightHoursLaw" 61 yX9_cancel cX9_cancel 2 (some .int) 1 := ⟨lh_goodV wd_830 wd_831 wd_832 wd_44 wd_833, by decide +kernel⟩
theorem lk_L_62 : lh_LV "LightHoursLaw" 62 yX8_booking cX8_booking 4 (some .int) 2 := ⟨lh_goodV wd_480 wd_481 wd_482 wd_35 wd_483, by decide +kernel⟩
theorem lk_L_65 : lh_LV "LightHoursLaw" 65 yX9_booking cX9_booking 4 (some .int) 2 := ⟨lh_goodV wd_834 wd_835 wd_836 wd_44 wd_837, by decide +kernel⟩
theorem lk_L_66 : lh_LV "LightHoursLaw" 66 yX8_thread cX8_thread 4 (some .int) 3 := ⟨lh_goodV wd_486 wd_487 wd_488 wd_35 wd_489, by decide +kernel⟩
theorem lk_L_69 : lh_LV "LightHoursLaw" 69 yX9_thread cX9_thread 5 (some .int) 3 := ⟨lh_goodV wd_838 wd_839 wd_840 wd_44 wd_841, by decide +kernel⟩
theorem lk_L_70 : lh_LV "LightHoursLaw" 70 yX8_cut cX8_cut 1 (some .int) 0 := ⟨lh_goodV wd_494 wd_495 wd_496 wd_35 wd_497, by decide +kernel⟩
theorem lk_L_74 : lh_LV "LightHoursLaw" 74 yX9_cut cX9_cut 1 (some .int) 0 := ⟨lh_goodV wd_842 wd_843 wd_844 wd_44 wd_845, by decide +kernel⟩
theorem lk_L_75 : lh_LV "LightHoursLaw" 75 yX8_pastOf cX8_pastOf 3 (some .int) 2 := ⟨lh_goodV wd_498 wd_499 wd_500 wd_35 wd_501, by decide +kernel⟩
theorem lk_L_79 : lh_LV "LightHoursLaw" 79 yX9_pastOf cX9_pastOf 3 (some .int) 2 := ⟨lh_goodV wd_846 wd_847 wd_848 wd_44 wd_849, by decide +kernel⟩
theorem lk_L_80 : lh_LV "LightHoursLaw" 80 yX8_spent cX8_spent 4 (some .int) 3 := ⟨lh_goodV wd_506 wd_507 wd_508 wd_35 wd_509, by decide +kernel⟩
theorem lk_L_83 : lh_LV "LightHoursLaw" 83 yX9_spent cX9_spent 4 (some .int) 3 := ⟨lh_goodV wd_850 wd_851 wd_852 wd_44 wd_853, by decide +kernel⟩
theorem lk_L_84 : lh_LV "LightHoursLaw" 84 yX8_left cX8_left 3 (some .int) 2 := ⟨lh_goodV wd_511 wd_512 wd_513 wd_35 wd_514, by decide +kernel⟩
theorem lk_L_87 : lh_LV "LightHoursLaw" 87 yX9_left cX9_left 3 (some .int) 2 := ⟨lh_goodV wd_854 wd_855 wd_856 wd_44 wd_857, by decide +kernel⟩
theorem lk_L_88 : lh_LV "LightHoursLaw" 88 yX8_step cX8_step 4 (some .int) 3 := ⟨lh_goodV wd_516 wd_517 wd_518 wd_35 wd_519, by decide +kernel⟩
theorem lk_L_91 : lh_LV "LightHoursLaw" 91 yX9_step cX9_step 6 (some .int) 3 := ⟨lh_goodV wd_859 wd_860 wd_861 wd_44 wd_862, by decide +kernel⟩
theorem lk_L_92 : lh_LV "LightHoursLaw" 92 yX8_wall cX8_wall 4 (some .int) 3 := ⟨lh_goodV wd_524 wd_525 wd_526 wd_35 wd_527, by decide +kernel⟩
theorem lk_L_95 : lh_LV "LightHoursLaw" 95 yX9_wall cX9_wall 5 (some .int) 3 := ⟨lh_goodV wd_863 wd_864 wd_865 wd_44 wd_866, by decide +kernel⟩
theorem lk_L_96 : lh_LV "LightHoursLaw" 96 yX8_strip cX8_strip 1 (some .int) 0 := ⟨lh_goodV wd_532 wd_533 wd_534 wd_35 wd_535, by decide +kernel⟩
theorem lk_L_99 : lh_LV "LightHoursLaw" 99 yX9_strip cX9_strip 1 (some .int) 0 := ⟨lh_goodV wd_867 wd_868 wd_869 wd_44 wd_870, by decide +kernel⟩
theorem lk_L_100 : lh_LV "LightHoursLaw" 100 yX8_hung cX8_hung 2 (some .int) 1 := ⟨lh_goodV wd_536 wd_537 wd_538 wd_35 wd_539, by decide +kernel⟩
theorem lk_L_103 : lh_LV "LightHoursLaw" 103 yX9_hung cX9_hung 2 (some .int) 1 := ⟨lh_goodV wd_871 wd_872 wd_873 wd_44 wd_874, by decide +kernel⟩
theorem lk_L_104 : lh_LV "LightHoursLaw" 104 yX8_worth cX8_worth 1 (some .int) 0 := ⟨lh_goodV wd_587 wd_588 wd_589 wd_35 wd_590, by decide +kernel⟩
theorem lk_L_107 : lh_LV "LightHoursLaw" 107 yX9_worth cX9_worth 1 (some .int) 0 := ⟨lh_goodV wd_898 wd_899 wd_900 wd_44 wd_901, by decide +kernel⟩
theorem lk_L_108 : lh_LV "LightHoursLaw" 108 yX8_spares cX8_spares 2 (some .int) 1 := ⟨lh_goodV wd_591 wd_592 wd_593 wd_35 wd_594, by decide +kernel⟩
theorem lk_L_111 : lh_LV "LightHoursLaw" 111 yX9_spares cX9_spares 4 (some .int) 1 := ⟨lh_goodV wd_902 wd_903 wd_904 wd_44 wd_905, by decide +kernel⟩
theorem lk_L_112 : lh_LV "LightHoursLaw" 112 yX8_hang cX8_hang 4 (some .int) 0 := ⟨lh_goodV wd_599 wd_600 wd_601 wd_35 wd_602, by decide +kernel⟩
theorem lk_L_115 : lh_LV "LightHoursLaw" 115 yX9_hang cX9_hang 4 (some .int) 0 := ⟨lh_goodV wd_906 wd_907 wd_908 wd_44 wd_909, by decide +kernel⟩
theorem lk_L_116 : lh_LV "LightHoursLaw" 116 yX8_many cX8_many 2 (some .int) 1 := ⟨lh_goodV wd_607 wd_608 wd_609 wd_35 wd_610, by decide +kernel⟩
theorem lk_L_119 : lh_LV "LightHoursLaw" 119 yX9_many cX9_many 2 (some .int) 1 := ⟨lh_goodV wd_910 wd_911 wd_912 wd_44 wd_913, by decide +kernel⟩
theorem lk_L_120 : lh_LV "LightHoursLaw" 120 yX8_keep cX8_keep 1 (some .int) 0 := ⟨lh_goodV wd_629 wd_630 wd_631 wd_35 wd_632, by decide +kernel⟩
theorem lk_L_123 : lh_LV "LightHoursLaw" 123 yX9_keep cX9_keep 1 (some .int) 0 := ⟨lh_goodV wd_931 wd_932 wd_933 wd_44 wd_934, by decide +kernel⟩
theorem lk_L_124 : lh_LV "LightHoursLaw" 124 yX8_back cX8_back 1 (some .int) 0 := ⟨lh_goodV wd_662 wd_663 wd_664 wd_35 wd_665, by decide +kernel⟩
theorem lk_L_127 : lh_LV "LightHoursLaw" 127 yX9_back cX9_back 1 (some .int) 0 := ⟨lh_goodV wd_943 wd_944 wd_945 wd_44 wd_946, by decide +kernel⟩
theorem lk_X9_47 : lh_LS "LightHoursModel" 47 yX9_in cX9_in 3 (some .boolean) 3 := ⟨lh_goodS wd_732 wd_733 wd_44 wd_734, by decide +kernel⟩
theorem lk_X9_51 : lh_LV "LightHoursModel" 51 yX9_came cX9_came 2 (some .int) 1 := ⟨lh_goodV wd_735 wd_737 wd_9 wd_44 wd_738, by decide +kernel⟩
theorem lk_X9_55 : lh_LV "LightHoursModel" 55 yX9_is cX9_is 3 (some .boolean) 2 := ⟨lh_goodV wd_743 wd_745 wd_10 wd_44 wd_746, by decide +kernel⟩
theorem lk_X9_59 : lh_LS "LightHoursModel" 59 yX9_isYear cX9_isYear 1 (some .boolean) 1 := ⟨lh_goodS wd_747 wd_748 wd_44 wd_749, by decide +kernel⟩
theorem lk_X9_63 : lh_LV "LightHoursModel" 63 yX9_lightOf cX9_lightOf 5 (some .int) 3 := ⟨lh_goodV wd_754 wd_756 wd_11 wd_44 wd_757, by decide +kernel⟩
theorem lk_X9_67 : lh_LV "LightHoursModel" 67 yX9_sisterOf cX9_sisterOf 2 (some .int) 1 := ⟨lh_goodV wd_766 wd_768 wd_12 wd_44 wd_769, by decide +kernel⟩
theorem lk_X9_70 : lh_LV "LightHoursModel" 70 yX9_isHere cX9_isHere 3 (some .boolean) 2 := ⟨lh_goodV wd_786 wd_788 wd_15 wd_44 wd_789, by decide +kernel⟩
theorem lk_X9_73 : lh_LV "LightHoursModel" 73 yX9_spends cX9_spends 4 (some .int) 2 := ⟨lh_goodV wd_790 wd_792 wd_16 wd_44 wd_793, by decide +kernel⟩
theorem lk_X9_84 : lh_LV "LightHoursModel" 84 yX9_booked cX9_booked 6 (some .int) 3 := ⟨lh_goodV wd_782 wd_784 wd_14 wd_44 wd_785, by decide +kernel⟩
theorem lk_X9_91 : lh_LV "LightHoursModel" 91 yX9_findPast cX9_findPast 7 none 1 := ⟨lh_goodV wd_778 wd_780 wd_13 wd_44 wd_781, by decide +kernel⟩
theorem lk_X9_95 : lh_LV "LightHoursModel" 95 yX9_spentOf cX9_spentOf 4 (some .int) 3 := ⟨lh_goodV wd_822 wd_824 wd_22 wd_44 wd_825, by decide +kernel⟩
theorem lk_X9_98 : lh_LV "LightHoursModel" 98 yX9_bookedMany cX9_bookedMany 4 (some .int) 1 := ⟨lh_goodV wd_794 wd_796 wd_17 wd_44 wd_797, by decide +kernel⟩
theorem lk_X9_101 : lh_LV "LightHoursModel" 101 yX9_threadMany cX9_threadMany 4 (some .int) 1 := ⟨lh_goodV wd_798 wd_800 wd_18 wd_44 wd_801, by decide +kernel⟩
theorem lk_X9_104 : lh_LV "LightHoursModel" 104 yX9_isShown cX9_isShown 5 (some .boolean) 2 := ⟨lh_goodV wd_806 wd_808 wd_19 wd_44 wd_809, by decide +kernel⟩
theorem lk_X9_107 : lh_LV "LightHoursModel" 107 yX9_books cX9_books 6 (some .int) 4 := ⟨lh_goodV wd_810 wd_812 wd_20 wd_44 wd_813, by decide +kernel⟩
theorem lk_X9_111 : lh_LV "LightHoursModel" 111 yX9_leastLeft cX9_leastLeft 2 (some .int) 1 := ⟨lh_goodV wd_818 wd_820 wd_21 wd_44 wd_821, by decide +kernel⟩
theorem lk_X9_115 : lh_LS "LightHoursModel" 115 yX9_away cX9_away 2 (some .int) 2 := ⟨lh_goodS wd_895 wd_896 wd_44 wd_897, by decide +kernel⟩
theorem lk_X9_119 : lh_LV "LightHoursModel" 119 yX9_rests cX9_rests 7 (some .boolean) 2 := ⟨lh_goodV wd_891 wd_893 wd_27 wd_44 wd_894, by decide +kernel⟩
theorem lk_X9_125 : lh_LV "LightHoursModel" 125 yX9_takes cX9_takes 3 none 0 := ⟨lh_goodV wd_879 wd_881 wd_24 wd_44 wd_882, by decide +kernel⟩
theorem lk_X9_128 : lh_LV "LightHoursModel" 128 yX9_fits cX9_fits 9 (some .boolean) 1 := ⟨lh_goodV wd_887 wd_889 wd_26 wd_44 wd_890, by decide +kernel⟩
theorem lk_X9_131 : lh_LV "LightHoursModel" 131 yX9_valueOf cX9_valueOf 2 (some .int) 1 := ⟨lh_goodV wd_883 wd_885 wd_25 wd_44 wd_886, by decide +kernel⟩
theorem lk_X9_134 : lh_LV "LightHoursModel" 134 yX9_findHang cX9_findHang 3 none 0 := ⟨lh_goodV wd_875 wd_877 wd_23 wd_44 wd_878, by decide +kernel⟩
theorem lk_X9_137 : lh_LV "LightHoursModel" 137 yX9_of cX9_of 3 (some .int) 2 := ⟨lh_goodV wd_922 wd_775 wd_776 wd_44 wd_777, by decide +kernel⟩
theorem lk_X9_140 : lh_LV "LightHoursModel" 140 yX9_cancelled cX9_cancelled 3 (some .int) 0 := ⟨lh_goodV wd_914 wd_916 wd_28 wd_44 wd_917, by decide +kernel⟩
theorem lk_X9_144 : lh_LV "LightHoursModel" 144 yX9_quarrels cX9_quarrels 3 (some .int) 0 := ⟨lh_goodV wd_918 wd_920 wd_29 wd_44 wd_921, by decide +kernel⟩
theorem lk_X9_147 : lh_LV "LightHoursModel" 147 yX9_overspent cX9_overspent 3 (some .int) 0 := ⟨lh_goodV wd_923 wd_925 wd_30 wd_44 wd_926, by decide +kernel⟩
theorem lk_X9_150 : lh_LV "LightHoursModel" 150 yX9_readMany cX9_readMany 3 (some .int) 0 := ⟨lh_goodV wd_927 wd_929 wd_31 wd_44 wd_930, by decide +kernel⟩
theorem lk_X9_156 : lh_LV "LightHoursModel" 156 yX9_move cX9_move 5 none 3 := ⟨lh_goodV wd_939 wd_941 wd_33 wd_44 wd_942, by decide +kernel⟩
theorem lk_X9_160 : lh_LV "LightHoursModel" 160 yX9_moveAll cX9_moveAll 2 none 1 := ⟨lh_goodV wd_935 wd_937 wd_32 wd_44 wd_938, by decide +kernel⟩
