def lh_ji (k : Nat) : Nat := match k with
  | 0 => 0
  | 1 => 1
  | 2 => 2
  | 3 => 5
  | 4 => 13
  | 5 => 19
  | 6 => 23
  | 7 => 3
  | 8 => 4
  | 9 => 6
  | 10 => 7
  | 11 => 8
  | 12 => 9
  | 13 => 10
  | 14 => 11
  | 15 => 12
  | 16 => 14
  | 17 => 15
  | 18 => 16
  | 19 => 17
  | 20 => 18
  | 21 => 20
  | 22 => 21
  | 23 => 22
  | 24 => 24
  | 25 => 25
  | 26 => 26
  | k => k
def lh_ad0 (q r : Nat) (u v : Nat → Nat) : Nat → Nat := fun k => if k = 0 then q else if k = 37 then r else if k < 37 then u (lh_ji k - 1) else v (k - 38)
def lh_Tz : Nat → Int32 := upd (upd (upd (upd (upd (upd (upd (upd (upd (fun _ => 0) 0 0) 1 10) 2 20) 3 40) 4 80) 5 160) 6 320) 7 640) 8 100000
def lh_h0 : lh_HS := fun i => if i = 45 then lh_Tz else fun _ => 0
abbrev lh_f8 (cI cZ : ClassId) (q : Nat) (u : Nat → Nat) : va_W := [(q, .inr (8, [.ref (u 0), .ref (u 26), .ref (u 29), .null])), ((u 0), .inr (2, [.ref (u 1), .ref (u 4), .ref (u 12), .ref (u 18), .ref (u 22)])), ((u 1), .inr (4, [.int 0, .ref (u 2), .ref (u 3)])), ((u 2), .inl (cI, 4, .inl (fun _ => 0))), ((u 3), .inl (cI, 40, .inl (fun _ => 0))), ((u 4), .inr (5, [.int 0, .ref (u 5), .ref (u 6), .ref (u 7), .ref (u 8), .ref (u 9), .ref (u 10), .ref (u 11)])), ((u 5), .inl (cI, 8, .inl (fun _ => 0))), ((u 6), .inl (cI, 8, .inl (fun _ => 0))), ((u 7), .inl (cI, 8, .inl (fun _ => 0))), ((u 8), .inl (cI, 8, .inl (fun _ => 0))), ((u 9), .inl (cI, 8, .inl (fun _ => 0))), ((u 10), .inl (cI, 8, .inl (fun _ => 0))), ((u 11), .inl (cI, 8, .inl (fun _ => 0))), ((u 12), .inr (0, [.int 0, .ref (u 13), .ref (u 14), .ref (u 15), .ref (u 16), .ref (u 17)])), ((u 13), .inl (cI, 30, .inl (fun _ => 0))), ((u 14), .inl (cI, 30, .inl (fun _ => 0))), ((u 15), .inl (cI, 30, .inl (fun _ => 0))), ((u 16), .inl (cI, 30, .inl (fun _ => 0))), ((u 17), .inl (cZ, 30, .inl (fun _ => 0))), ((u 18), .inr (6, [.int 0, .ref (u 19), .ref (u 20), .ref (u 21)])), ((u 19), .inl (cI, 12, .inl (fun _ => 0))), ((u 20), .inl (cI, 12, .inl (fun _ => 0))), ((u 21), .inl (cI, 12, .inl (fun _ => 0))), ((u 22), .inr (7, [.int 0, .ref (u 23), .ref (u 24), .ref (u 25)])), ((u 23), .inl (cI, 5, .inl (fun _ => 0))), ((u 24), .inl (cI, 5, .inl (fun _ => 0))), ((u 25), .inl (cI, 5, .inl (fun _ => 0))), ((u 26), .inr (3, [.ref (u 0), .int 0, .int 0, .int 0, .int 0, .ref (u 27), .ref (u 28)])), ((u 27), .inl (cI, 10, .inl (fun _ => 0))), ((u 28), .inl (cI, 10, .inl (fun _ => 0))), ((u 29), .inr (1, [.ref (u 0), .ref (u 26), .int 0, .ref (u 30), .int 0, .ref (u 31), .ref (u 32), .ref (u 33), .ref (u 34), .ref (u 35)])), ((u 30), .inl (cI, 5, .inl (fun _ => 0))), ((u 31), .inl (cI, 5, .inl (fun _ => 0))), ((u 32), .inl (cI, 5, .inl (fun _ => 0))), ((u 33), .inl (cI, 5, .inl (fun _ => 0))), ((u 34), .inl (cI, 6, .inl (fun _ => 0))), ((u 35), .inl (cI, 8, .inl (fun _ => 0)))]
abbrev lh_f9 (cI : ClassId) (q : Nat) (u : Nat → Nat) : va_W := [(q, .inr (9, [.ref (u 0), .ref (u 1), .ref (u 2), .ref (u 3), .ref (u 4), .ref (u 5), .ref (u 6), .ref (u 7), .int 0, .ref (u 8), .int 0, .int 0, .int 0, .ref (u 9), .ref (u 10), .ref (u 11), .int 0, .int 0])), ((u 0), .inl (cI, 5, .inl (fun _ => 0))), ((u 1), .inl (cI, 4, .inl (fun _ => 0))), ((u 2), .inl (cI, 40, .inl (fun _ => 0))), ((u 3), .inl (cI, 56, .inl (fun _ => 0))), ((u 4), .inl (cI, 150, .inl (fun _ => 0))), ((u 5), .inl (cI, 36, .inl (fun _ => 0))), ((u 6), .inl (cI, 15, .inl (fun _ => 0))), ((u 7), .inl (cI, 9, .inl (upd (upd (upd (upd (upd (upd (upd (upd (upd (fun _ => 0) 0 0) 1 10) 2 20) 3 40) 4 80) 5 160) 6 320) 7 640) 8 100000))), ((u 8), .inl (cI, 310, .inl (fun _ => 0))), ((u 9), .inl (cI, 6, .inl (fun _ => 0))), ((u 10), .inl (cI, 5, .inl (fun _ => 0))), ((u 11), .inl (cI, 8, .inl (fun _ => 0)))]
set_option maxHeartbeats 4000000 in
set_option maxRecDepth 100000 in
theorem lh_f_at (q r : Nat) (u v : Nat → Nat) (cI cZ : ClassId) (k : Nat) (hk : k < 50) : (lh_f8 cI cZ q u ++ lh_f9 cI r v)[lh_ji k]? = some (lh_ad0 q r u v k, lh_sh (lh_ad0 q r u v) cI cZ false k (lh_h0 k)) := by
  rcases (show k = 0 ∨ k = 1 ∨ k = 2 ∨ k = 3 ∨ k = 4 ∨ k = 5 ∨ k = 6 ∨ k = 7 ∨ k = 8 ∨ k = 9 ∨ k = 10 ∨ k = 11 ∨ k = 12 ∨ k = 13 ∨ k = 14 ∨ k = 15 ∨ k = 16 ∨ k = 17 ∨ k = 18 ∨ k = 19 ∨ k = 20 ∨ k = 21 ∨ k = 22 ∨ k = 23 ∨ k = 24 ∨ k = 25 ∨ k = 26 ∨ k = 27 ∨ k = 28 ∨ k = 29 ∨ k = 30 ∨ k = 31 ∨ k = 32 ∨ k = 33 ∨ k = 34 ∨ k = 35 ∨ k = 36 ∨ k = 37 ∨ k = 38 ∨ k = 39 ∨ k = 40 ∨ k = 41 ∨ k = 42 ∨ k = 43 ∨ k = 44 ∨ k = 45 ∨ k = 46 ∨ k = 47 ∨ k = 48 ∨ k = 49 by omega) with rfl | rfl | rfl | rfl | rfl | rfl | rfl | rfl | rfl | rfl | rfl | rfl | rfl | rfl | rfl | rfl | rfl | rfl | rfl | rfl | rfl | rfl | rfl | rfl | rfl | rfl | rfl | rfl | rfl | rfl | rfl | rfl | rfl | rfl | rfl | rfl | rfl | rfl | rfl | rfl | rfl | rfl | rfl | rfl | rfl | rfl | rfl | rfl | rfl | rfl <;> rfl
theorem lh_ji_inj : ∀ i, i < 50 → ∀ j, j < 50 → lh_ji i = lh_ji j → i = j := by decide +kernel
theorem lh_begin {D : va_G} {bs : Nat} {cI cZ : ClassId} {q r : Nat} {u v : Nat → Nat} {H : Heap} (hP : va_P D clz (lh_f8 cI cZ q u ++ lh_f9 cI r v) H) (hD : va_D (lh_A bs) (lh_f8 cI cZ q u ++ lh_f9 cI r v)) : va_P D clz (lh_wl (lh_ad0 q r u v) cI cZ false lh_h0) H ∧ lh_AD (lh_ad0 q r u v) bs false := by
  have key := lh_f_at q r u v cI cZ
  generalize lh_f8 cI cZ q u ++ lh_f9 cI r v = w at hP hD key
  refine ⟨fun k x hx => ?_, fun i j hi hj e => ?_, fun i hi => ?_⟩
  · have hk : k < 50 := by have := (List.getElem?_eq_some_iff.mp hx).1; simpa [lh_wl, lh_nc] using this
    rw [lh_get (show k < lh_nc false from hk)] at hx
    cases hx
    exact hP (lh_ji k) _ (key k hk)
  · exact lh_ji_inj i hi j hj (hD.1 _ _ _ _ (key i hi) (key j hj) e)
  · exact hD.2 _ _ (key i hi)
theorem lh_z0 (i j : Nat) (h : i ≠ 45) : lh_h0 i j = 0 := by unfold lh_h0; rw [if_neg h]
theorem lh_N0 (i : Nat) (h : i ≠ 45) : lh_N lh_h0 i = 0 := by unfold lh_N; rw [lh_z0 i 0 h]; rfl
theorem lh_Tz_ok : ∀ j, j < 9 → lh_Tz j = lh_T j := by decide +kernel
theorem lh_I0 : lh_I lh_h0 := by
  refine ⟨⟨?_, ?_, ?_, ?_, ?_⟩, fun r hr => ?_, fun r hr => ?_, fun r hr => ?_, fun r hr => ?_, fun r hr => ?_⟩
  · exact ⟨by decide +kernel, by decide +kernel⟩
  · exact ⟨by decide +kernel, by decide +kernel⟩
  · exact ⟨by decide +kernel, by decide +kernel⟩
  · exact ⟨by decide +kernel, by decide +kernel⟩
  · exact ⟨by decide +kernel, by decide +kernel⟩
  all_goals (rw [lh_N0 _ (by decide)] at hr; exact absurd hr (Nat.not_lt_zero _))
theorem lh_CV0 : lh_CV lh_h0 := Or.inl rfl
theorem lh_INV0 : lh_INV false lh_h0 := by
  refine ⟨lh_I0, fun j _ => Or.inl (lh_z0 20 j (by decide)), (fun h => by cases h), ⟨⟨rfl, rfl, rfl, rfl, rfl⟩, fun r hr => ?_, fun r hr => ?_, fun r hr => ?_, fun r hr => ?_, fun r hr => ?_⟩, fun j hj => lh_Tz_ok j hj, lh_CV0, rfl, (fun h => by cases h)⟩
  all_goals (rw [lh_N0 _ (by decide)] at hr; exact absurd hr (Nat.not_lt_zero _))
set_option maxHeartbeats 4000000 in
set_option maxRecDepth 100000 in
theorem lh_known {s : State} {args : Array Value} (hts : ∀ w ∈ GT, w.before args s = true) : ∃ (D : va_G) (cI cZ : ClassId), va_K D clz (lh_ty cI cZ) s := by
  obtain ⟨c0, i0, h0⟩ := u_known (C := RX0) (T := TX0) (N := 6) (n := 6) hts ix_0 (hts _ wd_128)
  obtain ⟨c1, i1, h1⟩ := u_known (C := RX1) (T := TX1) (N := 10) (n := 10) hts ix_1 (hts _ wd_271)
  obtain ⟨c2, i2, h2⟩ := u_known (C := RX2) (T := TX2) (N := 5) (n := 5) hts ix_2 (hts _ wd_56)
  obtain ⟨c3, i3, h3⟩ := u_known (C := RX3) (T := TX3) (N := 7) (n := 7) hts ix_3 (hts _ wd_242)
  obtain ⟨c4, i4, h4⟩ := u_known (C := RX4) (T := TX4) (N := 3) (n := 3) hts ix_4 (hts _ wd_62)
  obtain ⟨c5, i5, h5⟩ := u_known (C := RX5) (T := TX5) (N := 8) (n := 8) hts ix_5 (hts _ wd_81)
  obtain ⟨c6, i6, h6⟩ := u_known (C := RX6) (T := TX6) (N := 4) (n := 4) hts ix_6 (hts _ wd_164)
  obtain ⟨c7, i7, h7⟩ := u_known (C := RX7) (T := TX7) (N := 4) (n := 4) hts ix_7 (hts _ wd_188)
  obtain ⟨c8, i8, h8⟩ := u_known (C := RX8) (T := TX8) (N := 4) (n := 4) hts ix_8 (hts _ wd_48)
  obtain ⟨c9, i9, h9⟩ := u_known (C := RX9) (T := TX9) (N := 18) (n := 18) hts ix_9 (hts _ wd_667)
  obtain ⟨cI, kI, mI, hI1, hI2, hI3⟩ := Cond.arrayClass_spec (hts _ wd_79)
  obtain ⟨cZ, kZ, mZ, hZ1, hZ2, hZ3⟩ := Cond.arrayClass_spec (hts _ wd_162)
  refine ⟨(fun k => match k with | 0 => c0 | 1 => c1 | 2 => c2 | 3 => c3 | 4 => c4 | 5 => c5 | 6 => c6 | 7 => c7 | 8 => c8 | _ => c9, fun k => match k with | 0 => i0 | 1 => i1 | 2 => i2 | 3 => i3 | 4 => i4 | 5 => i5 | 6 => i6 | 7 => i7 | 8 => i8 | _ => i9), cI, cZ, fun k q hq => ?_, fun k q hq => ?_⟩
  · match k, hq with
    | 0, hq => cases hq; exact h0
    | 1, hq => cases hq; exact h1
    | 2, hq => cases hq; exact h2
    | 3, hq => cases hq; exact h3
    | 4, hq => cases hq; exact h4
    | 5, hq => cases hq; exact h5
    | 6, hq => cases hq; exact h6
    | 7, hq => cases hq; exact h7
    | 8, hq => cases hq; exact h8
    | 9, hq => cases hq; exact h9
    | k + 10, hq => simp [clz] at hq
  · match k, hq with
    | 0, hq => cases hq; exact ⟨fun n z => ⟨fun k h => (by cases h), kI, hI2, mI, hI3⟩, hI1⟩
    | 1, hq => cases hq; exact ⟨fun n z => ⟨fun k h => (by cases h), kZ, hZ2, mZ, hZ3⟩, hZ1⟩
    | k + 2, hq => simp [lh_ty] at hq
theorem lh_nws {s : State} {args : Array Value} (hts : ∀ w ∈ lw_tbl, w.before args s = true) : lh_NW s := by
  refine ⟨fun w hw => ?_, va_Nw.of rfl (hts _ wn_414)⟩
  simp only [lh_nest, List.mem_cons, List.not_mem_nil, or_false] at hw
  rcases hw with rfl | rfl | rfl | rfl | rfl | rfl | rfl | rfl | rfl | rfl | rfl | rfl
  · exact va_Nw.of rfl (hts _ wn_57)
  · exact va_Nw.of rfl (hts _ wn_63)
  · exact va_Nw.of rfl (hts _ wn_82)
  · exact va_Nw.of rfl (hts _ wn_129)
  · exact va_Nw.of rfl (hts _ wn_165)
  · exact va_Nw.of rfl (hts _ wn_189)
  · exact va_Nw.of rfl (hts _ wn_575)
  · exact va_Nw.of rfl (hts _ wn_641)
  · exact va_Nw.of rfl (hts _ wn_646)
  · exact va_Nw.of rfl (hts _ wn_651)
  · exact va_Nw.of rfl (hts _ wn_656)
  · exact va_Nw.of rfl (hts _ wn_661)
set_option maxHeartbeats 4000000 in
set_option maxRecDepth 100000 in
theorem lh_steps {s : State} {args : Array Value} (hts : ∀ w ∈ lw_tbl, w.before args s = true) (hgv : (Jvm.Cond.and given_1 narrow_1).before args s = true) : ∃ t9, va_Z "LightHours" "STEPS" "[I" (.ref t9) (lh_A s.heap.size) s s.heap ∧ va_T .int t9 9 lh_Tv (lh_A s.heap.size) s s.heap := by
  have hs := flat_of_before _ hgv
  have hA : ∀ a : Nat, a < s.heap.size → ¬ lh_A s.heap.size a := fun a ha => Nat.not_le.mpr ha
  obtain ⟨t, ht, hT⟩ := va_Tof (tm := .static "LightHours" "STEPS" "[I") (ty := .int) (N := 9) (f := lh_Tv) (A := lh_A s.heap.size) (by decide) (hs _ (by decide +kernel)) (va_eqt (z := 9) (hs _ (by decide +kernel))) (fun j hj => by
    rcases (show j = 0 ∨ j = 1 ∨ j = 2 ∨ j = 3 ∨ j = 4 ∨ j = 5 ∨ j = 6 ∨ j = 7 ∨ j = 8 by omega) with rfl | rfl | rfl | rfl | rfl | rfl | rfl | rfl | rfl
    · exact va_eqt (t := .elem (.static "LightHours" "STEPS" "[I") (.int 0)) (z := 0) (hs _ (by decide +kernel))
    · exact va_eqt (t := .elem (.static "LightHours" "STEPS" "[I") (.int 1)) (z := 10) (hs _ (by decide +kernel))
    · exact va_eqt (t := .elem (.static "LightHours" "STEPS" "[I") (.int 2)) (z := 20) (hs _ (by decide +kernel))
    · exact va_eqt (t := .elem (.static "LightHours" "STEPS" "[I") (.int 3)) (z := 40) (hs _ (by decide +kernel))
    · exact va_eqt (t := .elem (.static "LightHours" "STEPS" "[I") (.int 4)) (z := 80) (hs _ (by decide +kernel))
    · exact va_eqt (t := .elem (.static "LightHours" "STEPS" "[I") (.int 5)) (z := 160) (hs _ (by decide +kernel))
    · exact va_eqt (t := .elem (.static "LightHours" "STEPS" "[I") (.int 6)) (z := 320) (hs _ (by decide +kernel))
    · exact va_eqt (t := .elem (.static "LightHours" "STEPS" "[I") (.int 7)) (z := 640) (hs _ (by decide +kernel))
    · exact va_eqt (t := .elem (.static "LightHours" "STEPS" "[I") (.int 8)) (z := 100000) (hs _ (by decide +kernel))) hA
  exact ⟨t, va_Zof (hts _ wn_415) (hts _ (List.mem_filter.mp wd_35).1) ht hA, hT⟩
set_option maxHeartbeats 4000000 in
set_option maxRecDepth 100000 in
theorem whole_start {p : Program} {e : Env} {s : State} {m : MethodId} {below : List Frame} {meth : Method} {c : Code} (l : Launch) {b L : Nat} {xs : Nat → Int32} (hL : L ≤ 2560) (C0 : lw_At p s m meth c b L xs) : W p l e room_1 s m #[Value.ref b] below meth c s.heap [] 0 0 (lw_Z below #[Value.ref b] s) (entryFrame m ([Value.ref b] : List Value).toArray 4) := by
  obtain ⟨hx, hb, hr, hml, hown, hts0, hX, hbl, hlocks, hgv⟩ := id C0
  have hts : ∀ w ∈ GT, w.before #[Value.ref b] s = true := fun w hw => hts0 w (List.mem_filter.mp hw).1
  obtain ⟨D, cI, cZ, hK⟩ := lh_known hts
  have hNW := lh_nws hts0
  obtain ⟨t9, hZ, hT⟩ := lh_steps hts0 hgv
  have hA : ∀ q : Nat, s.heap.size ≤ q → lh_A s.heap.size q := fun _ h => h
  have hS : va_S (lh_A s.heap.size) s.heap s.heap [] := va_S.rf
  have hP : va_P D clz [] s.heap := fun k q h => by simp at h
  have hD : va_D (lh_A s.heap.size) [] := ⟨fun i j p q h => by simp at h, fun k q h => by simp at h⟩
  have hl := lh_lv.entry [.ref b] (n := 4) (lv := [(0, .ref b)]) (Nat.le_of_ble_eq_true rfl) rfl (by simp [Value.category]) ⟨rfl, trivial⟩
  rw [lg_entry_eq]
  generalize (lg_sl ([.ref b]) ++ List.replicate (4 - (lg_sl ([.ref b])).length) Slot.unset).toArray = ls at hl ⊢
  refine va_new (ci := 8) (fs := [.null, .null, .null, .null]) (C := RX8) (T := TX8) (N := 4) hx hb hts ix_8 tyX8 tyX8_ok hown (hts _ wd_47) (hts _ wd_48) (hts _ wd_35) hK hP hD hS hA rfl (fun j hj => by rcases (show j = 0 ∨ j = 1 ∨ j = 2 ∨ j = 3 by omega) with rfl | rfl | rfl | rfl <;> rfl) (by decide) (by decide) dL_law_0 (fun q H hP hD hS => ?_)
  refine lv_dup hx hb dL_law_3 rfl ?_
  refine va_callv (lh_runI (ws := []) (l0 := [(q, .inr (8, [.null, .null, .null, .null]))]) (As := []) (st := [.ref q]) (args0 := #[]) hx hb hml hown hts hK hNW (Nat.le_refl _) (cn_X8 q) li_L_9 (by decide) (by decide) (by simp [Value.category]) dL_law_4 hP hD hS hl) hS (fun q _ h => h) (fun q h => h) (fun u t H1 locs1 ht _ _ hB _ _ hS => ?_)
  obtain ⟨hP1, hD1⟩ : va_P D clz (lh_f8 cI cZ q u) t.heap ∧ va_D (lh_A s.heap.size) (lh_f8 cI cZ q u) := hB
  rw [ht] at hP1
  refine lv_astore_n (i := 1) hx hb dL_law_7 rfl hl.has (by decide) rfl (fun ls2 hl2 => ?_)
  have hl := hl.st rfl hl2
  refine va_new (ci := 9) (fs := [.null, .null, .null, .null, .null, .null, .null, .null, .int 0, .null, .int 0, .int 0, .int 0, .null, .null, .null, .int 0, .int 0]) (C := RX9) (T := TX9) (N := 18) hx hb hts ix_9 tyX9 tyX9_ok hown (hts _ wd_666) (hts _ wd_667) (hts _ wd_44) hK hP1 hD1 hS hA rfl (fun j hj => by rcases (show j = 0 ∨ j = 1 ∨ j = 2 ∨ j = 3 ∨ j = 4 ∨ j = 5 ∨ j = 6 ∨ j = 7 ∨ j = 8 ∨ j = 9 ∨ j = 10 ∨ j = 11 ∨ j = 12 ∨ j = 13 ∨ j = 14 ∨ j = 15 ∨ j = 16 ∨ j = 17 by omega) with rfl | rfl | rfl | rfl | rfl | rfl | rfl | rfl | rfl | rfl | rfl | rfl | rfl | rfl | rfl | rfl | rfl | rfl <;> rfl) (by decide) (by decide) dL_law_8 (fun r H2 hP2 hD2 hS => ?_)
  refine lv_dup hx hb dL_law_11 rfl ?_
  refine va_callv (lh_runI (ws := lh_f8 cI cZ q u) (l0 := [(r, .inr (9, [.null, .null, .null, .null, .null, .null, .null, .null, .int 0, .null, .int 0, .int 0, .int 0, .null, .null, .null, .int 0, .int 0]))]) (As := []) (st := [.ref r]) (args0 := #[]) hx hb hml hown hts hK hNW (Nat.le_refl _) (cn_X9 r) li_L_12 (by decide) (by decide) (by simp [Value.category]) dL_law_12 hP2 hD2 hS hl) hS (fun q _ h => h) (fun q h => h) (fun v t2 H3 locs3 ht2 _ _ hB2 _ _ hS => ?_)
  obtain ⟨hP3, hD3⟩ : va_P D clz (lh_f8 cI cZ q u ++ lh_f9 cI r v) t2.heap ∧ va_D (lh_A s.heap.size) (lh_f8 cI cZ q u ++ lh_f9 cI r v) := hB2
  rw [ht2] at hP3
  obtain ⟨hP4, hA4⟩ := lh_begin hP3 hD3
  refine lv_astore_n (i := 2) hx hb dL_law_15 rfl hl.has (by decide) rfl (fun ls3 hl3 => ?_)
  have hl := hl.st rfl hl3
  refine lv_iconst (v := 0) hx hb dL_law_16 (by decide) ?_
  refine lv_istore_n (i := 3) hx hb dL_law_17 rfl hl.has (by decide) rfl (fun ls4 hl4 => ?_)
  have hl := hl.st rfl hl4
  have B : lh_BL p s m meth c b L xs D (lh_ad0 q r u v) cI cZ t9 false := ⟨hx, hb, hr, hml, hown, hts, hX, hbl, hlocks, hK, hA4, hNW, hZ, hT⟩
  exact lw_loop hL (L + 1) 0 (by omega) (Nat.zero_le _) false (lh_ad0 q r u v) lh_h0 B lh_INV0 H3 locs3 ls4 hP4 hS (hl.sub (l := [(0, .ref b), (1, .ref q), (2, .ref r), (3, .int 0)]) ⟨rfl, rfl, rfl, rfl, trivial⟩ (by simp [Value.category]))
