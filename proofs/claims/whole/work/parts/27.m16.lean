def lh_tk (k : Nat) : Nat := match k with
  | 51 => 0
  | 56 => 1
  | 57 => 2
  | 52 => 3
  | 58 => 4
  | 59 => 5
  | 60 => 6
  | 61 => 7
  | 62 => 8
  | 63 => 9
  | 64 => 10
  | 53 => 11
  | 65 => 12
  | 66 => 13
  | 67 => 14
  | 68 => 15
  | 69 => 16
  | 54 => 17
  | 70 => 18
  | 71 => 19
  | 72 => 20
  | 55 => 21
  | 73 => 22
  | 74 => 23
  | 75 => 24
  | _ => 0
def lh_adk (ad : Nat → Nat) (q : Nat) (u : Nat → Nat) : Nat → Nat := fun k => if k < 50 then ad k else if k = 50 then q else u (lh_tk k)
def lh_hk (h : lh_HS) : lh_HS := fun i => if i < 50 then h i else fun _ => 0
def lh_jk (k : Nat) : Nat := if k < 50 then k else if k = 50 then 50 else 51 + lh_tk k
abbrev lh_fin (cI cZ : ClassId) (q : Nat) (u : Nat → Nat) : va_W := [(q, .inr (2, [.ref (u 0), .ref (u 3), .ref (u 11), .ref (u 17), .ref (u 21)])), ((u 0), .inr (4, [.int 0, .ref (u 1), .ref (u 2)])), ((u 1), .inl (cI, 4, .inl (fun _ => 0))), ((u 2), .inl (cI, 40, .inl (fun _ => 0))), ((u 3), .inr (5, [.int 0, .ref (u 4), .ref (u 5), .ref (u 6), .ref (u 7), .ref (u 8), .ref (u 9), .ref (u 10)])), ((u 4), .inl (cI, 8, .inl (fun _ => 0))), ((u 5), .inl (cI, 8, .inl (fun _ => 0))), ((u 6), .inl (cI, 8, .inl (fun _ => 0))), ((u 7), .inl (cI, 8, .inl (fun _ => 0))), ((u 8), .inl (cI, 8, .inl (fun _ => 0))), ((u 9), .inl (cI, 8, .inl (fun _ => 0))), ((u 10), .inl (cI, 8, .inl (fun _ => 0))), ((u 11), .inr (0, [.int 0, .ref (u 12), .ref (u 13), .ref (u 14), .ref (u 15), .ref (u 16)])), ((u 12), .inl (cI, 30, .inl (fun _ => 0))), ((u 13), .inl (cI, 30, .inl (fun _ => 0))), ((u 14), .inl (cI, 30, .inl (fun _ => 0))), ((u 15), .inl (cI, 30, .inl (fun _ => 0))), ((u 16), .inl (cZ, 30, .inl (fun _ => 0))), ((u 17), .inr (6, [.int 0, .ref (u 18), .ref (u 19), .ref (u 20)])), ((u 18), .inl (cI, 12, .inl (fun _ => 0))), ((u 19), .inl (cI, 12, .inl (fun _ => 0))), ((u 20), .inl (cI, 12, .inl (fun _ => 0))), ((u 21), .inr (7, [.int 0, .ref (u 22), .ref (u 23), .ref (u 24)])), ((u 22), .inl (cI, 5, .inl (fun _ => 0))), ((u 23), .inl (cI, 5, .inl (fun _ => 0))), ((u 24), .inl (cI, 5, .inl (fun _ => 0)))]
abbrev lh_LHk (ad : Nat → Nat) (q : Nat) : va_E := .inr (8, [.ref (ad 1), .ref (ad 27), .ref (ad 30), .ref q])
theorem lh_sh_k (ad : Nat → Nat) (q : Nat) (u : Nat → Nat) (cI cZ : ClassId) (k : Nat) (h1 : 1 ≤ k) (h2 : k < 50) (r : Nat → Int32) : lh_sh (lh_adk ad q u) cI cZ true k r = lh_sh ad cI cZ false k r := by
  rcases (show k = 1 ∨ k = 2 ∨ k = 3 ∨ k = 4 ∨ k = 5 ∨ k = 6 ∨ k = 7 ∨ k = 8 ∨ k = 9 ∨ k = 10 ∨ k = 11 ∨ k = 12 ∨ k = 13 ∨ k = 14 ∨ k = 15 ∨ k = 16 ∨ k = 17 ∨ k = 18 ∨ k = 19 ∨ k = 20 ∨ k = 21 ∨ k = 22 ∨ k = 23 ∨ k = 24 ∨ k = 25 ∨ k = 26 ∨ k = 27 ∨ k = 28 ∨ k = 29 ∨ k = 30 ∨ k = 31 ∨ k = 32 ∨ k = 33 ∨ k = 34 ∨ k = 35 ∨ k = 36 ∨ k = 37 ∨ k = 38 ∨ k = 39 ∨ k = 40 ∨ k = 41 ∨ k = 42 ∨ k = 43 ∨ k = 44 ∨ k = 45 ∨ k = 46 ∨ k = 47 ∨ k = 48 ∨ k = 49 by omega) with rfl | rfl | rfl | rfl | rfl | rfl | rfl | rfl | rfl | rfl | rfl | rfl | rfl | rfl | rfl | rfl | rfl | rfl | rfl | rfl | rfl | rfl | rfl | rfl | rfl | rfl | rfl | rfl | rfl | rfl | rfl | rfl | rfl | rfl | rfl | rfl | rfl | rfl | rfl | rfl | rfl | rfl | rfl | rfl | rfl | rfl | rfl | rfl | rfl <;> rfl
theorem lh_fin_at (ad : Nat → Nat) (q : Nat) (u : Nat → Nat) (cI cZ : ClassId) (h : lh_HS) (k : Nat) (h1 : 50 ≤ k) (h2 : k < 76) : (lh_fin cI cZ q u)[lh_jk k - 50]? = some (lh_adk ad q u k, lh_sh (lh_adk ad q u) cI cZ true k (lh_hk h k)) := by
  rcases (show k = 50 ∨ k = 51 ∨ k = 52 ∨ k = 53 ∨ k = 54 ∨ k = 55 ∨ k = 56 ∨ k = 57 ∨ k = 58 ∨ k = 59 ∨ k = 60 ∨ k = 61 ∨ k = 62 ∨ k = 63 ∨ k = 64 ∨ k = 65 ∨ k = 66 ∨ k = 67 ∨ k = 68 ∨ k = 69 ∨ k = 70 ∨ k = 71 ∨ k = 72 ∨ k = 73 ∨ k = 74 ∨ k = 75 by omega) with rfl | rfl | rfl | rfl | rfl | rfl | rfl | rfl | rfl | rfl | rfl | rfl | rfl | rfl | rfl | rfl | rfl | rfl | rfl | rfl | rfl | rfl | rfl | rfl | rfl | rfl <;> rfl
theorem lh_jk_inj : ∀ i, i < 76 → ∀ j, j < 76 → lh_jk i = lh_jk j → i = j := by decide +kernel
theorem lh_jk_ge : ∀ k, k < 76 → 50 ≤ k → 50 ≤ lh_jk k := by decide +kernel
theorem lh_grow {D : va_G} {ad : Nat → Nat} {bs : Nat} {cI cZ : ClassId} {h : lh_HS} {q : Nat} {u : Nat → Nat} {H : Heap} (hP : va_P D clz ((lh_wl ad cI cZ false h).set 0 (ad 0, lh_LHk ad q) ++ lh_fin cI cZ q u) H) (hD : va_D (lh_A bs) ((lh_wl ad cI cZ false h).set 0 (ad 0, lh_LHk ad q) ++ lh_fin cI cZ q u)) : va_P D clz (lh_wl (lh_adk ad q u) cI cZ true (lh_hk h)) H ∧ lh_AD (lh_adk ad q u) bs true := by
  have hlen : ((lh_wl ad cI cZ false h).set 0 (ad 0, lh_LHk ad q)).length = 50 := by simp [lh_wl, lh_nc]
  have key : ∀ k, k < 76 → ((lh_wl ad cI cZ false h).set 0 (ad 0, lh_LHk ad q) ++ lh_fin cI cZ q u)[lh_jk k]? = some (lh_adk ad q u k, lh_sh (lh_adk ad q u) cI cZ true k (lh_hk h k)) := by
    intro k hk
    by_cases h50 : k < 50
    · have ej : lh_jk k = k := by simp [lh_jk, h50]
      rw [ej, List.getElem?_append_left (by rw [hlen]; exact h50)]
      by_cases h0 : k = 0
      · subst h0
        rw [List.getElem?_set_self (by simp [lh_wl, lh_nc])]
        rfl
      · rw [List.getElem?_set_ne (fun z => h0 z.symm), lh_get (show k < lh_nc false from h50), lh_sh_k ad q u cI cZ k (by omega) h50]
        have e1 : lh_adk ad q u k = ad k := by simp [lh_adk, h50]
        have e2 : lh_hk h k = h k := by simp [lh_hk, h50]
        rw [e1, e2]
    · rw [List.getElem?_append_right (by rw [hlen]; exact lh_jk_ge k hk (by omega)), hlen]
      exact lh_fin_at ad q u cI cZ h k (by omega) hk
  refine ⟨fun k x hx => ?_, fun i j hi hj e => ?_, fun i hi => ?_⟩
  · have hk : k < 76 := by have := (List.getElem?_eq_some_iff.mp hx).1; simpa [lh_wl, lh_nc] using this
    rw [lh_get (show k < lh_nc true from hk)] at hx
    cases hx
    exact hP (lh_jk k) _ (key k hk)
  · exact lh_jk_inj i hi j hj (hD.1 _ _ _ _ (key i hi) (key j hj) e)
  · exact hD.2 _ _ (key i hi)
set_option maxHeartbeats 4000000 in
set_option maxRecDepth 100000 in
theorem ct_X8_keep_f {l : Launch} {D : va_G} {ad : Nat → Nat} {bs : Nat} {cI cZ : ClassId} {t9 : Nat} (h : lh_HS) (hz : ∀ j, j < 30 → h 20 j = 0 ∨ h 20 j = 1) : Met l yX8_keep (lh_ws yX8_keep cX8_keep 1 (some .int)) (lh_rn 10 26 331) (va_Pc [.ref (ad 0)] (lh_PB D ad bs cI cZ t9 false h)) (va_Qi (fun r (_ : Nat → Nat) => r = 1) (fun ad2 t => va_P D clz (lh_wl ad2 cI cZ true (gX2_copyFrom_k (lh_hk h))) t.heap ∧ lh_AD ad2 bs true ∧ ad2 0 = ad 0 ∧ ad2 37 = ad 37) (lh_A bs)) 26 331 (lh_A bs) := by
  refine Met.ofW (cc := cX8_keep) (maxL := 1) (ret := some .int) (by decide) rfl ?_
  intro p e s m args below meth c s₁ B hml hv
  obtain ⟨rfl, hP, hSB⟩ := hv
  have hx := B.exec
  have hb := B.bytes
  have hr := B.returns
  have hlocks := B.notSynchronized
  have hts0 := atoms_spec (ws := lh_ws yX8_keep cX8_keep 1 (some .int)) B.pre
  have hts : ∀ w ∈ GT, w.before ([Value.ref (ad 0)] : List Value).toArray s = true := fun w hw => hts0 w (List.mem_cons_of_mem _ hw)
  have hown : s.vm.findClass "LightHours" = some m.cls := findClass_of_methodNamed B.named
  have hK := hSB.1
  have hl := lh_lv.entry [.ref (ad 0)] (n := 1) (lv := [(0, .ref (ad 0))]) (Nat.le_of_ble_eq_true rfl) rfl (by simp [Value.category]) ⟨rfl, trivial⟩
  rw [lg_entry_eq]
  generalize (lg_sl ([.ref (ad 0)]) ++ List.replicate (1 - (lg_sl ([.ref (ad 0)])).length) Slot.unset).toArray = ls at hl ⊢
  have hS : va_S (lh_A bs) s.heap s.heap [] := va_S.rf
  have hD := hSB.2.1.D cI cZ h
  have hbs : bs ≤ s.heap.size := Nat.le_trans (hSB.2.1.2 0 (by decide)) (Nat.le_of_lt ((hP 0 _ (lh_get (by decide))).lt))
  have hA : ∀ q, s.heap.size ≤ q → lh_A bs q := fun q hq => Nat.le_trans hbs hq
  refine lv_aload_n hx hb dX8_keep_0 rfl (hl.2.2.2 0 _ rfl) ?_
  refine va_get (D := D) (ci := 8) (v := .null) (C := RX8) (T := TX8) (N := 4) hx hb hts ix_8 hown hK hP 0 (lh_get (by decide)) rfl 3 (by decide) (hts _ wd_312) (fun _ h9 => h9) rfl dX8_keep_1 ?_
  refine lv_ifnonnullN hx hb dX8_keep_4 ?_
  refine lv_aload_n hx hb dX8_keep_7 rfl (hl.2.2.2 0 _ rfl) ?_
  refine va_new (ci := 2) (fs := [.null, .null, .null, .null, .null]) (C := RX2) (T := TX2) (N := 5) hx hb hts ix_2 tyX2 tyX2_ok hown (hts _ wd_55) (hts _ wd_56) (hts _ wd_36) hK hP hD hS hA rfl (fun j hj => by rcases (show j = 0 ∨ j = 1 ∨ j = 2 ∨ j = 3 ∨ j = 4 by omega) with rfl | rfl | rfl | rfl | rfl <;> rfl) (by decide) (by decide) dX8_keep_8 (fun q H hP hD hS => ?_)
  refine lv_dup hx hb dX8_keep_11 rfl ?_
  refine va_callv (lh_runI (ws := lh_wl ad cI cZ false h) (l0 := [(q, .inr (2, [.null, .null, .null, .null, .null]))]) (As := []) (st := [.ref q, .ref (ad 0)]) (args0 := #[]) hx hb hml hown hts hK hSB.2.2.1 hbs (cn_X2 q) li_X8_9 (by decide) (by decide) (by simp [Value.category]) dX8_keep_12 hP hD hS hl) hS (fun q _ h => h) (fun q h => h) (fun u t H1 locs1 ht _ _ hB _ _ hS => ?_)
  obtain ⟨hP1, hD1⟩ : va_P D clz (lh_wl ad cI cZ false h ++ lh_fin cI cZ q u) t.heap ∧ va_D (lh_A bs) (lh_wl ad cI cZ false h ++ lh_fin cI cZ q u) := hB
  rw [ht] at hP1
  have hlen : 0 < (lh_wl ad cI cZ false h).length := by simp [lh_wl, lh_nc]
  refine va_put (D := D) (ci := 8) (v := .ref q) (ty := .object "LightHours$House") (C := RX8) (T := TX8) (N := 4) (fs := [.ref (ad 1), .ref (ad 27), .ref (ad 30), .null]) hx hb hts ix_8 tyX8 tyX8_ok nmX8 hown hK hP1 hD1 hS 0 (by rw [List.getElem?_append_left hlen, lh_get (by decide)]; rfl) rfl 3 (by decide) (hts _ wd_312) (fun _ h9 => h9) rfl (by decide +kernel) rfl rfl (Nat.le_of_ble_eq_true rfl) dX8_keep_15 (fun H2 locs2 hP2 hD2 hS2 => ?_)
  rw [List.set_append_left _ _ hlen] at hP2 hD2
  obtain ⟨hP3, hA3⟩ := lh_grow (q := q) (u := u) hP2 hD2
  have hSB3 : ∀ U : State, s.WarmedH U.vm → lh_SB D (lh_adk ad q u) bs cI cZ t9 true U H2 := fun U hW => by
    have z := hSB.go hS2 hW
    exact ⟨z.1, hA3, z.2.2.1, z.2.2.2.1, z.2.2.2.2⟩
  refine lv_aload_n hx hb dX8_keep_18 rfl (hl.2.2.2 0 _ rfl) ?_
  refine va_get (D := D) (ci := 8) (a := ad 0) (v := .ref (lh_adk ad q u 50)) (C := RX8) (T := TX8) (N := 4) hx hb hts ix_8 hown hK hP3 0 (lh_get (by decide)) rfl 3 (by decide) (hts _ wd_312) (fun _ h9 => h9) rfl dX8_keep_19 ?_
  refine lv_aload_n hx hb dX8_keep_22 rfl (hl.2.2.2 0 _ rfl) ?_
  refine va_get (D := D) (ci := 8) (a := ad 0) (v := .ref (lh_adk ad q u 1)) (C := RX8) (T := TX8) (N := 4) hx hb hts ix_8 hown hK hP3 0 (lh_get (by decide)) rfl 0 (by decide) (hts _ wd_309) (fun _ h9 => h9) rfl dX8_keep_23 ?_
  refine va_callv (lh_runVc (ad := lh_adk ad q u) (k := true) (h := lh_hk h) (i := 50) (As := [.ref (lh_adk ad q u 1)]) (st := []) (rm := lh_rm 3) hx hb hml hown hts (Or.inr hSB3) hK (ct_X2_copyFrom_k (lh_hk h) rfl (fun j hj => hz j hj)) rfl rfl lk_X8_227 (by decide) (by decide) (by decide) rfl rfl (by simp) dX8_keep_26 hP3 hS2 hl.1) hS2 (fun q _ h => h) (fun q h => h) (fun _ t2 H4 locs4 ht2 _ _ hB2 _ _ hS4 => ?_)
  have hB3 : va_P D clz (lh_wl (lh_adk ad q u) cI cZ true (gX2_copyFrom_k (lh_hk h))) t2.heap := hB2
  rw [ht2] at hB3
  refine lv_iconst (v := 1) hx hb dX8_keep_29 (by decide) ?_
  exact W.iret hx hb hr (fun t3 ht3 hW3 => ⟨⟨1, lh_adk ad q u, rfl, rfl, by rw [ht3]; exact hB3, hA3, rfl, rfl⟩, hS4.F ht3⟩) hS4.2.2 dX8_keep_30 hlocks