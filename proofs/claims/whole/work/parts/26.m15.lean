section LHK
variable {p : Program} {l : Launch} {e : Env} {R : Room} {s : State} {m : MethodId} {args : Array Value} {below : List Frame} {meth : Method} {c : Code} {Q : State → Prop}
variable {D : va_G} {ad : Nat → Nat} {bs : Nat} {cI cZ : ClassId} {t9 : Nat} {k : Bool}
variable {own : String} {cc : ByteArray} {nL : Nat} {ret : Option FieldType}
variable {pc : Nat} {lv : List (Nat × Value)} {st stk : List Value} {h h' : lh_HS}
theorem la_nn (B : lh_BK p R s m args meth c D ad bs cI cZ t9 k own cc nL ret) {x : Nat} {off : Int} {tgt : Nat} (hdg : decode cc pc = .ok (.ifnonnull off, 3)) (ht : (pc : Int) + off = (tgt : Int)) (K : lh_AJ p l e R s m args below meth c D ad bs cI cZ k nL Q tgt lv st h) : lh_AJ p l e R s m args below meth c D ad bs cI cZ k nL Q pc lv (.ref x :: st) h :=
  fun H locs ls hP hS hl => lv_ifnonnull B.1 B.2.1 hdg ht (K H locs ls hP hS hl)
theorem la_nnN (B : lh_BK p R s m args meth c D ad bs cI cZ t9 k own cc nL ret) {off : Int} (hdg : decode cc pc = .ok (.ifnonnull off, 3)) (K : lh_AJ p l e R s m args below meth c D ad bs cI cZ k nL Q (pc + 3) lv st h) : lh_AJ p l e R s m args below meth c D ad bs cI cZ k nL Q pc lv (.null :: st) h :=
  fun H locs ls hP hS hl => lv_ifnonnullN B.1 B.2.1 hdg (K H locs ls hP hS hl)
/-- a virtual call over the world, with cells made before it -/
theorem lh_runVc {y : MethodName} {bytes : ByteArray} {maxL index i ci N cl sl : Nat} {ret' : Option FieldType} {As : List Value} {fs : List Value} {T : u_T} {H : Heap} {locs : List Loc} {ls : Array Slot} {mc ms : Nat} {Qc : Array Value → State → Outcome → State → Prop} {rm : Room} (hx : p.tables.exec = Jvm.exec) (hb : c.code = cc) (hml : c.maxLocals = nL) (ho : s.vm.findClass own = some m.cls) (hts : ∀ w ∈ GT, w.before args s = true) (hSB : lh_SB D ad bs cI cZ t9 k s s.heap ∨ ∀ U : State, s.WarmedH U.vm → lh_SB D ad bs cI cZ t9 k U H) (hK : va_K D clz (lh_ty cI cZ) s) (hct : Met l y (lh_ws y bytes maxL ret') rm (va_Pc (.ref (ad i) :: As) (lh_PB D ad bs cI cZ t9 k h)) Qc mc ms (lh_A bs)) (hrc : rm.cells = mc) (hrs : rm.slots = ms) (hL : lh_LV own index y bytes maxL ret' As.length) (hR : rm.frames + 1 ≤ R.frames ∧ 8 + (maxL + 11) + rm.locals ≤ R.locals) (hf : cl + mc ≤ R.cells ∧ sl + ms ≤ R.slots) (hi : i < lh_nc k) (hsh : lh_sh ad cI cZ k i (h i) = .inr (ci, fs)) (hc : clz[ci]? = some (y.cls, T, N)) (hcat : (st.map fun v => v.category).sum ≤ 8) (hdg : decode cc pc = .ok (.invokevirtual index, 3)) (hP : va_P D clz (lh_wl ad cI cZ k h) H) (hS : va_S (lh_A bs) s.heap H locs) (hl : ls.size = nL) :
    va_Run p l e R s m args below meth c H locs cl sl mc ms (F0 m pc ls (As.reverse ++ .ref (ad i) :: st)) st (Qc (Value.ref (ad i) :: As).toArray) (lh_A bs) :=
  va_runV (As := As) (rest := st) ⟨hx, hb, hml, ho, hts⟩ hct (cwV As.length hts hL.1 rfl hrc hrs ⟨rfl, hL.2⟩ hR) ⟨lh_blind, va_recv hK hP hc (by rw [lh_get hi, hsh]), fun U hU hW => ⟨rfl, by rw [hU]; exact hP, by
    rw [hU]
    rcases hSB with hSB | hSB
    · exact hSB.go hS hW
    · exact hSB U hW⟩⟩ rfl rfl hl rfl (lv_room hcat) hdg hf
end LHK
def fX8_back_t (h : lh_HS)  : Int32 := fX8_changed (gX2_copyFrom_h h) 1
def gX8_back_t (h : lh_HS)  : lh_HS := gX8_changed (gX2_copyFrom_h h) 1
set_option maxHeartbeats 4000000 in
set_option maxRecDepth 100000 in
theorem ct_X8_back_t {l : Launch} {D : va_G} {ad : Nat → Nat} {bs : Nat} {cI cZ : ClassId} {t9 : Nat} (h : lh_HS)  (hz : ∀ j, j < 30 → h 69 j = 0 ∨ h 69 j = 1) : lh_CTi l D ad bs cI cZ t9 true yX8_back cX8_back 1 (some .int) 10 [.ref (ad 0)] h (fX8_back_t h ) (gX8_back_t h ) := by
  refine lh_ofi (lv := [(0, .ref (ad 0))]) (by decide) (Nat.le_of_ble_eq_true rfl) rfl (by simp [Value.category]) ⟨rfl, trivial⟩ ?_
  intro p e s m args below meth c B
  have B : lh_BK p (lh_rm 10) s m args meth c D ad bs cI cZ t9 true "LightHours" cX8_back 1 (some .int) := B
  refine la_aload_n (i := 0) B dX8_back_0 rfl rfl ?_
  refine la_get (i := 0) (ci := 8) (j := 3) (C := RX8) (T := TX8) (N := 4) B (lh_nc_lt (by decide)) rfl ix_8 rfl (by decide) wd_312 rfl rfl dX8_back_1 ?_
  refine la_nn (tgt := 10) B dX8_back_4 (by decide) ?_
  refine la_aload_n (i := 0) B dX8_back_10 rfl rfl ?_
  refine la_get (i := 0) (ci := 8) (j := 0) (C := RX8) (T := TX8) (N := 4) B (lh_nc_lt (by decide)) rfl ix_8 rfl (by decide) wd_309 rfl rfl dX8_back_11 ?_
  refine la_aload_n (i := 0) B dX8_back_14 rfl rfl ?_
  refine la_get (i := 0) (ci := 8) (j := 3) (C := RX8) (T := TX8) (N := 4) B (lh_nc_lt (by decide)) rfl ix_8 rfl (by decide) wd_312 rfl rfl dX8_back_15 ?_
  refine la_callVv (i := 1) B (ct_X2_copyFrom_h h rfl hz) lk_X8_227 (by decide) (lh_nc_lt (by decide)) rfl rfl rfl (by simp [Value.category]) dX8_back_18 ?_
  refine la_aload_n (i := 0) B dX8_back_21 rfl rfl ?_
  refine la_iconst (v := 1) B dX8_back_22 (by decide) ?_
  refine la_callVi (i := 0) B (ct_X8_changed (gX2_copyFrom_h h) 1) lk_X8_55 (by decide) (lh_nc_lt (by decide)) rfl rfl rfl (by simp [Value.category]) dX8_back_23 ?_
  exact la_ireturn B rfl (by simp only [fX8_back_t]) (by simp only [gX8_back_t]) dX8_back_26

def fX8_back_f (h : lh_HS)  : Int32 := (-4)
set_option maxHeartbeats 4000000 in
set_option maxRecDepth 100000 in
theorem ct_X8_back_f {l : Launch} {D : va_G} {ad : Nat → Nat} {bs : Nat} {cI cZ : ClassId} {t9 : Nat} (h : lh_HS)   : lh_CTi l D ad bs cI cZ t9 false yX8_back cX8_back 1 (some .int) 10 [.ref (ad 0)] h (fX8_back_f h ) h := by
  refine lh_ofi (lv := [(0, .ref (ad 0))]) (by decide) (Nat.le_of_ble_eq_true rfl) rfl (by simp [Value.category]) ⟨rfl, trivial⟩ ?_
  intro p e s m args below meth c B
  have B : lh_BK p (lh_rm 10) s m args meth c D ad bs cI cZ t9 false "LightHours" cX8_back 1 (some .int) := B
  refine la_aload_n (i := 0) B dX8_back_0 rfl rfl ?_
  refine la_get (i := 0) (ci := 8) (j := 3) (C := RX8) (T := TX8) (N := 4) B (lh_nc_lt (by decide)) rfl ix_8 rfl (by decide) wd_312 rfl rfl dX8_back_1 ?_
  refine la_nnN B dX8_back_4 ?_
  refine la_bipush (v := -4) B dX8_back_7 (by decide) ?_
  exact la_ireturn B rfl (by simp only [fX8_back_f]) rfl dX8_back_9

def fX8_keep_t (h : lh_HS)  : Int32 := 1
def gX8_keep_t (h : lh_HS)  : lh_HS := gX2_copyFrom_k h
set_option maxHeartbeats 4000000 in
set_option maxRecDepth 100000 in
theorem ct_X8_keep_t {l : Launch} {D : va_G} {ad : Nat → Nat} {bs : Nat} {cI cZ : ClassId} {t9 : Nat} (h : lh_HS)  (hz : ∀ j, j < 30 → h 20 j = 0 ∨ h 20 j = 1) : lh_CTi l D ad bs cI cZ t9 true yX8_keep cX8_keep 1 (some .int) 10 [.ref (ad 0)] h (fX8_keep_t h ) (gX8_keep_t h ) := by
  refine lh_ofi (lv := [(0, .ref (ad 0))]) (by decide) (Nat.le_of_ble_eq_true rfl) rfl (by simp [Value.category]) ⟨rfl, trivial⟩ ?_
  intro p e s m args below meth c B
  have B : lh_BK p (lh_rm 10) s m args meth c D ad bs cI cZ t9 true "LightHours" cX8_keep 1 (some .int) := B
  refine la_aload_n (i := 0) B dX8_keep_0 rfl rfl ?_
  refine la_get (i := 0) (ci := 8) (j := 3) (C := RX8) (T := TX8) (N := 4) B (lh_nc_lt (by decide)) rfl ix_8 rfl (by decide) wd_312 rfl rfl dX8_keep_1 ?_
  refine la_nn (tgt := 18) B dX8_keep_4 (by decide) ?_
  refine la_aload_n (i := 0) B dX8_keep_18 rfl rfl ?_
  refine la_get (i := 0) (ci := 8) (j := 3) (C := RX8) (T := TX8) (N := 4) B (lh_nc_lt (by decide)) rfl ix_8 rfl (by decide) wd_312 rfl rfl dX8_keep_19 ?_
  refine la_aload_n (i := 0) B dX8_keep_22 rfl rfl ?_
  refine la_get (i := 0) (ci := 8) (j := 0) (C := RX8) (T := TX8) (N := 4) B (lh_nc_lt (by decide)) rfl ix_8 rfl (by decide) wd_309 rfl rfl dX8_keep_23 ?_
  refine la_callVv (i := 50) B (ct_X2_copyFrom_k h rfl hz) lk_X8_227 (by decide) (lh_nck rfl (by decide)) rfl rfl rfl (by simp [Value.category]) dX8_keep_26 ?_
  refine la_iconst (v := 1) B dX8_keep_29 (by decide) ?_
  exact la_ireturn B rfl (by simp only [fX8_keep_t]) (by simp only [gX8_keep_t]) dX8_keep_30
