def R_law : String := "LightHoursLaw"
def lw_P (b : Addr) (xs : List Int32) (args : Array Value) (s : State) : Prop := args = #[.ref b] ∧ s.IntsAt b xs ∧ xs.length ≤ 2560 ∧ (Jvm.Cond.and given_1 narrow_1).before args s = true
def lw_Q (_ : Array Value) (s : State) (o : Outcome) (t : State) : Prop := o = .returned (some (.int 1)) ∧ Framed s o t [] 600000 7302250
def lw_Z (below : List Frame) (a : Array Value) (s : State) : State → Prop := fun t => ∃ o, t.status = .running ∧ Ended t below o ∧ lw_Q a s o t
/-- the law's own end, with 1 on the stack, nothing written that was there before, its room as the claim has it -/
theorem lw_ret {p : Program} {l : Launch} {e : Env} {s : State} {m : MethodId} {below : List Frame} {meth : Method} {c : Code} {b : Nat} (hx : p.tables.exec = Jvm.exec) (hb : c.code = code) (hr : meth.sig.returnType = ret) (hlocks : meth.locks = false) {pc : Nat} {H : Heap} {ls : Array Slot} (hdg : decode code pc = .ok (.ireturn, 1)) : W p l e room_1 s m #[Value.ref b] below meth c H [] 600000 7302250 (lw_Z below #[Value.ref b] s) (F0 m pc ls [.int 1]) := by
  intro T hT X
  obtain ⟨fs, hret, hrun, hended, hW, hframe⟩ := X.leave (v := some (.int 1)) (hlocks := hlocks) (fun h => by rw [hr] at h; cases h)
  have hmeth' : T.vm.method? m = some meth := X.method'
  refine ⟨T.setFrames fs, ?_, .returned (some (.int 1)), hrun, hended, rfl, ⟨_, rfl⟩, hW, hframe⟩
  jvm_step X.here [X.here.top, hx, hb, hdg, hmeth', hr, ret, narrow_b1]
  (try refine ⟨rfl, ?_⟩); (try refine ⟨rfl, ?_⟩)
  first | (intro acts; rw [hret _ acts rfl rfl rfl]) | rw [hret _ _ rfl rfl rfl]
  exact Steps.refl _
/-- what holds at the law's entry: the machine, the code, the tables' words (any of lw_tbl by 'hts w (by decide +kernel)'), the script of L ints xs at the cell b, what the Statement gives of the start (any of its parts by flat_of_before) -/
def lw_At (p : Program) (s : State) (m : MethodId) (meth : Method) (c : Code) (b L : Nat) (xs : Nat → Int32) : Prop :=
  p.tables.exec = Jvm.exec ∧ c.code = code ∧ meth.sig.returnType = ret ∧ c.maxLocals = 4 ∧ s.vm.findClass R_law = some m.cls ∧ (∀ w ∈ lw_tbl, w.before #[Value.ref b] s = true) ∧ va_X b L xs s s.heap ∧ b < s.heap.size ∧ meth.locks = false ∧ (Jvm.Cond.and given_1 narrow_1).before #[Value.ref b] s = true
/-! THE LAW's rows -/
def lh_BL (p : Program) (s : State) (m : MethodId) (meth : Method) (c : Code) (b L : Nat) (xs : Nat → Int32) (D : va_G) (ad : Nat → Nat) (cI cZ : ClassId) (t9 : Nat) (k : Bool) : Prop :=
  p.tables.exec = Jvm.exec ∧ c.code = code ∧ meth.sig.returnType = ret ∧ c.maxLocals = 4 ∧ s.vm.findClass "LightHoursLaw" = some m.cls ∧ (∀ w ∈ GT, w.before #[Value.ref b] s = true) ∧ va_X b L xs s s.heap ∧ b < s.heap.size ∧ meth.locks = false ∧ lh_SB D ad s.heap.size cI cZ t9 k s s.heap
def lh_LJ (p : Program) (l : Launch) (e : Env) (s : State) (m : MethodId) (below : List Frame) (meth : Method) (c : Code) (D : va_G) (ad : Nat → Nat) (cI cZ : ClassId) (k : Bool) (b : Nat) (pc : Nat) (lv : List (Nat × Value)) (st : List Value) (h : lh_HS) : Prop :=
  ∀ (H : Heap) (locs : List Loc) (ls : Array Slot), va_P D clz (lh_wl ad cI cZ k h) H → va_S (lh_A s.heap.size) s.heap H locs → lh_lv ls 4 lv → W p l e room_1 s m #[Value.ref b] below meth c H locs (cond k 76 50) (cond k 1399 1068) (lw_Z below #[Value.ref b] s) (F0 m pc ls st)
section LHL
variable {p : Program} {l : Launch} {e : Env} {s : State} {m : MethodId} {below : List Frame} {meth : Method} {c : Code}
variable {D : va_G} {ad : Nat → Nat} {cI cZ : ClassId} {t9 : Nat} {k : Bool} {b L : Nat} {xs : Nat → Int32}
variable {pc : Nat} {lv : List (Nat × Value)} {st stk : List Value} {h h' : lh_HS}
theorem ll_iconst (B : lh_BL p s m meth c b L xs D ad cI cZ t9 k) {n : Int} {v : Int32} (hdg : decode code pc = .ok (.iconst n, 1)) (hv : Int32.ofInt n = v) (K : lh_LJ p l e s m below meth c D ad cI cZ k b (pc + 1) lv (.int v :: st) h) : lh_LJ p l e s m below meth c D ad cI cZ k b pc lv (st) h :=
  fun H locs ls hP hS hl => lv_iconst B.1 B.2.1 hdg hv (K H locs ls hP hS hl)
theorem ll_bipush (B : lh_BL p s m meth c b L xs D ad cI cZ t9 k) {n : Int} {v : Int32} (hdg : decode code pc = .ok (.bipush n, 2)) (hv : (Int8.ofInt n).toInt32 = v) (K : lh_LJ p l e s m below meth c D ad cI cZ k b (pc + 2) lv (.int v :: st) h) : lh_LJ p l e s m below meth c D ad cI cZ k b pc lv (st) h :=
  fun H locs ls hP hS hl => lv_bipush B.1 B.2.1 hdg hv (K H locs ls hP hS hl)
theorem ll_iload_n (B : lh_BL p s m meth c b L xs D ad cI cZ t9 k) {q : Fin 4} {i : Nat} {x : Int32} (hdg : decode code pc = .ok (.iload_n q, 1)) (hi : (q : Nat) = i) (hx : lv.lookup i = some (.int x)) (K : lh_LJ p l e s m below meth c D ad cI cZ k b (pc + 1) lv (.int x :: st) h) : lh_LJ p l e s m below meth c D ad cI cZ k b pc lv (st) h :=
  fun H locs ls hP hS hl => lv_iload_n B.1 B.2.1 hdg hi (hl.2.2.2 i _ hx) (K H locs ls hP hS hl)
theorem ll_aload_n (B : lh_BL p s m meth c b L xs D ad cI cZ t9 k) {q : Fin 4} {i : Nat} {x : Nat} (hdg : decode code pc = .ok (.aload_n q, 1)) (hi : (q : Nat) = i) (hx : lv.lookup i = some (.ref x)) (K : lh_LJ p l e s m below meth c D ad cI cZ k b (pc + 1) lv (.ref x :: st) h) : lh_LJ p l e s m below meth c D ad cI cZ k b pc lv (st) h :=
  fun H locs ls hP hS hl => lv_aload_n B.1 B.2.1 hdg hi (hl.2.2.2 i _ hx) (K H locs ls hP hS hl)
theorem ll_iadd (B : lh_BL p s m meth c b L xs D ad cI cZ t9 k) {x y : Int32} (hdg : decode code pc = .ok (.iadd, 1)) (K : lh_LJ p l e s m below meth c D ad cI cZ k b (pc + 1) lv (.int (x + y) :: st) h) : lh_LJ p l e s m below meth c D ad cI cZ k b pc lv (.int y :: .int x :: st) h :=
  fun H locs ls hP hS hl => lv_iadd B.1 B.2.1 hdg (K H locs ls hP hS hl)
theorem ll_isub (B : lh_BL p s m meth c b L xs D ad cI cZ t9 k) {x y : Int32} (hdg : decode code pc = .ok (.isub, 1)) (K : lh_LJ p l e s m below meth c D ad cI cZ k b (pc + 1) lv (.int (x - y) :: st) h) : lh_LJ p l e s m below meth c D ad cI cZ k b pc lv (.int y :: .int x :: st) h :=
  fun H locs ls hP hS hl => lv_isub B.1 B.2.1 hdg (K H locs ls hP hS hl)
theorem ll_iand (B : lh_BL p s m meth c b L xs D ad cI cZ t9 k) {x y : Int32} (hdg : decode code pc = .ok (.iand, 1)) (K : lh_LJ p l e s m below meth c D ad cI cZ k b (pc + 1) lv (.int (x &&& y) :: st) h) : lh_LJ p l e s m below meth c D ad cI cZ k b pc lv (.int y :: .int x :: st) h :=
  fun H locs ls hP hS hl => lv_iand B.1 B.2.1 hdg (K H locs ls hP hS hl)
theorem ll_sld (B : lh_BL p s m meth c b L xs D ad cI cZ t9 k) {x : Int32} (hin : vp_in x L) (hdg : decode code pc = .ok (.iaload, 1)) (K : lh_LJ p l e s m below meth c D ad cI cZ k b (pc + 1) lv (.int (xs x.toNatClampNeg) :: st) h) : lh_LJ p l e s m below meth c D ad cI cZ k b pc lv (.int x :: .ref b :: st) h :=
  fun H locs ls hP hS hl => va_sld B.1 B.2.1 B.2.2.2.2.2.2.1 B.2.2.2.2.2.2.2.1 (Nat.not_le.mpr B.2.2.2.2.2.2.2.1) hS hin hdg (K H locs ls hP hS hl)
theorem ll_slen (B : lh_BL p s m meth c b L xs D ad cI cZ t9 k) (hdg : decode code pc = .ok (.arraylength, 1)) (K : lh_LJ p l e s m below meth c D ad cI cZ k b (pc + 1) lv (.int (nI L) :: st) h) : lh_LJ p l e s m below meth c D ad cI cZ k b pc lv (.ref b :: st) h :=
  fun H locs ls hP hS hl => va_slen B.1 B.2.1 B.2.2.2.2.2.2.1 B.2.2.2.2.2.2.2.1 (Nat.not_le.mpr B.2.2.2.2.2.2.2.1) hS hdg (K H locs ls hP hS hl)
theorem ll_if_eq (B : lh_BL p s m meth c b L xs D ad cI cZ t9 k) {x : Int32} {off : Int} {tgt : Nat} (hdg : decode code pc = .ok (.ifCond .eq off, 3)) (ht : (pc : Int) + off = (tgt : Int)) (kt : x = 0 → lh_LJ p l e s m below meth c D ad cI cZ k b tgt lv st h) (kf : ¬ x = 0 → lh_LJ p l e s m below meth c D ad cI cZ k b (pc + 3) lv st h) : lh_LJ p l e s m below meth c D ad cI cZ k b pc lv (.int x :: st) h :=
  fun H locs ls hP hS hl => lv_if_eq B.1 B.2.1 hdg ht (fun c9 => kt c9 H locs ls hP hS hl) (fun c9 => kf c9 H locs ls hP hS hl)
theorem ll_icmp_gt (B : lh_BL p s m meth c b L xs D ad cI cZ t9 k) {x y : Int32} {off : Int} {tgt : Nat} (hdg : decode code pc = .ok (.if_icmp .gt off, 3)) (ht : (pc : Int) + off = (tgt : Int)) (kt : y < x → lh_LJ p l e s m below meth c D ad cI cZ k b tgt lv st h) (kf : ¬ y < x → lh_LJ p l e s m below meth c D ad cI cZ k b (pc + 3) lv st h) : lh_LJ p l e s m below meth c D ad cI cZ k b pc lv (.int y :: .int x :: st) h :=
  fun H locs ls hP hS hl => lv_icmp_gt B.1 B.2.1 hdg ht (fun c9 => kt c9 H locs ls hP hS hl) (fun c9 => kf c9 H locs ls hP hS hl)
theorem ll_icmp_eq (B : lh_BL p s m meth c b L xs D ad cI cZ t9 k) {x y : Int32} {off : Int} {tgt : Nat} (hdg : decode code pc = .ok (.if_icmp .eq off, 3)) (ht : (pc : Int) + off = (tgt : Int)) (kt : x = y → lh_LJ p l e s m below meth c D ad cI cZ k b tgt lv st h) (kf : ¬ x = y → lh_LJ p l e s m below meth c D ad cI cZ k b (pc + 3) lv st h) : lh_LJ p l e s m below meth c D ad cI cZ k b pc lv (.int y :: .int x :: st) h :=
  fun H locs ls hP hS hl => lv_icmp_eq B.1 B.2.1 hdg ht (fun c9 => kt c9 H locs ls hP hS hl) (fun c9 => kf c9 H locs ls hP hS hl)
theorem ll_goto (B : lh_BL p s m meth c b L xs D ad cI cZ t9 k) {off : Int} {tgt : Nat} (hdg : decode code pc = .ok (.goto off, 3)) (ht : (pc : Int) + off = (tgt : Int)) (K : lh_LJ p l e s m below meth c D ad cI cZ k b tgt lv st h) : lh_LJ p l e s m below meth c D ad cI cZ k b pc lv st h :=
  fun H locs ls hP hS hl => lv_goto B.1 B.2.1 hdg ht (K H locs ls hP hS hl)
theorem ll_tabOut (B : lh_BL p s m meth c b L xs D ad cI cZ t9 k) {dflt lo hi : Int} {offs : Array Int} {len : Nat} {x : Int32} {tgt : Nat} (hdg : decode code pc = .ok (.tableswitch dflt lo hi offs, len)) (hx : x.toInt < lo ∨ hi < x.toInt) (ht : (pc : Int) + dflt = (tgt : Int)) (K : lh_LJ p l e s m below meth c D ad cI cZ k b tgt lv st h) : lh_LJ p l e s m below meth c D ad cI cZ k b pc lv (.int x :: st) h :=
  fun H locs ls hP hS hl => lv_tableOut B.1 B.2.1 hdg hx ht (K H locs ls hP hS hl)
theorem ll_tabIn (B : lh_BL p s m meth c b L xs D ad cI cZ t9 k) {dflt lo hi : Int} {offs : Array Int} {len : Nat} {x : Int32} {off : Int} {tgt : Nat} (hdg : decode code pc = .ok (.tableswitch dflt lo hi offs, len)) (h1 : ¬ x.toInt < lo) (h2 : ¬ hi < x.toInt) (ho : offs[(x.toInt - lo).toNat]? = some off) (ht : (pc : Int) + off = (tgt : Int)) (K : lh_LJ p l e s m below meth c D ad cI cZ k b tgt lv st h) : lh_LJ p l e s m below meth c D ad cI cZ k b pc lv (.int x :: st) h :=
  fun H locs ls hP hS hl => lv_tableIn B.1 B.2.1 hdg h1 h2 ho ht (K H locs ls hP hS hl)
theorem ll_iinc5 (B : lh_BL p s m meth c b L xs D ad cI cZ t9 k) {i : Nat} {x : Int32} (hdg : decode code pc = .ok (.iinc i 5, 3)) (hx : lv.lookup i = some (.int x)) (hn : i < 4) (K : lh_LJ p l e s m below meth c D ad cI cZ k b (pc + 3) ((i, .int (x + 5)) :: lv) st h) : lh_LJ p l e s m below meth c D ad cI cZ k b pc lv st h := by
  intro H locs ls hP hS hl
  obtain ⟨q, hq⟩ := lh_dd_at hn hx
  exact lv_iinc B.1 B.2.1 hdg hl.has hq (by rw [show Int32.ofInt 5 = 5 from by decide]) hn rfl (fun ls2 hl2 => K H locs ls2 hP hS (hl.st rfl hl2))
theorem ll_sub {lv2 : List (Nat × Value)} (hi : lh_in lv2 lv) (hc : ∀ q ∈ lv2, q.2.category = 1) (K : lh_LJ p l e s m below meth c D ad cI cZ k b pc lv2 st h) : lh_LJ p l e s m below meth c D ad cI cZ k b pc lv st h :=
  fun H locs ls hP hS hl => K H locs ls hP hS (hl.sub hi hc)
theorem ll_callVi (B : lh_BL p s m meth c b L xs D ad cI cZ t9 k) {y : MethodName} {bytes : ByteArray} {maxL d index i ci N : Nat} {ret' : Option FieldType} {As : List Value} {r : Int32} {fs : List Value} {T : u_T} (hct : lh_CTi l D ad s.heap.size cI cZ t9 k y bytes maxL ret' d (.ref (ad i) :: As) h r h') (hL : lh_LV "LightHoursLaw" index y bytes maxL ret' As.length) (hR : d + 1 ≤ room_1.frames ∧ 8 + (maxL + 11) + 40 * d ≤ room_1.locals) (hi : i < lh_nc k) (hsh : lh_sh ad cI cZ k i (h i) = .inr (ci, fs)) (hc : clz[ci]? = some (y.cls, T, N)) (hstk : stk = As.reverse ++ .ref (ad i) :: st) (hcat : (st.map fun v => v.category).sum ≤ 8) (hdg : decode code pc = .ok (.invokevirtual index, 3)) (K : lh_LJ p l e s m below meth c D ad cI cZ k b (pc + 3) lv (.int r :: st) h') : lh_LJ p l e s m below meth c D ad cI cZ k b pc lv stk h := by
  intro H locs ls hP hS hl
  subst hstk
  refine va_calli (lh_runVc (cl := cond k 76 50) (sl := cond k 1399 1068) (rm := lh_rm d) B.1 B.2.1 B.2.2.2.1 B.2.2.2.2.1 B.2.2.2.2.2.1 (Or.inl B.2.2.2.2.2.2.2.2.2) B.2.2.2.2.2.2.2.2.2.1 hct rfl rfl hL hR (by cases k <;> decide) hi hsh hc hcat hdg hP hS hl.1) hS (fun q _ h => h) (fun q h => h) (fun r2 _ t H1 locs1 ht _ hr2 hB _ _ hS1 => ?_)
  subst hr2
  have hB' : va_P D clz (lh_wl ad cI cZ k h') t.heap := hB
  rw [ht] at hB'
  exact K H1 locs1 ls hB' hS1 hl
theorem ll_end (B : lh_BL p s m meth c b L xs D ad cI cZ t9 k) (hdg : decode code pc = .ok (.ireturn, 1)) : lh_LJ p l e s m below meth c D ad cI cZ k b pc lv [.int 1] h := by
  intro H locs ls hP hS hl
  refine va_forget (fun q hq => hS.2.2 q hq) ?_
  refine W.widen (k := 600000) (n := 7302250) (by cases k <;> decide) (by cases k <;> decide) ?_
  exact lw_ret B.1 B.2.1 B.2.2.1 B.2.2.2.2.2.2.2.2.1 hdg
theorem ll_in {i c L : Nat} (h : i + c < L) (hL : L ≤ 2560) : vp_in (nI i + nI c) L := by rw [nI_add]; exact vp_in_nI h (by omega)
end LHL
