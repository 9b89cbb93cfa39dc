/-! CONSTRUCTORS: worlds as lists that grow at their end; ws: whatever else is there -/
theorem lc_at {ws l : va_W} {i : Nat} {x : Nat × va_E} (h : l[i]? = some x) : (ws ++ l)[ws.length + i]? = some x := by
  rw [List.getElem?_append_right (by omega), show ws.length + i - ws.length = i from by omega]; exact h
theorem lc_set {ws l : va_W} {i : Nat} {x : Nat × va_E} : (ws ++ l).set (ws.length + i) x = ws ++ l.set i x := by
  rw [List.set_append_right _ _ (by omega), show ws.length + i - ws.length = i from by omega]
def lh_PN (D : va_G) (bs : Nat) (cI cZ : ClassId) (w : va_W) (U : State) : Prop := va_P D clz w U.heap ∧ va_D (lh_A bs) w ∧ va_K D clz (lh_ty cI cZ) U ∧ lh_NW U ∧ bs ≤ U.heap.size
theorem lc_blind {av : List Value} {D : va_G} {bs : Nat} {cI cZ : ClassId} {w : va_W} : FrameBlind (va_Pc av (lh_PN D bs cI cZ w)) := by
  intro a U g mk q
  obtain ⟨q0, qP, qD, qK, qN, qs⟩ := q
  exact ⟨q0, qP, qD, va_K.moved (u := U) (U := U.calling g mk a) (Vm.Alike.refl U.vm) qK, lh_NW.same (s := U) (U := U.calling g mk a) rfl qN, qs⟩
def lh_rn (d mc ms : Nat) : Room := { frames := d, cells := mc, slots := ms, locals := 40 * d }
abbrev lh_Qn (D : va_G) (bs : Nat) (ws : va_W) (fin : (Nat → Nat) → va_W) : Array Value → State → Outcome → State → Prop := va_Qv (fun (_ : Nat → Nat) => True) (fun u t => va_P D clz (ws ++ fin u) t.heap ∧ va_D (lh_A bs) (ws ++ fin u)) (lh_A bs)
def lh_CN (l : Launch) (D : va_G) (bs : Nat) (cI cZ : ClassId) (y : MethodName) (cc : ByteArray) (nL d mc ms : Nat) (av : List Value) (l0 : va_W) (fin : (Nat → Nat) → va_W) : Prop :=
  ∀ ws : va_W, Met l y (lh_ws y cc nL none) (lh_rn d mc ms) (va_Pc av (lh_PN D bs cI cZ (ws ++ l0))) (lh_Qn D bs ws fin) mc ms (lh_A bs)
section LHN
variable {p : Program} {l : Launch} {e : Env} {R : Room} {s : State} {m : MethodId} {args : Array Value} {below : List Frame} {meth : Method} {c : Code} {Q : State → Prop}
variable {D : va_G} {bs : Nat} {cI cZ : ClassId} {own : String} {cc : ByteArray} {nL : Nat}
def lh_BN (p : Program) (s : State) (m : MethodId) (args : Array Value) (meth : Method) (c : Code) (D : va_G) (bs : Nat) (cI cZ : ClassId) (own : String) (cc : ByteArray) (nL : Nat) : Prop :=
  p.tables.exec = Jvm.exec ∧ c.code = cc ∧ meth.sig.returnType = none ∧ c.maxLocals = nL ∧ s.vm.findClass own = some m.cls ∧ (∀ w ∈ GT, w.before args s = true) ∧ meth.locks = false ∧ meth.name = "<init>" ∧ va_K D clz (lh_ty cI cZ) s ∧ lh_NW s ∧ bs ≤ s.heap.size
def lh_CJ (p : Program) (l : Launch) (e : Env) (R : Room) (s : State) (m : MethodId) (args : Array Value) (below : List Frame) (meth : Method) (c : Code) (D : va_G) (bs : Nat) (nL : Nat) (Q : State → Prop) (pc : Nat) (lv : List (Nat × Value)) (st : List Value) (w : va_W) (cl sl : Nat) : Prop :=
  ∀ (H : Heap) (locs : List Loc) (ls : Array Slot), va_P D clz w H → va_D (lh_A bs) w → va_S (lh_A bs) s.heap H locs → lh_lv ls nL lv → W p l e R s m args below meth c H locs cl sl Q (F0 m pc ls st)
variable {pc : Nat} {lv : List (Nat × Value)} {st : List Value} {ws lo : va_W} {cl sl : Nat}
theorem lc_aload_n (B : lh_BN p s m args meth c D bs cI cZ own cc nL) {q : Fin 4} {i : Nat} {x : Nat} (hdg : decode cc pc = .ok (.aload_n q, 1)) (hi : (q : Nat) = i) (hx : lv.lookup i = some (.ref x)) (K : lh_CJ p l e R s m args below meth c D bs nL Q (pc + 1) lv (.ref x :: st) (ws ++ lo) cl sl) : lh_CJ p l e R s m args below meth c D bs nL Q pc lv st (ws ++ lo) cl sl :=
  fun H locs ls hP hD hS hl => lv_aload_n B.1 B.2.1 hdg hi (hl.2.2.2 i _ hx) (K H locs ls hP hD hS hl)
theorem lc_astore_n (B : lh_BN p s m args meth c D bs cI cZ own cc nL) {q : Fin 4} {i : Nat} {x : Nat} (hdg : decode cc pc = .ok (.astore_n q, 1)) (hi : (q : Nat) = i) (hn : i < nL) (K : lh_CJ p l e R s m args below meth c D bs nL Q (pc + 1) ((i, .ref x) :: lv) st (ws ++ lo) cl sl) : lh_CJ p l e R s m args below meth c D bs nL Q pc lv (.ref x :: st) (ws ++ lo) cl sl :=
  fun H locs ls hP hD hS hl => lv_astore_n B.1 B.2.1 hdg hi hl.has hn rfl (fun ls2 hl2 => K H locs ls2 hP hD hS (hl.st rfl hl2))
theorem lc_iconst (B : lh_BN p s m args meth c D bs cI cZ own cc nL) {n : Int} {v : Int32} (hdg : decode cc pc = .ok (.iconst n, 1)) (hv : Int32.ofInt n = v) (K : lh_CJ p l e R s m args below meth c D bs nL Q (pc + 1) lv (.int v :: st) (ws ++ lo) cl sl) : lh_CJ p l e R s m args below meth c D bs nL Q pc lv st (ws ++ lo) cl sl :=
  fun H locs ls hP hD hS hl => lv_iconst B.1 B.2.1 hdg hv (K H locs ls hP hD hS hl)
theorem lc_bipush (B : lh_BN p s m args meth c D bs cI cZ own cc nL) {n : Int} {v : Int32} (hdg : decode cc pc = .ok (.bipush n, 2)) (hv : (Int8.ofInt n).toInt32 = v) (K : lh_CJ p l e R s m args below meth c D bs nL Q (pc + 2) lv (.int v :: st) (ws ++ lo) cl sl) : lh_CJ p l e R s m args below meth c D bs nL Q pc lv st (ws ++ lo) cl sl :=
  fun H locs ls hP hD hS hl => lv_bipush B.1 B.2.1 hdg hv (K H locs ls hP hD hS hl)
theorem lc_sipush (B : lh_BN p s m args meth c D bs cI cZ own cc nL) {n : Int} {v : Int32} (hdg : decode cc pc = .ok (.sipush n, 3)) (hv : (Int16.ofInt n).toInt32 = v) (K : lh_CJ p l e R s m args below meth c D bs nL Q (pc + 3) lv (.int v :: st) (ws ++ lo) cl sl) : lh_CJ p l e R s m args below meth c D bs nL Q pc lv st (ws ++ lo) cl sl :=
  fun H locs ls hP hD hS hl => lv_sipush B.1 B.2.1 hdg hv (K H locs ls hP hD hS hl)
theorem lc_ldc (B : lh_BN p s m args meth c D bs cI cZ own cc nL) {index : Nat} {v : Int32} (hw : Cond.constant own index v ∈ GT) (hdg : decode cc pc = .ok (.ldc index, 2)) (K : lh_CJ p l e R s m args below meth c D bs nL Q (pc + 2) lv (.int v :: st) (ws ++ lo) cl sl) : lh_CJ p l e R s m args below meth c D bs nL Q pc lv st (ws ++ lo) cl sl :=
  fun H locs ls hP hD hS hl => lv_ldc B.1 B.2.1 B.2.2.2.2.1 (B.2.2.2.2.2.1 _ hw) hdg (K H locs ls hP hD hS hl)
theorem lc_dup (B : lh_BN p s m args meth c D bs cI cZ own cc nL) {v : Value} (hdg : decode cc pc = .ok (.dup, 1)) (hv : v.category = 1) (K : lh_CJ p l e R s m args below meth c D bs nL Q (pc + 1) lv (v :: v :: st) (ws ++ lo) cl sl) : lh_CJ p l e R s m args below meth c D bs nL Q pc lv (v :: st) (ws ++ lo) cl sl :=
  fun H locs ls hP hD hS hl => lv_dup B.1 B.2.1 hdg hv (K H locs ls hP hD hS hl)
theorem lc_null (B : lh_BN p s m args meth c D bs cI cZ own cc nL) (hdg : decode cc pc = .ok (.aconst_null, 1)) (K : lh_CJ p l e R s m args below meth c D bs nL Q (pc + 1) lv (.null :: st) (ws ++ lo) cl sl) : lh_CJ p l e R s m args below meth c D bs nL Q pc lv st (ws ++ lo) cl sl :=
  fun H locs ls hP hD hS hl => lv_null B.1 B.2.1 hdg (K H locs ls hP hD hS hl)
theorem lc_obj (B : lh_BN p s m args meth c D bs cI cZ own cc nL) {idx : Nat} {a : Nat} (hw1 : Cond.methodLink own idx Lib.objectInit ∈ GT) (hw2 : Cond.instanceMethod Lib.objectInit ∈ GT) (hw3 : Cond.code Lib.objectInit ⟨#[0xb1]⟩ 1 none ∈ GT) (hf : 1 ≤ R.frames) (hloc : (st.map fun v => v.category).sum + 12 ≤ R.locals) (hdg : decode cc pc = .ok (.invokespecial idx, 3)) (K : lh_CJ p l e R s m args below meth c D bs nL Q (pc + 3) lv st (ws ++ lo) cl sl) : lh_CJ p l e R s m args below meth c D bs nL Q pc lv (.ref a :: st) (ws ++ lo) cl sl :=
  fun H locs ls hP hD hS hl => W.objInit B.1 B.2.1 B.2.2.2.2.1 (B.2.2.2.2.2.1 _ hw1) (B.2.2.2.2.2.1 _ hw2) (B.2.2.2.2.2.1 _ hw3) rfl (by rw [B.2.2.2.1]; exact hl.1) rfl hdg hf (by show 2 * 0 + _ + 12 ≤ _; omega) (K H locs ls hP hD hS hl)
theorem lc_new (B : lh_BN p s m args meth c D bs cI cZ own cc nL) {index ci N : Nat} {C : String} {T : u_T} {ty : Nat → FieldType} {fs : List Value} (hin : ∀ w ∈ u_ws C T N, w ∈ GT) (hty : ∀ k, k < N → parseFieldDescriptor (T k).2.2.1 = some (ty k)) (hw1 : Cond.classLink own index C ∈ GT) (hw2 : Cond.instantiable C N ∈ GT) (hw3 : Cond.initialized C ∈ GT) (hc : clz[ci]? = some (C, T, N)) (hfs : ∀ j, j < N → defaultValue (ty j) = vp_V fs j) (hcells : cl + 1 ≤ R.cells) (hslots : sl + N ≤ R.slots) (hdg : decode cc pc = .ok (.new index, 3)) {lo2 : Nat → va_W} (hlo2 : ∀ q, lo ++ [(q, .inr (ci, fs))] = lo2 q) (K : ∀ q : Nat, lh_CJ p l e R s m args below meth c D bs nL Q (pc + 3) lv (.ref q :: st) (ws ++ lo2 q) (cl + 1) (sl + N)) : lh_CJ p l e R s m args below meth c D bs nL Q pc lv st (ws ++ lo) cl sl := by
  intro H locs ls hP hD hS hl
  refine va_new B.1 B.2.1 B.2.2.2.2.2.1 hin ty hty B.2.2.2.2.1 (B.2.2.2.2.2.1 _ hw1) (B.2.2.2.2.2.1 _ hw2) (B.2.2.2.2.2.1 _ hw3) B.2.2.2.2.2.2.2.2.1 hP hD hS (fun q hq => Nat.le_trans B.2.2.2.2.2.2.2.2.2.2 hq) hc hfs hcells hslots hdg (fun q H1 hP1 hD1 hS1 => ?_)
  rw [List.append_assoc, hlo2] at hP1 hD1
  exact K q H1 locs ls hP1 hD1 hS1 hl
theorem lc_newI (B : lh_BN p s m args meth c D bs cI cZ own cc nL) {n : Int32} {N : Nat} (hw : Cond.arrayClass .int ∈ GT) (hn : ¬ n < 0) (hN : n.toNatClampNeg = N) (hb : N * componentBytes .int ≤ 536870912) (hcells : cl + 1 ≤ R.cells) (hslots : sl + N ≤ R.slots) (hdg : decode cc pc = .ok (.newarray .int, 2)) {lo2 : Nat → va_W} (hlo2 : ∀ q, lo ++ [(q, .inl (cI, N, .inl (fun _ => 0)))] = lo2 q) (K : ∀ q : Nat, lh_CJ p l e R s m args below meth c D bs nL Q (pc + 2) lv (.ref q :: st) (ws ++ lo2 q) (cl + 1) (sl + N)) : lh_CJ p l e R s m args below meth c D bs nL Q pc lv (.int n :: st) (ws ++ lo) cl sl := by
  intro H locs ls hP hD hS hl
  refine va_newa (atype := .int) (a0 := (N, .inl (fun _ => 0))) (ty := .int) B.1 B.2.1 (B.2.2.2.2.2.1 _ hw) rfl B.2.2.2.2.2.2.2.2.1 hP hD hS (fun q hq => Nat.le_trans B.2.2.2.2.2.2.2.2.2.2 hq) (fun _ => rfl) hn hN hb hcells hslots hdg (fun q cA H1 hK1 hP1 hD1 hS1 => ?_)
  have e : cA = cI := Option.some.inj ((hK1.2 2 (cA, .int) rfl).2.symm.trans (hK1.2 0 (cI, .int) rfl).2)
  subst e
  rw [List.append_assoc, hlo2] at hP1 hD1
  exact K q H1 locs ls hP1 hD1 hS1 hl
theorem lc_newZ (B : lh_BN p s m args meth c D bs cI cZ own cc nL) {n : Int32} {N : Nat} (hw : Cond.arrayClass .boolean ∈ GT) (hn : ¬ n < 0) (hN : n.toNatClampNeg = N) (hb : N * componentBytes .boolean ≤ 536870912) (hcells : cl + 1 ≤ R.cells) (hslots : sl + N ≤ R.slots) (hdg : decode cc pc = .ok (.newarray .boolean, 2)) {lo2 : Nat → va_W} (hlo2 : ∀ q, lo ++ [(q, .inl (cZ, N, .inl (fun _ => 0)))] = lo2 q) (K : ∀ q : Nat, lh_CJ p l e R s m args below meth c D bs nL Q (pc + 2) lv (.ref q :: st) (ws ++ lo2 q) (cl + 1) (sl + N)) : lh_CJ p l e R s m args below meth c D bs nL Q pc lv (.int n :: st) (ws ++ lo) cl sl := by
  intro H locs ls hP hD hS hl
  refine va_newa (atype := .boolean) (a0 := (N, .inl (fun _ => 0))) (ty := .boolean) B.1 B.2.1 (B.2.2.2.2.2.1 _ hw) rfl B.2.2.2.2.2.2.2.2.1 hP hD hS (fun q hq => Nat.le_trans B.2.2.2.2.2.2.2.2.2.2 hq) (fun _ => rfl) hn hN hb hcells hslots hdg (fun q cA H1 hK1 hP1 hD1 hS1 => ?_)
  have e : cA = cZ := Option.some.inj ((hK1.2 2 (cA, .boolean) rfl).2.symm.trans (hK1.2 1 (cZ, .boolean) rfl).2)
  subst e
  rw [List.append_assoc, hlo2] at hP1 hD1
  exact K q H1 locs ls hP1 hD1 hS1 hl
theorem lc_put (B : lh_BN p s m args meth c D bs cI cZ own cc nL) {a i index ci N j : Nat} {T : u_T} {C ref : String} {fs : List Value} {v : Value} {ty0 : Nat → FieldType} {ty : FieldType} {fin : Bool} (hsh : lo[i]? = some (a, .inr (ci, fs))) (hin : ∀ w ∈ u_ws C T N, w ∈ GT) (hty : ∀ k, k < N → parseFieldDescriptor (T k).2.2.1 = some (ty0 k)) (hnm : ∀ a, a < N → ∀ b, b < N → a ≠ b → (T a).2.1 ≠ (T b).2.1) (hc : clz[ci]? = some (C, T, N)) (hj : j < N) (hw : Cond.fieldLink own index ref (T j).2.1 (T j).2.2.1 ∈ GT) (hr : (T j).1 = ref) (hfin : (T j).2.2.2 = fin) (hown : (T j).1 = own) (hty0 : ty0 j = ty) (hn : narrow ty v = v) (hfit : fits ty v = true) (hlen : j < fs.length) {lo2 : va_W} (hlo2 : lo.set i (a, .inr (ci, fs.set j v)) = lo2) (hdg : decode cc pc = .ok (.putfield index, 3)) (K : lh_CJ p l e R s m args below meth c D bs nL Q (pc + 3) lv st (ws ++ lo2) cl sl) : lh_CJ p l e R s m args below meth c D bs nL Q pc lv (v :: .ref a :: st) (ws ++ lo) cl sl := by
  intro H locs ls hP hD hS hl
  subst hr
  subst hlo2
  cases fin with
  | false =>
    refine va_put B.1 B.2.1 B.2.2.2.2.2.1 hin ty0 hty hnm B.2.2.2.2.1 B.2.2.2.2.2.2.2.2.1 hP hD hS (ws.length + i) (lc_at hsh) hc j hj (B.2.2.2.2.2.1 _ hw) (fun _ h9 => h9) hfin (by rw [hty j hj, hty0]) hn hfit hlen hdg (fun H1 locs1 hP1 hD1 hS1 => ?_)
    rw [lc_set] at hP1 hD1
    exact K H1 locs1 ls hP1 hD1 hS1 hl
  | true =>
    refine va_putF B.1 B.2.1 B.2.2.2.2.2.1 hin ty0 hty hnm B.2.2.2.2.1 B.2.2.2.2.2.2.2.2.1 hP hD hS (ws.length + i) (lc_at hsh) hc j hj (B.2.2.2.2.2.1 _ hw) (fun _ h9 => h9) hfin B.2.2.2.2.2.2.2.1 hown (by rw [hty j hj, hty0]) hn hfit hlen hdg (fun H1 locs1 hP1 hD1 hS1 => ?_)
    rw [lc_set] at hP1 hD1
    exact K H1 locs1 ls hP1 hD1 hS1 hl
theorem lc_iast (B : lh_BN p s m args meth c D bs cI cZ own cc nL) {a i n j : Nat} {x y : Int32} {f : Nat → Int32} (hsh : lo[i]? = some (a, .inl (cI, n, .inl f))) (hin : vp_in x n) (hj : x.toNatClampNeg = j) {lo2 : va_W} (hlo2 : lo.set i (a, .inl (cI, n, .inl (upd f j y))) = lo2) (hdg : decode cc pc = .ok (.iastore, 1)) (K : lh_CJ p l e R s m args below meth c D bs nL Q (pc + 1) lv st (ws ++ lo2) cl sl) : lh_CJ p l e R s m args below meth c D bs nL Q pc lv (.int y :: .int x :: .ref a :: st) (ws ++ lo) cl sl := by
  intro H locs ls hP hD hS hl
  subst hj
  subst hlo2
  refine va_iast B.1 B.2.1 B.2.2.2.2.2.2.2.2.1 hP hD hS (ws.length + i) 0 (lc_at hsh) rfl hin hdg (fun H1 locs1 hP1 hD1 hS1 => ?_)
  rw [lc_set] at hP1 hD1
  exact K H1 locs1 ls hP1 hD1 hS1 hl
theorem lc_ret (B : lh_BN p s m args meth c D bs cI cZ own cc nL) {fin : (Nat → Nat) → va_W} (u : Nat → Nat) (hfin : fin u = lo) (hdg : decode cc pc = .ok (.return_, 1)) : lh_CJ p l e R s m args below meth c D bs nL (MQ below (lh_Qn D bs ws fin) args s cl sl (lh_A bs)) pc lv [] (ws ++ lo) cl sl := by
  intro H locs ls hP hD hS hl
  subst hfin
  exact W.vret B.1 B.2.1 B.2.2.1 (fun t ht hW => ⟨⟨u, rfl, trivial, by rw [ht]; exact hP, hD⟩, hS.F ht⟩) hS.2.2 hdg B.2.2.2.2.2.2.1
theorem lc_of {y : MethodName} {d mc ms : Nat} {av : List Value} {l0 : va_W} {fin : (Nat → Nat) → va_W} (hy : plainName y.cls = true) (hyn : y.name = "<init>") (hn : (lg_sl av).length ≤ nL) (hlv : lv_args 0 av = lv) (hc : ∀ q ∈ lv, q.2.category = 1) (hin : lh_in lv lv)
    (body : ∀ (ws : va_W) (p : Program) (e : Env) (s : State) (m : MethodId) (args : Array Value) (below : List Frame) (meth : Method) (c : Code), lh_BN p s m args meth c D bs cI cZ y.cls cc nL → lh_CJ p l e (lh_rn d mc ms) s m args below meth c D bs nL (MQ below (lh_Qn D bs ws fin) args s mc ms (lh_A bs)) 0 lv [] (ws ++ l0) 0 0) : lh_CN l D bs cI cZ y cc nL d mc ms av l0 fin := by
  intro ws
  refine Met.ofW (cc := cc) (maxL := nL) (ret := none) hy rfl ?_
  intro p e s m args below meth c s₁ B hml hv
  obtain ⟨rfl, hP, hD, hK, hN, hsz⟩ := hv
  have hts := atoms_spec (ws := lh_ws y cc nL none) B.pre
  rw [lg_entry_eq]
  exact body ws p e s m _ below meth c ⟨B.exec, B.bytes, B.returns, hml, findClass_of_methodNamed B.named, fun w hw => hts w (List.mem_cons_of_mem _ hw), B.notSynchronized, (name_of_methodNamed B.named B.method).1.trans hyn, hK, hN, hsz⟩ s.heap [] _ hP hD va_S.rf (lh_lv.entry av hn hlv hc hin)
/-- a constructor is called: nest says whether its link is the nest's -/
def lh_LI (own : String) (index : Nat) (y : MethodName) (bytes : ByteArray) (maxL n : Nat) (nest : Bool) : Prop := GoodIn GT (lh_ws y bytes maxL none) ∧ (nest = true → Cond.methodLinkNest own index y "LightHours" ∈ lh_nest) ∧ (nest = false → Cond.methodLink own index y ∈ GT) ∧ Cond.instanceMethod y ∈ GT ∧ Cond.initialized y.cls ∈ GT ∧ y.name = "<init>" ∧ y.cls ≠ "java/lang/invoke/MethodHandle" ∧ y.cls ≠ "java/lang/invoke/VarHandle" ∧ (parseMethodDescriptor y.desc).map (fun d => d.parameters.length) = some n
theorem lh_runI {y : MethodName} {bytes : ByteArray} {maxL d mc ms index a : Nat} {As : List Value} {ws l0 : va_W} {fin : (Nat → Nat) → va_W} {nest : Bool} {args0 : Array Value} {H : Heap} {locs : List Loc} {ls : Array Slot} (hx : p.tables.exec = Jvm.exec) (hb : c.code = cc) (hml : c.maxLocals = nL) (ho : s.vm.findClass own = some m.cls) (hts : ∀ w ∈ GT, w.before args s = true) (hK : va_K D clz (lh_ty cI cZ) s) (hNW : lh_NW s) (hbs : bs ≤ s.heap.size) (hct : lh_CN l D bs cI cZ y bytes maxL d mc ms (.ref a :: As) l0 fin) (hL : lh_LI own index y bytes maxL As.length nest) (hR : d + 1 ≤ R.frames ∧ 8 + (maxL + 11) + 40 * d ≤ R.locals) (hf : cl + mc ≤ R.cells ∧ sl + ms ≤ R.slots) (hcat : (st.map fun v => v.category).sum ≤ 8) (hdg : decode cc pc = .ok (.invokespecial index, 3)) (hP : va_P D clz (ws ++ l0) H) (hD : va_D (lh_A bs) (ws ++ l0)) (hS : va_S (lh_A bs) s.heap H locs) (hl : lh_lv ls nL lv) :
    va_Run p l e R s m args below meth c H locs cl sl mc ms (F0 m pc ls (As.reverse ++ .ref a :: st)) st (lh_Qn D bs ws fin (Value.ref a :: As).toArray) (lh_A bs) := by
  have hp : PreS s H (va_Pc (.ref a :: As) (lh_PN D bs cI cZ (ws ++ l0))) (.ref a :: As) := ⟨lc_blind, fun U hU hW => ⟨rfl, by rw [hU]; exact hP, hD, va_K.moved hW.alike hK, hNW.warm hW, by rw [hU]; exact Nat.le_trans hbs hS.1⟩⟩
  obtain ⟨g1, g2, g3, g4, g5, g6, g7⟩ := hL
  cases nest with
  | true => exact va_runIN (As := As) (rest := st) (host := "LightHours") ⟨hx, hb, hml, ho, hts⟩ (hct ws) ⟨va_cnB As.length hts g1 rfl rfl rfl (hNW.1 _ (g2 rfl)) (hts _ g5) g7 hR, g6, hts _ g4⟩ hp rfl rfl hl.1 rfl (lv_room hcat) hdg hf
  | false => exact va_runI (As := As) (rest := st) ⟨hx, hb, hml, ho, hts⟩ (hct ws) (cwI As.length hts g1 rfl rfl rfl (hts _ g5) (hts _ (g3 rfl)) (hts _ g4) g6 g7 hR) hp rfl rfl hl.1 rfl (lv_room hcat) hdg hf
theorem lc_init (B : lh_BN p s m args meth c D bs cI cZ own cc nL) {y : MethodName} {bytes : ByteArray} {maxL d mc ms index a : Nat} {As stk : List Value} {l1 l0 : va_W} {fin : (Nat → Nat) → va_W} {nest : Bool} (hct : lh_CN l D bs cI cZ y bytes maxL d mc ms (.ref a :: As) l0 fin) (hL : lh_LI own index y bytes maxL As.length nest) (hR : d + 1 ≤ R.frames ∧ 8 + (maxL + 11) + 40 * d ≤ R.locals) (hf : cl + mc ≤ R.cells ∧ sl + ms ≤ R.slots) (hlo : lo = l1 ++ l0) (hstk : stk = As.reverse ++ .ref a :: st) (hcat : (st.map fun v => v.category).sum ≤ 8) (hdg : decode cc pc = .ok (.invokespecial index, 3)) {lo2 : (Nat → Nat) → va_W} (hlo2 : ∀ u, l1 ++ fin u = lo2 u) (K : ∀ u : Nat → Nat, lh_CJ p l e R s m args below meth c D bs nL Q (pc + 3) lv st (ws ++ lo2 u) (cl + mc) (sl + ms)) : lh_CJ p l e R s m args below meth c D bs nL Q pc lv stk (ws ++ lo) cl sl := by
  intro H locs ls hP hD hS hl
  subst hstk; subst hlo
  rw [← List.append_assoc] at hP hD
  refine va_callv (lh_runI B.1 B.2.1 B.2.2.2.1 B.2.2.2.2.1 B.2.2.2.2.2.1 B.2.2.2.2.2.2.2.2.1 B.2.2.2.2.2.2.2.2.2.1 B.2.2.2.2.2.2.2.2.2.2 hct hL hR hf hcat hdg hP hD hS hl (args0 := #[])) hS (fun q _ h => h) (fun q h => h) (fun u t H1 locs1 ht _ _ hB _ _ hS1 => ?_)
  obtain ⟨hP1, hD1⟩ : va_P D clz ((ws ++ l1) ++ fin u) t.heap ∧ va_D (lh_A bs) ((ws ++ l1) ++ fin u) := hB
  rw [ht, List.append_assoc, hlo2] at hP1
  rw [List.append_assoc, hlo2] at hD1
  exact K u H1 locs1 ls hP1 hD1 hS1 hl
end LHN
