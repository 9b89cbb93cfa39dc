/-! CALLS over the world, and a method's start -/
section LHC
variable {p : Program} {l : Launch} {e : Env} {R : Room} {s : State} {m : MethodId} {args : Array Value} {below : List Frame} {meth : Method} {c : Code} {Q : State → Prop}
variable {D : va_G} {ad : Nat → Nat} {bs : Nat} {cI cZ : ClassId} {t9 : Nat} {k : Bool}
variable {own : String} {cc : ByteArray} {nL : Nat} {ret : Option FieldType}
variable {pc : Nat} {lv : List (Nat × Value)} {st stk : List Value} {h h' : lh_HS}
variable {y : MethodName} {bytes : ByteArray} {maxL d index i ci N : Nat} {ret' : Option FieldType} {As : List Value} {r : Int32} {fs : List Value} {T : u_T}
theorem lh_goodB (hw5 : Cond.code y bytes maxL ret' ∈ GT) : GoodIn GT (lh_ws y bytes maxL ret') := by
  intro w hw
  rcases List.mem_cons.mp hw with rfl | hw
  · exact ⟨hw5, gt_good hw5⟩
  · exact ⟨hw, gt_good hw⟩
theorem lh_goodV (hw1 : Cond.methodLink own index y ∈ GT) (hw2 : Cond.instanceMethod y ∈ GT) (hw3 : Cond.selects y.cls y y ∈ GT) (hw4 : Cond.initialized y.cls ∈ GT) (hw5 : Cond.code y bytes maxL ret' ∈ GT) : GoodIn GT (wsV own index y.cls y (lh_ws y bytes maxL ret')) := by
  intro w hw
  rcases List.mem_append.mp hw with hw | hw
  · simp only [List.mem_cons, List.not_mem_nil, or_false] at hw
    rcases hw with rfl | rfl | rfl | rfl
    · exact ⟨hw1, gt_good hw1⟩
    · exact ⟨hw2, gt_good hw2⟩
    · exact ⟨hw3, gt_good hw3⟩
    · exact ⟨hw4, gt_good hw4⟩
  · exact lh_goodB hw5 w hw
theorem lh_goodS (hw1 : Cond.methodLink own index y ∈ GT) (hw2 : Cond.static y ∈ GT) (hw4 : Cond.initialized y.cls ∈ GT) (hw5 : Cond.code y bytes maxL ret' ∈ GT) : GoodIn GT (va_wsS own index y (lh_ws y bytes maxL ret')) := by
  intro w hw
  rcases List.mem_append.mp hw with hw | hw
  · simp only [List.mem_cons, List.not_mem_nil, or_false] at hw
    rcases hw with rfl | rfl | rfl
    · exact ⟨hw1, gt_good hw1⟩
    · exact ⟨hw2, gt_good hw2⟩
    · exact ⟨hw4, gt_good hw4⟩
  · exact lh_goodB hw5 w hw
/-- a virtual call's words, said once -/
def lh_LV (own : String) (index : Nat) (y : MethodName) (bytes : ByteArray) (maxL : Nat) (ret' : Option FieldType) (n : Nat) : Prop := GoodIn GT (wsV own index y.cls y (lh_ws y bytes maxL ret')) ∧ y.cls ≠ "java/lang/invoke/MethodHandle" ∧ y.cls ≠ "java/lang/invoke/VarHandle" ∧ (parseMethodDescriptor y.desc).map (fun d => d.parameters.length) = some n
def lh_LS (own : String) (index : Nat) (y : MethodName) (bytes : ByteArray) (maxL : Nat) (ret' : Option FieldType) (n : Nat) : Prop := GoodIn GT (va_wsS own index y (lh_ws y bytes maxL ret')) ∧ y.cls ≠ "java/lang/invoke/MethodHandle" ∧ y.cls ≠ "java/lang/invoke/VarHandle" ∧ (parseMethodDescriptor y.desc).map (fun d => d.parameters.length) = some n
def lh_LN (own : String) (index : Nat) (y : MethodName) (bytes : ByteArray) (maxL : Nat) (ret' : Option FieldType) (n : Nat) : Prop := GoodIn GT (lh_ws y bytes maxL ret') ∧ Cond.methodLinkNest own index y "LightHours" ∈ lh_nest ∧ Cond.static y ∈ GT ∧ Cond.initialized y.cls ∈ GT ∧ y.cls ≠ "java/lang/invoke/MethodHandle" ∧ y.cls ≠ "java/lang/invoke/VarHandle" ∧ (parseMethodDescriptor y.desc).map (fun d => d.parameters.length) = some n
theorem lh_runV {H : Heap} {locs : List Loc} {ls : Array Slot} {Qc : Array Value → State → Outcome → State → Prop} (B : lh_BK p R s m args meth c D ad bs cI cZ t9 k own cc nL ret) (hct : Met l y (lh_ws y bytes maxL ret') (lh_rm d) (va_Pc (.ref (ad i) :: As) (lh_PB D ad bs cI cZ t9 k h)) Qc 0 0 (lh_A bs)) (hL : lh_LV own index y bytes maxL ret' As.length) (hR : d + 1 ≤ R.frames ∧ 8 + (maxL + 11) + 40 * d ≤ R.locals) (hi : i < lh_nc k) (hsh : lh_sh ad cI cZ k i (h i) = .inr (ci, fs)) (hc : clz[ci]? = some (y.cls, T, N)) (hcat : (st.map fun v => v.category).sum ≤ 8) (hdg : decode cc pc = .ok (.invokevirtual index, 3)) (hP : va_P D clz (lh_wl ad cI cZ k h) H) (hS : va_S (lh_A bs) s.heap H locs) (hl : lh_lv ls nL lv) :
    va_Run p l e R s m args below meth c H locs 0 0 0 0 (F0 m pc ls (As.reverse ++ .ref (ad i) :: st)) st (Qc (Value.ref (ad i) :: As).toArray) (lh_A bs) :=
  va_runV (As := As) (rest := st) ⟨B.1, B.2.1, B.2.2.2.1, B.2.2.2.2.1, B.2.2.2.2.2.1⟩ hct (cwV As.length B.2.2.2.2.2.1 hL.1 rfl rfl rfl ⟨rfl, hL.2⟩ hR) ⟨lh_blind, va_recv B.2.2.2.2.2.2.2.1 hP hc (by rw [lh_get hi, hsh]), fun U hU hW => ⟨rfl, by rw [hU]; exact hP, by rw [hU]; exact B.2.2.2.2.2.2.2.go hS hW⟩⟩ rfl rfl hl.1 rfl (lv_room hcat) hdg ⟨Nat.zero_le _, Nat.zero_le _⟩
theorem lh_runS {H : Heap} {locs : List Loc} {ls : Array Slot} {Qc : Array Value → State → Outcome → State → Prop} (B : lh_BK p R s m args meth c D ad bs cI cZ t9 k own cc nL ret) (hct : Met l y (lh_ws y bytes maxL ret') (lh_rm d) (va_Pc As (lh_PB D ad bs cI cZ t9 k h)) Qc 0 0 (lh_A bs)) (hL : lh_LS own index y bytes maxL ret' As.length) (hR : d + 1 ≤ R.frames ∧ 8 + (maxL + 11) + 40 * d ≤ R.locals) (hcat : (st.map fun v => v.category).sum ≤ 8) (hdg : decode cc pc = .ok (.invokestatic index, 3)) (hP : va_P D clz (lh_wl ad cI cZ k h) H) (hS : va_S (lh_A bs) s.heap H locs) (hl : lh_lv ls nL lv) :
    va_Run p l e R s m args below meth c H locs 0 0 0 0 (F0 m pc ls (As.reverse ++ st)) st (Qc As.toArray) (lh_A bs) :=
  va_runS (As := As) (rest := st) ⟨B.1, B.2.1, B.2.2.2.1, B.2.2.2.2.1, B.2.2.2.2.2.1⟩ hct (va_cwS As.length B.2.2.2.2.2.1 hL.1 rfl rfl rfl hL.2 hR) ⟨lh_blind, fun U hU hW => ⟨rfl, by rw [hU]; exact hP, by rw [hU]; exact B.2.2.2.2.2.2.2.go hS hW⟩⟩ rfl rfl hl.1 rfl (lv_room hcat) hdg ⟨Nat.zero_le _, Nat.zero_le _⟩
theorem lh_runSN {H : Heap} {locs : List Loc} {ls : Array Slot} {Qc : Array Value → State → Outcome → State → Prop} (B : lh_BK p R s m args meth c D ad bs cI cZ t9 k own cc nL ret) (hct : Met l y (lh_ws y bytes maxL ret') (lh_rm d) (va_Pc As (lh_PB D ad bs cI cZ t9 k h)) Qc 0 0 (lh_A bs)) (hL : lh_LN own index y bytes maxL ret' As.length) (hR : d + 1 ≤ R.frames ∧ 8 + (maxL + 11) + 40 * d ≤ R.locals) (hcat : (st.map fun v => v.category).sum ≤ 8) (hdg : decode cc pc = .ok (.invokestatic index, 3)) (hP : va_P D clz (lh_wl ad cI cZ k h) H) (hS : va_S (lh_A bs) s.heap H locs) (hl : lh_lv ls nL lv) :
    va_Run p l e R s m args below meth c H locs 0 0 0 0 (F0 m pc ls (As.reverse ++ st)) st (Qc As.toArray) (lh_A bs) :=
  va_runSN (As := As) (rest := st) (host := "LightHours") ⟨B.1, B.2.1, B.2.2.2.1, B.2.2.2.2.1, B.2.2.2.2.2.1⟩ hct ⟨va_cnB As.length B.2.2.2.2.2.1 hL.1 rfl rfl rfl (B.2.2.2.2.2.2.2.2.2.1.1 _ hL.2.1) (B.2.2.2.2.2.1 _ hL.2.2.2.1) hL.2.2.2.2 hR, B.2.2.2.2.2.1 _ hL.2.2.1, trivial⟩ ⟨lh_blind, fun U hU hW => ⟨rfl, by rw [hU]; exact hP, by rw [hU]; exact B.2.2.2.2.2.2.2.go hS hW⟩⟩ rfl rfl hl.1 rfl (lv_room hcat) hdg ⟨Nat.zero_le _, Nat.zero_le _⟩
theorem la_callVi (B : lh_BK p R s m args meth c D ad bs cI cZ t9 k own cc nL ret) (hct : lh_CTi l D ad bs cI cZ t9 k y bytes maxL ret' d (.ref (ad i) :: As) h r h') (hL : lh_LV own index y bytes maxL ret' As.length) (hR : d + 1 ≤ R.frames ∧ 8 + (maxL + 11) + 40 * d ≤ R.locals) (hi : i < lh_nc k) (hsh : lh_sh ad cI cZ k i (h i) = .inr (ci, fs)) (hc : clz[ci]? = some (y.cls, T, N)) (hstk : stk = As.reverse ++ .ref (ad i) :: st) (hcat : (st.map fun v => v.category).sum ≤ 8) (hdg : decode cc pc = .ok (.invokevirtual index, 3)) (K : lh_AJ p l e R s m args below meth c D ad bs cI cZ k nL Q (pc + 3) lv (.int r :: st) h') : lh_AJ p l e R s m args below meth c D ad bs cI cZ k nL Q pc lv stk h := by
  intro H locs ls hP hS hl
  subst hstk
  refine va_calli (lh_runV B hct hL hR hi hsh hc hcat hdg hP hS hl) hS (fun q _ h => h) (fun q h => h) (fun r2 _ t H1 locs1 ht _ hr2 hB _ _ hS1 => ?_)
  subst hr2
  have hB' : va_P D clz (lh_wl ad cI cZ k h') t.heap := hB
  rw [ht] at hB'
  exact K H1 locs1 ls hB' hS1 hl
theorem la_callSi (B : lh_BK p R s m args meth c D ad bs cI cZ t9 k own cc nL ret) (hct : lh_CTi l D ad bs cI cZ t9 k y bytes maxL ret' d (As) h r h') (hL : lh_LS own index y bytes maxL ret' As.length) (hR : d + 1 ≤ R.frames ∧ 8 + (maxL + 11) + 40 * d ≤ R.locals) (hstk : stk = As.reverse ++ st) (hcat : (st.map fun v => v.category).sum ≤ 8) (hdg : decode cc pc = .ok (.invokestatic index, 3)) (K : lh_AJ p l e R s m args below meth c D ad bs cI cZ k nL Q (pc + 3) lv (.int r :: st) h') : lh_AJ p l e R s m args below meth c D ad bs cI cZ k nL Q pc lv stk h := by
  intro H locs ls hP hS hl
  subst hstk
  refine va_calli (lh_runS B hct hL hR hcat hdg hP hS hl) hS (fun q _ h => h) (fun q h => h) (fun r2 _ t H1 locs1 ht _ hr2 hB _ _ hS1 => ?_)
  subst hr2
  have hB' : va_P D clz (lh_wl ad cI cZ k h') t.heap := hB
  rw [ht] at hB'
  exact K H1 locs1 ls hB' hS1 hl
theorem la_callSNi (B : lh_BK p R s m args meth c D ad bs cI cZ t9 k own cc nL ret) (hct : lh_CTi l D ad bs cI cZ t9 k y bytes maxL ret' d (As) h r h') (hL : lh_LN own index y bytes maxL ret' As.length) (hR : d + 1 ≤ R.frames ∧ 8 + (maxL + 11) + 40 * d ≤ R.locals) (hstk : stk = As.reverse ++ st) (hcat : (st.map fun v => v.category).sum ≤ 8) (hdg : decode cc pc = .ok (.invokestatic index, 3)) (K : lh_AJ p l e R s m args below meth c D ad bs cI cZ k nL Q (pc + 3) lv (.int r :: st) h') : lh_AJ p l e R s m args below meth c D ad bs cI cZ k nL Q pc lv stk h := by
  intro H locs ls hP hS hl
  subst hstk
  refine va_calli (lh_runSN B hct hL hR hcat hdg hP hS hl) hS (fun q _ h => h) (fun q h => h) (fun r2 _ t H1 locs1 ht _ hr2 hB _ _ hS1 => ?_)
  subst hr2
  have hB' : va_P D clz (lh_wl ad cI cZ k h') t.heap := hB
  rw [ht] at hB'
  exact K H1 locs1 ls hB' hS1 hl
theorem la_callVv (B : lh_BK p R s m args meth c D ad bs cI cZ t9 k own cc nL ret) (hct : lh_CTv l D ad bs cI cZ t9 k y bytes maxL d (.ref (ad i) :: As) h h') (hL : lh_LV own index y bytes maxL none As.length) (hR : d + 1 ≤ R.frames ∧ 8 + (maxL + 11) + 40 * d ≤ R.locals) (hi : i < lh_nc k) (hsh : lh_sh ad cI cZ k i (h i) = .inr (ci, fs)) (hc : clz[ci]? = some (y.cls, T, N)) (hstk : stk = As.reverse ++ .ref (ad i) :: st) (hcat : (st.map fun v => v.category).sum ≤ 8) (hdg : decode cc pc = .ok (.invokevirtual index, 3)) (K : lh_AJ p l e R s m args below meth c D ad bs cI cZ k nL Q (pc + 3) lv (st) h') : lh_AJ p l e R s m args below meth c D ad bs cI cZ k nL Q pc lv stk h := by
  intro H locs ls hP hS hl
  subst hstk
  refine va_callv (lh_runV B hct hL hR hi hsh hc hcat hdg hP hS hl) hS (fun q _ h => h) (fun q h => h) (fun _ t H1 locs1 ht _ _ hB _ _ hS1 => ?_)
  have hB' : va_P D clz (lh_wl ad cI cZ k h') t.heap := hB
  rw [ht] at hB'
  exact K H1 locs1 ls hB' hS1 hl
theorem la_callSv (B : lh_BK p R s m args meth c D ad bs cI cZ t9 k own cc nL ret) (hct : lh_CTv l D ad bs cI cZ t9 k y bytes maxL d (As) h h') (hL : lh_LS own index y bytes maxL none As.length) (hR : d + 1 ≤ R.frames ∧ 8 + (maxL + 11) + 40 * d ≤ R.locals) (hstk : stk = As.reverse ++ st) (hcat : (st.map fun v => v.category).sum ≤ 8) (hdg : decode cc pc = .ok (.invokestatic index, 3)) (K : lh_AJ p l e R s m args below meth c D ad bs cI cZ k nL Q (pc + 3) lv (st) h') : lh_AJ p l e R s m args below meth c D ad bs cI cZ k nL Q pc lv stk h := by
  intro H locs ls hP hS hl
  subst hstk
  refine va_callv (lh_runS B hct hL hR hcat hdg hP hS hl) hS (fun q _ h => h) (fun q h => h) (fun _ t H1 locs1 ht _ _ hB _ _ hS1 => ?_)
  have hB' : va_P D clz (lh_wl ad cI cZ k h') t.heap := hB
  rw [ht] at hB'
  exact K H1 locs1 ls hB' hS1 hl
theorem la_callSNv (B : lh_BK p R s m args meth c D ad bs cI cZ t9 k own cc nL ret) (hct : lh_CTv l D ad bs cI cZ t9 k y bytes maxL d (As) h h') (hL : lh_LN own index y bytes maxL none As.length) (hR : d + 1 ≤ R.frames ∧ 8 + (maxL + 11) + 40 * d ≤ R.locals) (hstk : stk = As.reverse ++ st) (hcat : (st.map fun v => v.category).sum ≤ 8) (hdg : decode cc pc = .ok (.invokestatic index, 3)) (K : lh_AJ p l e R s m args below meth c D ad bs cI cZ k nL Q (pc + 3) lv (st) h') : lh_AJ p l e R s m args below meth c D ad bs cI cZ k nL Q pc lv stk h := by
  intro H locs ls hP hS hl
  subst hstk
  refine va_callv (lh_runSN B hct hL hR hcat hdg hP hS hl) hS (fun q _ h => h) (fun q h => h) (fun _ t H1 locs1 ht _ _ hB _ _ hS1 => ?_)
  have hB' : va_P D clz (lh_wl ad cI cZ k h') t.heap := hB
  rw [ht] at hB'
  exact K H1 locs1 ls hB' hS1 hl
theorem la_callVr (B : lh_BK p R s m args meth c D ad bs cI cZ t9 k own cc nL ret) {q : Nat} (hct : lh_CTr l D ad bs cI cZ t9 k y bytes maxL ret' d (.ref (ad i) :: As) h q h') (hL : lh_LV own index y bytes maxL ret' As.length) (hR : d + 1 ≤ R.frames ∧ 8 + (maxL + 11) + 40 * d ≤ R.locals) (hi : i < lh_nc k) (hsh : lh_sh ad cI cZ k i (h i) = .inr (ci, fs)) (hc : clz[ci]? = some (y.cls, T, N)) (hstk : stk = As.reverse ++ .ref (ad i) :: st) (hcat : (st.map fun v => v.category).sum ≤ 8) (hdg : decode cc pc = .ok (.invokevirtual index, 3)) (K : lh_AJ p l e R s m args below meth c D ad bs cI cZ k nL Q (pc + 3) lv (.ref (ad q) :: st) h') : lh_AJ p l e R s m args below meth c D ad bs cI cZ k nL Q pc lv stk h := by
  intro H locs ls hP hS hl
  subst hstk
  refine va_callr (lh_runV B hct hL hR hi hsh hc hcat hdg hP hS hl) hS (fun q _ h => h) (fun q h => h) (fun _ a t H1 locs1 ht _ _ hB _ _ hS1 => ?_)
  obtain ⟨ha, hB'⟩ : a = ad q ∧ va_P D clz (lh_wl ad cI cZ k h') t.heap := hB
  subst ha
  rw [ht] at hB'
  exact K H1 locs1 ls hB' hS1 hl
theorem la_callSr (B : lh_BK p R s m args meth c D ad bs cI cZ t9 k own cc nL ret) {q : Nat} (hct : lh_CTr l D ad bs cI cZ t9 k y bytes maxL ret' d (As) h q h') (hL : lh_LS own index y bytes maxL ret' As.length) (hR : d + 1 ≤ R.frames ∧ 8 + (maxL + 11) + 40 * d ≤ R.locals) (hstk : stk = As.reverse ++ st) (hcat : (st.map fun v => v.category).sum ≤ 8) (hdg : decode cc pc = .ok (.invokestatic index, 3)) (K : lh_AJ p l e R s m args below meth c D ad bs cI cZ k nL Q (pc + 3) lv (.ref (ad q) :: st) h') : lh_AJ p l e R s m args below meth c D ad bs cI cZ k nL Q pc lv stk h := by
  intro H locs ls hP hS hl
  subst hstk
  refine va_callr (lh_runS B hct hL hR hcat hdg hP hS hl) hS (fun q _ h => h) (fun q h => h) (fun _ a t H1 locs1 ht _ _ hB _ _ hS1 => ?_)
  obtain ⟨ha, hB'⟩ : a = ad q ∧ va_P D clz (lh_wl ad cI cZ k h') t.heap := hB
  subst ha
  rw [ht] at hB'
  exact K H1 locs1 ls hB' hS1 hl
theorem la_callSNr (B : lh_BK p R s m args meth c D ad bs cI cZ t9 k own cc nL ret) {q : Nat} (hct : lh_CTr l D ad bs cI cZ t9 k y bytes maxL ret' d (As) h q h') (hL : lh_LN own index y bytes maxL ret' As.length) (hR : d + 1 ≤ R.frames ∧ 8 + (maxL + 11) + 40 * d ≤ R.locals) (hstk : stk = As.reverse ++ st) (hcat : (st.map fun v => v.category).sum ≤ 8) (hdg : decode cc pc = .ok (.invokestatic index, 3)) (K : lh_AJ p l e R s m args below meth c D ad bs cI cZ k nL Q (pc + 3) lv (.ref (ad q) :: st) h') : lh_AJ p l e R s m args below meth c D ad bs cI cZ k nL Q pc lv stk h := by
  intro H locs ls hP hS hl
  subst hstk
  refine va_callr (lh_runSN B hct hL hR hcat hdg hP hS hl) hS (fun q _ h => h) (fun q h => h) (fun _ a t H1 locs1 ht _ _ hB _ _ hS1 => ?_)
  obtain ⟨ha, hB'⟩ : a = ad q ∧ va_P D clz (lh_wl ad cI cZ k h') t.heap := hB
  subst ha
  rw [ht] at hB'
  exact K H1 locs1 ls hB' hS1 hl
theorem lh_ofi {av : List Value} (hy : plainName y.cls = true) (hn : (lg_sl av).length ≤ nL) (hlv : lv_args 0 av = lv) (hc : ∀ q ∈ lv, q.2.category = 1) (hin : lh_in lv lv)
    (body : ∀ (p : Program) (e : Env) (s : State) (m : MethodId) (args : Array Value) (below : List Frame) (meth : Method) (c : Code), lh_BK p (lh_rm d) s m args meth c D ad bs cI cZ t9 k y.cls cc nL ret → lh_AJ p l e (lh_rm d) s m args below meth c D ad bs cI cZ k nL (MQ below (lh_Qi D ad bs cI cZ k r h') args s 0 0 (lh_A bs)) 0 lv [] h) : lh_CTi l D ad bs cI cZ t9 k y cc nL ret d (av) h r h' := by
  refine Met.ofW (cc := cc) (maxL := nL) (ret := ret) hy rfl ?_
  intro p e s m args below meth c s₁ B hml hv
  obtain ⟨rfl, hP, hSB⟩ := hv
  have hts := atoms_spec (ws := lh_ws y cc nL ret) B.pre
  rw [lg_entry_eq]
  exact body p e s m _ below meth c ⟨B.exec, B.bytes, B.returns, hml, findClass_of_methodNamed B.named, fun w hw => hts w (List.mem_cons_of_mem _ hw), B.notSynchronized, hSB⟩ s.heap [] _ hP va_S.rf (lh_lv.entry av hn hlv hc hin)
theorem lh_ofv {av : List Value} (hy : plainName y.cls = true) (hn : (lg_sl av).length ≤ nL) (hlv : lv_args 0 av = lv) (hc : ∀ q ∈ lv, q.2.category = 1) (hin : lh_in lv lv)
    (body : ∀ (p : Program) (e : Env) (s : State) (m : MethodId) (args : Array Value) (below : List Frame) (meth : Method) (c : Code), lh_BK p (lh_rm d) s m args meth c D ad bs cI cZ t9 k y.cls cc nL none → lh_AJ p l e (lh_rm d) s m args below meth c D ad bs cI cZ k nL (MQ below (lh_Qv D ad bs cI cZ k h') args s 0 0 (lh_A bs)) 0 lv [] h) : lh_CTv l D ad bs cI cZ t9 k y cc nL d (av) h h' := by
  refine Met.ofW (cc := cc) (maxL := nL) (ret := none) hy rfl ?_
  intro p e s m args below meth c s₁ B hml hv
  obtain ⟨rfl, hP, hSB⟩ := hv
  have hts := atoms_spec (ws := lh_ws y cc nL none) B.pre
  rw [lg_entry_eq]
  exact body p e s m _ below meth c ⟨B.exec, B.bytes, B.returns, hml, findClass_of_methodNamed B.named, fun w hw => hts w (List.mem_cons_of_mem _ hw), B.notSynchronized, hSB⟩ s.heap [] _ hP va_S.rf (lh_lv.entry av hn hlv hc hin)
theorem lh_ofr {q : Nat} {av : List Value} (hy : plainName y.cls = true) (hn : (lg_sl av).length ≤ nL) (hlv : lv_args 0 av = lv) (hc : ∀ q ∈ lv, q.2.category = 1) (hin : lh_in lv lv)
    (body : ∀ (p : Program) (e : Env) (s : State) (m : MethodId) (args : Array Value) (below : List Frame) (meth : Method) (c : Code), lh_BK p (lh_rm d) s m args meth c D ad bs cI cZ t9 k y.cls cc nL ret → lh_AJ p l e (lh_rm d) s m args below meth c D ad bs cI cZ k nL (MQ below (lh_Qr D ad bs cI cZ k q h') args s 0 0 (lh_A bs)) 0 lv [] h) : lh_CTr l D ad bs cI cZ t9 k y cc nL ret d (av) h q h' := by
  refine Met.ofW (cc := cc) (maxL := nL) (ret := ret) hy rfl ?_
  intro p e s m args below meth c s₁ B hml hv
  obtain ⟨rfl, hP, hSB⟩ := hv
  have hts := atoms_spec (ws := lh_ws y cc nL ret) B.pre
  rw [lg_entry_eq]
  exact body p e s m _ below meth c ⟨B.exec, B.bytes, B.returns, hml, findClass_of_methodNamed B.named, fun w hw => hts w (List.mem_cons_of_mem _ hw), B.notSynchronized, hSB⟩ s.heap [] _ hP va_S.rf (lh_lv.entry av hn hlv hc hin)
end LHC
