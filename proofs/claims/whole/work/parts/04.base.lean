/-! THE WORLD: the class's cells 0..36, the reference's 37..49, the kept house's 50..75 (there once k). Its numbers: one function, cell and place to Int32. -/
abbrev lh_HS : Type := Nat → Nat → Int32
def lh_row (h : lh_HS) (i : Nat) (r : Nat → Int32) : lh_HS := fun a => if a = i then r else h a
def lh_up (h : lh_HS) (i j : Nat) (x : Int32) : lh_HS := lh_row h i (upd (h i) j x)
theorem lh_row_eq (h : lh_HS) (i : Nat) (r : Nat → Int32) : lh_row h i r i = r := by simp [lh_row]
theorem lh_row_ne {h : lh_HS} {i a : Nat} {r : Nat → Int32} (n : a ≠ i) : lh_row h i r a = h a := by simp [lh_row, n]
theorem lh_up_eq (h : lh_HS) (i j : Nat) (x : Int32) : lh_up h i j x i j = x := by simp [lh_up, lh_row, upd]
theorem lh_up_ne {h : lh_HS} {i j a b : Nat} {x : Int32} (n : a ≠ i ∨ b ≠ j) : lh_up h i j x a b = h a b := by
  unfold lh_up lh_row upd
  by_cases ha : a = i
  · subst ha
    rcases n with n | n
    · exact absurd rfl n
    · simp [n]
  · simp [ha]
def lh_sh (ad : Nat → Nat) (cI cZ : ClassId) (k : Bool) (i : Nat) (r : Nat → Int32) : va_E := match i with
  | 0 => .inr (8, [.ref (ad 1), .ref (ad 27), .ref (ad 30), cond k (.ref (ad 50)) .null])
  | 1 => .inr (2, [.ref (ad 2), .ref (ad 3), .ref (ad 4), .ref (ad 5), .ref (ad 6)])
  | 2 => .inr (4, [.int (r 0), .ref (ad 7), .ref (ad 8)])
  | 3 => .inr (5, [.int (r 0), .ref (ad 9), .ref (ad 10), .ref (ad 11), .ref (ad 12), .ref (ad 13), .ref (ad 14), .ref (ad 15)])
  | 4 => .inr (0, [.int (r 0), .ref (ad 16), .ref (ad 17), .ref (ad 18), .ref (ad 19), .ref (ad 20)])
  | 5 => .inr (6, [.int (r 0), .ref (ad 21), .ref (ad 22), .ref (ad 23)])
  | 6 => .inr (7, [.int (r 0), .ref (ad 24), .ref (ad 25), .ref (ad 26)])
  | 7 => .inl (cI, 4, .inl r)
  | 8 => .inl (cI, 40, .inl r)
  | 9 => .inl (cI, 8, .inl r)
  | 10 => .inl (cI, 8, .inl r)
  | 11 => .inl (cI, 8, .inl r)
  | 12 => .inl (cI, 8, .inl r)
  | 13 => .inl (cI, 8, .inl r)
  | 14 => .inl (cI, 8, .inl r)
  | 15 => .inl (cI, 8, .inl r)
  | 16 => .inl (cI, 30, .inl r)
  | 17 => .inl (cI, 30, .inl r)
  | 18 => .inl (cI, 30, .inl r)
  | 19 => .inl (cI, 30, .inl r)
  | 20 => .inl (cZ, 30, .inl r)
  | 21 => .inl (cI, 12, .inl r)
  | 22 => .inl (cI, 12, .inl r)
  | 23 => .inl (cI, 12, .inl r)
  | 24 => .inl (cI, 5, .inl r)
  | 25 => .inl (cI, 5, .inl r)
  | 26 => .inl (cI, 5, .inl r)
  | 27 => .inr (3, [.ref (ad 1), .int (r 1), .int (r 2), .int (r 3), .int (r 4), .ref (ad 28), .ref (ad 29)])
  | 28 => .inl (cI, 10, .inl r)
  | 29 => .inl (cI, 10, .inl r)
  | 30 => .inr (1, [.ref (ad 1), .ref (ad 27), .int (r 2), .ref (ad 31), .int (r 4), .ref (ad 32), .ref (ad 33), .ref (ad 34), .ref (ad 35), .ref (ad 36)])
  | 31 => .inl (cI, 5, .inl r)
  | 32 => .inl (cI, 5, .inl r)
  | 33 => .inl (cI, 5, .inl r)
  | 34 => .inl (cI, 5, .inl r)
  | 35 => .inl (cI, 6, .inl r)
  | 36 => .inl (cI, 8, .inl r)
  | 37 => .inr (9, [.ref (ad 38), .ref (ad 39), .ref (ad 40), .ref (ad 41), .ref (ad 42), .ref (ad 43), .ref (ad 44), .ref (ad 45), .int (r 8), .ref (ad 46), .int (r 10), .int (r 11), .int (r 12), .ref (ad 47), .ref (ad 48), .ref (ad 49), .int (r 16), .int (r 17)])
  | 38 => .inl (cI, 5, .inl r)
  | 39 => .inl (cI, 4, .inl r)
  | 40 => .inl (cI, 40, .inl r)
  | 41 => .inl (cI, 56, .inl r)
  | 42 => .inl (cI, 150, .inl r)
  | 43 => .inl (cI, 36, .inl r)
  | 44 => .inl (cI, 15, .inl r)
  | 45 => .inl (cI, 9, .inl r)
  | 46 => .inl (cI, 310, .inl r)
  | 47 => .inl (cI, 6, .inl r)
  | 48 => .inl (cI, 5, .inl r)
  | 49 => .inl (cI, 8, .inl r)
  | 50 => .inr (2, [.ref (ad 51), .ref (ad 52), .ref (ad 53), .ref (ad 54), .ref (ad 55)])
  | 51 => .inr (4, [.int (r 0), .ref (ad 56), .ref (ad 57)])
  | 52 => .inr (5, [.int (r 0), .ref (ad 58), .ref (ad 59), .ref (ad 60), .ref (ad 61), .ref (ad 62), .ref (ad 63), .ref (ad 64)])
  | 53 => .inr (0, [.int (r 0), .ref (ad 65), .ref (ad 66), .ref (ad 67), .ref (ad 68), .ref (ad 69)])
  | 54 => .inr (6, [.int (r 0), .ref (ad 70), .ref (ad 71), .ref (ad 72)])
  | 55 => .inr (7, [.int (r 0), .ref (ad 73), .ref (ad 74), .ref (ad 75)])
  | 56 => .inl (cI, 4, .inl r)
  | 57 => .inl (cI, 40, .inl r)
  | 58 => .inl (cI, 8, .inl r)
  | 59 => .inl (cI, 8, .inl r)
  | 60 => .inl (cI, 8, .inl r)
  | 61 => .inl (cI, 8, .inl r)
  | 62 => .inl (cI, 8, .inl r)
  | 63 => .inl (cI, 8, .inl r)
  | 64 => .inl (cI, 8, .inl r)
  | 65 => .inl (cI, 30, .inl r)
  | 66 => .inl (cI, 30, .inl r)
  | 67 => .inl (cI, 30, .inl r)
  | 68 => .inl (cI, 30, .inl r)
  | 69 => .inl (cZ, 30, .inl r)
  | 70 => .inl (cI, 12, .inl r)
  | 71 => .inl (cI, 12, .inl r)
  | 72 => .inl (cI, 12, .inl r)
  | 73 => .inl (cI, 5, .inl r)
  | 74 => .inl (cI, 5, .inl r)
  | _ => .inl (cI, 5, .inl r)
def lh_nc (k : Bool) : Nat := cond k 76 50
theorem lh_nc_lt {k : Bool} {i : Nat} (h : i < 50) : i < lh_nc k := by cases k <;> simp [lh_nc] <;> omega
def lh_wl (ad : Nat → Nat) (cI cZ : ClassId) (k : Bool) (h : lh_HS) : va_W := (List.range (lh_nc k)).map (fun i => (ad i, lh_sh ad cI cZ k i (h i)))
theorem lh_get {ad : Nat → Nat} {cI cZ : ClassId} {k : Bool} {h : lh_HS} {i : Nat} (hi : i < lh_nc k) : (lh_wl ad cI cZ k h)[i]? = some (ad i, lh_sh ad cI cZ k i (h i)) := by
  simp [lh_wl, List.getElem?_map, List.getElem?_range hi]
theorem lh_set {ad : Nat → Nat} {cI cZ : ClassId} {k : Bool} {h : lh_HS} {i : Nat} {r : Nat → Int32} : (lh_wl ad cI cZ k h).set i (ad i, lh_sh ad cI cZ k i r) = lh_wl ad cI cZ k (lh_row h i r) := by
  apply List.ext_getElem?
  intro a
  by_cases ha : a < lh_nc k
  · rw [lh_get ha]
    by_cases e : i = a
    · subst e
      rw [List.getElem?_set_self (by simp [lh_wl]; exact ha), lh_row_eq]
    · rw [List.getElem?_set_ne e, lh_get ha, lh_row_ne (Ne.symm e)]
  · have h1 : (lh_wl ad cI cZ k (lh_row h i r)).length ≤ a := by simp [lh_wl]; omega
    have h2 : ((lh_wl ad cI cZ k h).set i (ad i, lh_sh ad cI cZ k i r)).length ≤ a := by simp [lh_wl]; omega
    rw [List.getElem?_eq_none h1, List.getElem?_eq_none h2]
abbrev lh_A (bs : Nat) : Nat → Prop := fun q => bs ≤ q
def lh_AD (ad : Nat → Nat) (bs : Nat) (k : Bool) : Prop := (∀ i j, i < lh_nc k → j < lh_nc k → ad i = ad j → i = j) ∧ ∀ i, i < lh_nc k → bs ≤ ad i
theorem lh_AD.D {ad : Nat → Nat} {bs : Nat} {k : Bool} (a : lh_AD ad bs k) (cI cZ : ClassId) (h : lh_HS) : va_D (lh_A bs) (lh_wl ad cI cZ k h) := by
  have key : ∀ (i : Nat) (p : Nat × va_E), (lh_wl ad cI cZ k h)[i]? = some p → i < lh_nc k ∧ p.1 = ad i := by
    intro i p hp
    have hi : i < lh_nc k := by have := (List.getElem?_eq_some_iff.mp hp).1; simpa [lh_wl] using this
    rw [lh_get hi] at hp
    cases hp
    exact ⟨hi, rfl⟩
  refine ⟨fun i j p q hi hj e => ?_, fun i q hi => ?_⟩
  · obtain ⟨h1, e1⟩ := key i p hi
    obtain ⟨h2, e2⟩ := key j q hj
    exact a.1 i j h1 h2 (by rw [← e1, ← e2]; exact e)
  · obtain ⟨h1, e1⟩ := key i q hi
    rw [e1]
    exact a.2 i h1
/-- the numbers agree wherever an array or a field has a place -/
def lh_len (i : Nat) : Nat := match i with
  | 7 => 4 | 8 => 40 | 9 => 8 | 10 => 8 | 11 => 8 | 12 => 8 | 13 => 8 | 14 => 8 | 15 => 8 | 16 => 30 | 17 => 30 | 18 => 30 | 19 => 30 | 20 => 30
  | 21 => 12 | 22 => 12 | 23 => 12 | 24 => 5 | 25 => 5 | 26 => 5 | 28 => 10 | 29 => 10 | 31 => 5 | 32 => 5 | 33 => 5 | 34 => 5 | 35 => 6 | 36 => 8
  | 38 => 5 | 39 => 4 | 40 => 40 | 41 => 56 | 42 => 150 | 43 => 36 | 44 => 15 | 45 => 9 | 46 => 310 | 47 => 6 | 48 => 5 | 49 => 8
  | 56 => 4 | 57 => 40 | 58 => 8 | 59 => 8 | 60 => 8 | 61 => 8 | 62 => 8 | 63 => 8 | 64 => 8 | 65 => 30 | 66 => 30 | 67 => 30 | 68 => 30 | 69 => 30
  | 70 => 12 | 71 => 12 | 72 => 12 | 73 => 5 | 74 => 5 | 75 => 5
  | _ => 18
/-- T of the document -/
def lh_T (j : Nat) : Int32 := match j with
  | 0 => 0 | 1 => 10 | 2 => 20 | 3 => 40 | 4 => 80 | 5 => 160 | 6 => 320 | 7 => 640 | _ => 100000
abbrev lh_Tv : Nat → Value := fun j => .int (lh_T j)
/-- the nest's links: they aren't among the words that stay, so they are carried -/
abbrev lh_cr : MethodName := ⟨"LightHours", "copyRow", "([I[I)V"⟩
def lh_nest : List Cond := [.methodLinkNest "LightHours" 9 ⟨"LightHours$House", "<init>", "()V"⟩ "LightHours", .methodLinkNest "LightHours$House" 9 ⟨"LightHours$Rooms", "<init>", "()V"⟩ "LightHours", .methodLinkNest "LightHours$House" 18 ⟨"LightHours$Sheets", "<init>", "()V"⟩ "LightHours", .methodLinkNest "LightHours$House" 25 ⟨"LightHours$Bookings", "<init>", "()V"⟩ "LightHours", .methodLinkNest "LightHours$House" 32 ⟨"LightHours$Threads", "<init>", "()V"⟩ "LightHours", .methodLinkNest "LightHours$House" 39 ⟨"LightHours$Walls", "<init>", "()V"⟩ "LightHours", .methodLinkNest "LightHours$Hanging" 137 lh_cr "LightHours", .methodLinkNest "LightHours$Rooms" 26 lh_cr "LightHours", .methodLinkNest "LightHours$Sheets" 37 lh_cr "LightHours", .methodLinkNest "LightHours$Bookings" 50 lh_cr "LightHours", .methodLinkNest "LightHours$Threads" 25 lh_cr "LightHours", .methodLinkNest "LightHours$Walls" 25 lh_cr "LightHours"]
abbrev lh_fln : Cond := .fieldLinkNest "LightHours$Ledger" 89 "LightHours" "STEPS" "[I" "LightHours"
def lh_NW (U : State) : Prop := (∀ w ∈ lh_nest, va_Nw w U) ∧ va_Nw lh_fln U
theorem lh_NW.warm {s U : State} (hW : s.WarmedH U.vm) (h : lh_NW s) : lh_NW U := by
  refine ⟨fun w hw => ?_, va_Nw.warmF hW h.2⟩
  have h1 := h.1 w hw
  simp only [lh_nest, List.mem_cons, List.not_mem_nil, or_false] at hw
  rcases hw with rfl | rfl | rfl | rfl | rfl | rfl | rfl | rfl | rfl | rfl | rfl | rfl <;> exact va_Nw.warmM hW h1
theorem lh_NW.same {s U : State} (e : s.vm = U.vm) (h : lh_NW s) : lh_NW U := by
  refine ⟨fun w hw => ?_, va_Nw.same rfl e h.2⟩
  have h1 := h.1 w hw
  simp only [lh_nest, List.mem_cons, List.not_mem_nil, or_false] at hw
  rcases hw with rfl | rfl | rfl | rfl | rfl | rfl | rfl | rfl | rfl | rfl | rfl | rfl <;> exact va_Nw.same rfl e h1
abbrev lh_ty (cI cZ : ClassId) : List (ClassId × FieldType) := [(cI, .int), (cZ, .boolean)]
/-- what holds of the state, whatever the numbers: tables, addresses, the static row -/
def lh_SB (D : va_G) (ad : Nat → Nat) (bs : Nat) (cI cZ : ClassId) (t9 : Nat) (k : Bool) (U : State) (H : Heap) : Prop :=
  va_K D clz (lh_ty cI cZ) U ∧ lh_AD ad bs k ∧ lh_NW U ∧ va_Z "LightHours" "STEPS" "[I" (.ref t9) (lh_A bs) U H ∧ va_T .int t9 9 lh_Tv (lh_A bs) U H
def lh_PB (D : va_G) (ad : Nat → Nat) (bs : Nat) (cI cZ : ClassId) (t9 : Nat) (k : Bool) (h : lh_HS) (U : State) : Prop :=
  va_P D clz (lh_wl ad cI cZ k h) U.heap ∧ lh_SB D ad bs cI cZ t9 k U U.heap
theorem lh_SB.go {D : va_G} {ad : Nat → Nat} {bs : Nat} {cI cZ : ClassId} {t9 : Nat} {k : Bool} {s U : State} {H : Heap} {locs : List Loc} (h : lh_SB D ad bs cI cZ t9 k s s.heap) (hS : va_S (lh_A bs) s.heap H locs) (hW : s.WarmedH U.vm) : lh_SB D ad bs cI cZ t9 k U H :=
  ⟨va_K.moved hW.alike h.1, h.2.1, h.2.2.1.warm hW, va_Z.moved hW.alike (h.2.2.2.1.kept hS.2.1), va_T.moved hW.alike (h.2.2.2.2.kept hS.2.1)⟩
def lh_ws (y : MethodName) (cc : ByteArray) (n : Nat) (ret : Option FieldType) : List Cond := .code y cc n ret :: GT
def lh_rm (d : Nat) : Room := { frames := d, cells := 0, slots := 0, locals := 40 * d }
theorem lh_blind {av : List Value} {D : va_G} {ad : Nat → Nat} {bs : Nat} {cI cZ : ClassId} {t9 : Nat} {k : Bool} {h : lh_HS} : FrameBlind (va_Pc av (lh_PB D ad bs cI cZ t9 k h)) := by
  intro a U g mk q
  obtain ⟨q0, qP, qK, qA, qN, qZ, qT⟩ := q
  exact ⟨q0, qP, va_K.moved (u := U) (U := U.calling g mk a) (Vm.Alike.refl U.vm) qK, qA, lh_NW.same (s := U) (U := U.calling g mk a) rfl qN, va_Z.moved (u := U) (U := U.calling g mk a) (Vm.Alike.refl U.vm) qZ, va_T.moved (u := U) (U := U.calling g mk a) (Vm.Alike.refl U.vm) qT⟩
/-- contracts: from numbers h, the method returns r (int), or returns (void), and the numbers are h' -/
abbrev lh_Qi (D : va_G) (ad : Nat → Nat) (bs : Nat) (cI cZ : ClassId) (k : Bool) (r : Int32) (h' : lh_HS) : Array Value → State → Outcome → State → Prop := va_Qi (fun x (_ : Unit) => x = r) (fun _ t => va_P D clz (lh_wl ad cI cZ k h') t.heap) (lh_A bs)
abbrev lh_Qv (D : va_G) (ad : Nat → Nat) (bs : Nat) (cI cZ : ClassId) (k : Bool) (h' : lh_HS) : Array Value → State → Outcome → State → Prop := va_Qv (fun (_ : Unit) => True) (fun _ t => va_P D clz (lh_wl ad cI cZ k h') t.heap) (lh_A bs)
abbrev lh_Qr (D : va_G) (ad : Nat → Nat) (bs : Nat) (cI cZ : ClassId) (k : Bool) (q : Nat) (h' : lh_HS) : Array Value → State → Outcome → State → Prop := va_Qr (fun (_ : Unit) => True) (fun _ a t => a = ad q ∧ va_P D clz (lh_wl ad cI cZ k h') t.heap) (lh_A bs)
def lh_CTi (l : Launch) (D : va_G) (ad : Nat → Nat) (bs : Nat) (cI cZ : ClassId) (t9 : Nat) (k : Bool) (y : MethodName) (cc : ByteArray) (n : Nat) (ret : Option FieldType) (d : Nat) (av : List Value) (h : lh_HS) (r : Int32) (h' : lh_HS) : Prop :=
  Met l y (lh_ws y cc n ret) (lh_rm d) (va_Pc av (lh_PB D ad bs cI cZ t9 k h)) (lh_Qi D ad bs cI cZ k r h') 0 0 (lh_A bs)
def lh_CTv (l : Launch) (D : va_G) (ad : Nat → Nat) (bs : Nat) (cI cZ : ClassId) (t9 : Nat) (k : Bool) (y : MethodName) (cc : ByteArray) (n : Nat) (d : Nat) (av : List Value) (h : lh_HS) (h' : lh_HS) : Prop :=
  Met l y (lh_ws y cc n none) (lh_rm d) (va_Pc av (lh_PB D ad bs cI cZ t9 k h)) (lh_Qv D ad bs cI cZ k h') 0 0 (lh_A bs)
def lh_CTr (l : Launch) (D : va_G) (ad : Nat → Nat) (bs : Nat) (cI cZ : ClassId) (t9 : Nat) (k : Bool) (y : MethodName) (cc : ByteArray) (n : Nat) (ret : Option FieldType) (d : Nat) (av : List Value) (h : lh_HS) (q : Nat) (h' : lh_HS) : Prop :=
  Met l y (lh_ws y cc n ret) (lh_rm d) (va_Pc av (lh_PB D ad bs cI cZ t9 k h)) (lh_Qr D ad bs cI cZ k q h') 0 0 (lh_A bs)
/-- the locals: the first entry of a place counts; all of one word -/
def lh_lv (ls : Array Slot) (nL : Nat) (lv : List (Nat × Value)) : Prop := ls.size = nL ∧ lv_wf ls ∧ (∀ q ∈ lv, q.2.category = 1) ∧ ∀ i v, lv.lookup i = some v → ls[i]? = some (.val v)
def lh_in : List (Nat × Value) → List (Nat × Value) → Prop
  | [], _ => True
  | q :: l, lv => lv.lookup q.1 = some q.2 ∧ lh_in l lv
theorem lh_lk_mem {lv : List (Nat × Value)} {i : Nat} {v : Value} (h : lv.lookup i = some v) : (i, v) ∈ lv := by
  induction lv with
  | nil => simp at h
  | cons q l ih =>
    obtain ⟨a, w⟩ := q
    rw [List.lookup_cons] at h
    by_cases e : i == a
    · simp [e] at h
      subst h
      have := eq_of_beq e
      subst this
      exact List.mem_cons_self
    · simp [e] at h
      exact List.mem_cons_of_mem _ (ih h)
theorem lh_in_lk {lv : List (Nat × Value)} : ∀ (l : List (Nat × Value)), lh_in l lv → ∀ i v, l.lookup i = some v → lv.lookup i = some v
  | [], _, i, v, h => by simp at h
  | q :: l, hi, i, v, h => by
    obtain ⟨a, w⟩ := q
    rw [List.lookup_cons] at h
    by_cases e : i == a
    · simp [e] at h
      subst h
      have := eq_of_beq e
      subst this
      exact hi.1
    · simp [e] at h
      exact lh_in_lk l hi.2 i v h
theorem lh_lv.sub {ls : Array Slot} {nL : Nat} {lv l : List (Nat × Value)} (h : lh_lv ls nL lv) (hi : lh_in l lv) (hc : ∀ q ∈ l, q.2.category = 1) : lh_lv ls nL l :=
  ⟨h.1, h.2.1, hc, fun i v e => h.2.2.2 i v (lh_in_lk l hi i v e)⟩
def lh_dd (nL : Nat) (lv : List (Nat × Value)) : List (Nat × Value) := (List.range nL).filterMap (fun i => (lv.lookup i).map (fun v => (i, v)))
theorem lh_lv.has {ls : Array Slot} {nL : Nat} {lv : List (Nat × Value)} (h : lh_lv ls nL lv) : lv_has ls nL (lh_dd nL lv) := by
  refine ⟨h.1, h.2.1, fun q hq => ?_⟩
  obtain ⟨i, -, hi⟩ := List.mem_filterMap.mp hq
  cases e : lv.lookup i with
  | none => rw [e] at hi; cases hi
  | some v => rw [e] at hi; cases hi; exact h.2.2.2 i v e
theorem lh_lv.st {ls ls' : Array Slot} {nL i : Nat} {v : Value} {lv : List (Nat × Value)} (h : lh_lv ls nL lv) (hv : v.category = 1) (h' : lv_has ls' nL ((i, v) :: (lh_dd nL lv).filter (fun q => !(q.1 == i) && !(q.1 + 1 == i && q.2.category == 2)))) : lh_lv ls' nL ((i, v) :: lv) := by
  refine ⟨h'.1, h'.2.1, fun q hq => ?_, fun j w e => ?_⟩
  · rcases List.mem_cons.mp hq with rfl | hq
    · exact hv
    · exact h.2.2.1 q hq
  · rw [List.lookup_cons] at e
    by_cases c : j == i
    · simp [c] at e
      subst e
      have := eq_of_beq c
      subst this
      exact h'.2.2 (j, v) List.mem_cons_self
    · simp [c] at e
      have hj : j < nL := by rw [← h.1]; exact lv_lt (h.2.2.2 j w e)
      have hw : w.category = 1 := h.2.2.1 (j, w) (lh_lk_mem e)
      refine h'.2.2 (j, w) (List.mem_cons_of_mem _ (List.mem_filter.mpr ⟨List.mem_filterMap.mpr ⟨j, List.mem_range.mpr hj, by rw [e]; rfl⟩, ?_⟩))
      have hne : ¬ j = i := fun z => c (by rw [z]; exact beq_self_eq_true i)
      simp [hne, hw]
theorem lh_lv.entry (vs : List Value) {n : Nat} {lv : List (Nat × Value)} (hn : (lg_sl vs).length ≤ n) (hlv : lv_args 0 vs = lv) (hc : ∀ q ∈ lv, q.2.category = 1) (hnd : lh_in lv lv) : lh_lv ((lg_sl vs ++ List.replicate (n - (lg_sl vs).length) Slot.unset).toArray) n lv := by
  have h := lv_entry vs hn
  rw [hlv] at h
  exact ⟨h.1, h.2.1, hc, fun i v e => h.2.2 (i, v) (lh_lk_mem e)⟩
