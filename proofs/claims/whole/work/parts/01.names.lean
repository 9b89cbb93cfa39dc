/-- a private method of a class that the tables say can be made, by its rows of tables_1 -/
def lw_okq (q : MethodName × Nat) : Prop := (q.1.cls ≠ "java/lang/invoke/MethodHandle" ∧ q.1.cls ≠ "java/lang/invoke/VarHandle") ∧ Cond.instantiable q.1.cls q.2 ∈ tables_1 ∧ Cond.privateMethod q.1 ∈ tables_1 ∧ Cond.instanceMethod q.1 ∈ tables_1
theorem lw_p0 : lw_okq (⟨"LightHours", "changed", "(I)I"⟩, 4) := ⟨⟨by decide +kernel, by decide +kernel⟩, List.mem_of_getElem? (i := 14) (by decide +kernel), List.mem_of_getElem? (i := 304) (by decide +kernel), List.mem_of_getElem? (i := 305) (by decide +kernel)⟩
theorem lw_p1 : lw_okq (⟨"LightHours$Ledger", "sumSpends", "()V"⟩, 7) := ⟨⟨by decide +kernel, by decide +kernel⟩, List.mem_of_getElem? (i := 208) (by decide +kernel), List.mem_of_getElem? (i := 360) (by decide +kernel), List.mem_of_getElem? (i := 361) (by decide +kernel)⟩
theorem lw_p2 : lw_okq (⟨"LightHours$Ledger", "narrowPast", "()V"⟩, 7) := ⟨⟨by decide +kernel, by decide +kernel⟩, List.mem_of_getElem? (i := 208) (by decide +kernel), List.mem_of_getElem? (i := 377) (by decide +kernel), List.mem_of_getElem? (i := 378) (by decide +kernel)⟩
theorem lw_p3 : lw_okq (⟨"LightHours$Bookings", "add", "(IIII)I"⟩, 6) := ⟨⟨by decide +kernel, by decide +kernel⟩, List.mem_of_getElem? (i := 94) (by decide +kernel), List.mem_of_getElem? (i := 414) (by decide +kernel), List.mem_of_getElem? (i := 415) (by decide +kernel)⟩
theorem lw_p4 : lw_okq (⟨"LightHours$Hanging", "prepare", "()V"⟩, 10) := ⟨⟨by decide +kernel, by decide +kernel⟩, List.mem_of_getElem? (i := 237) (by decide +kernel), List.mem_of_getElem? (i := 515) (by decide +kernel), List.mem_of_getElem? (i := 516) (by decide +kernel)⟩
theorem lw_p5 : lw_okq (⟨"LightHours$Hanging", "sheetsFor", "(I)I"⟩, 10) := ⟨⟨by decide +kernel, by decide +kernel⟩, List.mem_of_getElem? (i := 237) (by decide +kernel), List.mem_of_getElem? (i := 522) (by decide +kernel), List.mem_of_getElem? (i := 523) (by decide +kernel)⟩
theorem lw_p6 : lw_okq (⟨"LightHours$Hanging", "shownTooNear", "(II)Z"⟩, 10) := ⟨⟨by decide +kernel, by decide +kernel⟩, List.mem_of_getElem? (i := 237) (by decide +kernel), List.mem_of_getElem? (i := 530) (by decide +kernel), List.mem_of_getElem? (i := 531) (by decide +kernel)⟩
theorem lw_p7 : lw_okq (⟨"LightHours$Hanging", "takeIfBetter", "(I)V"⟩, 10) := ⟨⟨by decide +kernel, by decide +kernel⟩, List.mem_of_getElem? (i := 237) (by decide +kernel), List.mem_of_getElem? (i := 538) (by decide +kernel), List.mem_of_getElem? (i := 539) (by decide +kernel)⟩
theorem lw_p8 : lw_okq (⟨"LightHours$Hanging", "fits", "(II)Z"⟩, 10) := ⟨⟨by decide +kernel, by decide +kernel⟩, List.mem_of_getElem? (i := 237) (by decide +kernel), List.mem_of_getElem? (i := 549) (by decide +kernel), List.mem_of_getElem? (i := 550) (by decide +kernel)⟩
theorem lw_p9 : lw_okq (⟨"LightHoursModel", "came", "(I)I"⟩, 18) := ⟨⟨by decide +kernel, by decide +kernel⟩, List.mem_of_getElem? (i := 633) (by decide +kernel), List.mem_of_getElem? (i := 702) (by decide +kernel), List.mem_of_getElem? (i := 703) (by decide +kernel)⟩
theorem lw_p10 : lw_okq (⟨"LightHoursModel", "is", "(II)Z"⟩, 18) := ⟨⟨by decide +kernel, by decide +kernel⟩, List.mem_of_getElem? (i := 633) (by decide +kernel), List.mem_of_getElem? (i := 710) (by decide +kernel), List.mem_of_getElem? (i := 711) (by decide +kernel)⟩
theorem lw_p11 : lw_okq (⟨"LightHoursModel", "lightOf", "(IIZ)I"⟩, 18) := ⟨⟨by decide +kernel, by decide +kernel⟩, List.mem_of_getElem? (i := 633) (by decide +kernel), List.mem_of_getElem? (i := 721) (by decide +kernel), List.mem_of_getElem? (i := 722) (by decide +kernel)⟩
theorem lw_p12 : lw_okq (⟨"LightHoursModel", "sisterOf", "(I)I"⟩, 18) := ⟨⟨by decide +kernel, by decide +kernel⟩, List.mem_of_getElem? (i := 633) (by decide +kernel), List.mem_of_getElem? (i := 733) (by decide +kernel), List.mem_of_getElem? (i := 734) (by decide +kernel)⟩
theorem lw_p13 : lw_okq (⟨"LightHoursModel", "findPast", "(I)V"⟩, 18) := ⟨⟨by decide +kernel, by decide +kernel⟩, List.mem_of_getElem? (i := 633) (by decide +kernel), List.mem_of_getElem? (i := 745) (by decide +kernel), List.mem_of_getElem? (i := 746) (by decide +kernel)⟩
theorem lw_p14 : lw_okq (⟨"LightHoursModel", "booked", "(IIZ)I"⟩, 18) := ⟨⟨by decide +kernel, by decide +kernel⟩, List.mem_of_getElem? (i := 633) (by decide +kernel), List.mem_of_getElem? (i := 749) (by decide +kernel), List.mem_of_getElem? (i := 750) (by decide +kernel)⟩
theorem lw_p15 : lw_okq (⟨"LightHoursModel", "isHere", "(II)Z"⟩, 18) := ⟨⟨by decide +kernel, by decide +kernel⟩, List.mem_of_getElem? (i := 633) (by decide +kernel), List.mem_of_getElem? (i := 753) (by decide +kernel), List.mem_of_getElem? (i := 754) (by decide +kernel)⟩
def lw_privs_1 : List (MethodName × Nat) := [(⟨"LightHours", "changed", "(I)I"⟩, 4), (⟨"LightHours$Ledger", "sumSpends", "()V"⟩, 7), (⟨"LightHours$Ledger", "narrowPast", "()V"⟩, 7), (⟨"LightHours$Bookings", "add", "(IIII)I"⟩, 6), (⟨"LightHours$Hanging", "prepare", "()V"⟩, 10), (⟨"LightHours$Hanging", "sheetsFor", "(I)I"⟩, 10), (⟨"LightHours$Hanging", "shownTooNear", "(II)Z"⟩, 10), (⟨"LightHours$Hanging", "takeIfBetter", "(I)V"⟩, 10), (⟨"LightHours$Hanging", "fits", "(II)Z"⟩, 10), (⟨"LightHoursModel", "came", "(I)I"⟩, 18), (⟨"LightHoursModel", "is", "(II)Z"⟩, 18), (⟨"LightHoursModel", "lightOf", "(IIZ)I"⟩, 18), (⟨"LightHoursModel", "sisterOf", "(I)I"⟩, 18), (⟨"LightHoursModel", "findPast", "(I)V"⟩, 18), (⟨"LightHoursModel", "booked", "(IIZ)I"⟩, 18), (⟨"LightHoursModel", "isHere", "(II)Z"⟩, 18)]
theorem lw_r1 : ∀ q ∈ lw_privs_1, lw_okq q := List.forall_mem_cons.mpr ⟨lw_p0, List.forall_mem_cons.mpr ⟨lw_p1, List.forall_mem_cons.mpr ⟨lw_p2, List.forall_mem_cons.mpr ⟨lw_p3, List.forall_mem_cons.mpr ⟨lw_p4, List.forall_mem_cons.mpr ⟨lw_p5, List.forall_mem_cons.mpr ⟨lw_p6, List.forall_mem_cons.mpr ⟨lw_p7, List.forall_mem_cons.mpr ⟨lw_p8, List.forall_mem_cons.mpr ⟨lw_p9, List.forall_mem_cons.mpr ⟨lw_p10, List.forall_mem_cons.mpr ⟨lw_p11, List.forall_mem_cons.mpr ⟨lw_p12, List.forall_mem_cons.mpr ⟨lw_p13, List.forall_mem_cons.mpr ⟨lw_p14, List.forall_mem_cons.mpr ⟨lw_p15, fun _ h => absurd h List.not_mem_nil⟩⟩⟩⟩⟩⟩⟩⟩⟩⟩⟩⟩⟩⟩⟩⟩
theorem lw_p16 : lw_okq (⟨"LightHoursModel", "spends", "(IZ)I"⟩, 18) := ⟨⟨by decide +kernel, by decide +kernel⟩, List.mem_of_getElem? (i := 633) (by decide +kernel), List.mem_of_getElem? (i := 757) (by decide +kernel), List.mem_of_getElem? (i := 758) (by decide +kernel)⟩
theorem lw_p17 : lw_okq (⟨"LightHoursModel", "bookedMany", "(I)I"⟩, 18) := ⟨⟨by decide +kernel, by decide +kernel⟩, List.mem_of_getElem? (i := 633) (by decide +kernel), List.mem_of_getElem? (i := 761) (by decide +kernel), List.mem_of_getElem? (i := 762) (by decide +kernel)⟩
theorem lw_p18 : lw_okq (⟨"LightHoursModel", "threadMany", "(I)I"⟩, 18) := ⟨⟨by decide +kernel, by decide +kernel⟩, List.mem_of_getElem? (i := 633) (by decide +kernel), List.mem_of_getElem? (i := 765) (by decide +kernel), List.mem_of_getElem? (i := 766) (by decide +kernel)⟩
theorem lw_p19 : lw_okq (⟨"LightHoursModel", "isShown", "(II)Z"⟩, 18) := ⟨⟨by decide +kernel, by decide +kernel⟩, List.mem_of_getElem? (i := 633) (by decide +kernel), List.mem_of_getElem? (i := 773) (by decide +kernel), List.mem_of_getElem? (i := 774) (by decide +kernel)⟩
theorem lw_p20 : lw_okq (⟨"LightHoursModel", "books", "(IIII)I"⟩, 18) := ⟨⟨by decide +kernel, by decide +kernel⟩, List.mem_of_getElem? (i := 633) (by decide +kernel), List.mem_of_getElem? (i := 777) (by decide +kernel), List.mem_of_getElem? (i := 778) (by decide +kernel)⟩
theorem lw_p21 : lw_okq (⟨"LightHoursModel", "leastLeft", "(I)I"⟩, 18) := ⟨⟨by decide +kernel, by decide +kernel⟩, List.mem_of_getElem? (i := 633) (by decide +kernel), List.mem_of_getElem? (i := 785) (by decide +kernel), List.mem_of_getElem? (i := 786) (by decide +kernel)⟩
theorem lw_p22 : lw_okq (⟨"LightHoursModel", "spentOf", "(IIZ)I"⟩, 18) := ⟨⟨by decide +kernel, by decide +kernel⟩, List.mem_of_getElem? (i := 633) (by decide +kernel), List.mem_of_getElem? (i := 789) (by decide +kernel), List.mem_of_getElem? (i := 790) (by decide +kernel)⟩
theorem lw_p23 : lw_okq (⟨"LightHoursModel", "findHang", "()V"⟩, 18) := ⟨⟨by decide +kernel, by decide +kernel⟩, List.mem_of_getElem? (i := 633) (by decide +kernel), List.mem_of_getElem? (i := 842) (by decide +kernel), List.mem_of_getElem? (i := 843) (by decide +kernel)⟩
theorem lw_p24 : lw_okq (⟨"LightHoursModel", "takes", "()V"⟩, 18) := ⟨⟨by decide +kernel, by decide +kernel⟩, List.mem_of_getElem? (i := 633) (by decide +kernel), List.mem_of_getElem? (i := 846) (by decide +kernel), List.mem_of_getElem? (i := 847) (by decide +kernel)⟩
theorem lw_p25 : lw_okq (⟨"LightHoursModel", "valueOf", "(I)I"⟩, 18) := ⟨⟨by decide +kernel, by decide +kernel⟩, List.mem_of_getElem? (i := 633) (by decide +kernel), List.mem_of_getElem? (i := 850) (by decide +kernel), List.mem_of_getElem? (i := 851) (by decide +kernel)⟩
theorem lw_p26 : lw_okq (⟨"LightHoursModel", "fits", "(I)Z"⟩, 18) := ⟨⟨by decide +kernel, by decide +kernel⟩, List.mem_of_getElem? (i := 633) (by decide +kernel), List.mem_of_getElem? (i := 854) (by decide +kernel), List.mem_of_getElem? (i := 855) (by decide +kernel)⟩
theorem lw_p27 : lw_okq (⟨"LightHoursModel", "rests", "(II)Z"⟩, 18) := ⟨⟨by decide +kernel, by decide +kernel⟩, List.mem_of_getElem? (i := 633) (by decide +kernel), List.mem_of_getElem? (i := 858) (by decide +kernel), List.mem_of_getElem? (i := 859) (by decide +kernel)⟩
theorem lw_p28 : lw_okq (⟨"LightHoursModel", "cancelled", "()I"⟩, 18) := ⟨⟨by decide +kernel, by decide +kernel⟩, List.mem_of_getElem? (i := 633) (by decide +kernel), List.mem_of_getElem? (i := 881) (by decide +kernel), List.mem_of_getElem? (i := 882) (by decide +kernel)⟩
theorem lw_p29 : lw_okq (⟨"LightHoursModel", "quarrels", "()I"⟩, 18) := ⟨⟨by decide +kernel, by decide +kernel⟩, List.mem_of_getElem? (i := 633) (by decide +kernel), List.mem_of_getElem? (i := 885) (by decide +kernel), List.mem_of_getElem? (i := 886) (by decide +kernel)⟩
theorem lw_p30 : lw_okq (⟨"LightHoursModel", "overspent", "()I"⟩, 18) := ⟨⟨by decide +kernel, by decide +kernel⟩, List.mem_of_getElem? (i := 633) (by decide +kernel), List.mem_of_getElem? (i := 890) (by decide +kernel), List.mem_of_getElem? (i := 891) (by decide +kernel)⟩
theorem lw_p31 : lw_okq (⟨"LightHoursModel", "readMany", "()I"⟩, 18) := ⟨⟨by decide +kernel, by decide +kernel⟩, List.mem_of_getElem? (i := 633) (by decide +kernel), List.mem_of_getElem? (i := 894) (by decide +kernel), List.mem_of_getElem? (i := 895) (by decide +kernel)⟩
def lw_privs_2 : List (MethodName × Nat) := [(⟨"LightHoursModel", "spends", "(IZ)I"⟩, 18), (⟨"LightHoursModel", "bookedMany", "(I)I"⟩, 18), (⟨"LightHoursModel", "threadMany", "(I)I"⟩, 18), (⟨"LightHoursModel", "isShown", "(II)Z"⟩, 18), (⟨"LightHoursModel", "books", "(IIII)I"⟩, 18), (⟨"LightHoursModel", "leastLeft", "(I)I"⟩, 18), (⟨"LightHoursModel", "spentOf", "(IIZ)I"⟩, 18), (⟨"LightHoursModel", "findHang", "()V"⟩, 18), (⟨"LightHoursModel", "takes", "()V"⟩, 18), (⟨"LightHoursModel", "valueOf", "(I)I"⟩, 18), (⟨"LightHoursModel", "fits", "(I)Z"⟩, 18), (⟨"LightHoursModel", "rests", "(II)Z"⟩, 18), (⟨"LightHoursModel", "cancelled", "()I"⟩, 18), (⟨"LightHoursModel", "quarrels", "()I"⟩, 18), (⟨"LightHoursModel", "overspent", "()I"⟩, 18), (⟨"LightHoursModel", "readMany", "()I"⟩, 18)]
theorem lw_r2 : ∀ q ∈ lw_privs_2, lw_okq q := List.forall_mem_cons.mpr ⟨lw_p16, List.forall_mem_cons.mpr ⟨lw_p17, List.forall_mem_cons.mpr ⟨lw_p18, List.forall_mem_cons.mpr ⟨lw_p19, List.forall_mem_cons.mpr ⟨lw_p20, List.forall_mem_cons.mpr ⟨lw_p21, List.forall_mem_cons.mpr ⟨lw_p22, List.forall_mem_cons.mpr ⟨lw_p23, List.forall_mem_cons.mpr ⟨lw_p24, List.forall_mem_cons.mpr ⟨lw_p25, List.forall_mem_cons.mpr ⟨lw_p26, List.forall_mem_cons.mpr ⟨lw_p27, List.forall_mem_cons.mpr ⟨lw_p28, List.forall_mem_cons.mpr ⟨lw_p29, List.forall_mem_cons.mpr ⟨lw_p30, List.forall_mem_cons.mpr ⟨lw_p31, fun _ h => absurd h List.not_mem_nil⟩⟩⟩⟩⟩⟩⟩⟩⟩⟩⟩⟩⟩⟩⟩⟩
theorem lw_p32 : lw_okq (⟨"LightHoursModel", "moveAll", "(Z)V"⟩, 18) := ⟨⟨by decide +kernel, by decide +kernel⟩, List.mem_of_getElem? (i := 633) (by decide +kernel), List.mem_of_getElem? (i := 902) (by decide +kernel), List.mem_of_getElem? (i := 903) (by decide +kernel)⟩
theorem lw_p33 : lw_okq (⟨"LightHoursModel", "move", "([IIZ)V"⟩, 18) := ⟨⟨by decide +kernel, by decide +kernel⟩, List.mem_of_getElem? (i := 633) (by decide +kernel), List.mem_of_getElem? (i := 906) (by decide +kernel), List.mem_of_getElem? (i := 907) (by decide +kernel)⟩
def lw_privs_3 : List (MethodName × Nat) := [(⟨"LightHoursModel", "moveAll", "(Z)V"⟩, 18), (⟨"LightHoursModel", "move", "([IIZ)V"⟩, 18)]
theorem lw_r3 : ∀ q ∈ lw_privs_3, lw_okq q := List.forall_mem_cons.mpr ⟨lw_p32, List.forall_mem_cons.mpr ⟨lw_p33, fun _ h => absurd h List.not_mem_nil⟩⟩
def lw_privs : List (MethodName × Nat) := lw_privs_1 ++ (lw_privs_2 ++ (lw_privs_3))
def lw_tbl : List Cond := k2_sels lw_privs ++ tables_1
theorem lw_privs_ok : ∀ q ∈ lw_privs, lw_okq q := by
  show ∀ q ∈ lw_privs_1 ++ (lw_privs_2 ++ (lw_privs_3)), lw_okq q
  exact List.forall_mem_append.mpr ⟨lw_r1, List.forall_mem_append.mpr ⟨lw_r2, lw_r3⟩⟩
def RX0 : String := "LightHours$Bookings"
def TX0 : u_T := fun k => match k with
  | 0 => ("LightHours$Bookings", "count", "I", false)
  | 1 => ("LightHours$Bookings", "sheet", "[I", true)
  | 2 => ("LightHours$Bookings", "room", "[I", true)
  | 3 => ("LightHours$Bookings", "year", "[I", true)
  | 4 => ("LightHours$Bookings", "amount", "[I", true)
  | _ => ("LightHours$Bookings", "cancelled", "[Z", true)
def tyX0 : Nat → FieldType := fun k => match k with
  | 0 => .int
  | 1 => .array .int
  | 2 => .array .int
  | 3 => .array .int
  | 4 => .array .int
  | _ => .array .boolean
abbrev wsX00 : List Cond := u_ws RX0 TX0 6
theorem nmX0 : ∀ a, a < 6 → ∀ b, b < 6 → a ≠ b → (TX0 a).2.1 ≠ (TX0 b).2.1 := by decide +kernel
theorem tyX0_ok : ∀ k, k < 6 → parseFieldDescriptor (TX0 k).2.2.1 = some (tyX0 k) := by decide +kernel
abbrev cX0_init : ByteArray := prog_2_method_1_code
def yX0_init : MethodName := ⟨RX0, "<init>", "()V"⟩
abbrev cX0_has : ByteArray := prog_2_method_2_code
def yX0_has : MethodName := ⟨RX0, "has", "(I)Z"⟩
abbrev cX0_addShow : ByteArray := prog_2_method_3_code
def yX0_addShow : MethodName := ⟨RX0, "addShow", "(III)I"⟩
abbrev cX0_addLoan : ByteArray := prog_2_method_4_code
def yX0_addLoan : MethodName := ⟨RX0, "addLoan", "(III)I"⟩
abbrev cX0_add : ByteArray := prog_2_method_5_code
def yX0_add : MethodName := ⟨RX0, "add", "(IIII)I"⟩
abbrev cX0_isLoan : ByteArray := prog_2_method_6_code
def yX0_isLoan : MethodName := ⟨RX0, "isLoan", "(I)Z"⟩
abbrev cX0_standsFor : ByteArray := prog_2_method_7_code
def yX0_standsFor : MethodName := ⟨RX0, "standsFor", "(II)Z"⟩
abbrev cX0_shownWithin : ByteArray := prog_2_method_8_code
def yX0_shownWithin : MethodName := ⟨RX0, "shownWithin", "(III)Z"⟩
abbrev cX0_countOf : ByteArray := prog_2_method_9_code
def yX0_countOf : MethodName := ⟨RX0, "countOf", "(I)I"⟩
abbrev cX0_countCancelled : ByteArray := prog_2_method_10_code
def yX0_countCancelled : MethodName := ⟨RX0, "countCancelled", "()I"⟩
abbrev cX0_copyFrom : ByteArray := prog_2_method_11_code
def yX0_copyFrom : MethodName := ⟨RX0, "copyFrom", "(LLightHours$Bookings;)V"⟩
def RX1 : String := "LightHours$Hanging"
def TX1 : u_T := fun k => match k with
  | 0 => ("LightHours$Hanging", "house", "LLightHours$House;", true)
  | 1 => ("LightHours$Hanging", "ledger", "LLightHours$Ledger;", true)
  | 2 => ("LightHours$Hanging", "known", "Z", false)
  | 3 => ("LightHours$Hanging", "best", "[I", true)
  | 4 => ("LightHours$Hanging", "bestWorth", "I", false)
  | 5 => ("LightHours$Hanging", "trial", "[I", true)
  | 6 => ("LightHours$Hanging", "may", "[I", true)
  | 7 => ("LightHours$Hanging", "light", "[I", true)
  | 8 => ("LightHours$Hanging", "bound", "[I", true)
  | _ => ("LightHours$Hanging", "spare", "[I", true)
def tyX1 : Nat → FieldType := fun k => match k with
  | 0 => .object "LightHours$House"
  | 1 => .object "LightHours$Ledger"
  | 2 => .boolean
  | 3 => .array .int
  | 4 => .int
  | 5 => .array .int
  | 6 => .array .int
  | 7 => .array .int
  | 8 => .array .int
  | _ => .array .int
abbrev wsX10 : List Cond := u_ws RX1 TX1 10
theorem nmX1 : ∀ a, a < 10 → ∀ b, b < 10 → a ≠ b → (TX1 a).2.1 ≠ (TX1 b).2.1 := by decide +kernel
theorem tyX1_ok : ∀ k, k < 10 → parseFieldDescriptor (TX1 k).2.2.1 = some (tyX1 k) := by decide +kernel
abbrev cX1_init : ByteArray := prog_3_method_1_code
def yX1_init : MethodName := ⟨RX1, "<init>", "(LLightHours$House;LLightHours$Ledger;)V"⟩
abbrev cX1_forget : ByteArray := prog_3_method_2_code
def yX1_forget : MethodName := ⟨RX1, "forget", "()V"⟩
abbrev cX1_find : ByteArray := prog_3_method_3_code
def yX1_find : MethodName := ⟨RX1, "find", "()V"⟩
abbrev cX1_prepare : ByteArray := prog_3_method_4_code
def yX1_prepare : MethodName := ⟨RX1, "prepare", "()V"⟩
abbrev cX1_sheetsFor : ByteArray := prog_3_method_5_code
def yX1_sheetsFor : MethodName := ⟨RX1, "sheetsFor", "(I)I"⟩
abbrev cX1_shownTooNear : ByteArray := prog_3_method_6_code
def yX1_shownTooNear : MethodName := ⟨RX1, "shownTooNear", "(II)Z"⟩
abbrev cX1_place : ByteArray := prog_3_method_7_code
def yX1_place : MethodName := ⟨RX1, "place", "(LLightHours$Hanging;II)V"⟩
abbrev cX1_takeIfBetter : ByteArray := prog_3_method_8_code
def yX1_takeIfBetter : MethodName := ⟨RX1, "takeIfBetter", "(I)V"⟩
abbrev cX1_fits : ByteArray := prog_3_method_9_code
def yX1_fits : MethodName := ⟨RX1, "fits", "(II)Z"⟩
abbrev cX1_countHung : ByteArray := prog_3_method_10_code
def yX1_countHung : MethodName := ⟨RX1, "countHung", "()I"⟩
abbrev cX1_lightOn : ByteArray := prog_3_method_11_code
def yX1_lightOn : MethodName := ⟨RX1, "lightOn", "(I)I"⟩
def RX2 : String := "LightHours$House"
def TX2 : u_T := fun k => match k with
  | 0 => ("LightHours$House", "rooms", "LLightHours$Rooms;", true)
  | 1 => ("LightHours$House", "sheets", "LLightHours$Sheets;", true)
  | 2 => ("LightHours$House", "bookings", "LLightHours$Bookings;", true)
  | 3 => ("LightHours$House", "threads", "LLightHours$Threads;", true)
  | _ => ("LightHours$House", "walls", "LLightHours$Walls;", true)
def tyX2 : Nat → FieldType := fun k => match k with
  | 0 => .object "LightHours$Rooms"
  | 1 => .object "LightHours$Sheets"
  | 2 => .object "LightHours$Bookings"
  | 3 => .object "LightHours$Threads"
  | _ => .object "LightHours$Walls"
abbrev wsX20 : List Cond := u_ws RX2 TX2 5
theorem nmX2 : ∀ a, a < 5 → ∀ b, b < 5 → a ≠ b → (TX2 a).2.1 ≠ (TX2 b).2.1 := by decide +kernel
theorem tyX2_ok : ∀ k, k < 5 → parseFieldDescriptor (TX2 k).2.2.1 = some (tyX2 k) := by decide +kernel
abbrev cX2_init : ByteArray := prog_4_method_1_code
def yX2_init : MethodName := ⟨RX2, "<init>", "()V"⟩
abbrev cX2_spendEnd : ByteArray := prog_4_method_2_code
def yX2_spendEnd : MethodName := ⟨RX2, "spendEnd", "(IZ)I"⟩
abbrev cX2_copyFrom : ByteArray := prog_4_method_3_code
def yX2_copyFrom : MethodName := ⟨RX2, "copyFrom", "(LLightHours$House;)V"⟩
def RX3 : String := "LightHours$Ledger"
def TX3 : u_T := fun k => match k with
  | 0 => ("LightHours$Ledger", "house", "LLightHours$House;", true)
  | 1 => ("LightHours$Ledger", "sheet", "I", false)
  | 2 => ("LightHours$Ledger", "quarrels", "Z", false)
  | 3 => ("LightHours$Ledger", "pastLeast", "I", false)
  | 4 => ("LightHours$Ledger", "pastGreatest", "I", false)
  | 5 => ("LightHours$Ledger", "spendsLeast", "[I", true)
  | _ => ("LightHours$Ledger", "spendsGreatest", "[I", true)
def tyX3 : Nat → FieldType := fun k => match k with
  | 0 => .object "LightHours$House"
  | 1 => .int
  | 2 => .boolean
  | 3 => .int
  | 4 => .int
  | 5 => .array .int
  | _ => .array .int
abbrev wsX30 : List Cond := u_ws RX3 TX3 7
theorem nmX3 : ∀ a, a < 7 → ∀ b, b < 7 → a ≠ b → (TX3 a).2.1 ≠ (TX3 b).2.1 := by decide +kernel
theorem tyX3_ok : ∀ k, k < 7 → parseFieldDescriptor (TX3 k).2.2.1 = some (tyX3 k) := by decide +kernel
abbrev cX3_init : ByteArray := prog_5_method_1_code
def yX3_init : MethodName := ⟨RX3, "<init>", "(LLightHours$House;)V"⟩
abbrev cX3_openAt : ByteArray := prog_5_method_2_code
def yX3_openAt : MethodName := ⟨RX3, "openAt", "(I)LLightHours$Ledger;"⟩
abbrev cX3_sumSpends : ByteArray := prog_5_method_3_code
def yX3_sumSpends : MethodName := ⟨RX3, "sumSpends", "()V"⟩
abbrev cX3_narrowPast : ByteArray := prog_5_method_4_code
def yX3_narrowPast : MethodName := ⟨RX3, "narrowPast", "()V"⟩
abbrev cX3_pastEnd : ByteArray := prog_5_method_5_code
def yX3_pastEnd : MethodName := ⟨RX3, "pastEnd", "(Z)I"⟩
abbrev cX3_spentEnd : ByteArray := prog_5_method_6_code
def yX3_spentEnd : MethodName := ⟨RX3, "spentEnd", "(IZ)I"⟩
abbrev cX3_leftEnd : ByteArray := prog_5_method_7_code
def yX3_leftEnd : MethodName := ⟨RX3, "leftEnd", "(Z)I"⟩
abbrev cX3_countQuarrels : ByteArray := prog_5_method_8_code
def yX3_countQuarrels : MethodName := ⟨RX3, "countQuarrels", "()I"⟩
abbrev cX3_countOverspent : ByteArray := prog_5_method_9_code
def yX3_countOverspent : MethodName := ⟨RX3, "countOverspent", "()I"⟩
def RX4 : String := "LightHours$Rooms"
def TX4 : u_T := fun k => match k with
  | 0 => ("LightHours$Rooms", "count", "I", false)
  | 1 => ("LightHours$Rooms", "worst", "[I", true)
  | _ => ("LightHours$Rooms", "readings", "[I", true)
def tyX4 : Nat → FieldType := fun k => match k with
  | 0 => .int
  | 1 => .array .int
  | _ => .array .int
abbrev wsX40 : List Cond := u_ws RX4 TX4 3
theorem nmX4 : ∀ a, a < 3 → ∀ b, b < 3 → a ≠ b → (TX4 a).2.1 ≠ (TX4 b).2.1 := by decide +kernel
theorem tyX4_ok : ∀ k, k < 3 → parseFieldDescriptor (TX4 k).2.2.1 = some (tyX4 k) := by decide +kernel
abbrev cX4_init : ByteArray := prog_6_method_1_code
def yX4_init : MethodName := ⟨RX4, "<init>", "()V"⟩
abbrev cX4_has : ByteArray := prog_6_method_2_code
def yX4_has : MethodName := ⟨RX4, "has", "(I)Z"⟩
abbrev cX4_add : ByteArray := prog_6_method_3_code
def yX4_add : MethodName := ⟨RX4, "add", "(I)I"⟩
abbrev cX4_read : ByteArray := prog_6_method_4_code
def yX4_read : MethodName := ⟨RX4, "read", "(III)V"⟩
abbrev cX4_lightEnd : ByteArray := prog_6_method_5_code
def yX4_lightEnd : MethodName := ⟨RX4, "lightEnd", "(IIZ)I"⟩
abbrev cX4_countReadings : ByteArray := prog_6_method_6_code
def yX4_countReadings : MethodName := ⟨RX4, "countReadings", "()I"⟩
abbrev cX4_copyFrom : ByteArray := prog_6_method_7_code
def yX4_copyFrom : MethodName := ⟨RX4, "copyFrom", "(LLightHours$Rooms;)V"⟩
def RX5 : String := "LightHours$Sheets"
def TX5 : u_T := fun k => match k with
  | 0 => ("LightHours$Sheets", "count", "I", false)
  | 1 => ("LightHours$Sheets", "limit", "[I", true)
  | 2 => ("LightHours$Sheets", "themes", "[I", true)
  | 3 => ("LightHours$Sheets", "value", "[I", true)
  | 4 => ("LightHours$Sheets", "rest", "[I", true)
  | 5 => ("LightHours$Sheets", "sister", "[I", true)
  | 6 => ("LightHours$Sheets", "toldLeast", "[I", true)
  | _ => ("LightHours$Sheets", "toldGreatest", "[I", true)
def tyX5 : Nat → FieldType := fun k => match k with
  | 0 => .int
  | 1 => .array .int
  | 2 => .array .int
  | 3 => .array .int
  | 4 => .array .int
  | 5 => .array .int
  | 6 => .array .int
  | _ => .array .int
abbrev wsX50 : List Cond := u_ws RX5 TX5 8
theorem nmX5 : ∀ a, a < 8 → ∀ b, b < 8 → a ≠ b → (TX5 a).2.1 ≠ (TX5 b).2.1 := by decide +kernel
theorem tyX5_ok : ∀ k, k < 8 → parseFieldDescriptor (TX5 k).2.2.1 = some (tyX5 k) := by decide +kernel
abbrev cX5_init : ByteArray := prog_7_method_1_code
def yX5_init : MethodName := ⟨RX5, "<init>", "()V"⟩
abbrev cX5_has : ByteArray := prog_7_method_2_code
def yX5_has : MethodName := ⟨RX5, "has", "(I)Z"⟩
abbrev cX5_add : ByteArray := prog_7_method_3_code
def yX5_add : MethodName := ⟨RX5, "add", "(IIII)I"⟩
abbrev cX5_hasTheme : ByteArray := prog_7_method_4_code
def yX5_hasTheme : MethodName := ⟨RX5, "hasTheme", "(II)Z"⟩
abbrev cX5_copyFrom : ByteArray := prog_7_method_5_code
def yX5_copyFrom : MethodName := ⟨RX5, "copyFrom", "(LLightHours$Sheets;)V"⟩
def RX6 : String := "LightHours$Threads"
def TX6 : u_T := fun k => match k with
  | 0 => ("LightHours$Threads", "count", "I", false)
  | 1 => ("LightHours$Threads", "sheet", "[I", true)
  | 2 => ("LightHours$Threads", "year", "[I", true)
  | _ => ("LightHours$Threads", "step", "[I", true)
def tyX6 : Nat → FieldType := fun k => match k with
  | 0 => .int
  | 1 => .array .int
  | 2 => .array .int
  | _ => .array .int
abbrev wsX60 : List Cond := u_ws RX6 TX6 4
theorem nmX6 : ∀ a, a < 4 → ∀ b, b < 4 → a ≠ b → (TX6 a).2.1 ≠ (TX6 b).2.1 := by decide +kernel
theorem tyX6_ok : ∀ k, k < 4 → parseFieldDescriptor (TX6 k).2.2.1 = some (tyX6 k) := by decide +kernel
abbrev cX6_init : ByteArray := prog_8_method_1_code
def yX6_init : MethodName := ⟨RX6, "<init>", "()V"⟩
abbrev cX6_add : ByteArray := prog_8_method_2_code
def yX6_add : MethodName := ⟨RX6, "add", "(III)I"⟩
abbrev cX6_countOf : ByteArray := prog_8_method_3_code
def yX6_countOf : MethodName := ⟨RX6, "countOf", "(I)I"⟩
abbrev cX6_copyFrom : ByteArray := prog_8_method_4_code
def yX6_copyFrom : MethodName := ⟨RX6, "copyFrom", "(LLightHours$Threads;)V"⟩
def RX7 : String := "LightHours$Walls"
def TX7 : u_T := fun k => match k with
  | 0 => ("LightHours$Walls", "count", "I", false)
  | 1 => ("LightHours$Walls", "room", "[I", true)
  | 2 => ("LightHours$Walls", "year", "[I", true)
  | _ => ("LightHours$Walls", "theme", "[I", true)
def tyX7 : Nat → FieldType := fun k => match k with
  | 0 => .int
  | 1 => .array .int
  | 2 => .array .int
  | _ => .array .int
abbrev wsX70 : List Cond := u_ws RX7 TX7 4
theorem nmX7 : ∀ a, a < 4 → ∀ b, b < 4 → a ≠ b → (TX7 a).2.1 ≠ (TX7 b).2.1 := by decide +kernel
theorem tyX7_ok : ∀ k, k < 4 → parseFieldDescriptor (TX7 k).2.2.1 = some (tyX7 k) := by decide +kernel
abbrev cX7_init : ByteArray := prog_9_method_1_code
def yX7_init : MethodName := ⟨RX7, "<init>", "()V"⟩
abbrev cX7_has : ByteArray := prog_9_method_2_code
def yX7_has : MethodName := ⟨RX7, "has", "(I)Z"⟩
abbrev cX7_add : ByteArray := prog_9_method_3_code
def yX7_add : MethodName := ⟨RX7, "add", "(III)I"⟩
abbrev cX7_copyFrom : ByteArray := prog_9_method_4_code
def yX7_copyFrom : MethodName := ⟨RX7, "copyFrom", "(LLightHours$Walls;)V"⟩
def RX8 : String := "LightHours"
def TX8 : u_T := fun k => match k with
  | 0 => ("LightHours", "house", "LLightHours$House;", true)
  | 1 => ("LightHours", "ledger", "LLightHours$Ledger;", true)
  | 2 => ("LightHours", "hanging", "LLightHours$Hanging;", true)
  | _ => ("LightHours", "kept", "LLightHours$House;", false)
def tyX8 : Nat → FieldType := fun k => match k with
  | 0 => .object "LightHours$House"
  | 1 => .object "LightHours$Ledger"
  | 2 => .object "LightHours$Hanging"
  | _ => .object "LightHours$House"
abbrev wsX80 : List Cond := u_ws RX8 TX8 4
theorem nmX8 : ∀ a, a < 4 → ∀ b, b < 4 → a ≠ b → (TX8 a).2.1 ≠ (TX8 b).2.1 := by decide +kernel
theorem tyX8_ok : ∀ k, k < 4 → parseFieldDescriptor (TX8 k).2.2.1 = some (tyX8 k) := by decide +kernel
abbrev cX8_init : ByteArray := prog_1_method_1_code
def yX8_init : MethodName := ⟨RX8, "<init>", "()V"⟩
abbrev cX8_room : ByteArray := prog_1_method_2_code
def yX8_room : MethodName := ⟨RX8, "room", "(I)I"⟩
abbrev cX8_reading : ByteArray := prog_1_method_3_code
def yX8_reading : MethodName := ⟨RX8, "reading", "(III)I"⟩
abbrev cX8_light : ByteArray := prog_1_method_4_code
def yX8_light : MethodName := ⟨RX8, "light", "(IIZ)I"⟩
abbrev cX8_sheet : ByteArray := prog_1_method_5_code
def yX8_sheet : MethodName := ⟨RX8, "sheet", "(IIII)I"⟩
abbrev cX8_sisters : ByteArray := prog_1_method_6_code
def yX8_sisters : MethodName := ⟨RX8, "sisters", "(II)I"⟩
abbrev cX8_past : ByteArray := prog_1_method_7_code
def yX8_past : MethodName := ⟨RX8, "past", "(III)I"⟩
abbrev cX8_of : ByteArray := prog_1_method_8_code
def yX8_of : MethodName := ⟨RX8, "of", "(II)I"⟩
abbrev cX8_show : ByteArray := prog_1_method_9_code
def yX8_show : MethodName := ⟨RX8, "show", "(III)I"⟩
abbrev cX8_lend : ByteArray := prog_1_method_10_code
def yX8_lend : MethodName := ⟨RX8, "lend", "(III)I"⟩
abbrev cX8_lacks : ByteArray := prog_1_method_11_code
def yX8_lacks : MethodName := ⟨RX8, "lacks", "(II)I"⟩
abbrev cX8_cancel : ByteArray := prog_1_method_12_code
def yX8_cancel : MethodName := ⟨RX8, "cancel", "(I)I"⟩
abbrev cX8_booking : ByteArray := prog_1_method_13_code
def yX8_booking : MethodName := ⟨RX8, "booking", "(II)I"⟩
abbrev cX8_thread : ByteArray := prog_1_method_14_code
def yX8_thread : MethodName := ⟨RX8, "thread", "(III)I"⟩
abbrev cX8_cut : ByteArray := prog_1_method_15_code
def yX8_cut : MethodName := ⟨RX8, "cut", "()I"⟩
abbrev cX8_pastOf : ByteArray := prog_1_method_16_code
def yX8_pastOf : MethodName := ⟨RX8, "pastOf", "(IZ)I"⟩
abbrev cX8_spent : ByteArray := prog_1_method_17_code
def yX8_spent : MethodName := ⟨RX8, "spent", "(IIZ)I"⟩
abbrev cX8_left : ByteArray := prog_1_method_18_code
def yX8_left : MethodName := ⟨RX8, "left", "(IZ)I"⟩
abbrev cX8_step : ByteArray := prog_1_method_19_code
def yX8_step : MethodName := ⟨RX8, "step", "(IIZ)I"⟩
abbrev cX8_wall : ByteArray := prog_1_method_20_code
def yX8_wall : MethodName := ⟨RX8, "wall", "(III)I"⟩
abbrev cX8_strip : ByteArray := prog_1_method_21_code
def yX8_strip : MethodName := ⟨RX8, "strip", "()I"⟩
abbrev cX8_hung : ByteArray := prog_1_method_22_code
def yX8_hung : MethodName := ⟨RX8, "hung", "(I)I"⟩
abbrev cX8_worth : ByteArray := prog_1_method_23_code
def yX8_worth : MethodName := ⟨RX8, "worth", "()I"⟩
abbrev cX8_spares : ByteArray := prog_1_method_24_code
def yX8_spares : MethodName := ⟨RX8, "spares", "(I)I"⟩
abbrev cX8_hang : ByteArray := prog_1_method_25_code
def yX8_hang : MethodName := ⟨RX8, "hang", "()I"⟩
abbrev cX8_many : ByteArray := prog_1_method_26_code
def yX8_many : MethodName := ⟨RX8, "many", "(I)I"⟩
abbrev cX8_keep : ByteArray := prog_1_method_27_code
def yX8_keep : MethodName := ⟨RX8, "keep", "()I"⟩
abbrev cX8_back : ByteArray := prog_1_method_28_code
def yX8_back : MethodName := ⟨RX8, "back", "()I"⟩
abbrev cX8_changed : ByteArray := prog_1_method_29_code
def yX8_changed : MethodName := ⟨RX8, "changed", "(I)I"⟩
abbrev cX8_within : ByteArray := prog_1_method_30_code
def yX8_within : MethodName := ⟨RX8, "within", "(III)Z"⟩
abbrev cX8_isYear : ByteArray := prog_1_method_31_code
def yX8_isYear : MethodName := ⟨RX8, "isYear", "(I)Z"⟩
abbrev cX8_stepOfAmount : ByteArray := prog_1_method_32_code
def yX8_stepOfAmount : MethodName := ⟨RX8, "stepOfAmount", "(I)I"⟩
abbrev cX8_copyRow : ByteArray := prog_1_method_33_code
def yX8_copyRow : MethodName := ⟨RX8, "copyRow", "([I[I)V"⟩
def RX9 : String := "LightHoursModel"
def TX9 : u_T := fun k => match k with
  | 0 => ("LightHoursModel", "many", "[I", true)
  | 1 => ("LightHoursModel", "worst", "[I", true)
  | 2 => ("LightHoursModel", "readings", "[I", true)
  | 3 => ("LightHoursModel", "sheets", "[I", true)
  | 4 => ("LightHoursModel", "bookings", "[I", true)
  | 5 => ("LightHoursModel", "threads", "[I", true)
  | 6 => ("LightHoursModel", "walls", "[I", true)
  | 7 => ("LightHoursModel", "steps", "[I", true)
  | 8 => ("LightHoursModel", "isKept", "Z", false)
  | 9 => ("LightHoursModel", "kept", "[I", true)
  | 10 => ("LightHoursModel", "from", "I", false)
  | 11 => ("LightHoursModel", "to", "I", false)
  | 12 => ("LightHoursModel", "quarrel", "Z", false)
  | 13 => ("LightHoursModel", "choice", "[I", true)
  | 14 => ("LightHoursModel", "best", "[I", true)
  | 15 => ("LightHoursModel", "lefts", "[I", true)
  | 16 => ("LightHoursModel", "bestWorth", "I", false)
  | _ => ("LightHoursModel", "place", "I", false)
def tyX9 : Nat → FieldType := fun k => match k with
  | 0 => .array .int
  | 1 => .array .int
  | 2 => .array .int
  | 3 => .array .int
  | 4 => .array .int
  | 5 => .array .int
  | 6 => .array .int
  | 7 => .array .int
  | 8 => .boolean
  | 9 => .array .int
  | 10 => .int
  | 11 => .int
  | 12 => .boolean
  | 13 => .array .int
  | 14 => .array .int
  | 15 => .array .int
  | 16 => .int
  | _ => .int
abbrev wsX90 : List Cond := u_ws RX9 TX9 18
theorem nmX9 : ∀ a, a < 18 → ∀ b, b < 18 → a ≠ b → (TX9 a).2.1 ≠ (TX9 b).2.1 := by decide +kernel
theorem tyX9_ok : ∀ k, k < 18 → parseFieldDescriptor (TX9 k).2.2.1 = some (tyX9 k) := by decide +kernel
abbrev cX9_init : ByteArray := prog_11_method_1_code
def yX9_init : MethodName := ⟨RX9, "<init>", "()V"⟩
abbrev cX9_in : ByteArray := prog_11_method_2_code
def yX9_in : MethodName := ⟨RX9, "in", "(III)Z"⟩
abbrev cX9_is : ByteArray := prog_11_method_3_code
def yX9_is : MethodName := ⟨RX9, "is", "(II)Z"⟩
abbrev cX9_isYear : ByteArray := prog_11_method_4_code
def yX9_isYear : MethodName := ⟨RX9, "isYear", "(I)Z"⟩
abbrev cX9_came : ByteArray := prog_11_method_5_code
def yX9_came : MethodName := ⟨RX9, "came", "(I)I"⟩
abbrev cX9_room : ByteArray := prog_11_method_6_code
def yX9_room : MethodName := ⟨RX9, "room", "(I)I"⟩
abbrev cX9_reading : ByteArray := prog_11_method_7_code
def yX9_reading : MethodName := ⟨RX9, "reading", "(III)I"⟩
abbrev cX9_lightOf : ByteArray := prog_11_method_8_code
def yX9_lightOf : MethodName := ⟨RX9, "lightOf", "(IIZ)I"⟩
abbrev cX9_light : ByteArray := prog_11_method_9_code
def yX9_light : MethodName := ⟨RX9, "light", "(IIZ)I"⟩
abbrev cX9_sheet : ByteArray := prog_11_method_10_code
def yX9_sheet : MethodName := ⟨RX9, "sheet", "(IIII)I"⟩
abbrev cX9_sisterOf : ByteArray := prog_11_method_11_code
def yX9_sisterOf : MethodName := ⟨RX9, "sisterOf", "(I)I"⟩
abbrev cX9_sisters : ByteArray := prog_11_method_12_code
def yX9_sisters : MethodName := ⟨RX9, "sisters", "(II)I"⟩
abbrev cX9_past : ByteArray := prog_11_method_13_code
def yX9_past : MethodName := ⟨RX9, "past", "(III)I"⟩
abbrev cX9_isHere : ByteArray := prog_11_method_14_code
def yX9_isHere : MethodName := ⟨RX9, "isHere", "(II)Z"⟩
abbrev cX9_spends : ByteArray := prog_11_method_15_code
def yX9_spends : MethodName := ⟨RX9, "spends", "(IZ)I"⟩
abbrev cX9_booked : ByteArray := prog_11_method_16_code
def yX9_booked : MethodName := ⟨RX9, "booked", "(IIZ)I"⟩
abbrev cX9_findPast : ByteArray := prog_11_method_17_code
def yX9_findPast : MethodName := ⟨RX9, "findPast", "(I)V"⟩
abbrev cX9_spentOf : ByteArray := prog_11_method_18_code
def yX9_spentOf : MethodName := ⟨RX9, "spentOf", "(IIZ)I"⟩
abbrev cX9_leastLeft : ByteArray := prog_11_method_19_code
def yX9_leastLeft : MethodName := ⟨RX9, "leastLeft", "(I)I"⟩
abbrev cX9_bookedMany : ByteArray := prog_11_method_20_code
def yX9_bookedMany : MethodName := ⟨RX9, "bookedMany", "(I)I"⟩
abbrev cX9_threadMany : ByteArray := prog_11_method_21_code
def yX9_threadMany : MethodName := ⟨RX9, "threadMany", "(I)I"⟩
abbrev cX9_of : ByteArray := prog_11_method_22_code
def yX9_of : MethodName := ⟨RX9, "of", "(II)I"⟩
abbrev cX9_books : ByteArray := prog_11_method_23_code
def yX9_books : MethodName := ⟨RX9, "books", "(IIII)I"⟩
abbrev cX9_isShown : ByteArray := prog_11_method_24_code
def yX9_isShown : MethodName := ⟨RX9, "isShown", "(II)Z"⟩
abbrev cX9_show : ByteArray := prog_11_method_25_code
def yX9_show : MethodName := ⟨RX9, "show", "(III)I"⟩
abbrev cX9_lend : ByteArray := prog_11_method_26_code
def yX9_lend : MethodName := ⟨RX9, "lend", "(III)I"⟩
abbrev cX9_lacks : ByteArray := prog_11_method_27_code
def yX9_lacks : MethodName := ⟨RX9, "lacks", "(II)I"⟩
abbrev cX9_cancel : ByteArray := prog_11_method_28_code
def yX9_cancel : MethodName := ⟨RX9, "cancel", "(I)I"⟩
abbrev cX9_booking : ByteArray := prog_11_method_29_code
def yX9_booking : MethodName := ⟨RX9, "booking", "(II)I"⟩
abbrev cX9_thread : ByteArray := prog_11_method_30_code
def yX9_thread : MethodName := ⟨RX9, "thread", "(III)I"⟩
abbrev cX9_cut : ByteArray := prog_11_method_31_code
def yX9_cut : MethodName := ⟨RX9, "cut", "()I"⟩
abbrev cX9_pastOf : ByteArray := prog_11_method_32_code
def yX9_pastOf : MethodName := ⟨RX9, "pastOf", "(IZ)I"⟩
abbrev cX9_spent : ByteArray := prog_11_method_33_code
def yX9_spent : MethodName := ⟨RX9, "spent", "(IIZ)I"⟩
abbrev cX9_left : ByteArray := prog_11_method_34_code
def yX9_left : MethodName := ⟨RX9, "left", "(IZ)I"⟩
abbrev cX9_step : ByteArray := prog_11_method_35_code
def yX9_step : MethodName := ⟨RX9, "step", "(IIZ)I"⟩
abbrev cX9_wall : ByteArray := prog_11_method_36_code
def yX9_wall : MethodName := ⟨RX9, "wall", "(III)I"⟩
abbrev cX9_strip : ByteArray := prog_11_method_37_code
def yX9_strip : MethodName := ⟨RX9, "strip", "()I"⟩
abbrev cX9_away : ByteArray := prog_11_method_38_code
def yX9_away : MethodName := ⟨RX9, "away", "(II)I"⟩
abbrev cX9_rests : ByteArray := prog_11_method_39_code
def yX9_rests : MethodName := ⟨RX9, "rests", "(II)Z"⟩
abbrev cX9_fits : ByteArray := prog_11_method_40_code
def yX9_fits : MethodName := ⟨RX9, "fits", "(I)Z"⟩
abbrev cX9_valueOf : ByteArray := prog_11_method_41_code
def yX9_valueOf : MethodName := ⟨RX9, "valueOf", "(I)I"⟩
abbrev cX9_findHang : ByteArray := prog_11_method_42_code
def yX9_findHang : MethodName := ⟨RX9, "findHang", "()V"⟩
abbrev cX9_takes : ByteArray := prog_11_method_43_code
def yX9_takes : MethodName := ⟨RX9, "takes", "()V"⟩
abbrev cX9_hung : ByteArray := prog_11_method_44_code
def yX9_hung : MethodName := ⟨RX9, "hung", "(I)I"⟩
abbrev cX9_worth : ByteArray := prog_11_method_45_code
def yX9_worth : MethodName := ⟨RX9, "worth", "()I"⟩
abbrev cX9_spares : ByteArray := prog_11_method_46_code
def yX9_spares : MethodName := ⟨RX9, "spares", "(I)I"⟩
abbrev cX9_hang : ByteArray := prog_11_method_47_code
def yX9_hang : MethodName := ⟨RX9, "hang", "()I"⟩
abbrev cX9_cancelled : ByteArray := prog_11_method_48_code
def yX9_cancelled : MethodName := ⟨RX9, "cancelled", "()I"⟩
abbrev cX9_quarrels : ByteArray := prog_11_method_49_code
def yX9_quarrels : MethodName := ⟨RX9, "quarrels", "()I"⟩
abbrev cX9_overspent : ByteArray := prog_11_method_50_code
def yX9_overspent : MethodName := ⟨RX9, "overspent", "()I"⟩
abbrev cX9_readMany : ByteArray := prog_11_method_51_code
def yX9_readMany : MethodName := ⟨RX9, "readMany", "()I"⟩
abbrev cX9_many : ByteArray := prog_11_method_52_code
def yX9_many : MethodName := ⟨RX9, "many", "(I)I"⟩
abbrev cX9_move : ByteArray := prog_11_method_53_code
def yX9_move : MethodName := ⟨RX9, "move", "([IIZ)V"⟩
abbrev cX9_moveAll : ByteArray := prog_11_method_54_code
def yX9_moveAll : MethodName := ⟨RX9, "moveAll", "(Z)V"⟩
abbrev cX9_keep : ByteArray := prog_11_method_55_code
def yX9_keep : MethodName := ⟨RX9, "keep", "()I"⟩
abbrev cX9_back : ByteArray := prog_11_method_56_code
def yX9_back : MethodName := ⟨RX9, "back", "()I"⟩
def RJ9 : String := "java/lang/Math"
def TJ9 : u_T := fun k => match k with
  | _ => ("", "", "", false)
def tyJ9 : Nat → FieldType := fun k => match k with
  | _ => .int
abbrev wsJ90 : List Cond := u_ws RJ9 TJ9 0
theorem nmJ9 : ∀ a, a < 0 → ∀ b, b < 0 → a ≠ b → (TJ9 a).2.1 ≠ (TJ9 b).2.1 := by decide +kernel
theorem tyJ9_ok : ∀ k, k < 0 → parseFieldDescriptor (TJ9 k).2.2.1 = some (tyJ9 k) := by decide +kernel
abbrev cJ9_abs_0f7a4 : ByteArray := prog_12_method_59_code
def yJ9_abs_0f7a4 : MethodName := ⟨RJ9, "abs", "(I)I"⟩
abbrev cJ9_max_7cf53 : ByteArray := prog_12_method_65_code
def yJ9_max_7cf53 : MethodName := ⟨RJ9, "max", "(II)I"⟩
abbrev cJ9_min_7cf53 : ByteArray := prog_12_method_69_code
def yJ9_min_7cf53 : MethodName := ⟨RJ9, "min", "(II)I"⟩
def RJ10 : String := "java/lang/System"
def TJ10 : u_T := fun k => match k with
  | _ => ("", "", "", false)
def tyJ10 : Nat → FieldType := fun k => match k with
  | _ => .int
abbrev wsJ100 : List Cond := u_ws RJ10 TJ10 0
theorem nmJ10 : ∀ a, a < 0 → ∀ b, b < 0 → a ≠ b → (TJ10 a).2.1 ≠ (TJ10 b).2.1 := by decide +kernel
theorem tyJ10_ok : ∀ k, k < 0 → parseFieldDescriptor (TJ10 k).2.2.1 = some (tyJ10 k) := by decide +kernel
def RL : String := "LightHoursLaw"
abbrev cL_law : ByteArray := code
def yL_law : MethodName := ⟨RL, "law", "([I)Z"⟩
