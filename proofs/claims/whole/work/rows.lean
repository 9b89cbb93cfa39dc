section
/-- a private method of a class that the tables say can be made, by its rows of tables_1 -/
def lw_okq (q : MethodName × Nat) : Prop := (q.1.cls ≠ "java/lang/invoke/MethodHandle" ∧ q.1.cls ≠ "java/lang/invoke/VarHandle") ∧ Cond.instantiable q.1.cls q.2 ∈ tables_1 ∧ Cond.privateMethod q.1 ∈ tables_1 ∧ Cond.instanceMethod q.1 ∈ tables_1
theorem lw_p0 : lw_okq (⟨"LightHours", "changed", "(I)I"⟩, 4) := ⟨⟨by decide +kernel, by decide +kernel⟩, List.mem_of_getElem? (i := 14) (by decide +kernel), List.mem_of_getElem? (i := 304) (by decide +kernel), List.mem_of_getElem? (i := 305) (by decide +kernel)⟩
theorem lw_p1 : lw_okq (⟨"LightHours$Ledger", "sumSpends", "()V"⟩, 7) := ⟨⟨by decide +kernel, by decide +kernel⟩, List.mem_of_getElem? (i := 208) (by decide +kernel), List.mem_of_getElem? (i := 360) (by decide +kernel), List.mem_of_getElem? (i := 361) (by decide +kernel)⟩
theorem lw_p2 : lw_okq (⟨"LightHours$Ledger", "narrowPast", "()V"⟩, 7) := ⟨⟨by decide +kernel, by decide +kernel⟩, List.mem_of_getElem? (i := 208) (by decide +kernel), List.mem_of_getElem? (i := 377) (by decide +kernel), List.mem_of_getElem? (i := 378) (by decide +kernel)⟩
theorem lw_p3 : lw_okq (⟨"LightHours$Bookings", "add", "(IIII)I"⟩, 6) := ⟨⟨by decide +kernel, by decide +kernel⟩, List.mem_of_getElem? (i := 94) (by decide +kernel), List.mem_of_getElem? (i := 414) (by decide +kernel), List.mem_of_getElem? (i := 415) (by decide +kernel)⟩
theorem lw_p4 : lw_okq (⟨"LightHours$Hanging", "prepare", "()V"⟩, 10) := ⟨⟨by decide +kernel, by decide +kernel⟩, List.mem_of_getElem? (i := 237) (by decide +kernel), List.mem_of_getElem? (i := 515) (by decide +kernel), List.mem_of_getElem? (i := 516) (by decide +kernel)⟩
theorem lw_p5 : lw_okq (⟨"LightHours$Hanging", "sheetsFor", "(I)I"⟩, 10) := ⟨⟨by decide +kernel, by decide +kernel⟩, List.mem_of_getElem? (i := 237) (by decide +kernel), List.mem_of_getElem? (i := 522) (by decide +kernel), List.mem_of_getElem? (i := 523) (by decide +kernel)⟩
theorem lw_p6 : lw_okq (⟨"LightHours$Hanging", "shownTooNear", "(II)Z"⟩, 10) := ⟨⟨by decide +kernel, by decide +kernel⟩, List.mem_of_getElem? (i := 237) (by decide +kernel), List.mem_of_getElem? (i := 530) (by decide +kernel), List.mem_of_getElem? (i := 531) (by decide +kernel)⟩
theorem lw_p7 : lw_okq (⟨"LightHours$Hanging", "takeIfBetter", "(I)V"⟩, 10) := ⟨⟨by decide +kernel, by decide +kernel⟩, List.mem_of_getElem? (i := 237) (by decide +kernel), List.mem_of_getElem? (i := 538) (by decide +kernel), List.mem_of_getElem? (i := 539) (by decide +kernel)⟩
theorem lw_p8 : lw_okq (⟨"LightHours$Hanging", "fits", "(II)Z"⟩, 10) := ⟨⟨by decide +kernel, by decide +kernel⟩, List.mem_of_getElem? (i := 237) (by decide +kernel), List.mem_of_getElem? (i := 549) (by decide +kernel), List.mem_of_getElem? (i := 550) (by decide +kernel)⟩
theorem lw_p9 : lw_okq (⟨"LightHoursModel", "came", "(I)I"⟩, 18) := ⟨⟨by decide +kernel, by decide +kernel⟩, List.mem_of_getElem? (i := 633) (by decide +kernel), List.mem_of_getElem? (i := 702) (by decide +kernel), List.mem_of_getElem? (i := 703) (by decide +kernel)⟩
theorem lw_p10 : lw_okq (⟨"LightHoursModel", "is", "(II)Z"⟩, 18) := ⟨⟨by decide +kernel, by decide +kernel⟩, List.mem_of_getElem? (i := 633) (by decide +kernel), List.mem_of_getElem? (i := 710) (by decide +kernel), List.mem_of_getElem? (i := 711) (by decide +kernel)⟩
theorem lw_p11 : lw_okq (⟨"LightHoursModel", "lightOf", "(IIZ)I"⟩, 18) := ⟨⟨by decide +kernel, by decide +kernel⟩, List.mem_of_getElem? (i := 633) (by decide +kernel), List.mem_of_getElem? (i := 721) (by decide +kernel), List.mem_of_getElem? (i := 722) (by decide +kernel)⟩
theorem lw_p12 : lw_okq (⟨"LightHoursModel", "sisterOf", "(I)I"⟩, 18) := ⟨⟨by decide +kernel, by decide +kernel⟩, List.mem_of_getElem? (i := 633) (by decide +kernel), List.mem_of_getElem? (i := 733) (by decide +kernel), List.mem_of_getElem? (i := 734) (by decide +kernel)⟩
theorem lw_p13 : lw_okq (⟨"LightHoursModel", "findPast", "(I)V"⟩, 18) := ⟨⟨by decide +kernel, by decide +kernel⟩, List.mem_of_getElem? (i := 633) (by decide +kernel), List.mem_of_getElem? (i := 745) (by decide +kernel), List.mem_of_getElem? (i := 746) (by decide +kernel)⟩
theorem lw_p14 : lw_okq (⟨"LightHoursModel", "booked", "(IIZ)I"⟩, 18) := ⟨⟨by decide +kernel, by decide +kernel⟩, List.mem_of_getElem? (i := 633) (by decide +kernel), List.mem_of_getElem? (i := 749) (by decide +kernel), List.mem_of_getElem? (i := 750) (by decide +kernel)⟩
theorem lw_p15 : lw_okq (⟨"LightHoursModel", "isHere", "(II)Z"⟩, 18) := ⟨⟨by decide +kernel, by decide +kernel⟩, List.mem_of_getElem? (i := 633) (by decide +kernel), List.mem_of_getElem? (i := 753) (by decide +kernel), List.mem_of_getElem? (i := 754) (by decide +kernel)⟩
def lw_privs_1 : List (MethodName × Nat) := [(⟨"LightHours", "changed", "(I)I"⟩, 4), (⟨"LightHours$Ledger", "sumSpends", "()V"⟩, 7), (⟨"LightHours$Ledger", "narrowPast", "()V"⟩, 7), (⟨"LightHours$Bookings", "add", "(IIII)I"⟩, 6), (⟨"LightHours$Hanging", "prepare", "()V"⟩, 10), (⟨"LightHours$Hanging", "sheetsFor", "(I)I"⟩, 10), (⟨"LightHours$Hanging", "shownTooNear", "(II)Z"⟩, 10), (⟨"LightHours$Hanging", "takeIfBetter", "(I)V"⟩, 10), (⟨"LightHours$Hanging", "fits", "(II)Z"⟩, 10), (⟨"LightHoursModel", "came", "(I)I"⟩, 18), (⟨"LightHoursModel", "is", "(II)Z"⟩, 18), (⟨"LightHoursModel", "lightOf", "(IIZ)I"⟩, 18), (⟨"LightHoursModel", "sisterOf", "(I)I"⟩, 18), (⟨"LightHoursModel", "findPast", "(I)V"⟩, 18), (⟨"LightHoursModel", "booked", "(IIZ)I"⟩, 18), (⟨"LightHoursModel", "isHere", "(II)Z"⟩, 18)]
theorem lw_r1 : ∀ q ∈ lw_privs_1, lw_okq q := List.forall_mem_cons.mpr ⟨lw_p0, List.forall_mem_cons.mpr ⟨lw_p1, List.forall_mem_cons.mpr ⟨lw_p2, List.forall_mem_cons.mpr ⟨lw_p3, List.forall_mem_cons.mpr ⟨lw_p4, List.forall_mem_cons.mpr ⟨lw_p5, List.forall_mem_cons.mpr ⟨lw_p6, List.forall_mem_cons.mpr ⟨lw_p7, List.forall_mem_cons.mpr ⟨lw_p8, List.forall_mem_cons.mpr ⟨lw_p9, List.forall_mem_cons.mpr ⟨lw_p10, List.forall_mem_cons.mpr ⟨lw_p11, List.forall_mem_cons.mpr ⟨lw_p12, List.forall_mem_cons.mpr ⟨lw_p13, List.forall_mem_cons.mpr ⟨lw_p14, List.forall_mem_cons.mpr ⟨lw_p15, fun _ h => absurd h List.not_mem_nil⟩⟩⟩⟩⟩⟩⟩⟩⟩⟩⟩⟩⟩⟩⟩⟩
theorem lw_p16 : lw_okq (⟨"LightHoursModel", "spends", "(IZ)I"⟩, 18) := ⟨⟨by decide +kernel, by decide +kernel⟩, List.mem_of_getElem? (i := 633) (by decide +kernel), List.mem_of_getElem? (i := 757) (by decide +kernel), List.mem_of_getElem? (i := 758) (by decide +kernel)⟩
theorem lw_p17 : lw_okq (⟨"LightHoursModel", "bookedMany", "(I)I"⟩, 18) := ⟨⟨by decide +kernel, by decide +kernel⟩, List.mem_of_getElem? (i := 633) (by decide +kernel), List.mem_of_getElem? (i := 761) (by decide +kernel), List.mem_of_getElem? (i := 762) (by decide +kernel)⟩
theorem lw_p18 : lw_okq (⟨"LightHoursModel", "threadMany", "(I)I"⟩, 18) := ⟨⟨by decide +kernel, by decide +kernel⟩, List.mem_of_getElem? (i := 633) (by decide +kernel), List.mem_of_getElem? (i := 765) (by decide +kernel), List.mem_of_getElem? (i := 766) (by decide +kernel)⟩
theorem lw_p19 : lw_okq (⟨"LightHoursModel", "isShown", "(II)Z"⟩, 18) := ⟨⟨by decide +kernel, by decide +kernel⟩, List.mem_of_getElem? (i := 633) (by decide +kernel), List.mem_of_getElem? (i := 773) (by decide +kernel), List.mem_of_getElem? (i := 774) (by decide +kernel)⟩
theorem lw_p20 : lw_okq (⟨"LightHoursModel", "books", "(IIII)I"⟩, 18) := ⟨⟨by decide +kernel, by decide +kernel⟩, List.mem_of_getElem? (i := 633) (by decide +kernel), List.mem_of_getElem? (i := 777) (by decide +kernel), List.mem_of_getElem? (i := 778) (by decide +kernel)⟩
theorem lw_p21 : lw_okq (⟨"LightHoursModel", "leastLeft", "(I)I"⟩, 18) := ⟨⟨by decide +kernel, by decide +kernel⟩, List.mem_of_getElem? (i := 633) (by decide +kernel), List.mem_of_getElem? (i := 785) (by decide +kernel), List.mem_of_getElem? (i := 786) (by decide +kernel)⟩
theorem lw_p22 : lw_okq (⟨"LightHoursModel", "spentOf", "(IIZ)I"⟩, 18) := ⟨⟨by decide +kernel, by decide +kernel⟩, List.mem_of_getElem? (i := 633) (by decide +kernel), List.mem_of_getElem? (i := 789) (by decide +kernel), List.mem_of_getElem? (i := 790) (by decide +kernel)⟩
theorem lw_p23 : lw_okq (⟨"LightHoursModel", "findHang", "()V"⟩, 18) := ⟨⟨by decide +kernel, by decide +kernel⟩, List.mem_of_getElem? (i := 633) (by decide +kernel), List.mem_of_getElem? (i := 842) (by decide +kernel), List.mem_of_getElem? (i := 843) (by decide +kernel)⟩
theorem lw_p24 : lw_okq (⟨"LightHoursModel", "takes", "()V"⟩, 18) := ⟨⟨by decide +kernel, by decide +kernel⟩, List.mem_of_getElem? (i := 633) (by decide +kernel), List.mem_of_getElem? (i := 846) (by decide +kernel), List.mem_of_getElem? (i := 847) (by decide +kernel)⟩
theorem lw_p25 : lw_okq (⟨"LightHoursModel", "valueOf", "(I)I"⟩, 18) := ⟨⟨by decide +kernel, by decide +kernel⟩, List.mem_of_getElem? (i := 633) (by decide +kernel), List.mem_of_getElem? (i := 850) (by decide +kernel), List.mem_of_getElem? (i := 851) (by decide +kernel)⟩
theorem lw_p26 : lw_okq (⟨"LightHoursModel", "fits", "(I)Z"⟩, 18) := ⟨⟨by decide +kernel, by decide +kernel⟩, List.mem_of_getElem? (i := 633) (by decide +kernel), List.mem_of_getElem? (i := 854) (by decide +kernel), List.mem_of_getElem? (i := 855) (by decide +kernel)⟩
theorem lw_p27 : lw_okq (⟨"LightHoursModel", "rests", "(II)Z"⟩, 18) := ⟨⟨by decide +kernel, by decide +kernel⟩, List.mem_of_getElem? (i := 633) (by decide +kernel), List.mem_of_getElem? (i := 858) (by decide +kernel), List.mem_of_getElem? (i := 859) (by decide +kernel)⟩
theorem lw_p28 : lw_okq (⟨"LightHoursModel", "cancelled", "()I"⟩, 18) := ⟨⟨by decide +kernel, by decide +kernel⟩, List.mem_of_getElem? (i := 633) (by decide +kernel), List.mem_of_getElem? (i := 881) (by decide +kernel), List.mem_of_getElem? (i := 882) (by decide +kernel)⟩
theorem lw_p29 : lw_okq (⟨"LightHoursModel", "quarrels", "()I"⟩, 18) := ⟨⟨by decide +kernel, by decide +kernel⟩, List.mem_of_getElem? (i := 633) (by decide +kernel), List.mem_of_getElem? (i := 885) (by decide +kernel), List.mem_of_getElem? (i := 886) (by decide +kernel)⟩
theorem lw_p30 : lw_okq (⟨"LightHoursModel", "overspent", "()I"⟩, 18) := ⟨⟨by decide +kernel, by decide +kernel⟩, List.mem_of_getElem? (i := 633) (by decide +kernel), List.mem_of_getElem? (i := 890) (by decide +kernel), List.mem_of_getElem? (i := 891) (by decide +kernel)⟩
theorem lw_p31 : lw_okq (⟨"LightHoursModel", "readMany", "()I"⟩, 18) := ⟨⟨by decide +kernel, by decide +kernel⟩, List.mem_of_getElem? (i := 633) (by decide +kernel), List.mem_of_getElem? (i := 894) (by decide +kernel), List.mem_of_getElem? (i := 895) (by decide +kernel)⟩
def lw_privs_2 : List (MethodName × Nat) := [(⟨"LightHoursModel", "spends", "(IZ)I"⟩, 18), (⟨"LightHoursModel", "bookedMany", "(I)I"⟩, 18), (⟨"LightHoursModel", "threadMany", "(I)I"⟩, 18), (⟨"LightHoursModel", "isShown", "(II)Z"⟩, 18), (⟨"LightHoursModel", "books", "(IIII)I"⟩, 18), (⟨"LightHoursModel", "leastLeft", "(I)I"⟩, 18), (⟨"LightHoursModel", "spentOf", "(IIZ)I"⟩, 18), (⟨"LightHoursModel", "findHang", "()V"⟩, 18), (⟨"LightHoursModel", "takes", "()V"⟩, 18), (⟨"LightHoursModel", "valueOf", "(I)I"⟩, 18), (⟨"LightHoursModel", "fits", "(I)Z"⟩, 18), (⟨"LightHoursModel", "rests", "(II)Z"⟩, 18), (⟨"LightHoursModel", "cancelled", "()I"⟩, 18), (⟨"LightHoursModel", "quarrels", "()I"⟩, 18), (⟨"LightHoursModel", "overspent", "()I"⟩, 18), (⟨"LightHoursModel", "readMany", "()I"⟩, 18)]
theorem lw_r2 : ∀ q ∈ lw_privs_2, lw_okq q := List.forall_mem_cons.mpr ⟨lw_p16, List.forall_mem_cons.mpr ⟨lw_p17, List.forall_mem_cons.mpr ⟨lw_p18, List.forall_mem_cons.mpr ⟨lw_p19, List.forall_mem_cons.mpr ⟨lw_p20, List.forall_mem_cons.mpr ⟨lw_p21, List.forall_mem_cons.mpr ⟨lw_p22, List.forall_mem_cons.mpr ⟨lw_p23, List.forall_mem_cons.mpr ⟨lw_p24, List.forall_mem_cons.mpr ⟨lw_p25, List.forall_mem_cons.mpr ⟨lw_p26, List.forall_mem_cons.mpr ⟨lw_p27, List.forall_mem_cons.mpr ⟨lw_p28, List.forall_mem_cons.mpr ⟨lw_p29, List.forall_mem_cons.mpr ⟨lw_p30, List.forall_mem_cons.mpr ⟨lw_p31, fun _ h => absurd h List.not_mem_nil⟩⟩⟩⟩⟩⟩⟩⟩⟩⟩⟩⟩⟩⟩⟩⟩
theorem lw_p32 : lw_okq (⟨"LightHoursModel", "moveAll", "(Z)V"⟩, 18) := ⟨⟨by decide +kernel, by decide +kernel⟩, List.mem_of_getElem? (i := 633) (by decide +kernel), List.mem_of_getElem? (i := 902) (by decide +kernel), List.mem_of_getElem? (i := 903) (by decide +kernel)⟩
theorem lw_p33 : lw_okq (⟨"LightHoursModel", "move", "([IIZ)V"⟩, 18) := ⟨⟨by decide +kernel, by decide +kernel⟩, List.mem_of_getElem? (i := 633) (by decide +kernel), List.mem_of_getElem? (i := 906) (by decide +kernel), List.mem_of_getElem? (i := 907) (by decide +kernel)⟩
def lw_privs_3 : List (MethodName × Nat) := [(⟨"LightHoursModel", "moveAll", "(Z)V"⟩, 18), (⟨"LightHoursModel", "move", "([IIZ)V"⟩, 18)]
theorem lw_r3 : ∀ q ∈ lw_privs_3, lw_okq q := List.forall_mem_cons.mpr ⟨lw_p32, List.forall_mem_cons.mpr ⟨lw_p33, fun _ h => absurd h List.not_mem_nil⟩⟩
def lw_privs : List (MethodName × Nat) := lw_privs_1 ++ (lw_privs_2 ++ (lw_privs_3))
def lw_tbl : List Cond := k2_sels lw_privs ++ tables_1
theorem lw_privs_ok : ∀ q ∈ lw_privs, lw_okq q := by
  show ∀ q ∈ lw_privs_1 ++ (lw_privs_2 ++ (lw_privs_3)), lw_okq q
  exact List.forall_mem_append.mpr ⟨lw_r1, List.forall_mem_append.mpr ⟨lw_r2, lw_r3⟩⟩
def RX0 : String := "LightHours$Bookings"
def TX0 : u_T := fun k => match k with
  | 0 => ("LightHours$Bookings", "count", "I", false)
  | 1 => ("LightHours$Bookings", "sheet", "[I", true)
  | 2 => ("LightHours$Bookings", "room", "[I", true)
  | 3 => ("LightHours$Bookings", "year", "[I", true)
  | 4 => ("LightHours$Bookings", "amount", "[I", true)
  | _ => ("LightHours$Bookings", "cancelled", "[Z", true)
def tyX0 : Nat → FieldType := fun k => match k with
  | 0 => .int
  | 1 => .array .int
  | 2 => .array .int
  | 3 => .array .int
  | 4 => .array .int
  | _ => .array .boolean
abbrev wsX00 : List Cond := u_ws RX0 TX0 6
theorem nmX0 : ∀ a, a < 6 → ∀ b, b < 6 → a ≠ b → (TX0 a).2.1 ≠ (TX0 b).2.1 := by decide +kernel
theorem tyX0_ok : ∀ k, k < 6 → parseFieldDescriptor (TX0 k).2.2.1 = some (tyX0 k) := by decide +kernel
abbrev cX0_init : ByteArray := prog_2_method_1_code
def yX0_init : MethodName := ⟨RX0, "<init>", "()V"⟩
abbrev cX0_has : ByteArray := prog_2_method_2_code
def yX0_has : MethodName := ⟨RX0, "has", "(I)Z"⟩
abbrev cX0_addShow : ByteArray := prog_2_method_3_code
def yX0_addShow : MethodName := ⟨RX0, "addShow", "(III)I"⟩
abbrev cX0_addLoan : ByteArray := prog_2_method_4_code
def yX0_addLoan : MethodName := ⟨RX0, "addLoan", "(III)I"⟩
abbrev cX0_add : ByteArray := prog_2_method_5_code
def yX0_add : MethodName := ⟨RX0, "add", "(IIII)I"⟩
abbrev cX0_isLoan : ByteArray := prog_2_method_6_code
def yX0_isLoan : MethodName := ⟨RX0, "isLoan", "(I)Z"⟩
abbrev cX0_standsFor : ByteArray := prog_2_method_7_code
def yX0_standsFor : MethodName := ⟨RX0, "standsFor", "(II)Z"⟩
abbrev cX0_shownWithin : ByteArray := prog_2_method_8_code
def yX0_shownWithin : MethodName := ⟨RX0, "shownWithin", "(III)Z"⟩
abbrev cX0_countOf : ByteArray := prog_2_method_9_code
def yX0_countOf : MethodName := ⟨RX0, "countOf", "(I)I"⟩
abbrev cX0_countCancelled : ByteArray := prog_2_method_10_code
def yX0_countCancelled : MethodName := ⟨RX0, "countCancelled", "()I"⟩
abbrev cX0_copyFrom : ByteArray := prog_2_method_11_code
def yX0_copyFrom : MethodName := ⟨RX0, "copyFrom", "(LLightHours$Bookings;)V"⟩
def RX1 : String := "LightHours$Hanging"
def TX1 : u_T := fun k => match k with
  | 0 => ("LightHours$Hanging", "house", "LLightHours$House;", true)
  | 1 => ("LightHours$Hanging", "ledger", "LLightHours$Ledger;", true)
  | 2 => ("LightHours$Hanging", "known", "Z", false)
  | 3 => ("LightHours$Hanging", "best", "[I", true)
  | 4 => ("LightHours$Hanging", "bestWorth", "I", false)
  | 5 => ("LightHours$Hanging", "trial", "[I", true)
  | 6 => ("LightHours$Hanging", "may", "[I", true)
  | 7 => ("LightHours$Hanging", "light", "[I", true)
  | 8 => ("LightHours$Hanging", "bound", "[I", true)
  | _ => ("LightHours$Hanging", "spare", "[I", true)
def tyX1 : Nat → FieldType := fun k => match k with
  | 0 => .object "LightHours$House"
  | 1 => .object "LightHours$Ledger"
  | 2 => .boolean
  | 3 => .array .int
  | 4 => .int
  | 5 => .array .int
  | 6 => .array .int
  | 7 => .array .int
  | 8 => .array .int
  | _ => .array .int
abbrev wsX10 : List Cond := u_ws RX1 TX1 10
theorem nmX1 : ∀ a, a < 10 → ∀ b, b < 10 → a ≠ b → (TX1 a).2.1 ≠ (TX1 b).2.1 := by decide +kernel
theorem tyX1_ok : ∀ k, k < 10 → parseFieldDescriptor (TX1 k).2.2.1 = some (tyX1 k) := by decide +kernel
abbrev cX1_init : ByteArray := prog_3_method_1_code
def yX1_init : MethodName := ⟨RX1, "<init>", "(LLightHours$House;LLightHours$Ledger;)V"⟩
abbrev cX1_forget : ByteArray := prog_3_method_2_code
def yX1_forget : MethodName := ⟨RX1, "forget", "()V"⟩
abbrev cX1_find : ByteArray := prog_3_method_3_code
def yX1_find : MethodName := ⟨RX1, "find", "()V"⟩
abbrev cX1_prepare : ByteArray := prog_3_method_4_code
def yX1_prepare : MethodName := ⟨RX1, "prepare", "()V"⟩
abbrev cX1_sheetsFor : ByteArray := prog_3_method_5_code
def yX1_sheetsFor : MethodName := ⟨RX1, "sheetsFor", "(I)I"⟩
abbrev cX1_shownTooNear : ByteArray := prog_3_method_6_code
def yX1_shownTooNear : MethodName := ⟨RX1, "shownTooNear", "(II)Z"⟩
abbrev cX1_place : ByteArray := prog_3_method_7_code
def yX1_place : MethodName := ⟨RX1, "place", "(LLightHours$Hanging;II)V"⟩
abbrev cX1_takeIfBetter : ByteArray := prog_3_method_8_code
def yX1_takeIfBetter : MethodName := ⟨RX1, "takeIfBetter", "(I)V"⟩
abbrev cX1_fits : ByteArray := prog_3_method_9_code
def yX1_fits : MethodName := ⟨RX1, "fits", "(II)Z"⟩
abbrev cX1_countHung : ByteArray := prog_3_method_10_code
def yX1_countHung : MethodName := ⟨RX1, "countHung", "()I"⟩
abbrev cX1_lightOn : ByteArray := prog_3_method_11_code
def yX1_lightOn : MethodName := ⟨RX1, "lightOn", "(I)I"⟩
def RX2 : String := "LightHours$House"
def TX2 : u_T := fun k => match k with
  | 0 => ("LightHours$House", "rooms", "LLightHours$Rooms;", true)
  | 1 => ("LightHours$House", "sheets", "LLightHours$Sheets;", true)
  | 2 => ("LightHours$House", "bookings", "LLightHours$Bookings;", true)
  | 3 => ("LightHours$House", "threads", "LLightHours$Threads;", true)
  | _ => ("LightHours$House", "walls", "LLightHours$Walls;", true)
def tyX2 : Nat → FieldType := fun k => match k with
  | 0 => .object "LightHours$Rooms"
  | 1 => .object "LightHours$Sheets"
  | 2 => .object "LightHours$Bookings"
  | 3 => .object "LightHours$Threads"
  | _ => .object "LightHours$Walls"
abbrev wsX20 : List Cond := u_ws RX2 TX2 5
theorem nmX2 : ∀ a, a < 5 → ∀ b, b < 5 → a ≠ b → (TX2 a).2.1 ≠ (TX2 b).2.1 := by decide +kernel
theorem tyX2_ok : ∀ k, k < 5 → parseFieldDescriptor (TX2 k).2.2.1 = some (tyX2 k) := by decide +kernel
abbrev cX2_init : ByteArray := prog_4_method_1_code
def yX2_init : MethodName := ⟨RX2, "<init>", "()V"⟩
abbrev cX2_spendEnd : ByteArray := prog_4_method_2_code
def yX2_spendEnd : MethodName := ⟨RX2, "spendEnd", "(IZ)I"⟩
abbrev cX2_copyFrom : ByteArray := prog_4_method_3_code
def yX2_copyFrom : MethodName := ⟨RX2, "copyFrom", "(LLightHours$House;)V"⟩
def RX3 : String := "LightHours$Ledger"
def TX3 : u_T := fun k => match k with
  | 0 => ("LightHours$Ledger", "house", "LLightHours$House;", true)
  | 1 => ("LightHours$Ledger", "sheet", "I", false)
  | 2 => ("LightHours$Ledger", "quarrels", "Z", false)
  | 3 => ("LightHours$Ledger", "pastLeast", "I", false)
  | 4 => ("LightHours$Ledger", "pastGreatest", "I", false)
  | 5 => ("LightHours$Ledger", "spendsLeast", "[I", true)
  | _ => ("LightHours$Ledger", "spendsGreatest", "[I", true)
def tyX3 : Nat → FieldType := fun k => match k with
  | 0 => .object "LightHours$House"
  | 1 => .int
  | 2 => .boolean
  | 3 => .int
  | 4 => .int
  | 5 => .array .int
  | _ => .array .int
abbrev wsX30 : List Cond := u_ws RX3 TX3 7
theorem nmX3 : ∀ a, a < 7 → ∀ b, b < 7 → a ≠ b → (TX3 a).2.1 ≠ (TX3 b).2.1 := by decide +kernel
theorem tyX3_ok : ∀ k, k < 7 → parseFieldDescriptor (TX3 k).2.2.1 = some (tyX3 k) := by decide +kernel
abbrev cX3_init : ByteArray := prog_5_method_1_code
def yX3_init : MethodName := ⟨RX3, "<init>", "(LLightHours$House;)V"⟩
abbrev cX3_openAt : ByteArray := prog_5_method_2_code
def yX3_openAt : MethodName := ⟨RX3, "openAt", "(I)LLightHours$Ledger;"⟩
abbrev cX3_sumSpends : ByteArray := prog_5_method_3_code
def yX3_sumSpends : MethodName := ⟨RX3, "sumSpends", "()V"⟩
abbrev cX3_narrowPast : ByteArray := prog_5_method_4_code
def yX3_narrowPast : MethodName := ⟨RX3, "narrowPast", "()V"⟩
abbrev cX3_pastEnd : ByteArray := prog_5_method_5_code
def yX3_pastEnd : MethodName := ⟨RX3, "pastEnd", "(Z)I"⟩
abbrev cX3_spentEnd : ByteArray := prog_5_method_6_code
def yX3_spentEnd : MethodName := ⟨RX3, "spentEnd", "(IZ)I"⟩
abbrev cX3_leftEnd : ByteArray := prog_5_method_7_code
def yX3_leftEnd : MethodName := ⟨RX3, "leftEnd", "(Z)I"⟩
abbrev cX3_countQuarrels : ByteArray := prog_5_method_8_code
def yX3_countQuarrels : MethodName := ⟨RX3, "countQuarrels", "()I"⟩
abbrev cX3_countOverspent : ByteArray := prog_5_method_9_code
def yX3_countOverspent : MethodName := ⟨RX3, "countOverspent", "()I"⟩
def RX4 : String := "LightHours$Rooms"
def TX4 : u_T := fun k => match k with
  | 0 => ("LightHours$Rooms", "count", "I", false)
  | 1 => ("LightHours$Rooms", "worst", "[I", true)
  | _ => ("LightHours$Rooms", "readings", "[I", true)
def tyX4 : Nat → FieldType := fun k => match k with
  | 0 => .int
  | 1 => .array .int
  | _ => .array .int
abbrev wsX40 : List Cond := u_ws RX4 TX4 3
theorem nmX4 : ∀ a, a < 3 → ∀ b, b < 3 → a ≠ b → (TX4 a).2.1 ≠ (TX4 b).2.1 := by decide +kernel
theorem tyX4_ok : ∀ k, k < 3 → parseFieldDescriptor (TX4 k).2.2.1 = some (tyX4 k) := by decide +kernel
abbrev cX4_init : ByteArray := prog_6_method_1_code
def yX4_init : MethodName := ⟨RX4, "<init>", "()V"⟩
abbrev cX4_has : ByteArray := prog_6_method_2_code
def yX4_has : MethodName := ⟨RX4, "has", "(I)Z"⟩
abbrev cX4_add : ByteArray := prog_6_method_3_code
def yX4_add : MethodName := ⟨RX4, "add", "(I)I"⟩
abbrev cX4_read : ByteArray := prog_6_method_4_code
def yX4_read : MethodName := ⟨RX4, "read", "(III)V"⟩
abbrev cX4_lightEnd : ByteArray := prog_6_method_5_code
def yX4_lightEnd : MethodName := ⟨RX4, "lightEnd", "(IIZ)I"⟩
abbrev cX4_countReadings : ByteArray := prog_6_method_6_code
def yX4_countReadings : MethodName := ⟨RX4, "countReadings", "()I"⟩
abbrev cX4_copyFrom : ByteArray := prog_6_method_7_code
def yX4_copyFrom : MethodName := ⟨RX4, "copyFrom", "(LLightHours$Rooms;)V"⟩
def RX5 : String := "LightHours$Sheets"
def TX5 : u_T := fun k => match k with
  | 0 => ("LightHours$Sheets", "count", "I", false)
  | 1 => ("LightHours$Sheets", "limit", "[I", true)
  | 2 => ("LightHours$Sheets", "themes", "[I", true)
  | 3 => ("LightHours$Sheets", "value", "[I", true)
  | 4 => ("LightHours$Sheets", "rest", "[I", true)
  | 5 => ("LightHours$Sheets", "sister", "[I", true)
  | 6 => ("LightHours$Sheets", "toldLeast", "[I", true)
  | _ => ("LightHours$Sheets", "toldGreatest", "[I", true)
def tyX5 : Nat → FieldType := fun k => match k with
  | 0 => .int
  | 1 => .array .int
  | 2 => .array .int
  | 3 => .array .int
  | 4 => .array .int
  | 5 => .array .int
  | 6 => .array .int
  | _ => .array .int
abbrev wsX50 : List Cond := u_ws RX5 TX5 8
theorem nmX5 : ∀ a, a < 8 → ∀ b, b < 8 → a ≠ b → (TX5 a).2.1 ≠ (TX5 b).2.1 := by decide +kernel
theorem tyX5_ok : ∀ k, k < 8 → parseFieldDescriptor (TX5 k).2.2.1 = some (tyX5 k) := by decide +kernel
abbrev cX5_init : ByteArray := prog_7_method_1_code
def yX5_init : MethodName := ⟨RX5, "<init>", "()V"⟩
abbrev cX5_has : ByteArray := prog_7_method_2_code
def yX5_has : MethodName := ⟨RX5, "has", "(I)Z"⟩
abbrev cX5_add : ByteArray := prog_7_method_3_code
def yX5_add : MethodName := ⟨RX5, "add", "(IIII)I"⟩
abbrev cX5_hasTheme : ByteArray := prog_7_method_4_code
def yX5_hasTheme : MethodName := ⟨RX5, "hasTheme", "(II)Z"⟩
abbrev cX5_copyFrom : ByteArray := prog_7_method_5_code
def yX5_copyFrom : MethodName := ⟨RX5, "copyFrom", "(LLightHours$Sheets;)V"⟩
def RX6 : String := "LightHours$Threads"
def TX6 : u_T := fun k => match k with
  | 0 => ("LightHours$Threads", "count", "I", false)
  | 1 => ("LightHours$Threads", "sheet", "[I", true)
  | 2 => ("LightHours$Threads", "year", "[I", true)
  | _ => ("LightHours$Threads", "step", "[I", true)
def tyX6 : Nat → FieldType := fun k => match k with
  | 0 => .int
  | 1 => .array .int
  | 2 => .array .int
  | _ => .array .int
abbrev wsX60 : List Cond := u_ws RX6 TX6 4
theorem nmX6 : ∀ a, a < 4 → ∀ b, b < 4 → a ≠ b → (TX6 a).2.1 ≠ (TX6 b).2.1 := by decide +kernel
theorem tyX6_ok : ∀ k, k < 4 → parseFieldDescriptor (TX6 k).2.2.1 = some (tyX6 k) := by decide +kernel
abbrev cX6_init : ByteArray := prog_8_method_1_code
def yX6_init : MethodName := ⟨RX6, "<init>", "()V"⟩
abbrev cX6_add : ByteArray := prog_8_method_2_code
def yX6_add : MethodName := ⟨RX6, "add", "(III)I"⟩
abbrev cX6_countOf : ByteArray := prog_8_method_3_code
def yX6_countOf : MethodName := ⟨RX6, "countOf", "(I)I"⟩
abbrev cX6_copyFrom : ByteArray := prog_8_method_4_code
def yX6_copyFrom : MethodName := ⟨RX6, "copyFrom", "(LLightHours$Threads;)V"⟩
def RX7 : String := "LightHours$Walls"
def TX7 : u_T := fun k => match k with
  | 0 => ("LightHours$Walls", "count", "I", false)
  | 1 => ("LightHours$Walls", "room", "[I", true)
  | 2 => ("LightHours$Walls", "year", "[I", true)
  | _ => ("LightHours$Walls", "theme", "[I", true)
def tyX7 : Nat → FieldType := fun k => match k with
  | 0 => .int
  | 1 => .array .int
  | 2 => .array .int
  | _ => .array .int
abbrev wsX70 : List Cond := u_ws RX7 TX7 4
theorem nmX7 : ∀ a, a < 4 → ∀ b, b < 4 → a ≠ b → (TX7 a).2.1 ≠ (TX7 b).2.1 := by decide +kernel
theorem tyX7_ok : ∀ k, k < 4 → parseFieldDescriptor (TX7 k).2.2.1 = some (tyX7 k) := by decide +kernel
abbrev cX7_init : ByteArray := prog_9_method_1_code
def yX7_init : MethodName := ⟨RX7, "<init>", "()V"⟩
abbrev cX7_has : ByteArray := prog_9_method_2_code
def yX7_has : MethodName := ⟨RX7, "has", "(I)Z"⟩
abbrev cX7_add : ByteArray := prog_9_method_3_code
def yX7_add : MethodName := ⟨RX7, "add", "(III)I"⟩
abbrev cX7_copyFrom : ByteArray := prog_9_method_4_code
def yX7_copyFrom : MethodName := ⟨RX7, "copyFrom", "(LLightHours$Walls;)V"⟩
def RX8 : String := "LightHours"
def TX8 : u_T := fun k => match k with
  | 0 => ("LightHours", "house", "LLightHours$House;", true)
  | 1 => ("LightHours", "ledger", "LLightHours$Ledger;", true)
  | 2 => ("LightHours", "hanging", "LLightHours$Hanging;", true)
  | _ => ("LightHours", "kept", "LLightHours$House;", false)
def tyX8 : Nat → FieldType := fun k => match k with
  | 0 => .object "LightHours$House"
  | 1 => .object "LightHours$Ledger"
  | 2 => .object "LightHours$Hanging"
  | _ => .object "LightHours$House"
abbrev wsX80 : List Cond := u_ws RX8 TX8 4
theorem nmX8 : ∀ a, a < 4 → ∀ b, b < 4 → a ≠ b → (TX8 a).2.1 ≠ (TX8 b).2.1 := by decide +kernel
theorem tyX8_ok : ∀ k, k < 4 → parseFieldDescriptor (TX8 k).2.2.1 = some (tyX8 k) := by decide +kernel
abbrev cX8_init : ByteArray := prog_1_method_1_code
def yX8_init : MethodName := ⟨RX8, "<init>", "()V"⟩
abbrev cX8_room : ByteArray := prog_1_method_2_code
def yX8_room : MethodName := ⟨RX8, "room", "(I)I"⟩
abbrev cX8_reading : ByteArray := prog_1_method_3_code
def yX8_reading : MethodName := ⟨RX8, "reading", "(III)I"⟩
abbrev cX8_light : ByteArray := prog_1_method_4_code
def yX8_light : MethodName := ⟨RX8, "light", "(IIZ)I"⟩
abbrev cX8_sheet : ByteArray := prog_1_method_5_code
def yX8_sheet : MethodName := ⟨RX8, "sheet", "(IIII)I"⟩
abbrev cX8_sisters : ByteArray := prog_1_method_6_code
def yX8_sisters : MethodName := ⟨RX8, "sisters", "(II)I"⟩
abbrev cX8_past : ByteArray := prog_1_method_7_code
def yX8_past : MethodName := ⟨RX8, "past", "(III)I"⟩
abbrev cX8_of : ByteArray := prog_1_method_8_code
def yX8_of : MethodName := ⟨RX8, "of", "(II)I"⟩
abbrev cX8_show : ByteArray := prog_1_method_9_code
def yX8_show : MethodName := ⟨RX8, "show", "(III)I"⟩
abbrev cX8_lend : ByteArray := prog_1_method_10_code
def yX8_lend : MethodName := ⟨RX8, "lend", "(III)I"⟩
abbrev cX8_lacks : ByteArray := prog_1_method_11_code
def yX8_lacks : MethodName := ⟨RX8, "lacks", "(II)I"⟩
abbrev cX8_cancel : ByteArray := prog_1_method_12_code
def yX8_cancel : MethodName := ⟨RX8, "cancel", "(I)I"⟩
abbrev cX8_booking : ByteArray := prog_1_method_13_code
def yX8_booking : MethodName := ⟨RX8, "booking", "(II)I"⟩
abbrev cX8_thread : ByteArray := prog_1_method_14_code
def yX8_thread : MethodName := ⟨RX8, "thread", "(III)I"⟩
abbrev cX8_cut : ByteArray := prog_1_method_15_code
def yX8_cut : MethodName := ⟨RX8, "cut", "()I"⟩
abbrev cX8_pastOf : ByteArray := prog_1_method_16_code
def yX8_pastOf : MethodName := ⟨RX8, "pastOf", "(IZ)I"⟩
abbrev cX8_spent : ByteArray := prog_1_method_17_code
def yX8_spent : MethodName := ⟨RX8, "spent", "(IIZ)I"⟩
abbrev cX8_left : ByteArray := prog_1_method_18_code
def yX8_left : MethodName := ⟨RX8, "left", "(IZ)I"⟩
abbrev cX8_step : ByteArray := prog_1_method_19_code
def yX8_step : MethodName := ⟨RX8, "step", "(IIZ)I"⟩
abbrev cX8_wall : ByteArray := prog_1_method_20_code
def yX8_wall : MethodName := ⟨RX8, "wall", "(III)I"⟩
abbrev cX8_strip : ByteArray := prog_1_method_21_code
def yX8_strip : MethodName := ⟨RX8, "strip", "()I"⟩
abbrev cX8_hung : ByteArray := prog_1_method_22_code
def yX8_hung : MethodName := ⟨RX8, "hung", "(I)I"⟩
abbrev cX8_worth : ByteArray := prog_1_method_23_code
def yX8_worth : MethodName := ⟨RX8, "worth", "()I"⟩
abbrev cX8_spares : ByteArray := prog_1_method_24_code
def yX8_spares : MethodName := ⟨RX8, "spares", "(I)I"⟩
abbrev cX8_hang : ByteArray := prog_1_method_25_code
def yX8_hang : MethodName := ⟨RX8, "hang", "()I"⟩
abbrev cX8_many : ByteArray := prog_1_method_26_code
def yX8_many : MethodName := ⟨RX8, "many", "(I)I"⟩
abbrev cX8_keep : ByteArray := prog_1_method_27_code
def yX8_keep : MethodName := ⟨RX8, "keep", "()I"⟩
abbrev cX8_back : ByteArray := prog_1_method_28_code
def yX8_back : MethodName := ⟨RX8, "back", "()I"⟩
abbrev cX8_changed : ByteArray := prog_1_method_29_code
def yX8_changed : MethodName := ⟨RX8, "changed", "(I)I"⟩
abbrev cX8_within : ByteArray := prog_1_method_30_code
def yX8_within : MethodName := ⟨RX8, "within", "(III)Z"⟩
abbrev cX8_isYear : ByteArray := prog_1_method_31_code
def yX8_isYear : MethodName := ⟨RX8, "isYear", "(I)Z"⟩
abbrev cX8_stepOfAmount : ByteArray := prog_1_method_32_code
def yX8_stepOfAmount : MethodName := ⟨RX8, "stepOfAmount", "(I)I"⟩
abbrev cX8_copyRow : ByteArray := prog_1_method_33_code
def yX8_copyRow : MethodName := ⟨RX8, "copyRow", "([I[I)V"⟩
def RX9 : String := "LightHoursModel"
def TX9 : u_T := fun k => match k with
  | 0 => ("LightHoursModel", "many", "[I", true)
  | 1 => ("LightHoursModel", "worst", "[I", true)
  | 2 => ("LightHoursModel", "readings", "[I", true)
  | 3 => ("LightHoursModel", "sheets", "[I", true)
  | 4 => ("LightHoursModel", "bookings", "[I", true)
  | 5 => ("LightHoursModel", "threads", "[I", true)
  | 6 => ("LightHoursModel", "walls", "[I", true)
  | 7 => ("LightHoursModel", "steps", "[I", true)
  | 8 => ("LightHoursModel", "isKept", "Z", false)
  | 9 => ("LightHoursModel", "kept", "[I", true)
  | 10 => ("LightHoursModel", "from", "I", false)
  | 11 => ("LightHoursModel", "to", "I", false)
  | 12 => ("LightHoursModel", "quarrel", "Z", false)
  | 13 => ("LightHoursModel", "choice", "[I", true)
  | 14 => ("LightHoursModel", "best", "[I", true)
  | 15 => ("LightHoursModel", "lefts", "[I", true)
  | 16 => ("LightHoursModel", "bestWorth", "I", false)
  | _ => ("LightHoursModel", "place", "I", false)
def tyX9 : Nat → FieldType := fun k => match k with
  | 0 => .array .int
  | 1 => .array .int
  | 2 => .array .int
  | 3 => .array .int
  | 4 => .array .int
  | 5 => .array .int
  | 6 => .array .int
  | 7 => .array .int
  | 8 => .boolean
  | 9 => .array .int
  | 10 => .int
  | 11 => .int
  | 12 => .boolean
  | 13 => .array .int
  | 14 => .array .int
  | 15 => .array .int
  | 16 => .int
  | _ => .int
abbrev wsX90 : List Cond := u_ws RX9 TX9 18
theorem nmX9 : ∀ a, a < 18 → ∀ b, b < 18 → a ≠ b → (TX9 a).2.1 ≠ (TX9 b).2.1 := by decide +kernel
theorem tyX9_ok : ∀ k, k < 18 → parseFieldDescriptor (TX9 k).2.2.1 = some (tyX9 k) := by decide +kernel
abbrev cX9_init : ByteArray := prog_11_method_1_code
def yX9_init : MethodName := ⟨RX9, "<init>", "()V"⟩
abbrev cX9_in : ByteArray := prog_11_method_2_code
def yX9_in : MethodName := ⟨RX9, "in", "(III)Z"⟩
abbrev cX9_is : ByteArray := prog_11_method_3_code
def yX9_is : MethodName := ⟨RX9, "is", "(II)Z"⟩
abbrev cX9_isYear : ByteArray := prog_11_method_4_code
def yX9_isYear : MethodName := ⟨RX9, "isYear", "(I)Z"⟩
abbrev cX9_came : ByteArray := prog_11_method_5_code
def yX9_came : MethodName := ⟨RX9, "came", "(I)I"⟩
abbrev cX9_room : ByteArray := prog_11_method_6_code
def yX9_room : MethodName := ⟨RX9, "room", "(I)I"⟩
abbrev cX9_reading : ByteArray := prog_11_method_7_code
def yX9_reading : MethodName := ⟨RX9, "reading", "(III)I"⟩
abbrev cX9_lightOf : ByteArray := prog_11_method_8_code
def yX9_lightOf : MethodName := ⟨RX9, "lightOf", "(IIZ)I"⟩
abbrev cX9_light : ByteArray := prog_11_method_9_code
def yX9_light : MethodName := ⟨RX9, "light", "(IIZ)I"⟩
abbrev cX9_sheet : ByteArray := prog_11_method_10_code
def yX9_sheet : MethodName := ⟨RX9, "sheet", "(IIII)I"⟩
abbrev cX9_sisterOf : ByteArray := prog_11_method_11_code
def yX9_sisterOf : MethodName := ⟨RX9, "sisterOf", "(I)I"⟩
abbrev cX9_sisters : ByteArray := prog_11_method_12_code
def yX9_sisters : MethodName := ⟨RX9, "sisters", "(II)I"⟩
abbrev cX9_past : ByteArray := prog_11_method_13_code
def yX9_past : MethodName := ⟨RX9, "past", "(III)I"⟩
abbrev cX9_isHere : ByteArray := prog_11_method_14_code
def yX9_isHere : MethodName := ⟨RX9, "isHere", "(II)Z"⟩
abbrev cX9_spends : ByteArray := prog_11_method_15_code
def yX9_spends : MethodName := ⟨RX9, "spends", "(IZ)I"⟩
abbrev cX9_booked : ByteArray := prog_11_method_16_code
def yX9_booked : MethodName := ⟨RX9, "booked", "(IIZ)I"⟩
abbrev cX9_findPast : ByteArray := prog_11_method_17_code
def yX9_findPast : MethodName := ⟨RX9, "findPast", "(I)V"⟩
abbrev cX9_spentOf : ByteArray := prog_11_method_18_code
def yX9_spentOf : MethodName := ⟨RX9, "spentOf", "(IIZ)I"⟩
abbrev cX9_leastLeft : ByteArray := prog_11_method_19_code
def yX9_leastLeft : MethodName := ⟨RX9, "leastLeft", "(I)I"⟩
abbrev cX9_bookedMany : ByteArray := prog_11_method_20_code
def yX9_bookedMany : MethodName := ⟨RX9, "bookedMany", "(I)I"⟩
abbrev cX9_threadMany : ByteArray := prog_11_method_21_code
def yX9_threadMany : MethodName := ⟨RX9, "threadMany", "(I)I"⟩
abbrev cX9_of : ByteArray := prog_11_method_22_code
def yX9_of : MethodName := ⟨RX9, "of", "(II)I"⟩
abbrev cX9_books : ByteArray := prog_11_method_23_code
def yX9_books : MethodName := ⟨RX9, "books", "(IIII)I"⟩
abbrev cX9_isShown : ByteArray := prog_11_method_24_code
def yX9_isShown : MethodName := ⟨RX9, "isShown", "(II)Z"⟩
abbrev cX9_show : ByteArray := prog_11_method_25_code
def yX9_show : MethodName := ⟨RX9, "show", "(III)I"⟩
abbrev cX9_lend : ByteArray := prog_11_method_26_code
def yX9_lend : MethodName := ⟨RX9, "lend", "(III)I"⟩
abbrev cX9_lacks : ByteArray := prog_11_method_27_code
def yX9_lacks : MethodName := ⟨RX9, "lacks", "(II)I"⟩
abbrev cX9_cancel : ByteArray := prog_11_method_28_code
def yX9_cancel : MethodName := ⟨RX9, "cancel", "(I)I"⟩
abbrev cX9_booking : ByteArray := prog_11_method_29_code
def yX9_booking : MethodName := ⟨RX9, "booking", "(II)I"⟩
abbrev cX9_thread : ByteArray := prog_11_method_30_code
def yX9_thread : MethodName := ⟨RX9, "thread", "(III)I"⟩
abbrev cX9_cut : ByteArray := prog_11_method_31_code
def yX9_cut : MethodName := ⟨RX9, "cut", "()I"⟩
abbrev cX9_pastOf : ByteArray := prog_11_method_32_code
def yX9_pastOf : MethodName := ⟨RX9, "pastOf", "(IZ)I"⟩
abbrev cX9_spent : ByteArray := prog_11_method_33_code
def yX9_spent : MethodName := ⟨RX9, "spent", "(IIZ)I"⟩
abbrev cX9_left : ByteArray := prog_11_method_34_code
def yX9_left : MethodName := ⟨RX9, "left", "(IZ)I"⟩
abbrev cX9_step : ByteArray := prog_11_method_35_code
def yX9_step : MethodName := ⟨RX9, "step", "(IIZ)I"⟩
abbrev cX9_wall : ByteArray := prog_11_method_36_code
def yX9_wall : MethodName := ⟨RX9, "wall", "(III)I"⟩
abbrev cX9_strip : ByteArray := prog_11_method_37_code
def yX9_strip : MethodName := ⟨RX9, "strip", "()I"⟩
abbrev cX9_away : ByteArray := prog_11_method_38_code
def yX9_away : MethodName := ⟨RX9, "away", "(II)I"⟩
abbrev cX9_rests : ByteArray := prog_11_method_39_code
def yX9_rests : MethodName := ⟨RX9, "rests", "(II)Z"⟩
abbrev cX9_fits : ByteArray := prog_11_method_40_code
def yX9_fits : MethodName := ⟨RX9, "fits", "(I)Z"⟩
abbrev cX9_valueOf : ByteArray := prog_11_method_41_code
def yX9_valueOf : MethodName := ⟨RX9, "valueOf", "(I)I"⟩
abbrev cX9_findHang : ByteArray := prog_11_method_42_code
def yX9_findHang : MethodName := ⟨RX9, "findHang", "()V"⟩
abbrev cX9_takes : ByteArray := prog_11_method_43_code
def yX9_takes : MethodName := ⟨RX9, "takes", "()V"⟩
abbrev cX9_hung : ByteArray := prog_11_method_44_code
def yX9_hung : MethodName := ⟨RX9, "hung", "(I)I"⟩
abbrev cX9_worth : ByteArray := prog_11_method_45_code
def yX9_worth : MethodName := ⟨RX9, "worth", "()I"⟩
abbrev cX9_spares : ByteArray := prog_11_method_46_code
def yX9_spares : MethodName := ⟨RX9, "spares", "(I)I"⟩
abbrev cX9_hang : ByteArray := prog_11_method_47_code
def yX9_hang : MethodName := ⟨RX9, "hang", "()I"⟩
abbrev cX9_cancelled : ByteArray := prog_11_method_48_code
def yX9_cancelled : MethodName := ⟨RX9, "cancelled", "()I"⟩
abbrev cX9_quarrels : ByteArray := prog_11_method_49_code
def yX9_quarrels : MethodName := ⟨RX9, "quarrels", "()I"⟩
abbrev cX9_overspent : ByteArray := prog_11_method_50_code
def yX9_overspent : MethodName := ⟨RX9, "overspent", "()I"⟩
abbrev cX9_readMany : ByteArray := prog_11_method_51_code
def yX9_readMany : MethodName := ⟨RX9, "readMany", "()I"⟩
abbrev cX9_many : ByteArray := prog_11_method_52_code
def yX9_many : MethodName := ⟨RX9, "many", "(I)I"⟩
abbrev cX9_move : ByteArray := prog_11_method_53_code
def yX9_move : MethodName := ⟨RX9, "move", "([IIZ)V"⟩
abbrev cX9_moveAll : ByteArray := prog_11_method_54_code
def yX9_moveAll : MethodName := ⟨RX9, "moveAll", "(Z)V"⟩
abbrev cX9_keep : ByteArray := prog_11_method_55_code
def yX9_keep : MethodName := ⟨RX9, "keep", "()I"⟩
abbrev cX9_back : ByteArray := prog_11_method_56_code
def yX9_back : MethodName := ⟨RX9, "back", "()I"⟩
def RJ9 : String := "java/lang/Math"
def TJ9 : u_T := fun k => match k with
  | _ => ("", "", "", false)
def tyJ9 : Nat → FieldType := fun k => match k with
  | _ => .int
abbrev wsJ90 : List Cond := u_ws RJ9 TJ9 0
theorem nmJ9 : ∀ a, a < 0 → ∀ b, b < 0 → a ≠ b → (TJ9 a).2.1 ≠ (TJ9 b).2.1 := by decide +kernel
theorem tyJ9_ok : ∀ k, k < 0 → parseFieldDescriptor (TJ9 k).2.2.1 = some (tyJ9 k) := by decide +kernel
abbrev cJ9_abs_0f7a4 : ByteArray := prog_12_method_59_code
def yJ9_abs_0f7a4 : MethodName := ⟨RJ9, "abs", "(I)I"⟩
abbrev cJ9_max_7cf53 : ByteArray := prog_12_method_65_code
def yJ9_max_7cf53 : MethodName := ⟨RJ9, "max", "(II)I"⟩
abbrev cJ9_min_7cf53 : ByteArray := prog_12_method_69_code
def yJ9_min_7cf53 : MethodName := ⟨RJ9, "min", "(II)I"⟩
def RJ10 : String := "java/lang/System"
def TJ10 : u_T := fun k => match k with
  | _ => ("", "", "", false)
def tyJ10 : Nat → FieldType := fun k => match k with
  | _ => .int
abbrev wsJ100 : List Cond := u_ws RJ10 TJ10 0
theorem nmJ10 : ∀ a, a < 0 → ∀ b, b < 0 → a ≠ b → (TJ10 a).2.1 ≠ (TJ10 b).2.1 := by decide +kernel
theorem tyJ10_ok : ∀ k, k < 0 → parseFieldDescriptor (TJ10 k).2.2.1 = some (tyJ10 k) := by decide +kernel
def RL : String := "LightHoursLaw"
abbrev cL_law : ByteArray := code
def yL_law : MethodName := ⟨RL, "law", "([I)Z"⟩
end
section
/-- the words that stay: what every method of ours may ask of the tables -/
def GT : List Cond := lw_tbl.filter goodWord
theorem gt_at (i : Nat) {w : Cond} (h : lw_tbl[i]? = some w) (hg : goodWord w = true) : w ∈ GT := List.mem_filter.mpr ⟨List.mem_of_getElem? h, hg⟩
theorem gt_good {w : Cond} (h : w ∈ GT) : (w.onTables && w.keeps) = true ∨ ∃ ty, w = .arrayClass ty := good_of_word (List.mem_filter.mp h).2
theorem wd_0 : (Cond.selects (⟨"LightHours", "changed", "(I)I"⟩ : MethodName).cls ⟨"LightHours", "changed", "(I)I"⟩ ⟨"LightHours", "changed", "(I)I"⟩) ∈ GT := gt_at 0 (by decide +kernel) (by decide +kernel)
theorem wd_1 : (Cond.selects (⟨"LightHours$Ledger", "sumSpends", "()V"⟩ : MethodName).cls ⟨"LightHours$Ledger", "sumSpends", "()V"⟩ ⟨"LightHours$Ledger", "sumSpends", "()V"⟩) ∈ GT := gt_at 1 (by decide +kernel) (by decide +kernel)
theorem wd_2 : (Cond.selects (⟨"LightHours$Ledger", "narrowPast", "()V"⟩ : MethodName).cls ⟨"LightHours$Ledger", "narrowPast", "()V"⟩ ⟨"LightHours$Ledger", "narrowPast", "()V"⟩) ∈ GT := gt_at 2 (by decide +kernel) (by decide +kernel)
theorem wd_3 : (Cond.selects (⟨"LightHours$Bookings", "add", "(IIII)I"⟩ : MethodName).cls ⟨"LightHours$Bookings", "add", "(IIII)I"⟩ ⟨"LightHours$Bookings", "add", "(IIII)I"⟩) ∈ GT := gt_at 3 (by decide +kernel) (by decide +kernel)
theorem wd_4 : (Cond.selects (⟨"LightHours$Hanging", "prepare", "()V"⟩ : MethodName).cls ⟨"LightHours$Hanging", "prepare", "()V"⟩ ⟨"LightHours$Hanging", "prepare", "()V"⟩) ∈ GT := gt_at 4 (by decide +kernel) (by decide +kernel)
theorem wd_5 : (Cond.selects (⟨"LightHours$Hanging", "sheetsFor", "(I)I"⟩ : MethodName).cls ⟨"LightHours$Hanging", "sheetsFor", "(I)I"⟩ ⟨"LightHours$Hanging", "sheetsFor", "(I)I"⟩) ∈ GT := gt_at 5 (by decide +kernel) (by decide +kernel)
theorem wd_6 : (Cond.selects (⟨"LightHours$Hanging", "shownTooNear", "(II)Z"⟩ : MethodName).cls ⟨"LightHours$Hanging", "shownTooNear", "(II)Z"⟩ ⟨"LightHours$Hanging", "shownTooNear", "(II)Z"⟩) ∈ GT := gt_at 6 (by decide +kernel) (by decide +kernel)
theorem wd_7 : (Cond.selects (⟨"LightHours$Hanging", "takeIfBetter", "(I)V"⟩ : MethodName).cls ⟨"LightHours$Hanging", "takeIfBetter", "(I)V"⟩ ⟨"LightHours$Hanging", "takeIfBetter", "(I)V"⟩) ∈ GT := gt_at 7 (by decide +kernel) (by decide +kernel)
theorem wd_8 : (Cond.selects (⟨"LightHours$Hanging", "fits", "(II)Z"⟩ : MethodName).cls ⟨"LightHours$Hanging", "fits", "(II)Z"⟩ ⟨"LightHours$Hanging", "fits", "(II)Z"⟩) ∈ GT := gt_at 8 (by decide +kernel) (by decide +kernel)
theorem wd_9 : (Cond.selects (⟨"LightHoursModel", "came", "(I)I"⟩ : MethodName).cls ⟨"LightHoursModel", "came", "(I)I"⟩ ⟨"LightHoursModel", "came", "(I)I"⟩) ∈ GT := gt_at 9 (by decide +kernel) (by decide +kernel)
theorem wd_10 : (Cond.selects (⟨"LightHoursModel", "is", "(II)Z"⟩ : MethodName).cls ⟨"LightHoursModel", "is", "(II)Z"⟩ ⟨"LightHoursModel", "is", "(II)Z"⟩) ∈ GT := gt_at 10 (by decide +kernel) (by decide +kernel)
theorem wd_11 : (Cond.selects (⟨"LightHoursModel", "lightOf", "(IIZ)I"⟩ : MethodName).cls ⟨"LightHoursModel", "lightOf", "(IIZ)I"⟩ ⟨"LightHoursModel", "lightOf", "(IIZ)I"⟩) ∈ GT := gt_at 11 (by decide +kernel) (by decide +kernel)
theorem wd_12 : (Cond.selects (⟨"LightHoursModel", "sisterOf", "(I)I"⟩ : MethodName).cls ⟨"LightHoursModel", "sisterOf", "(I)I"⟩ ⟨"LightHoursModel", "sisterOf", "(I)I"⟩) ∈ GT := gt_at 12 (by decide +kernel) (by decide +kernel)
theorem wd_13 : (Cond.selects (⟨"LightHoursModel", "findPast", "(I)V"⟩ : MethodName).cls ⟨"LightHoursModel", "findPast", "(I)V"⟩ ⟨"LightHoursModel", "findPast", "(I)V"⟩) ∈ GT := gt_at 13 (by decide +kernel) (by decide +kernel)
theorem wd_14 : (Cond.selects (⟨"LightHoursModel", "booked", "(IIZ)I"⟩ : MethodName).cls ⟨"LightHoursModel", "booked", "(IIZ)I"⟩ ⟨"LightHoursModel", "booked", "(IIZ)I"⟩) ∈ GT := gt_at 14 (by decide +kernel) (by decide +kernel)
theorem wd_15 : (Cond.selects (⟨"LightHoursModel", "isHere", "(II)Z"⟩ : MethodName).cls ⟨"LightHoursModel", "isHere", "(II)Z"⟩ ⟨"LightHoursModel", "isHere", "(II)Z"⟩) ∈ GT := gt_at 15 (by decide +kernel) (by decide +kernel)
theorem wd_16 : (Cond.selects (⟨"LightHoursModel", "spends", "(IZ)I"⟩ : MethodName).cls ⟨"LightHoursModel", "spends", "(IZ)I"⟩ ⟨"LightHoursModel", "spends", "(IZ)I"⟩) ∈ GT := gt_at 16 (by decide +kernel) (by decide +kernel)
theorem wd_17 : (Cond.selects (⟨"LightHoursModel", "bookedMany", "(I)I"⟩ : MethodName).cls ⟨"LightHoursModel", "bookedMany", "(I)I"⟩ ⟨"LightHoursModel", "bookedMany", "(I)I"⟩) ∈ GT := gt_at 17 (by decide +kernel) (by decide +kernel)
theorem wd_18 : (Cond.selects (⟨"LightHoursModel", "threadMany", "(I)I"⟩ : MethodName).cls ⟨"LightHoursModel", "threadMany", "(I)I"⟩ ⟨"LightHoursModel", "threadMany", "(I)I"⟩) ∈ GT := gt_at 18 (by decide +kernel) (by decide +kernel)
theorem wd_19 : (Cond.selects (⟨"LightHoursModel", "isShown", "(II)Z"⟩ : MethodName).cls ⟨"LightHoursModel", "isShown", "(II)Z"⟩ ⟨"LightHoursModel", "isShown", "(II)Z"⟩) ∈ GT := gt_at 19 (by decide +kernel) (by decide +kernel)
theorem wd_20 : (Cond.selects (⟨"LightHoursModel", "books", "(IIII)I"⟩ : MethodName).cls ⟨"LightHoursModel", "books", "(IIII)I"⟩ ⟨"LightHoursModel", "books", "(IIII)I"⟩) ∈ GT := gt_at 20 (by decide +kernel) (by decide +kernel)
theorem wd_21 : (Cond.selects (⟨"LightHoursModel", "leastLeft", "(I)I"⟩ : MethodName).cls ⟨"LightHoursModel", "leastLeft", "(I)I"⟩ ⟨"LightHoursModel", "leastLeft", "(I)I"⟩) ∈ GT := gt_at 21 (by decide +kernel) (by decide +kernel)
theorem wd_22 : (Cond.selects (⟨"LightHoursModel", "spentOf", "(IIZ)I"⟩ : MethodName).cls ⟨"LightHoursModel", "spentOf", "(IIZ)I"⟩ ⟨"LightHoursModel", "spentOf", "(IIZ)I"⟩) ∈ GT := gt_at 22 (by decide +kernel) (by decide +kernel)
theorem wd_23 : (Cond.selects (⟨"LightHoursModel", "findHang", "()V"⟩ : MethodName).cls ⟨"LightHoursModel", "findHang", "()V"⟩ ⟨"LightHoursModel", "findHang", "()V"⟩) ∈ GT := gt_at 23 (by decide +kernel) (by decide +kernel)
theorem wd_24 : (Cond.selects (⟨"LightHoursModel", "takes", "()V"⟩ : MethodName).cls ⟨"LightHoursModel", "takes", "()V"⟩ ⟨"LightHoursModel", "takes", "()V"⟩) ∈ GT := gt_at 24 (by decide +kernel) (by decide +kernel)
theorem wd_25 : (Cond.selects (⟨"LightHoursModel", "valueOf", "(I)I"⟩ : MethodName).cls ⟨"LightHoursModel", "valueOf", "(I)I"⟩ ⟨"LightHoursModel", "valueOf", "(I)I"⟩) ∈ GT := gt_at 25 (by decide +kernel) (by decide +kernel)
theorem wd_26 : (Cond.selects (⟨"LightHoursModel", "fits", "(I)Z"⟩ : MethodName).cls ⟨"LightHoursModel", "fits", "(I)Z"⟩ ⟨"LightHoursModel", "fits", "(I)Z"⟩) ∈ GT := gt_at 26 (by decide +kernel) (by decide +kernel)
theorem wd_27 : (Cond.selects (⟨"LightHoursModel", "rests", "(II)Z"⟩ : MethodName).cls ⟨"LightHoursModel", "rests", "(II)Z"⟩ ⟨"LightHoursModel", "rests", "(II)Z"⟩) ∈ GT := gt_at 27 (by decide +kernel) (by decide +kernel)
theorem wd_28 : (Cond.selects (⟨"LightHoursModel", "cancelled", "()I"⟩ : MethodName).cls ⟨"LightHoursModel", "cancelled", "()I"⟩ ⟨"LightHoursModel", "cancelled", "()I"⟩) ∈ GT := gt_at 28 (by decide +kernel) (by decide +kernel)
theorem wd_29 : (Cond.selects (⟨"LightHoursModel", "quarrels", "()I"⟩ : MethodName).cls ⟨"LightHoursModel", "quarrels", "()I"⟩ ⟨"LightHoursModel", "quarrels", "()I"⟩) ∈ GT := gt_at 29 (by decide +kernel) (by decide +kernel)
theorem wd_30 : (Cond.selects (⟨"LightHoursModel", "overspent", "()I"⟩ : MethodName).cls ⟨"LightHoursModel", "overspent", "()I"⟩ ⟨"LightHoursModel", "overspent", "()I"⟩) ∈ GT := gt_at 30 (by decide +kernel) (by decide +kernel)
theorem wd_31 : (Cond.selects (⟨"LightHoursModel", "readMany", "()I"⟩ : MethodName).cls ⟨"LightHoursModel", "readMany", "()I"⟩ ⟨"LightHoursModel", "readMany", "()I"⟩) ∈ GT := gt_at 31 (by decide +kernel) (by decide +kernel)
theorem wd_32 : (Cond.selects (⟨"LightHoursModel", "moveAll", "(Z)V"⟩ : MethodName).cls ⟨"LightHoursModel", "moveAll", "(Z)V"⟩ ⟨"LightHoursModel", "moveAll", "(Z)V"⟩) ∈ GT := gt_at 32 (by decide +kernel) (by decide +kernel)
theorem wd_33 : (Cond.selects (⟨"LightHoursModel", "move", "([IIZ)V"⟩ : MethodName).cls ⟨"LightHoursModel", "move", "([IIZ)V"⟩ ⟨"LightHoursModel", "move", "([IIZ)V"⟩) ∈ GT := gt_at 33 (by decide +kernel) (by decide +kernel)
theorem wd_34 : (Jvm.Cond.initialized "LightHoursLaw") ∈ GT := gt_at 34 (by decide +kernel) (by decide +kernel)
theorem wd_35 : (Jvm.Cond.initialized "LightHours") ∈ GT := gt_at 35 (by decide +kernel) (by decide +kernel)
theorem wd_36 : (Jvm.Cond.initialized "LightHours$House") ∈ GT := gt_at 36 (by decide +kernel) (by decide +kernel)
theorem wd_37 : (Jvm.Cond.initialized "LightHours$Rooms") ∈ GT := gt_at 37 (by decide +kernel) (by decide +kernel)
theorem wd_38 : (Jvm.Cond.initialized "LightHours$Sheets") ∈ GT := gt_at 38 (by decide +kernel) (by decide +kernel)
theorem wd_39 : (Jvm.Cond.initialized "LightHours$Bookings") ∈ GT := gt_at 39 (by decide +kernel) (by decide +kernel)
theorem wd_40 : (Jvm.Cond.initialized "LightHours$Threads") ∈ GT := gt_at 40 (by decide +kernel) (by decide +kernel)
theorem wd_41 : (Jvm.Cond.initialized "LightHours$Walls") ∈ GT := gt_at 41 (by decide +kernel) (by decide +kernel)
theorem wd_42 : (Jvm.Cond.initialized "LightHours$Ledger") ∈ GT := gt_at 42 (by decide +kernel) (by decide +kernel)
theorem wd_43 : (Jvm.Cond.initialized "LightHours$Hanging") ∈ GT := gt_at 43 (by decide +kernel) (by decide +kernel)
theorem wd_44 : (Jvm.Cond.initialized "LightHoursModel") ∈ GT := gt_at 44 (by decide +kernel) (by decide +kernel)
theorem wd_45 : (Jvm.Cond.initialized "java/lang/Math") ∈ GT := gt_at 45 (by decide +kernel) (by decide +kernel)
theorem wd_46 : (Jvm.Cond.initialized "java/lang/System") ∈ GT := gt_at 46 (by decide +kernel) (by decide +kernel)
theorem wd_47 : (Jvm.Cond.classLink "LightHoursLaw" (7 : Nat) "LightHours") ∈ GT := gt_at 47 (by decide +kernel) (by decide +kernel)
theorem wd_48 : (Jvm.Cond.instantiable "LightHours" (4 : Nat)) ∈ GT := gt_at 48 (by decide +kernel) (by decide +kernel)
theorem wd_49 : (Jvm.Cond.methodLink "LightHoursLaw" (9 : Nat) ({ cls := "LightHours", name := "<init>", desc := "()V" } : Jvm.MethodName)) ∈ GT := gt_at 49 (by decide +kernel) (by decide +kernel)
theorem wd_50 : (Jvm.Cond.instanceMethod ({ cls := "LightHours", name := "<init>", desc := "()V" } : Jvm.MethodName)) ∈ GT := gt_at 50 (by decide +kernel) (by decide +kernel)
theorem wd_51 : (Jvm.Cond.code ({ cls := "LightHours", name := "<init>", desc := "()V" } : Jvm.MethodName) prog_1_method_1_code (3 : Nat) (Option.none : Option Jvm.ClassFile.FieldType)) ∈ GT := gt_at 51 (by decide +kernel) (by decide +kernel)
theorem wd_52 : (Jvm.Cond.methodLink "LightHours" (1 : Nat) ({ cls := "java/lang/Object", name := "<init>", desc := "()V" } : Jvm.MethodName)) ∈ GT := gt_at 52 (by decide +kernel) (by decide +kernel)
theorem wd_53 : (Jvm.Cond.instanceMethod ({ cls := "java/lang/Object", name := "<init>", desc := "()V" } : Jvm.MethodName)) ∈ GT := gt_at 53 (by decide +kernel) (by decide +kernel)
theorem wd_54 : (Jvm.Cond.code ({ cls := "java/lang/Object", name := "<init>", desc := "()V" } : Jvm.MethodName) object_method_1_code (1 : Nat) (Option.none : Option Jvm.ClassFile.FieldType)) ∈ GT := gt_at 54 (by decide +kernel) (by decide +kernel)
theorem wd_55 : (Jvm.Cond.classLink "LightHours" (7 : Nat) "LightHours$House") ∈ GT := gt_at 55 (by decide +kernel) (by decide +kernel)
theorem wd_56 : (Jvm.Cond.instantiable "LightHours$House" (5 : Nat)) ∈ GT := gt_at 56 (by decide +kernel) (by decide +kernel)
theorem wn_57 : (Jvm.Cond.methodLinkNest "LightHours" (9 : Nat) ({ cls := "LightHours$House", name := "<init>", desc := "()V" } : Jvm.MethodName) "LightHours") ∈ lw_tbl := List.mem_of_getElem? (i := 57) (by decide +kernel)
theorem wd_58 : (Jvm.Cond.instanceMethod ({ cls := "LightHours$House", name := "<init>", desc := "()V" } : Jvm.MethodName)) ∈ GT := gt_at 58 (by decide +kernel) (by decide +kernel)
theorem wd_59 : (Jvm.Cond.code ({ cls := "LightHours$House", name := "<init>", desc := "()V" } : Jvm.MethodName) prog_4_method_1_code (1 : Nat) (Option.none : Option Jvm.ClassFile.FieldType)) ∈ GT := gt_at 59 (by decide +kernel) (by decide +kernel)
theorem wd_60 : (Jvm.Cond.methodLink "LightHours$House" (1 : Nat) ({ cls := "java/lang/Object", name := "<init>", desc := "()V" } : Jvm.MethodName)) ∈ GT := gt_at 60 (by decide +kernel) (by decide +kernel)
theorem wd_61 : (Jvm.Cond.classLink "LightHours$House" (7 : Nat) "LightHours$Rooms") ∈ GT := gt_at 61 (by decide +kernel) (by decide +kernel)
theorem wd_62 : (Jvm.Cond.instantiable "LightHours$Rooms" (3 : Nat)) ∈ GT := gt_at 62 (by decide +kernel) (by decide +kernel)
theorem wn_63 : (Jvm.Cond.methodLinkNest "LightHours$House" (9 : Nat) ({ cls := "LightHours$Rooms", name := "<init>", desc := "()V" } : Jvm.MethodName) "LightHours") ∈ lw_tbl := List.mem_of_getElem? (i := 63) (by decide +kernel)
theorem wd_64 : (Jvm.Cond.instanceMethod ({ cls := "LightHours$Rooms", name := "<init>", desc := "()V" } : Jvm.MethodName)) ∈ GT := gt_at 64 (by decide +kernel) (by decide +kernel)
theorem wd_65 : (Jvm.Cond.code ({ cls := "LightHours$Rooms", name := "<init>", desc := "()V" } : Jvm.MethodName) prog_6_method_1_code (1 : Nat) (Option.none : Option Jvm.ClassFile.FieldType)) ∈ GT := gt_at 65 (by decide +kernel) (by decide +kernel)
theorem wd_66 : (Jvm.Cond.methodLink "LightHours$Rooms" (3 : Nat) ({ cls := "java/lang/Object", name := "<init>", desc := "()V" } : Jvm.MethodName)) ∈ GT := gt_at 66 (by decide +kernel) (by decide +kernel)
theorem wd_67 : (Jvm.Cond.fieldLink "LightHours$Rooms" (9 : Nat) "LightHours$Rooms" "count" "I") ∈ GT := gt_at 67 (by decide +kernel) (by decide +kernel)
theorem wd_68 : (Jvm.Cond.fieldLink "LightHours" (45 : Nat) "LightHours$Rooms" "count" "I") ∈ GT := gt_at 68 (by decide +kernel) (by decide +kernel)
theorem wd_69 : (Jvm.Cond.fieldLink "LightHours$Rooms" (15 : Nat) "LightHours$Rooms" "worst" "[I") ∈ GT := gt_at 69 (by decide +kernel) (by decide +kernel)
theorem wd_70 : (Jvm.Cond.fieldLink "LightHours" (65 : Nat) "LightHours$Rooms" "worst" "[I") ∈ GT := gt_at 70 (by decide +kernel) (by decide +kernel)
theorem wd_71 : (Jvm.Cond.fieldLink "LightHours$Rooms" (19 : Nat) "LightHours$Rooms" "readings" "[I") ∈ GT := gt_at 71 (by decide +kernel) (by decide +kernel)
theorem wd_72 : (Jvm.Cond.lays "LightHours$Rooms" "LightHours$Rooms" "count" "I") ∈ GT := gt_at 72 (by decide +kernel) (by decide +kernel)
theorem wd_74 : (Jvm.Cond.laysFinal "LightHours$Rooms" "LightHours$Rooms" "worst" "[I") ∈ GT := gt_at 74 (by decide +kernel) (by decide +kernel)
theorem wd_76 : (Jvm.Cond.laysFinal "LightHours$Rooms" "LightHours$Rooms" "readings" "[I") ∈ GT := gt_at 76 (by decide +kernel) (by decide +kernel)
theorem wd_79 : (Jvm.Cond.arrayClass Jvm.ClassFile.FieldType.int) ∈ GT := gt_at 79 (by decide +kernel) (by decide +kernel)
theorem wd_80 : (Jvm.Cond.classLink "LightHours$House" (16 : Nat) "LightHours$Sheets") ∈ GT := gt_at 80 (by decide +kernel) (by decide +kernel)
theorem wd_81 : (Jvm.Cond.instantiable "LightHours$Sheets" (8 : Nat)) ∈ GT := gt_at 81 (by decide +kernel) (by decide +kernel)
theorem wn_82 : (Jvm.Cond.methodLinkNest "LightHours$House" (18 : Nat) ({ cls := "LightHours$Sheets", name := "<init>", desc := "()V" } : Jvm.MethodName) "LightHours") ∈ lw_tbl := List.mem_of_getElem? (i := 82) (by decide +kernel)
theorem wd_83 : (Jvm.Cond.instanceMethod ({ cls := "LightHours$Sheets", name := "<init>", desc := "()V" } : Jvm.MethodName)) ∈ GT := gt_at 83 (by decide +kernel) (by decide +kernel)
theorem wd_84 : (Jvm.Cond.code ({ cls := "LightHours$Sheets", name := "<init>", desc := "()V" } : Jvm.MethodName) prog_7_method_1_code (1 : Nat) (Option.none : Option Jvm.ClassFile.FieldType)) ∈ GT := gt_at 84 (by decide +kernel) (by decide +kernel)
theorem wd_85 : (Jvm.Cond.methodLink "LightHours$Sheets" (3 : Nat) ({ cls := "java/lang/Object", name := "<init>", desc := "()V" } : Jvm.MethodName)) ∈ GT := gt_at 85 (by decide +kernel) (by decide +kernel)
theorem wd_86 : (Jvm.Cond.fieldLink "LightHours$Sheets" (9 : Nat) "LightHours$Sheets" "count" "I") ∈ GT := gt_at 86 (by decide +kernel) (by decide +kernel)
theorem wd_87 : (Jvm.Cond.fieldLink "LightHours$Hanging" (68 : Nat) "LightHours$Sheets" "count" "I") ∈ GT := gt_at 87 (by decide +kernel) (by decide +kernel)
theorem wd_88 : (Jvm.Cond.fieldLink "LightHours" (81 : Nat) "LightHours$Sheets" "count" "I") ∈ GT := gt_at 88 (by decide +kernel) (by decide +kernel)
theorem wd_89 : (Jvm.Cond.fieldLink "LightHours$Ledger" (107 : Nat) "LightHours$Sheets" "count" "I") ∈ GT := gt_at 89 (by decide +kernel) (by decide +kernel)
theorem wd_90 : (Jvm.Cond.fieldLink "LightHours$Sheets" (15 : Nat) "LightHours$Sheets" "limit" "[I") ∈ GT := gt_at 90 (by decide +kernel) (by decide +kernel)
theorem wd_91 : (Jvm.Cond.fieldLink "LightHours$Ledger" (101 : Nat) "LightHours$Sheets" "limit" "[I") ∈ GT := gt_at 91 (by decide +kernel) (by decide +kernel)
theorem wd_92 : (Jvm.Cond.fieldLink "LightHours" (97 : Nat) "LightHours$Sheets" "limit" "[I") ∈ GT := gt_at 92 (by decide +kernel) (by decide +kernel)
theorem wd_93 : (Jvm.Cond.fieldLink "LightHours$Sheets" (19 : Nat) "LightHours$Sheets" "themes" "[I") ∈ GT := gt_at 93 (by decide +kernel) (by decide +kernel)
theorem wd_94 : (Jvm.Cond.fieldLink "LightHours" (100 : Nat) "LightHours$Sheets" "themes" "[I") ∈ GT := gt_at 94 (by decide +kernel) (by decide +kernel)
theorem wd_95 : (Jvm.Cond.fieldLink "LightHours$Sheets" (22 : Nat) "LightHours$Sheets" "value" "[I") ∈ GT := gt_at 95 (by decide +kernel) (by decide +kernel)
theorem wd_96 : (Jvm.Cond.fieldLink "LightHours$Hanging" (134 : Nat) "LightHours$Sheets" "value" "[I") ∈ GT := gt_at 96 (by decide +kernel) (by decide +kernel)
theorem wd_97 : (Jvm.Cond.fieldLink "LightHours" (103 : Nat) "LightHours$Sheets" "value" "[I") ∈ GT := gt_at 97 (by decide +kernel) (by decide +kernel)
theorem wd_98 : (Jvm.Cond.fieldLink "LightHours$Sheets" (25 : Nat) "LightHours$Sheets" "rest" "[I") ∈ GT := gt_at 98 (by decide +kernel) (by decide +kernel)
theorem wd_99 : (Jvm.Cond.fieldLink "LightHours$Hanging" (115 : Nat) "LightHours$Sheets" "rest" "[I") ∈ GT := gt_at 99 (by decide +kernel) (by decide +kernel)
theorem wd_100 : (Jvm.Cond.fieldLink "LightHours" (106 : Nat) "LightHours$Sheets" "rest" "[I") ∈ GT := gt_at 100 (by decide +kernel) (by decide +kernel)
theorem wd_101 : (Jvm.Cond.fieldLink "LightHours$Sheets" (28 : Nat) "LightHours$Sheets" "sister" "[I") ∈ GT := gt_at 101 (by decide +kernel) (by decide +kernel)
theorem wd_102 : (Jvm.Cond.fieldLink "LightHours" (88 : Nat) "LightHours$Sheets" "sister" "[I") ∈ GT := gt_at 102 (by decide +kernel) (by decide +kernel)
theorem wd_103 : (Jvm.Cond.fieldLink "LightHours$Hanging" (124 : Nat) "LightHours$Sheets" "sister" "[I") ∈ GT := gt_at 103 (by decide +kernel) (by decide +kernel)
theorem wd_104 : (Jvm.Cond.fieldLink "LightHours$Sheets" (31 : Nat) "LightHours$Sheets" "toldLeast" "[I") ∈ GT := gt_at 104 (by decide +kernel) (by decide +kernel)
theorem wd_105 : (Jvm.Cond.fieldLink "LightHours$Ledger" (68 : Nat) "LightHours$Sheets" "toldLeast" "[I") ∈ GT := gt_at 105 (by decide +kernel) (by decide +kernel)
theorem wd_106 : (Jvm.Cond.fieldLink "LightHours" (91 : Nat) "LightHours$Sheets" "toldLeast" "[I") ∈ GT := gt_at 106 (by decide +kernel) (by decide +kernel)
theorem wd_107 : (Jvm.Cond.fieldLink "LightHours$Sheets" (34 : Nat) "LightHours$Sheets" "toldGreatest" "[I") ∈ GT := gt_at 107 (by decide +kernel) (by decide +kernel)
theorem wd_108 : (Jvm.Cond.fieldLink "LightHours$Ledger" (73 : Nat) "LightHours$Sheets" "toldGreatest" "[I") ∈ GT := gt_at 108 (by decide +kernel) (by decide +kernel)
theorem wd_109 : (Jvm.Cond.fieldLink "LightHours" (94 : Nat) "LightHours$Sheets" "toldGreatest" "[I") ∈ GT := gt_at 109 (by decide +kernel) (by decide +kernel)
theorem wd_110 : (Jvm.Cond.lays "LightHours$Sheets" "LightHours$Sheets" "count" "I") ∈ GT := gt_at 110 (by decide +kernel) (by decide +kernel)
theorem wd_112 : (Jvm.Cond.laysFinal "LightHours$Sheets" "LightHours$Sheets" "limit" "[I") ∈ GT := gt_at 112 (by decide +kernel) (by decide +kernel)
theorem wd_114 : (Jvm.Cond.laysFinal "LightHours$Sheets" "LightHours$Sheets" "themes" "[I") ∈ GT := gt_at 114 (by decide +kernel) (by decide +kernel)
theorem wd_116 : (Jvm.Cond.laysFinal "LightHours$Sheets" "LightHours$Sheets" "value" "[I") ∈ GT := gt_at 116 (by decide +kernel) (by decide +kernel)
theorem wd_118 : (Jvm.Cond.laysFinal "LightHours$Sheets" "LightHours$Sheets" "rest" "[I") ∈ GT := gt_at 118 (by decide +kernel) (by decide +kernel)
theorem wd_120 : (Jvm.Cond.laysFinal "LightHours$Sheets" "LightHours$Sheets" "sister" "[I") ∈ GT := gt_at 120 (by decide +kernel) (by decide +kernel)
theorem wd_122 : (Jvm.Cond.laysFinal "LightHours$Sheets" "LightHours$Sheets" "toldLeast" "[I") ∈ GT := gt_at 122 (by decide +kernel) (by decide +kernel)
theorem wd_124 : (Jvm.Cond.laysFinal "LightHours$Sheets" "LightHours$Sheets" "toldGreatest" "[I") ∈ GT := gt_at 124 (by decide +kernel) (by decide +kernel)
theorem wd_127 : (Jvm.Cond.classLink "LightHours$House" (23 : Nat) "LightHours$Bookings") ∈ GT := gt_at 127 (by decide +kernel) (by decide +kernel)
theorem wd_128 : (Jvm.Cond.instantiable "LightHours$Bookings" (6 : Nat)) ∈ GT := gt_at 128 (by decide +kernel) (by decide +kernel)
theorem wn_129 : (Jvm.Cond.methodLinkNest "LightHours$House" (25 : Nat) ({ cls := "LightHours$Bookings", name := "<init>", desc := "()V" } : Jvm.MethodName) "LightHours") ∈ lw_tbl := List.mem_of_getElem? (i := 129) (by decide +kernel)
theorem wd_130 : (Jvm.Cond.instanceMethod ({ cls := "LightHours$Bookings", name := "<init>", desc := "()V" } : Jvm.MethodName)) ∈ GT := gt_at 130 (by decide +kernel) (by decide +kernel)
theorem wd_131 : (Jvm.Cond.code ({ cls := "LightHours$Bookings", name := "<init>", desc := "()V" } : Jvm.MethodName) prog_2_method_1_code (1 : Nat) (Option.none : Option Jvm.ClassFile.FieldType)) ∈ GT := gt_at 131 (by decide +kernel) (by decide +kernel)
theorem wd_132 : (Jvm.Cond.methodLink "LightHours$Bookings" (3 : Nat) ({ cls := "java/lang/Object", name := "<init>", desc := "()V" } : Jvm.MethodName)) ∈ GT := gt_at 132 (by decide +kernel) (by decide +kernel)
theorem wd_133 : (Jvm.Cond.fieldLink "LightHours$Bookings" (9 : Nat) "LightHours$Bookings" "count" "I") ∈ GT := gt_at 133 (by decide +kernel) (by decide +kernel)
theorem wd_134 : (Jvm.Cond.fieldLink "LightHours$Ledger" (48 : Nat) "LightHours$Bookings" "count" "I") ∈ GT := gt_at 134 (by decide +kernel) (by decide +kernel)
theorem wd_135 : (Jvm.Cond.fieldLink "LightHours" (136 : Nat) "LightHours$Bookings" "count" "I") ∈ GT := gt_at 135 (by decide +kernel) (by decide +kernel)
theorem wd_136 : (Jvm.Cond.fieldLink "LightHours$Bookings" (15 : Nat) "LightHours$Bookings" "sheet" "[I") ∈ GT := gt_at 136 (by decide +kernel) (by decide +kernel)
theorem wd_137 : (Jvm.Cond.fieldLink "LightHours" (162 : Nat) "LightHours$Bookings" "sheet" "[I") ∈ GT := gt_at 137 (by decide +kernel) (by decide +kernel)
theorem wd_138 : (Jvm.Cond.fieldLink "LightHours$Bookings" (19 : Nat) "LightHours$Bookings" "room" "[I") ∈ GT := gt_at 138 (by decide +kernel) (by decide +kernel)
theorem wd_139 : (Jvm.Cond.fieldLink "LightHours$House" (52 : Nat) "LightHours$Bookings" "room" "[I") ∈ GT := gt_at 139 (by decide +kernel) (by decide +kernel)
theorem wd_140 : (Jvm.Cond.fieldLink "LightHours" (165 : Nat) "LightHours$Bookings" "room" "[I") ∈ GT := gt_at 140 (by decide +kernel) (by decide +kernel)
theorem wd_141 : (Jvm.Cond.fieldLink "LightHours$Bookings" (22 : Nat) "LightHours$Bookings" "year" "[I") ∈ GT := gt_at 141 (by decide +kernel) (by decide +kernel)
theorem wd_142 : (Jvm.Cond.fieldLink "LightHours$House" (55 : Nat) "LightHours$Bookings" "year" "[I") ∈ GT := gt_at 142 (by decide +kernel) (by decide +kernel)
theorem wd_143 : (Jvm.Cond.fieldLink "LightHours$Ledger" (57 : Nat) "LightHours$Bookings" "year" "[I") ∈ GT := gt_at 143 (by decide +kernel) (by decide +kernel)
theorem wd_144 : (Jvm.Cond.fieldLink "LightHours" (168 : Nat) "LightHours$Bookings" "year" "[I") ∈ GT := gt_at 144 (by decide +kernel) (by decide +kernel)
theorem wd_145 : (Jvm.Cond.fieldLink "LightHours$Bookings" (25 : Nat) "LightHours$Bookings" "amount" "[I") ∈ GT := gt_at 145 (by decide +kernel) (by decide +kernel)
theorem wd_146 : (Jvm.Cond.fieldLink "LightHours$House" (48 : Nat) "LightHours$Bookings" "amount" "[I") ∈ GT := gt_at 146 (by decide +kernel) (by decide +kernel)
theorem wd_147 : (Jvm.Cond.fieldLink "LightHours$Bookings" (28 : Nat) "LightHours$Bookings" "cancelled" "[Z") ∈ GT := gt_at 147 (by decide +kernel) (by decide +kernel)
theorem wd_148 : (Jvm.Cond.fieldLink "LightHours" (155 : Nat) "LightHours$Bookings" "cancelled" "[Z") ∈ GT := gt_at 148 (by decide +kernel) (by decide +kernel)
theorem wd_149 : (Jvm.Cond.lays "LightHours$Bookings" "LightHours$Bookings" "count" "I") ∈ GT := gt_at 149 (by decide +kernel) (by decide +kernel)
theorem wd_151 : (Jvm.Cond.laysFinal "LightHours$Bookings" "LightHours$Bookings" "sheet" "[I") ∈ GT := gt_at 151 (by decide +kernel) (by decide +kernel)
theorem wd_153 : (Jvm.Cond.laysFinal "LightHours$Bookings" "LightHours$Bookings" "room" "[I") ∈ GT := gt_at 153 (by decide +kernel) (by decide +kernel)
theorem wd_155 : (Jvm.Cond.laysFinal "LightHours$Bookings" "LightHours$Bookings" "year" "[I") ∈ GT := gt_at 155 (by decide +kernel) (by decide +kernel)
theorem wd_157 : (Jvm.Cond.laysFinal "LightHours$Bookings" "LightHours$Bookings" "amount" "[I") ∈ GT := gt_at 157 (by decide +kernel) (by decide +kernel)
theorem wd_159 : (Jvm.Cond.laysFinal "LightHours$Bookings" "LightHours$Bookings" "cancelled" "[Z") ∈ GT := gt_at 159 (by decide +kernel) (by decide +kernel)
theorem wd_162 : (Jvm.Cond.arrayClass Jvm.ClassFile.FieldType.boolean) ∈ GT := gt_at 162 (by decide +kernel) (by decide +kernel)
theorem wd_163 : (Jvm.Cond.classLink "LightHours$House" (30 : Nat) "LightHours$Threads") ∈ GT := gt_at 163 (by decide +kernel) (by decide +kernel)
theorem wd_164 : (Jvm.Cond.instantiable "LightHours$Threads" (4 : Nat)) ∈ GT := gt_at 164 (by decide +kernel) (by decide +kernel)
theorem wn_165 : (Jvm.Cond.methodLinkNest "LightHours$House" (32 : Nat) ({ cls := "LightHours$Threads", name := "<init>", desc := "()V" } : Jvm.MethodName) "LightHours") ∈ lw_tbl := List.mem_of_getElem? (i := 165) (by decide +kernel)
theorem wd_166 : (Jvm.Cond.instanceMethod ({ cls := "LightHours$Threads", name := "<init>", desc := "()V" } : Jvm.MethodName)) ∈ GT := gt_at 166 (by decide +kernel) (by decide +kernel)
theorem wd_167 : (Jvm.Cond.code ({ cls := "LightHours$Threads", name := "<init>", desc := "()V" } : Jvm.MethodName) prog_8_method_1_code (1 : Nat) (Option.none : Option Jvm.ClassFile.FieldType)) ∈ GT := gt_at 167 (by decide +kernel) (by decide +kernel)
theorem wd_168 : (Jvm.Cond.methodLink "LightHours$Threads" (3 : Nat) ({ cls := "java/lang/Object", name := "<init>", desc := "()V" } : Jvm.MethodName)) ∈ GT := gt_at 168 (by decide +kernel) (by decide +kernel)
theorem wd_169 : (Jvm.Cond.fieldLink "LightHours$Threads" (9 : Nat) "LightHours$Threads" "count" "I") ∈ GT := gt_at 169 (by decide +kernel) (by decide +kernel)
theorem wd_170 : (Jvm.Cond.fieldLink "LightHours$Ledger" (80 : Nat) "LightHours$Threads" "count" "I") ∈ GT := gt_at 170 (by decide +kernel) (by decide +kernel)
theorem wd_171 : (Jvm.Cond.fieldLink "LightHours" (175 : Nat) "LightHours$Threads" "count" "I") ∈ GT := gt_at 171 (by decide +kernel) (by decide +kernel)
theorem wd_172 : (Jvm.Cond.fieldLink "LightHours$Threads" (15 : Nat) "LightHours$Threads" "sheet" "[I") ∈ GT := gt_at 172 (by decide +kernel) (by decide +kernel)
theorem wd_173 : (Jvm.Cond.fieldLink "LightHours$Ledger" (83 : Nat) "LightHours$Threads" "sheet" "[I") ∈ GT := gt_at 173 (by decide +kernel) (by decide +kernel)
theorem wd_174 : (Jvm.Cond.fieldLink "LightHours$Threads" (19 : Nat) "LightHours$Threads" "year" "[I") ∈ GT := gt_at 174 (by decide +kernel) (by decide +kernel)
theorem wd_175 : (Jvm.Cond.fieldLink "LightHours$Ledger" (88 : Nat) "LightHours$Threads" "year" "[I") ∈ GT := gt_at 175 (by decide +kernel) (by decide +kernel)
theorem wd_176 : (Jvm.Cond.fieldLink "LightHours$Threads" (22 : Nat) "LightHours$Threads" "step" "[I") ∈ GT := gt_at 176 (by decide +kernel) (by decide +kernel)
theorem wd_177 : (Jvm.Cond.fieldLink "LightHours$Ledger" (85 : Nat) "LightHours$Threads" "step" "[I") ∈ GT := gt_at 177 (by decide +kernel) (by decide +kernel)
theorem wd_178 : (Jvm.Cond.lays "LightHours$Threads" "LightHours$Threads" "count" "I") ∈ GT := gt_at 178 (by decide +kernel) (by decide +kernel)
theorem wd_180 : (Jvm.Cond.laysFinal "LightHours$Threads" "LightHours$Threads" "sheet" "[I") ∈ GT := gt_at 180 (by decide +kernel) (by decide +kernel)
theorem wd_182 : (Jvm.Cond.laysFinal "LightHours$Threads" "LightHours$Threads" "year" "[I") ∈ GT := gt_at 182 (by decide +kernel) (by decide +kernel)
theorem wd_184 : (Jvm.Cond.laysFinal "LightHours$Threads" "LightHours$Threads" "step" "[I") ∈ GT := gt_at 184 (by decide +kernel) (by decide +kernel)
theorem wd_187 : (Jvm.Cond.classLink "LightHours$House" (37 : Nat) "LightHours$Walls") ∈ GT := gt_at 187 (by decide +kernel) (by decide +kernel)
theorem wd_188 : (Jvm.Cond.instantiable "LightHours$Walls" (4 : Nat)) ∈ GT := gt_at 188 (by decide +kernel) (by decide +kernel)
theorem wn_189 : (Jvm.Cond.methodLinkNest "LightHours$House" (39 : Nat) ({ cls := "LightHours$Walls", name := "<init>", desc := "()V" } : Jvm.MethodName) "LightHours") ∈ lw_tbl := List.mem_of_getElem? (i := 189) (by decide +kernel)
theorem wd_190 : (Jvm.Cond.instanceMethod ({ cls := "LightHours$Walls", name := "<init>", desc := "()V" } : Jvm.MethodName)) ∈ GT := gt_at 190 (by decide +kernel) (by decide +kernel)
theorem wd_191 : (Jvm.Cond.code ({ cls := "LightHours$Walls", name := "<init>", desc := "()V" } : Jvm.MethodName) prog_9_method_1_code (1 : Nat) (Option.none : Option Jvm.ClassFile.FieldType)) ∈ GT := gt_at 191 (by decide +kernel) (by decide +kernel)
theorem wd_192 : (Jvm.Cond.methodLink "LightHours$Walls" (3 : Nat) ({ cls := "java/lang/Object", name := "<init>", desc := "()V" } : Jvm.MethodName)) ∈ GT := gt_at 192 (by decide +kernel) (by decide +kernel)
theorem wd_193 : (Jvm.Cond.fieldLink "LightHours$Walls" (9 : Nat) "LightHours$Walls" "count" "I") ∈ GT := gt_at 193 (by decide +kernel) (by decide +kernel)
theorem wd_194 : (Jvm.Cond.fieldLink "LightHours$Hanging" (55 : Nat) "LightHours$Walls" "count" "I") ∈ GT := gt_at 194 (by decide +kernel) (by decide +kernel)
theorem wd_195 : (Jvm.Cond.fieldLink "LightHours" (192 : Nat) "LightHours$Walls" "count" "I") ∈ GT := gt_at 195 (by decide +kernel) (by decide +kernel)
theorem wd_196 : (Jvm.Cond.fieldLink "LightHours$Walls" (15 : Nat) "LightHours$Walls" "room" "[I") ∈ GT := gt_at 196 (by decide +kernel) (by decide +kernel)
theorem wd_197 : (Jvm.Cond.fieldLink "LightHours$Hanging" (85 : Nat) "LightHours$Walls" "room" "[I") ∈ GT := gt_at 197 (by decide +kernel) (by decide +kernel)
theorem wd_198 : (Jvm.Cond.fieldLink "LightHours" (213 : Nat) "LightHours$Walls" "room" "[I") ∈ GT := gt_at 198 (by decide +kernel) (by decide +kernel)
theorem wd_199 : (Jvm.Cond.fieldLink "LightHours$Walls" (19 : Nat) "LightHours$Walls" "year" "[I") ∈ GT := gt_at 199 (by decide +kernel) (by decide +kernel)
theorem wd_200 : (Jvm.Cond.fieldLink "LightHours$Hanging" (88 : Nat) "LightHours$Walls" "year" "[I") ∈ GT := gt_at 200 (by decide +kernel) (by decide +kernel)
theorem wd_201 : (Jvm.Cond.fieldLink "LightHours" (214 : Nat) "LightHours$Walls" "year" "[I") ∈ GT := gt_at 201 (by decide +kernel) (by decide +kernel)
theorem wd_202 : (Jvm.Cond.fieldLink "LightHours$Walls" (22 : Nat) "LightHours$Walls" "theme" "[I") ∈ GT := gt_at 202 (by decide +kernel) (by decide +kernel)
theorem wd_203 : (Jvm.Cond.fieldLink "LightHours$Hanging" (101 : Nat) "LightHours$Walls" "theme" "[I") ∈ GT := gt_at 203 (by decide +kernel) (by decide +kernel)
theorem wd_204 : (Jvm.Cond.lays "LightHours$Walls" "LightHours$Walls" "count" "I") ∈ GT := gt_at 204 (by decide +kernel) (by decide +kernel)
theorem wd_206 : (Jvm.Cond.laysFinal "LightHours$Walls" "LightHours$Walls" "room" "[I") ∈ GT := gt_at 206 (by decide +kernel) (by decide +kernel)
theorem wd_208 : (Jvm.Cond.laysFinal "LightHours$Walls" "LightHours$Walls" "year" "[I") ∈ GT := gt_at 208 (by decide +kernel) (by decide +kernel)
theorem wd_210 : (Jvm.Cond.laysFinal "LightHours$Walls" "LightHours$Walls" "theme" "[I") ∈ GT := gt_at 210 (by decide +kernel) (by decide +kernel)
theorem wd_213 : (Jvm.Cond.fieldLink "LightHours$House" (10 : Nat) "LightHours$House" "rooms" "LLightHours$Rooms;") ∈ GT := gt_at 213 (by decide +kernel) (by decide +kernel)
theorem wd_214 : (Jvm.Cond.fieldLink "LightHours" (41 : Nat) "LightHours$House" "rooms" "LLightHours$Rooms;") ∈ GT := gt_at 214 (by decide +kernel) (by decide +kernel)
theorem wd_215 : (Jvm.Cond.fieldLink "LightHours$Hanging" (81 : Nat) "LightHours$House" "rooms" "LLightHours$Rooms;") ∈ GT := gt_at 215 (by decide +kernel) (by decide +kernel)
theorem wd_216 : (Jvm.Cond.fieldLink "LightHours$House" (19 : Nat) "LightHours$House" "sheets" "LLightHours$Sheets;") ∈ GT := gt_at 216 (by decide +kernel) (by decide +kernel)
theorem wd_217 : (Jvm.Cond.fieldLink "LightHours$Ledger" (64 : Nat) "LightHours$House" "sheets" "LLightHours$Sheets;") ∈ GT := gt_at 217 (by decide +kernel) (by decide +kernel)
theorem wd_218 : (Jvm.Cond.fieldLink "LightHours$Hanging" (64 : Nat) "LightHours$House" "sheets" "LLightHours$Sheets;") ∈ GT := gt_at 218 (by decide +kernel) (by decide +kernel)
theorem wd_219 : (Jvm.Cond.fieldLink "LightHours" (77 : Nat) "LightHours$House" "sheets" "LLightHours$Sheets;") ∈ GT := gt_at 219 (by decide +kernel) (by decide +kernel)
theorem wd_220 : (Jvm.Cond.fieldLink "LightHours$House" (26 : Nat) "LightHours$House" "bookings" "LLightHours$Bookings;") ∈ GT := gt_at 220 (by decide +kernel) (by decide +kernel)
theorem wd_221 : (Jvm.Cond.fieldLink "LightHours$Ledger" (42 : Nat) "LightHours$House" "bookings" "LLightHours$Bookings;") ∈ GT := gt_at 221 (by decide +kernel) (by decide +kernel)
theorem wd_222 : (Jvm.Cond.fieldLink "LightHours$Hanging" (111 : Nat) "LightHours$House" "bookings" "LLightHours$Bookings;") ∈ GT := gt_at 222 (by decide +kernel) (by decide +kernel)
theorem wd_223 : (Jvm.Cond.fieldLink "LightHours" (117 : Nat) "LightHours$House" "bookings" "LLightHours$Bookings;") ∈ GT := gt_at 223 (by decide +kernel) (by decide +kernel)
theorem wd_224 : (Jvm.Cond.fieldLink "LightHours$House" (33 : Nat) "LightHours$House" "threads" "LLightHours$Threads;") ∈ GT := gt_at 224 (by decide +kernel) (by decide +kernel)
theorem wd_225 : (Jvm.Cond.fieldLink "LightHours$Ledger" (76 : Nat) "LightHours$House" "threads" "LLightHours$Threads;") ∈ GT := gt_at 225 (by decide +kernel) (by decide +kernel)
theorem wd_226 : (Jvm.Cond.fieldLink "LightHours" (126 : Nat) "LightHours$House" "threads" "LLightHours$Threads;") ∈ GT := gt_at 226 (by decide +kernel) (by decide +kernel)
theorem wd_227 : (Jvm.Cond.fieldLink "LightHours$House" (40 : Nat) "LightHours$House" "walls" "LLightHours$Walls;") ∈ GT := gt_at 227 (by decide +kernel) (by decide +kernel)
theorem wd_228 : (Jvm.Cond.fieldLink "LightHours$Hanging" (49 : Nat) "LightHours$House" "walls" "LLightHours$Walls;") ∈ GT := gt_at 228 (by decide +kernel) (by decide +kernel)
theorem wd_229 : (Jvm.Cond.fieldLink "LightHours" (188 : Nat) "LightHours$House" "walls" "LLightHours$Walls;") ∈ GT := gt_at 229 (by decide +kernel) (by decide +kernel)
theorem wd_230 : (Jvm.Cond.laysFinal "LightHours$House" "LightHours$House" "rooms" "LLightHours$Rooms;") ∈ GT := gt_at 230 (by decide +kernel) (by decide +kernel)
theorem wd_232 : (Jvm.Cond.laysFinal "LightHours$House" "LightHours$House" "sheets" "LLightHours$Sheets;") ∈ GT := gt_at 232 (by decide +kernel) (by decide +kernel)
theorem wd_234 : (Jvm.Cond.laysFinal "LightHours$House" "LightHours$House" "bookings" "LLightHours$Bookings;") ∈ GT := gt_at 234 (by decide +kernel) (by decide +kernel)
theorem wd_236 : (Jvm.Cond.laysFinal "LightHours$House" "LightHours$House" "threads" "LLightHours$Threads;") ∈ GT := gt_at 236 (by decide +kernel) (by decide +kernel)
theorem wd_238 : (Jvm.Cond.laysFinal "LightHours$House" "LightHours$House" "walls" "LLightHours$Walls;") ∈ GT := gt_at 238 (by decide +kernel) (by decide +kernel)
theorem wd_241 : (Jvm.Cond.classLink "LightHours" (10 : Nat) "LightHours$Ledger") ∈ GT := gt_at 241 (by decide +kernel) (by decide +kernel)
theorem wd_242 : (Jvm.Cond.instantiable "LightHours$Ledger" (7 : Nat)) ∈ GT := gt_at 242 (by decide +kernel) (by decide +kernel)
theorem wd_243 : (Jvm.Cond.methodLink "LightHours" (12 : Nat) ({ cls := "LightHours$Ledger", name := "<init>", desc := "(LLightHours$House;)V" } : Jvm.MethodName)) ∈ GT := gt_at 243 (by decide +kernel) (by decide +kernel)
theorem wd_244 : (Jvm.Cond.instanceMethod ({ cls := "LightHours$Ledger", name := "<init>", desc := "(LLightHours$House;)V" } : Jvm.MethodName)) ∈ GT := gt_at 244 (by decide +kernel) (by decide +kernel)
theorem wd_245 : (Jvm.Cond.code ({ cls := "LightHours$Ledger", name := "<init>", desc := "(LLightHours$House;)V" } : Jvm.MethodName) prog_5_method_1_code (2 : Nat) (Option.none : Option Jvm.ClassFile.FieldType)) ∈ GT := gt_at 245 (by decide +kernel) (by decide +kernel)
theorem wd_246 : (Jvm.Cond.methodLink "LightHours$Ledger" (3 : Nat) ({ cls := "java/lang/Object", name := "<init>", desc := "()V" } : Jvm.MethodName)) ∈ GT := gt_at 246 (by decide +kernel) (by decide +kernel)
theorem wd_247 : (Jvm.Cond.fieldLink "LightHours$Ledger" (32 : Nat) "LightHours$Ledger" "house" "LLightHours$House;") ∈ GT := gt_at 247 (by decide +kernel) (by decide +kernel)
theorem wd_248 : (Jvm.Cond.fieldLink "LightHours$Ledger" (9 : Nat) "LightHours$Ledger" "sheet" "I") ∈ GT := gt_at 248 (by decide +kernel) (by decide +kernel)
theorem wd_249 : (Jvm.Cond.fieldLink "LightHours$Ledger" (15 : Nat) "LightHours$Ledger" "quarrels" "Z") ∈ GT := gt_at 249 (by decide +kernel) (by decide +kernel)
theorem wd_250 : (Jvm.Cond.fieldLink "LightHours" (113 : Nat) "LightHours$Ledger" "quarrels" "Z") ∈ GT := gt_at 250 (by decide +kernel) (by decide +kernel)
theorem wd_251 : (Jvm.Cond.fieldLink "LightHours$Ledger" (19 : Nat) "LightHours$Ledger" "pastLeast" "I") ∈ GT := gt_at 251 (by decide +kernel) (by decide +kernel)
theorem wd_252 : (Jvm.Cond.fieldLink "LightHours$Ledger" (22 : Nat) "LightHours$Ledger" "pastGreatest" "I") ∈ GT := gt_at 252 (by decide +kernel) (by decide +kernel)
theorem wd_253 : (Jvm.Cond.fieldLink "LightHours$Ledger" (25 : Nat) "LightHours$Ledger" "spendsLeast" "[I") ∈ GT := gt_at 253 (by decide +kernel) (by decide +kernel)
theorem wd_254 : (Jvm.Cond.fieldLink "LightHours$Ledger" (29 : Nat) "LightHours$Ledger" "spendsGreatest" "[I") ∈ GT := gt_at 254 (by decide +kernel) (by decide +kernel)
theorem wd_255 : (Jvm.Cond.laysFinal "LightHours$Ledger" "LightHours$Ledger" "house" "LLightHours$House;") ∈ GT := gt_at 255 (by decide +kernel) (by decide +kernel)
theorem wd_257 : (Jvm.Cond.lays "LightHours$Ledger" "LightHours$Ledger" "sheet" "I") ∈ GT := gt_at 257 (by decide +kernel) (by decide +kernel)
theorem wd_259 : (Jvm.Cond.lays "LightHours$Ledger" "LightHours$Ledger" "quarrels" "Z") ∈ GT := gt_at 259 (by decide +kernel) (by decide +kernel)
theorem wd_261 : (Jvm.Cond.lays "LightHours$Ledger" "LightHours$Ledger" "pastLeast" "I") ∈ GT := gt_at 261 (by decide +kernel) (by decide +kernel)
theorem wd_263 : (Jvm.Cond.lays "LightHours$Ledger" "LightHours$Ledger" "pastGreatest" "I") ∈ GT := gt_at 263 (by decide +kernel) (by decide +kernel)
theorem wd_265 : (Jvm.Cond.laysFinal "LightHours$Ledger" "LightHours$Ledger" "spendsLeast" "[I") ∈ GT := gt_at 265 (by decide +kernel) (by decide +kernel)
theorem wd_267 : (Jvm.Cond.laysFinal "LightHours$Ledger" "LightHours$Ledger" "spendsGreatest" "[I") ∈ GT := gt_at 267 (by decide +kernel) (by decide +kernel)
theorem wd_270 : (Jvm.Cond.classLink "LightHours" (25 : Nat) "LightHours$Hanging") ∈ GT := gt_at 270 (by decide +kernel) (by decide +kernel)
theorem wd_271 : (Jvm.Cond.instantiable "LightHours$Hanging" (10 : Nat)) ∈ GT := gt_at 271 (by decide +kernel) (by decide +kernel)
theorem wd_272 : (Jvm.Cond.methodLink "LightHours" (27 : Nat) ({ cls := "LightHours$Hanging", name := "<init>", desc := "(LLightHours$House;LLightHours$Ledger;)V" } : Jvm.MethodName)) ∈ GT := gt_at 272 (by decide +kernel) (by decide +kernel)
theorem wd_273 : (Jvm.Cond.instanceMethod ({ cls := "LightHours$Hanging", name := "<init>", desc := "(LLightHours$House;LLightHours$Ledger;)V" } : Jvm.MethodName)) ∈ GT := gt_at 273 (by decide +kernel) (by decide +kernel)
theorem wd_274 : (Jvm.Cond.code ({ cls := "LightHours$Hanging", name := "<init>", desc := "(LLightHours$House;LLightHours$Ledger;)V" } : Jvm.MethodName) prog_3_method_1_code (3 : Nat) (Option.none : Option Jvm.ClassFile.FieldType)) ∈ GT := gt_at 274 (by decide +kernel) (by decide +kernel)
theorem wd_275 : (Jvm.Cond.methodLink "LightHours$Hanging" (3 : Nat) ({ cls := "java/lang/Object", name := "<init>", desc := "()V" } : Jvm.MethodName)) ∈ GT := gt_at 275 (by decide +kernel) (by decide +kernel)
theorem wd_276 : (Jvm.Cond.fieldLink "LightHours$Hanging" (38 : Nat) "LightHours$Hanging" "house" "LLightHours$House;") ∈ GT := gt_at 276 (by decide +kernel) (by decide +kernel)
theorem wd_277 : (Jvm.Cond.fieldLink "LightHours$Hanging" (42 : Nat) "LightHours$Hanging" "ledger" "LLightHours$Ledger;") ∈ GT := gt_at 277 (by decide +kernel) (by decide +kernel)
theorem wd_278 : (Jvm.Cond.fieldLink "LightHours$Hanging" (9 : Nat) "LightHours$Hanging" "known" "Z") ∈ GT := gt_at 278 (by decide +kernel) (by decide +kernel)
theorem wd_279 : (Jvm.Cond.fieldLink "LightHours$Hanging" (15 : Nat) "LightHours$Hanging" "best" "[I") ∈ GT := gt_at 279 (by decide +kernel) (by decide +kernel)
theorem wd_280 : (Jvm.Cond.fieldLink "LightHours" (200 : Nat) "LightHours$Hanging" "best" "[I") ∈ GT := gt_at 280 (by decide +kernel) (by decide +kernel)
theorem wd_281 : (Jvm.Cond.fieldLink "LightHours$Hanging" (19 : Nat) "LightHours$Hanging" "bestWorth" "I") ∈ GT := gt_at 281 (by decide +kernel) (by decide +kernel)
theorem wd_282 : (Jvm.Cond.fieldLink "LightHours" (203 : Nat) "LightHours$Hanging" "bestWorth" "I") ∈ GT := gt_at 282 (by decide +kernel) (by decide +kernel)
theorem wd_283 : (Jvm.Cond.fieldLink "LightHours$Hanging" (23 : Nat) "LightHours$Hanging" "trial" "[I") ∈ GT := gt_at 283 (by decide +kernel) (by decide +kernel)
theorem wd_284 : (Jvm.Cond.fieldLink "LightHours$Hanging" (26 : Nat) "LightHours$Hanging" "may" "[I") ∈ GT := gt_at 284 (by decide +kernel) (by decide +kernel)
theorem wd_285 : (Jvm.Cond.fieldLink "LightHours$Hanging" (29 : Nat) "LightHours$Hanging" "light" "[I") ∈ GT := gt_at 285 (by decide +kernel) (by decide +kernel)
theorem wd_286 : (Jvm.Cond.fieldLink "LightHours$Hanging" (32 : Nat) "LightHours$Hanging" "bound" "[I") ∈ GT := gt_at 286 (by decide +kernel) (by decide +kernel)
theorem wd_287 : (Jvm.Cond.fieldLink "LightHours$Hanging" (35 : Nat) "LightHours$Hanging" "spare" "[I") ∈ GT := gt_at 287 (by decide +kernel) (by decide +kernel)
theorem wd_288 : (Jvm.Cond.laysFinal "LightHours$Hanging" "LightHours$Hanging" "house" "LLightHours$House;") ∈ GT := gt_at 288 (by decide +kernel) (by decide +kernel)
theorem wd_290 : (Jvm.Cond.laysFinal "LightHours$Hanging" "LightHours$Hanging" "ledger" "LLightHours$Ledger;") ∈ GT := gt_at 290 (by decide +kernel) (by decide +kernel)
theorem wd_292 : (Jvm.Cond.lays "LightHours$Hanging" "LightHours$Hanging" "known" "Z") ∈ GT := gt_at 292 (by decide +kernel) (by decide +kernel)
theorem wd_294 : (Jvm.Cond.laysFinal "LightHours$Hanging" "LightHours$Hanging" "best" "[I") ∈ GT := gt_at 294 (by decide +kernel) (by decide +kernel)
theorem wd_296 : (Jvm.Cond.lays "LightHours$Hanging" "LightHours$Hanging" "bestWorth" "I") ∈ GT := gt_at 296 (by decide +kernel) (by decide +kernel)
theorem wd_298 : (Jvm.Cond.laysFinal "LightHours$Hanging" "LightHours$Hanging" "trial" "[I") ∈ GT := gt_at 298 (by decide +kernel) (by decide +kernel)
theorem wd_300 : (Jvm.Cond.laysFinal "LightHours$Hanging" "LightHours$Hanging" "may" "[I") ∈ GT := gt_at 300 (by decide +kernel) (by decide +kernel)
theorem wd_302 : (Jvm.Cond.laysFinal "LightHours$Hanging" "LightHours$Hanging" "light" "[I") ∈ GT := gt_at 302 (by decide +kernel) (by decide +kernel)
theorem wd_304 : (Jvm.Cond.laysFinal "LightHours$Hanging" "LightHours$Hanging" "bound" "[I") ∈ GT := gt_at 304 (by decide +kernel) (by decide +kernel)
theorem wd_306 : (Jvm.Cond.laysFinal "LightHours$Hanging" "LightHours$Hanging" "spare" "[I") ∈ GT := gt_at 306 (by decide +kernel) (by decide +kernel)
theorem wd_309 : (Jvm.Cond.fieldLink "LightHours" (15 : Nat) "LightHours" "house" "LLightHours$House;") ∈ GT := gt_at 309 (by decide +kernel) (by decide +kernel)
theorem wd_310 : (Jvm.Cond.fieldLink "LightHours" (21 : Nat) "LightHours" "ledger" "LLightHours$Ledger;") ∈ GT := gt_at 310 (by decide +kernel) (by decide +kernel)
theorem wd_311 : (Jvm.Cond.fieldLink "LightHours" (30 : Nat) "LightHours" "hanging" "LLightHours$Hanging;") ∈ GT := gt_at 311 (by decide +kernel) (by decide +kernel)
theorem wd_312 : (Jvm.Cond.fieldLink "LightHours" (34 : Nat) "LightHours" "kept" "LLightHours$House;") ∈ GT := gt_at 312 (by decide +kernel) (by decide +kernel)
theorem wd_313 : (Jvm.Cond.laysFinal "LightHours" "LightHours" "house" "LLightHours$House;") ∈ GT := gt_at 313 (by decide +kernel) (by decide +kernel)
theorem wd_315 : (Jvm.Cond.laysFinal "LightHours" "LightHours" "ledger" "LLightHours$Ledger;") ∈ GT := gt_at 315 (by decide +kernel) (by decide +kernel)
theorem wd_317 : (Jvm.Cond.laysFinal "LightHours" "LightHours" "hanging" "LLightHours$Hanging;") ∈ GT := gt_at 317 (by decide +kernel) (by decide +kernel)
theorem wd_319 : (Jvm.Cond.lays "LightHours" "LightHours" "kept" "LLightHours$House;") ∈ GT := gt_at 319 (by decide +kernel) (by decide +kernel)
theorem wd_322 : (Jvm.Cond.methodLink "LightHoursLaw" (13 : Nat) ({ cls := "LightHours", name := "room", desc := "(I)I" } : Jvm.MethodName)) ∈ GT := gt_at 322 (by decide +kernel) (by decide +kernel)
theorem wd_323 : (Jvm.Cond.instanceMethod ({ cls := "LightHours", name := "room", desc := "(I)I" } : Jvm.MethodName)) ∈ GT := gt_at 323 (by decide +kernel) (by decide +kernel)
theorem wd_324 : (Jvm.Cond.selects "LightHours" ({ cls := "LightHours", name := "room", desc := "(I)I" } : Jvm.MethodName) ({ cls := "LightHours", name := "room", desc := "(I)I" } : Jvm.MethodName)) ∈ GT := gt_at 324 (by decide +kernel) (by decide +kernel)
theorem wd_325 : (Jvm.Cond.code ({ cls := "LightHours", name := "room", desc := "(I)I" } : Jvm.MethodName) prog_1_method_2_code (2 : Nat) (Option.some Jvm.ClassFile.FieldType.int)) ∈ GT := gt_at 325 (by decide +kernel) (by decide +kernel)
theorem wd_326 : (Jvm.Cond.methodLink "LightHours" (37 : Nat) ({ cls := "LightHours", name := "within", desc := "(III)Z" } : Jvm.MethodName)) ∈ GT := gt_at 326 (by decide +kernel) (by decide +kernel)
theorem wd_327 : (Jvm.Cond.static ({ cls := "LightHours", name := "within", desc := "(III)Z" } : Jvm.MethodName)) ∈ GT := gt_at 327 (by decide +kernel) (by decide +kernel)
theorem wd_328 : (Jvm.Cond.code ({ cls := "LightHours", name := "within", desc := "(III)Z" } : Jvm.MethodName) prog_1_method_30_code (3 : Nat) (Option.some Jvm.ClassFile.FieldType.boolean)) ∈ GT := gt_at 328 (by decide +kernel) (by decide +kernel)
theorem wd_329 : (Jvm.Cond.methodLink "LightHours" (51 : Nat) ({ cls := "LightHours$Rooms", name := "add", desc := "(I)I" } : Jvm.MethodName)) ∈ GT := gt_at 329 (by decide +kernel) (by decide +kernel)
theorem wd_330 : (Jvm.Cond.instanceMethod ({ cls := "LightHours$Rooms", name := "add", desc := "(I)I" } : Jvm.MethodName)) ∈ GT := gt_at 330 (by decide +kernel) (by decide +kernel)
theorem wd_331 : (Jvm.Cond.selects "LightHours$Rooms" ({ cls := "LightHours$Rooms", name := "add", desc := "(I)I" } : Jvm.MethodName) ({ cls := "LightHours$Rooms", name := "add", desc := "(I)I" } : Jvm.MethodName)) ∈ GT := gt_at 331 (by decide +kernel) (by decide +kernel)
theorem wd_332 : (Jvm.Cond.code ({ cls := "LightHours$Rooms", name := "add", desc := "(I)I" } : Jvm.MethodName) prog_6_method_3_code (3 : Nat) (Option.some Jvm.ClassFile.FieldType.int)) ∈ GT := gt_at 332 (by decide +kernel) (by decide +kernel)
theorem wd_333 : (Jvm.Cond.methodLink "LightHours$Rooms" (22 : Nat) ({ cls := "LightHours$Rooms", name := "read", desc := "(III)V" } : Jvm.MethodName)) ∈ GT := gt_at 333 (by decide +kernel) (by decide +kernel)
theorem wd_334 : (Jvm.Cond.instanceMethod ({ cls := "LightHours$Rooms", name := "read", desc := "(III)V" } : Jvm.MethodName)) ∈ GT := gt_at 334 (by decide +kernel) (by decide +kernel)
theorem wd_335 : (Jvm.Cond.selects "LightHours$Rooms" ({ cls := "LightHours$Rooms", name := "read", desc := "(III)V" } : Jvm.MethodName) ({ cls := "LightHours$Rooms", name := "read", desc := "(III)V" } : Jvm.MethodName)) ∈ GT := gt_at 335 (by decide +kernel) (by decide +kernel)
theorem wd_336 : (Jvm.Cond.code ({ cls := "LightHours$Rooms", name := "read", desc := "(III)V" } : Jvm.MethodName) prog_6_method_4_code (4 : Nat) (Option.none : Option Jvm.ClassFile.FieldType)) ∈ GT := gt_at 336 (by decide +kernel) (by decide +kernel)
theorem wd_337 : (Jvm.Cond.methodLink "LightHours" (55 : Nat) ({ cls := "LightHours", name := "changed", desc := "(I)I" } : Jvm.MethodName)) ∈ GT := gt_at 337 (by decide +kernel) (by decide +kernel)
theorem wd_339 : (Jvm.Cond.instanceMethod ({ cls := "LightHours", name := "changed", desc := "(I)I" } : Jvm.MethodName)) ∈ GT := gt_at 339 (by decide +kernel) (by decide +kernel)
theorem wd_340 : (Jvm.Cond.code ({ cls := "LightHours", name := "changed", desc := "(I)I" } : Jvm.MethodName) prog_1_method_29_code (2 : Nat) (Option.some Jvm.ClassFile.FieldType.int)) ∈ GT := gt_at 340 (by decide +kernel) (by decide +kernel)
theorem wd_341 : (Jvm.Cond.methodLink "LightHours" (230 : Nat) ({ cls := "LightHours$Hanging", name := "forget", desc := "()V" } : Jvm.MethodName)) ∈ GT := gt_at 341 (by decide +kernel) (by decide +kernel)
theorem wd_342 : (Jvm.Cond.instanceMethod ({ cls := "LightHours$Hanging", name := "forget", desc := "()V" } : Jvm.MethodName)) ∈ GT := gt_at 342 (by decide +kernel) (by decide +kernel)
theorem wd_343 : (Jvm.Cond.selects "LightHours$Hanging" ({ cls := "LightHours$Hanging", name := "forget", desc := "()V" } : Jvm.MethodName) ({ cls := "LightHours$Hanging", name := "forget", desc := "()V" } : Jvm.MethodName)) ∈ GT := gt_at 343 (by decide +kernel) (by decide +kernel)
theorem wd_344 : (Jvm.Cond.code ({ cls := "LightHours$Hanging", name := "forget", desc := "()V" } : Jvm.MethodName) prog_3_method_2_code (1 : Nat) (Option.none : Option Jvm.ClassFile.FieldType)) ∈ GT := gt_at 344 (by decide +kernel) (by decide +kernel)
theorem wd_345 : (Jvm.Cond.methodLink "LightHoursLaw" (18 : Nat) ({ cls := "LightHours", name := "reading", desc := "(III)I" } : Jvm.MethodName)) ∈ GT := gt_at 345 (by decide +kernel) (by decide +kernel)
theorem wd_346 : (Jvm.Cond.instanceMethod ({ cls := "LightHours", name := "reading", desc := "(III)I" } : Jvm.MethodName)) ∈ GT := gt_at 346 (by decide +kernel) (by decide +kernel)
theorem wd_347 : (Jvm.Cond.selects "LightHours" ({ cls := "LightHours", name := "reading", desc := "(III)I" } : Jvm.MethodName) ({ cls := "LightHours", name := "reading", desc := "(III)I" } : Jvm.MethodName)) ∈ GT := gt_at 347 (by decide +kernel) (by decide +kernel)
theorem wd_348 : (Jvm.Cond.code ({ cls := "LightHours", name := "reading", desc := "(III)I" } : Jvm.MethodName) prog_1_method_3_code (4 : Nat) (Option.some Jvm.ClassFile.FieldType.int)) ∈ GT := gt_at 348 (by decide +kernel) (by decide +kernel)
theorem wd_349 : (Jvm.Cond.methodLink "LightHours" (58 : Nat) ({ cls := "LightHours$Rooms", name := "has", desc := "(I)Z" } : Jvm.MethodName)) ∈ GT := gt_at 349 (by decide +kernel) (by decide +kernel)
theorem wd_350 : (Jvm.Cond.instanceMethod ({ cls := "LightHours$Rooms", name := "has", desc := "(I)Z" } : Jvm.MethodName)) ∈ GT := gt_at 350 (by decide +kernel) (by decide +kernel)
theorem wd_351 : (Jvm.Cond.selects "LightHours$Rooms" ({ cls := "LightHours$Rooms", name := "has", desc := "(I)Z" } : Jvm.MethodName) ({ cls := "LightHours$Rooms", name := "has", desc := "(I)Z" } : Jvm.MethodName)) ∈ GT := gt_at 351 (by decide +kernel) (by decide +kernel)
theorem wd_352 : (Jvm.Cond.code ({ cls := "LightHours$Rooms", name := "has", desc := "(I)Z" } : Jvm.MethodName) prog_6_method_2_code (2 : Nat) (Option.some Jvm.ClassFile.FieldType.boolean)) ∈ GT := gt_at 352 (by decide +kernel) (by decide +kernel)
theorem wd_353 : (Jvm.Cond.methodLink "LightHours" (62 : Nat) ({ cls := "LightHours", name := "isYear", desc := "(I)Z" } : Jvm.MethodName)) ∈ GT := gt_at 353 (by decide +kernel) (by decide +kernel)
theorem wd_354 : (Jvm.Cond.static ({ cls := "LightHours", name := "isYear", desc := "(I)Z" } : Jvm.MethodName)) ∈ GT := gt_at 354 (by decide +kernel) (by decide +kernel)
theorem wd_355 : (Jvm.Cond.code ({ cls := "LightHours", name := "isYear", desc := "(I)Z" } : Jvm.MethodName) prog_1_method_31_code (1 : Nat) (Option.some Jvm.ClassFile.FieldType.boolean)) ∈ GT := gt_at 355 (by decide +kernel) (by decide +kernel)
theorem wd_356 : (Jvm.Cond.methodLink "LightHours" (69 : Nat) ({ cls := "LightHours$Rooms", name := "read", desc := "(III)V" } : Jvm.MethodName)) ∈ GT := gt_at 356 (by decide +kernel) (by decide +kernel)
theorem wd_357 : (Jvm.Cond.methodLink "LightHoursLaw" (23 : Nat) ({ cls := "LightHours", name := "light", desc := "(IIZ)I" } : Jvm.MethodName)) ∈ GT := gt_at 357 (by decide +kernel) (by decide +kernel)
theorem wd_358 : (Jvm.Cond.instanceMethod ({ cls := "LightHours", name := "light", desc := "(IIZ)I" } : Jvm.MethodName)) ∈ GT := gt_at 358 (by decide +kernel) (by decide +kernel)
theorem wd_359 : (Jvm.Cond.selects "LightHours" ({ cls := "LightHours", name := "light", desc := "(IIZ)I" } : Jvm.MethodName) ({ cls := "LightHours", name := "light", desc := "(IIZ)I" } : Jvm.MethodName)) ∈ GT := gt_at 359 (by decide +kernel) (by decide +kernel)
theorem wd_360 : (Jvm.Cond.code ({ cls := "LightHours", name := "light", desc := "(IIZ)I" } : Jvm.MethodName) prog_1_method_4_code (4 : Nat) (Option.some Jvm.ClassFile.FieldType.int)) ∈ GT := gt_at 360 (by decide +kernel) (by decide +kernel)
theorem wd_361 : (Jvm.Cond.methodLink "LightHours" (73 : Nat) ({ cls := "LightHours$Rooms", name := "lightEnd", desc := "(IIZ)I" } : Jvm.MethodName)) ∈ GT := gt_at 361 (by decide +kernel) (by decide +kernel)
theorem wd_362 : (Jvm.Cond.instanceMethod ({ cls := "LightHours$Rooms", name := "lightEnd", desc := "(IIZ)I" } : Jvm.MethodName)) ∈ GT := gt_at 362 (by decide +kernel) (by decide +kernel)
theorem wd_363 : (Jvm.Cond.selects "LightHours$Rooms" ({ cls := "LightHours$Rooms", name := "lightEnd", desc := "(IIZ)I" } : Jvm.MethodName) ({ cls := "LightHours$Rooms", name := "lightEnd", desc := "(IIZ)I" } : Jvm.MethodName)) ∈ GT := gt_at 363 (by decide +kernel) (by decide +kernel)
theorem wd_364 : (Jvm.Cond.code ({ cls := "LightHours$Rooms", name := "lightEnd", desc := "(IIZ)I" } : Jvm.MethodName) prog_6_method_5_code (5 : Nat) (Option.some Jvm.ClassFile.FieldType.int)) ∈ GT := gt_at 364 (by decide +kernel) (by decide +kernel)
theorem wd_365 : (Jvm.Cond.methodLink "LightHoursLaw" (28 : Nat) ({ cls := "LightHours", name := "sheet", desc := "(IIII)I" } : Jvm.MethodName)) ∈ GT := gt_at 365 (by decide +kernel) (by decide +kernel)
theorem wd_366 : (Jvm.Cond.instanceMethod ({ cls := "LightHours", name := "sheet", desc := "(IIII)I" } : Jvm.MethodName)) ∈ GT := gt_at 366 (by decide +kernel) (by decide +kernel)
theorem wd_367 : (Jvm.Cond.selects "LightHours" ({ cls := "LightHours", name := "sheet", desc := "(IIII)I" } : Jvm.MethodName) ({ cls := "LightHours", name := "sheet", desc := "(IIII)I" } : Jvm.MethodName)) ∈ GT := gt_at 367 (by decide +kernel) (by decide +kernel)
theorem wd_368 : (Jvm.Cond.code ({ cls := "LightHours", name := "sheet", desc := "(IIII)I" } : Jvm.MethodName) prog_1_method_5_code (5 : Nat) (Option.some Jvm.ClassFile.FieldType.int)) ∈ GT := gt_at 368 (by decide +kernel) (by decide +kernel)
theorem wd_369 : (Jvm.Cond.methodLink "LightHours" (84 : Nat) ({ cls := "LightHours$Sheets", name := "add", desc := "(IIII)I" } : Jvm.MethodName)) ∈ GT := gt_at 369 (by decide +kernel) (by decide +kernel)
theorem wd_370 : (Jvm.Cond.instanceMethod ({ cls := "LightHours$Sheets", name := "add", desc := "(IIII)I" } : Jvm.MethodName)) ∈ GT := gt_at 370 (by decide +kernel) (by decide +kernel)
theorem wd_371 : (Jvm.Cond.selects "LightHours$Sheets" ({ cls := "LightHours$Sheets", name := "add", desc := "(IIII)I" } : Jvm.MethodName) ({ cls := "LightHours$Sheets", name := "add", desc := "(IIII)I" } : Jvm.MethodName)) ∈ GT := gt_at 371 (by decide +kernel) (by decide +kernel)
theorem wd_372 : (Jvm.Cond.code ({ cls := "LightHours$Sheets", name := "add", desc := "(IIII)I" } : Jvm.MethodName) prog_7_method_3_code (5 : Nat) (Option.some Jvm.ClassFile.FieldType.int)) ∈ GT := gt_at 372 (by decide +kernel) (by decide +kernel)
theorem wd_373 : (Jvm.Cond.methodLink "LightHoursLaw" (33 : Nat) ({ cls := "LightHours", name := "sisters", desc := "(II)I" } : Jvm.MethodName)) ∈ GT := gt_at 373 (by decide +kernel) (by decide +kernel)
theorem wd_374 : (Jvm.Cond.instanceMethod ({ cls := "LightHours", name := "sisters", desc := "(II)I" } : Jvm.MethodName)) ∈ GT := gt_at 374 (by decide +kernel) (by decide +kernel)
theorem wd_375 : (Jvm.Cond.selects "LightHours" ({ cls := "LightHours", name := "sisters", desc := "(II)I" } : Jvm.MethodName) ({ cls := "LightHours", name := "sisters", desc := "(II)I" } : Jvm.MethodName)) ∈ GT := gt_at 375 (by decide +kernel) (by decide +kernel)
theorem wd_376 : (Jvm.Cond.code ({ cls := "LightHours", name := "sisters", desc := "(II)I" } : Jvm.MethodName) prog_1_method_6_code (4 : Nat) (Option.some Jvm.ClassFile.FieldType.int)) ∈ GT := gt_at 376 (by decide +kernel) (by decide +kernel)
theorem wd_377 : (Jvm.Cond.methodLink "LightHours" (87 : Nat) ({ cls := "LightHours$Sheets", name := "has", desc := "(I)Z" } : Jvm.MethodName)) ∈ GT := gt_at 377 (by decide +kernel) (by decide +kernel)
theorem wd_378 : (Jvm.Cond.instanceMethod ({ cls := "LightHours$Sheets", name := "has", desc := "(I)Z" } : Jvm.MethodName)) ∈ GT := gt_at 378 (by decide +kernel) (by decide +kernel)
theorem wd_379 : (Jvm.Cond.selects "LightHours$Sheets" ({ cls := "LightHours$Sheets", name := "has", desc := "(I)Z" } : Jvm.MethodName) ({ cls := "LightHours$Sheets", name := "has", desc := "(I)Z" } : Jvm.MethodName)) ∈ GT := gt_at 379 (by decide +kernel) (by decide +kernel)
theorem wd_380 : (Jvm.Cond.code ({ cls := "LightHours$Sheets", name := "has", desc := "(I)Z" } : Jvm.MethodName) prog_7_method_2_code (2 : Nat) (Option.some Jvm.ClassFile.FieldType.boolean)) ∈ GT := gt_at 380 (by decide +kernel) (by decide +kernel)
theorem wd_381 : (Jvm.Cond.methodLink "LightHoursLaw" (38 : Nat) ({ cls := "LightHours", name := "past", desc := "(III)I" } : Jvm.MethodName)) ∈ GT := gt_at 381 (by decide +kernel) (by decide +kernel)
theorem wd_382 : (Jvm.Cond.instanceMethod ({ cls := "LightHours", name := "past", desc := "(III)I" } : Jvm.MethodName)) ∈ GT := gt_at 382 (by decide +kernel) (by decide +kernel)
theorem wd_383 : (Jvm.Cond.selects "LightHours" ({ cls := "LightHours", name := "past", desc := "(III)I" } : Jvm.MethodName) ({ cls := "LightHours", name := "past", desc := "(III)I" } : Jvm.MethodName)) ∈ GT := gt_at 383 (by decide +kernel) (by decide +kernel)
theorem wd_384 : (Jvm.Cond.code ({ cls := "LightHours", name := "past", desc := "(III)I" } : Jvm.MethodName) prog_1_method_7_code (4 : Nat) (Option.some Jvm.ClassFile.FieldType.int)) ∈ GT := gt_at 384 (by decide +kernel) (by decide +kernel)
theorem wd_385 : (Jvm.Cond.methodLink "LightHoursLaw" (42 : Nat) ({ cls := "LightHours", name := "of", desc := "(II)I" } : Jvm.MethodName)) ∈ GT := gt_at 385 (by decide +kernel) (by decide +kernel)
theorem wd_386 : (Jvm.Cond.instanceMethod ({ cls := "LightHours", name := "of", desc := "(II)I" } : Jvm.MethodName)) ∈ GT := gt_at 386 (by decide +kernel) (by decide +kernel)
theorem wd_387 : (Jvm.Cond.selects "LightHours" ({ cls := "LightHours", name := "of", desc := "(II)I" } : Jvm.MethodName) ({ cls := "LightHours", name := "of", desc := "(II)I" } : Jvm.MethodName)) ∈ GT := gt_at 387 (by decide +kernel) (by decide +kernel)
theorem wd_388 : (Jvm.Cond.code ({ cls := "LightHours", name := "of", desc := "(II)I" } : Jvm.MethodName) prog_1_method_8_code (4 : Nat) (Option.some Jvm.ClassFile.FieldType.int)) ∈ GT := gt_at 388 (by decide +kernel) (by decide +kernel)
theorem wd_389 : (Jvm.Cond.methodLink "LightHours" (109 : Nat) ({ cls := "LightHours$Ledger", name := "openAt", desc := "(I)LLightHours$Ledger;" } : Jvm.MethodName)) ∈ GT := gt_at 389 (by decide +kernel) (by decide +kernel)
theorem wd_390 : (Jvm.Cond.instanceMethod ({ cls := "LightHours$Ledger", name := "openAt", desc := "(I)LLightHours$Ledger;" } : Jvm.MethodName)) ∈ GT := gt_at 390 (by decide +kernel) (by decide +kernel)
theorem wd_391 : (Jvm.Cond.selects "LightHours$Ledger" ({ cls := "LightHours$Ledger", name := "openAt", desc := "(I)LLightHours$Ledger;" } : Jvm.MethodName) ({ cls := "LightHours$Ledger", name := "openAt", desc := "(I)LLightHours$Ledger;" } : Jvm.MethodName)) ∈ GT := gt_at 391 (by decide +kernel) (by decide +kernel)
theorem wd_392 : (Jvm.Cond.code ({ cls := "LightHours$Ledger", name := "openAt", desc := "(I)LLightHours$Ledger;" } : Jvm.MethodName) prog_5_method_2_code (2 : Nat) (Option.some (Jvm.ClassFile.FieldType.object "LightHours$Ledger"))) ∈ GT := gt_at 392 (by decide +kernel) (by decide +kernel)
theorem wd_393 : (Jvm.Cond.methodLink "LightHours$Ledger" (36 : Nat) ({ cls := "LightHours$Ledger", name := "sumSpends", desc := "()V" } : Jvm.MethodName)) ∈ GT := gt_at 393 (by decide +kernel) (by decide +kernel)
theorem wd_395 : (Jvm.Cond.instanceMethod ({ cls := "LightHours$Ledger", name := "sumSpends", desc := "()V" } : Jvm.MethodName)) ∈ GT := gt_at 395 (by decide +kernel) (by decide +kernel)
theorem wd_396 : (Jvm.Cond.code ({ cls := "LightHours$Ledger", name := "sumSpends", desc := "()V" } : Jvm.MethodName) prog_5_method_3_code (3 : Nat) (Option.none : Option Jvm.ClassFile.FieldType)) ∈ GT := gt_at 396 (by decide +kernel) (by decide +kernel)
theorem wd_397 : (Jvm.Cond.methodLink "LightHours$Ledger" (53 : Nat) ({ cls := "LightHours$Bookings", name := "standsFor", desc := "(II)Z" } : Jvm.MethodName)) ∈ GT := gt_at 397 (by decide +kernel) (by decide +kernel)
theorem wd_398 : (Jvm.Cond.instanceMethod ({ cls := "LightHours$Bookings", name := "standsFor", desc := "(II)Z" } : Jvm.MethodName)) ∈ GT := gt_at 398 (by decide +kernel) (by decide +kernel)
theorem wd_399 : (Jvm.Cond.selects "LightHours$Bookings" ({ cls := "LightHours$Bookings", name := "standsFor", desc := "(II)Z" } : Jvm.MethodName) ({ cls := "LightHours$Bookings", name := "standsFor", desc := "(II)Z" } : Jvm.MethodName)) ∈ GT := gt_at 399 (by decide +kernel) (by decide +kernel)
theorem wd_400 : (Jvm.Cond.code ({ cls := "LightHours$Bookings", name := "standsFor", desc := "(II)Z" } : Jvm.MethodName) prog_2_method_7_code (3 : Nat) (Option.some Jvm.ClassFile.FieldType.boolean)) ∈ GT := gt_at 400 (by decide +kernel) (by decide +kernel)
theorem wd_401 : (Jvm.Cond.methodLink "LightHours$Ledger" (60 : Nat) ({ cls := "LightHours$House", name := "spendEnd", desc := "(IZ)I" } : Jvm.MethodName)) ∈ GT := gt_at 401 (by decide +kernel) (by decide +kernel)
theorem wd_402 : (Jvm.Cond.instanceMethod ({ cls := "LightHours$House", name := "spendEnd", desc := "(IZ)I" } : Jvm.MethodName)) ∈ GT := gt_at 402 (by decide +kernel) (by decide +kernel)
theorem wd_403 : (Jvm.Cond.selects "LightHours$House" ({ cls := "LightHours$House", name := "spendEnd", desc := "(IZ)I" } : Jvm.MethodName) ({ cls := "LightHours$House", name := "spendEnd", desc := "(IZ)I" } : Jvm.MethodName)) ∈ GT := gt_at 403 (by decide +kernel) (by decide +kernel)
theorem wd_404 : (Jvm.Cond.code ({ cls := "LightHours$House", name := "spendEnd", desc := "(IZ)I" } : Jvm.MethodName) prog_4_method_2_code (3 : Nat) (Option.some Jvm.ClassFile.FieldType.int)) ∈ GT := gt_at 404 (by decide +kernel) (by decide +kernel)
theorem wd_405 : (Jvm.Cond.methodLink "LightHours$House" (44 : Nat) ({ cls := "LightHours$Bookings", name := "isLoan", desc := "(I)Z" } : Jvm.MethodName)) ∈ GT := gt_at 405 (by decide +kernel) (by decide +kernel)
theorem wd_406 : (Jvm.Cond.instanceMethod ({ cls := "LightHours$Bookings", name := "isLoan", desc := "(I)Z" } : Jvm.MethodName)) ∈ GT := gt_at 406 (by decide +kernel) (by decide +kernel)
theorem wd_407 : (Jvm.Cond.selects "LightHours$Bookings" ({ cls := "LightHours$Bookings", name := "isLoan", desc := "(I)Z" } : Jvm.MethodName) ({ cls := "LightHours$Bookings", name := "isLoan", desc := "(I)Z" } : Jvm.MethodName)) ∈ GT := gt_at 407 (by decide +kernel) (by decide +kernel)
theorem wd_408 : (Jvm.Cond.code ({ cls := "LightHours$Bookings", name := "isLoan", desc := "(I)Z" } : Jvm.MethodName) prog_2_method_6_code (2 : Nat) (Option.some Jvm.ClassFile.FieldType.boolean)) ∈ GT := gt_at 408 (by decide +kernel) (by decide +kernel)
theorem wd_409 : (Jvm.Cond.methodLink "LightHours$House" (58 : Nat) ({ cls := "LightHours$Rooms", name := "lightEnd", desc := "(IIZ)I" } : Jvm.MethodName)) ∈ GT := gt_at 409 (by decide +kernel) (by decide +kernel)
theorem wd_410 : (Jvm.Cond.methodLink "LightHours$Ledger" (39 : Nat) ({ cls := "LightHours$Ledger", name := "narrowPast", desc := "()V" } : Jvm.MethodName)) ∈ GT := gt_at 410 (by decide +kernel) (by decide +kernel)
theorem wd_412 : (Jvm.Cond.instanceMethod ({ cls := "LightHours$Ledger", name := "narrowPast", desc := "()V" } : Jvm.MethodName)) ∈ GT := gt_at 412 (by decide +kernel) (by decide +kernel)
theorem wd_413 : (Jvm.Cond.code ({ cls := "LightHours$Ledger", name := "narrowPast", desc := "()V" } : Jvm.MethodName) prog_5_method_4_code (7 : Nat) (Option.none : Option Jvm.ClassFile.FieldType)) ∈ GT := gt_at 413 (by decide +kernel) (by decide +kernel)
theorem wn_414 : (Jvm.Cond.fieldLinkNest "LightHours$Ledger" (89 : Nat) "LightHours" "STEPS" "[I" "LightHours") ∈ lw_tbl := List.mem_of_getElem? (i := 414) (by decide +kernel)
theorem wn_415 : (Jvm.Cond.laysStatic "LightHours" "STEPS" "[I") ∈ lw_tbl := List.mem_of_getElem? (i := 415) (by decide +kernel)
theorem wd_416 : (Jvm.Cond.methodLink "LightHours$Ledger" (92 : Nat) ({ cls := "java/lang/Math", name := "max", desc := "(II)I" } : Jvm.MethodName)) ∈ GT := gt_at 416 (by decide +kernel) (by decide +kernel)
theorem wd_417 : (Jvm.Cond.static ({ cls := "java/lang/Math", name := "max", desc := "(II)I" } : Jvm.MethodName)) ∈ GT := gt_at 417 (by decide +kernel) (by decide +kernel)
theorem wd_418 : (Jvm.Cond.code ({ cls := "java/lang/Math", name := "max", desc := "(II)I" } : Jvm.MethodName) prog_12_method_65_code (2 : Nat) (Option.some Jvm.ClassFile.FieldType.int)) ∈ GT := gt_at 418 (by decide +kernel) (by decide +kernel)
theorem wd_419 : (Jvm.Cond.methodLink "LightHours$Ledger" (98 : Nat) ({ cls := "java/lang/Math", name := "min", desc := "(II)I" } : Jvm.MethodName)) ∈ GT := gt_at 419 (by decide +kernel) (by decide +kernel)
theorem wd_420 : (Jvm.Cond.static ({ cls := "java/lang/Math", name := "min", desc := "(II)I" } : Jvm.MethodName)) ∈ GT := gt_at 420 (by decide +kernel) (by decide +kernel)
theorem wd_421 : (Jvm.Cond.code ({ cls := "java/lang/Math", name := "min", desc := "(II)I" } : Jvm.MethodName) prog_12_method_69_code (2 : Nat) (Option.some Jvm.ClassFile.FieldType.int)) ∈ GT := gt_at 421 (by decide +kernel) (by decide +kernel)
theorem wd_422 : (Jvm.Cond.methodLink "LightHours" (121 : Nat) ({ cls := "LightHours$Bookings", name := "countOf", desc := "(I)I" } : Jvm.MethodName)) ∈ GT := gt_at 422 (by decide +kernel) (by decide +kernel)
theorem wd_423 : (Jvm.Cond.instanceMethod ({ cls := "LightHours$Bookings", name := "countOf", desc := "(I)I" } : Jvm.MethodName)) ∈ GT := gt_at 423 (by decide +kernel) (by decide +kernel)
theorem wd_424 : (Jvm.Cond.selects "LightHours$Bookings" ({ cls := "LightHours$Bookings", name := "countOf", desc := "(I)I" } : Jvm.MethodName) ({ cls := "LightHours$Bookings", name := "countOf", desc := "(I)I" } : Jvm.MethodName)) ∈ GT := gt_at 424 (by decide +kernel) (by decide +kernel)
theorem wd_425 : (Jvm.Cond.code ({ cls := "LightHours$Bookings", name := "countOf", desc := "(I)I" } : Jvm.MethodName) prog_2_method_9_code (4 : Nat) (Option.some Jvm.ClassFile.FieldType.int)) ∈ GT := gt_at 425 (by decide +kernel) (by decide +kernel)
theorem wd_426 : (Jvm.Cond.methodLink "LightHours$Bookings" (36 : Nat) ({ cls := "LightHours$Bookings", name := "standsFor", desc := "(II)Z" } : Jvm.MethodName)) ∈ GT := gt_at 426 (by decide +kernel) (by decide +kernel)
theorem wd_427 : (Jvm.Cond.methodLink "LightHours" (130 : Nat) ({ cls := "LightHours$Threads", name := "countOf", desc := "(I)I" } : Jvm.MethodName)) ∈ GT := gt_at 427 (by decide +kernel) (by decide +kernel)
theorem wd_428 : (Jvm.Cond.instanceMethod ({ cls := "LightHours$Threads", name := "countOf", desc := "(I)I" } : Jvm.MethodName)) ∈ GT := gt_at 428 (by decide +kernel) (by decide +kernel)
theorem wd_429 : (Jvm.Cond.selects "LightHours$Threads" ({ cls := "LightHours$Threads", name := "countOf", desc := "(I)I" } : Jvm.MethodName) ({ cls := "LightHours$Threads", name := "countOf", desc := "(I)I" } : Jvm.MethodName)) ∈ GT := gt_at 429 (by decide +kernel) (by decide +kernel)
theorem wd_430 : (Jvm.Cond.code ({ cls := "LightHours$Threads", name := "countOf", desc := "(I)I" } : Jvm.MethodName) prog_8_method_3_code (4 : Nat) (Option.some Jvm.ClassFile.FieldType.int)) ∈ GT := gt_at 430 (by decide +kernel) (by decide +kernel)
theorem wd_431 : (Jvm.Cond.methodLink "LightHoursLaw" (46 : Nat) ({ cls := "LightHours", name := "show", desc := "(III)I" } : Jvm.MethodName)) ∈ GT := gt_at 431 (by decide +kernel) (by decide +kernel)
theorem wd_432 : (Jvm.Cond.instanceMethod ({ cls := "LightHours", name := "show", desc := "(III)I" } : Jvm.MethodName)) ∈ GT := gt_at 432 (by decide +kernel) (by decide +kernel)
theorem wd_433 : (Jvm.Cond.selects "LightHours" ({ cls := "LightHours", name := "show", desc := "(III)I" } : Jvm.MethodName) ({ cls := "LightHours", name := "show", desc := "(III)I" } : Jvm.MethodName)) ∈ GT := gt_at 433 (by decide +kernel) (by decide +kernel)
theorem wd_434 : (Jvm.Cond.code ({ cls := "LightHours", name := "show", desc := "(III)I" } : Jvm.MethodName) prog_1_method_9_code (4 : Nat) (Option.some Jvm.ClassFile.FieldType.int)) ∈ GT := gt_at 434 (by decide +kernel) (by decide +kernel)
theorem wd_435 : (Jvm.Cond.methodLink "LightHours" (133 : Nat) ({ cls := "LightHours$Bookings", name := "shownWithin", desc := "(III)Z" } : Jvm.MethodName)) ∈ GT := gt_at 435 (by decide +kernel) (by decide +kernel)
theorem wd_436 : (Jvm.Cond.instanceMethod ({ cls := "LightHours$Bookings", name := "shownWithin", desc := "(III)Z" } : Jvm.MethodName)) ∈ GT := gt_at 436 (by decide +kernel) (by decide +kernel)
theorem wd_437 : (Jvm.Cond.selects "LightHours$Bookings" ({ cls := "LightHours$Bookings", name := "shownWithin", desc := "(III)Z" } : Jvm.MethodName) ({ cls := "LightHours$Bookings", name := "shownWithin", desc := "(III)Z" } : Jvm.MethodName)) ∈ GT := gt_at 437 (by decide +kernel) (by decide +kernel)
theorem wd_438 : (Jvm.Cond.code ({ cls := "LightHours$Bookings", name := "shownWithin", desc := "(III)Z" } : Jvm.MethodName) prog_2_method_8_code (5 : Nat) (Option.some Jvm.ClassFile.FieldType.boolean)) ∈ GT := gt_at 438 (by decide +kernel) (by decide +kernel)
theorem wd_439 : (Jvm.Cond.methodLink "LightHours$Bookings" (40 : Nat) ({ cls := "LightHours$Bookings", name := "isLoan", desc := "(I)Z" } : Jvm.MethodName)) ∈ GT := gt_at 439 (by decide +kernel) (by decide +kernel)
theorem wd_440 : (Jvm.Cond.methodLink "LightHours$Bookings" (44 : Nat) ({ cls := "java/lang/Math", name := "abs", desc := "(I)I" } : Jvm.MethodName)) ∈ GT := gt_at 440 (by decide +kernel) (by decide +kernel)
theorem wd_441 : (Jvm.Cond.static ({ cls := "java/lang/Math", name := "abs", desc := "(I)I" } : Jvm.MethodName)) ∈ GT := gt_at 441 (by decide +kernel) (by decide +kernel)
theorem wd_442 : (Jvm.Cond.code ({ cls := "java/lang/Math", name := "abs", desc := "(I)I" } : Jvm.MethodName) prog_12_method_59_code (1 : Nat) (Option.some Jvm.ClassFile.FieldType.int)) ∈ GT := gt_at 442 (by decide +kernel) (by decide +kernel)
theorem wd_443 : (Jvm.Cond.methodLink "LightHours" (137 : Nat) ({ cls := "LightHours$Bookings", name := "addShow", desc := "(III)I" } : Jvm.MethodName)) ∈ GT := gt_at 443 (by decide +kernel) (by decide +kernel)
theorem wd_444 : (Jvm.Cond.instanceMethod ({ cls := "LightHours$Bookings", name := "addShow", desc := "(III)I" } : Jvm.MethodName)) ∈ GT := gt_at 444 (by decide +kernel) (by decide +kernel)
theorem wd_445 : (Jvm.Cond.selects "LightHours$Bookings" ({ cls := "LightHours$Bookings", name := "addShow", desc := "(III)I" } : Jvm.MethodName) ({ cls := "LightHours$Bookings", name := "addShow", desc := "(III)I" } : Jvm.MethodName)) ∈ GT := gt_at 445 (by decide +kernel) (by decide +kernel)
theorem wd_446 : (Jvm.Cond.code ({ cls := "LightHours$Bookings", name := "addShow", desc := "(III)I" } : Jvm.MethodName) prog_2_method_3_code (4 : Nat) (Option.some Jvm.ClassFile.FieldType.int)) ∈ GT := gt_at 446 (by decide +kernel) (by decide +kernel)
theorem wd_447 : (Jvm.Cond.methodLink "LightHours$Bookings" (32 : Nat) ({ cls := "LightHours$Bookings", name := "add", desc := "(IIII)I" } : Jvm.MethodName)) ∈ GT := gt_at 447 (by decide +kernel) (by decide +kernel)
theorem wd_449 : (Jvm.Cond.instanceMethod ({ cls := "LightHours$Bookings", name := "add", desc := "(IIII)I" } : Jvm.MethodName)) ∈ GT := gt_at 449 (by decide +kernel) (by decide +kernel)
theorem wd_450 : (Jvm.Cond.code ({ cls := "LightHours$Bookings", name := "add", desc := "(IIII)I" } : Jvm.MethodName) prog_2_method_5_code (5 : Nat) (Option.some Jvm.ClassFile.FieldType.int)) ∈ GT := gt_at 450 (by decide +kernel) (by decide +kernel)
theorem wd_451 : (Jvm.Cond.methodLink "LightHoursLaw" (50 : Nat) ({ cls := "LightHours", name := "lend", desc := "(III)I" } : Jvm.MethodName)) ∈ GT := gt_at 451 (by decide +kernel) (by decide +kernel)
theorem wd_452 : (Jvm.Cond.instanceMethod ({ cls := "LightHours", name := "lend", desc := "(III)I" } : Jvm.MethodName)) ∈ GT := gt_at 452 (by decide +kernel) (by decide +kernel)
theorem wd_453 : (Jvm.Cond.selects "LightHours" ({ cls := "LightHours", name := "lend", desc := "(III)I" } : Jvm.MethodName) ({ cls := "LightHours", name := "lend", desc := "(III)I" } : Jvm.MethodName)) ∈ GT := gt_at 453 (by decide +kernel) (by decide +kernel)
theorem wd_454 : (Jvm.Cond.code ({ cls := "LightHours", name := "lend", desc := "(III)I" } : Jvm.MethodName) prog_1_method_10_code (4 : Nat) (Option.some Jvm.ClassFile.FieldType.int)) ∈ GT := gt_at 454 (by decide +kernel) (by decide +kernel)
theorem wd_455 : (Jvm.Cond.methodLink "LightHours" (141 : Nat) ({ cls := "LightHours$Ledger", name := "leftEnd", desc := "(Z)I" } : Jvm.MethodName)) ∈ GT := gt_at 455 (by decide +kernel) (by decide +kernel)
theorem wd_456 : (Jvm.Cond.instanceMethod ({ cls := "LightHours$Ledger", name := "leftEnd", desc := "(Z)I" } : Jvm.MethodName)) ∈ GT := gt_at 456 (by decide +kernel) (by decide +kernel)
theorem wd_457 : (Jvm.Cond.selects "LightHours$Ledger" ({ cls := "LightHours$Ledger", name := "leftEnd", desc := "(Z)I" } : Jvm.MethodName) ({ cls := "LightHours$Ledger", name := "leftEnd", desc := "(Z)I" } : Jvm.MethodName)) ∈ GT := gt_at 457 (by decide +kernel) (by decide +kernel)
theorem wd_458 : (Jvm.Cond.code ({ cls := "LightHours$Ledger", name := "leftEnd", desc := "(Z)I" } : Jvm.MethodName) prog_5_method_7_code (2 : Nat) (Option.some Jvm.ClassFile.FieldType.int)) ∈ GT := gt_at 458 (by decide +kernel) (by decide +kernel)
theorem wd_459 : (Jvm.Cond.methodLink "LightHours$Ledger" (104 : Nat) ({ cls := "LightHours$Ledger", name := "spentEnd", desc := "(IZ)I" } : Jvm.MethodName)) ∈ GT := gt_at 459 (by decide +kernel) (by decide +kernel)
theorem wd_460 : (Jvm.Cond.instanceMethod ({ cls := "LightHours$Ledger", name := "spentEnd", desc := "(IZ)I" } : Jvm.MethodName)) ∈ GT := gt_at 460 (by decide +kernel) (by decide +kernel)
theorem wd_461 : (Jvm.Cond.selects "LightHours$Ledger" ({ cls := "LightHours$Ledger", name := "spentEnd", desc := "(IZ)I" } : Jvm.MethodName) ({ cls := "LightHours$Ledger", name := "spentEnd", desc := "(IZ)I" } : Jvm.MethodName)) ∈ GT := gt_at 461 (by decide +kernel) (by decide +kernel)
theorem wd_462 : (Jvm.Cond.code ({ cls := "LightHours$Ledger", name := "spentEnd", desc := "(IZ)I" } : Jvm.MethodName) prog_5_method_6_code (3 : Nat) (Option.some Jvm.ClassFile.FieldType.int)) ∈ GT := gt_at 462 (by decide +kernel) (by decide +kernel)
theorem wd_463 : (Jvm.Cond.methodLink "LightHours" (145 : Nat) ({ cls := "LightHours$Bookings", name := "addLoan", desc := "(III)I" } : Jvm.MethodName)) ∈ GT := gt_at 463 (by decide +kernel) (by decide +kernel)
theorem wd_464 : (Jvm.Cond.instanceMethod ({ cls := "LightHours$Bookings", name := "addLoan", desc := "(III)I" } : Jvm.MethodName)) ∈ GT := gt_at 464 (by decide +kernel) (by decide +kernel)
theorem wd_465 : (Jvm.Cond.selects "LightHours$Bookings" ({ cls := "LightHours$Bookings", name := "addLoan", desc := "(III)I" } : Jvm.MethodName) ({ cls := "LightHours$Bookings", name := "addLoan", desc := "(III)I" } : Jvm.MethodName)) ∈ GT := gt_at 465 (by decide +kernel) (by decide +kernel)
theorem wd_466 : (Jvm.Cond.code ({ cls := "LightHours$Bookings", name := "addLoan", desc := "(III)I" } : Jvm.MethodName) prog_2_method_4_code (4 : Nat) (Option.some Jvm.ClassFile.FieldType.int)) ∈ GT := gt_at 466 (by decide +kernel) (by decide +kernel)
theorem wd_467 : (Jvm.Cond.methodLink "LightHoursLaw" (54 : Nat) ({ cls := "LightHours", name := "lacks", desc := "(II)I" } : Jvm.MethodName)) ∈ GT := gt_at 467 (by decide +kernel) (by decide +kernel)
theorem wd_468 : (Jvm.Cond.instanceMethod ({ cls := "LightHours", name := "lacks", desc := "(II)I" } : Jvm.MethodName)) ∈ GT := gt_at 468 (by decide +kernel) (by decide +kernel)
theorem wd_469 : (Jvm.Cond.selects "LightHours" ({ cls := "LightHours", name := "lacks", desc := "(II)I" } : Jvm.MethodName) ({ cls := "LightHours", name := "lacks", desc := "(II)I" } : Jvm.MethodName)) ∈ GT := gt_at 469 (by decide +kernel) (by decide +kernel)
theorem wd_470 : (Jvm.Cond.code ({ cls := "LightHours", name := "lacks", desc := "(II)I" } : Jvm.MethodName) prog_1_method_11_code (3 : Nat) (Option.some Jvm.ClassFile.FieldType.int)) ∈ GT := gt_at 470 (by decide +kernel) (by decide +kernel)
theorem wd_471 : (Jvm.Cond.methodLink "LightHours" (148 : Nat) ({ cls := "java/lang/Math", name := "max", desc := "(II)I" } : Jvm.MethodName)) ∈ GT := gt_at 471 (by decide +kernel) (by decide +kernel)
theorem wd_472 : (Jvm.Cond.methodLink "LightHoursLaw" (58 : Nat) ({ cls := "LightHours", name := "cancel", desc := "(I)I" } : Jvm.MethodName)) ∈ GT := gt_at 472 (by decide +kernel) (by decide +kernel)
theorem wd_473 : (Jvm.Cond.instanceMethod ({ cls := "LightHours", name := "cancel", desc := "(I)I" } : Jvm.MethodName)) ∈ GT := gt_at 473 (by decide +kernel) (by decide +kernel)
theorem wd_474 : (Jvm.Cond.selects "LightHours" ({ cls := "LightHours", name := "cancel", desc := "(I)I" } : Jvm.MethodName) ({ cls := "LightHours", name := "cancel", desc := "(I)I" } : Jvm.MethodName)) ∈ GT := gt_at 474 (by decide +kernel) (by decide +kernel)
theorem wd_475 : (Jvm.Cond.code ({ cls := "LightHours", name := "cancel", desc := "(I)I" } : Jvm.MethodName) prog_1_method_12_code (3 : Nat) (Option.some Jvm.ClassFile.FieldType.int)) ∈ GT := gt_at 475 (by decide +kernel) (by decide +kernel)
theorem wd_476 : (Jvm.Cond.methodLink "LightHours" (154 : Nat) ({ cls := "LightHours$Bookings", name := "has", desc := "(I)Z" } : Jvm.MethodName)) ∈ GT := gt_at 476 (by decide +kernel) (by decide +kernel)
theorem wd_477 : (Jvm.Cond.instanceMethod ({ cls := "LightHours$Bookings", name := "has", desc := "(I)Z" } : Jvm.MethodName)) ∈ GT := gt_at 477 (by decide +kernel) (by decide +kernel)
theorem wd_478 : (Jvm.Cond.selects "LightHours$Bookings" ({ cls := "LightHours$Bookings", name := "has", desc := "(I)Z" } : Jvm.MethodName) ({ cls := "LightHours$Bookings", name := "has", desc := "(I)Z" } : Jvm.MethodName)) ∈ GT := gt_at 478 (by decide +kernel) (by decide +kernel)
theorem wd_479 : (Jvm.Cond.code ({ cls := "LightHours$Bookings", name := "has", desc := "(I)Z" } : Jvm.MethodName) prog_2_method_2_code (2 : Nat) (Option.some Jvm.ClassFile.FieldType.boolean)) ∈ GT := gt_at 479 (by decide +kernel) (by decide +kernel)
theorem wd_480 : (Jvm.Cond.methodLink "LightHoursLaw" (62 : Nat) ({ cls := "LightHours", name := "booking", desc := "(II)I" } : Jvm.MethodName)) ∈ GT := gt_at 480 (by decide +kernel) (by decide +kernel)
theorem wd_481 : (Jvm.Cond.instanceMethod ({ cls := "LightHours", name := "booking", desc := "(II)I" } : Jvm.MethodName)) ∈ GT := gt_at 481 (by decide +kernel) (by decide +kernel)
theorem wd_482 : (Jvm.Cond.selects "LightHours" ({ cls := "LightHours", name := "booking", desc := "(II)I" } : Jvm.MethodName) ({ cls := "LightHours", name := "booking", desc := "(II)I" } : Jvm.MethodName)) ∈ GT := gt_at 482 (by decide +kernel) (by decide +kernel)
theorem wd_483 : (Jvm.Cond.code ({ cls := "LightHours", name := "booking", desc := "(II)I" } : Jvm.MethodName) prog_1_method_13_code (4 : Nat) (Option.some Jvm.ClassFile.FieldType.int)) ∈ GT := gt_at 483 (by decide +kernel) (by decide +kernel)
theorem wd_484 : (Jvm.Cond.methodLink "LightHours" (159 : Nat) ({ cls := "LightHours$Bookings", name := "isLoan", desc := "(I)Z" } : Jvm.MethodName)) ∈ GT := gt_at 484 (by decide +kernel) (by decide +kernel)
theorem wd_485 : (Jvm.Cond.methodLink "LightHours" (171 : Nat) ({ cls := "LightHours$House", name := "spendEnd", desc := "(IZ)I" } : Jvm.MethodName)) ∈ GT := gt_at 485 (by decide +kernel) (by decide +kernel)
theorem wd_486 : (Jvm.Cond.methodLink "LightHoursLaw" (66 : Nat) ({ cls := "LightHours", name := "thread", desc := "(III)I" } : Jvm.MethodName)) ∈ GT := gt_at 486 (by decide +kernel) (by decide +kernel)
theorem wd_487 : (Jvm.Cond.instanceMethod ({ cls := "LightHours", name := "thread", desc := "(III)I" } : Jvm.MethodName)) ∈ GT := gt_at 487 (by decide +kernel) (by decide +kernel)
theorem wd_488 : (Jvm.Cond.selects "LightHours" ({ cls := "LightHours", name := "thread", desc := "(III)I" } : Jvm.MethodName) ({ cls := "LightHours", name := "thread", desc := "(III)I" } : Jvm.MethodName)) ∈ GT := gt_at 488 (by decide +kernel) (by decide +kernel)
theorem wd_489 : (Jvm.Cond.code ({ cls := "LightHours", name := "thread", desc := "(III)I" } : Jvm.MethodName) prog_1_method_14_code (4 : Nat) (Option.some Jvm.ClassFile.FieldType.int)) ∈ GT := gt_at 489 (by decide +kernel) (by decide +kernel)
theorem wd_490 : (Jvm.Cond.methodLink "LightHours" (176 : Nat) ({ cls := "LightHours$Threads", name := "add", desc := "(III)I" } : Jvm.MethodName)) ∈ GT := gt_at 490 (by decide +kernel) (by decide +kernel)
theorem wd_491 : (Jvm.Cond.instanceMethod ({ cls := "LightHours$Threads", name := "add", desc := "(III)I" } : Jvm.MethodName)) ∈ GT := gt_at 491 (by decide +kernel) (by decide +kernel)
theorem wd_492 : (Jvm.Cond.selects "LightHours$Threads" ({ cls := "LightHours$Threads", name := "add", desc := "(III)I" } : Jvm.MethodName) ({ cls := "LightHours$Threads", name := "add", desc := "(III)I" } : Jvm.MethodName)) ∈ GT := gt_at 492 (by decide +kernel) (by decide +kernel)
theorem wd_493 : (Jvm.Cond.code ({ cls := "LightHours$Threads", name := "add", desc := "(III)I" } : Jvm.MethodName) prog_8_method_2_code (4 : Nat) (Option.some Jvm.ClassFile.FieldType.int)) ∈ GT := gt_at 493 (by decide +kernel) (by decide +kernel)
theorem wd_494 : (Jvm.Cond.methodLink "LightHoursLaw" (70 : Nat) ({ cls := "LightHours", name := "cut", desc := "()I" } : Jvm.MethodName)) ∈ GT := gt_at 494 (by decide +kernel) (by decide +kernel)
theorem wd_495 : (Jvm.Cond.instanceMethod ({ cls := "LightHours", name := "cut", desc := "()I" } : Jvm.MethodName)) ∈ GT := gt_at 495 (by decide +kernel) (by decide +kernel)
theorem wd_496 : (Jvm.Cond.selects "LightHours" ({ cls := "LightHours", name := "cut", desc := "()I" } : Jvm.MethodName) ({ cls := "LightHours", name := "cut", desc := "()I" } : Jvm.MethodName)) ∈ GT := gt_at 496 (by decide +kernel) (by decide +kernel)
theorem wd_497 : (Jvm.Cond.code ({ cls := "LightHours", name := "cut", desc := "()I" } : Jvm.MethodName) prog_1_method_15_code (1 : Nat) (Option.some Jvm.ClassFile.FieldType.int)) ∈ GT := gt_at 497 (by decide +kernel) (by decide +kernel)
theorem wd_498 : (Jvm.Cond.methodLink "LightHoursLaw" (75 : Nat) ({ cls := "LightHours", name := "pastOf", desc := "(IZ)I" } : Jvm.MethodName)) ∈ GT := gt_at 498 (by decide +kernel) (by decide +kernel)
theorem wd_499 : (Jvm.Cond.instanceMethod ({ cls := "LightHours", name := "pastOf", desc := "(IZ)I" } : Jvm.MethodName)) ∈ GT := gt_at 499 (by decide +kernel) (by decide +kernel)
theorem wd_500 : (Jvm.Cond.selects "LightHours" ({ cls := "LightHours", name := "pastOf", desc := "(IZ)I" } : Jvm.MethodName) ({ cls := "LightHours", name := "pastOf", desc := "(IZ)I" } : Jvm.MethodName)) ∈ GT := gt_at 500 (by decide +kernel) (by decide +kernel)
theorem wd_501 : (Jvm.Cond.code ({ cls := "LightHours", name := "pastOf", desc := "(IZ)I" } : Jvm.MethodName) prog_1_method_16_code (3 : Nat) (Option.some Jvm.ClassFile.FieldType.int)) ∈ GT := gt_at 501 (by decide +kernel) (by decide +kernel)
theorem wd_502 : (Jvm.Cond.methodLink "LightHours" (178 : Nat) ({ cls := "LightHours$Ledger", name := "pastEnd", desc := "(Z)I" } : Jvm.MethodName)) ∈ GT := gt_at 502 (by decide +kernel) (by decide +kernel)
theorem wd_503 : (Jvm.Cond.instanceMethod ({ cls := "LightHours$Ledger", name := "pastEnd", desc := "(Z)I" } : Jvm.MethodName)) ∈ GT := gt_at 503 (by decide +kernel) (by decide +kernel)
theorem wd_504 : (Jvm.Cond.selects "LightHours$Ledger" ({ cls := "LightHours$Ledger", name := "pastEnd", desc := "(Z)I" } : Jvm.MethodName) ({ cls := "LightHours$Ledger", name := "pastEnd", desc := "(Z)I" } : Jvm.MethodName)) ∈ GT := gt_at 504 (by decide +kernel) (by decide +kernel)
theorem wd_505 : (Jvm.Cond.code ({ cls := "LightHours$Ledger", name := "pastEnd", desc := "(Z)I" } : Jvm.MethodName) prog_5_method_5_code (2 : Nat) (Option.some Jvm.ClassFile.FieldType.int)) ∈ GT := gt_at 505 (by decide +kernel) (by decide +kernel)
theorem wd_506 : (Jvm.Cond.methodLink "LightHoursLaw" (80 : Nat) ({ cls := "LightHours", name := "spent", desc := "(IIZ)I" } : Jvm.MethodName)) ∈ GT := gt_at 506 (by decide +kernel) (by decide +kernel)
theorem wd_507 : (Jvm.Cond.instanceMethod ({ cls := "LightHours", name := "spent", desc := "(IIZ)I" } : Jvm.MethodName)) ∈ GT := gt_at 507 (by decide +kernel) (by decide +kernel)
theorem wd_508 : (Jvm.Cond.selects "LightHours" ({ cls := "LightHours", name := "spent", desc := "(IIZ)I" } : Jvm.MethodName) ({ cls := "LightHours", name := "spent", desc := "(IIZ)I" } : Jvm.MethodName)) ∈ GT := gt_at 508 (by decide +kernel) (by decide +kernel)
theorem wd_509 : (Jvm.Cond.code ({ cls := "LightHours", name := "spent", desc := "(IIZ)I" } : Jvm.MethodName) prog_1_method_17_code (4 : Nat) (Option.some Jvm.ClassFile.FieldType.int)) ∈ GT := gt_at 509 (by decide +kernel) (by decide +kernel)
theorem wd_510 : (Jvm.Cond.methodLink "LightHours" (181 : Nat) ({ cls := "LightHours$Ledger", name := "spentEnd", desc := "(IZ)I" } : Jvm.MethodName)) ∈ GT := gt_at 510 (by decide +kernel) (by decide +kernel)
theorem wd_511 : (Jvm.Cond.methodLink "LightHoursLaw" (84 : Nat) ({ cls := "LightHours", name := "left", desc := "(IZ)I" } : Jvm.MethodName)) ∈ GT := gt_at 511 (by decide +kernel) (by decide +kernel)
theorem wd_512 : (Jvm.Cond.instanceMethod ({ cls := "LightHours", name := "left", desc := "(IZ)I" } : Jvm.MethodName)) ∈ GT := gt_at 512 (by decide +kernel) (by decide +kernel)
theorem wd_513 : (Jvm.Cond.selects "LightHours" ({ cls := "LightHours", name := "left", desc := "(IZ)I" } : Jvm.MethodName) ({ cls := "LightHours", name := "left", desc := "(IZ)I" } : Jvm.MethodName)) ∈ GT := gt_at 513 (by decide +kernel) (by decide +kernel)
theorem wd_514 : (Jvm.Cond.code ({ cls := "LightHours", name := "left", desc := "(IZ)I" } : Jvm.MethodName) prog_1_method_18_code (3 : Nat) (Option.some Jvm.ClassFile.FieldType.int)) ∈ GT := gt_at 514 (by decide +kernel) (by decide +kernel)
theorem wd_515 : (Jvm.Cond.constant "LightHours" (184 : Nat) (-1000000 : Int32)) ∈ GT := gt_at 515 (by decide +kernel) (by decide +kernel)
theorem wd_516 : (Jvm.Cond.methodLink "LightHoursLaw" (88 : Nat) ({ cls := "LightHours", name := "step", desc := "(IIZ)I" } : Jvm.MethodName)) ∈ GT := gt_at 516 (by decide +kernel) (by decide +kernel)
theorem wd_517 : (Jvm.Cond.instanceMethod ({ cls := "LightHours", name := "step", desc := "(IIZ)I" } : Jvm.MethodName)) ∈ GT := gt_at 517 (by decide +kernel) (by decide +kernel)
theorem wd_518 : (Jvm.Cond.selects "LightHours" ({ cls := "LightHours", name := "step", desc := "(IIZ)I" } : Jvm.MethodName) ({ cls := "LightHours", name := "step", desc := "(IIZ)I" } : Jvm.MethodName)) ∈ GT := gt_at 518 (by decide +kernel) (by decide +kernel)
theorem wd_519 : (Jvm.Cond.code ({ cls := "LightHours", name := "step", desc := "(IIZ)I" } : Jvm.MethodName) prog_1_method_19_code (4 : Nat) (Option.some Jvm.ClassFile.FieldType.int)) ∈ GT := gt_at 519 (by decide +kernel) (by decide +kernel)
theorem wd_520 : (Jvm.Cond.methodLink "LightHours" (185 : Nat) ({ cls := "LightHours", name := "stepOfAmount", desc := "(I)I" } : Jvm.MethodName)) ∈ GT := gt_at 520 (by decide +kernel) (by decide +kernel)
theorem wd_521 : (Jvm.Cond.static ({ cls := "LightHours", name := "stepOfAmount", desc := "(I)I" } : Jvm.MethodName)) ∈ GT := gt_at 521 (by decide +kernel) (by decide +kernel)
theorem wd_522 : (Jvm.Cond.code ({ cls := "LightHours", name := "stepOfAmount", desc := "(I)I" } : Jvm.MethodName) prog_1_method_32_code (2 : Nat) (Option.some Jvm.ClassFile.FieldType.int)) ∈ GT := gt_at 522 (by decide +kernel) (by decide +kernel)
theorem wd_523 : (Jvm.Cond.fieldLink "LightHours" (233 : Nat) "LightHours" "STEPS" "[I") ∈ GT := gt_at 523 (by decide +kernel) (by decide +kernel)
theorem wd_524 : (Jvm.Cond.methodLink "LightHoursLaw" (92 : Nat) ({ cls := "LightHours", name := "wall", desc := "(III)I" } : Jvm.MethodName)) ∈ GT := gt_at 524 (by decide +kernel) (by decide +kernel)
theorem wd_525 : (Jvm.Cond.instanceMethod ({ cls := "LightHours", name := "wall", desc := "(III)I" } : Jvm.MethodName)) ∈ GT := gt_at 525 (by decide +kernel) (by decide +kernel)
theorem wd_526 : (Jvm.Cond.selects "LightHours" ({ cls := "LightHours", name := "wall", desc := "(III)I" } : Jvm.MethodName) ({ cls := "LightHours", name := "wall", desc := "(III)I" } : Jvm.MethodName)) ∈ GT := gt_at 526 (by decide +kernel) (by decide +kernel)
theorem wd_527 : (Jvm.Cond.code ({ cls := "LightHours", name := "wall", desc := "(III)I" } : Jvm.MethodName) prog_1_method_20_code (4 : Nat) (Option.some Jvm.ClassFile.FieldType.int)) ∈ GT := gt_at 527 (by decide +kernel) (by decide +kernel)
theorem wd_528 : (Jvm.Cond.methodLink "LightHours" (195 : Nat) ({ cls := "LightHours$Walls", name := "add", desc := "(III)I" } : Jvm.MethodName)) ∈ GT := gt_at 528 (by decide +kernel) (by decide +kernel)
theorem wd_529 : (Jvm.Cond.instanceMethod ({ cls := "LightHours$Walls", name := "add", desc := "(III)I" } : Jvm.MethodName)) ∈ GT := gt_at 529 (by decide +kernel) (by decide +kernel)
theorem wd_530 : (Jvm.Cond.selects "LightHours$Walls" ({ cls := "LightHours$Walls", name := "add", desc := "(III)I" } : Jvm.MethodName) ({ cls := "LightHours$Walls", name := "add", desc := "(III)I" } : Jvm.MethodName)) ∈ GT := gt_at 530 (by decide +kernel) (by decide +kernel)
theorem wd_531 : (Jvm.Cond.code ({ cls := "LightHours$Walls", name := "add", desc := "(III)I" } : Jvm.MethodName) prog_9_method_3_code (4 : Nat) (Option.some Jvm.ClassFile.FieldType.int)) ∈ GT := gt_at 531 (by decide +kernel) (by decide +kernel)
theorem wd_532 : (Jvm.Cond.methodLink "LightHoursLaw" (96 : Nat) ({ cls := "LightHours", name := "strip", desc := "()I" } : Jvm.MethodName)) ∈ GT := gt_at 532 (by decide +kernel) (by decide +kernel)
theorem wd_533 : (Jvm.Cond.instanceMethod ({ cls := "LightHours", name := "strip", desc := "()I" } : Jvm.MethodName)) ∈ GT := gt_at 533 (by decide +kernel) (by decide +kernel)
theorem wd_534 : (Jvm.Cond.selects "LightHours" ({ cls := "LightHours", name := "strip", desc := "()I" } : Jvm.MethodName) ({ cls := "LightHours", name := "strip", desc := "()I" } : Jvm.MethodName)) ∈ GT := gt_at 534 (by decide +kernel) (by decide +kernel)
theorem wd_535 : (Jvm.Cond.code ({ cls := "LightHours", name := "strip", desc := "()I" } : Jvm.MethodName) prog_1_method_21_code (1 : Nat) (Option.some Jvm.ClassFile.FieldType.int)) ∈ GT := gt_at 535 (by decide +kernel) (by decide +kernel)
theorem wd_536 : (Jvm.Cond.methodLink "LightHoursLaw" (100 : Nat) ({ cls := "LightHours", name := "hung", desc := "(I)I" } : Jvm.MethodName)) ∈ GT := gt_at 536 (by decide +kernel) (by decide +kernel)
theorem wd_537 : (Jvm.Cond.instanceMethod ({ cls := "LightHours", name := "hung", desc := "(I)I" } : Jvm.MethodName)) ∈ GT := gt_at 537 (by decide +kernel) (by decide +kernel)
theorem wd_538 : (Jvm.Cond.selects "LightHours" ({ cls := "LightHours", name := "hung", desc := "(I)I" } : Jvm.MethodName) ({ cls := "LightHours", name := "hung", desc := "(I)I" } : Jvm.MethodName)) ∈ GT := gt_at 538 (by decide +kernel) (by decide +kernel)
theorem wd_539 : (Jvm.Cond.code ({ cls := "LightHours", name := "hung", desc := "(I)I" } : Jvm.MethodName) prog_1_method_22_code (2 : Nat) (Option.some Jvm.ClassFile.FieldType.int)) ∈ GT := gt_at 539 (by decide +kernel) (by decide +kernel)
theorem wd_540 : (Jvm.Cond.methodLink "LightHours" (196 : Nat) ({ cls := "LightHours$Walls", name := "has", desc := "(I)Z" } : Jvm.MethodName)) ∈ GT := gt_at 540 (by decide +kernel) (by decide +kernel)
theorem wd_541 : (Jvm.Cond.instanceMethod ({ cls := "LightHours$Walls", name := "has", desc := "(I)Z" } : Jvm.MethodName)) ∈ GT := gt_at 541 (by decide +kernel) (by decide +kernel)
theorem wd_542 : (Jvm.Cond.selects "LightHours$Walls" ({ cls := "LightHours$Walls", name := "has", desc := "(I)Z" } : Jvm.MethodName) ({ cls := "LightHours$Walls", name := "has", desc := "(I)Z" } : Jvm.MethodName)) ∈ GT := gt_at 542 (by decide +kernel) (by decide +kernel)
theorem wd_543 : (Jvm.Cond.code ({ cls := "LightHours$Walls", name := "has", desc := "(I)Z" } : Jvm.MethodName) prog_9_method_2_code (2 : Nat) (Option.some Jvm.ClassFile.FieldType.boolean)) ∈ GT := gt_at 543 (by decide +kernel) (by decide +kernel)
theorem wd_544 : (Jvm.Cond.methodLink "LightHours" (197 : Nat) ({ cls := "LightHours$Hanging", name := "find", desc := "()V" } : Jvm.MethodName)) ∈ GT := gt_at 544 (by decide +kernel) (by decide +kernel)
theorem wd_545 : (Jvm.Cond.instanceMethod ({ cls := "LightHours$Hanging", name := "find", desc := "()V" } : Jvm.MethodName)) ∈ GT := gt_at 545 (by decide +kernel) (by decide +kernel)
theorem wd_546 : (Jvm.Cond.selects "LightHours$Hanging" ({ cls := "LightHours$Hanging", name := "find", desc := "()V" } : Jvm.MethodName) ({ cls := "LightHours$Hanging", name := "find", desc := "()V" } : Jvm.MethodName)) ∈ GT := gt_at 546 (by decide +kernel) (by decide +kernel)
theorem wd_547 : (Jvm.Cond.code ({ cls := "LightHours$Hanging", name := "find", desc := "()V" } : Jvm.MethodName) prog_3_method_3_code (3 : Nat) (Option.none : Option Jvm.ClassFile.FieldType)) ∈ GT := gt_at 547 (by decide +kernel) (by decide +kernel)
theorem wd_548 : (Jvm.Cond.methodLink "LightHours$Hanging" (46 : Nat) ({ cls := "LightHours$Hanging", name := "prepare", desc := "()V" } : Jvm.MethodName)) ∈ GT := gt_at 548 (by decide +kernel) (by decide +kernel)
theorem wd_550 : (Jvm.Cond.instanceMethod ({ cls := "LightHours$Hanging", name := "prepare", desc := "()V" } : Jvm.MethodName)) ∈ GT := gt_at 550 (by decide +kernel) (by decide +kernel)
theorem wd_551 : (Jvm.Cond.code ({ cls := "LightHours$Hanging", name := "prepare", desc := "()V" } : Jvm.MethodName) prog_3_method_4_code (2 : Nat) (Option.none : Option Jvm.ClassFile.FieldType)) ∈ GT := gt_at 551 (by decide +kernel) (by decide +kernel)
theorem wd_552 : (Jvm.Cond.methodLink "LightHours$Hanging" (71 : Nat) ({ cls := "LightHours$Ledger", name := "openAt", desc := "(I)LLightHours$Ledger;" } : Jvm.MethodName)) ∈ GT := gt_at 552 (by decide +kernel) (by decide +kernel)
theorem wd_553 : (Jvm.Cond.methodLink "LightHours$Hanging" (77 : Nat) ({ cls := "LightHours$Ledger", name := "leftEnd", desc := "(Z)I" } : Jvm.MethodName)) ∈ GT := gt_at 553 (by decide +kernel) (by decide +kernel)
theorem wd_554 : (Jvm.Cond.methodLink "LightHours$Hanging" (91 : Nat) ({ cls := "LightHours$Rooms", name := "lightEnd", desc := "(IIZ)I" } : Jvm.MethodName)) ∈ GT := gt_at 554 (by decide +kernel) (by decide +kernel)
theorem wd_555 : (Jvm.Cond.methodLink "LightHours$Hanging" (97 : Nat) ({ cls := "LightHours$Hanging", name := "sheetsFor", desc := "(I)I" } : Jvm.MethodName)) ∈ GT := gt_at 555 (by decide +kernel) (by decide +kernel)
theorem wd_557 : (Jvm.Cond.instanceMethod ({ cls := "LightHours$Hanging", name := "sheetsFor", desc := "(I)I" } : Jvm.MethodName)) ∈ GT := gt_at 557 (by decide +kernel) (by decide +kernel)
theorem wd_558 : (Jvm.Cond.code ({ cls := "LightHours$Hanging", name := "sheetsFor", desc := "(I)I" } : Jvm.MethodName) prog_3_method_5_code (5 : Nat) (Option.some Jvm.ClassFile.FieldType.int)) ∈ GT := gt_at 558 (by decide +kernel) (by decide +kernel)
theorem wd_559 : (Jvm.Cond.methodLink "LightHours$Hanging" (104 : Nat) ({ cls := "LightHours$Sheets", name := "hasTheme", desc := "(II)Z" } : Jvm.MethodName)) ∈ GT := gt_at 559 (by decide +kernel) (by decide +kernel)
theorem wd_560 : (Jvm.Cond.instanceMethod ({ cls := "LightHours$Sheets", name := "hasTheme", desc := "(II)Z" } : Jvm.MethodName)) ∈ GT := gt_at 560 (by decide +kernel) (by decide +kernel)
theorem wd_561 : (Jvm.Cond.selects "LightHours$Sheets" ({ cls := "LightHours$Sheets", name := "hasTheme", desc := "(II)Z" } : Jvm.MethodName) ({ cls := "LightHours$Sheets", name := "hasTheme", desc := "(II)Z" } : Jvm.MethodName)) ∈ GT := gt_at 561 (by decide +kernel) (by decide +kernel)
theorem wd_562 : (Jvm.Cond.code ({ cls := "LightHours$Sheets", name := "hasTheme", desc := "(II)Z" } : Jvm.MethodName) prog_7_method_4_code (3 : Nat) (Option.some Jvm.ClassFile.FieldType.boolean)) ∈ GT := gt_at 562 (by decide +kernel) (by decide +kernel)
theorem wd_563 : (Jvm.Cond.methodLink "LightHours$Hanging" (108 : Nat) ({ cls := "LightHours$Hanging", name := "shownTooNear", desc := "(II)Z" } : Jvm.MethodName)) ∈ GT := gt_at 563 (by decide +kernel) (by decide +kernel)
theorem wd_565 : (Jvm.Cond.instanceMethod ({ cls := "LightHours$Hanging", name := "shownTooNear", desc := "(II)Z" } : Jvm.MethodName)) ∈ GT := gt_at 565 (by decide +kernel) (by decide +kernel)
theorem wd_566 : (Jvm.Cond.code ({ cls := "LightHours$Hanging", name := "shownTooNear", desc := "(II)Z" } : Jvm.MethodName) prog_3_method_6_code (4 : Nat) (Option.some Jvm.ClassFile.FieldType.boolean)) ∈ GT := gt_at 566 (by decide +kernel) (by decide +kernel)
theorem wd_567 : (Jvm.Cond.methodLink "LightHours$Hanging" (118 : Nat) ({ cls := "LightHours$Bookings", name := "shownWithin", desc := "(III)Z" } : Jvm.MethodName)) ∈ GT := gt_at 567 (by decide +kernel) (by decide +kernel)
theorem wd_568 : (Jvm.Cond.methodLink "LightHours$Hanging" (60 : Nat) ({ cls := "LightHours$Hanging", name := "place", desc := "(LLightHours$Hanging;II)V" } : Jvm.MethodName)) ∈ GT := gt_at 568 (by decide +kernel) (by decide +kernel)
theorem wd_569 : (Jvm.Cond.static ({ cls := "LightHours$Hanging", name := "place", desc := "(LLightHours$Hanging;II)V" } : Jvm.MethodName)) ∈ GT := gt_at 569 (by decide +kernel) (by decide +kernel)
theorem wd_570 : (Jvm.Cond.code ({ cls := "LightHours$Hanging", name := "place", desc := "(LLightHours$Hanging;II)V" } : Jvm.MethodName) prog_3_method_7_code (4 : Nat) (Option.none : Option Jvm.ClassFile.FieldType)) ∈ GT := gt_at 570 (by decide +kernel) (by decide +kernel)
theorem wd_571 : (Jvm.Cond.methodLink "LightHours$Hanging" (127 : Nat) ({ cls := "LightHours$Hanging", name := "takeIfBetter", desc := "(I)V" } : Jvm.MethodName)) ∈ GT := gt_at 571 (by decide +kernel) (by decide +kernel)
theorem wd_573 : (Jvm.Cond.instanceMethod ({ cls := "LightHours$Hanging", name := "takeIfBetter", desc := "(I)V" } : Jvm.MethodName)) ∈ GT := gt_at 573 (by decide +kernel) (by decide +kernel)
theorem wd_574 : (Jvm.Cond.code ({ cls := "LightHours$Hanging", name := "takeIfBetter", desc := "(I)V" } : Jvm.MethodName) prog_3_method_8_code (2 : Nat) (Option.none : Option Jvm.ClassFile.FieldType)) ∈ GT := gt_at 574 (by decide +kernel) (by decide +kernel)
theorem wn_575 : (Jvm.Cond.methodLinkNest "LightHours$Hanging" (137 : Nat) ({ cls := "LightHours", name := "copyRow", desc := "([I[I)V" } : Jvm.MethodName) "LightHours") ∈ lw_tbl := List.mem_of_getElem? (i := 575) (by decide +kernel)
theorem wd_576 : (Jvm.Cond.static ({ cls := "LightHours", name := "copyRow", desc := "([I[I)V" } : Jvm.MethodName)) ∈ GT := gt_at 576 (by decide +kernel) (by decide +kernel)
theorem wd_577 : (Jvm.Cond.code ({ cls := "LightHours", name := "copyRow", desc := "([I[I)V" } : Jvm.MethodName) prog_1_method_33_code (2 : Nat) (Option.none : Option Jvm.ClassFile.FieldType)) ∈ GT := gt_at 577 (by decide +kernel) (by decide +kernel)
theorem wd_578 : (Jvm.Cond.methodLink "LightHours" (236 : Nat) ({ cls := "java/lang/Math", name := "min", desc := "(II)I" } : Jvm.MethodName)) ∈ GT := gt_at 578 (by decide +kernel) (by decide +kernel)
theorem wd_579 : (Jvm.Cond.methodLink "LightHours" (239 : Nat) ({ cls := "java/lang/System", name := "arraycopy", desc := "(Ljava/lang/Object;ILjava/lang/Object;II)V" } : Jvm.MethodName)) ∈ GT := gt_at 579 (by decide +kernel) (by decide +kernel)
theorem wd_580 : (Jvm.Cond.static ({ cls := "java/lang/System", name := "arraycopy", desc := "(Ljava/lang/Object;ILjava/lang/Object;II)V" } : Jvm.MethodName)) ∈ GT := gt_at 580 (by decide +kernel) (by decide +kernel)
theorem wd_581 : (Jvm.Cond.native ({ cls := "java/lang/System", name := "arraycopy", desc := "(Ljava/lang/Object;ILjava/lang/Object;II)V" } : Jvm.MethodName)) ∈ GT := gt_at 581 (by decide +kernel) (by decide +kernel)
theorem wd_582 : (Jvm.Cond.methodLink "LightHours$Hanging" (131 : Nat) ({ cls := "LightHours$Hanging", name := "fits", desc := "(II)Z" } : Jvm.MethodName)) ∈ GT := gt_at 582 (by decide +kernel) (by decide +kernel)
theorem wd_584 : (Jvm.Cond.instanceMethod ({ cls := "LightHours$Hanging", name := "fits", desc := "(II)Z" } : Jvm.MethodName)) ∈ GT := gt_at 584 (by decide +kernel) (by decide +kernel)
theorem wd_585 : (Jvm.Cond.code ({ cls := "LightHours$Hanging", name := "fits", desc := "(II)Z" } : Jvm.MethodName) prog_3_method_9_code (6 : Nat) (Option.some Jvm.ClassFile.FieldType.boolean)) ∈ GT := gt_at 585 (by decide +kernel) (by decide +kernel)
theorem wd_586 : (Jvm.Cond.methodLink "LightHours$Hanging" (141 : Nat) ({ cls := "java/lang/Math", name := "abs", desc := "(I)I" } : Jvm.MethodName)) ∈ GT := gt_at 586 (by decide +kernel) (by decide +kernel)
theorem wd_587 : (Jvm.Cond.methodLink "LightHoursLaw" (104 : Nat) ({ cls := "LightHours", name := "worth", desc := "()I" } : Jvm.MethodName)) ∈ GT := gt_at 587 (by decide +kernel) (by decide +kernel)
theorem wd_588 : (Jvm.Cond.instanceMethod ({ cls := "LightHours", name := "worth", desc := "()I" } : Jvm.MethodName)) ∈ GT := gt_at 588 (by decide +kernel) (by decide +kernel)
theorem wd_589 : (Jvm.Cond.selects "LightHours" ({ cls := "LightHours", name := "worth", desc := "()I" } : Jvm.MethodName) ({ cls := "LightHours", name := "worth", desc := "()I" } : Jvm.MethodName)) ∈ GT := gt_at 589 (by decide +kernel) (by decide +kernel)
theorem wd_590 : (Jvm.Cond.code ({ cls := "LightHours", name := "worth", desc := "()I" } : Jvm.MethodName) prog_1_method_23_code (1 : Nat) (Option.some Jvm.ClassFile.FieldType.int)) ∈ GT := gt_at 590 (by decide +kernel) (by decide +kernel)
theorem wd_591 : (Jvm.Cond.methodLink "LightHoursLaw" (108 : Nat) ({ cls := "LightHours", name := "spares", desc := "(I)I" } : Jvm.MethodName)) ∈ GT := gt_at 591 (by decide +kernel) (by decide +kernel)
theorem wd_592 : (Jvm.Cond.instanceMethod ({ cls := "LightHours", name := "spares", desc := "(I)I" } : Jvm.MethodName)) ∈ GT := gt_at 592 (by decide +kernel) (by decide +kernel)
theorem wd_593 : (Jvm.Cond.selects "LightHours" ({ cls := "LightHours", name := "spares", desc := "(I)I" } : Jvm.MethodName) ({ cls := "LightHours", name := "spares", desc := "(I)I" } : Jvm.MethodName)) ∈ GT := gt_at 593 (by decide +kernel) (by decide +kernel)
theorem wd_594 : (Jvm.Cond.code ({ cls := "LightHours", name := "spares", desc := "(I)I" } : Jvm.MethodName) prog_1_method_24_code (2 : Nat) (Option.some Jvm.ClassFile.FieldType.int)) ∈ GT := gt_at 594 (by decide +kernel) (by decide +kernel)
theorem wd_595 : (Jvm.Cond.methodLink "LightHours" (206 : Nat) ({ cls := "LightHours$Hanging", name := "lightOn", desc := "(I)I" } : Jvm.MethodName)) ∈ GT := gt_at 595 (by decide +kernel) (by decide +kernel)
theorem wd_596 : (Jvm.Cond.instanceMethod ({ cls := "LightHours$Hanging", name := "lightOn", desc := "(I)I" } : Jvm.MethodName)) ∈ GT := gt_at 596 (by decide +kernel) (by decide +kernel)
theorem wd_597 : (Jvm.Cond.selects "LightHours$Hanging" ({ cls := "LightHours$Hanging", name := "lightOn", desc := "(I)I" } : Jvm.MethodName) ({ cls := "LightHours$Hanging", name := "lightOn", desc := "(I)I" } : Jvm.MethodName)) ∈ GT := gt_at 597 (by decide +kernel) (by decide +kernel)
theorem wd_598 : (Jvm.Cond.code ({ cls := "LightHours$Hanging", name := "lightOn", desc := "(I)I" } : Jvm.MethodName) prog_3_method_11_code (4 : Nat) (Option.some Jvm.ClassFile.FieldType.int)) ∈ GT := gt_at 598 (by decide +kernel) (by decide +kernel)
theorem wd_599 : (Jvm.Cond.methodLink "LightHoursLaw" (112 : Nat) ({ cls := "LightHours", name := "hang", desc := "()I" } : Jvm.MethodName)) ∈ GT := gt_at 599 (by decide +kernel) (by decide +kernel)
theorem wd_600 : (Jvm.Cond.instanceMethod ({ cls := "LightHours", name := "hang", desc := "()I" } : Jvm.MethodName)) ∈ GT := gt_at 600 (by decide +kernel) (by decide +kernel)
theorem wd_601 : (Jvm.Cond.selects "LightHours" ({ cls := "LightHours", name := "hang", desc := "()I" } : Jvm.MethodName) ({ cls := "LightHours", name := "hang", desc := "()I" } : Jvm.MethodName)) ∈ GT := gt_at 601 (by decide +kernel) (by decide +kernel)
theorem wd_602 : (Jvm.Cond.code ({ cls := "LightHours", name := "hang", desc := "()I" } : Jvm.MethodName) prog_1_method_25_code (4 : Nat) (Option.some Jvm.ClassFile.FieldType.int)) ∈ GT := gt_at 602 (by decide +kernel) (by decide +kernel)
theorem wd_603 : (Jvm.Cond.methodLink "LightHours" (209 : Nat) ({ cls := "LightHours$Hanging", name := "countHung", desc := "()I" } : Jvm.MethodName)) ∈ GT := gt_at 603 (by decide +kernel) (by decide +kernel)
theorem wd_604 : (Jvm.Cond.instanceMethod ({ cls := "LightHours$Hanging", name := "countHung", desc := "()I" } : Jvm.MethodName)) ∈ GT := gt_at 604 (by decide +kernel) (by decide +kernel)
theorem wd_605 : (Jvm.Cond.selects "LightHours$Hanging" ({ cls := "LightHours$Hanging", name := "countHung", desc := "()I" } : Jvm.MethodName) ({ cls := "LightHours$Hanging", name := "countHung", desc := "()I" } : Jvm.MethodName)) ∈ GT := gt_at 605 (by decide +kernel) (by decide +kernel)
theorem wd_606 : (Jvm.Cond.code ({ cls := "LightHours$Hanging", name := "countHung", desc := "()I" } : Jvm.MethodName) prog_3_method_10_code (3 : Nat) (Option.some Jvm.ClassFile.FieldType.int)) ∈ GT := gt_at 606 (by decide +kernel) (by decide +kernel)
theorem wd_607 : (Jvm.Cond.methodLink "LightHoursLaw" (116 : Nat) ({ cls := "LightHours", name := "many", desc := "(I)I" } : Jvm.MethodName)) ∈ GT := gt_at 607 (by decide +kernel) (by decide +kernel)
theorem wd_608 : (Jvm.Cond.instanceMethod ({ cls := "LightHours", name := "many", desc := "(I)I" } : Jvm.MethodName)) ∈ GT := gt_at 608 (by decide +kernel) (by decide +kernel)
theorem wd_609 : (Jvm.Cond.selects "LightHours" ({ cls := "LightHours", name := "many", desc := "(I)I" } : Jvm.MethodName) ({ cls := "LightHours", name := "many", desc := "(I)I" } : Jvm.MethodName)) ∈ GT := gt_at 609 (by decide +kernel) (by decide +kernel)
theorem wd_610 : (Jvm.Cond.code ({ cls := "LightHours", name := "many", desc := "(I)I" } : Jvm.MethodName) prog_1_method_26_code (2 : Nat) (Option.some Jvm.ClassFile.FieldType.int)) ∈ GT := gt_at 610 (by decide +kernel) (by decide +kernel)
theorem wd_611 : (Jvm.Cond.methodLink "LightHours" (215 : Nat) ({ cls := "LightHours$Bookings", name := "countCancelled", desc := "()I" } : Jvm.MethodName)) ∈ GT := gt_at 611 (by decide +kernel) (by decide +kernel)
theorem wd_612 : (Jvm.Cond.instanceMethod ({ cls := "LightHours$Bookings", name := "countCancelled", desc := "()I" } : Jvm.MethodName)) ∈ GT := gt_at 612 (by decide +kernel) (by decide +kernel)
theorem wd_613 : (Jvm.Cond.selects "LightHours$Bookings" ({ cls := "LightHours$Bookings", name := "countCancelled", desc := "()I" } : Jvm.MethodName) ({ cls := "LightHours$Bookings", name := "countCancelled", desc := "()I" } : Jvm.MethodName)) ∈ GT := gt_at 613 (by decide +kernel) (by decide +kernel)
theorem wd_614 : (Jvm.Cond.code ({ cls := "LightHours$Bookings", name := "countCancelled", desc := "()I" } : Jvm.MethodName) prog_2_method_10_code (3 : Nat) (Option.some Jvm.ClassFile.FieldType.int)) ∈ GT := gt_at 614 (by decide +kernel) (by decide +kernel)
theorem wd_615 : (Jvm.Cond.methodLink "LightHours" (218 : Nat) ({ cls := "LightHours$Ledger", name := "countQuarrels", desc := "()I" } : Jvm.MethodName)) ∈ GT := gt_at 615 (by decide +kernel) (by decide +kernel)
theorem wd_616 : (Jvm.Cond.instanceMethod ({ cls := "LightHours$Ledger", name := "countQuarrels", desc := "()I" } : Jvm.MethodName)) ∈ GT := gt_at 616 (by decide +kernel) (by decide +kernel)
theorem wd_617 : (Jvm.Cond.selects "LightHours$Ledger" ({ cls := "LightHours$Ledger", name := "countQuarrels", desc := "()I" } : Jvm.MethodName) ({ cls := "LightHours$Ledger", name := "countQuarrels", desc := "()I" } : Jvm.MethodName)) ∈ GT := gt_at 617 (by decide +kernel) (by decide +kernel)
theorem wd_618 : (Jvm.Cond.code ({ cls := "LightHours$Ledger", name := "countQuarrels", desc := "()I" } : Jvm.MethodName) prog_5_method_8_code (3 : Nat) (Option.some Jvm.ClassFile.FieldType.int)) ∈ GT := gt_at 618 (by decide +kernel) (by decide +kernel)
theorem wd_619 : (Jvm.Cond.methodLink "LightHours$Ledger" (108 : Nat) ({ cls := "LightHours$Ledger", name := "openAt", desc := "(I)LLightHours$Ledger;" } : Jvm.MethodName)) ∈ GT := gt_at 619 (by decide +kernel) (by decide +kernel)
theorem wd_620 : (Jvm.Cond.methodLink "LightHours" (221 : Nat) ({ cls := "LightHours$Ledger", name := "countOverspent", desc := "()I" } : Jvm.MethodName)) ∈ GT := gt_at 620 (by decide +kernel) (by decide +kernel)
theorem wd_621 : (Jvm.Cond.instanceMethod ({ cls := "LightHours$Ledger", name := "countOverspent", desc := "()I" } : Jvm.MethodName)) ∈ GT := gt_at 621 (by decide +kernel) (by decide +kernel)
theorem wd_622 : (Jvm.Cond.selects "LightHours$Ledger" ({ cls := "LightHours$Ledger", name := "countOverspent", desc := "()I" } : Jvm.MethodName) ({ cls := "LightHours$Ledger", name := "countOverspent", desc := "()I" } : Jvm.MethodName)) ∈ GT := gt_at 622 (by decide +kernel) (by decide +kernel)
theorem wd_623 : (Jvm.Cond.code ({ cls := "LightHours$Ledger", name := "countOverspent", desc := "()I" } : Jvm.MethodName) prog_5_method_9_code (3 : Nat) (Option.some Jvm.ClassFile.FieldType.int)) ∈ GT := gt_at 623 (by decide +kernel) (by decide +kernel)
theorem wd_624 : (Jvm.Cond.methodLink "LightHours$Ledger" (112 : Nat) ({ cls := "LightHours$Ledger", name := "leftEnd", desc := "(Z)I" } : Jvm.MethodName)) ∈ GT := gt_at 624 (by decide +kernel) (by decide +kernel)
theorem wd_625 : (Jvm.Cond.methodLink "LightHours" (224 : Nat) ({ cls := "LightHours$Rooms", name := "countReadings", desc := "()I" } : Jvm.MethodName)) ∈ GT := gt_at 625 (by decide +kernel) (by decide +kernel)
theorem wd_626 : (Jvm.Cond.instanceMethod ({ cls := "LightHours$Rooms", name := "countReadings", desc := "()I" } : Jvm.MethodName)) ∈ GT := gt_at 626 (by decide +kernel) (by decide +kernel)
theorem wd_627 : (Jvm.Cond.selects "LightHours$Rooms" ({ cls := "LightHours$Rooms", name := "countReadings", desc := "()I" } : Jvm.MethodName) ({ cls := "LightHours$Rooms", name := "countReadings", desc := "()I" } : Jvm.MethodName)) ∈ GT := gt_at 627 (by decide +kernel) (by decide +kernel)
theorem wd_628 : (Jvm.Cond.code ({ cls := "LightHours$Rooms", name := "countReadings", desc := "()I" } : Jvm.MethodName) prog_6_method_6_code (3 : Nat) (Option.some Jvm.ClassFile.FieldType.int)) ∈ GT := gt_at 628 (by decide +kernel) (by decide +kernel)
theorem wd_629 : (Jvm.Cond.methodLink "LightHoursLaw" (120 : Nat) ({ cls := "LightHours", name := "keep", desc := "()I" } : Jvm.MethodName)) ∈ GT := gt_at 629 (by decide +kernel) (by decide +kernel)
theorem wd_630 : (Jvm.Cond.instanceMethod ({ cls := "LightHours", name := "keep", desc := "()I" } : Jvm.MethodName)) ∈ GT := gt_at 630 (by decide +kernel) (by decide +kernel)
theorem wd_631 : (Jvm.Cond.selects "LightHours" ({ cls := "LightHours", name := "keep", desc := "()I" } : Jvm.MethodName) ({ cls := "LightHours", name := "keep", desc := "()I" } : Jvm.MethodName)) ∈ GT := gt_at 631 (by decide +kernel) (by decide +kernel)
theorem wd_632 : (Jvm.Cond.code ({ cls := "LightHours", name := "keep", desc := "()I" } : Jvm.MethodName) prog_1_method_27_code (1 : Nat) (Option.some Jvm.ClassFile.FieldType.int)) ∈ GT := gt_at 632 (by decide +kernel) (by decide +kernel)
theorem wd_633 : (Jvm.Cond.methodLink "LightHours" (227 : Nat) ({ cls := "LightHours$House", name := "copyFrom", desc := "(LLightHours$House;)V" } : Jvm.MethodName)) ∈ GT := gt_at 633 (by decide +kernel) (by decide +kernel)
theorem wd_634 : (Jvm.Cond.instanceMethod ({ cls := "LightHours$House", name := "copyFrom", desc := "(LLightHours$House;)V" } : Jvm.MethodName)) ∈ GT := gt_at 634 (by decide +kernel) (by decide +kernel)
theorem wd_635 : (Jvm.Cond.selects "LightHours$House" ({ cls := "LightHours$House", name := "copyFrom", desc := "(LLightHours$House;)V" } : Jvm.MethodName) ({ cls := "LightHours$House", name := "copyFrom", desc := "(LLightHours$House;)V" } : Jvm.MethodName)) ∈ GT := gt_at 635 (by decide +kernel) (by decide +kernel)
theorem wd_636 : (Jvm.Cond.code ({ cls := "LightHours$House", name := "copyFrom", desc := "(LLightHours$House;)V" } : Jvm.MethodName) prog_4_method_3_code (2 : Nat) (Option.none : Option Jvm.ClassFile.FieldType)) ∈ GT := gt_at 636 (by decide +kernel) (by decide +kernel)
theorem wd_637 : (Jvm.Cond.methodLink "LightHours$House" (62 : Nat) ({ cls := "LightHours$Rooms", name := "copyFrom", desc := "(LLightHours$Rooms;)V" } : Jvm.MethodName)) ∈ GT := gt_at 637 (by decide +kernel) (by decide +kernel)
theorem wd_638 : (Jvm.Cond.instanceMethod ({ cls := "LightHours$Rooms", name := "copyFrom", desc := "(LLightHours$Rooms;)V" } : Jvm.MethodName)) ∈ GT := gt_at 638 (by decide +kernel) (by decide +kernel)
theorem wd_639 : (Jvm.Cond.selects "LightHours$Rooms" ({ cls := "LightHours$Rooms", name := "copyFrom", desc := "(LLightHours$Rooms;)V" } : Jvm.MethodName) ({ cls := "LightHours$Rooms", name := "copyFrom", desc := "(LLightHours$Rooms;)V" } : Jvm.MethodName)) ∈ GT := gt_at 639 (by decide +kernel) (by decide +kernel)
theorem wd_640 : (Jvm.Cond.code ({ cls := "LightHours$Rooms", name := "copyFrom", desc := "(LLightHours$Rooms;)V" } : Jvm.MethodName) prog_6_method_7_code (2 : Nat) (Option.none : Option Jvm.ClassFile.FieldType)) ∈ GT := gt_at 640 (by decide +kernel) (by decide +kernel)
theorem wn_641 : (Jvm.Cond.methodLinkNest "LightHours$Rooms" (26 : Nat) ({ cls := "LightHours", name := "copyRow", desc := "([I[I)V" } : Jvm.MethodName) "LightHours") ∈ lw_tbl := List.mem_of_getElem? (i := 641) (by decide +kernel)
theorem wd_642 : (Jvm.Cond.methodLink "LightHours$House" (66 : Nat) ({ cls := "LightHours$Sheets", name := "copyFrom", desc := "(LLightHours$Sheets;)V" } : Jvm.MethodName)) ∈ GT := gt_at 642 (by decide +kernel) (by decide +kernel)
theorem wd_643 : (Jvm.Cond.instanceMethod ({ cls := "LightHours$Sheets", name := "copyFrom", desc := "(LLightHours$Sheets;)V" } : Jvm.MethodName)) ∈ GT := gt_at 643 (by decide +kernel) (by decide +kernel)
theorem wd_644 : (Jvm.Cond.selects "LightHours$Sheets" ({ cls := "LightHours$Sheets", name := "copyFrom", desc := "(LLightHours$Sheets;)V" } : Jvm.MethodName) ({ cls := "LightHours$Sheets", name := "copyFrom", desc := "(LLightHours$Sheets;)V" } : Jvm.MethodName)) ∈ GT := gt_at 644 (by decide +kernel) (by decide +kernel)
theorem wd_645 : (Jvm.Cond.code ({ cls := "LightHours$Sheets", name := "copyFrom", desc := "(LLightHours$Sheets;)V" } : Jvm.MethodName) prog_7_method_5_code (2 : Nat) (Option.none : Option Jvm.ClassFile.FieldType)) ∈ GT := gt_at 645 (by decide +kernel) (by decide +kernel)
theorem wn_646 : (Jvm.Cond.methodLinkNest "LightHours$Sheets" (37 : Nat) ({ cls := "LightHours", name := "copyRow", desc := "([I[I)V" } : Jvm.MethodName) "LightHours") ∈ lw_tbl := List.mem_of_getElem? (i := 646) (by decide +kernel)
theorem wd_647 : (Jvm.Cond.methodLink "LightHours$House" (69 : Nat) ({ cls := "LightHours$Bookings", name := "copyFrom", desc := "(LLightHours$Bookings;)V" } : Jvm.MethodName)) ∈ GT := gt_at 647 (by decide +kernel) (by decide +kernel)
theorem wd_648 : (Jvm.Cond.instanceMethod ({ cls := "LightHours$Bookings", name := "copyFrom", desc := "(LLightHours$Bookings;)V" } : Jvm.MethodName)) ∈ GT := gt_at 648 (by decide +kernel) (by decide +kernel)
theorem wd_649 : (Jvm.Cond.selects "LightHours$Bookings" ({ cls := "LightHours$Bookings", name := "copyFrom", desc := "(LLightHours$Bookings;)V" } : Jvm.MethodName) ({ cls := "LightHours$Bookings", name := "copyFrom", desc := "(LLightHours$Bookings;)V" } : Jvm.MethodName)) ∈ GT := gt_at 649 (by decide +kernel) (by decide +kernel)
theorem wd_650 : (Jvm.Cond.code ({ cls := "LightHours$Bookings", name := "copyFrom", desc := "(LLightHours$Bookings;)V" } : Jvm.MethodName) prog_2_method_11_code (3 : Nat) (Option.none : Option Jvm.ClassFile.FieldType)) ∈ GT := gt_at 650 (by decide +kernel) (by decide +kernel)
theorem wn_651 : (Jvm.Cond.methodLinkNest "LightHours$Bookings" (50 : Nat) ({ cls := "LightHours", name := "copyRow", desc := "([I[I)V" } : Jvm.MethodName) "LightHours") ∈ lw_tbl := List.mem_of_getElem? (i := 651) (by decide +kernel)
theorem wd_652 : (Jvm.Cond.methodLink "LightHours$House" (72 : Nat) ({ cls := "LightHours$Threads", name := "copyFrom", desc := "(LLightHours$Threads;)V" } : Jvm.MethodName)) ∈ GT := gt_at 652 (by decide +kernel) (by decide +kernel)
theorem wd_653 : (Jvm.Cond.instanceMethod ({ cls := "LightHours$Threads", name := "copyFrom", desc := "(LLightHours$Threads;)V" } : Jvm.MethodName)) ∈ GT := gt_at 653 (by decide +kernel) (by decide +kernel)
theorem wd_654 : (Jvm.Cond.selects "LightHours$Threads" ({ cls := "LightHours$Threads", name := "copyFrom", desc := "(LLightHours$Threads;)V" } : Jvm.MethodName) ({ cls := "LightHours$Threads", name := "copyFrom", desc := "(LLightHours$Threads;)V" } : Jvm.MethodName)) ∈ GT := gt_at 654 (by decide +kernel) (by decide +kernel)
theorem wd_655 : (Jvm.Cond.code ({ cls := "LightHours$Threads", name := "copyFrom", desc := "(LLightHours$Threads;)V" } : Jvm.MethodName) prog_8_method_4_code (2 : Nat) (Option.none : Option Jvm.ClassFile.FieldType)) ∈ GT := gt_at 655 (by decide +kernel) (by decide +kernel)
theorem wn_656 : (Jvm.Cond.methodLinkNest "LightHours$Threads" (25 : Nat) ({ cls := "LightHours", name := "copyRow", desc := "([I[I)V" } : Jvm.MethodName) "LightHours") ∈ lw_tbl := List.mem_of_getElem? (i := 656) (by decide +kernel)
theorem wd_657 : (Jvm.Cond.methodLink "LightHours$House" (75 : Nat) ({ cls := "LightHours$Walls", name := "copyFrom", desc := "(LLightHours$Walls;)V" } : Jvm.MethodName)) ∈ GT := gt_at 657 (by decide +kernel) (by decide +kernel)
theorem wd_658 : (Jvm.Cond.instanceMethod ({ cls := "LightHours$Walls", name := "copyFrom", desc := "(LLightHours$Walls;)V" } : Jvm.MethodName)) ∈ GT := gt_at 658 (by decide +kernel) (by decide +kernel)
theorem wd_659 : (Jvm.Cond.selects "LightHours$Walls" ({ cls := "LightHours$Walls", name := "copyFrom", desc := "(LLightHours$Walls;)V" } : Jvm.MethodName) ({ cls := "LightHours$Walls", name := "copyFrom", desc := "(LLightHours$Walls;)V" } : Jvm.MethodName)) ∈ GT := gt_at 659 (by decide +kernel) (by decide +kernel)
theorem wd_660 : (Jvm.Cond.code ({ cls := "LightHours$Walls", name := "copyFrom", desc := "(LLightHours$Walls;)V" } : Jvm.MethodName) prog_9_method_4_code (2 : Nat) (Option.none : Option Jvm.ClassFile.FieldType)) ∈ GT := gt_at 660 (by decide +kernel) (by decide +kernel)
theorem wn_661 : (Jvm.Cond.methodLinkNest "LightHours$Walls" (25 : Nat) ({ cls := "LightHours", name := "copyRow", desc := "([I[I)V" } : Jvm.MethodName) "LightHours") ∈ lw_tbl := List.mem_of_getElem? (i := 661) (by decide +kernel)
theorem wd_662 : (Jvm.Cond.methodLink "LightHoursLaw" (124 : Nat) ({ cls := "LightHours", name := "back", desc := "()I" } : Jvm.MethodName)) ∈ GT := gt_at 662 (by decide +kernel) (by decide +kernel)
theorem wd_663 : (Jvm.Cond.instanceMethod ({ cls := "LightHours", name := "back", desc := "()I" } : Jvm.MethodName)) ∈ GT := gt_at 663 (by decide +kernel) (by decide +kernel)
theorem wd_664 : (Jvm.Cond.selects "LightHours" ({ cls := "LightHours", name := "back", desc := "()I" } : Jvm.MethodName) ({ cls := "LightHours", name := "back", desc := "()I" } : Jvm.MethodName)) ∈ GT := gt_at 664 (by decide +kernel) (by decide +kernel)
theorem wd_665 : (Jvm.Cond.code ({ cls := "LightHours", name := "back", desc := "()I" } : Jvm.MethodName) prog_1_method_28_code (1 : Nat) (Option.some Jvm.ClassFile.FieldType.int)) ∈ GT := gt_at 665 (by decide +kernel) (by decide +kernel)
theorem wd_666 : (Jvm.Cond.classLink "LightHoursLaw" (10 : Nat) "LightHoursModel") ∈ GT := gt_at 666 (by decide +kernel) (by decide +kernel)
theorem wd_667 : (Jvm.Cond.instantiable "LightHoursModel" (18 : Nat)) ∈ GT := gt_at 667 (by decide +kernel) (by decide +kernel)
theorem wd_668 : (Jvm.Cond.methodLink "LightHoursLaw" (12 : Nat) ({ cls := "LightHoursModel", name := "<init>", desc := "()V" } : Jvm.MethodName)) ∈ GT := gt_at 668 (by decide +kernel) (by decide +kernel)
theorem wd_669 : (Jvm.Cond.instanceMethod ({ cls := "LightHoursModel", name := "<init>", desc := "()V" } : Jvm.MethodName)) ∈ GT := gt_at 669 (by decide +kernel) (by decide +kernel)
theorem wd_670 : (Jvm.Cond.code ({ cls := "LightHoursModel", name := "<init>", desc := "()V" } : Jvm.MethodName) prog_11_method_1_code (1 : Nat) (Option.none : Option Jvm.ClassFile.FieldType)) ∈ GT := gt_at 670 (by decide +kernel) (by decide +kernel)
theorem wd_671 : (Jvm.Cond.methodLink "LightHoursModel" (1 : Nat) ({ cls := "java/lang/Object", name := "<init>", desc := "()V" } : Jvm.MethodName)) ∈ GT := gt_at 671 (by decide +kernel) (by decide +kernel)
theorem wd_672 : (Jvm.Cond.constant "LightHoursModel" (31 : Nat) (100000 : Int32)) ∈ GT := gt_at 672 (by decide +kernel) (by decide +kernel)
theorem wd_673 : (Jvm.Cond.fieldLink "LightHoursModel" (7 : Nat) "LightHoursModel" "many" "[I") ∈ GT := gt_at 673 (by decide +kernel) (by decide +kernel)
theorem wd_674 : (Jvm.Cond.fieldLink "LightHoursModel" (13 : Nat) "LightHoursModel" "worst" "[I") ∈ GT := gt_at 674 (by decide +kernel) (by decide +kernel)
theorem wd_675 : (Jvm.Cond.fieldLink "LightHoursModel" (16 : Nat) "LightHoursModel" "readings" "[I") ∈ GT := gt_at 675 (by decide +kernel) (by decide +kernel)
theorem wd_676 : (Jvm.Cond.fieldLink "LightHoursModel" (19 : Nat) "LightHoursModel" "sheets" "[I") ∈ GT := gt_at 676 (by decide +kernel) (by decide +kernel)
theorem wd_677 : (Jvm.Cond.fieldLink "LightHoursModel" (22 : Nat) "LightHoursModel" "bookings" "[I") ∈ GT := gt_at 677 (by decide +kernel) (by decide +kernel)
theorem wd_678 : (Jvm.Cond.fieldLink "LightHoursModel" (25 : Nat) "LightHoursModel" "threads" "[I") ∈ GT := gt_at 678 (by decide +kernel) (by decide +kernel)
theorem wd_679 : (Jvm.Cond.fieldLink "LightHoursModel" (28 : Nat) "LightHoursModel" "walls" "[I") ∈ GT := gt_at 679 (by decide +kernel) (by decide +kernel)
theorem wd_680 : (Jvm.Cond.fieldLink "LightHoursModel" (32 : Nat) "LightHoursModel" "steps" "[I") ∈ GT := gt_at 680 (by decide +kernel) (by decide +kernel)
theorem wd_681 : (Jvm.Cond.fieldLink "LightHoursModel" (164 : Nat) "LightHoursModel" "isKept" "Z") ∈ GT := gt_at 681 (by decide +kernel) (by decide +kernel)
theorem wd_682 : (Jvm.Cond.fieldLink "LightHoursModel" (35 : Nat) "LightHoursModel" "kept" "[I") ∈ GT := gt_at 682 (by decide +kernel) (by decide +kernel)
theorem wd_683 : (Jvm.Cond.fieldLink "LightHoursModel" (77 : Nat) "LightHoursModel" "from" "I") ∈ GT := gt_at 683 (by decide +kernel) (by decide +kernel)
theorem wd_684 : (Jvm.Cond.fieldLink "LightHoursModel" (81 : Nat) "LightHoursModel" "to" "I") ∈ GT := gt_at 684 (by decide +kernel) (by decide +kernel)
theorem wd_685 : (Jvm.Cond.fieldLink "LightHoursModel" (87 : Nat) "LightHoursModel" "quarrel" "Z") ∈ GT := gt_at 685 (by decide +kernel) (by decide +kernel)
theorem wd_686 : (Jvm.Cond.fieldLink "LightHoursModel" (38 : Nat) "LightHoursModel" "choice" "[I") ∈ GT := gt_at 686 (by decide +kernel) (by decide +kernel)
theorem wd_687 : (Jvm.Cond.fieldLink "LightHoursModel" (41 : Nat) "LightHoursModel" "best" "[I") ∈ GT := gt_at 687 (by decide +kernel) (by decide +kernel)
theorem wd_688 : (Jvm.Cond.fieldLink "LightHoursModel" (44 : Nat) "LightHoursModel" "lefts" "[I") ∈ GT := gt_at 688 (by decide +kernel) (by decide +kernel)
theorem wd_689 : (Jvm.Cond.fieldLink "LightHoursModel" (122 : Nat) "LightHoursModel" "bestWorth" "I") ∈ GT := gt_at 689 (by decide +kernel) (by decide +kernel)
theorem wd_690 : (Jvm.Cond.fieldLink "LightHoursModel" (153 : Nat) "LightHoursModel" "place" "I") ∈ GT := gt_at 690 (by decide +kernel) (by decide +kernel)
theorem wd_691 : (Jvm.Cond.laysFinal "LightHoursModel" "LightHoursModel" "many" "[I") ∈ GT := gt_at 691 (by decide +kernel) (by decide +kernel)
theorem wd_693 : (Jvm.Cond.laysFinal "LightHoursModel" "LightHoursModel" "worst" "[I") ∈ GT := gt_at 693 (by decide +kernel) (by decide +kernel)
theorem wd_695 : (Jvm.Cond.laysFinal "LightHoursModel" "LightHoursModel" "readings" "[I") ∈ GT := gt_at 695 (by decide +kernel) (by decide +kernel)
theorem wd_697 : (Jvm.Cond.laysFinal "LightHoursModel" "LightHoursModel" "sheets" "[I") ∈ GT := gt_at 697 (by decide +kernel) (by decide +kernel)
theorem wd_699 : (Jvm.Cond.laysFinal "LightHoursModel" "LightHoursModel" "bookings" "[I") ∈ GT := gt_at 699 (by decide +kernel) (by decide +kernel)
theorem wd_701 : (Jvm.Cond.laysFinal "LightHoursModel" "LightHoursModel" "threads" "[I") ∈ GT := gt_at 701 (by decide +kernel) (by decide +kernel)
theorem wd_703 : (Jvm.Cond.laysFinal "LightHoursModel" "LightHoursModel" "walls" "[I") ∈ GT := gt_at 703 (by decide +kernel) (by decide +kernel)
theorem wd_705 : (Jvm.Cond.laysFinal "LightHoursModel" "LightHoursModel" "steps" "[I") ∈ GT := gt_at 705 (by decide +kernel) (by decide +kernel)
theorem wd_707 : (Jvm.Cond.lays "LightHoursModel" "LightHoursModel" "isKept" "Z") ∈ GT := gt_at 707 (by decide +kernel) (by decide +kernel)
theorem wd_709 : (Jvm.Cond.laysFinal "LightHoursModel" "LightHoursModel" "kept" "[I") ∈ GT := gt_at 709 (by decide +kernel) (by decide +kernel)
theorem wd_711 : (Jvm.Cond.lays "LightHoursModel" "LightHoursModel" "from" "I") ∈ GT := gt_at 711 (by decide +kernel) (by decide +kernel)
theorem wd_713 : (Jvm.Cond.lays "LightHoursModel" "LightHoursModel" "to" "I") ∈ GT := gt_at 713 (by decide +kernel) (by decide +kernel)
theorem wd_715 : (Jvm.Cond.lays "LightHoursModel" "LightHoursModel" "quarrel" "Z") ∈ GT := gt_at 715 (by decide +kernel) (by decide +kernel)
theorem wd_717 : (Jvm.Cond.laysFinal "LightHoursModel" "LightHoursModel" "choice" "[I") ∈ GT := gt_at 717 (by decide +kernel) (by decide +kernel)
theorem wd_719 : (Jvm.Cond.laysFinal "LightHoursModel" "LightHoursModel" "best" "[I") ∈ GT := gt_at 719 (by decide +kernel) (by decide +kernel)
theorem wd_721 : (Jvm.Cond.laysFinal "LightHoursModel" "LightHoursModel" "lefts" "[I") ∈ GT := gt_at 721 (by decide +kernel) (by decide +kernel)
theorem wd_723 : (Jvm.Cond.lays "LightHoursModel" "LightHoursModel" "bestWorth" "I") ∈ GT := gt_at 723 (by decide +kernel) (by decide +kernel)
theorem wd_725 : (Jvm.Cond.lays "LightHoursModel" "LightHoursModel" "place" "I") ∈ GT := gt_at 725 (by decide +kernel) (by decide +kernel)
theorem wd_728 : (Jvm.Cond.methodLink "LightHoursLaw" (17 : Nat) ({ cls := "LightHoursModel", name := "room", desc := "(I)I" } : Jvm.MethodName)) ∈ GT := gt_at 728 (by decide +kernel) (by decide +kernel)
theorem wd_729 : (Jvm.Cond.instanceMethod ({ cls := "LightHoursModel", name := "room", desc := "(I)I" } : Jvm.MethodName)) ∈ GT := gt_at 729 (by decide +kernel) (by decide +kernel)
theorem wd_730 : (Jvm.Cond.selects "LightHoursModel" ({ cls := "LightHoursModel", name := "room", desc := "(I)I" } : Jvm.MethodName) ({ cls := "LightHoursModel", name := "room", desc := "(I)I" } : Jvm.MethodName)) ∈ GT := gt_at 730 (by decide +kernel) (by decide +kernel)
theorem wd_731 : (Jvm.Cond.code ({ cls := "LightHoursModel", name := "room", desc := "(I)I" } : Jvm.MethodName) prog_11_method_6_code (4 : Nat) (Option.some Jvm.ClassFile.FieldType.int)) ∈ GT := gt_at 731 (by decide +kernel) (by decide +kernel)
theorem wd_732 : (Jvm.Cond.methodLink "LightHoursModel" (47 : Nat) ({ cls := "LightHoursModel", name := "in", desc := "(III)Z" } : Jvm.MethodName)) ∈ GT := gt_at 732 (by decide +kernel) (by decide +kernel)
theorem wd_733 : (Jvm.Cond.static ({ cls := "LightHoursModel", name := "in", desc := "(III)Z" } : Jvm.MethodName)) ∈ GT := gt_at 733 (by decide +kernel) (by decide +kernel)
theorem wd_734 : (Jvm.Cond.code ({ cls := "LightHoursModel", name := "in", desc := "(III)Z" } : Jvm.MethodName) prog_11_method_2_code (3 : Nat) (Option.some Jvm.ClassFile.FieldType.boolean)) ∈ GT := gt_at 734 (by decide +kernel) (by decide +kernel)
theorem wd_735 : (Jvm.Cond.methodLink "LightHoursModel" (51 : Nat) ({ cls := "LightHoursModel", name := "came", desc := "(I)I" } : Jvm.MethodName)) ∈ GT := gt_at 735 (by decide +kernel) (by decide +kernel)
theorem wd_737 : (Jvm.Cond.instanceMethod ({ cls := "LightHoursModel", name := "came", desc := "(I)I" } : Jvm.MethodName)) ∈ GT := gt_at 737 (by decide +kernel) (by decide +kernel)
theorem wd_738 : (Jvm.Cond.code ({ cls := "LightHoursModel", name := "came", desc := "(I)I" } : Jvm.MethodName) prog_11_method_5_code (2 : Nat) (Option.some Jvm.ClassFile.FieldType.int)) ∈ GT := gt_at 738 (by decide +kernel) (by decide +kernel)
theorem wd_739 : (Jvm.Cond.methodLink "LightHoursLaw" (22 : Nat) ({ cls := "LightHoursModel", name := "reading", desc := "(III)I" } : Jvm.MethodName)) ∈ GT := gt_at 739 (by decide +kernel) (by decide +kernel)
theorem wd_740 : (Jvm.Cond.instanceMethod ({ cls := "LightHoursModel", name := "reading", desc := "(III)I" } : Jvm.MethodName)) ∈ GT := gt_at 740 (by decide +kernel) (by decide +kernel)
theorem wd_741 : (Jvm.Cond.selects "LightHoursModel" ({ cls := "LightHoursModel", name := "reading", desc := "(III)I" } : Jvm.MethodName) ({ cls := "LightHoursModel", name := "reading", desc := "(III)I" } : Jvm.MethodName)) ∈ GT := gt_at 741 (by decide +kernel) (by decide +kernel)
theorem wd_742 : (Jvm.Cond.code ({ cls := "LightHoursModel", name := "reading", desc := "(III)I" } : Jvm.MethodName) prog_11_method_7_code (4 : Nat) (Option.some Jvm.ClassFile.FieldType.int)) ∈ GT := gt_at 742 (by decide +kernel) (by decide +kernel)
theorem wd_743 : (Jvm.Cond.methodLink "LightHoursModel" (55 : Nat) ({ cls := "LightHoursModel", name := "is", desc := "(II)Z" } : Jvm.MethodName)) ∈ GT := gt_at 743 (by decide +kernel) (by decide +kernel)
theorem wd_745 : (Jvm.Cond.instanceMethod ({ cls := "LightHoursModel", name := "is", desc := "(II)Z" } : Jvm.MethodName)) ∈ GT := gt_at 745 (by decide +kernel) (by decide +kernel)
theorem wd_746 : (Jvm.Cond.code ({ cls := "LightHoursModel", name := "is", desc := "(II)Z" } : Jvm.MethodName) prog_11_method_3_code (3 : Nat) (Option.some Jvm.ClassFile.FieldType.boolean)) ∈ GT := gt_at 746 (by decide +kernel) (by decide +kernel)
theorem wd_747 : (Jvm.Cond.methodLink "LightHoursModel" (59 : Nat) ({ cls := "LightHoursModel", name := "isYear", desc := "(I)Z" } : Jvm.MethodName)) ∈ GT := gt_at 747 (by decide +kernel) (by decide +kernel)
theorem wd_748 : (Jvm.Cond.static ({ cls := "LightHoursModel", name := "isYear", desc := "(I)Z" } : Jvm.MethodName)) ∈ GT := gt_at 748 (by decide +kernel) (by decide +kernel)
theorem wd_749 : (Jvm.Cond.code ({ cls := "LightHoursModel", name := "isYear", desc := "(I)Z" } : Jvm.MethodName) prog_11_method_4_code (1 : Nat) (Option.some Jvm.ClassFile.FieldType.boolean)) ∈ GT := gt_at 749 (by decide +kernel) (by decide +kernel)
theorem wd_750 : (Jvm.Cond.methodLink "LightHoursLaw" (27 : Nat) ({ cls := "LightHoursModel", name := "light", desc := "(IIZ)I" } : Jvm.MethodName)) ∈ GT := gt_at 750 (by decide +kernel) (by decide +kernel)
theorem wd_751 : (Jvm.Cond.instanceMethod ({ cls := "LightHoursModel", name := "light", desc := "(IIZ)I" } : Jvm.MethodName)) ∈ GT := gt_at 751 (by decide +kernel) (by decide +kernel)
theorem wd_752 : (Jvm.Cond.selects "LightHoursModel" ({ cls := "LightHoursModel", name := "light", desc := "(IIZ)I" } : Jvm.MethodName) ({ cls := "LightHoursModel", name := "light", desc := "(IIZ)I" } : Jvm.MethodName)) ∈ GT := gt_at 752 (by decide +kernel) (by decide +kernel)
theorem wd_753 : (Jvm.Cond.code ({ cls := "LightHoursModel", name := "light", desc := "(IIZ)I" } : Jvm.MethodName) prog_11_method_9_code (4 : Nat) (Option.some Jvm.ClassFile.FieldType.int)) ∈ GT := gt_at 753 (by decide +kernel) (by decide +kernel)
theorem wd_754 : (Jvm.Cond.methodLink "LightHoursModel" (63 : Nat) ({ cls := "LightHoursModel", name := "lightOf", desc := "(IIZ)I" } : Jvm.MethodName)) ∈ GT := gt_at 754 (by decide +kernel) (by decide +kernel)
theorem wd_756 : (Jvm.Cond.instanceMethod ({ cls := "LightHoursModel", name := "lightOf", desc := "(IIZ)I" } : Jvm.MethodName)) ∈ GT := gt_at 756 (by decide +kernel) (by decide +kernel)
theorem wd_757 : (Jvm.Cond.code ({ cls := "LightHoursModel", name := "lightOf", desc := "(IIZ)I" } : Jvm.MethodName) prog_11_method_8_code (5 : Nat) (Option.some Jvm.ClassFile.FieldType.int)) ∈ GT := gt_at 757 (by decide +kernel) (by decide +kernel)
theorem wd_758 : (Jvm.Cond.methodLink "LightHoursLaw" (32 : Nat) ({ cls := "LightHoursModel", name := "sheet", desc := "(IIII)I" } : Jvm.MethodName)) ∈ GT := gt_at 758 (by decide +kernel) (by decide +kernel)
theorem wd_759 : (Jvm.Cond.instanceMethod ({ cls := "LightHoursModel", name := "sheet", desc := "(IIII)I" } : Jvm.MethodName)) ∈ GT := gt_at 759 (by decide +kernel) (by decide +kernel)
theorem wd_760 : (Jvm.Cond.selects "LightHoursModel" ({ cls := "LightHoursModel", name := "sheet", desc := "(IIII)I" } : Jvm.MethodName) ({ cls := "LightHoursModel", name := "sheet", desc := "(IIII)I" } : Jvm.MethodName)) ∈ GT := gt_at 760 (by decide +kernel) (by decide +kernel)
theorem wd_761 : (Jvm.Cond.code ({ cls := "LightHoursModel", name := "sheet", desc := "(IIII)I" } : Jvm.MethodName) prog_11_method_10_code (6 : Nat) (Option.some Jvm.ClassFile.FieldType.int)) ∈ GT := gt_at 761 (by decide +kernel) (by decide +kernel)
theorem wd_762 : (Jvm.Cond.methodLink "LightHoursLaw" (37 : Nat) ({ cls := "LightHoursModel", name := "sisters", desc := "(II)I" } : Jvm.MethodName)) ∈ GT := gt_at 762 (by decide +kernel) (by decide +kernel)
theorem wd_763 : (Jvm.Cond.instanceMethod ({ cls := "LightHoursModel", name := "sisters", desc := "(II)I" } : Jvm.MethodName)) ∈ GT := gt_at 763 (by decide +kernel) (by decide +kernel)
theorem wd_764 : (Jvm.Cond.selects "LightHoursModel" ({ cls := "LightHoursModel", name := "sisters", desc := "(II)I" } : Jvm.MethodName) ({ cls := "LightHoursModel", name := "sisters", desc := "(II)I" } : Jvm.MethodName)) ∈ GT := gt_at 764 (by decide +kernel) (by decide +kernel)
theorem wd_765 : (Jvm.Cond.code ({ cls := "LightHoursModel", name := "sisters", desc := "(II)I" } : Jvm.MethodName) prog_11_method_12_code (3 : Nat) (Option.some Jvm.ClassFile.FieldType.int)) ∈ GT := gt_at 765 (by decide +kernel) (by decide +kernel)
theorem wd_766 : (Jvm.Cond.methodLink "LightHoursModel" (67 : Nat) ({ cls := "LightHoursModel", name := "sisterOf", desc := "(I)I" } : Jvm.MethodName)) ∈ GT := gt_at 766 (by decide +kernel) (by decide +kernel)
theorem wd_768 : (Jvm.Cond.instanceMethod ({ cls := "LightHoursModel", name := "sisterOf", desc := "(I)I" } : Jvm.MethodName)) ∈ GT := gt_at 768 (by decide +kernel) (by decide +kernel)
theorem wd_769 : (Jvm.Cond.code ({ cls := "LightHoursModel", name := "sisterOf", desc := "(I)I" } : Jvm.MethodName) prog_11_method_11_code (2 : Nat) (Option.some Jvm.ClassFile.FieldType.int)) ∈ GT := gt_at 769 (by decide +kernel) (by decide +kernel)
theorem wd_770 : (Jvm.Cond.methodLink "LightHoursLaw" (41 : Nat) ({ cls := "LightHoursModel", name := "past", desc := "(III)I" } : Jvm.MethodName)) ∈ GT := gt_at 770 (by decide +kernel) (by decide +kernel)
theorem wd_771 : (Jvm.Cond.instanceMethod ({ cls := "LightHoursModel", name := "past", desc := "(III)I" } : Jvm.MethodName)) ∈ GT := gt_at 771 (by decide +kernel) (by decide +kernel)
theorem wd_772 : (Jvm.Cond.selects "LightHoursModel" ({ cls := "LightHoursModel", name := "past", desc := "(III)I" } : Jvm.MethodName) ({ cls := "LightHoursModel", name := "past", desc := "(III)I" } : Jvm.MethodName)) ∈ GT := gt_at 772 (by decide +kernel) (by decide +kernel)
theorem wd_773 : (Jvm.Cond.code ({ cls := "LightHoursModel", name := "past", desc := "(III)I" } : Jvm.MethodName) prog_11_method_13_code (4 : Nat) (Option.some Jvm.ClassFile.FieldType.int)) ∈ GT := gt_at 773 (by decide +kernel) (by decide +kernel)
theorem wd_774 : (Jvm.Cond.methodLink "LightHoursLaw" (45 : Nat) ({ cls := "LightHoursModel", name := "of", desc := "(II)I" } : Jvm.MethodName)) ∈ GT := gt_at 774 (by decide +kernel) (by decide +kernel)
theorem wd_775 : (Jvm.Cond.instanceMethod ({ cls := "LightHoursModel", name := "of", desc := "(II)I" } : Jvm.MethodName)) ∈ GT := gt_at 775 (by decide +kernel) (by decide +kernel)
theorem wd_776 : (Jvm.Cond.selects "LightHoursModel" ({ cls := "LightHoursModel", name := "of", desc := "(II)I" } : Jvm.MethodName) ({ cls := "LightHoursModel", name := "of", desc := "(II)I" } : Jvm.MethodName)) ∈ GT := gt_at 776 (by decide +kernel) (by decide +kernel)
theorem wd_777 : (Jvm.Cond.code ({ cls := "LightHoursModel", name := "of", desc := "(II)I" } : Jvm.MethodName) prog_11_method_22_code (3 : Nat) (Option.some Jvm.ClassFile.FieldType.int)) ∈ GT := gt_at 777 (by decide +kernel) (by decide +kernel)
theorem wd_778 : (Jvm.Cond.methodLink "LightHoursModel" (91 : Nat) ({ cls := "LightHoursModel", name := "findPast", desc := "(I)V" } : Jvm.MethodName)) ∈ GT := gt_at 778 (by decide +kernel) (by decide +kernel)
theorem wd_780 : (Jvm.Cond.instanceMethod ({ cls := "LightHoursModel", name := "findPast", desc := "(I)V" } : Jvm.MethodName)) ∈ GT := gt_at 780 (by decide +kernel) (by decide +kernel)
theorem wd_781 : (Jvm.Cond.code ({ cls := "LightHoursModel", name := "findPast", desc := "(I)V" } : Jvm.MethodName) prog_11_method_17_code (7 : Nat) (Option.none : Option Jvm.ClassFile.FieldType)) ∈ GT := gt_at 781 (by decide +kernel) (by decide +kernel)
theorem wd_782 : (Jvm.Cond.methodLink "LightHoursModel" (84 : Nat) ({ cls := "LightHoursModel", name := "booked", desc := "(IIZ)I" } : Jvm.MethodName)) ∈ GT := gt_at 782 (by decide +kernel) (by decide +kernel)
theorem wd_784 : (Jvm.Cond.instanceMethod ({ cls := "LightHoursModel", name := "booked", desc := "(IIZ)I" } : Jvm.MethodName)) ∈ GT := gt_at 784 (by decide +kernel) (by decide +kernel)
theorem wd_785 : (Jvm.Cond.code ({ cls := "LightHoursModel", name := "booked", desc := "(IIZ)I" } : Jvm.MethodName) prog_11_method_16_code (6 : Nat) (Option.some Jvm.ClassFile.FieldType.int)) ∈ GT := gt_at 785 (by decide +kernel) (by decide +kernel)
theorem wd_786 : (Jvm.Cond.methodLink "LightHoursModel" (70 : Nat) ({ cls := "LightHoursModel", name := "isHere", desc := "(II)Z" } : Jvm.MethodName)) ∈ GT := gt_at 786 (by decide +kernel) (by decide +kernel)
theorem wd_788 : (Jvm.Cond.instanceMethod ({ cls := "LightHoursModel", name := "isHere", desc := "(II)Z" } : Jvm.MethodName)) ∈ GT := gt_at 788 (by decide +kernel) (by decide +kernel)
theorem wd_789 : (Jvm.Cond.code ({ cls := "LightHoursModel", name := "isHere", desc := "(II)Z" } : Jvm.MethodName) prog_11_method_14_code (3 : Nat) (Option.some Jvm.ClassFile.FieldType.boolean)) ∈ GT := gt_at 789 (by decide +kernel) (by decide +kernel)
theorem wd_790 : (Jvm.Cond.methodLink "LightHoursModel" (73 : Nat) ({ cls := "LightHoursModel", name := "spends", desc := "(IZ)I" } : Jvm.MethodName)) ∈ GT := gt_at 790 (by decide +kernel) (by decide +kernel)
theorem wd_792 : (Jvm.Cond.instanceMethod ({ cls := "LightHoursModel", name := "spends", desc := "(IZ)I" } : Jvm.MethodName)) ∈ GT := gt_at 792 (by decide +kernel) (by decide +kernel)
theorem wd_793 : (Jvm.Cond.code ({ cls := "LightHoursModel", name := "spends", desc := "(IZ)I" } : Jvm.MethodName) prog_11_method_15_code (4 : Nat) (Option.some Jvm.ClassFile.FieldType.int)) ∈ GT := gt_at 793 (by decide +kernel) (by decide +kernel)
theorem wd_794 : (Jvm.Cond.methodLink "LightHoursModel" (98 : Nat) ({ cls := "LightHoursModel", name := "bookedMany", desc := "(I)I" } : Jvm.MethodName)) ∈ GT := gt_at 794 (by decide +kernel) (by decide +kernel)
theorem wd_796 : (Jvm.Cond.instanceMethod ({ cls := "LightHoursModel", name := "bookedMany", desc := "(I)I" } : Jvm.MethodName)) ∈ GT := gt_at 796 (by decide +kernel) (by decide +kernel)
theorem wd_797 : (Jvm.Cond.code ({ cls := "LightHoursModel", name := "bookedMany", desc := "(I)I" } : Jvm.MethodName) prog_11_method_20_code (4 : Nat) (Option.some Jvm.ClassFile.FieldType.int)) ∈ GT := gt_at 797 (by decide +kernel) (by decide +kernel)
theorem wd_798 : (Jvm.Cond.methodLink "LightHoursModel" (101 : Nat) ({ cls := "LightHoursModel", name := "threadMany", desc := "(I)I" } : Jvm.MethodName)) ∈ GT := gt_at 798 (by decide +kernel) (by decide +kernel)
theorem wd_800 : (Jvm.Cond.instanceMethod ({ cls := "LightHoursModel", name := "threadMany", desc := "(I)I" } : Jvm.MethodName)) ∈ GT := gt_at 800 (by decide +kernel) (by decide +kernel)
theorem wd_801 : (Jvm.Cond.code ({ cls := "LightHoursModel", name := "threadMany", desc := "(I)I" } : Jvm.MethodName) prog_11_method_21_code (4 : Nat) (Option.some Jvm.ClassFile.FieldType.int)) ∈ GT := gt_at 801 (by decide +kernel) (by decide +kernel)
theorem wd_802 : (Jvm.Cond.methodLink "LightHoursLaw" (49 : Nat) ({ cls := "LightHoursModel", name := "show", desc := "(III)I" } : Jvm.MethodName)) ∈ GT := gt_at 802 (by decide +kernel) (by decide +kernel)
theorem wd_803 : (Jvm.Cond.instanceMethod ({ cls := "LightHoursModel", name := "show", desc := "(III)I" } : Jvm.MethodName)) ∈ GT := gt_at 803 (by decide +kernel) (by decide +kernel)
theorem wd_804 : (Jvm.Cond.selects "LightHoursModel" ({ cls := "LightHoursModel", name := "show", desc := "(III)I" } : Jvm.MethodName) ({ cls := "LightHoursModel", name := "show", desc := "(III)I" } : Jvm.MethodName)) ∈ GT := gt_at 804 (by decide +kernel) (by decide +kernel)
theorem wd_805 : (Jvm.Cond.code ({ cls := "LightHoursModel", name := "show", desc := "(III)I" } : Jvm.MethodName) prog_11_method_25_code (4 : Nat) (Option.some Jvm.ClassFile.FieldType.int)) ∈ GT := gt_at 805 (by decide +kernel) (by decide +kernel)
theorem wd_806 : (Jvm.Cond.methodLink "LightHoursModel" (104 : Nat) ({ cls := "LightHoursModel", name := "isShown", desc := "(II)Z" } : Jvm.MethodName)) ∈ GT := gt_at 806 (by decide +kernel) (by decide +kernel)
theorem wd_808 : (Jvm.Cond.instanceMethod ({ cls := "LightHoursModel", name := "isShown", desc := "(II)Z" } : Jvm.MethodName)) ∈ GT := gt_at 808 (by decide +kernel) (by decide +kernel)
theorem wd_809 : (Jvm.Cond.code ({ cls := "LightHoursModel", name := "isShown", desc := "(II)Z" } : Jvm.MethodName) prog_11_method_24_code (5 : Nat) (Option.some Jvm.ClassFile.FieldType.boolean)) ∈ GT := gt_at 809 (by decide +kernel) (by decide +kernel)
theorem wd_810 : (Jvm.Cond.methodLink "LightHoursModel" (107 : Nat) ({ cls := "LightHoursModel", name := "books", desc := "(IIII)I" } : Jvm.MethodName)) ∈ GT := gt_at 810 (by decide +kernel) (by decide +kernel)
theorem wd_812 : (Jvm.Cond.instanceMethod ({ cls := "LightHoursModel", name := "books", desc := "(IIII)I" } : Jvm.MethodName)) ∈ GT := gt_at 812 (by decide +kernel) (by decide +kernel)
theorem wd_813 : (Jvm.Cond.code ({ cls := "LightHoursModel", name := "books", desc := "(IIII)I" } : Jvm.MethodName) prog_11_method_23_code (6 : Nat) (Option.some Jvm.ClassFile.FieldType.int)) ∈ GT := gt_at 813 (by decide +kernel) (by decide +kernel)
theorem wd_814 : (Jvm.Cond.methodLink "LightHoursLaw" (53 : Nat) ({ cls := "LightHoursModel", name := "lend", desc := "(III)I" } : Jvm.MethodName)) ∈ GT := gt_at 814 (by decide +kernel) (by decide +kernel)
theorem wd_815 : (Jvm.Cond.instanceMethod ({ cls := "LightHoursModel", name := "lend", desc := "(III)I" } : Jvm.MethodName)) ∈ GT := gt_at 815 (by decide +kernel) (by decide +kernel)
theorem wd_816 : (Jvm.Cond.selects "LightHoursModel" ({ cls := "LightHoursModel", name := "lend", desc := "(III)I" } : Jvm.MethodName) ({ cls := "LightHoursModel", name := "lend", desc := "(III)I" } : Jvm.MethodName)) ∈ GT := gt_at 816 (by decide +kernel) (by decide +kernel)
theorem wd_817 : (Jvm.Cond.code ({ cls := "LightHoursModel", name := "lend", desc := "(III)I" } : Jvm.MethodName) prog_11_method_26_code (4 : Nat) (Option.some Jvm.ClassFile.FieldType.int)) ∈ GT := gt_at 817 (by decide +kernel) (by decide +kernel)
theorem wd_818 : (Jvm.Cond.methodLink "LightHoursModel" (111 : Nat) ({ cls := "LightHoursModel", name := "leastLeft", desc := "(I)I" } : Jvm.MethodName)) ∈ GT := gt_at 818 (by decide +kernel) (by decide +kernel)
theorem wd_820 : (Jvm.Cond.instanceMethod ({ cls := "LightHoursModel", name := "leastLeft", desc := "(I)I" } : Jvm.MethodName)) ∈ GT := gt_at 820 (by decide +kernel) (by decide +kernel)
theorem wd_821 : (Jvm.Cond.code ({ cls := "LightHoursModel", name := "leastLeft", desc := "(I)I" } : Jvm.MethodName) prog_11_method_19_code (2 : Nat) (Option.some Jvm.ClassFile.FieldType.int)) ∈ GT := gt_at 821 (by decide +kernel) (by decide +kernel)
theorem wd_822 : (Jvm.Cond.methodLink "LightHoursModel" (95 : Nat) ({ cls := "LightHoursModel", name := "spentOf", desc := "(IIZ)I" } : Jvm.MethodName)) ∈ GT := gt_at 822 (by decide +kernel) (by decide +kernel)
theorem wd_824 : (Jvm.Cond.instanceMethod ({ cls := "LightHoursModel", name := "spentOf", desc := "(IIZ)I" } : Jvm.MethodName)) ∈ GT := gt_at 824 (by decide +kernel) (by decide +kernel)
theorem wd_825 : (Jvm.Cond.code ({ cls := "LightHoursModel", name := "spentOf", desc := "(IIZ)I" } : Jvm.MethodName) prog_11_method_18_code (4 : Nat) (Option.some Jvm.ClassFile.FieldType.int)) ∈ GT := gt_at 825 (by decide +kernel) (by decide +kernel)
theorem wd_826 : (Jvm.Cond.methodLink "LightHoursLaw" (57 : Nat) ({ cls := "LightHoursModel", name := "lacks", desc := "(II)I" } : Jvm.MethodName)) ∈ GT := gt_at 826 (by decide +kernel) (by decide +kernel)
theorem wd_827 : (Jvm.Cond.instanceMethod ({ cls := "LightHoursModel", name := "lacks", desc := "(II)I" } : Jvm.MethodName)) ∈ GT := gt_at 827 (by decide +kernel) (by decide +kernel)
theorem wd_828 : (Jvm.Cond.selects "LightHoursModel" ({ cls := "LightHoursModel", name := "lacks", desc := "(II)I" } : Jvm.MethodName) ({ cls := "LightHoursModel", name := "lacks", desc := "(II)I" } : Jvm.MethodName)) ∈ GT := gt_at 828 (by decide +kernel) (by decide +kernel)
theorem wd_829 : (Jvm.Cond.code ({ cls := "LightHoursModel", name := "lacks", desc := "(II)I" } : Jvm.MethodName) prog_11_method_27_code (4 : Nat) (Option.some Jvm.ClassFile.FieldType.int)) ∈ GT := gt_at 829 (by decide +kernel) (by decide +kernel)
theorem wd_830 : (Jvm.Cond.methodLink "LightHoursLaw" (61 : Nat) ({ cls := "LightHoursModel", name := "cancel", desc := "(I)I" } : Jvm.MethodName)) ∈ GT := gt_at 830 (by decide +kernel) (by decide +kernel)
theorem wd_831 : (Jvm.Cond.instanceMethod ({ cls := "LightHoursModel", name := "cancel", desc := "(I)I" } : Jvm.MethodName)) ∈ GT := gt_at 831 (by decide +kernel) (by decide +kernel)
theorem wd_832 : (Jvm.Cond.selects "LightHoursModel" ({ cls := "LightHoursModel", name := "cancel", desc := "(I)I" } : Jvm.MethodName) ({ cls := "LightHoursModel", name := "cancel", desc := "(I)I" } : Jvm.MethodName)) ∈ GT := gt_at 832 (by decide +kernel) (by decide +kernel)
theorem wd_833 : (Jvm.Cond.code ({ cls := "LightHoursModel", name := "cancel", desc := "(I)I" } : Jvm.MethodName) prog_11_method_28_code (2 : Nat) (Option.some Jvm.ClassFile.FieldType.int)) ∈ GT := gt_at 833 (by decide +kernel) (by decide +kernel)
theorem wd_834 : (Jvm.Cond.methodLink "LightHoursLaw" (65 : Nat) ({ cls := "LightHoursModel", name := "booking", desc := "(II)I" } : Jvm.MethodName)) ∈ GT := gt_at 834 (by decide +kernel) (by decide +kernel)
theorem wd_835 : (Jvm.Cond.instanceMethod ({ cls := "LightHoursModel", name := "booking", desc := "(II)I" } : Jvm.MethodName)) ∈ GT := gt_at 835 (by decide +kernel) (by decide +kernel)
theorem wd_836 : (Jvm.Cond.selects "LightHoursModel" ({ cls := "LightHoursModel", name := "booking", desc := "(II)I" } : Jvm.MethodName) ({ cls := "LightHoursModel", name := "booking", desc := "(II)I" } : Jvm.MethodName)) ∈ GT := gt_at 836 (by decide +kernel) (by decide +kernel)
theorem wd_837 : (Jvm.Cond.code ({ cls := "LightHoursModel", name := "booking", desc := "(II)I" } : Jvm.MethodName) prog_11_method_29_code (4 : Nat) (Option.some Jvm.ClassFile.FieldType.int)) ∈ GT := gt_at 837 (by decide +kernel) (by decide +kernel)
theorem wd_838 : (Jvm.Cond.methodLink "LightHoursLaw" (69 : Nat) ({ cls := "LightHoursModel", name := "thread", desc := "(III)I" } : Jvm.MethodName)) ∈ GT := gt_at 838 (by decide +kernel) (by decide +kernel)
theorem wd_839 : (Jvm.Cond.instanceMethod ({ cls := "LightHoursModel", name := "thread", desc := "(III)I" } : Jvm.MethodName)) ∈ GT := gt_at 839 (by decide +kernel) (by decide +kernel)
theorem wd_840 : (Jvm.Cond.selects "LightHoursModel" ({ cls := "LightHoursModel", name := "thread", desc := "(III)I" } : Jvm.MethodName) ({ cls := "LightHoursModel", name := "thread", desc := "(III)I" } : Jvm.MethodName)) ∈ GT := gt_at 840 (by decide +kernel) (by decide +kernel)
theorem wd_841 : (Jvm.Cond.code ({ cls := "LightHoursModel", name := "thread", desc := "(III)I" } : Jvm.MethodName) prog_11_method_30_code (5 : Nat) (Option.some Jvm.ClassFile.FieldType.int)) ∈ GT := gt_at 841 (by decide +kernel) (by decide +kernel)
theorem wd_842 : (Jvm.Cond.methodLink "LightHoursLaw" (74 : Nat) ({ cls := "LightHoursModel", name := "cut", desc := "()I" } : Jvm.MethodName)) ∈ GT := gt_at 842 (by decide +kernel) (by decide +kernel)
theorem wd_843 : (Jvm.Cond.instanceMethod ({ cls := "LightHoursModel", name := "cut", desc := "()I" } : Jvm.MethodName)) ∈ GT := gt_at 843 (by decide +kernel) (by decide +kernel)
theorem wd_844 : (Jvm.Cond.selects "LightHoursModel" ({ cls := "LightHoursModel", name := "cut", desc := "()I" } : Jvm.MethodName) ({ cls := "LightHoursModel", name := "cut", desc := "()I" } : Jvm.MethodName)) ∈ GT := gt_at 844 (by decide +kernel) (by decide +kernel)
theorem wd_845 : (Jvm.Cond.code ({ cls := "LightHoursModel", name := "cut", desc := "()I" } : Jvm.MethodName) prog_11_method_31_code (1 : Nat) (Option.some Jvm.ClassFile.FieldType.int)) ∈ GT := gt_at 845 (by decide +kernel) (by decide +kernel)
theorem wd_846 : (Jvm.Cond.methodLink "LightHoursLaw" (79 : Nat) ({ cls := "LightHoursModel", name := "pastOf", desc := "(IZ)I" } : Jvm.MethodName)) ∈ GT := gt_at 846 (by decide +kernel) (by decide +kernel)
theorem wd_847 : (Jvm.Cond.instanceMethod ({ cls := "LightHoursModel", name := "pastOf", desc := "(IZ)I" } : Jvm.MethodName)) ∈ GT := gt_at 847 (by decide +kernel) (by decide +kernel)
theorem wd_848 : (Jvm.Cond.selects "LightHoursModel" ({ cls := "LightHoursModel", name := "pastOf", desc := "(IZ)I" } : Jvm.MethodName) ({ cls := "LightHoursModel", name := "pastOf", desc := "(IZ)I" } : Jvm.MethodName)) ∈ GT := gt_at 848 (by decide +kernel) (by decide +kernel)
theorem wd_849 : (Jvm.Cond.code ({ cls := "LightHoursModel", name := "pastOf", desc := "(IZ)I" } : Jvm.MethodName) prog_11_method_32_code (3 : Nat) (Option.some Jvm.ClassFile.FieldType.int)) ∈ GT := gt_at 849 (by decide +kernel) (by decide +kernel)
theorem wd_850 : (Jvm.Cond.methodLink "LightHoursLaw" (83 : Nat) ({ cls := "LightHoursModel", name := "spent", desc := "(IIZ)I" } : Jvm.MethodName)) ∈ GT := gt_at 850 (by decide +kernel) (by decide +kernel)
theorem wd_851 : (Jvm.Cond.instanceMethod ({ cls := "LightHoursModel", name := "spent", desc := "(IIZ)I" } : Jvm.MethodName)) ∈ GT := gt_at 851 (by decide +kernel) (by decide +kernel)
theorem wd_852 : (Jvm.Cond.selects "LightHoursModel" ({ cls := "LightHoursModel", name := "spent", desc := "(IIZ)I" } : Jvm.MethodName) ({ cls := "LightHoursModel", name := "spent", desc := "(IIZ)I" } : Jvm.MethodName)) ∈ GT := gt_at 852 (by decide +kernel) (by decide +kernel)
theorem wd_853 : (Jvm.Cond.code ({ cls := "LightHoursModel", name := "spent", desc := "(IIZ)I" } : Jvm.MethodName) prog_11_method_33_code (4 : Nat) (Option.some Jvm.ClassFile.FieldType.int)) ∈ GT := gt_at 853 (by decide +kernel) (by decide +kernel)
theorem wd_854 : (Jvm.Cond.methodLink "LightHoursLaw" (87 : Nat) ({ cls := "LightHoursModel", name := "left", desc := "(IZ)I" } : Jvm.MethodName)) ∈ GT := gt_at 854 (by decide +kernel) (by decide +kernel)
theorem wd_855 : (Jvm.Cond.instanceMethod ({ cls := "LightHoursModel", name := "left", desc := "(IZ)I" } : Jvm.MethodName)) ∈ GT := gt_at 855 (by decide +kernel) (by decide +kernel)
theorem wd_856 : (Jvm.Cond.selects "LightHoursModel" ({ cls := "LightHoursModel", name := "left", desc := "(IZ)I" } : Jvm.MethodName) ({ cls := "LightHoursModel", name := "left", desc := "(IZ)I" } : Jvm.MethodName)) ∈ GT := gt_at 856 (by decide +kernel) (by decide +kernel)
theorem wd_857 : (Jvm.Cond.code ({ cls := "LightHoursModel", name := "left", desc := "(IZ)I" } : Jvm.MethodName) prog_11_method_34_code (3 : Nat) (Option.some Jvm.ClassFile.FieldType.int)) ∈ GT := gt_at 857 (by decide +kernel) (by decide +kernel)
theorem wd_858 : (Jvm.Cond.constant "LightHoursModel" (114 : Nat) (-1000000 : Int32)) ∈ GT := gt_at 858 (by decide +kernel) (by decide +kernel)
theorem wd_859 : (Jvm.Cond.methodLink "LightHoursLaw" (91 : Nat) ({ cls := "LightHoursModel", name := "step", desc := "(IIZ)I" } : Jvm.MethodName)) ∈ GT := gt_at 859 (by decide +kernel) (by decide +kernel)
theorem wd_860 : (Jvm.Cond.instanceMethod ({ cls := "LightHoursModel", name := "step", desc := "(IIZ)I" } : Jvm.MethodName)) ∈ GT := gt_at 860 (by decide +kernel) (by decide +kernel)
theorem wd_861 : (Jvm.Cond.selects "LightHoursModel" ({ cls := "LightHoursModel", name := "step", desc := "(IIZ)I" } : Jvm.MethodName) ({ cls := "LightHoursModel", name := "step", desc := "(IIZ)I" } : Jvm.MethodName)) ∈ GT := gt_at 861 (by decide +kernel) (by decide +kernel)
theorem wd_862 : (Jvm.Cond.code ({ cls := "LightHoursModel", name := "step", desc := "(IIZ)I" } : Jvm.MethodName) prog_11_method_35_code (6 : Nat) (Option.some Jvm.ClassFile.FieldType.int)) ∈ GT := gt_at 862 (by decide +kernel) (by decide +kernel)
theorem wd_863 : (Jvm.Cond.methodLink "LightHoursLaw" (95 : Nat) ({ cls := "LightHoursModel", name := "wall", desc := "(III)I" } : Jvm.MethodName)) ∈ GT := gt_at 863 (by decide +kernel) (by decide +kernel)
theorem wd_864 : (Jvm.Cond.instanceMethod ({ cls := "LightHoursModel", name := "wall", desc := "(III)I" } : Jvm.MethodName)) ∈ GT := gt_at 864 (by decide +kernel) (by decide +kernel)
theorem wd_865 : (Jvm.Cond.selects "LightHoursModel" ({ cls := "LightHoursModel", name := "wall", desc := "(III)I" } : Jvm.MethodName) ({ cls := "LightHoursModel", name := "wall", desc := "(III)I" } : Jvm.MethodName)) ∈ GT := gt_at 865 (by decide +kernel) (by decide +kernel)
theorem wd_866 : (Jvm.Cond.code ({ cls := "LightHoursModel", name := "wall", desc := "(III)I" } : Jvm.MethodName) prog_11_method_36_code (5 : Nat) (Option.some Jvm.ClassFile.FieldType.int)) ∈ GT := gt_at 866 (by decide +kernel) (by decide +kernel)
theorem wd_867 : (Jvm.Cond.methodLink "LightHoursLaw" (99 : Nat) ({ cls := "LightHoursModel", name := "strip", desc := "()I" } : Jvm.MethodName)) ∈ GT := gt_at 867 (by decide +kernel) (by decide +kernel)
theorem wd_868 : (Jvm.Cond.instanceMethod ({ cls := "LightHoursModel", name := "strip", desc := "()I" } : Jvm.MethodName)) ∈ GT := gt_at 868 (by decide +kernel) (by decide +kernel)
theorem wd_869 : (Jvm.Cond.selects "LightHoursModel" ({ cls := "LightHoursModel", name := "strip", desc := "()I" } : Jvm.MethodName) ({ cls := "LightHoursModel", name := "strip", desc := "()I" } : Jvm.MethodName)) ∈ GT := gt_at 869 (by decide +kernel) (by decide +kernel)
theorem wd_870 : (Jvm.Cond.code ({ cls := "LightHoursModel", name := "strip", desc := "()I" } : Jvm.MethodName) prog_11_method_37_code (1 : Nat) (Option.some Jvm.ClassFile.FieldType.int)) ∈ GT := gt_at 870 (by decide +kernel) (by decide +kernel)
theorem wd_871 : (Jvm.Cond.methodLink "LightHoursLaw" (103 : Nat) ({ cls := "LightHoursModel", name := "hung", desc := "(I)I" } : Jvm.MethodName)) ∈ GT := gt_at 871 (by decide +kernel) (by decide +kernel)
theorem wd_872 : (Jvm.Cond.instanceMethod ({ cls := "LightHoursModel", name := "hung", desc := "(I)I" } : Jvm.MethodName)) ∈ GT := gt_at 872 (by decide +kernel) (by decide +kernel)
theorem wd_873 : (Jvm.Cond.selects "LightHoursModel" ({ cls := "LightHoursModel", name := "hung", desc := "(I)I" } : Jvm.MethodName) ({ cls := "LightHoursModel", name := "hung", desc := "(I)I" } : Jvm.MethodName)) ∈ GT := gt_at 873 (by decide +kernel) (by decide +kernel)
theorem wd_874 : (Jvm.Cond.code ({ cls := "LightHoursModel", name := "hung", desc := "(I)I" } : Jvm.MethodName) prog_11_method_44_code (2 : Nat) (Option.some Jvm.ClassFile.FieldType.int)) ∈ GT := gt_at 874 (by decide +kernel) (by decide +kernel)
theorem wd_875 : (Jvm.Cond.methodLink "LightHoursModel" (134 : Nat) ({ cls := "LightHoursModel", name := "findHang", desc := "()V" } : Jvm.MethodName)) ∈ GT := gt_at 875 (by decide +kernel) (by decide +kernel)
theorem wd_877 : (Jvm.Cond.instanceMethod ({ cls := "LightHoursModel", name := "findHang", desc := "()V" } : Jvm.MethodName)) ∈ GT := gt_at 877 (by decide +kernel) (by decide +kernel)
theorem wd_878 : (Jvm.Cond.code ({ cls := "LightHoursModel", name := "findHang", desc := "()V" } : Jvm.MethodName) prog_11_method_42_code (3 : Nat) (Option.none : Option Jvm.ClassFile.FieldType)) ∈ GT := gt_at 878 (by decide +kernel) (by decide +kernel)
theorem wd_879 : (Jvm.Cond.methodLink "LightHoursModel" (125 : Nat) ({ cls := "LightHoursModel", name := "takes", desc := "()V" } : Jvm.MethodName)) ∈ GT := gt_at 879 (by decide +kernel) (by decide +kernel)
theorem wd_881 : (Jvm.Cond.instanceMethod ({ cls := "LightHoursModel", name := "takes", desc := "()V" } : Jvm.MethodName)) ∈ GT := gt_at 881 (by decide +kernel) (by decide +kernel)
theorem wd_882 : (Jvm.Cond.code ({ cls := "LightHoursModel", name := "takes", desc := "()V" } : Jvm.MethodName) prog_11_method_43_code (3 : Nat) (Option.none : Option Jvm.ClassFile.FieldType)) ∈ GT := gt_at 882 (by decide +kernel) (by decide +kernel)
theorem wd_883 : (Jvm.Cond.methodLink "LightHoursModel" (131 : Nat) ({ cls := "LightHoursModel", name := "valueOf", desc := "(I)I" } : Jvm.MethodName)) ∈ GT := gt_at 883 (by decide +kernel) (by decide +kernel)
theorem wd_885 : (Jvm.Cond.instanceMethod ({ cls := "LightHoursModel", name := "valueOf", desc := "(I)I" } : Jvm.MethodName)) ∈ GT := gt_at 885 (by decide +kernel) (by decide +kernel)
theorem wd_886 : (Jvm.Cond.code ({ cls := "LightHoursModel", name := "valueOf", desc := "(I)I" } : Jvm.MethodName) prog_11_method_41_code (2 : Nat) (Option.some Jvm.ClassFile.FieldType.int)) ∈ GT := gt_at 886 (by decide +kernel) (by decide +kernel)
theorem wd_887 : (Jvm.Cond.methodLink "LightHoursModel" (128 : Nat) ({ cls := "LightHoursModel", name := "fits", desc := "(I)Z" } : Jvm.MethodName)) ∈ GT := gt_at 887 (by decide +kernel) (by decide +kernel)
theorem wd_889 : (Jvm.Cond.instanceMethod ({ cls := "LightHoursModel", name := "fits", desc := "(I)Z" } : Jvm.MethodName)) ∈ GT := gt_at 889 (by decide +kernel) (by decide +kernel)
theorem wd_890 : (Jvm.Cond.code ({ cls := "LightHoursModel", name := "fits", desc := "(I)Z" } : Jvm.MethodName) prog_11_method_40_code (9 : Nat) (Option.some Jvm.ClassFile.FieldType.boolean)) ∈ GT := gt_at 890 (by decide +kernel) (by decide +kernel)
theorem wd_891 : (Jvm.Cond.methodLink "LightHoursModel" (119 : Nat) ({ cls := "LightHoursModel", name := "rests", desc := "(II)Z" } : Jvm.MethodName)) ∈ GT := gt_at 891 (by decide +kernel) (by decide +kernel)
theorem wd_893 : (Jvm.Cond.instanceMethod ({ cls := "LightHoursModel", name := "rests", desc := "(II)Z" } : Jvm.MethodName)) ∈ GT := gt_at 893 (by decide +kernel) (by decide +kernel)
theorem wd_894 : (Jvm.Cond.code ({ cls := "LightHoursModel", name := "rests", desc := "(II)Z" } : Jvm.MethodName) prog_11_method_39_code (7 : Nat) (Option.some Jvm.ClassFile.FieldType.boolean)) ∈ GT := gt_at 894 (by decide +kernel) (by decide +kernel)
theorem wd_895 : (Jvm.Cond.methodLink "LightHoursModel" (115 : Nat) ({ cls := "LightHoursModel", name := "away", desc := "(II)I" } : Jvm.MethodName)) ∈ GT := gt_at 895 (by decide +kernel) (by decide +kernel)
theorem wd_896 : (Jvm.Cond.static ({ cls := "LightHoursModel", name := "away", desc := "(II)I" } : Jvm.MethodName)) ∈ GT := gt_at 896 (by decide +kernel) (by decide +kernel)
theorem wd_897 : (Jvm.Cond.code ({ cls := "LightHoursModel", name := "away", desc := "(II)I" } : Jvm.MethodName) prog_11_method_38_code (2 : Nat) (Option.some Jvm.ClassFile.FieldType.int)) ∈ GT := gt_at 897 (by decide +kernel) (by decide +kernel)
theorem wd_898 : (Jvm.Cond.methodLink "LightHoursLaw" (107 : Nat) ({ cls := "LightHoursModel", name := "worth", desc := "()I" } : Jvm.MethodName)) ∈ GT := gt_at 898 (by decide +kernel) (by decide +kernel)
theorem wd_899 : (Jvm.Cond.instanceMethod ({ cls := "LightHoursModel", name := "worth", desc := "()I" } : Jvm.MethodName)) ∈ GT := gt_at 899 (by decide +kernel) (by decide +kernel)
theorem wd_900 : (Jvm.Cond.selects "LightHoursModel" ({ cls := "LightHoursModel", name := "worth", desc := "()I" } : Jvm.MethodName) ({ cls := "LightHoursModel", name := "worth", desc := "()I" } : Jvm.MethodName)) ∈ GT := gt_at 900 (by decide +kernel) (by decide +kernel)
theorem wd_901 : (Jvm.Cond.code ({ cls := "LightHoursModel", name := "worth", desc := "()I" } : Jvm.MethodName) prog_11_method_45_code (1 : Nat) (Option.some Jvm.ClassFile.FieldType.int)) ∈ GT := gt_at 901 (by decide +kernel) (by decide +kernel)
theorem wd_902 : (Jvm.Cond.methodLink "LightHoursLaw" (111 : Nat) ({ cls := "LightHoursModel", name := "spares", desc := "(I)I" } : Jvm.MethodName)) ∈ GT := gt_at 902 (by decide +kernel) (by decide +kernel)
theorem wd_903 : (Jvm.Cond.instanceMethod ({ cls := "LightHoursModel", name := "spares", desc := "(I)I" } : Jvm.MethodName)) ∈ GT := gt_at 903 (by decide +kernel) (by decide +kernel)
theorem wd_904 : (Jvm.Cond.selects "LightHoursModel" ({ cls := "LightHoursModel", name := "spares", desc := "(I)I" } : Jvm.MethodName) ({ cls := "LightHoursModel", name := "spares", desc := "(I)I" } : Jvm.MethodName)) ∈ GT := gt_at 904 (by decide +kernel) (by decide +kernel)
theorem wd_905 : (Jvm.Cond.code ({ cls := "LightHoursModel", name := "spares", desc := "(I)I" } : Jvm.MethodName) prog_11_method_46_code (4 : Nat) (Option.some Jvm.ClassFile.FieldType.int)) ∈ GT := gt_at 905 (by decide +kernel) (by decide +kernel)
theorem wd_906 : (Jvm.Cond.methodLink "LightHoursLaw" (115 : Nat) ({ cls := "LightHoursModel", name := "hang", desc := "()I" } : Jvm.MethodName)) ∈ GT := gt_at 906 (by decide +kernel) (by decide +kernel)
theorem wd_907 : (Jvm.Cond.instanceMethod ({ cls := "LightHoursModel", name := "hang", desc := "()I" } : Jvm.MethodName)) ∈ GT := gt_at 907 (by decide +kernel) (by decide +kernel)
theorem wd_908 : (Jvm.Cond.selects "LightHoursModel" ({ cls := "LightHoursModel", name := "hang", desc := "()I" } : Jvm.MethodName) ({ cls := "LightHoursModel", name := "hang", desc := "()I" } : Jvm.MethodName)) ∈ GT := gt_at 908 (by decide +kernel) (by decide +kernel)
theorem wd_909 : (Jvm.Cond.code ({ cls := "LightHoursModel", name := "hang", desc := "()I" } : Jvm.MethodName) prog_11_method_47_code (4 : Nat) (Option.some Jvm.ClassFile.FieldType.int)) ∈ GT := gt_at 909 (by decide +kernel) (by decide +kernel)
theorem wd_910 : (Jvm.Cond.methodLink "LightHoursLaw" (119 : Nat) ({ cls := "LightHoursModel", name := "many", desc := "(I)I" } : Jvm.MethodName)) ∈ GT := gt_at 910 (by decide +kernel) (by decide +kernel)
theorem wd_911 : (Jvm.Cond.instanceMethod ({ cls := "LightHoursModel", name := "many", desc := "(I)I" } : Jvm.MethodName)) ∈ GT := gt_at 911 (by decide +kernel) (by decide +kernel)
theorem wd_912 : (Jvm.Cond.selects "LightHoursModel" ({ cls := "LightHoursModel", name := "many", desc := "(I)I" } : Jvm.MethodName) ({ cls := "LightHoursModel", name := "many", desc := "(I)I" } : Jvm.MethodName)) ∈ GT := gt_at 912 (by decide +kernel) (by decide +kernel)
theorem wd_913 : (Jvm.Cond.code ({ cls := "LightHoursModel", name := "many", desc := "(I)I" } : Jvm.MethodName) prog_11_method_52_code (2 : Nat) (Option.some Jvm.ClassFile.FieldType.int)) ∈ GT := gt_at 913 (by decide +kernel) (by decide +kernel)
theorem wd_914 : (Jvm.Cond.methodLink "LightHoursModel" (140 : Nat) ({ cls := "LightHoursModel", name := "cancelled", desc := "()I" } : Jvm.MethodName)) ∈ GT := gt_at 914 (by decide +kernel) (by decide +kernel)
theorem wd_916 : (Jvm.Cond.instanceMethod ({ cls := "LightHoursModel", name := "cancelled", desc := "()I" } : Jvm.MethodName)) ∈ GT := gt_at 916 (by decide +kernel) (by decide +kernel)
theorem wd_917 : (Jvm.Cond.code ({ cls := "LightHoursModel", name := "cancelled", desc := "()I" } : Jvm.MethodName) prog_11_method_48_code (3 : Nat) (Option.some Jvm.ClassFile.FieldType.int)) ∈ GT := gt_at 917 (by decide +kernel) (by decide +kernel)
theorem wd_918 : (Jvm.Cond.methodLink "LightHoursModel" (144 : Nat) ({ cls := "LightHoursModel", name := "quarrels", desc := "()I" } : Jvm.MethodName)) ∈ GT := gt_at 918 (by decide +kernel) (by decide +kernel)
theorem wd_920 : (Jvm.Cond.instanceMethod ({ cls := "LightHoursModel", name := "quarrels", desc := "()I" } : Jvm.MethodName)) ∈ GT := gt_at 920 (by decide +kernel) (by decide +kernel)
theorem wd_921 : (Jvm.Cond.code ({ cls := "LightHoursModel", name := "quarrels", desc := "()I" } : Jvm.MethodName) prog_11_method_49_code (3 : Nat) (Option.some Jvm.ClassFile.FieldType.int)) ∈ GT := gt_at 921 (by decide +kernel) (by decide +kernel)
theorem wd_922 : (Jvm.Cond.methodLink "LightHoursModel" (137 : Nat) ({ cls := "LightHoursModel", name := "of", desc := "(II)I" } : Jvm.MethodName)) ∈ GT := gt_at 922 (by decide +kernel) (by decide +kernel)
theorem wd_923 : (Jvm.Cond.methodLink "LightHoursModel" (147 : Nat) ({ cls := "LightHoursModel", name := "overspent", desc := "()I" } : Jvm.MethodName)) ∈ GT := gt_at 923 (by decide +kernel) (by decide +kernel)
theorem wd_925 : (Jvm.Cond.instanceMethod ({ cls := "LightHoursModel", name := "overspent", desc := "()I" } : Jvm.MethodName)) ∈ GT := gt_at 925 (by decide +kernel) (by decide +kernel)
theorem wd_926 : (Jvm.Cond.code ({ cls := "LightHoursModel", name := "overspent", desc := "()I" } : Jvm.MethodName) prog_11_method_50_code (3 : Nat) (Option.some Jvm.ClassFile.FieldType.int)) ∈ GT := gt_at 926 (by decide +kernel) (by decide +kernel)
theorem wd_927 : (Jvm.Cond.methodLink "LightHoursModel" (150 : Nat) ({ cls := "LightHoursModel", name := "readMany", desc := "()I" } : Jvm.MethodName)) ∈ GT := gt_at 927 (by decide +kernel) (by decide +kernel)
theorem wd_929 : (Jvm.Cond.instanceMethod ({ cls := "LightHoursModel", name := "readMany", desc := "()I" } : Jvm.MethodName)) ∈ GT := gt_at 929 (by decide +kernel) (by decide +kernel)
theorem wd_930 : (Jvm.Cond.code ({ cls := "LightHoursModel", name := "readMany", desc := "()I" } : Jvm.MethodName) prog_11_method_51_code (3 : Nat) (Option.some Jvm.ClassFile.FieldType.int)) ∈ GT := gt_at 930 (by decide +kernel) (by decide +kernel)
theorem wd_931 : (Jvm.Cond.methodLink "LightHoursLaw" (123 : Nat) ({ cls := "LightHoursModel", name := "keep", desc := "()I" } : Jvm.MethodName)) ∈ GT := gt_at 931 (by decide +kernel) (by decide +kernel)
theorem wd_932 : (Jvm.Cond.instanceMethod ({ cls := "LightHoursModel", name := "keep", desc := "()I" } : Jvm.MethodName)) ∈ GT := gt_at 932 (by decide +kernel) (by decide +kernel)
theorem wd_933 : (Jvm.Cond.selects "LightHoursModel" ({ cls := "LightHoursModel", name := "keep", desc := "()I" } : Jvm.MethodName) ({ cls := "LightHoursModel", name := "keep", desc := "()I" } : Jvm.MethodName)) ∈ GT := gt_at 933 (by decide +kernel) (by decide +kernel)
theorem wd_934 : (Jvm.Cond.code ({ cls := "LightHoursModel", name := "keep", desc := "()I" } : Jvm.MethodName) prog_11_method_55_code (1 : Nat) (Option.some Jvm.ClassFile.FieldType.int)) ∈ GT := gt_at 934 (by decide +kernel) (by decide +kernel)
theorem wd_935 : (Jvm.Cond.methodLink "LightHoursModel" (160 : Nat) ({ cls := "LightHoursModel", name := "moveAll", desc := "(Z)V" } : Jvm.MethodName)) ∈ GT := gt_at 935 (by decide +kernel) (by decide +kernel)
theorem wd_937 : (Jvm.Cond.instanceMethod ({ cls := "LightHoursModel", name := "moveAll", desc := "(Z)V" } : Jvm.MethodName)) ∈ GT := gt_at 937 (by decide +kernel) (by decide +kernel)
theorem wd_938 : (Jvm.Cond.code ({ cls := "LightHoursModel", name := "moveAll", desc := "(Z)V" } : Jvm.MethodName) prog_11_method_54_code (2 : Nat) (Option.none : Option Jvm.ClassFile.FieldType)) ∈ GT := gt_at 938 (by decide +kernel) (by decide +kernel)
theorem wd_939 : (Jvm.Cond.methodLink "LightHoursModel" (156 : Nat) ({ cls := "LightHoursModel", name := "move", desc := "([IIZ)V" } : Jvm.MethodName)) ∈ GT := gt_at 939 (by decide +kernel) (by decide +kernel)
theorem wd_941 : (Jvm.Cond.instanceMethod ({ cls := "LightHoursModel", name := "move", desc := "([IIZ)V" } : Jvm.MethodName)) ∈ GT := gt_at 941 (by decide +kernel) (by decide +kernel)
theorem wd_942 : (Jvm.Cond.code ({ cls := "LightHoursModel", name := "move", desc := "([IIZ)V" } : Jvm.MethodName) prog_11_method_53_code (5 : Nat) (Option.none : Option Jvm.ClassFile.FieldType)) ∈ GT := gt_at 942 (by decide +kernel) (by decide +kernel)
theorem wd_943 : (Jvm.Cond.methodLink "LightHoursLaw" (127 : Nat) ({ cls := "LightHoursModel", name := "back", desc := "()I" } : Jvm.MethodName)) ∈ GT := gt_at 943 (by decide +kernel) (by decide +kernel)
theorem wd_944 : (Jvm.Cond.instanceMethod ({ cls := "LightHoursModel", name := "back", desc := "()I" } : Jvm.MethodName)) ∈ GT := gt_at 944 (by decide +kernel) (by decide +kernel)
theorem wd_945 : (Jvm.Cond.selects "LightHoursModel" ({ cls := "LightHoursModel", name := "back", desc := "()I" } : Jvm.MethodName) ({ cls := "LightHoursModel", name := "back", desc := "()I" } : Jvm.MethodName)) ∈ GT := gt_at 945 (by decide +kernel) (by decide +kernel)
theorem wd_946 : (Jvm.Cond.code ({ cls := "LightHoursModel", name := "back", desc := "()I" } : Jvm.MethodName) prog_11_method_56_code (1 : Nat) (Option.some Jvm.ClassFile.FieldType.int)) ∈ GT := gt_at 946 (by decide +kernel) (by decide +kernel)
theorem ix_0 : ∀ w ∈ u_ws RX0 TX0 6, w ∈ GT := fun w h => List.mem_filter.mpr ⟨(by decide +kernel : ∀ w ∈ u_ws RX0 TX0 6, w ∈ lw_tbl) w h, (by decide +kernel : ∀ w ∈ u_ws RX0 TX0 6, goodWord w = true) w h⟩
theorem ix_1 : ∀ w ∈ u_ws RX1 TX1 10, w ∈ GT := fun w h => List.mem_filter.mpr ⟨(by decide +kernel : ∀ w ∈ u_ws RX1 TX1 10, w ∈ lw_tbl) w h, (by decide +kernel : ∀ w ∈ u_ws RX1 TX1 10, goodWord w = true) w h⟩
theorem ix_2 : ∀ w ∈ u_ws RX2 TX2 5, w ∈ GT := fun w h => List.mem_filter.mpr ⟨(by decide +kernel : ∀ w ∈ u_ws RX2 TX2 5, w ∈ lw_tbl) w h, (by decide +kernel : ∀ w ∈ u_ws RX2 TX2 5, goodWord w = true) w h⟩
theorem ix_3 : ∀ w ∈ u_ws RX3 TX3 7, w ∈ GT := fun w h => List.mem_filter.mpr ⟨(by decide +kernel : ∀ w ∈ u_ws RX3 TX3 7, w ∈ lw_tbl) w h, (by decide +kernel : ∀ w ∈ u_ws RX3 TX3 7, goodWord w = true) w h⟩
theorem ix_4 : ∀ w ∈ u_ws RX4 TX4 3, w ∈ GT := fun w h => List.mem_filter.mpr ⟨(by decide +kernel : ∀ w ∈ u_ws RX4 TX4 3, w ∈ lw_tbl) w h, (by decide +kernel : ∀ w ∈ u_ws RX4 TX4 3, goodWord w = true) w h⟩
theorem ix_5 : ∀ w ∈ u_ws RX5 TX5 8, w ∈ GT := fun w h => List.mem_filter.mpr ⟨(by decide +kernel : ∀ w ∈ u_ws RX5 TX5 8, w ∈ lw_tbl) w h, (by decide +kernel : ∀ w ∈ u_ws RX5 TX5 8, goodWord w = true) w h⟩
theorem ix_6 : ∀ w ∈ u_ws RX6 TX6 4, w ∈ GT := fun w h => List.mem_filter.mpr ⟨(by decide +kernel : ∀ w ∈ u_ws RX6 TX6 4, w ∈ lw_tbl) w h, (by decide +kernel : ∀ w ∈ u_ws RX6 TX6 4, goodWord w = true) w h⟩
theorem ix_7 : ∀ w ∈ u_ws RX7 TX7 4, w ∈ GT := fun w h => List.mem_filter.mpr ⟨(by decide +kernel : ∀ w ∈ u_ws RX7 TX7 4, w ∈ lw_tbl) w h, (by decide +kernel : ∀ w ∈ u_ws RX7 TX7 4, goodWord w = true) w h⟩
theorem ix_8 : ∀ w ∈ u_ws RX8 TX8 4, w ∈ GT := fun w h => List.mem_filter.mpr ⟨(by decide +kernel : ∀ w ∈ u_ws RX8 TX8 4, w ∈ lw_tbl) w h, (by decide +kernel : ∀ w ∈ u_ws RX8 TX8 4, goodWord w = true) w h⟩
theorem ix_9 : ∀ w ∈ u_ws RX9 TX9 18, w ∈ GT := fun w h => List.mem_filter.mpr ⟨(by decide +kernel : ∀ w ∈ u_ws RX9 TX9 18, w ∈ lw_tbl) w h, (by decide +kernel : ∀ w ∈ u_ws RX9 TX9 18, goodWord w = true) w h⟩
abbrev clz : List vw_C := [(RX0, TX0, 6), (RX1, TX1, 10), (RX2, TX2, 5), (RX3, TX3, 7), (RX4, TX4, 3), (RX5, TX5, 8), (RX6, TX6, 4), (RX7, TX7, 4), (RX8, TX8, 4), (RX9, TX9, 18)]
end
section
theorem dX0_init_0 : decode cX0_init 0 = .ok (.aload_n 0, 1) := by decide +kernel
theorem dX0_init_1 : decode cX0_init 1 = .ok (.invokespecial 3, 3) := by decide +kernel
theorem dX0_init_4 : decode cX0_init 4 = .ok (.aload_n 0, 1) := by decide +kernel
theorem dX0_init_5 : decode cX0_init 5 = .ok (.iconst 0, 1) := by decide +kernel
theorem dX0_init_6 : decode cX0_init 6 = .ok (.putfield 9, 3) := by decide +kernel
theorem dX0_init_9 : decode cX0_init 9 = .ok (.aload_n 0, 1) := by decide +kernel
theorem dX0_init_10 : decode cX0_init 10 = .ok (.bipush 30, 2) := by decide +kernel
theorem dX0_init_12 : decode cX0_init 12 = .ok (.newarray .int, 2) := by decide +kernel
theorem dX0_init_14 : decode cX0_init 14 = .ok (.putfield 15, 3) := by decide +kernel
theorem dX0_init_17 : decode cX0_init 17 = .ok (.aload_n 0, 1) := by decide +kernel
theorem dX0_init_18 : decode cX0_init 18 = .ok (.bipush 30, 2) := by decide +kernel
theorem dX0_init_20 : decode cX0_init 20 = .ok (.newarray .int, 2) := by decide +kernel
theorem dX0_init_22 : decode cX0_init 22 = .ok (.putfield 19, 3) := by decide +kernel
theorem dX0_init_25 : decode cX0_init 25 = .ok (.aload_n 0, 1) := by decide +kernel
theorem dX0_init_26 : decode cX0_init 26 = .ok (.bipush 30, 2) := by decide +kernel
theorem dX0_init_28 : decode cX0_init 28 = .ok (.newarray .int, 2) := by decide +kernel
theorem dX0_init_30 : decode cX0_init 30 = .ok (.putfield 22, 3) := by decide +kernel
theorem dX0_init_33 : decode cX0_init 33 = .ok (.aload_n 0, 1) := by decide +kernel
theorem dX0_init_34 : decode cX0_init 34 = .ok (.bipush 30, 2) := by decide +kernel
theorem dX0_init_36 : decode cX0_init 36 = .ok (.newarray .int, 2) := by decide +kernel
theorem dX0_init_38 : decode cX0_init 38 = .ok (.putfield 25, 3) := by decide +kernel
theorem dX0_init_41 : decode cX0_init 41 = .ok (.aload_n 0, 1) := by decide +kernel
theorem dX0_init_42 : decode cX0_init 42 = .ok (.bipush 30, 2) := by decide +kernel
theorem dX0_init_44 : decode cX0_init 44 = .ok (.newarray .boolean, 2) := by decide +kernel
theorem dX0_init_46 : decode cX0_init 46 = .ok (.putfield 28, 3) := by decide +kernel
theorem dX0_init_49 : decode cX0_init 49 = .ok (.return_, 1) := by decide +kernel
theorem dX0_has_0 : decode cX0_has 0 = .ok (.iload_n 1, 1) := by decide +kernel
theorem dX0_has_1 : decode cX0_has 1 = .ok (.ifCond .lt 15, 3) := by decide +kernel
theorem dX0_has_4 : decode cX0_has 4 = .ok (.iload_n 1, 1) := by decide +kernel
theorem dX0_has_5 : decode cX0_has 5 = .ok (.aload_n 0, 1) := by decide +kernel
theorem dX0_has_6 : decode cX0_has 6 = .ok (.getfield 9, 3) := by decide +kernel
theorem dX0_has_9 : decode cX0_has 9 = .ok (.if_icmp .ge 7, 3) := by decide +kernel
theorem dX0_has_12 : decode cX0_has 12 = .ok (.iconst 1, 1) := by decide +kernel
theorem dX0_has_13 : decode cX0_has 13 = .ok (.goto 4, 3) := by decide +kernel
theorem dX0_has_16 : decode cX0_has 16 = .ok (.iconst 0, 1) := by decide +kernel
theorem dX0_has_17 : decode cX0_has 17 = .ok (.ireturn, 1) := by decide +kernel
theorem dX0_addShow_0 : decode cX0_addShow 0 = .ok (.aload_n 0, 1) := by decide +kernel
theorem dX0_addShow_1 : decode cX0_addShow 1 = .ok (.iload_n 1, 1) := by decide +kernel
theorem dX0_addShow_2 : decode cX0_addShow 2 = .ok (.iload_n 2, 1) := by decide +kernel
theorem dX0_addShow_3 : decode cX0_addShow 3 = .ok (.iload_n 3, 1) := by decide +kernel
theorem dX0_addShow_4 : decode cX0_addShow 4 = .ok (.iconst 0, 1) := by decide +kernel
theorem dX0_addShow_5 : decode cX0_addShow 5 = .ok (.invokevirtual 32, 3) := by decide +kernel
theorem dX0_addShow_8 : decode cX0_addShow 8 = .ok (.ireturn, 1) := by decide +kernel
theorem dX0_addLoan_0 : decode cX0_addLoan 0 = .ok (.aload_n 0, 1) := by decide +kernel
theorem dX0_addLoan_1 : decode cX0_addLoan 1 = .ok (.iload_n 1, 1) := by decide +kernel
theorem dX0_addLoan_2 : decode cX0_addLoan 2 = .ok (.bipush (-4), 2) := by decide +kernel
theorem dX0_addLoan_4 : decode cX0_addLoan 4 = .ok (.iload_n 2, 1) := by decide +kernel
theorem dX0_addLoan_5 : decode cX0_addLoan 5 = .ok (.iload_n 3, 1) := by decide +kernel
theorem dX0_addLoan_6 : decode cX0_addLoan 6 = .ok (.invokevirtual 32, 3) := by decide +kernel
theorem dX0_addLoan_9 : decode cX0_addLoan 9 = .ok (.ireturn, 1) := by decide +kernel
theorem dX0_add_0 : decode cX0_add 0 = .ok (.aload_n 0, 1) := by decide +kernel
theorem dX0_add_1 : decode cX0_add 1 = .ok (.getfield 9, 3) := by decide +kernel
theorem dX0_add_4 : decode cX0_add 4 = .ok (.bipush 30, 2) := by decide +kernel
theorem dX0_add_6 : decode cX0_add 6 = .ok (.if_icmp .lt 6, 3) := by decide +kernel
theorem dX0_add_9 : decode cX0_add 9 = .ok (.bipush (-2), 2) := by decide +kernel
theorem dX0_add_11 : decode cX0_add 11 = .ok (.ireturn, 1) := by decide +kernel
theorem dX0_add_12 : decode cX0_add 12 = .ok (.aload_n 0, 1) := by decide +kernel
theorem dX0_add_13 : decode cX0_add 13 = .ok (.getfield 15, 3) := by decide +kernel
theorem dX0_add_16 : decode cX0_add 16 = .ok (.aload_n 0, 1) := by decide +kernel
theorem dX0_add_17 : decode cX0_add 17 = .ok (.getfield 9, 3) := by decide +kernel
theorem dX0_add_20 : decode cX0_add 20 = .ok (.iload_n 1, 1) := by decide +kernel
theorem dX0_add_21 : decode cX0_add 21 = .ok (.iastore, 1) := by decide +kernel
theorem dX0_add_22 : decode cX0_add 22 = .ok (.aload_n 0, 1) := by decide +kernel
theorem dX0_add_23 : decode cX0_add 23 = .ok (.getfield 19, 3) := by decide +kernel
theorem dX0_add_26 : decode cX0_add 26 = .ok (.aload_n 0, 1) := by decide +kernel
theorem dX0_add_27 : decode cX0_add 27 = .ok (.getfield 9, 3) := by decide +kernel
theorem dX0_add_30 : decode cX0_add 30 = .ok (.iload_n 2, 1) := by decide +kernel
theorem dX0_add_31 : decode cX0_add 31 = .ok (.iastore, 1) := by decide +kernel
theorem dX0_add_32 : decode cX0_add 32 = .ok (.aload_n 0, 1) := by decide +kernel
theorem dX0_add_33 : decode cX0_add 33 = .ok (.getfield 22, 3) := by decide +kernel
theorem dX0_add_36 : decode cX0_add 36 = .ok (.aload_n 0, 1) := by decide +kernel
theorem dX0_add_37 : decode cX0_add 37 = .ok (.getfield 9, 3) := by decide +kernel
theorem dX0_add_40 : decode cX0_add 40 = .ok (.iload_n 3, 1) := by decide +kernel
theorem dX0_add_41 : decode cX0_add 41 = .ok (.iastore, 1) := by decide +kernel
theorem dX0_add_42 : decode cX0_add 42 = .ok (.aload_n 0, 1) := by decide +kernel
theorem dX0_add_43 : decode cX0_add 43 = .ok (.getfield 25, 3) := by decide +kernel
theorem dX0_add_46 : decode cX0_add 46 = .ok (.aload_n 0, 1) := by decide +kernel
theorem dX0_add_47 : decode cX0_add 47 = .ok (.getfield 9, 3) := by decide +kernel
theorem dX0_add_50 : decode cX0_add 50 = .ok (.iload 4, 2) := by decide +kernel
theorem dX0_add_52 : decode cX0_add 52 = .ok (.iastore, 1) := by decide +kernel
theorem dX0_add_53 : decode cX0_add 53 = .ok (.aload_n 0, 1) := by decide +kernel
theorem dX0_add_54 : decode cX0_add 54 = .ok (.getfield 28, 3) := by decide +kernel
theorem dX0_add_57 : decode cX0_add 57 = .ok (.aload_n 0, 1) := by decide +kernel
theorem dX0_add_58 : decode cX0_add 58 = .ok (.getfield 9, 3) := by decide +kernel
theorem dX0_add_61 : decode cX0_add 61 = .ok (.iconst 0, 1) := by decide +kernel
theorem dX0_add_62 : decode cX0_add 62 = .ok (.bastore, 1) := by decide +kernel
theorem dX0_add_63 : decode cX0_add 63 = .ok (.aload_n 0, 1) := by decide +kernel
theorem dX0_add_64 : decode cX0_add 64 = .ok (.dup, 1) := by decide +kernel
theorem dX0_add_65 : decode cX0_add 65 = .ok (.getfield 9, 3) := by decide +kernel
theorem dX0_add_68 : decode cX0_add 68 = .ok (.iconst 1, 1) := by decide +kernel
theorem dX0_add_69 : decode cX0_add 69 = .ok (.iadd, 1) := by decide +kernel
theorem dX0_add_70 : decode cX0_add 70 = .ok (.putfield 9, 3) := by decide +kernel
theorem dX0_add_73 : decode cX0_add 73 = .ok (.aload_n 0, 1) := by decide +kernel
theorem dX0_add_74 : decode cX0_add 74 = .ok (.getfield 9, 3) := by decide +kernel
theorem dX0_add_77 : decode cX0_add 77 = .ok (.iconst 1, 1) := by decide +kernel
theorem dX0_add_78 : decode cX0_add 78 = .ok (.isub, 1) := by decide +kernel
theorem dX0_add_79 : decode cX0_add 79 = .ok (.ireturn, 1) := by decide +kernel
theorem dX0_isLoan_0 : decode cX0_isLoan 0 = .ok (.aload_n 0, 1) := by decide +kernel
theorem dX0_isLoan_1 : decode cX0_isLoan 1 = .ok (.getfield 19, 3) := by decide +kernel
theorem dX0_isLoan_4 : decode cX0_isLoan 4 = .ok (.iload_n 1, 1) := by decide +kernel
theorem dX0_isLoan_5 : decode cX0_isLoan 5 = .ok (.iaload, 1) := by decide +kernel
theorem dX0_isLoan_6 : decode cX0_isLoan 6 = .ok (.bipush (-4), 2) := by decide +kernel
theorem dX0_isLoan_8 : decode cX0_isLoan 8 = .ok (.if_icmp .ne 7, 3) := by decide +kernel
theorem dX0_isLoan_11 : decode cX0_isLoan 11 = .ok (.iconst 1, 1) := by decide +kernel
theorem dX0_isLoan_12 : decode cX0_isLoan 12 = .ok (.goto 4, 3) := by decide +kernel
theorem dX0_isLoan_15 : decode cX0_isLoan 15 = .ok (.iconst 0, 1) := by decide +kernel
theorem dX0_isLoan_16 : decode cX0_isLoan 16 = .ok (.ireturn, 1) := by decide +kernel
theorem dX0_standsFor_0 : decode cX0_standsFor 0 = .ok (.aload_n 0, 1) := by decide +kernel
theorem dX0_standsFor_1 : decode cX0_standsFor 1 = .ok (.getfield 15, 3) := by decide +kernel
theorem dX0_standsFor_4 : decode cX0_standsFor 4 = .ok (.iload_n 1, 1) := by decide +kernel
theorem dX0_standsFor_5 : decode cX0_standsFor 5 = .ok (.iaload, 1) := by decide +kernel
theorem dX0_standsFor_6 : decode cX0_standsFor 6 = .ok (.iload_n 2, 1) := by decide +kernel
theorem dX0_standsFor_7 : decode cX0_standsFor 7 = .ok (.if_icmp .ne 16, 3) := by decide +kernel
theorem dX0_standsFor_10 : decode cX0_standsFor 10 = .ok (.aload_n 0, 1) := by decide +kernel
theorem dX0_standsFor_11 : decode cX0_standsFor 11 = .ok (.getfield 28, 3) := by decide +kernel
theorem dX0_standsFor_14 : decode cX0_standsFor 14 = .ok (.iload_n 1, 1) := by decide +kernel
theorem dX0_standsFor_15 : decode cX0_standsFor 15 = .ok (.baload, 1) := by decide +kernel
theorem dX0_standsFor_16 : decode cX0_standsFor 16 = .ok (.ifCond .ne 7, 3) := by decide +kernel
theorem dX0_standsFor_19 : decode cX0_standsFor 19 = .ok (.iconst 1, 1) := by decide +kernel
theorem dX0_standsFor_20 : decode cX0_standsFor 20 = .ok (.goto 4, 3) := by decide +kernel
theorem dX0_standsFor_23 : decode cX0_standsFor 23 = .ok (.iconst 0, 1) := by decide +kernel
theorem dX0_standsFor_24 : decode cX0_standsFor 24 = .ok (.ireturn, 1) := by decide +kernel
theorem dX0_shownWithin_0 : decode cX0_shownWithin 0 = .ok (.iconst 0, 1) := by decide +kernel
theorem dX0_shownWithin_1 : decode cX0_shownWithin 1 = .ok (.istore 4, 2) := by decide +kernel
theorem dX0_shownWithin_3 : decode cX0_shownWithin 3 = .ok (.iload 4, 2) := by decide +kernel
theorem dX0_shownWithin_5 : decode cX0_shownWithin 5 = .ok (.aload_n 0, 1) := by decide +kernel
theorem dX0_shownWithin_6 : decode cX0_shownWithin 6 = .ok (.getfield 9, 3) := by decide +kernel
theorem dX0_shownWithin_9 : decode cX0_shownWithin 9 = .ok (.if_icmp .ge 46, 3) := by decide +kernel
theorem dX0_shownWithin_12 : decode cX0_shownWithin 12 = .ok (.aload_n 0, 1) := by decide +kernel
theorem dX0_shownWithin_13 : decode cX0_shownWithin 13 = .ok (.iload 4, 2) := by decide +kernel
theorem dX0_shownWithin_15 : decode cX0_shownWithin 15 = .ok (.iload_n 1, 1) := by decide +kernel
theorem dX0_shownWithin_16 : decode cX0_shownWithin 16 = .ok (.invokevirtual 36, 3) := by decide +kernel
theorem dX0_shownWithin_19 : decode cX0_shownWithin 19 = .ok (.ifCond .eq 30, 3) := by decide +kernel
theorem dX0_shownWithin_22 : decode cX0_shownWithin 22 = .ok (.aload_n 0, 1) := by decide +kernel
theorem dX0_shownWithin_23 : decode cX0_shownWithin 23 = .ok (.iload 4, 2) := by decide +kernel
theorem dX0_shownWithin_25 : decode cX0_shownWithin 25 = .ok (.invokevirtual 40, 3) := by decide +kernel
theorem dX0_shownWithin_28 : decode cX0_shownWithin 28 = .ok (.ifCond .ne 21, 3) := by decide +kernel
theorem dX0_shownWithin_31 : decode cX0_shownWithin 31 = .ok (.aload_n 0, 1) := by decide +kernel
theorem dX0_shownWithin_32 : decode cX0_shownWithin 32 = .ok (.getfield 22, 3) := by decide +kernel
theorem dX0_shownWithin_35 : decode cX0_shownWithin 35 = .ok (.iload 4, 2) := by decide +kernel
theorem dX0_shownWithin_37 : decode cX0_shownWithin 37 = .ok (.iaload, 1) := by decide +kernel
theorem dX0_shownWithin_38 : decode cX0_shownWithin 38 = .ok (.iload_n 2, 1) := by decide +kernel
theorem dX0_shownWithin_39 : decode cX0_shownWithin 39 = .ok (.isub, 1) := by decide +kernel
theorem dX0_shownWithin_40 : decode cX0_shownWithin 40 = .ok (.invokestatic 44, 3) := by decide +kernel
theorem dX0_shownWithin_43 : decode cX0_shownWithin 43 = .ok (.iload_n 3, 1) := by decide +kernel
theorem dX0_shownWithin_44 : decode cX0_shownWithin 44 = .ok (.if_icmp .gt 5, 3) := by decide +kernel
theorem dX0_shownWithin_47 : decode cX0_shownWithin 47 = .ok (.iconst 1, 1) := by decide +kernel
theorem dX0_shownWithin_48 : decode cX0_shownWithin 48 = .ok (.ireturn, 1) := by decide +kernel
theorem dX0_shownWithin_49 : decode cX0_shownWithin 49 = .ok (.iinc 4 1, 3) := by decide +kernel
theorem dX0_shownWithin_52 : decode cX0_shownWithin 52 = .ok (.goto (-49), 3) := by decide +kernel
theorem dX0_shownWithin_55 : decode cX0_shownWithin 55 = .ok (.iconst 0, 1) := by decide +kernel
theorem dX0_shownWithin_56 : decode cX0_shownWithin 56 = .ok (.ireturn, 1) := by decide +kernel
theorem dX0_countOf_0 : decode cX0_countOf 0 = .ok (.iconst 0, 1) := by decide +kernel
theorem dX0_countOf_1 : decode cX0_countOf 1 = .ok (.istore_n 2, 1) := by decide +kernel
theorem dX0_countOf_2 : decode cX0_countOf 2 = .ok (.iconst 0, 1) := by decide +kernel
theorem dX0_countOf_3 : decode cX0_countOf 3 = .ok (.istore_n 3, 1) := by decide +kernel
theorem dX0_countOf_4 : decode cX0_countOf 4 = .ok (.iload_n 3, 1) := by decide +kernel
theorem dX0_countOf_5 : decode cX0_countOf 5 = .ok (.aload_n 0, 1) := by decide +kernel
theorem dX0_countOf_6 : decode cX0_countOf 6 = .ok (.getfield 9, 3) := by decide +kernel
theorem dX0_countOf_9 : decode cX0_countOf 9 = .ok (.if_icmp .ge 21, 3) := by decide +kernel
theorem dX0_countOf_12 : decode cX0_countOf 12 = .ok (.aload_n 0, 1) := by decide +kernel
theorem dX0_countOf_13 : decode cX0_countOf 13 = .ok (.iload_n 3, 1) := by decide +kernel
theorem dX0_countOf_14 : decode cX0_countOf 14 = .ok (.iload_n 1, 1) := by decide +kernel
theorem dX0_countOf_15 : decode cX0_countOf 15 = .ok (.invokevirtual 36, 3) := by decide +kernel
theorem dX0_countOf_18 : decode cX0_countOf 18 = .ok (.ifCond .eq 6, 3) := by decide +kernel
theorem dX0_countOf_21 : decode cX0_countOf 21 = .ok (.iinc 2 1, 3) := by decide +kernel
theorem dX0_countOf_24 : decode cX0_countOf 24 = .ok (.iinc 3 1, 3) := by decide +kernel
theorem dX0_countOf_27 : decode cX0_countOf 27 = .ok (.goto (-23), 3) := by decide +kernel
theorem dX0_countOf_30 : decode cX0_countOf 30 = .ok (.iload_n 2, 1) := by decide +kernel
theorem dX0_countOf_31 : decode cX0_countOf 31 = .ok (.ireturn, 1) := by decide +kernel
theorem dX0_countCancelled_0 : decode cX0_countCancelled 0 = .ok (.iconst 0, 1) := by decide +kernel
theorem dX0_countCancelled_1 : decode cX0_countCancelled 1 = .ok (.istore_n 1, 1) := by decide +kernel
theorem dX0_countCancelled_2 : decode cX0_countCancelled 2 = .ok (.iconst 0, 1) := by decide +kernel
theorem dX0_countCancelled_3 : decode cX0_countCancelled 3 = .ok (.istore_n 2, 1) := by decide +kernel
theorem dX0_countCancelled_4 : decode cX0_countCancelled 4 = .ok (.iload_n 2, 1) := by decide +kernel
theorem dX0_countCancelled_5 : decode cX0_countCancelled 5 = .ok (.aload_n 0, 1) := by decide +kernel
theorem dX0_countCancelled_6 : decode cX0_countCancelled 6 = .ok (.getfield 9, 3) := by decide +kernel
theorem dX0_countCancelled_9 : decode cX0_countCancelled 9 = .ok (.if_icmp .ge 21, 3) := by decide +kernel
theorem dX0_countCancelled_12 : decode cX0_countCancelled 12 = .ok (.aload_n 0, 1) := by decide +kernel
theorem dX0_countCancelled_13 : decode cX0_countCancelled 13 = .ok (.getfield 28, 3) := by decide +kernel
theorem dX0_countCancelled_16 : decode cX0_countCancelled 16 = .ok (.iload_n 2, 1) := by decide +kernel
theorem dX0_countCancelled_17 : decode cX0_countCancelled 17 = .ok (.baload, 1) := by decide +kernel
theorem dX0_countCancelled_18 : decode cX0_countCancelled 18 = .ok (.ifCond .eq 6, 3) := by decide +kernel
theorem dX0_countCancelled_21 : decode cX0_countCancelled 21 = .ok (.iinc 1 1, 3) := by decide +kernel
theorem dX0_countCancelled_24 : decode cX0_countCancelled 24 = .ok (.iinc 2 1, 3) := by decide +kernel
theorem dX0_countCancelled_27 : decode cX0_countCancelled 27 = .ok (.goto (-23), 3) := by decide +kernel
theorem dX0_countCancelled_30 : decode cX0_countCancelled 30 = .ok (.iload_n 1, 1) := by decide +kernel
theorem dX0_countCancelled_31 : decode cX0_countCancelled 31 = .ok (.ireturn, 1) := by decide +kernel
theorem dX0_copyFrom_0 : decode cX0_copyFrom 0 = .ok (.aload_n 0, 1) := by decide +kernel
theorem dX0_copyFrom_1 : decode cX0_copyFrom 1 = .ok (.aload_n 1, 1) := by decide +kernel
theorem dX0_copyFrom_2 : decode cX0_copyFrom 2 = .ok (.getfield 9, 3) := by decide +kernel
theorem dX0_copyFrom_5 : decode cX0_copyFrom 5 = .ok (.putfield 9, 3) := by decide +kernel
theorem dX0_copyFrom_8 : decode cX0_copyFrom 8 = .ok (.aload_n 1, 1) := by decide +kernel
theorem dX0_copyFrom_9 : decode cX0_copyFrom 9 = .ok (.getfield 15, 3) := by decide +kernel
theorem dX0_copyFrom_12 : decode cX0_copyFrom 12 = .ok (.aload_n 0, 1) := by decide +kernel
theorem dX0_copyFrom_13 : decode cX0_copyFrom 13 = .ok (.getfield 15, 3) := by decide +kernel
theorem dX0_copyFrom_16 : decode cX0_copyFrom 16 = .ok (.invokestatic 50, 3) := by decide +kernel
theorem dX0_copyFrom_19 : decode cX0_copyFrom 19 = .ok (.aload_n 1, 1) := by decide +kernel
theorem dX0_copyFrom_20 : decode cX0_copyFrom 20 = .ok (.getfield 19, 3) := by decide +kernel
theorem dX0_copyFrom_23 : decode cX0_copyFrom 23 = .ok (.aload_n 0, 1) := by decide +kernel
theorem dX0_copyFrom_24 : decode cX0_copyFrom 24 = .ok (.getfield 19, 3) := by decide +kernel
theorem dX0_copyFrom_27 : decode cX0_copyFrom 27 = .ok (.invokestatic 50, 3) := by decide +kernel
theorem dX0_copyFrom_30 : decode cX0_copyFrom 30 = .ok (.aload_n 1, 1) := by decide +kernel
theorem dX0_copyFrom_31 : decode cX0_copyFrom 31 = .ok (.getfield 22, 3) := by decide +kernel
theorem dX0_copyFrom_34 : decode cX0_copyFrom 34 = .ok (.aload_n 0, 1) := by decide +kernel
theorem dX0_copyFrom_35 : decode cX0_copyFrom 35 = .ok (.getfield 22, 3) := by decide +kernel
theorem dX0_copyFrom_38 : decode cX0_copyFrom 38 = .ok (.invokestatic 50, 3) := by decide +kernel
theorem dX0_copyFrom_41 : decode cX0_copyFrom 41 = .ok (.aload_n 1, 1) := by decide +kernel
theorem dX0_copyFrom_42 : decode cX0_copyFrom 42 = .ok (.getfield 25, 3) := by decide +kernel
theorem dX0_copyFrom_45 : decode cX0_copyFrom 45 = .ok (.aload_n 0, 1) := by decide +kernel
theorem dX0_copyFrom_46 : decode cX0_copyFrom 46 = .ok (.getfield 25, 3) := by decide +kernel
theorem dX0_copyFrom_49 : decode cX0_copyFrom 49 = .ok (.invokestatic 50, 3) := by decide +kernel
theorem dX0_copyFrom_52 : decode cX0_copyFrom 52 = .ok (.iconst 0, 1) := by decide +kernel
theorem dX0_copyFrom_53 : decode cX0_copyFrom 53 = .ok (.istore_n 2, 1) := by decide +kernel
theorem dX0_copyFrom_54 : decode cX0_copyFrom 54 = .ok (.iload_n 2, 1) := by decide +kernel
theorem dX0_copyFrom_55 : decode cX0_copyFrom 55 = .ok (.bipush 30, 2) := by decide +kernel
theorem dX0_copyFrom_57 : decode cX0_copyFrom 57 = .ok (.if_icmp .ge 21, 3) := by decide +kernel
theorem dX0_copyFrom_60 : decode cX0_copyFrom 60 = .ok (.aload_n 0, 1) := by decide +kernel
theorem dX0_copyFrom_61 : decode cX0_copyFrom 61 = .ok (.getfield 28, 3) := by decide +kernel
theorem dX0_copyFrom_64 : decode cX0_copyFrom 64 = .ok (.iload_n 2, 1) := by decide +kernel
theorem dX0_copyFrom_65 : decode cX0_copyFrom 65 = .ok (.aload_n 1, 1) := by decide +kernel
theorem dX0_copyFrom_66 : decode cX0_copyFrom 66 = .ok (.getfield 28, 3) := by decide +kernel
theorem dX0_copyFrom_69 : decode cX0_copyFrom 69 = .ok (.iload_n 2, 1) := by decide +kernel
theorem dX0_copyFrom_70 : decode cX0_copyFrom 70 = .ok (.baload, 1) := by decide +kernel
theorem dX0_copyFrom_71 : decode cX0_copyFrom 71 = .ok (.bastore, 1) := by decide +kernel
theorem dX0_copyFrom_72 : decode cX0_copyFrom 72 = .ok (.iinc 2 1, 3) := by decide +kernel
theorem dX0_copyFrom_75 : decode cX0_copyFrom 75 = .ok (.goto (-21), 3) := by decide +kernel
theorem dX0_copyFrom_78 : decode cX0_copyFrom 78 = .ok (.return_, 1) := by decide +kernel
theorem dX1_init_0 : decode cX1_init 0 = .ok (.aload_n 0, 1) := by decide +kernel
theorem dX1_init_1 : decode cX1_init 1 = .ok (.invokespecial 3, 3) := by decide +kernel
theorem dX1_init_4 : decode cX1_init 4 = .ok (.aload_n 0, 1) := by decide +kernel
theorem dX1_init_5 : decode cX1_init 5 = .ok (.iconst 0, 1) := by decide +kernel
theorem dX1_init_6 : decode cX1_init 6 = .ok (.putfield 9, 3) := by decide +kernel
theorem dX1_init_9 : decode cX1_init 9 = .ok (.aload_n 0, 1) := by decide +kernel
theorem dX1_init_10 : decode cX1_init 10 = .ok (.iconst 5, 1) := by decide +kernel
theorem dX1_init_11 : decode cX1_init 11 = .ok (.newarray .int, 2) := by decide +kernel
theorem dX1_init_13 : decode cX1_init 13 = .ok (.putfield 15, 3) := by decide +kernel
theorem dX1_init_16 : decode cX1_init 16 = .ok (.aload_n 0, 1) := by decide +kernel
theorem dX1_init_17 : decode cX1_init 17 = .ok (.iconst 0, 1) := by decide +kernel
theorem dX1_init_18 : decode cX1_init 18 = .ok (.putfield 19, 3) := by decide +kernel
theorem dX1_init_21 : decode cX1_init 21 = .ok (.aload_n 0, 1) := by decide +kernel
theorem dX1_init_22 : decode cX1_init 22 = .ok (.iconst 5, 1) := by decide +kernel
theorem dX1_init_23 : decode cX1_init 23 = .ok (.newarray .int, 2) := by decide +kernel
theorem dX1_init_25 : decode cX1_init 25 = .ok (.putfield 23, 3) := by decide +kernel
theorem dX1_init_28 : decode cX1_init 28 = .ok (.aload_n 0, 1) := by decide +kernel
theorem dX1_init_29 : decode cX1_init 29 = .ok (.iconst 5, 1) := by decide +kernel
theorem dX1_init_30 : decode cX1_init 30 = .ok (.newarray .int, 2) := by decide +kernel
theorem dX1_init_32 : decode cX1_init 32 = .ok (.putfield 26, 3) := by decide +kernel
theorem dX1_init_35 : decode cX1_init 35 = .ok (.aload_n 0, 1) := by decide +kernel
theorem dX1_init_36 : decode cX1_init 36 = .ok (.iconst 5, 1) := by decide +kernel
theorem dX1_init_37 : decode cX1_init 37 = .ok (.newarray .int, 2) := by decide +kernel
theorem dX1_init_39 : decode cX1_init 39 = .ok (.putfield 29, 3) := by decide +kernel
theorem dX1_init_42 : decode cX1_init 42 = .ok (.aload_n 0, 1) := by decide +kernel
theorem dX1_init_43 : decode cX1_init 43 = .ok (.bipush 6, 2) := by decide +kernel
theorem dX1_init_45 : decode cX1_init 45 = .ok (.newarray .int, 2) := by decide +kernel
theorem dX1_init_47 : decode cX1_init 47 = .ok (.putfield 32, 3) := by decide +kernel
theorem dX1_init_50 : decode cX1_init 50 = .ok (.aload_n 0, 1) := by decide +kernel
theorem dX1_init_51 : decode cX1_init 51 = .ok (.bipush 8, 2) := by decide +kernel
theorem dX1_init_53 : decode cX1_init 53 = .ok (.newarray .int, 2) := by decide +kernel
theorem dX1_init_55 : decode cX1_init 55 = .ok (.putfield 35, 3) := by decide +kernel
theorem dX1_init_58 : decode cX1_init 58 = .ok (.aload_n 0, 1) := by decide +kernel
theorem dX1_init_59 : decode cX1_init 59 = .ok (.aload_n 1, 1) := by decide +kernel
theorem dX1_init_60 : decode cX1_init 60 = .ok (.putfield 38, 3) := by decide +kernel
theorem dX1_init_63 : decode cX1_init 63 = .ok (.aload_n 0, 1) := by decide +kernel
theorem dX1_init_64 : decode cX1_init 64 = .ok (.aload_n 2, 1) := by decide +kernel
theorem dX1_init_65 : decode cX1_init 65 = .ok (.putfield 42, 3) := by decide +kernel
theorem dX1_init_68 : decode cX1_init 68 = .ok (.return_, 1) := by decide +kernel
theorem dX1_forget_0 : decode cX1_forget 0 = .ok (.aload_n 0, 1) := by decide +kernel
theorem dX1_forget_1 : decode cX1_forget 1 = .ok (.iconst 0, 1) := by decide +kernel
theorem dX1_forget_2 : decode cX1_forget 2 = .ok (.putfield 9, 3) := by decide +kernel
theorem dX1_forget_5 : decode cX1_forget 5 = .ok (.return_, 1) := by decide +kernel
theorem dX1_find_0 : decode cX1_find 0 = .ok (.aload_n 0, 1) := by decide +kernel
theorem dX1_find_1 : decode cX1_find 1 = .ok (.getfield 9, 3) := by decide +kernel
theorem dX1_find_4 : decode cX1_find 4 = .ok (.ifCond .eq 4, 3) := by decide +kernel
theorem dX1_find_7 : decode cX1_find 7 = .ok (.return_, 1) := by decide +kernel
theorem dX1_find_8 : decode cX1_find 8 = .ok (.aload_n 0, 1) := by decide +kernel
theorem dX1_find_9 : decode cX1_find 9 = .ok (.invokevirtual 46, 3) := by decide +kernel
theorem dX1_find_12 : decode cX1_find 12 = .ok (.aload_n 0, 1) := by decide +kernel
theorem dX1_find_13 : decode cX1_find 13 = .ok (.getfield 38, 3) := by decide +kernel
theorem dX1_find_16 : decode cX1_find 16 = .ok (.getfield 49, 3) := by decide +kernel
theorem dX1_find_19 : decode cX1_find 19 = .ok (.getfield 55, 3) := by decide +kernel
theorem dX1_find_22 : decode cX1_find 22 = .ok (.istore_n 1, 1) := by decide +kernel
theorem dX1_find_23 : decode cX1_find 23 = .ok (.aload_n 0, 1) := by decide +kernel
theorem dX1_find_24 : decode cX1_find 24 = .ok (.iconst 0, 1) := by decide +kernel
theorem dX1_find_25 : decode cX1_find 25 = .ok (.putfield 19, 3) := by decide +kernel
theorem dX1_find_28 : decode cX1_find 28 = .ok (.aload_n 0, 1) := by decide +kernel
theorem dX1_find_29 : decode cX1_find 29 = .ok (.getfield 32, 3) := by decide +kernel
theorem dX1_find_32 : decode cX1_find 32 = .ok (.iload_n 1, 1) := by decide +kernel
theorem dX1_find_33 : decode cX1_find 33 = .ok (.iconst 0, 1) := by decide +kernel
theorem dX1_find_34 : decode cX1_find 34 = .ok (.iastore, 1) := by decide +kernel
theorem dX1_find_35 : decode cX1_find 35 = .ok (.iload_n 1, 1) := by decide +kernel
theorem dX1_find_36 : decode cX1_find 36 = .ok (.iconst 1, 1) := by decide +kernel
theorem dX1_find_37 : decode cX1_find 37 = .ok (.isub, 1) := by decide +kernel
theorem dX1_find_38 : decode cX1_find 38 = .ok (.istore_n 2, 1) := by decide +kernel
theorem dX1_find_39 : decode cX1_find 39 = .ok (.iload_n 2, 1) := by decide +kernel
theorem dX1_find_40 : decode cX1_find 40 = .ok (.ifCond .lt 47, 3) := by decide +kernel
theorem dX1_find_43 : decode cX1_find 43 = .ok (.aload_n 0, 1) := by decide +kernel
theorem dX1_find_44 : decode cX1_find 44 = .ok (.iconst (-1), 1) := by decide +kernel
theorem dX1_find_45 : decode cX1_find 45 = .ok (.putfield 19, 3) := by decide +kernel
theorem dX1_find_48 : decode cX1_find 48 = .ok (.aload_n 0, 1) := by decide +kernel
theorem dX1_find_49 : decode cX1_find 49 = .ok (.getfield 32, 3) := by decide +kernel
theorem dX1_find_52 : decode cX1_find 52 = .ok (.iload_n 2, 1) := by decide +kernel
theorem dX1_find_53 : decode cX1_find 53 = .ok (.aload_n 0, 1) := by decide +kernel
theorem dX1_find_54 : decode cX1_find 54 = .ok (.getfield 32, 3) := by decide +kernel
theorem dX1_find_57 : decode cX1_find 57 = .ok (.iload_n 2, 1) := by decide +kernel
theorem dX1_find_58 : decode cX1_find 58 = .ok (.iconst 1, 1) := by decide +kernel
theorem dX1_find_59 : decode cX1_find 59 = .ok (.iadd, 1) := by decide +kernel
theorem dX1_find_60 : decode cX1_find 60 = .ok (.iaload, 1) := by decide +kernel
theorem dX1_find_61 : decode cX1_find 61 = .ok (.bipush 9, 2) := by decide +kernel
theorem dX1_find_63 : decode cX1_find 63 = .ok (.iadd, 1) := by decide +kernel
theorem dX1_find_64 : decode cX1_find 64 = .ok (.iastore, 1) := by decide +kernel
theorem dX1_find_65 : decode cX1_find 65 = .ok (.aload_n 0, 1) := by decide +kernel
theorem dX1_find_66 : decode cX1_find 66 = .ok (.iload_n 2, 1) := by decide +kernel
theorem dX1_find_67 : decode cX1_find 67 = .ok (.iconst 0, 1) := by decide +kernel
theorem dX1_find_68 : decode cX1_find 68 = .ok (.invokestatic 60, 3) := by decide +kernel
theorem dX1_find_71 : decode cX1_find 71 = .ok (.aload_n 0, 1) := by decide +kernel
theorem dX1_find_72 : decode cX1_find 72 = .ok (.getfield 32, 3) := by decide +kernel
theorem dX1_find_75 : decode cX1_find 75 = .ok (.iload_n 2, 1) := by decide +kernel
theorem dX1_find_76 : decode cX1_find 76 = .ok (.aload_n 0, 1) := by decide +kernel
theorem dX1_find_77 : decode cX1_find 77 = .ok (.getfield 19, 3) := by decide +kernel
theorem dX1_find_80 : decode cX1_find 80 = .ok (.iastore, 1) := by decide +kernel
theorem dX1_find_81 : decode cX1_find 81 = .ok (.iinc 2 (-1), 3) := by decide +kernel
theorem dX1_find_84 : decode cX1_find 84 = .ok (.goto (-45), 3) := by decide +kernel
theorem dX1_find_87 : decode cX1_find 87 = .ok (.aload_n 0, 1) := by decide +kernel
theorem dX1_find_88 : decode cX1_find 88 = .ok (.iconst 1, 1) := by decide +kernel
theorem dX1_find_89 : decode cX1_find 89 = .ok (.putfield 9, 3) := by decide +kernel
theorem dX1_find_92 : decode cX1_find 92 = .ok (.return_, 1) := by decide +kernel
theorem dX1_prepare_0 : decode cX1_prepare 0 = .ok (.iconst 0, 1) := by decide +kernel
theorem dX1_prepare_1 : decode cX1_prepare 1 = .ok (.istore_n 1, 1) := by decide +kernel
theorem dX1_prepare_2 : decode cX1_prepare 2 = .ok (.iload_n 1, 1) := by decide +kernel
theorem dX1_prepare_3 : decode cX1_prepare 3 = .ok (.aload_n 0, 1) := by decide +kernel
theorem dX1_prepare_4 : decode cX1_prepare 4 = .ok (.getfield 38, 3) := by decide +kernel
theorem dX1_prepare_7 : decode cX1_prepare 7 = .ok (.getfield 64, 3) := by decide +kernel
theorem dX1_prepare_10 : decode cX1_prepare 10 = .ok (.getfield 68, 3) := by decide +kernel
theorem dX1_prepare_13 : decode cX1_prepare 13 = .ok (.if_icmp .ge 27, 3) := by decide +kernel
theorem dX1_prepare_16 : decode cX1_prepare 16 = .ok (.aload_n 0, 1) := by decide +kernel
theorem dX1_prepare_17 : decode cX1_prepare 17 = .ok (.getfield 35, 3) := by decide +kernel
theorem dX1_prepare_20 : decode cX1_prepare 20 = .ok (.iload_n 1, 1) := by decide +kernel
theorem dX1_prepare_21 : decode cX1_prepare 21 = .ok (.aload_n 0, 1) := by decide +kernel
theorem dX1_prepare_22 : decode cX1_prepare 22 = .ok (.getfield 42, 3) := by decide +kernel
theorem dX1_prepare_25 : decode cX1_prepare 25 = .ok (.iload_n 1, 1) := by decide +kernel
theorem dX1_prepare_26 : decode cX1_prepare 26 = .ok (.invokevirtual 71, 3) := by decide +kernel
theorem dX1_prepare_29 : decode cX1_prepare 29 = .ok (.iconst 0, 1) := by decide +kernel
theorem dX1_prepare_30 : decode cX1_prepare 30 = .ok (.invokevirtual 77, 3) := by decide +kernel
theorem dX1_prepare_33 : decode cX1_prepare 33 = .ok (.iastore, 1) := by decide +kernel
theorem dX1_prepare_34 : decode cX1_prepare 34 = .ok (.iinc 1 1, 3) := by decide +kernel
theorem dX1_prepare_37 : decode cX1_prepare 37 = .ok (.goto (-35), 3) := by decide +kernel
theorem dX1_prepare_40 : decode cX1_prepare 40 = .ok (.iconst 0, 1) := by decide +kernel
theorem dX1_prepare_41 : decode cX1_prepare 41 = .ok (.istore_n 1, 1) := by decide +kernel
theorem dX1_prepare_42 : decode cX1_prepare 42 = .ok (.iload_n 1, 1) := by decide +kernel
theorem dX1_prepare_43 : decode cX1_prepare 43 = .ok (.aload_n 0, 1) := by decide +kernel
theorem dX1_prepare_44 : decode cX1_prepare 44 = .ok (.getfield 38, 3) := by decide +kernel
theorem dX1_prepare_47 : decode cX1_prepare 47 = .ok (.getfield 49, 3) := by decide +kernel
theorem dX1_prepare_50 : decode cX1_prepare 50 = .ok (.getfield 55, 3) := by decide +kernel
theorem dX1_prepare_53 : decode cX1_prepare 53 = .ok (.if_icmp .ge 69, 3) := by decide +kernel
theorem dX1_prepare_56 : decode cX1_prepare 56 = .ok (.aload_n 0, 1) := by decide +kernel
theorem dX1_prepare_57 : decode cX1_prepare 57 = .ok (.getfield 23, 3) := by decide +kernel
theorem dX1_prepare_60 : decode cX1_prepare 60 = .ok (.iload_n 1, 1) := by decide +kernel
theorem dX1_prepare_61 : decode cX1_prepare 61 = .ok (.bipush (-4), 2) := by decide +kernel
theorem dX1_prepare_63 : decode cX1_prepare 63 = .ok (.iastore, 1) := by decide +kernel
theorem dX1_prepare_64 : decode cX1_prepare 64 = .ok (.aload_n 0, 1) := by decide +kernel
theorem dX1_prepare_65 : decode cX1_prepare 65 = .ok (.getfield 29, 3) := by decide +kernel
theorem dX1_prepare_68 : decode cX1_prepare 68 = .ok (.iload_n 1, 1) := by decide +kernel
theorem dX1_prepare_69 : decode cX1_prepare 69 = .ok (.aload_n 0, 1) := by decide +kernel
theorem dX1_prepare_70 : decode cX1_prepare 70 = .ok (.getfield 38, 3) := by decide +kernel
theorem dX1_prepare_73 : decode cX1_prepare 73 = .ok (.getfield 81, 3) := by decide +kernel
theorem dX1_prepare_76 : decode cX1_prepare 76 = .ok (.aload_n 0, 1) := by decide +kernel
theorem dX1_prepare_77 : decode cX1_prepare 77 = .ok (.getfield 38, 3) := by decide +kernel
theorem dX1_prepare_80 : decode cX1_prepare 80 = .ok (.getfield 49, 3) := by decide +kernel
theorem dX1_prepare_83 : decode cX1_prepare 83 = .ok (.getfield 85, 3) := by decide +kernel
theorem dX1_prepare_86 : decode cX1_prepare 86 = .ok (.iload_n 1, 1) := by decide +kernel
theorem dX1_prepare_87 : decode cX1_prepare 87 = .ok (.iaload, 1) := by decide +kernel
theorem dX1_prepare_88 : decode cX1_prepare 88 = .ok (.aload_n 0, 1) := by decide +kernel
theorem dX1_prepare_89 : decode cX1_prepare 89 = .ok (.getfield 38, 3) := by decide +kernel
theorem dX1_prepare_92 : decode cX1_prepare 92 = .ok (.getfield 49, 3) := by decide +kernel
theorem dX1_prepare_95 : decode cX1_prepare 95 = .ok (.getfield 88, 3) := by decide +kernel
theorem dX1_prepare_98 : decode cX1_prepare 98 = .ok (.iload_n 1, 1) := by decide +kernel
theorem dX1_prepare_99 : decode cX1_prepare 99 = .ok (.iaload, 1) := by decide +kernel
theorem dX1_prepare_100 : decode cX1_prepare 100 = .ok (.iconst 1, 1) := by decide +kernel
theorem dX1_prepare_101 : decode cX1_prepare 101 = .ok (.invokevirtual 91, 3) := by decide +kernel
theorem dX1_prepare_104 : decode cX1_prepare 104 = .ok (.iastore, 1) := by decide +kernel
theorem dX1_prepare_105 : decode cX1_prepare 105 = .ok (.aload_n 0, 1) := by decide +kernel
theorem dX1_prepare_106 : decode cX1_prepare 106 = .ok (.getfield 26, 3) := by decide +kernel
theorem dX1_prepare_109 : decode cX1_prepare 109 = .ok (.iload_n 1, 1) := by decide +kernel
theorem dX1_prepare_110 : decode cX1_prepare 110 = .ok (.aload_n 0, 1) := by decide +kernel
theorem dX1_prepare_111 : decode cX1_prepare 111 = .ok (.iload_n 1, 1) := by decide +kernel
theorem dX1_prepare_112 : decode cX1_prepare 112 = .ok (.invokevirtual 97, 3) := by decide +kernel
theorem dX1_prepare_115 : decode cX1_prepare 115 = .ok (.iastore, 1) := by decide +kernel
theorem dX1_prepare_116 : decode cX1_prepare 116 = .ok (.iinc 1 1, 3) := by decide +kernel
theorem dX1_prepare_119 : decode cX1_prepare 119 = .ok (.goto (-77), 3) := by decide +kernel
theorem dX1_prepare_122 : decode cX1_prepare 122 = .ok (.return_, 1) := by decide +kernel
theorem dX1_sheetsFor_0 : decode cX1_sheetsFor 0 = .ok (.iconst 0, 1) := by decide +kernel
theorem dX1_sheetsFor_1 : decode cX1_sheetsFor 1 = .ok (.istore_n 2, 1) := by decide +kernel
theorem dX1_sheetsFor_2 : decode cX1_sheetsFor 2 = .ok (.iconst 0, 1) := by decide +kernel
theorem dX1_sheetsFor_3 : decode cX1_sheetsFor 3 = .ok (.istore_n 3, 1) := by decide +kernel
theorem dX1_sheetsFor_4 : decode cX1_sheetsFor 4 = .ok (.iload_n 3, 1) := by decide +kernel
theorem dX1_sheetsFor_5 : decode cX1_sheetsFor 5 = .ok (.aload_n 0, 1) := by decide +kernel
theorem dX1_sheetsFor_6 : decode cX1_sheetsFor 6 = .ok (.getfield 38, 3) := by decide +kernel
theorem dX1_sheetsFor_9 : decode cX1_sheetsFor 9 = .ok (.getfield 64, 3) := by decide +kernel
theorem dX1_sheetsFor_12 : decode cX1_sheetsFor 12 = .ok (.getfield 68, 3) := by decide +kernel
theorem dX1_sheetsFor_15 : decode cX1_sheetsFor 15 = .ok (.if_icmp .ge 65, 3) := by decide +kernel
theorem dX1_sheetsFor_18 : decode cX1_sheetsFor 18 = .ok (.aload_n 0, 1) := by decide +kernel
theorem dX1_sheetsFor_19 : decode cX1_sheetsFor 19 = .ok (.getfield 38, 3) := by decide +kernel
theorem dX1_sheetsFor_22 : decode cX1_sheetsFor 22 = .ok (.getfield 64, 3) := by decide +kernel
theorem dX1_sheetsFor_25 : decode cX1_sheetsFor 25 = .ok (.iload_n 3, 1) := by decide +kernel
theorem dX1_sheetsFor_26 : decode cX1_sheetsFor 26 = .ok (.aload_n 0, 1) := by decide +kernel
theorem dX1_sheetsFor_27 : decode cX1_sheetsFor 27 = .ok (.getfield 38, 3) := by decide +kernel
theorem dX1_sheetsFor_30 : decode cX1_sheetsFor 30 = .ok (.getfield 49, 3) := by decide +kernel
theorem dX1_sheetsFor_33 : decode cX1_sheetsFor 33 = .ok (.getfield 101, 3) := by decide +kernel
theorem dX1_sheetsFor_36 : decode cX1_sheetsFor 36 = .ok (.iload_n 1, 1) := by decide +kernel
theorem dX1_sheetsFor_37 : decode cX1_sheetsFor 37 = .ok (.iaload, 1) := by decide +kernel
theorem dX1_sheetsFor_38 : decode cX1_sheetsFor 38 = .ok (.invokevirtual 104, 3) := by decide +kernel
theorem dX1_sheetsFor_41 : decode cX1_sheetsFor 41 = .ok (.istore 4, 2) := by decide +kernel
theorem dX1_sheetsFor_43 : decode cX1_sheetsFor 43 = .ok (.iload 4, 2) := by decide +kernel
theorem dX1_sheetsFor_45 : decode cX1_sheetsFor 45 = .ok (.ifCond .eq 29, 3) := by decide +kernel
theorem dX1_sheetsFor_48 : decode cX1_sheetsFor 48 = .ok (.aload_n 0, 1) := by decide +kernel
theorem dX1_sheetsFor_49 : decode cX1_sheetsFor 49 = .ok (.iload_n 3, 1) := by decide +kernel
theorem dX1_sheetsFor_50 : decode cX1_sheetsFor 50 = .ok (.aload_n 0, 1) := by decide +kernel
theorem dX1_sheetsFor_51 : decode cX1_sheetsFor 51 = .ok (.getfield 38, 3) := by decide +kernel
theorem dX1_sheetsFor_54 : decode cX1_sheetsFor 54 = .ok (.getfield 49, 3) := by decide +kernel
theorem dX1_sheetsFor_57 : decode cX1_sheetsFor 57 = .ok (.getfield 88, 3) := by decide +kernel
theorem dX1_sheetsFor_60 : decode cX1_sheetsFor 60 = .ok (.iload_n 1, 1) := by decide +kernel
theorem dX1_sheetsFor_61 : decode cX1_sheetsFor 61 = .ok (.iaload, 1) := by decide +kernel
theorem dX1_sheetsFor_62 : decode cX1_sheetsFor 62 = .ok (.invokevirtual 108, 3) := by decide +kernel
theorem dX1_sheetsFor_65 : decode cX1_sheetsFor 65 = .ok (.ifCond .ne 9, 3) := by decide +kernel
theorem dX1_sheetsFor_68 : decode cX1_sheetsFor 68 = .ok (.iload_n 2, 1) := by decide +kernel
theorem dX1_sheetsFor_69 : decode cX1_sheetsFor 69 = .ok (.iconst 1, 1) := by decide +kernel
theorem dX1_sheetsFor_70 : decode cX1_sheetsFor 70 = .ok (.iload_n 3, 1) := by decide +kernel
theorem dX1_sheetsFor_71 : decode cX1_sheetsFor 71 = .ok (.ishl, 1) := by decide +kernel
theorem dX1_sheetsFor_72 : decode cX1_sheetsFor 72 = .ok (.ior, 1) := by decide +kernel
theorem dX1_sheetsFor_73 : decode cX1_sheetsFor 73 = .ok (.istore_n 2, 1) := by decide +kernel
theorem dX1_sheetsFor_74 : decode cX1_sheetsFor 74 = .ok (.iinc 3 1, 3) := by decide +kernel
theorem dX1_sheetsFor_77 : decode cX1_sheetsFor 77 = .ok (.goto (-73), 3) := by decide +kernel
theorem dX1_sheetsFor_80 : decode cX1_sheetsFor 80 = .ok (.iload_n 2, 1) := by decide +kernel
theorem dX1_sheetsFor_81 : decode cX1_sheetsFor 81 = .ok (.ireturn, 1) := by decide +kernel
theorem dX1_shownTooNear_0 : decode cX1_shownTooNear 0 = .ok (.aload_n 0, 1) := by decide +kernel
theorem dX1_shownTooNear_1 : decode cX1_shownTooNear 1 = .ok (.getfield 38, 3) := by decide +kernel
theorem dX1_shownTooNear_4 : decode cX1_shownTooNear 4 = .ok (.getfield 111, 3) := by decide +kernel
theorem dX1_shownTooNear_7 : decode cX1_shownTooNear 7 = .ok (.iload_n 1, 1) := by decide +kernel
theorem dX1_shownTooNear_8 : decode cX1_shownTooNear 8 = .ok (.iload_n 2, 1) := by decide +kernel
theorem dX1_shownTooNear_9 : decode cX1_shownTooNear 9 = .ok (.aload_n 0, 1) := by decide +kernel
theorem dX1_shownTooNear_10 : decode cX1_shownTooNear 10 = .ok (.getfield 38, 3) := by decide +kernel
theorem dX1_shownTooNear_13 : decode cX1_shownTooNear 13 = .ok (.getfield 64, 3) := by decide +kernel
theorem dX1_shownTooNear_16 : decode cX1_shownTooNear 16 = .ok (.getfield 115, 3) := by decide +kernel
theorem dX1_shownTooNear_19 : decode cX1_shownTooNear 19 = .ok (.iload_n 1, 1) := by decide +kernel
theorem dX1_shownTooNear_20 : decode cX1_shownTooNear 20 = .ok (.iaload, 1) := by decide +kernel
theorem dX1_shownTooNear_21 : decode cX1_shownTooNear 21 = .ok (.invokevirtual 118, 3) := by decide +kernel
theorem dX1_shownTooNear_24 : decode cX1_shownTooNear 24 = .ok (.ifCond .eq 5, 3) := by decide +kernel
theorem dX1_shownTooNear_27 : decode cX1_shownTooNear 27 = .ok (.iconst 1, 1) := by decide +kernel
theorem dX1_shownTooNear_28 : decode cX1_shownTooNear 28 = .ok (.ireturn, 1) := by decide +kernel
theorem dX1_shownTooNear_29 : decode cX1_shownTooNear 29 = .ok (.aload_n 0, 1) := by decide +kernel
theorem dX1_shownTooNear_30 : decode cX1_shownTooNear 30 = .ok (.getfield 38, 3) := by decide +kernel
theorem dX1_shownTooNear_33 : decode cX1_shownTooNear 33 = .ok (.getfield 64, 3) := by decide +kernel
theorem dX1_shownTooNear_36 : decode cX1_shownTooNear 36 = .ok (.getfield 124, 3) := by decide +kernel
theorem dX1_shownTooNear_39 : decode cX1_shownTooNear 39 = .ok (.iload_n 1, 1) := by decide +kernel
theorem dX1_shownTooNear_40 : decode cX1_shownTooNear 40 = .ok (.iaload, 1) := by decide +kernel
theorem dX1_shownTooNear_41 : decode cX1_shownTooNear 41 = .ok (.istore_n 3, 1) := by decide +kernel
theorem dX1_shownTooNear_42 : decode cX1_shownTooNear 42 = .ok (.iload_n 3, 1) := by decide +kernel
theorem dX1_shownTooNear_43 : decode cX1_shownTooNear 43 = .ok (.bipush (-4), 2) := by decide +kernel
theorem dX1_shownTooNear_45 : decode cX1_shownTooNear 45 = .ok (.if_icmp .eq 23, 3) := by decide +kernel
theorem dX1_shownTooNear_48 : decode cX1_shownTooNear 48 = .ok (.aload_n 0, 1) := by decide +kernel
theorem dX1_shownTooNear_49 : decode cX1_shownTooNear 49 = .ok (.getfield 38, 3) := by decide +kernel
theorem dX1_shownTooNear_52 : decode cX1_shownTooNear 52 = .ok (.getfield 111, 3) := by decide +kernel
theorem dX1_shownTooNear_55 : decode cX1_shownTooNear 55 = .ok (.iload_n 3, 1) := by decide +kernel
theorem dX1_shownTooNear_56 : decode cX1_shownTooNear 56 = .ok (.iload_n 2, 1) := by decide +kernel
theorem dX1_shownTooNear_57 : decode cX1_shownTooNear 57 = .ok (.iconst 0, 1) := by decide +kernel
theorem dX1_shownTooNear_58 : decode cX1_shownTooNear 58 = .ok (.invokevirtual 118, 3) := by decide +kernel
theorem dX1_shownTooNear_61 : decode cX1_shownTooNear 61 = .ok (.ifCond .eq 7, 3) := by decide +kernel
theorem dX1_shownTooNear_64 : decode cX1_shownTooNear 64 = .ok (.iconst 1, 1) := by decide +kernel
theorem dX1_shownTooNear_65 : decode cX1_shownTooNear 65 = .ok (.goto 4, 3) := by decide +kernel
theorem dX1_shownTooNear_68 : decode cX1_shownTooNear 68 = .ok (.iconst 0, 1) := by decide +kernel
theorem dX1_shownTooNear_69 : decode cX1_shownTooNear 69 = .ok (.ireturn, 1) := by decide +kernel
theorem dX1_place_0 : decode cX1_place 0 = .ok (.iload_n 1, 1) := by decide +kernel
theorem dX1_place_1 : decode cX1_place 1 = .ok (.aload_n 0, 1) := by decide +kernel
theorem dX1_place_2 : decode cX1_place 2 = .ok (.getfield 38, 3) := by decide +kernel
theorem dX1_place_5 : decode cX1_place 5 = .ok (.getfield 49, 3) := by decide +kernel
theorem dX1_place_8 : decode cX1_place 8 = .ok (.getfield 55, 3) := by decide +kernel
theorem dX1_place_11 : decode cX1_place 11 = .ok (.if_icmp .ge 8, 3) := by decide +kernel
theorem dX1_place_14 : decode cX1_place 14 = .ok (.iload_n 1, 1) := by decide +kernel
theorem dX1_place_15 : decode cX1_place 15 = .ok (.iconst 5, 1) := by decide +kernel
theorem dX1_place_16 : decode cX1_place 16 = .ok (.if_icmp .lt 9, 3) := by decide +kernel
theorem dX1_place_19 : decode cX1_place 19 = .ok (.aload_n 0, 1) := by decide +kernel
theorem dX1_place_20 : decode cX1_place 20 = .ok (.iload_n 2, 1) := by decide +kernel
theorem dX1_place_21 : decode cX1_place 21 = .ok (.invokevirtual 127, 3) := by decide +kernel
theorem dX1_place_24 : decode cX1_place 24 = .ok (.return_, 1) := by decide +kernel
theorem dX1_place_25 : decode cX1_place 25 = .ok (.iload_n 2, 1) := by decide +kernel
theorem dX1_place_26 : decode cX1_place 26 = .ok (.aload_n 0, 1) := by decide +kernel
theorem dX1_place_27 : decode cX1_place 27 = .ok (.getfield 32, 3) := by decide +kernel
theorem dX1_place_30 : decode cX1_place 30 = .ok (.iload_n 1, 1) := by decide +kernel
theorem dX1_place_31 : decode cX1_place 31 = .ok (.iaload, 1) := by decide +kernel
theorem dX1_place_32 : decode cX1_place 32 = .ok (.iadd, 1) := by decide +kernel
theorem dX1_place_33 : decode cX1_place 33 = .ok (.aload_n 0, 1) := by decide +kernel
theorem dX1_place_34 : decode cX1_place 34 = .ok (.getfield 19, 3) := by decide +kernel
theorem dX1_place_37 : decode cX1_place 37 = .ok (.if_icmp .gt 4, 3) := by decide +kernel
theorem dX1_place_40 : decode cX1_place 40 = .ok (.return_, 1) := by decide +kernel
theorem dX1_place_41 : decode cX1_place 41 = .ok (.iconst 0, 1) := by decide +kernel
theorem dX1_place_42 : decode cX1_place 42 = .ok (.istore_n 3, 1) := by decide +kernel
theorem dX1_place_43 : decode cX1_place 43 = .ok (.iload_n 3, 1) := by decide +kernel
theorem dX1_place_44 : decode cX1_place 44 = .ok (.aload_n 0, 1) := by decide +kernel
theorem dX1_place_45 : decode cX1_place 45 = .ok (.getfield 38, 3) := by decide +kernel
theorem dX1_place_48 : decode cX1_place 48 = .ok (.getfield 64, 3) := by decide +kernel
theorem dX1_place_51 : decode cX1_place 51 = .ok (.getfield 68, 3) := by decide +kernel
theorem dX1_place_54 : decode cX1_place 54 = .ok (.if_icmp .ge 84, 3) := by decide +kernel
theorem dX1_place_57 : decode cX1_place 57 = .ok (.aload_n 0, 1) := by decide +kernel
theorem dX1_place_58 : decode cX1_place 58 = .ok (.iload_n 1, 1) := by decide +kernel
theorem dX1_place_59 : decode cX1_place 59 = .ok (.iload_n 3, 1) := by decide +kernel
theorem dX1_place_60 : decode cX1_place 60 = .ok (.invokevirtual 131, 3) := by decide +kernel
theorem dX1_place_63 : decode cX1_place 63 = .ok (.ifCond .eq 69, 3) := by decide +kernel
theorem dX1_place_66 : decode cX1_place 66 = .ok (.aload_n 0, 1) := by decide +kernel
theorem dX1_place_67 : decode cX1_place 67 = .ok (.getfield 23, 3) := by decide +kernel
theorem dX1_place_70 : decode cX1_place 70 = .ok (.iload_n 1, 1) := by decide +kernel
theorem dX1_place_71 : decode cX1_place 71 = .ok (.iload_n 3, 1) := by decide +kernel
theorem dX1_place_72 : decode cX1_place 72 = .ok (.iastore, 1) := by decide +kernel
theorem dX1_place_73 : decode cX1_place 73 = .ok (.aload_n 0, 1) := by decide +kernel
theorem dX1_place_74 : decode cX1_place 74 = .ok (.getfield 35, 3) := by decide +kernel
theorem dX1_place_77 : decode cX1_place 77 = .ok (.iload_n 3, 1) := by decide +kernel
theorem dX1_place_78 : decode cX1_place 78 = .ok (.dup2, 1) := by decide +kernel
theorem dX1_place_79 : decode cX1_place 79 = .ok (.iaload, 1) := by decide +kernel
theorem dX1_place_80 : decode cX1_place 80 = .ok (.aload_n 0, 1) := by decide +kernel
theorem dX1_place_81 : decode cX1_place 81 = .ok (.getfield 29, 3) := by decide +kernel
theorem dX1_place_84 : decode cX1_place 84 = .ok (.iload_n 1, 1) := by decide +kernel
theorem dX1_place_85 : decode cX1_place 85 = .ok (.iaload, 1) := by decide +kernel
theorem dX1_place_86 : decode cX1_place 86 = .ok (.isub, 1) := by decide +kernel
theorem dX1_place_87 : decode cX1_place 87 = .ok (.iastore, 1) := by decide +kernel
theorem dX1_place_88 : decode cX1_place 88 = .ok (.aload_n 0, 1) := by decide +kernel
theorem dX1_place_89 : decode cX1_place 89 = .ok (.iload_n 1, 1) := by decide +kernel
theorem dX1_place_90 : decode cX1_place 90 = .ok (.iconst 1, 1) := by decide +kernel
theorem dX1_place_91 : decode cX1_place 91 = .ok (.iadd, 1) := by decide +kernel
theorem dX1_place_92 : decode cX1_place 92 = .ok (.iload_n 2, 1) := by decide +kernel
theorem dX1_place_93 : decode cX1_place 93 = .ok (.aload_n 0, 1) := by decide +kernel
theorem dX1_place_94 : decode cX1_place 94 = .ok (.getfield 38, 3) := by decide +kernel
theorem dX1_place_97 : decode cX1_place 97 = .ok (.getfield 64, 3) := by decide +kernel
theorem dX1_place_100 : decode cX1_place 100 = .ok (.getfield 134, 3) := by decide +kernel
theorem dX1_place_103 : decode cX1_place 103 = .ok (.iload_n 3, 1) := by decide +kernel
theorem dX1_place_104 : decode cX1_place 104 = .ok (.iaload, 1) := by decide +kernel
theorem dX1_place_105 : decode cX1_place 105 = .ok (.iadd, 1) := by decide +kernel
theorem dX1_place_106 : decode cX1_place 106 = .ok (.invokestatic 60, 3) := by decide +kernel
theorem dX1_place_109 : decode cX1_place 109 = .ok (.aload_n 0, 1) := by decide +kernel
theorem dX1_place_110 : decode cX1_place 110 = .ok (.getfield 35, 3) := by decide +kernel
theorem dX1_place_113 : decode cX1_place 113 = .ok (.iload_n 3, 1) := by decide +kernel
theorem dX1_place_114 : decode cX1_place 114 = .ok (.dup2, 1) := by decide +kernel
theorem dX1_place_115 : decode cX1_place 115 = .ok (.iaload, 1) := by decide +kernel
theorem dX1_place_116 : decode cX1_place 116 = .ok (.aload_n 0, 1) := by decide +kernel
theorem dX1_place_117 : decode cX1_place 117 = .ok (.getfield 29, 3) := by decide +kernel
theorem dX1_place_120 : decode cX1_place 120 = .ok (.iload_n 1, 1) := by decide +kernel
theorem dX1_place_121 : decode cX1_place 121 = .ok (.iaload, 1) := by decide +kernel
theorem dX1_place_122 : decode cX1_place 122 = .ok (.iadd, 1) := by decide +kernel
theorem dX1_place_123 : decode cX1_place 123 = .ok (.iastore, 1) := by decide +kernel
theorem dX1_place_124 : decode cX1_place 124 = .ok (.aload_n 0, 1) := by decide +kernel
theorem dX1_place_125 : decode cX1_place 125 = .ok (.getfield 23, 3) := by decide +kernel
theorem dX1_place_128 : decode cX1_place 128 = .ok (.iload_n 1, 1) := by decide +kernel
theorem dX1_place_129 : decode cX1_place 129 = .ok (.bipush (-4), 2) := by decide +kernel
theorem dX1_place_131 : decode cX1_place 131 = .ok (.iastore, 1) := by decide +kernel
theorem dX1_place_132 : decode cX1_place 132 = .ok (.iinc 3 1, 3) := by decide +kernel
theorem dX1_place_135 : decode cX1_place 135 = .ok (.goto (-92), 3) := by decide +kernel
theorem dX1_place_138 : decode cX1_place 138 = .ok (.aload_n 0, 1) := by decide +kernel
theorem dX1_place_139 : decode cX1_place 139 = .ok (.iload_n 1, 1) := by decide +kernel
theorem dX1_place_140 : decode cX1_place 140 = .ok (.iconst 1, 1) := by decide +kernel
theorem dX1_place_141 : decode cX1_place 141 = .ok (.iadd, 1) := by decide +kernel
theorem dX1_place_142 : decode cX1_place 142 = .ok (.iload_n 2, 1) := by decide +kernel
theorem dX1_place_143 : decode cX1_place 143 = .ok (.invokestatic 60, 3) := by decide +kernel
theorem dX1_place_146 : decode cX1_place 146 = .ok (.return_, 1) := by decide +kernel
theorem dX1_takeIfBetter_0 : decode cX1_takeIfBetter 0 = .ok (.iload_n 1, 1) := by decide +kernel
theorem dX1_takeIfBetter_1 : decode cX1_takeIfBetter 1 = .ok (.aload_n 0, 1) := by decide +kernel
theorem dX1_takeIfBetter_2 : decode cX1_takeIfBetter 2 = .ok (.getfield 19, 3) := by decide +kernel
theorem dX1_takeIfBetter_5 : decode cX1_takeIfBetter 5 = .ok (.if_icmp .le 19, 3) := by decide +kernel
theorem dX1_takeIfBetter_8 : decode cX1_takeIfBetter 8 = .ok (.aload_n 0, 1) := by decide +kernel
theorem dX1_takeIfBetter_9 : decode cX1_takeIfBetter 9 = .ok (.iload_n 1, 1) := by decide +kernel
theorem dX1_takeIfBetter_10 : decode cX1_takeIfBetter 10 = .ok (.putfield 19, 3) := by decide +kernel
theorem dX1_takeIfBetter_13 : decode cX1_takeIfBetter 13 = .ok (.aload_n 0, 1) := by decide +kernel
theorem dX1_takeIfBetter_14 : decode cX1_takeIfBetter 14 = .ok (.getfield 23, 3) := by decide +kernel
theorem dX1_takeIfBetter_17 : decode cX1_takeIfBetter 17 = .ok (.aload_n 0, 1) := by decide +kernel
theorem dX1_takeIfBetter_18 : decode cX1_takeIfBetter 18 = .ok (.getfield 15, 3) := by decide +kernel
theorem dX1_takeIfBetter_21 : decode cX1_takeIfBetter 21 = .ok (.invokestatic 137, 3) := by decide +kernel
theorem dX1_takeIfBetter_24 : decode cX1_takeIfBetter 24 = .ok (.return_, 1) := by decide +kernel
theorem dX1_fits_0 : decode cX1_fits 0 = .ok (.aload_n 0, 1) := by decide +kernel
theorem dX1_fits_1 : decode cX1_fits 1 = .ok (.getfield 26, 3) := by decide +kernel
theorem dX1_fits_4 : decode cX1_fits 4 = .ok (.iload_n 1, 1) := by decide +kernel
theorem dX1_fits_5 : decode cX1_fits 5 = .ok (.iaload, 1) := by decide +kernel
theorem dX1_fits_6 : decode cX1_fits 6 = .ok (.iload_n 2, 1) := by decide +kernel
theorem dX1_fits_7 : decode cX1_fits 7 = .ok (.ishr, 1) := by decide +kernel
theorem dX1_fits_8 : decode cX1_fits 8 = .ok (.iconst 1, 1) := by decide +kernel
theorem dX1_fits_9 : decode cX1_fits 9 = .ok (.iand, 1) := by decide +kernel
theorem dX1_fits_10 : decode cX1_fits 10 = .ok (.ifCond .eq 18, 3) := by decide +kernel
theorem dX1_fits_13 : decode cX1_fits 13 = .ok (.aload_n 0, 1) := by decide +kernel
theorem dX1_fits_14 : decode cX1_fits 14 = .ok (.getfield 29, 3) := by decide +kernel
theorem dX1_fits_17 : decode cX1_fits 17 = .ok (.iload_n 1, 1) := by decide +kernel
theorem dX1_fits_18 : decode cX1_fits 18 = .ok (.iaload, 1) := by decide +kernel
theorem dX1_fits_19 : decode cX1_fits 19 = .ok (.aload_n 0, 1) := by decide +kernel
theorem dX1_fits_20 : decode cX1_fits 20 = .ok (.getfield 35, 3) := by decide +kernel
theorem dX1_fits_23 : decode cX1_fits 23 = .ok (.iload_n 2, 1) := by decide +kernel
theorem dX1_fits_24 : decode cX1_fits 24 = .ok (.iaload, 1) := by decide +kernel
theorem dX1_fits_25 : decode cX1_fits 25 = .ok (.if_icmp .le 5, 3) := by decide +kernel
theorem dX1_fits_28 : decode cX1_fits 28 = .ok (.iconst 0, 1) := by decide +kernel
theorem dX1_fits_29 : decode cX1_fits 29 = .ok (.ireturn, 1) := by decide +kernel
theorem dX1_fits_30 : decode cX1_fits 30 = .ok (.aload_n 0, 1) := by decide +kernel
theorem dX1_fits_31 : decode cX1_fits 31 = .ok (.getfield 38, 3) := by decide +kernel
theorem dX1_fits_34 : decode cX1_fits 34 = .ok (.getfield 49, 3) := by decide +kernel
theorem dX1_fits_37 : decode cX1_fits 37 = .ok (.getfield 88, 3) := by decide +kernel
theorem dX1_fits_40 : decode cX1_fits 40 = .ok (.iload_n 1, 1) := by decide +kernel
theorem dX1_fits_41 : decode cX1_fits 41 = .ok (.iaload, 1) := by decide +kernel
theorem dX1_fits_42 : decode cX1_fits 42 = .ok (.istore_n 3, 1) := by decide +kernel
theorem dX1_fits_43 : decode cX1_fits 43 = .ok (.iconst 0, 1) := by decide +kernel
theorem dX1_fits_44 : decode cX1_fits 44 = .ok (.istore 4, 2) := by decide +kernel
theorem dX1_fits_46 : decode cX1_fits 46 = .ok (.iload 4, 2) := by decide +kernel
theorem dX1_fits_48 : decode cX1_fits 48 = .ok (.iload_n 1, 1) := by decide +kernel
theorem dX1_fits_49 : decode cX1_fits 49 = .ok (.if_icmp .ge 100, 3) := by decide +kernel
theorem dX1_fits_52 : decode cX1_fits 52 = .ok (.aload_n 0, 1) := by decide +kernel
theorem dX1_fits_53 : decode cX1_fits 53 = .ok (.getfield 38, 3) := by decide +kernel
theorem dX1_fits_56 : decode cX1_fits 56 = .ok (.getfield 49, 3) := by decide +kernel
theorem dX1_fits_59 : decode cX1_fits 59 = .ok (.getfield 88, 3) := by decide +kernel
theorem dX1_fits_62 : decode cX1_fits 62 = .ok (.iload 4, 2) := by decide +kernel
theorem dX1_fits_64 : decode cX1_fits 64 = .ok (.iaload, 1) := by decide +kernel
theorem dX1_fits_65 : decode cX1_fits 65 = .ok (.iload_n 3, 1) := by decide +kernel
theorem dX1_fits_66 : decode cX1_fits 66 = .ok (.isub, 1) := by decide +kernel
theorem dX1_fits_67 : decode cX1_fits 67 = .ok (.invokestatic 141, 3) := by decide +kernel
theorem dX1_fits_70 : decode cX1_fits 70 = .ok (.istore 5, 2) := by decide +kernel
theorem dX1_fits_72 : decode cX1_fits 72 = .ok (.aload_n 0, 1) := by decide +kernel
theorem dX1_fits_73 : decode cX1_fits 73 = .ok (.getfield 23, 3) := by decide +kernel
theorem dX1_fits_76 : decode cX1_fits 76 = .ok (.iload 4, 2) := by decide +kernel
theorem dX1_fits_78 : decode cX1_fits 78 = .ok (.iaload, 1) := by decide +kernel
theorem dX1_fits_79 : decode cX1_fits 79 = .ok (.iload_n 2, 1) := by decide +kernel
theorem dX1_fits_80 : decode cX1_fits 80 = .ok (.if_icmp .ne 22, 3) := by decide +kernel
theorem dX1_fits_83 : decode cX1_fits 83 = .ok (.iload 5, 2) := by decide +kernel
theorem dX1_fits_85 : decode cX1_fits 85 = .ok (.aload_n 0, 1) := by decide +kernel
theorem dX1_fits_86 : decode cX1_fits 86 = .ok (.getfield 38, 3) := by decide +kernel
theorem dX1_fits_89 : decode cX1_fits 89 = .ok (.getfield 64, 3) := by decide +kernel
theorem dX1_fits_92 : decode cX1_fits 92 = .ok (.getfield 115, 3) := by decide +kernel
theorem dX1_fits_95 : decode cX1_fits 95 = .ok (.iload_n 2, 1) := by decide +kernel
theorem dX1_fits_96 : decode cX1_fits 96 = .ok (.iaload, 1) := by decide +kernel
theorem dX1_fits_97 : decode cX1_fits 97 = .ok (.if_icmp .gt 5, 3) := by decide +kernel
theorem dX1_fits_100 : decode cX1_fits 100 = .ok (.iconst 0, 1) := by decide +kernel
theorem dX1_fits_101 : decode cX1_fits 101 = .ok (.ireturn, 1) := by decide +kernel
theorem dX1_fits_102 : decode cX1_fits 102 = .ok (.aload_n 0, 1) := by decide +kernel
theorem dX1_fits_103 : decode cX1_fits 103 = .ok (.getfield 23, 3) := by decide +kernel
theorem dX1_fits_106 : decode cX1_fits 106 = .ok (.iload 4, 2) := by decide +kernel
theorem dX1_fits_108 : decode cX1_fits 108 = .ok (.iaload, 1) := by decide +kernel
theorem dX1_fits_109 : decode cX1_fits 109 = .ok (.bipush (-4), 2) := by decide +kernel
theorem dX1_fits_111 : decode cX1_fits 111 = .ok (.if_icmp .eq 32, 3) := by decide +kernel
theorem dX1_fits_114 : decode cX1_fits 114 = .ok (.aload_n 0, 1) := by decide +kernel
theorem dX1_fits_115 : decode cX1_fits 115 = .ok (.getfield 23, 3) := by decide +kernel
theorem dX1_fits_118 : decode cX1_fits 118 = .ok (.iload 4, 2) := by decide +kernel
theorem dX1_fits_120 : decode cX1_fits 120 = .ok (.iaload, 1) := by decide +kernel
theorem dX1_fits_121 : decode cX1_fits 121 = .ok (.aload_n 0, 1) := by decide +kernel
theorem dX1_fits_122 : decode cX1_fits 122 = .ok (.getfield 38, 3) := by decide +kernel
theorem dX1_fits_125 : decode cX1_fits 125 = .ok (.getfield 64, 3) := by decide +kernel
theorem dX1_fits_128 : decode cX1_fits 128 = .ok (.getfield 124, 3) := by decide +kernel
theorem dX1_fits_131 : decode cX1_fits 131 = .ok (.iload_n 2, 1) := by decide +kernel
theorem dX1_fits_132 : decode cX1_fits 132 = .ok (.iaload, 1) := by decide +kernel
theorem dX1_fits_133 : decode cX1_fits 133 = .ok (.if_icmp .ne 10, 3) := by decide +kernel
theorem dX1_fits_136 : decode cX1_fits 136 = .ok (.iload 5, 2) := by decide +kernel
theorem dX1_fits_138 : decode cX1_fits 138 = .ok (.ifCond .ne 5, 3) := by decide +kernel
theorem dX1_fits_141 : decode cX1_fits 141 = .ok (.iconst 0, 1) := by decide +kernel
theorem dX1_fits_142 : decode cX1_fits 142 = .ok (.ireturn, 1) := by decide +kernel
theorem dX1_fits_143 : decode cX1_fits 143 = .ok (.iinc 4 1, 3) := by decide +kernel
theorem dX1_fits_146 : decode cX1_fits 146 = .ok (.goto (-100), 3) := by decide +kernel
theorem dX1_fits_149 : decode cX1_fits 149 = .ok (.iconst 1, 1) := by decide +kernel
theorem dX1_fits_150 : decode cX1_fits 150 = .ok (.ireturn, 1) := by decide +kernel
theorem dX1_countHung_0 : decode cX1_countHung 0 = .ok (.iconst 0, 1) := by decide +kernel
theorem dX1_countHung_1 : decode cX1_countHung 1 = .ok (.istore_n 1, 1) := by decide +kernel
theorem dX1_countHung_2 : decode cX1_countHung 2 = .ok (.iconst 0, 1) := by decide +kernel
theorem dX1_countHung_3 : decode cX1_countHung 3 = .ok (.istore_n 2, 1) := by decide +kernel
theorem dX1_countHung_4 : decode cX1_countHung 4 = .ok (.iload_n 2, 1) := by decide +kernel
theorem dX1_countHung_5 : decode cX1_countHung 5 = .ok (.aload_n 0, 1) := by decide +kernel
theorem dX1_countHung_6 : decode cX1_countHung 6 = .ok (.getfield 38, 3) := by decide +kernel
theorem dX1_countHung_9 : decode cX1_countHung 9 = .ok (.getfield 49, 3) := by decide +kernel
theorem dX1_countHung_12 : decode cX1_countHung 12 = .ok (.getfield 55, 3) := by decide +kernel
theorem dX1_countHung_15 : decode cX1_countHung 15 = .ok (.if_icmp .ge 23, 3) := by decide +kernel
theorem dX1_countHung_18 : decode cX1_countHung 18 = .ok (.aload_n 0, 1) := by decide +kernel
theorem dX1_countHung_19 : decode cX1_countHung 19 = .ok (.getfield 15, 3) := by decide +kernel
theorem dX1_countHung_22 : decode cX1_countHung 22 = .ok (.iload_n 2, 1) := by decide +kernel
theorem dX1_countHung_23 : decode cX1_countHung 23 = .ok (.iaload, 1) := by decide +kernel
theorem dX1_countHung_24 : decode cX1_countHung 24 = .ok (.bipush (-4), 2) := by decide +kernel
theorem dX1_countHung_26 : decode cX1_countHung 26 = .ok (.if_icmp .eq 6, 3) := by decide +kernel
theorem dX1_countHung_29 : decode cX1_countHung 29 = .ok (.iinc 1 1, 3) := by decide +kernel
theorem dX1_countHung_32 : decode cX1_countHung 32 = .ok (.iinc 2 1, 3) := by decide +kernel
theorem dX1_countHung_35 : decode cX1_countHung 35 = .ok (.goto (-31), 3) := by decide +kernel
theorem dX1_countHung_38 : decode cX1_countHung 38 = .ok (.iload_n 1, 1) := by decide +kernel
theorem dX1_countHung_39 : decode cX1_countHung 39 = .ok (.ireturn, 1) := by decide +kernel
theorem dX1_lightOn_0 : decode cX1_lightOn 0 = .ok (.iconst 0, 1) := by decide +kernel
theorem dX1_lightOn_1 : decode cX1_lightOn 1 = .ok (.istore_n 2, 1) := by decide +kernel
theorem dX1_lightOn_2 : decode cX1_lightOn 2 = .ok (.iconst 0, 1) := by decide +kernel
theorem dX1_lightOn_3 : decode cX1_lightOn 3 = .ok (.istore_n 3, 1) := by decide +kernel
theorem dX1_lightOn_4 : decode cX1_lightOn 4 = .ok (.iload_n 3, 1) := by decide +kernel
theorem dX1_lightOn_5 : decode cX1_lightOn 5 = .ok (.aload_n 0, 1) := by decide +kernel
theorem dX1_lightOn_6 : decode cX1_lightOn 6 = .ok (.getfield 38, 3) := by decide +kernel
theorem dX1_lightOn_9 : decode cX1_lightOn 9 = .ok (.getfield 49, 3) := by decide +kernel
theorem dX1_lightOn_12 : decode cX1_lightOn 12 = .ok (.getfield 55, 3) := by decide +kernel
theorem dX1_lightOn_15 : decode cX1_lightOn 15 = .ok (.if_icmp .ge 28, 3) := by decide +kernel
theorem dX1_lightOn_18 : decode cX1_lightOn 18 = .ok (.aload_n 0, 1) := by decide +kernel
theorem dX1_lightOn_19 : decode cX1_lightOn 19 = .ok (.getfield 15, 3) := by decide +kernel
theorem dX1_lightOn_22 : decode cX1_lightOn 22 = .ok (.iload_n 3, 1) := by decide +kernel
theorem dX1_lightOn_23 : decode cX1_lightOn 23 = .ok (.iaload, 1) := by decide +kernel
theorem dX1_lightOn_24 : decode cX1_lightOn 24 = .ok (.iload_n 1, 1) := by decide +kernel
theorem dX1_lightOn_25 : decode cX1_lightOn 25 = .ok (.if_icmp .ne 12, 3) := by decide +kernel
theorem dX1_lightOn_28 : decode cX1_lightOn 28 = .ok (.iload_n 2, 1) := by decide +kernel
theorem dX1_lightOn_29 : decode cX1_lightOn 29 = .ok (.aload_n 0, 1) := by decide +kernel
theorem dX1_lightOn_30 : decode cX1_lightOn 30 = .ok (.getfield 29, 3) := by decide +kernel
theorem dX1_lightOn_33 : decode cX1_lightOn 33 = .ok (.iload_n 3, 1) := by decide +kernel
theorem dX1_lightOn_34 : decode cX1_lightOn 34 = .ok (.iaload, 1) := by decide +kernel
theorem dX1_lightOn_35 : decode cX1_lightOn 35 = .ok (.iadd, 1) := by decide +kernel
theorem dX1_lightOn_36 : decode cX1_lightOn 36 = .ok (.istore_n 2, 1) := by decide +kernel
theorem dX1_lightOn_37 : decode cX1_lightOn 37 = .ok (.iinc 3 1, 3) := by decide +kernel
theorem dX1_lightOn_40 : decode cX1_lightOn 40 = .ok (.goto (-36), 3) := by decide +kernel
theorem dX1_lightOn_43 : decode cX1_lightOn 43 = .ok (.iload_n 2, 1) := by decide +kernel
theorem dX1_lightOn_44 : decode cX1_lightOn 44 = .ok (.ireturn, 1) := by decide +kernel
theorem dX2_init_0 : decode cX2_init 0 = .ok (.aload_n 0, 1) := by decide +kernel
theorem dX2_init_1 : decode cX2_init 1 = .ok (.invokespecial 1, 3) := by decide +kernel
theorem dX2_init_4 : decode cX2_init 4 = .ok (.aload_n 0, 1) := by decide +kernel
theorem dX2_init_5 : decode cX2_init 5 = .ok (.new 7, 3) := by decide +kernel
theorem dX2_init_8 : decode cX2_init 8 = .ok (.dup, 1) := by decide +kernel
theorem dX2_init_9 : decode cX2_init 9 = .ok (.invokespecial 9, 3) := by decide +kernel
theorem dX2_init_12 : decode cX2_init 12 = .ok (.putfield 10, 3) := by decide +kernel
theorem dX2_init_15 : decode cX2_init 15 = .ok (.aload_n 0, 1) := by decide +kernel
theorem dX2_init_16 : decode cX2_init 16 = .ok (.new 16, 3) := by decide +kernel
theorem dX2_init_19 : decode cX2_init 19 = .ok (.dup, 1) := by decide +kernel
theorem dX2_init_20 : decode cX2_init 20 = .ok (.invokespecial 18, 3) := by decide +kernel
theorem dX2_init_23 : decode cX2_init 23 = .ok (.putfield 19, 3) := by decide +kernel
theorem dX2_init_26 : decode cX2_init 26 = .ok (.aload_n 0, 1) := by decide +kernel
theorem dX2_init_27 : decode cX2_init 27 = .ok (.new 23, 3) := by decide +kernel
theorem dX2_init_30 : decode cX2_init 30 = .ok (.dup, 1) := by decide +kernel
theorem dX2_init_31 : decode cX2_init 31 = .ok (.invokespecial 25, 3) := by decide +kernel
theorem dX2_init_34 : decode cX2_init 34 = .ok (.putfield 26, 3) := by decide +kernel
theorem dX2_init_37 : decode cX2_init 37 = .ok (.aload_n 0, 1) := by decide +kernel
theorem dX2_init_38 : decode cX2_init 38 = .ok (.new 30, 3) := by decide +kernel
theorem dX2_init_41 : decode cX2_init 41 = .ok (.dup, 1) := by decide +kernel
theorem dX2_init_42 : decode cX2_init 42 = .ok (.invokespecial 32, 3) := by decide +kernel
theorem dX2_init_45 : decode cX2_init 45 = .ok (.putfield 33, 3) := by decide +kernel
theorem dX2_init_48 : decode cX2_init 48 = .ok (.aload_n 0, 1) := by decide +kernel
theorem dX2_init_49 : decode cX2_init 49 = .ok (.new 37, 3) := by decide +kernel
theorem dX2_init_52 : decode cX2_init 52 = .ok (.dup, 1) := by decide +kernel
theorem dX2_init_53 : decode cX2_init 53 = .ok (.invokespecial 39, 3) := by decide +kernel
theorem dX2_init_56 : decode cX2_init 56 = .ok (.putfield 40, 3) := by decide +kernel
theorem dX2_init_59 : decode cX2_init 59 = .ok (.return_, 1) := by decide +kernel
theorem dX2_spendEnd_0 : decode cX2_spendEnd 0 = .ok (.aload_n 0, 1) := by decide +kernel
theorem dX2_spendEnd_1 : decode cX2_spendEnd 1 = .ok (.getfield 26, 3) := by decide +kernel
theorem dX2_spendEnd_4 : decode cX2_spendEnd 4 = .ok (.iload_n 1, 1) := by decide +kernel
theorem dX2_spendEnd_5 : decode cX2_spendEnd 5 = .ok (.invokevirtual 44, 3) := by decide +kernel
theorem dX2_spendEnd_8 : decode cX2_spendEnd 8 = .ok (.ifCond .eq 13, 3) := by decide +kernel
theorem dX2_spendEnd_11 : decode cX2_spendEnd 11 = .ok (.aload_n 0, 1) := by decide +kernel
theorem dX2_spendEnd_12 : decode cX2_spendEnd 12 = .ok (.getfield 26, 3) := by decide +kernel
theorem dX2_spendEnd_15 : decode cX2_spendEnd 15 = .ok (.getfield 48, 3) := by decide +kernel
theorem dX2_spendEnd_18 : decode cX2_spendEnd 18 = .ok (.iload_n 1, 1) := by decide +kernel
theorem dX2_spendEnd_19 : decode cX2_spendEnd 19 = .ok (.iaload, 1) := by decide +kernel
theorem dX2_spendEnd_20 : decode cX2_spendEnd 20 = .ok (.ireturn, 1) := by decide +kernel
theorem dX2_spendEnd_21 : decode cX2_spendEnd 21 = .ok (.aload_n 0, 1) := by decide +kernel
theorem dX2_spendEnd_22 : decode cX2_spendEnd 22 = .ok (.getfield 10, 3) := by decide +kernel
theorem dX2_spendEnd_25 : decode cX2_spendEnd 25 = .ok (.aload_n 0, 1) := by decide +kernel
theorem dX2_spendEnd_26 : decode cX2_spendEnd 26 = .ok (.getfield 26, 3) := by decide +kernel
theorem dX2_spendEnd_29 : decode cX2_spendEnd 29 = .ok (.getfield 52, 3) := by decide +kernel
theorem dX2_spendEnd_32 : decode cX2_spendEnd 32 = .ok (.iload_n 1, 1) := by decide +kernel
theorem dX2_spendEnd_33 : decode cX2_spendEnd 33 = .ok (.iaload, 1) := by decide +kernel
theorem dX2_spendEnd_34 : decode cX2_spendEnd 34 = .ok (.aload_n 0, 1) := by decide +kernel
theorem dX2_spendEnd_35 : decode cX2_spendEnd 35 = .ok (.getfield 26, 3) := by decide +kernel
theorem dX2_spendEnd_38 : decode cX2_spendEnd 38 = .ok (.getfield 55, 3) := by decide +kernel
theorem dX2_spendEnd_41 : decode cX2_spendEnd 41 = .ok (.iload_n 1, 1) := by decide +kernel
theorem dX2_spendEnd_42 : decode cX2_spendEnd 42 = .ok (.iaload, 1) := by decide +kernel
theorem dX2_spendEnd_43 : decode cX2_spendEnd 43 = .ok (.iload_n 2, 1) := by decide +kernel
theorem dX2_spendEnd_44 : decode cX2_spendEnd 44 = .ok (.invokevirtual 58, 3) := by decide +kernel
theorem dX2_spendEnd_47 : decode cX2_spendEnd 47 = .ok (.ireturn, 1) := by decide +kernel
theorem dX2_copyFrom_0 : decode cX2_copyFrom 0 = .ok (.aload_n 0, 1) := by decide +kernel
theorem dX2_copyFrom_1 : decode cX2_copyFrom 1 = .ok (.getfield 10, 3) := by decide +kernel
theorem dX2_copyFrom_4 : decode cX2_copyFrom 4 = .ok (.aload_n 1, 1) := by decide +kernel
theorem dX2_copyFrom_5 : decode cX2_copyFrom 5 = .ok (.getfield 10, 3) := by decide +kernel
theorem dX2_copyFrom_8 : decode cX2_copyFrom 8 = .ok (.invokevirtual 62, 3) := by decide +kernel
theorem dX2_copyFrom_11 : decode cX2_copyFrom 11 = .ok (.aload_n 0, 1) := by decide +kernel
theorem dX2_copyFrom_12 : decode cX2_copyFrom 12 = .ok (.getfield 19, 3) := by decide +kernel
theorem dX2_copyFrom_15 : decode cX2_copyFrom 15 = .ok (.aload_n 1, 1) := by decide +kernel
theorem dX2_copyFrom_16 : decode cX2_copyFrom 16 = .ok (.getfield 19, 3) := by decide +kernel
theorem dX2_copyFrom_19 : decode cX2_copyFrom 19 = .ok (.invokevirtual 66, 3) := by decide +kernel
theorem dX2_copyFrom_22 : decode cX2_copyFrom 22 = .ok (.aload_n 0, 1) := by decide +kernel
theorem dX2_copyFrom_23 : decode cX2_copyFrom 23 = .ok (.getfield 26, 3) := by decide +kernel
theorem dX2_copyFrom_26 : decode cX2_copyFrom 26 = .ok (.aload_n 1, 1) := by decide +kernel
theorem dX2_copyFrom_27 : decode cX2_copyFrom 27 = .ok (.getfield 26, 3) := by decide +kernel
theorem dX2_copyFrom_30 : decode cX2_copyFrom 30 = .ok (.invokevirtual 69, 3) := by decide +kernel
theorem dX2_copyFrom_33 : decode cX2_copyFrom 33 = .ok (.aload_n 0, 1) := by decide +kernel
theorem dX2_copyFrom_34 : decode cX2_copyFrom 34 = .ok (.getfield 33, 3) := by decide +kernel
theorem dX2_copyFrom_37 : decode cX2_copyFrom 37 = .ok (.aload_n 1, 1) := by decide +kernel
theorem dX2_copyFrom_38 : decode cX2_copyFrom 38 = .ok (.getfield 33, 3) := by decide +kernel
theorem dX2_copyFrom_41 : decode cX2_copyFrom 41 = .ok (.invokevirtual 72, 3) := by decide +kernel
theorem dX2_copyFrom_44 : decode cX2_copyFrom 44 = .ok (.aload_n 0, 1) := by decide +kernel
theorem dX2_copyFrom_45 : decode cX2_copyFrom 45 = .ok (.getfield 40, 3) := by decide +kernel
theorem dX2_copyFrom_48 : decode cX2_copyFrom 48 = .ok (.aload_n 1, 1) := by decide +kernel
theorem dX2_copyFrom_49 : decode cX2_copyFrom 49 = .ok (.getfield 40, 3) := by decide +kernel
theorem dX2_copyFrom_52 : decode cX2_copyFrom 52 = .ok (.invokevirtual 75, 3) := by decide +kernel
theorem dX2_copyFrom_55 : decode cX2_copyFrom 55 = .ok (.return_, 1) := by decide +kernel
theorem dX3_init_0 : decode cX3_init 0 = .ok (.aload_n 0, 1) := by decide +kernel
theorem dX3_init_1 : decode cX3_init 1 = .ok (.invokespecial 3, 3) := by decide +kernel
theorem dX3_init_4 : decode cX3_init 4 = .ok (.aload_n 0, 1) := by decide +kernel
theorem dX3_init_5 : decode cX3_init 5 = .ok (.iconst 0, 1) := by decide +kernel
theorem dX3_init_6 : decode cX3_init 6 = .ok (.putfield 9, 3) := by decide +kernel
theorem dX3_init_9 : decode cX3_init 9 = .ok (.aload_n 0, 1) := by decide +kernel
theorem dX3_init_10 : decode cX3_init 10 = .ok (.iconst 0, 1) := by decide +kernel
theorem dX3_init_11 : decode cX3_init 11 = .ok (.putfield 15, 3) := by decide +kernel
theorem dX3_init_14 : decode cX3_init 14 = .ok (.aload_n 0, 1) := by decide +kernel
theorem dX3_init_15 : decode cX3_init 15 = .ok (.iconst 0, 1) := by decide +kernel
theorem dX3_init_16 : decode cX3_init 16 = .ok (.putfield 19, 3) := by decide +kernel
theorem dX3_init_19 : decode cX3_init 19 = .ok (.aload_n 0, 1) := by decide +kernel
theorem dX3_init_20 : decode cX3_init 20 = .ok (.iconst 0, 1) := by decide +kernel
theorem dX3_init_21 : decode cX3_init 21 = .ok (.putfield 22, 3) := by decide +kernel
theorem dX3_init_24 : decode cX3_init 24 = .ok (.aload_n 0, 1) := by decide +kernel
theorem dX3_init_25 : decode cX3_init 25 = .ok (.bipush 10, 2) := by decide +kernel
theorem dX3_init_27 : decode cX3_init 27 = .ok (.newarray .int, 2) := by decide +kernel
theorem dX3_init_29 : decode cX3_init 29 = .ok (.putfield 25, 3) := by decide +kernel
theorem dX3_init_32 : decode cX3_init 32 = .ok (.aload_n 0, 1) := by decide +kernel
theorem dX3_init_33 : decode cX3_init 33 = .ok (.bipush 10, 2) := by decide +kernel
theorem dX3_init_35 : decode cX3_init 35 = .ok (.newarray .int, 2) := by decide +kernel
theorem dX3_init_37 : decode cX3_init 37 = .ok (.putfield 29, 3) := by decide +kernel
theorem dX3_init_40 : decode cX3_init 40 = .ok (.aload_n 0, 1) := by decide +kernel
theorem dX3_init_41 : decode cX3_init 41 = .ok (.aload_n 1, 1) := by decide +kernel
theorem dX3_init_42 : decode cX3_init 42 = .ok (.putfield 32, 3) := by decide +kernel
theorem dX3_init_45 : decode cX3_init 45 = .ok (.return_, 1) := by decide +kernel
theorem dX3_openAt_0 : decode cX3_openAt 0 = .ok (.aload_n 0, 1) := by decide +kernel
theorem dX3_openAt_1 : decode cX3_openAt 1 = .ok (.iload_n 1, 1) := by decide +kernel
theorem dX3_openAt_2 : decode cX3_openAt 2 = .ok (.putfield 9, 3) := by decide +kernel
theorem dX3_openAt_5 : decode cX3_openAt 5 = .ok (.aload_n 0, 1) := by decide +kernel
theorem dX3_openAt_6 : decode cX3_openAt 6 = .ok (.invokevirtual 36, 3) := by decide +kernel
theorem dX3_openAt_9 : decode cX3_openAt 9 = .ok (.aload_n 0, 1) := by decide +kernel
theorem dX3_openAt_10 : decode cX3_openAt 10 = .ok (.invokevirtual 39, 3) := by decide +kernel
theorem dX3_openAt_13 : decode cX3_openAt 13 = .ok (.aload_n 0, 1) := by decide +kernel
theorem dX3_openAt_14 : decode cX3_openAt 14 = .ok (.areturn, 1) := by decide +kernel
theorem dX3_sumSpends_0 : decode cX3_sumSpends 0 = .ok (.iconst 0, 1) := by decide +kernel
theorem dX3_sumSpends_1 : decode cX3_sumSpends 1 = .ok (.istore_n 1, 1) := by decide +kernel
theorem dX3_sumSpends_2 : decode cX3_sumSpends 2 = .ok (.iload_n 1, 1) := by decide +kernel
theorem dX3_sumSpends_3 : decode cX3_sumSpends 3 = .ok (.bipush 10, 2) := by decide +kernel
theorem dX3_sumSpends_5 : decode cX3_sumSpends 5 = .ok (.if_icmp .ge 23, 3) := by decide +kernel
theorem dX3_sumSpends_8 : decode cX3_sumSpends 8 = .ok (.aload_n 0, 1) := by decide +kernel
theorem dX3_sumSpends_9 : decode cX3_sumSpends 9 = .ok (.getfield 25, 3) := by decide +kernel
theorem dX3_sumSpends_12 : decode cX3_sumSpends 12 = .ok (.iload_n 1, 1) := by decide +kernel
theorem dX3_sumSpends_13 : decode cX3_sumSpends 13 = .ok (.iconst 0, 1) := by decide +kernel
theorem dX3_sumSpends_14 : decode cX3_sumSpends 14 = .ok (.iastore, 1) := by decide +kernel
theorem dX3_sumSpends_15 : decode cX3_sumSpends 15 = .ok (.aload_n 0, 1) := by decide +kernel
theorem dX3_sumSpends_16 : decode cX3_sumSpends 16 = .ok (.getfield 29, 3) := by decide +kernel
theorem dX3_sumSpends_19 : decode cX3_sumSpends 19 = .ok (.iload_n 1, 1) := by decide +kernel
theorem dX3_sumSpends_20 : decode cX3_sumSpends 20 = .ok (.iconst 0, 1) := by decide +kernel
theorem dX3_sumSpends_21 : decode cX3_sumSpends 21 = .ok (.iastore, 1) := by decide +kernel
theorem dX3_sumSpends_22 : decode cX3_sumSpends 22 = .ok (.iinc 1 1, 3) := by decide +kernel
theorem dX3_sumSpends_25 : decode cX3_sumSpends 25 = .ok (.goto (-23), 3) := by decide +kernel
theorem dX3_sumSpends_28 : decode cX3_sumSpends 28 = .ok (.aload_n 0, 1) := by decide +kernel
theorem dX3_sumSpends_29 : decode cX3_sumSpends 29 = .ok (.getfield 32, 3) := by decide +kernel
theorem dX3_sumSpends_32 : decode cX3_sumSpends 32 = .ok (.getfield 42, 3) := by decide +kernel
theorem dX3_sumSpends_35 : decode cX3_sumSpends 35 = .ok (.astore_n 1, 1) := by decide +kernel
theorem dX3_sumSpends_36 : decode cX3_sumSpends 36 = .ok (.iconst 0, 1) := by decide +kernel
theorem dX3_sumSpends_37 : decode cX3_sumSpends 37 = .ok (.istore_n 2, 1) := by decide +kernel
theorem dX3_sumSpends_38 : decode cX3_sumSpends 38 = .ok (.iload_n 2, 1) := by decide +kernel
theorem dX3_sumSpends_39 : decode cX3_sumSpends 39 = .ok (.aload_n 1, 1) := by decide +kernel
theorem dX3_sumSpends_40 : decode cX3_sumSpends 40 = .ok (.getfield 48, 3) := by decide +kernel
theorem dX3_sumSpends_43 : decode cX3_sumSpends 43 = .ok (.if_icmp .ge 67, 3) := by decide +kernel
theorem dX3_sumSpends_46 : decode cX3_sumSpends 46 = .ok (.aload_n 1, 1) := by decide +kernel
theorem dX3_sumSpends_47 : decode cX3_sumSpends 47 = .ok (.iload_n 2, 1) := by decide +kernel
theorem dX3_sumSpends_48 : decode cX3_sumSpends 48 = .ok (.aload_n 0, 1) := by decide +kernel
theorem dX3_sumSpends_49 : decode cX3_sumSpends 49 = .ok (.getfield 9, 3) := by decide +kernel
theorem dX3_sumSpends_52 : decode cX3_sumSpends 52 = .ok (.invokevirtual 53, 3) := by decide +kernel
theorem dX3_sumSpends_55 : decode cX3_sumSpends 55 = .ok (.ifCond .eq 49, 3) := by decide +kernel
theorem dX3_sumSpends_58 : decode cX3_sumSpends 58 = .ok (.aload_n 0, 1) := by decide +kernel
theorem dX3_sumSpends_59 : decode cX3_sumSpends 59 = .ok (.getfield 25, 3) := by decide +kernel
theorem dX3_sumSpends_62 : decode cX3_sumSpends 62 = .ok (.aload_n 1, 1) := by decide +kernel
theorem dX3_sumSpends_63 : decode cX3_sumSpends 63 = .ok (.getfield 57, 3) := by decide +kernel
theorem dX3_sumSpends_66 : decode cX3_sumSpends 66 = .ok (.iload_n 2, 1) := by decide +kernel
theorem dX3_sumSpends_67 : decode cX3_sumSpends 67 = .ok (.iaload, 1) := by decide +kernel
theorem dX3_sumSpends_68 : decode cX3_sumSpends 68 = .ok (.dup2, 1) := by decide +kernel
theorem dX3_sumSpends_69 : decode cX3_sumSpends 69 = .ok (.iaload, 1) := by decide +kernel
theorem dX3_sumSpends_70 : decode cX3_sumSpends 70 = .ok (.aload_n 0, 1) := by decide +kernel
theorem dX3_sumSpends_71 : decode cX3_sumSpends 71 = .ok (.getfield 32, 3) := by decide +kernel
theorem dX3_sumSpends_74 : decode cX3_sumSpends 74 = .ok (.iload_n 2, 1) := by decide +kernel
theorem dX3_sumSpends_75 : decode cX3_sumSpends 75 = .ok (.iconst 0, 1) := by decide +kernel
theorem dX3_sumSpends_76 : decode cX3_sumSpends 76 = .ok (.invokevirtual 60, 3) := by decide +kernel
theorem dX3_sumSpends_79 : decode cX3_sumSpends 79 = .ok (.iadd, 1) := by decide +kernel
theorem dX3_sumSpends_80 : decode cX3_sumSpends 80 = .ok (.iastore, 1) := by decide +kernel
theorem dX3_sumSpends_81 : decode cX3_sumSpends 81 = .ok (.aload_n 0, 1) := by decide +kernel
theorem dX3_sumSpends_82 : decode cX3_sumSpends 82 = .ok (.getfield 29, 3) := by decide +kernel
theorem dX3_sumSpends_85 : decode cX3_sumSpends 85 = .ok (.aload_n 1, 1) := by decide +kernel
theorem dX3_sumSpends_86 : decode cX3_sumSpends 86 = .ok (.getfield 57, 3) := by decide +kernel
theorem dX3_sumSpends_89 : decode cX3_sumSpends 89 = .ok (.iload_n 2, 1) := by decide +kernel
theorem dX3_sumSpends_90 : decode cX3_sumSpends 90 = .ok (.iaload, 1) := by decide +kernel
theorem dX3_sumSpends_91 : decode cX3_sumSpends 91 = .ok (.dup2, 1) := by decide +kernel
theorem dX3_sumSpends_92 : decode cX3_sumSpends 92 = .ok (.iaload, 1) := by decide +kernel
theorem dX3_sumSpends_93 : decode cX3_sumSpends 93 = .ok (.aload_n 0, 1) := by decide +kernel
theorem dX3_sumSpends_94 : decode cX3_sumSpends 94 = .ok (.getfield 32, 3) := by decide +kernel
theorem dX3_sumSpends_97 : decode cX3_sumSpends 97 = .ok (.iload_n 2, 1) := by decide +kernel
theorem dX3_sumSpends_98 : decode cX3_sumSpends 98 = .ok (.iconst 1, 1) := by decide +kernel
theorem dX3_sumSpends_99 : decode cX3_sumSpends 99 = .ok (.invokevirtual 60, 3) := by decide +kernel
theorem dX3_sumSpends_102 : decode cX3_sumSpends 102 = .ok (.iadd, 1) := by decide +kernel
theorem dX3_sumSpends_103 : decode cX3_sumSpends 103 = .ok (.iastore, 1) := by decide +kernel
theorem dX3_sumSpends_104 : decode cX3_sumSpends 104 = .ok (.iinc 2 1, 3) := by decide +kernel
theorem dX3_sumSpends_107 : decode cX3_sumSpends 107 = .ok (.goto (-69), 3) := by decide +kernel
theorem dX3_sumSpends_110 : decode cX3_sumSpends 110 = .ok (.iconst 1, 1) := by decide +kernel
theorem dX3_sumSpends_111 : decode cX3_sumSpends 111 = .ok (.istore_n 2, 1) := by decide +kernel
theorem dX3_sumSpends_112 : decode cX3_sumSpends 112 = .ok (.iload_n 2, 1) := by decide +kernel
theorem dX3_sumSpends_113 : decode cX3_sumSpends 113 = .ok (.bipush 10, 2) := by decide +kernel
theorem dX3_sumSpends_115 : decode cX3_sumSpends 115 = .ok (.if_icmp .ge 43, 3) := by decide +kernel
theorem dX3_sumSpends_118 : decode cX3_sumSpends 118 = .ok (.aload_n 0, 1) := by decide +kernel
theorem dX3_sumSpends_119 : decode cX3_sumSpends 119 = .ok (.getfield 25, 3) := by decide +kernel
theorem dX3_sumSpends_122 : decode cX3_sumSpends 122 = .ok (.iload_n 2, 1) := by decide +kernel
theorem dX3_sumSpends_123 : decode cX3_sumSpends 123 = .ok (.dup2, 1) := by decide +kernel
theorem dX3_sumSpends_124 : decode cX3_sumSpends 124 = .ok (.iaload, 1) := by decide +kernel
theorem dX3_sumSpends_125 : decode cX3_sumSpends 125 = .ok (.aload_n 0, 1) := by decide +kernel
theorem dX3_sumSpends_126 : decode cX3_sumSpends 126 = .ok (.getfield 25, 3) := by decide +kernel
theorem dX3_sumSpends_129 : decode cX3_sumSpends 129 = .ok (.iload_n 2, 1) := by decide +kernel
theorem dX3_sumSpends_130 : decode cX3_sumSpends 130 = .ok (.iconst 1, 1) := by decide +kernel
end
section
theorem dX3_sumSpends_131 : decode cX3_sumSpends 131 = .ok (.isub, 1) := by decide +kernel
theorem dX3_sumSpends_132 : decode cX3_sumSpends 132 = .ok (.iaload, 1) := by decide +kernel
theorem dX3_sumSpends_133 : decode cX3_sumSpends 133 = .ok (.iadd, 1) := by decide +kernel
theorem dX3_sumSpends_134 : decode cX3_sumSpends 134 = .ok (.iastore, 1) := by decide +kernel
theorem dX3_sumSpends_135 : decode cX3_sumSpends 135 = .ok (.aload_n 0, 1) := by decide +kernel
theorem dX3_sumSpends_136 : decode cX3_sumSpends 136 = .ok (.getfield 29, 3) := by decide +kernel
theorem dX3_sumSpends_139 : decode cX3_sumSpends 139 = .ok (.iload_n 2, 1) := by decide +kernel
theorem dX3_sumSpends_140 : decode cX3_sumSpends 140 = .ok (.dup2, 1) := by decide +kernel
theorem dX3_sumSpends_141 : decode cX3_sumSpends 141 = .ok (.iaload, 1) := by decide +kernel
theorem dX3_sumSpends_142 : decode cX3_sumSpends 142 = .ok (.aload_n 0, 1) := by decide +kernel
theorem dX3_sumSpends_143 : decode cX3_sumSpends 143 = .ok (.getfield 29, 3) := by decide +kernel
theorem dX3_sumSpends_146 : decode cX3_sumSpends 146 = .ok (.iload_n 2, 1) := by decide +kernel
theorem dX3_sumSpends_147 : decode cX3_sumSpends 147 = .ok (.iconst 1, 1) := by decide +kernel
theorem dX3_sumSpends_148 : decode cX3_sumSpends 148 = .ok (.isub, 1) := by decide +kernel
theorem dX3_sumSpends_149 : decode cX3_sumSpends 149 = .ok (.iaload, 1) := by decide +kernel
theorem dX3_sumSpends_150 : decode cX3_sumSpends 150 = .ok (.iadd, 1) := by decide +kernel
theorem dX3_sumSpends_151 : decode cX3_sumSpends 151 = .ok (.iastore, 1) := by decide +kernel
theorem dX3_sumSpends_152 : decode cX3_sumSpends 152 = .ok (.iinc 2 1, 3) := by decide +kernel
theorem dX3_sumSpends_155 : decode cX3_sumSpends 155 = .ok (.goto (-43), 3) := by decide +kernel
theorem dX3_sumSpends_158 : decode cX3_sumSpends 158 = .ok (.return_, 1) := by decide +kernel
theorem dX3_narrowPast_0 : decode cX3_narrowPast 0 = .ok (.aload_n 0, 1) := by decide +kernel
theorem dX3_narrowPast_1 : decode cX3_narrowPast 1 = .ok (.getfield 32, 3) := by decide +kernel
theorem dX3_narrowPast_4 : decode cX3_narrowPast 4 = .ok (.getfield 64, 3) := by decide +kernel
theorem dX3_narrowPast_7 : decode cX3_narrowPast 7 = .ok (.getfield 68, 3) := by decide +kernel
theorem dX3_narrowPast_10 : decode cX3_narrowPast 10 = .ok (.aload_n 0, 1) := by decide +kernel
theorem dX3_narrowPast_11 : decode cX3_narrowPast 11 = .ok (.getfield 9, 3) := by decide +kernel
theorem dX3_narrowPast_14 : decode cX3_narrowPast 14 = .ok (.iaload, 1) := by decide +kernel
theorem dX3_narrowPast_15 : decode cX3_narrowPast 15 = .ok (.istore_n 1, 1) := by decide +kernel
theorem dX3_narrowPast_16 : decode cX3_narrowPast 16 = .ok (.aload_n 0, 1) := by decide +kernel
theorem dX3_narrowPast_17 : decode cX3_narrowPast 17 = .ok (.getfield 32, 3) := by decide +kernel
theorem dX3_narrowPast_20 : decode cX3_narrowPast 20 = .ok (.getfield 64, 3) := by decide +kernel
theorem dX3_narrowPast_23 : decode cX3_narrowPast 23 = .ok (.getfield 73, 3) := by decide +kernel
theorem dX3_narrowPast_26 : decode cX3_narrowPast 26 = .ok (.aload_n 0, 1) := by decide +kernel
theorem dX3_narrowPast_27 : decode cX3_narrowPast 27 = .ok (.getfield 9, 3) := by decide +kernel
theorem dX3_narrowPast_30 : decode cX3_narrowPast 30 = .ok (.iaload, 1) := by decide +kernel
theorem dX3_narrowPast_31 : decode cX3_narrowPast 31 = .ok (.istore_n 2, 1) := by decide +kernel
theorem dX3_narrowPast_32 : decode cX3_narrowPast 32 = .ok (.aload_n 0, 1) := by decide +kernel
theorem dX3_narrowPast_33 : decode cX3_narrowPast 33 = .ok (.getfield 32, 3) := by decide +kernel
theorem dX3_narrowPast_36 : decode cX3_narrowPast 36 = .ok (.getfield 76, 3) := by decide +kernel
theorem dX3_narrowPast_39 : decode cX3_narrowPast 39 = .ok (.astore_n 3, 1) := by decide +kernel
theorem dX3_narrowPast_40 : decode cX3_narrowPast 40 = .ok (.iconst 0, 1) := by decide +kernel
theorem dX3_narrowPast_41 : decode cX3_narrowPast 41 = .ok (.istore 4, 2) := by decide +kernel
theorem dX3_narrowPast_43 : decode cX3_narrowPast 43 = .ok (.iload 4, 2) := by decide +kernel
theorem dX3_narrowPast_45 : decode cX3_narrowPast 45 = .ok (.aload_n 3, 1) := by decide +kernel
theorem dX3_narrowPast_46 : decode cX3_narrowPast 46 = .ok (.getfield 80, 3) := by decide +kernel
theorem dX3_narrowPast_49 : decode cX3_narrowPast 49 = .ok (.if_icmp .ge 83, 3) := by decide +kernel
theorem dX3_narrowPast_52 : decode cX3_narrowPast 52 = .ok (.aload_n 3, 1) := by decide +kernel
theorem dX3_narrowPast_53 : decode cX3_narrowPast 53 = .ok (.getfield 83, 3) := by decide +kernel
theorem dX3_narrowPast_56 : decode cX3_narrowPast 56 = .ok (.iload 4, 2) := by decide +kernel
theorem dX3_narrowPast_58 : decode cX3_narrowPast 58 = .ok (.iaload, 1) := by decide +kernel
theorem dX3_narrowPast_59 : decode cX3_narrowPast 59 = .ok (.aload_n 0, 1) := by decide +kernel
theorem dX3_narrowPast_60 : decode cX3_narrowPast 60 = .ok (.getfield 9, 3) := by decide +kernel
theorem dX3_narrowPast_63 : decode cX3_narrowPast 63 = .ok (.if_icmp .ne 63, 3) := by decide +kernel
theorem dX3_narrowPast_66 : decode cX3_narrowPast 66 = .ok (.aload_n 3, 1) := by decide +kernel
theorem dX3_narrowPast_67 : decode cX3_narrowPast 67 = .ok (.getfield 85, 3) := by decide +kernel
theorem dX3_narrowPast_70 : decode cX3_narrowPast 70 = .ok (.iload 4, 2) := by decide +kernel
theorem dX3_narrowPast_72 : decode cX3_narrowPast 72 = .ok (.iaload, 1) := by decide +kernel
theorem dX3_narrowPast_73 : decode cX3_narrowPast 73 = .ok (.istore 5, 2) := by decide +kernel
theorem dX3_narrowPast_75 : decode cX3_narrowPast 75 = .ok (.aload_n 3, 1) := by decide +kernel
theorem dX3_narrowPast_76 : decode cX3_narrowPast 76 = .ok (.getfield 88, 3) := by decide +kernel
theorem dX3_narrowPast_79 : decode cX3_narrowPast 79 = .ok (.iload 4, 2) := by decide +kernel
theorem dX3_narrowPast_81 : decode cX3_narrowPast 81 = .ok (.iaload, 1) := by decide +kernel
theorem dX3_narrowPast_82 : decode cX3_narrowPast 82 = .ok (.istore 6, 2) := by decide +kernel
theorem dX3_narrowPast_84 : decode cX3_narrowPast 84 = .ok (.iload_n 1, 1) := by decide +kernel
theorem dX3_narrowPast_85 : decode cX3_narrowPast 85 = .ok (.getstatic 89, 3) := by decide +kernel
theorem dX3_narrowPast_88 : decode cX3_narrowPast 88 = .ok (.iload 5, 2) := by decide +kernel
theorem dX3_narrowPast_90 : decode cX3_narrowPast 90 = .ok (.iaload, 1) := by decide +kernel
theorem dX3_narrowPast_91 : decode cX3_narrowPast 91 = .ok (.aload_n 0, 1) := by decide +kernel
theorem dX3_narrowPast_92 : decode cX3_narrowPast 92 = .ok (.getfield 29, 3) := by decide +kernel
theorem dX3_narrowPast_95 : decode cX3_narrowPast 95 = .ok (.iload 6, 2) := by decide +kernel
theorem dX3_narrowPast_97 : decode cX3_narrowPast 97 = .ok (.iaload, 1) := by decide +kernel
theorem dX3_narrowPast_98 : decode cX3_narrowPast 98 = .ok (.isub, 1) := by decide +kernel
theorem dX3_narrowPast_99 : decode cX3_narrowPast 99 = .ok (.invokestatic 92, 3) := by decide +kernel
theorem dX3_narrowPast_102 : decode cX3_narrowPast 102 = .ok (.istore_n 1, 1) := by decide +kernel
theorem dX3_narrowPast_103 : decode cX3_narrowPast 103 = .ok (.iload_n 2, 1) := by decide +kernel
theorem dX3_narrowPast_104 : decode cX3_narrowPast 104 = .ok (.getstatic 89, 3) := by decide +kernel
theorem dX3_narrowPast_107 : decode cX3_narrowPast 107 = .ok (.iload 5, 2) := by decide +kernel
theorem dX3_narrowPast_109 : decode cX3_narrowPast 109 = .ok (.iconst 1, 1) := by decide +kernel
theorem dX3_narrowPast_110 : decode cX3_narrowPast 110 = .ok (.iadd, 1) := by decide +kernel
theorem dX3_narrowPast_111 : decode cX3_narrowPast 111 = .ok (.iaload, 1) := by decide +kernel
theorem dX3_narrowPast_112 : decode cX3_narrowPast 112 = .ok (.iconst 1, 1) := by decide +kernel
theorem dX3_narrowPast_113 : decode cX3_narrowPast 113 = .ok (.isub, 1) := by decide +kernel
theorem dX3_narrowPast_114 : decode cX3_narrowPast 114 = .ok (.aload_n 0, 1) := by decide +kernel
theorem dX3_narrowPast_115 : decode cX3_narrowPast 115 = .ok (.getfield 25, 3) := by decide +kernel
theorem dX3_narrowPast_118 : decode cX3_narrowPast 118 = .ok (.iload 6, 2) := by decide +kernel
theorem dX3_narrowPast_120 : decode cX3_narrowPast 120 = .ok (.iaload, 1) := by decide +kernel
theorem dX3_narrowPast_121 : decode cX3_narrowPast 121 = .ok (.isub, 1) := by decide +kernel
theorem dX3_narrowPast_122 : decode cX3_narrowPast 122 = .ok (.invokestatic 98, 3) := by decide +kernel
theorem dX3_narrowPast_125 : decode cX3_narrowPast 125 = .ok (.istore_n 2, 1) := by decide +kernel
theorem dX3_narrowPast_126 : decode cX3_narrowPast 126 = .ok (.iinc 4 1, 3) := by decide +kernel
theorem dX3_narrowPast_129 : decode cX3_narrowPast 129 = .ok (.goto (-86), 3) := by decide +kernel
theorem dX3_narrowPast_132 : decode cX3_narrowPast 132 = .ok (.aload_n 0, 1) := by decide +kernel
theorem dX3_narrowPast_133 : decode cX3_narrowPast 133 = .ok (.iload_n 1, 1) := by decide +kernel
theorem dX3_narrowPast_134 : decode cX3_narrowPast 134 = .ok (.iload_n 2, 1) := by decide +kernel
theorem dX3_narrowPast_135 : decode cX3_narrowPast 135 = .ok (.if_icmp .le 7, 3) := by decide +kernel
theorem dX3_narrowPast_138 : decode cX3_narrowPast 138 = .ok (.iconst 1, 1) := by decide +kernel
theorem dX3_narrowPast_139 : decode cX3_narrowPast 139 = .ok (.goto 4, 3) := by decide +kernel
theorem dX3_narrowPast_142 : decode cX3_narrowPast 142 = .ok (.iconst 0, 1) := by decide +kernel
theorem dX3_narrowPast_143 : decode cX3_narrowPast 143 = .ok (.putfield 15, 3) := by decide +kernel
theorem dX3_narrowPast_146 : decode cX3_narrowPast 146 = .ok (.aload_n 0, 1) := by decide +kernel
theorem dX3_narrowPast_147 : decode cX3_narrowPast 147 = .ok (.aload_n 0, 1) := by decide +kernel
theorem dX3_narrowPast_148 : decode cX3_narrowPast 148 = .ok (.getfield 15, 3) := by decide +kernel
theorem dX3_narrowPast_151 : decode cX3_narrowPast 151 = .ok (.ifCond .eq 21, 3) := by decide +kernel
theorem dX3_narrowPast_154 : decode cX3_narrowPast 154 = .ok (.aload_n 0, 1) := by decide +kernel
theorem dX3_narrowPast_155 : decode cX3_narrowPast 155 = .ok (.getfield 32, 3) := by decide +kernel
theorem dX3_narrowPast_158 : decode cX3_narrowPast 158 = .ok (.getfield 64, 3) := by decide +kernel
theorem dX3_narrowPast_161 : decode cX3_narrowPast 161 = .ok (.getfield 68, 3) := by decide +kernel
theorem dX3_narrowPast_164 : decode cX3_narrowPast 164 = .ok (.aload_n 0, 1) := by decide +kernel
theorem dX3_narrowPast_165 : decode cX3_narrowPast 165 = .ok (.getfield 9, 3) := by decide +kernel
theorem dX3_narrowPast_168 : decode cX3_narrowPast 168 = .ok (.iaload, 1) := by decide +kernel
theorem dX3_narrowPast_169 : decode cX3_narrowPast 169 = .ok (.goto 4, 3) := by decide +kernel
theorem dX3_narrowPast_172 : decode cX3_narrowPast 172 = .ok (.iload_n 1, 1) := by decide +kernel
theorem dX3_narrowPast_173 : decode cX3_narrowPast 173 = .ok (.putfield 19, 3) := by decide +kernel
theorem dX3_narrowPast_176 : decode cX3_narrowPast 176 = .ok (.aload_n 0, 1) := by decide +kernel
theorem dX3_narrowPast_177 : decode cX3_narrowPast 177 = .ok (.aload_n 0, 1) := by decide +kernel
theorem dX3_narrowPast_178 : decode cX3_narrowPast 178 = .ok (.getfield 15, 3) := by decide +kernel
theorem dX3_narrowPast_181 : decode cX3_narrowPast 181 = .ok (.ifCond .eq 21, 3) := by decide +kernel
theorem dX3_narrowPast_184 : decode cX3_narrowPast 184 = .ok (.aload_n 0, 1) := by decide +kernel
theorem dX3_narrowPast_185 : decode cX3_narrowPast 185 = .ok (.getfield 32, 3) := by decide +kernel
theorem dX3_narrowPast_188 : decode cX3_narrowPast 188 = .ok (.getfield 64, 3) := by decide +kernel
theorem dX3_narrowPast_191 : decode cX3_narrowPast 191 = .ok (.getfield 73, 3) := by decide +kernel
theorem dX3_narrowPast_194 : decode cX3_narrowPast 194 = .ok (.aload_n 0, 1) := by decide +kernel
theorem dX3_narrowPast_195 : decode cX3_narrowPast 195 = .ok (.getfield 9, 3) := by decide +kernel
theorem dX3_narrowPast_198 : decode cX3_narrowPast 198 = .ok (.iaload, 1) := by decide +kernel
theorem dX3_narrowPast_199 : decode cX3_narrowPast 199 = .ok (.goto 4, 3) := by decide +kernel
theorem dX3_narrowPast_202 : decode cX3_narrowPast 202 = .ok (.iload_n 2, 1) := by decide +kernel
theorem dX3_narrowPast_203 : decode cX3_narrowPast 203 = .ok (.putfield 22, 3) := by decide +kernel
theorem dX3_narrowPast_206 : decode cX3_narrowPast 206 = .ok (.return_, 1) := by decide +kernel
theorem dX3_pastEnd_0 : decode cX3_pastEnd 0 = .ok (.iload_n 1, 1) := by decide +kernel
theorem dX3_pastEnd_1 : decode cX3_pastEnd 1 = .ok (.ifCond .eq 10, 3) := by decide +kernel
theorem dX3_pastEnd_4 : decode cX3_pastEnd 4 = .ok (.aload_n 0, 1) := by decide +kernel
theorem dX3_pastEnd_5 : decode cX3_pastEnd 5 = .ok (.getfield 22, 3) := by decide +kernel
theorem dX3_pastEnd_8 : decode cX3_pastEnd 8 = .ok (.goto 7, 3) := by decide +kernel
theorem dX3_pastEnd_11 : decode cX3_pastEnd 11 = .ok (.aload_n 0, 1) := by decide +kernel
theorem dX3_pastEnd_12 : decode cX3_pastEnd 12 = .ok (.getfield 19, 3) := by decide +kernel
theorem dX3_pastEnd_15 : decode cX3_pastEnd 15 = .ok (.ireturn, 1) := by decide +kernel
theorem dX3_spentEnd_0 : decode cX3_spentEnd 0 = .ok (.iload_n 2, 1) := by decide +kernel
theorem dX3_spentEnd_1 : decode cX3_spentEnd 1 = .ok (.ifCond .eq 17, 3) := by decide +kernel
theorem dX3_spentEnd_4 : decode cX3_spentEnd 4 = .ok (.aload_n 0, 1) := by decide +kernel
theorem dX3_spentEnd_5 : decode cX3_spentEnd 5 = .ok (.getfield 22, 3) := by decide +kernel
theorem dX3_spentEnd_8 : decode cX3_spentEnd 8 = .ok (.aload_n 0, 1) := by decide +kernel
theorem dX3_spentEnd_9 : decode cX3_spentEnd 9 = .ok (.getfield 29, 3) := by decide +kernel
theorem dX3_spentEnd_12 : decode cX3_spentEnd 12 = .ok (.iload_n 1, 1) := by decide +kernel
theorem dX3_spentEnd_13 : decode cX3_spentEnd 13 = .ok (.iaload, 1) := by decide +kernel
theorem dX3_spentEnd_14 : decode cX3_spentEnd 14 = .ok (.iadd, 1) := by decide +kernel
theorem dX3_spentEnd_15 : decode cX3_spentEnd 15 = .ok (.goto 14, 3) := by decide +kernel
theorem dX3_spentEnd_18 : decode cX3_spentEnd 18 = .ok (.aload_n 0, 1) := by decide +kernel
theorem dX3_spentEnd_19 : decode cX3_spentEnd 19 = .ok (.getfield 19, 3) := by decide +kernel
theorem dX3_spentEnd_22 : decode cX3_spentEnd 22 = .ok (.aload_n 0, 1) := by decide +kernel
theorem dX3_spentEnd_23 : decode cX3_spentEnd 23 = .ok (.getfield 25, 3) := by decide +kernel
theorem dX3_spentEnd_26 : decode cX3_spentEnd 26 = .ok (.iload_n 1, 1) := by decide +kernel
theorem dX3_spentEnd_27 : decode cX3_spentEnd 27 = .ok (.iaload, 1) := by decide +kernel
theorem dX3_spentEnd_28 : decode cX3_spentEnd 28 = .ok (.iadd, 1) := by decide +kernel
theorem dX3_spentEnd_29 : decode cX3_spentEnd 29 = .ok (.ireturn, 1) := by decide +kernel
theorem dX3_leftEnd_0 : decode cX3_leftEnd 0 = .ok (.aload_n 0, 1) := by decide +kernel
theorem dX3_leftEnd_1 : decode cX3_leftEnd 1 = .ok (.getfield 32, 3) := by decide +kernel
theorem dX3_leftEnd_4 : decode cX3_leftEnd 4 = .ok (.getfield 64, 3) := by decide +kernel
theorem dX3_leftEnd_7 : decode cX3_leftEnd 7 = .ok (.getfield 101, 3) := by decide +kernel
theorem dX3_leftEnd_10 : decode cX3_leftEnd 10 = .ok (.aload_n 0, 1) := by decide +kernel
theorem dX3_leftEnd_11 : decode cX3_leftEnd 11 = .ok (.getfield 9, 3) := by decide +kernel
theorem dX3_leftEnd_14 : decode cX3_leftEnd 14 = .ok (.iaload, 1) := by decide +kernel
theorem dX3_leftEnd_15 : decode cX3_leftEnd 15 = .ok (.aload_n 0, 1) := by decide +kernel
theorem dX3_leftEnd_16 : decode cX3_leftEnd 16 = .ok (.bipush 9, 2) := by decide +kernel
theorem dX3_leftEnd_18 : decode cX3_leftEnd 18 = .ok (.iload_n 1, 1) := by decide +kernel
theorem dX3_leftEnd_19 : decode cX3_leftEnd 19 = .ok (.ifCond .ne 7, 3) := by decide +kernel
theorem dX3_leftEnd_22 : decode cX3_leftEnd 22 = .ok (.iconst 1, 1) := by decide +kernel
theorem dX3_leftEnd_23 : decode cX3_leftEnd 23 = .ok (.goto 4, 3) := by decide +kernel
theorem dX3_leftEnd_26 : decode cX3_leftEnd 26 = .ok (.iconst 0, 1) := by decide +kernel
theorem dX3_leftEnd_27 : decode cX3_leftEnd 27 = .ok (.invokevirtual 104, 3) := by decide +kernel
theorem dX3_leftEnd_30 : decode cX3_leftEnd 30 = .ok (.isub, 1) := by decide +kernel
theorem dX3_leftEnd_31 : decode cX3_leftEnd 31 = .ok (.ireturn, 1) := by decide +kernel
theorem dX3_countQuarrels_0 : decode cX3_countQuarrels 0 = .ok (.iconst 0, 1) := by decide +kernel
theorem dX3_countQuarrels_1 : decode cX3_countQuarrels 1 = .ok (.istore_n 1, 1) := by decide +kernel
theorem dX3_countQuarrels_2 : decode cX3_countQuarrels 2 = .ok (.iconst 0, 1) := by decide +kernel
theorem dX3_countQuarrels_3 : decode cX3_countQuarrels 3 = .ok (.istore_n 2, 1) := by decide +kernel
theorem dX3_countQuarrels_4 : decode cX3_countQuarrels 4 = .ok (.iload_n 2, 1) := by decide +kernel
theorem dX3_countQuarrels_5 : decode cX3_countQuarrels 5 = .ok (.aload_n 0, 1) := by decide +kernel
theorem dX3_countQuarrels_6 : decode cX3_countQuarrels 6 = .ok (.getfield 32, 3) := by decide +kernel
theorem dX3_countQuarrels_9 : decode cX3_countQuarrels 9 = .ok (.getfield 64, 3) := by decide +kernel
theorem dX3_countQuarrels_12 : decode cX3_countQuarrels 12 = .ok (.getfield 107, 3) := by decide +kernel
theorem dX3_countQuarrels_15 : decode cX3_countQuarrels 15 = .ok (.if_icmp .ge 23, 3) := by decide +kernel
theorem dX3_countQuarrels_18 : decode cX3_countQuarrels 18 = .ok (.aload_n 0, 1) := by decide +kernel
theorem dX3_countQuarrels_19 : decode cX3_countQuarrels 19 = .ok (.iload_n 2, 1) := by decide +kernel
theorem dX3_countQuarrels_20 : decode cX3_countQuarrels 20 = .ok (.invokevirtual 108, 3) := by decide +kernel
theorem dX3_countQuarrels_23 : decode cX3_countQuarrels 23 = .ok (.getfield 15, 3) := by decide +kernel
theorem dX3_countQuarrels_26 : decode cX3_countQuarrels 26 = .ok (.ifCond .eq 6, 3) := by decide +kernel
theorem dX3_countQuarrels_29 : decode cX3_countQuarrels 29 = .ok (.iinc 1 1, 3) := by decide +kernel
theorem dX3_countQuarrels_32 : decode cX3_countQuarrels 32 = .ok (.iinc 2 1, 3) := by decide +kernel
theorem dX3_countQuarrels_35 : decode cX3_countQuarrels 35 = .ok (.goto (-31), 3) := by decide +kernel
theorem dX3_countQuarrels_38 : decode cX3_countQuarrels 38 = .ok (.iload_n 1, 1) := by decide +kernel
theorem dX3_countQuarrels_39 : decode cX3_countQuarrels 39 = .ok (.ireturn, 1) := by decide +kernel
theorem dX3_countOverspent_0 : decode cX3_countOverspent 0 = .ok (.iconst 0, 1) := by decide +kernel
theorem dX3_countOverspent_1 : decode cX3_countOverspent 1 = .ok (.istore_n 1, 1) := by decide +kernel
theorem dX3_countOverspent_2 : decode cX3_countOverspent 2 = .ok (.iconst 0, 1) := by decide +kernel
theorem dX3_countOverspent_3 : decode cX3_countOverspent 3 = .ok (.istore_n 2, 1) := by decide +kernel
theorem dX3_countOverspent_4 : decode cX3_countOverspent 4 = .ok (.iload_n 2, 1) := by decide +kernel
theorem dX3_countOverspent_5 : decode cX3_countOverspent 5 = .ok (.aload_n 0, 1) := by decide +kernel
theorem dX3_countOverspent_6 : decode cX3_countOverspent 6 = .ok (.getfield 32, 3) := by decide +kernel
theorem dX3_countOverspent_9 : decode cX3_countOverspent 9 = .ok (.getfield 64, 3) := by decide +kernel
theorem dX3_countOverspent_12 : decode cX3_countOverspent 12 = .ok (.getfield 107, 3) := by decide +kernel
theorem dX3_countOverspent_15 : decode cX3_countOverspent 15 = .ok (.if_icmp .ge 24, 3) := by decide +kernel
theorem dX3_countOverspent_18 : decode cX3_countOverspent 18 = .ok (.aload_n 0, 1) := by decide +kernel
theorem dX3_countOverspent_19 : decode cX3_countOverspent 19 = .ok (.iload_n 2, 1) := by decide +kernel
theorem dX3_countOverspent_20 : decode cX3_countOverspent 20 = .ok (.invokevirtual 108, 3) := by decide +kernel
theorem dX3_countOverspent_23 : decode cX3_countOverspent 23 = .ok (.iconst 0, 1) := by decide +kernel
theorem dX3_countOverspent_24 : decode cX3_countOverspent 24 = .ok (.invokevirtual 112, 3) := by decide +kernel
theorem dX3_countOverspent_27 : decode cX3_countOverspent 27 = .ok (.ifCond .ge 6, 3) := by decide +kernel
theorem dX3_countOverspent_30 : decode cX3_countOverspent 30 = .ok (.iinc 1 1, 3) := by decide +kernel
theorem dX3_countOverspent_33 : decode cX3_countOverspent 33 = .ok (.iinc 2 1, 3) := by decide +kernel
theorem dX3_countOverspent_36 : decode cX3_countOverspent 36 = .ok (.goto (-32), 3) := by decide +kernel
theorem dX3_countOverspent_39 : decode cX3_countOverspent 39 = .ok (.iload_n 1, 1) := by decide +kernel
theorem dX3_countOverspent_40 : decode cX3_countOverspent 40 = .ok (.ireturn, 1) := by decide +kernel
theorem dX4_init_0 : decode cX4_init 0 = .ok (.aload_n 0, 1) := by decide +kernel
theorem dX4_init_1 : decode cX4_init 1 = .ok (.invokespecial 3, 3) := by decide +kernel
theorem dX4_init_4 : decode cX4_init 4 = .ok (.aload_n 0, 1) := by decide +kernel
theorem dX4_init_5 : decode cX4_init 5 = .ok (.iconst 0, 1) := by decide +kernel
theorem dX4_init_6 : decode cX4_init 6 = .ok (.putfield 9, 3) := by decide +kernel
theorem dX4_init_9 : decode cX4_init 9 = .ok (.aload_n 0, 1) := by decide +kernel
theorem dX4_init_10 : decode cX4_init 10 = .ok (.iconst 4, 1) := by decide +kernel
theorem dX4_init_11 : decode cX4_init 11 = .ok (.newarray .int, 2) := by decide +kernel
theorem dX4_init_13 : decode cX4_init 13 = .ok (.putfield 15, 3) := by decide +kernel
theorem dX4_init_16 : decode cX4_init 16 = .ok (.aload_n 0, 1) := by decide +kernel
theorem dX4_init_17 : decode cX4_init 17 = .ok (.bipush 40, 2) := by decide +kernel
theorem dX4_init_19 : decode cX4_init 19 = .ok (.newarray .int, 2) := by decide +kernel
theorem dX4_init_21 : decode cX4_init 21 = .ok (.putfield 19, 3) := by decide +kernel
theorem dX4_init_24 : decode cX4_init 24 = .ok (.return_, 1) := by decide +kernel
theorem dX4_has_0 : decode cX4_has 0 = .ok (.iload_n 1, 1) := by decide +kernel
theorem dX4_has_1 : decode cX4_has 1 = .ok (.ifCond .lt 15, 3) := by decide +kernel
theorem dX4_has_4 : decode cX4_has 4 = .ok (.iload_n 1, 1) := by decide +kernel
theorem dX4_has_5 : decode cX4_has 5 = .ok (.aload_n 0, 1) := by decide +kernel
theorem dX4_has_6 : decode cX4_has 6 = .ok (.getfield 9, 3) := by decide +kernel
theorem dX4_has_9 : decode cX4_has 9 = .ok (.if_icmp .ge 7, 3) := by decide +kernel
theorem dX4_has_12 : decode cX4_has 12 = .ok (.iconst 1, 1) := by decide +kernel
theorem dX4_has_13 : decode cX4_has 13 = .ok (.goto 4, 3) := by decide +kernel
theorem dX4_has_16 : decode cX4_has 16 = .ok (.iconst 0, 1) := by decide +kernel
theorem dX4_has_17 : decode cX4_has 17 = .ok (.ireturn, 1) := by decide +kernel
theorem dX4_add_0 : decode cX4_add 0 = .ok (.aload_n 0, 1) := by decide +kernel
theorem dX4_add_1 : decode cX4_add 1 = .ok (.getfield 9, 3) := by decide +kernel
theorem dX4_add_4 : decode cX4_add 4 = .ok (.iconst 4, 1) := by decide +kernel
theorem dX4_add_5 : decode cX4_add 5 = .ok (.if_icmp .lt 6, 3) := by decide +kernel
theorem dX4_add_8 : decode cX4_add 8 = .ok (.bipush (-2), 2) := by decide +kernel
theorem dX4_add_10 : decode cX4_add 10 = .ok (.ireturn, 1) := by decide +kernel
theorem dX4_add_11 : decode cX4_add 11 = .ok (.aload_n 0, 1) := by decide +kernel
theorem dX4_add_12 : decode cX4_add 12 = .ok (.getfield 15, 3) := by decide +kernel
theorem dX4_add_15 : decode cX4_add 15 = .ok (.aload_n 0, 1) := by decide +kernel
theorem dX4_add_16 : decode cX4_add 16 = .ok (.getfield 9, 3) := by decide +kernel
theorem dX4_add_19 : decode cX4_add 19 = .ok (.iload_n 1, 1) := by decide +kernel
theorem dX4_add_20 : decode cX4_add 20 = .ok (.iastore, 1) := by decide +kernel
theorem dX4_add_21 : decode cX4_add 21 = .ok (.iconst 0, 1) := by decide +kernel
theorem dX4_add_22 : decode cX4_add 22 = .ok (.istore_n 2, 1) := by decide +kernel
theorem dX4_add_23 : decode cX4_add 23 = .ok (.iload_n 2, 1) := by decide +kernel
theorem dX4_add_24 : decode cX4_add 24 = .ok (.bipush 10, 2) := by decide +kernel
theorem dX4_add_26 : decode cX4_add 26 = .ok (.if_icmp .ge 19, 3) := by decide +kernel
theorem dX4_add_29 : decode cX4_add 29 = .ok (.aload_n 0, 1) := by decide +kernel
theorem dX4_add_30 : decode cX4_add 30 = .ok (.aload_n 0, 1) := by decide +kernel
theorem dX4_add_31 : decode cX4_add 31 = .ok (.getfield 9, 3) := by decide +kernel
theorem dX4_add_34 : decode cX4_add 34 = .ok (.iload_n 2, 1) := by decide +kernel
theorem dX4_add_35 : decode cX4_add 35 = .ok (.iconst (-1), 1) := by decide +kernel
theorem dX4_add_36 : decode cX4_add 36 = .ok (.invokevirtual 22, 3) := by decide +kernel
theorem dX4_add_39 : decode cX4_add 39 = .ok (.iinc 2 1, 3) := by decide +kernel
theorem dX4_add_42 : decode cX4_add 42 = .ok (.goto (-19), 3) := by decide +kernel
theorem dX4_add_45 : decode cX4_add 45 = .ok (.aload_n 0, 1) := by decide +kernel
theorem dX4_add_46 : decode cX4_add 46 = .ok (.dup, 1) := by decide +kernel
theorem dX4_add_47 : decode cX4_add 47 = .ok (.getfield 9, 3) := by decide +kernel
theorem dX4_add_50 : decode cX4_add 50 = .ok (.iconst 1, 1) := by decide +kernel
theorem dX4_add_51 : decode cX4_add 51 = .ok (.iadd, 1) := by decide +kernel
theorem dX4_add_52 : decode cX4_add 52 = .ok (.putfield 9, 3) := by decide +kernel
theorem dX4_add_55 : decode cX4_add 55 = .ok (.aload_n 0, 1) := by decide +kernel
theorem dX4_add_56 : decode cX4_add 56 = .ok (.getfield 9, 3) := by decide +kernel
theorem dX4_add_59 : decode cX4_add 59 = .ok (.iconst 1, 1) := by decide +kernel
theorem dX4_add_60 : decode cX4_add 60 = .ok (.isub, 1) := by decide +kernel
theorem dX4_add_61 : decode cX4_add 61 = .ok (.ireturn, 1) := by decide +kernel
theorem dX4_read_0 : decode cX4_read 0 = .ok (.aload_n 0, 1) := by decide +kernel
theorem dX4_read_1 : decode cX4_read 1 = .ok (.getfield 19, 3) := by decide +kernel
theorem dX4_read_4 : decode cX4_read 4 = .ok (.iload_n 1, 1) := by decide +kernel
theorem dX4_read_5 : decode cX4_read 5 = .ok (.bipush 10, 2) := by decide +kernel
theorem dX4_read_7 : decode cX4_read 7 = .ok (.imul, 1) := by decide +kernel
theorem dX4_read_8 : decode cX4_read 8 = .ok (.iload_n 2, 1) := by decide +kernel
theorem dX4_read_9 : decode cX4_read 9 = .ok (.iadd, 1) := by decide +kernel
theorem dX4_read_10 : decode cX4_read 10 = .ok (.iload_n 3, 1) := by decide +kernel
theorem dX4_read_11 : decode cX4_read 11 = .ok (.iastore, 1) := by decide +kernel
theorem dX4_read_12 : decode cX4_read 12 = .ok (.return_, 1) := by decide +kernel
theorem dX4_lightEnd_0 : decode cX4_lightEnd 0 = .ok (.aload_n 0, 1) := by decide +kernel
theorem dX4_lightEnd_1 : decode cX4_lightEnd 1 = .ok (.getfield 19, 3) := by decide +kernel
theorem dX4_lightEnd_4 : decode cX4_lightEnd 4 = .ok (.iload_n 1, 1) := by decide +kernel
theorem dX4_lightEnd_5 : decode cX4_lightEnd 5 = .ok (.bipush 10, 2) := by decide +kernel
theorem dX4_lightEnd_7 : decode cX4_lightEnd 7 = .ok (.imul, 1) := by decide +kernel
theorem dX4_lightEnd_8 : decode cX4_lightEnd 8 = .ok (.iload_n 2, 1) := by decide +kernel
theorem dX4_lightEnd_9 : decode cX4_lightEnd 9 = .ok (.iadd, 1) := by decide +kernel
theorem dX4_lightEnd_10 : decode cX4_lightEnd 10 = .ok (.iaload, 1) := by decide +kernel
theorem dX4_lightEnd_11 : decode cX4_lightEnd 11 = .ok (.istore 4, 2) := by decide +kernel
theorem dX4_lightEnd_13 : decode cX4_lightEnd 13 = .ok (.iload 4, 2) := by decide +kernel
theorem dX4_lightEnd_15 : decode cX4_lightEnd 15 = .ok (.iconst (-1), 1) := by decide +kernel
theorem dX4_lightEnd_16 : decode cX4_lightEnd 16 = .ok (.if_icmp .eq 6, 3) := by decide +kernel
theorem dX4_lightEnd_19 : decode cX4_lightEnd 19 = .ok (.iload 4, 2) := by decide +kernel
theorem dX4_lightEnd_21 : decode cX4_lightEnd 21 = .ok (.ireturn, 1) := by decide +kernel
theorem dX4_lightEnd_22 : decode cX4_lightEnd 22 = .ok (.iload_n 3, 1) := by decide +kernel
theorem dX4_lightEnd_23 : decode cX4_lightEnd 23 = .ok (.ifCond .eq 12, 3) := by decide +kernel
theorem dX4_lightEnd_26 : decode cX4_lightEnd 26 = .ok (.aload_n 0, 1) := by decide +kernel
theorem dX4_lightEnd_27 : decode cX4_lightEnd 27 = .ok (.getfield 15, 3) := by decide +kernel
theorem dX4_lightEnd_30 : decode cX4_lightEnd 30 = .ok (.iload_n 1, 1) := by decide +kernel
theorem dX4_lightEnd_31 : decode cX4_lightEnd 31 = .ok (.iaload, 1) := by decide +kernel
theorem dX4_lightEnd_32 : decode cX4_lightEnd 32 = .ok (.goto 4, 3) := by decide +kernel
theorem dX4_lightEnd_35 : decode cX4_lightEnd 35 = .ok (.iconst 0, 1) := by decide +kernel
theorem dX4_lightEnd_36 : decode cX4_lightEnd 36 = .ok (.ireturn, 1) := by decide +kernel
theorem dX4_countReadings_0 : decode cX4_countReadings 0 = .ok (.iconst 0, 1) := by decide +kernel
theorem dX4_countReadings_1 : decode cX4_countReadings 1 = .ok (.istore_n 1, 1) := by decide +kernel
theorem dX4_countReadings_2 : decode cX4_countReadings 2 = .ok (.iconst 0, 1) := by decide +kernel
theorem dX4_countReadings_3 : decode cX4_countReadings 3 = .ok (.istore_n 2, 1) := by decide +kernel
theorem dX4_countReadings_4 : decode cX4_countReadings 4 = .ok (.iload_n 2, 1) := by decide +kernel
theorem dX4_countReadings_5 : decode cX4_countReadings 5 = .ok (.aload_n 0, 1) := by decide +kernel
theorem dX4_countReadings_6 : decode cX4_countReadings 6 = .ok (.getfield 9, 3) := by decide +kernel
theorem dX4_countReadings_9 : decode cX4_countReadings 9 = .ok (.bipush 10, 2) := by decide +kernel
theorem dX4_countReadings_11 : decode cX4_countReadings 11 = .ok (.imul, 1) := by decide +kernel
theorem dX4_countReadings_12 : decode cX4_countReadings 12 = .ok (.if_icmp .ge 22, 3) := by decide +kernel
theorem dX4_countReadings_15 : decode cX4_countReadings 15 = .ok (.aload_n 0, 1) := by decide +kernel
theorem dX4_countReadings_16 : decode cX4_countReadings 16 = .ok (.getfield 19, 3) := by decide +kernel
theorem dX4_countReadings_19 : decode cX4_countReadings 19 = .ok (.iload_n 2, 1) := by decide +kernel
theorem dX4_countReadings_20 : decode cX4_countReadings 20 = .ok (.iaload, 1) := by decide +kernel
theorem dX4_countReadings_21 : decode cX4_countReadings 21 = .ok (.iconst (-1), 1) := by decide +kernel
theorem dX4_countReadings_22 : decode cX4_countReadings 22 = .ok (.if_icmp .eq 6, 3) := by decide +kernel
theorem dX4_countReadings_25 : decode cX4_countReadings 25 = .ok (.iinc 1 1, 3) := by decide +kernel
theorem dX4_countReadings_28 : decode cX4_countReadings 28 = .ok (.iinc 2 1, 3) := by decide +kernel
theorem dX4_countReadings_31 : decode cX4_countReadings 31 = .ok (.goto (-27), 3) := by decide +kernel
theorem dX4_countReadings_34 : decode cX4_countReadings 34 = .ok (.iload_n 1, 1) := by decide +kernel
theorem dX4_countReadings_35 : decode cX4_countReadings 35 = .ok (.ireturn, 1) := by decide +kernel
theorem dX4_copyFrom_0 : decode cX4_copyFrom 0 = .ok (.aload_n 0, 1) := by decide +kernel
theorem dX4_copyFrom_1 : decode cX4_copyFrom 1 = .ok (.aload_n 1, 1) := by decide +kernel
theorem dX4_copyFrom_2 : decode cX4_copyFrom 2 = .ok (.getfield 9, 3) := by decide +kernel
theorem dX4_copyFrom_5 : decode cX4_copyFrom 5 = .ok (.putfield 9, 3) := by decide +kernel
theorem dX4_copyFrom_8 : decode cX4_copyFrom 8 = .ok (.aload_n 1, 1) := by decide +kernel
theorem dX4_copyFrom_9 : decode cX4_copyFrom 9 = .ok (.getfield 15, 3) := by decide +kernel
theorem dX4_copyFrom_12 : decode cX4_copyFrom 12 = .ok (.aload_n 0, 1) := by decide +kernel
theorem dX4_copyFrom_13 : decode cX4_copyFrom 13 = .ok (.getfield 15, 3) := by decide +kernel
theorem dX4_copyFrom_16 : decode cX4_copyFrom 16 = .ok (.invokestatic 26, 3) := by decide +kernel
theorem dX4_copyFrom_19 : decode cX4_copyFrom 19 = .ok (.aload_n 1, 1) := by decide +kernel
theorem dX4_copyFrom_20 : decode cX4_copyFrom 20 = .ok (.getfield 19, 3) := by decide +kernel
theorem dX4_copyFrom_23 : decode cX4_copyFrom 23 = .ok (.aload_n 0, 1) := by decide +kernel
theorem dX4_copyFrom_24 : decode cX4_copyFrom 24 = .ok (.getfield 19, 3) := by decide +kernel
theorem dX4_copyFrom_27 : decode cX4_copyFrom 27 = .ok (.invokestatic 26, 3) := by decide +kernel
theorem dX4_copyFrom_30 : decode cX4_copyFrom 30 = .ok (.return_, 1) := by decide +kernel
theorem dX5_init_0 : decode cX5_init 0 = .ok (.aload_n 0, 1) := by decide +kernel
theorem dX5_init_1 : decode cX5_init 1 = .ok (.invokespecial 3, 3) := by decide +kernel
theorem dX5_init_4 : decode cX5_init 4 = .ok (.aload_n 0, 1) := by decide +kernel
theorem dX5_init_5 : decode cX5_init 5 = .ok (.iconst 0, 1) := by decide +kernel
theorem dX5_init_6 : decode cX5_init 6 = .ok (.putfield 9, 3) := by decide +kernel
theorem dX5_init_9 : decode cX5_init 9 = .ok (.aload_n 0, 1) := by decide +kernel
theorem dX5_init_10 : decode cX5_init 10 = .ok (.bipush 8, 2) := by decide +kernel
theorem dX5_init_12 : decode cX5_init 12 = .ok (.newarray .int, 2) := by decide +kernel
theorem dX5_init_14 : decode cX5_init 14 = .ok (.putfield 15, 3) := by decide +kernel
theorem dX5_init_17 : decode cX5_init 17 = .ok (.aload_n 0, 1) := by decide +kernel
theorem dX5_init_18 : decode cX5_init 18 = .ok (.bipush 8, 2) := by decide +kernel
theorem dX5_init_20 : decode cX5_init 20 = .ok (.newarray .int, 2) := by decide +kernel
theorem dX5_init_22 : decode cX5_init 22 = .ok (.putfield 19, 3) := by decide +kernel
theorem dX5_init_25 : decode cX5_init 25 = .ok (.aload_n 0, 1) := by decide +kernel
theorem dX5_init_26 : decode cX5_init 26 = .ok (.bipush 8, 2) := by decide +kernel
theorem dX5_init_28 : decode cX5_init 28 = .ok (.newarray .int, 2) := by decide +kernel
theorem dX5_init_30 : decode cX5_init 30 = .ok (.putfield 22, 3) := by decide +kernel
theorem dX5_init_33 : decode cX5_init 33 = .ok (.aload_n 0, 1) := by decide +kernel
theorem dX5_init_34 : decode cX5_init 34 = .ok (.bipush 8, 2) := by decide +kernel
theorem dX5_init_36 : decode cX5_init 36 = .ok (.newarray .int, 2) := by decide +kernel
theorem dX5_init_38 : decode cX5_init 38 = .ok (.putfield 25, 3) := by decide +kernel
theorem dX5_init_41 : decode cX5_init 41 = .ok (.aload_n 0, 1) := by decide +kernel
theorem dX5_init_42 : decode cX5_init 42 = .ok (.bipush 8, 2) := by decide +kernel
theorem dX5_init_44 : decode cX5_init 44 = .ok (.newarray .int, 2) := by decide +kernel
theorem dX5_init_46 : decode cX5_init 46 = .ok (.putfield 28, 3) := by decide +kernel
theorem dX5_init_49 : decode cX5_init 49 = .ok (.aload_n 0, 1) := by decide +kernel
theorem dX5_init_50 : decode cX5_init 50 = .ok (.bipush 8, 2) := by decide +kernel
theorem dX5_init_52 : decode cX5_init 52 = .ok (.newarray .int, 2) := by decide +kernel
theorem dX5_init_54 : decode cX5_init 54 = .ok (.putfield 31, 3) := by decide +kernel
theorem dX5_init_57 : decode cX5_init 57 = .ok (.aload_n 0, 1) := by decide +kernel
theorem dX5_init_58 : decode cX5_init 58 = .ok (.bipush 8, 2) := by decide +kernel
theorem dX5_init_60 : decode cX5_init 60 = .ok (.newarray .int, 2) := by decide +kernel
theorem dX5_init_62 : decode cX5_init 62 = .ok (.putfield 34, 3) := by decide +kernel
theorem dX5_init_65 : decode cX5_init 65 = .ok (.return_, 1) := by decide +kernel
theorem dX5_has_0 : decode cX5_has 0 = .ok (.iload_n 1, 1) := by decide +kernel
theorem dX5_has_1 : decode cX5_has 1 = .ok (.ifCond .lt 15, 3) := by decide +kernel
theorem dX5_has_4 : decode cX5_has 4 = .ok (.iload_n 1, 1) := by decide +kernel
theorem dX5_has_5 : decode cX5_has 5 = .ok (.aload_n 0, 1) := by decide +kernel
theorem dX5_has_6 : decode cX5_has 6 = .ok (.getfield 9, 3) := by decide +kernel
theorem dX5_has_9 : decode cX5_has 9 = .ok (.if_icmp .ge 7, 3) := by decide +kernel
theorem dX5_has_12 : decode cX5_has 12 = .ok (.iconst 1, 1) := by decide +kernel
theorem dX5_has_13 : decode cX5_has 13 = .ok (.goto 4, 3) := by decide +kernel
theorem dX5_has_16 : decode cX5_has 16 = .ok (.iconst 0, 1) := by decide +kernel
theorem dX5_has_17 : decode cX5_has 17 = .ok (.ireturn, 1) := by decide +kernel
theorem dX5_add_0 : decode cX5_add 0 = .ok (.aload_n 0, 1) := by decide +kernel
theorem dX5_add_1 : decode cX5_add 1 = .ok (.getfield 9, 3) := by decide +kernel
theorem dX5_add_4 : decode cX5_add 4 = .ok (.bipush 8, 2) := by decide +kernel
theorem dX5_add_6 : decode cX5_add 6 = .ok (.if_icmp .lt 6, 3) := by decide +kernel
theorem dX5_add_9 : decode cX5_add 9 = .ok (.bipush (-2), 2) := by decide +kernel
theorem dX5_add_11 : decode cX5_add 11 = .ok (.ireturn, 1) := by decide +kernel
theorem dX5_add_12 : decode cX5_add 12 = .ok (.aload_n 0, 1) := by decide +kernel
theorem dX5_add_13 : decode cX5_add 13 = .ok (.getfield 15, 3) := by decide +kernel
theorem dX5_add_16 : decode cX5_add 16 = .ok (.aload_n 0, 1) := by decide +kernel
theorem dX5_add_17 : decode cX5_add 17 = .ok (.getfield 9, 3) := by decide +kernel
theorem dX5_add_20 : decode cX5_add 20 = .ok (.iload_n 1, 1) := by decide +kernel
theorem dX5_add_21 : decode cX5_add 21 = .ok (.iastore, 1) := by decide +kernel
theorem dX5_add_22 : decode cX5_add 22 = .ok (.aload_n 0, 1) := by decide +kernel
theorem dX5_add_23 : decode cX5_add 23 = .ok (.getfield 19, 3) := by decide +kernel
theorem dX5_add_26 : decode cX5_add 26 = .ok (.aload_n 0, 1) := by decide +kernel
theorem dX5_add_27 : decode cX5_add 27 = .ok (.getfield 9, 3) := by decide +kernel
theorem dX5_add_30 : decode cX5_add 30 = .ok (.iload_n 2, 1) := by decide +kernel
theorem dX5_add_31 : decode cX5_add 31 = .ok (.iastore, 1) := by decide +kernel
theorem dX5_add_32 : decode cX5_add 32 = .ok (.aload_n 0, 1) := by decide +kernel
theorem dX5_add_33 : decode cX5_add 33 = .ok (.getfield 22, 3) := by decide +kernel
theorem dX5_add_36 : decode cX5_add 36 = .ok (.aload_n 0, 1) := by decide +kernel
theorem dX5_add_37 : decode cX5_add 37 = .ok (.getfield 9, 3) := by decide +kernel
theorem dX5_add_40 : decode cX5_add 40 = .ok (.iload_n 3, 1) := by decide +kernel
theorem dX5_add_41 : decode cX5_add 41 = .ok (.iastore, 1) := by decide +kernel
theorem dX5_add_42 : decode cX5_add 42 = .ok (.aload_n 0, 1) := by decide +kernel
theorem dX5_add_43 : decode cX5_add 43 = .ok (.getfield 25, 3) := by decide +kernel
theorem dX5_add_46 : decode cX5_add 46 = .ok (.aload_n 0, 1) := by decide +kernel
theorem dX5_add_47 : decode cX5_add 47 = .ok (.getfield 9, 3) := by decide +kernel
theorem dX5_add_50 : decode cX5_add 50 = .ok (.iload 4, 2) := by decide +kernel
theorem dX5_add_52 : decode cX5_add 52 = .ok (.iastore, 1) := by decide +kernel
theorem dX5_add_53 : decode cX5_add 53 = .ok (.aload_n 0, 1) := by decide +kernel
theorem dX5_add_54 : decode cX5_add 54 = .ok (.getfield 28, 3) := by decide +kernel
theorem dX5_add_57 : decode cX5_add 57 = .ok (.aload_n 0, 1) := by decide +kernel
theorem dX5_add_58 : decode cX5_add 58 = .ok (.getfield 9, 3) := by decide +kernel
theorem dX5_add_61 : decode cX5_add 61 = .ok (.bipush (-4), 2) := by decide +kernel
theorem dX5_add_63 : decode cX5_add 63 = .ok (.iastore, 1) := by decide +kernel
theorem dX5_add_64 : decode cX5_add 64 = .ok (.aload_n 0, 1) := by decide +kernel
theorem dX5_add_65 : decode cX5_add 65 = .ok (.getfield 31, 3) := by decide +kernel
theorem dX5_add_68 : decode cX5_add 68 = .ok (.aload_n 0, 1) := by decide +kernel
theorem dX5_add_69 : decode cX5_add 69 = .ok (.getfield 9, 3) := by decide +kernel
theorem dX5_add_72 : decode cX5_add 72 = .ok (.iconst 0, 1) := by decide +kernel
theorem dX5_add_73 : decode cX5_add 73 = .ok (.iastore, 1) := by decide +kernel
theorem dX5_add_74 : decode cX5_add 74 = .ok (.aload_n 0, 1) := by decide +kernel
theorem dX5_add_75 : decode cX5_add 75 = .ok (.getfield 34, 3) := by decide +kernel
theorem dX5_add_78 : decode cX5_add 78 = .ok (.aload_n 0, 1) := by decide +kernel
theorem dX5_add_79 : decode cX5_add 79 = .ok (.getfield 9, 3) := by decide +kernel
theorem dX5_add_82 : decode cX5_add 82 = .ok (.iconst 0, 1) := by decide +kernel
theorem dX5_add_83 : decode cX5_add 83 = .ok (.iastore, 1) := by decide +kernel
theorem dX5_add_84 : decode cX5_add 84 = .ok (.aload_n 0, 1) := by decide +kernel
theorem dX5_add_85 : decode cX5_add 85 = .ok (.dup, 1) := by decide +kernel
theorem dX5_add_86 : decode cX5_add 86 = .ok (.getfield 9, 3) := by decide +kernel
theorem dX5_add_89 : decode cX5_add 89 = .ok (.iconst 1, 1) := by decide +kernel
theorem dX5_add_90 : decode cX5_add 90 = .ok (.iadd, 1) := by decide +kernel
theorem dX5_add_91 : decode cX5_add 91 = .ok (.putfield 9, 3) := by decide +kernel
theorem dX5_add_94 : decode cX5_add 94 = .ok (.aload_n 0, 1) := by decide +kernel
theorem dX5_add_95 : decode cX5_add 95 = .ok (.getfield 9, 3) := by decide +kernel
theorem dX5_add_98 : decode cX5_add 98 = .ok (.iconst 1, 1) := by decide +kernel
theorem dX5_add_99 : decode cX5_add 99 = .ok (.isub, 1) := by decide +kernel
theorem dX5_add_100 : decode cX5_add 100 = .ok (.ireturn, 1) := by decide +kernel
theorem dX5_hasTheme_0 : decode cX5_hasTheme 0 = .ok (.aload_n 0, 1) := by decide +kernel
theorem dX5_hasTheme_1 : decode cX5_hasTheme 1 = .ok (.getfield 19, 3) := by decide +kernel
theorem dX5_hasTheme_4 : decode cX5_hasTheme 4 = .ok (.iload_n 1, 1) := by decide +kernel
theorem dX5_hasTheme_5 : decode cX5_hasTheme 5 = .ok (.iaload, 1) := by decide +kernel
theorem dX5_hasTheme_6 : decode cX5_hasTheme 6 = .ok (.iload_n 2, 1) := by decide +kernel
theorem dX5_hasTheme_7 : decode cX5_hasTheme 7 = .ok (.ishr, 1) := by decide +kernel
theorem dX5_hasTheme_8 : decode cX5_hasTheme 8 = .ok (.iconst 1, 1) := by decide +kernel
theorem dX5_hasTheme_9 : decode cX5_hasTheme 9 = .ok (.iand, 1) := by decide +kernel
theorem dX5_hasTheme_10 : decode cX5_hasTheme 10 = .ok (.iconst 1, 1) := by decide +kernel
theorem dX5_hasTheme_11 : decode cX5_hasTheme 11 = .ok (.if_icmp .ne 7, 3) := by decide +kernel
theorem dX5_hasTheme_14 : decode cX5_hasTheme 14 = .ok (.iconst 1, 1) := by decide +kernel
theorem dX5_hasTheme_15 : decode cX5_hasTheme 15 = .ok (.goto 4, 3) := by decide +kernel
theorem dX5_hasTheme_18 : decode cX5_hasTheme 18 = .ok (.iconst 0, 1) := by decide +kernel
theorem dX5_hasTheme_19 : decode cX5_hasTheme 19 = .ok (.ireturn, 1) := by decide +kernel
theorem dX5_copyFrom_0 : decode cX5_copyFrom 0 = .ok (.aload_n 0, 1) := by decide +kernel
theorem dX5_copyFrom_1 : decode cX5_copyFrom 1 = .ok (.aload_n 1, 1) := by decide +kernel
theorem dX5_copyFrom_2 : decode cX5_copyFrom 2 = .ok (.getfield 9, 3) := by decide +kernel
theorem dX5_copyFrom_5 : decode cX5_copyFrom 5 = .ok (.putfield 9, 3) := by decide +kernel
theorem dX5_copyFrom_8 : decode cX5_copyFrom 8 = .ok (.aload_n 1, 1) := by decide +kernel
theorem dX5_copyFrom_9 : decode cX5_copyFrom 9 = .ok (.getfield 15, 3) := by decide +kernel
theorem dX5_copyFrom_12 : decode cX5_copyFrom 12 = .ok (.aload_n 0, 1) := by decide +kernel
theorem dX5_copyFrom_13 : decode cX5_copyFrom 13 = .ok (.getfield 15, 3) := by decide +kernel
theorem dX5_copyFrom_16 : decode cX5_copyFrom 16 = .ok (.invokestatic 37, 3) := by decide +kernel
theorem dX5_copyFrom_19 : decode cX5_copyFrom 19 = .ok (.aload_n 1, 1) := by decide +kernel
theorem dX5_copyFrom_20 : decode cX5_copyFrom 20 = .ok (.getfield 19, 3) := by decide +kernel
theorem dX5_copyFrom_23 : decode cX5_copyFrom 23 = .ok (.aload_n 0, 1) := by decide +kernel
theorem dX5_copyFrom_24 : decode cX5_copyFrom 24 = .ok (.getfield 19, 3) := by decide +kernel
theorem dX5_copyFrom_27 : decode cX5_copyFrom 27 = .ok (.invokestatic 37, 3) := by decide +kernel
theorem dX5_copyFrom_30 : decode cX5_copyFrom 30 = .ok (.aload_n 1, 1) := by decide +kernel
theorem dX5_copyFrom_31 : decode cX5_copyFrom 31 = .ok (.getfield 22, 3) := by decide +kernel
theorem dX5_copyFrom_34 : decode cX5_copyFrom 34 = .ok (.aload_n 0, 1) := by decide +kernel
theorem dX5_copyFrom_35 : decode cX5_copyFrom 35 = .ok (.getfield 22, 3) := by decide +kernel
theorem dX5_copyFrom_38 : decode cX5_copyFrom 38 = .ok (.invokestatic 37, 3) := by decide +kernel
theorem dX5_copyFrom_41 : decode cX5_copyFrom 41 = .ok (.aload_n 1, 1) := by decide +kernel
theorem dX5_copyFrom_42 : decode cX5_copyFrom 42 = .ok (.getfield 25, 3) := by decide +kernel
theorem dX5_copyFrom_45 : decode cX5_copyFrom 45 = .ok (.aload_n 0, 1) := by decide +kernel
theorem dX5_copyFrom_46 : decode cX5_copyFrom 46 = .ok (.getfield 25, 3) := by decide +kernel
theorem dX5_copyFrom_49 : decode cX5_copyFrom 49 = .ok (.invokestatic 37, 3) := by decide +kernel
theorem dX5_copyFrom_52 : decode cX5_copyFrom 52 = .ok (.aload_n 1, 1) := by decide +kernel
theorem dX5_copyFrom_53 : decode cX5_copyFrom 53 = .ok (.getfield 28, 3) := by decide +kernel
theorem dX5_copyFrom_56 : decode cX5_copyFrom 56 = .ok (.aload_n 0, 1) := by decide +kernel
theorem dX5_copyFrom_57 : decode cX5_copyFrom 57 = .ok (.getfield 28, 3) := by decide +kernel
theorem dX5_copyFrom_60 : decode cX5_copyFrom 60 = .ok (.invokestatic 37, 3) := by decide +kernel
theorem dX5_copyFrom_63 : decode cX5_copyFrom 63 = .ok (.aload_n 1, 1) := by decide +kernel
theorem dX5_copyFrom_64 : decode cX5_copyFrom 64 = .ok (.getfield 31, 3) := by decide +kernel
theorem dX5_copyFrom_67 : decode cX5_copyFrom 67 = .ok (.aload_n 0, 1) := by decide +kernel
theorem dX5_copyFrom_68 : decode cX5_copyFrom 68 = .ok (.getfield 31, 3) := by decide +kernel
theorem dX5_copyFrom_71 : decode cX5_copyFrom 71 = .ok (.invokestatic 37, 3) := by decide +kernel
theorem dX5_copyFrom_74 : decode cX5_copyFrom 74 = .ok (.aload_n 1, 1) := by decide +kernel
theorem dX5_copyFrom_75 : decode cX5_copyFrom 75 = .ok (.getfield 34, 3) := by decide +kernel
theorem dX5_copyFrom_78 : decode cX5_copyFrom 78 = .ok (.aload_n 0, 1) := by decide +kernel
theorem dX5_copyFrom_79 : decode cX5_copyFrom 79 = .ok (.getfield 34, 3) := by decide +kernel
theorem dX5_copyFrom_82 : decode cX5_copyFrom 82 = .ok (.invokestatic 37, 3) := by decide +kernel
theorem dX5_copyFrom_85 : decode cX5_copyFrom 85 = .ok (.return_, 1) := by decide +kernel
theorem dX6_init_0 : decode cX6_init 0 = .ok (.aload_n 0, 1) := by decide +kernel
theorem dX6_init_1 : decode cX6_init 1 = .ok (.invokespecial 3, 3) := by decide +kernel
theorem dX6_init_4 : decode cX6_init 4 = .ok (.aload_n 0, 1) := by decide +kernel
theorem dX6_init_5 : decode cX6_init 5 = .ok (.iconst 0, 1) := by decide +kernel
theorem dX6_init_6 : decode cX6_init 6 = .ok (.putfield 9, 3) := by decide +kernel
theorem dX6_init_9 : decode cX6_init 9 = .ok (.aload_n 0, 1) := by decide +kernel
theorem dX6_init_10 : decode cX6_init 10 = .ok (.bipush 12, 2) := by decide +kernel
theorem dX6_init_12 : decode cX6_init 12 = .ok (.newarray .int, 2) := by decide +kernel
theorem dX6_init_14 : decode cX6_init 14 = .ok (.putfield 15, 3) := by decide +kernel
theorem dX6_init_17 : decode cX6_init 17 = .ok (.aload_n 0, 1) := by decide +kernel
theorem dX6_init_18 : decode cX6_init 18 = .ok (.bipush 12, 2) := by decide +kernel
theorem dX6_init_20 : decode cX6_init 20 = .ok (.newarray .int, 2) := by decide +kernel
theorem dX6_init_22 : decode cX6_init 22 = .ok (.putfield 19, 3) := by decide +kernel
theorem dX6_init_25 : decode cX6_init 25 = .ok (.aload_n 0, 1) := by decide +kernel
theorem dX6_init_26 : decode cX6_init 26 = .ok (.bipush 12, 2) := by decide +kernel
theorem dX6_init_28 : decode cX6_init 28 = .ok (.newarray .int, 2) := by decide +kernel
theorem dX6_init_30 : decode cX6_init 30 = .ok (.putfield 22, 3) := by decide +kernel
theorem dX6_init_33 : decode cX6_init 33 = .ok (.return_, 1) := by decide +kernel
theorem dX6_add_0 : decode cX6_add 0 = .ok (.aload_n 0, 1) := by decide +kernel
theorem dX6_add_1 : decode cX6_add 1 = .ok (.getfield 9, 3) := by decide +kernel
theorem dX6_add_4 : decode cX6_add 4 = .ok (.bipush 12, 2) := by decide +kernel
theorem dX6_add_6 : decode cX6_add 6 = .ok (.if_icmp .lt 6, 3) := by decide +kernel
theorem dX6_add_9 : decode cX6_add 9 = .ok (.bipush (-2), 2) := by decide +kernel
theorem dX6_add_11 : decode cX6_add 11 = .ok (.ireturn, 1) := by decide +kernel
theorem dX6_add_12 : decode cX6_add 12 = .ok (.aload_n 0, 1) := by decide +kernel
theorem dX6_add_13 : decode cX6_add 13 = .ok (.getfield 15, 3) := by decide +kernel
theorem dX6_add_16 : decode cX6_add 16 = .ok (.aload_n 0, 1) := by decide +kernel
theorem dX6_add_17 : decode cX6_add 17 = .ok (.getfield 9, 3) := by decide +kernel
theorem dX6_add_20 : decode cX6_add 20 = .ok (.iload_n 1, 1) := by decide +kernel
theorem dX6_add_21 : decode cX6_add 21 = .ok (.iastore, 1) := by decide +kernel
theorem dX6_add_22 : decode cX6_add 22 = .ok (.aload_n 0, 1) := by decide +kernel
theorem dX6_add_23 : decode cX6_add 23 = .ok (.getfield 19, 3) := by decide +kernel
theorem dX6_add_26 : decode cX6_add 26 = .ok (.aload_n 0, 1) := by decide +kernel
theorem dX6_add_27 : decode cX6_add 27 = .ok (.getfield 9, 3) := by decide +kernel
theorem dX6_add_30 : decode cX6_add 30 = .ok (.iload_n 2, 1) := by decide +kernel
theorem dX6_add_31 : decode cX6_add 31 = .ok (.iastore, 1) := by decide +kernel
theorem dX6_add_32 : decode cX6_add 32 = .ok (.aload_n 0, 1) := by decide +kernel
theorem dX6_add_33 : decode cX6_add 33 = .ok (.getfield 22, 3) := by decide +kernel
theorem dX6_add_36 : decode cX6_add 36 = .ok (.aload_n 0, 1) := by decide +kernel
theorem dX6_add_37 : decode cX6_add 37 = .ok (.getfield 9, 3) := by decide +kernel
theorem dX6_add_40 : decode cX6_add 40 = .ok (.iload_n 3, 1) := by decide +kernel
theorem dX6_add_41 : decode cX6_add 41 = .ok (.iastore, 1) := by decide +kernel
theorem dX6_add_42 : decode cX6_add 42 = .ok (.aload_n 0, 1) := by decide +kernel
theorem dX6_add_43 : decode cX6_add 43 = .ok (.dup, 1) := by decide +kernel
theorem dX6_add_44 : decode cX6_add 44 = .ok (.getfield 9, 3) := by decide +kernel
theorem dX6_add_47 : decode cX6_add 47 = .ok (.iconst 1, 1) := by decide +kernel
theorem dX6_add_48 : decode cX6_add 48 = .ok (.iadd, 1) := by decide +kernel
theorem dX6_add_49 : decode cX6_add 49 = .ok (.putfield 9, 3) := by decide +kernel
theorem dX6_add_52 : decode cX6_add 52 = .ok (.aload_n 0, 1) := by decide +kernel
theorem dX6_add_53 : decode cX6_add 53 = .ok (.getfield 9, 3) := by decide +kernel
theorem dX6_add_56 : decode cX6_add 56 = .ok (.iconst 1, 1) := by decide +kernel
theorem dX6_add_57 : decode cX6_add 57 = .ok (.isub, 1) := by decide +kernel
theorem dX6_add_58 : decode cX6_add 58 = .ok (.ireturn, 1) := by decide +kernel
theorem dX6_countOf_0 : decode cX6_countOf 0 = .ok (.iconst 0, 1) := by decide +kernel
theorem dX6_countOf_1 : decode cX6_countOf 1 = .ok (.istore_n 2, 1) := by decide +kernel
theorem dX6_countOf_2 : decode cX6_countOf 2 = .ok (.iconst 0, 1) := by decide +kernel
theorem dX6_countOf_3 : decode cX6_countOf 3 = .ok (.istore_n 3, 1) := by decide +kernel
theorem dX6_countOf_4 : decode cX6_countOf 4 = .ok (.iload_n 3, 1) := by decide +kernel
theorem dX6_countOf_5 : decode cX6_countOf 5 = .ok (.aload_n 0, 1) := by decide +kernel
theorem dX6_countOf_6 : decode cX6_countOf 6 = .ok (.getfield 9, 3) := by decide +kernel
theorem dX6_countOf_9 : decode cX6_countOf 9 = .ok (.if_icmp .ge 22, 3) := by decide +kernel
theorem dX6_countOf_12 : decode cX6_countOf 12 = .ok (.aload_n 0, 1) := by decide +kernel
theorem dX6_countOf_13 : decode cX6_countOf 13 = .ok (.getfield 15, 3) := by decide +kernel
theorem dX6_countOf_16 : decode cX6_countOf 16 = .ok (.iload_n 3, 1) := by decide +kernel
theorem dX6_countOf_17 : decode cX6_countOf 17 = .ok (.iaload, 1) := by decide +kernel
theorem dX6_countOf_18 : decode cX6_countOf 18 = .ok (.iload_n 1, 1) := by decide +kernel
theorem dX6_countOf_19 : decode cX6_countOf 19 = .ok (.if_icmp .ne 6, 3) := by decide +kernel
theorem dX6_countOf_22 : decode cX6_countOf 22 = .ok (.iinc 2 1, 3) := by decide +kernel
theorem dX6_countOf_25 : decode cX6_countOf 25 = .ok (.iinc 3 1, 3) := by decide +kernel
theorem dX6_countOf_28 : decode cX6_countOf 28 = .ok (.goto (-24), 3) := by decide +kernel
theorem dX6_countOf_31 : decode cX6_countOf 31 = .ok (.iload_n 2, 1) := by decide +kernel
theorem dX6_countOf_32 : decode cX6_countOf 32 = .ok (.ireturn, 1) := by decide +kernel
theorem dX6_copyFrom_0 : decode cX6_copyFrom 0 = .ok (.aload_n 0, 1) := by decide +kernel
theorem dX6_copyFrom_1 : decode cX6_copyFrom 1 = .ok (.aload_n 1, 1) := by decide +kernel
theorem dX6_copyFrom_2 : decode cX6_copyFrom 2 = .ok (.getfield 9, 3) := by decide +kernel
theorem dX6_copyFrom_5 : decode cX6_copyFrom 5 = .ok (.putfield 9, 3) := by decide +kernel
theorem dX6_copyFrom_8 : decode cX6_copyFrom 8 = .ok (.aload_n 1, 1) := by decide +kernel
theorem dX6_copyFrom_9 : decode cX6_copyFrom 9 = .ok (.getfield 15, 3) := by decide +kernel
theorem dX6_copyFrom_12 : decode cX6_copyFrom 12 = .ok (.aload_n 0, 1) := by decide +kernel
theorem dX6_copyFrom_13 : decode cX6_copyFrom 13 = .ok (.getfield 15, 3) := by decide +kernel
theorem dX6_copyFrom_16 : decode cX6_copyFrom 16 = .ok (.invokestatic 25, 3) := by decide +kernel
theorem dX6_copyFrom_19 : decode cX6_copyFrom 19 = .ok (.aload_n 1, 1) := by decide +kernel
theorem dX6_copyFrom_20 : decode cX6_copyFrom 20 = .ok (.getfield 19, 3) := by decide +kernel
theorem dX6_copyFrom_23 : decode cX6_copyFrom 23 = .ok (.aload_n 0, 1) := by decide +kernel
theorem dX6_copyFrom_24 : decode cX6_copyFrom 24 = .ok (.getfield 19, 3) := by decide +kernel
theorem dX6_copyFrom_27 : decode cX6_copyFrom 27 = .ok (.invokestatic 25, 3) := by decide +kernel
theorem dX6_copyFrom_30 : decode cX6_copyFrom 30 = .ok (.aload_n 1, 1) := by decide +kernel
theorem dX6_copyFrom_31 : decode cX6_copyFrom 31 = .ok (.getfield 22, 3) := by decide +kernel
theorem dX6_copyFrom_34 : decode cX6_copyFrom 34 = .ok (.aload_n 0, 1) := by decide +kernel
theorem dX6_copyFrom_35 : decode cX6_copyFrom 35 = .ok (.getfield 22, 3) := by decide +kernel
theorem dX6_copyFrom_38 : decode cX6_copyFrom 38 = .ok (.invokestatic 25, 3) := by decide +kernel
theorem dX6_copyFrom_41 : decode cX6_copyFrom 41 = .ok (.return_, 1) := by decide +kernel
theorem dX7_init_0 : decode cX7_init 0 = .ok (.aload_n 0, 1) := by decide +kernel
theorem dX7_init_1 : decode cX7_init 1 = .ok (.invokespecial 3, 3) := by decide +kernel
theorem dX7_init_4 : decode cX7_init 4 = .ok (.aload_n 0, 1) := by decide +kernel
theorem dX7_init_5 : decode cX7_init 5 = .ok (.iconst 0, 1) := by decide +kernel
theorem dX7_init_6 : decode cX7_init 6 = .ok (.putfield 9, 3) := by decide +kernel
theorem dX7_init_9 : decode cX7_init 9 = .ok (.aload_n 0, 1) := by decide +kernel
theorem dX7_init_10 : decode cX7_init 10 = .ok (.iconst 5, 1) := by decide +kernel
theorem dX7_init_11 : decode cX7_init 11 = .ok (.newarray .int, 2) := by decide +kernel
theorem dX7_init_13 : decode cX7_init 13 = .ok (.putfield 15, 3) := by decide +kernel
theorem dX7_init_16 : decode cX7_init 16 = .ok (.aload_n 0, 1) := by decide +kernel
theorem dX7_init_17 : decode cX7_init 17 = .ok (.iconst 5, 1) := by decide +kernel
theorem dX7_init_18 : decode cX7_init 18 = .ok (.newarray .int, 2) := by decide +kernel
theorem dX7_init_20 : decode cX7_init 20 = .ok (.putfield 19, 3) := by decide +kernel
theorem dX7_init_23 : decode cX7_init 23 = .ok (.aload_n 0, 1) := by decide +kernel
theorem dX7_init_24 : decode cX7_init 24 = .ok (.iconst 5, 1) := by decide +kernel
theorem dX7_init_25 : decode cX7_init 25 = .ok (.newarray .int, 2) := by decide +kernel
theorem dX7_init_27 : decode cX7_init 27 = .ok (.putfield 22, 3) := by decide +kernel
theorem dX7_init_30 : decode cX7_init 30 = .ok (.return_, 1) := by decide +kernel
theorem dX7_has_0 : decode cX7_has 0 = .ok (.iload_n 1, 1) := by decide +kernel
theorem dX7_has_1 : decode cX7_has 1 = .ok (.ifCond .lt 15, 3) := by decide +kernel
theorem dX7_has_4 : decode cX7_has 4 = .ok (.iload_n 1, 1) := by decide +kernel
theorem dX7_has_5 : decode cX7_has 5 = .ok (.aload_n 0, 1) := by decide +kernel
theorem dX7_has_6 : decode cX7_has 6 = .ok (.getfield 9, 3) := by decide +kernel
theorem dX7_has_9 : decode cX7_has 9 = .ok (.if_icmp .ge 7, 3) := by decide +kernel
theorem dX7_has_12 : decode cX7_has 12 = .ok (.iconst 1, 1) := by decide +kernel
theorem dX7_has_13 : decode cX7_has 13 = .ok (.goto 4, 3) := by decide +kernel
theorem dX7_has_16 : decode cX7_has 16 = .ok (.iconst 0, 1) := by decide +kernel
theorem dX7_has_17 : decode cX7_has 17 = .ok (.ireturn, 1) := by decide +kernel
theorem dX7_add_0 : decode cX7_add 0 = .ok (.aload_n 0, 1) := by decide +kernel
theorem dX7_add_1 : decode cX7_add 1 = .ok (.getfield 9, 3) := by decide +kernel
theorem dX7_add_4 : decode cX7_add 4 = .ok (.iconst 5, 1) := by decide +kernel
theorem dX7_add_5 : decode cX7_add 5 = .ok (.if_icmp .lt 6, 3) := by decide +kernel
theorem dX7_add_8 : decode cX7_add 8 = .ok (.bipush (-2), 2) := by decide +kernel
theorem dX7_add_10 : decode cX7_add 10 = .ok (.ireturn, 1) := by decide +kernel
theorem dX7_add_11 : decode cX7_add 11 = .ok (.aload_n 0, 1) := by decide +kernel
theorem dX7_add_12 : decode cX7_add 12 = .ok (.getfield 15, 3) := by decide +kernel
theorem dX7_add_15 : decode cX7_add 15 = .ok (.aload_n 0, 1) := by decide +kernel
theorem dX7_add_16 : decode cX7_add 16 = .ok (.getfield 9, 3) := by decide +kernel
theorem dX7_add_19 : decode cX7_add 19 = .ok (.iload_n 1, 1) := by decide +kernel
theorem dX7_add_20 : decode cX7_add 20 = .ok (.iastore, 1) := by decide +kernel
theorem dX7_add_21 : decode cX7_add 21 = .ok (.aload_n 0, 1) := by decide +kernel
theorem dX7_add_22 : decode cX7_add 22 = .ok (.getfield 19, 3) := by decide +kernel
theorem dX7_add_25 : decode cX7_add 25 = .ok (.aload_n 0, 1) := by decide +kernel
theorem dX7_add_26 : decode cX7_add 26 = .ok (.getfield 9, 3) := by decide +kernel
theorem dX7_add_29 : decode cX7_add 29 = .ok (.iload_n 2, 1) := by decide +kernel
theorem dX7_add_30 : decode cX7_add 30 = .ok (.iastore, 1) := by decide +kernel
theorem dX7_add_31 : decode cX7_add 31 = .ok (.aload_n 0, 1) := by decide +kernel
theorem dX7_add_32 : decode cX7_add 32 = .ok (.getfield 22, 3) := by decide +kernel
theorem dX7_add_35 : decode cX7_add 35 = .ok (.aload_n 0, 1) := by decide +kernel
theorem dX7_add_36 : decode cX7_add 36 = .ok (.getfield 9, 3) := by decide +kernel
theorem dX7_add_39 : decode cX7_add 39 = .ok (.iload_n 3, 1) := by decide +kernel
theorem dX7_add_40 : decode cX7_add 40 = .ok (.iastore, 1) := by decide +kernel
theorem dX7_add_41 : decode cX7_add 41 = .ok (.aload_n 0, 1) := by decide +kernel
theorem dX7_add_42 : decode cX7_add 42 = .ok (.dup, 1) := by decide +kernel
theorem dX7_add_43 : decode cX7_add 43 = .ok (.getfield 9, 3) := by decide +kernel
theorem dX7_add_46 : decode cX7_add 46 = .ok (.iconst 1, 1) := by decide +kernel
theorem dX7_add_47 : decode cX7_add 47 = .ok (.iadd, 1) := by decide +kernel
theorem dX7_add_48 : decode cX7_add 48 = .ok (.putfield 9, 3) := by decide +kernel
theorem dX7_add_51 : decode cX7_add 51 = .ok (.aload_n 0, 1) := by decide +kernel
theorem dX7_add_52 : decode cX7_add 52 = .ok (.getfield 9, 3) := by decide +kernel
theorem dX7_add_55 : decode cX7_add 55 = .ok (.iconst 1, 1) := by decide +kernel
theorem dX7_add_56 : decode cX7_add 56 = .ok (.isub, 1) := by decide +kernel
theorem dX7_add_57 : decode cX7_add 57 = .ok (.ireturn, 1) := by decide +kernel
theorem dX7_copyFrom_0 : decode cX7_copyFrom 0 = .ok (.aload_n 0, 1) := by decide +kernel
theorem dX7_copyFrom_1 : decode cX7_copyFrom 1 = .ok (.aload_n 1, 1) := by decide +kernel
theorem dX7_copyFrom_2 : decode cX7_copyFrom 2 = .ok (.getfield 9, 3) := by decide +kernel
theorem dX7_copyFrom_5 : decode cX7_copyFrom 5 = .ok (.putfield 9, 3) := by decide +kernel
theorem dX7_copyFrom_8 : decode cX7_copyFrom 8 = .ok (.aload_n 1, 1) := by decide +kernel
theorem dX7_copyFrom_9 : decode cX7_copyFrom 9 = .ok (.getfield 15, 3) := by decide +kernel
theorem dX7_copyFrom_12 : decode cX7_copyFrom 12 = .ok (.aload_n 0, 1) := by decide +kernel
theorem dX7_copyFrom_13 : decode cX7_copyFrom 13 = .ok (.getfield 15, 3) := by decide +kernel
theorem dX7_copyFrom_16 : decode cX7_copyFrom 16 = .ok (.invokestatic 25, 3) := by decide +kernel
theorem dX7_copyFrom_19 : decode cX7_copyFrom 19 = .ok (.aload_n 1, 1) := by decide +kernel
theorem dX7_copyFrom_20 : decode cX7_copyFrom 20 = .ok (.getfield 19, 3) := by decide +kernel
theorem dX7_copyFrom_23 : decode cX7_copyFrom 23 = .ok (.aload_n 0, 1) := by decide +kernel
theorem dX7_copyFrom_24 : decode cX7_copyFrom 24 = .ok (.getfield 19, 3) := by decide +kernel
theorem dX7_copyFrom_27 : decode cX7_copyFrom 27 = .ok (.invokestatic 25, 3) := by decide +kernel
theorem dX7_copyFrom_30 : decode cX7_copyFrom 30 = .ok (.aload_n 1, 1) := by decide +kernel
theorem dX7_copyFrom_31 : decode cX7_copyFrom 31 = .ok (.getfield 22, 3) := by decide +kernel
theorem dX7_copyFrom_34 : decode cX7_copyFrom 34 = .ok (.aload_n 0, 1) := by decide +kernel
theorem dX7_copyFrom_35 : decode cX7_copyFrom 35 = .ok (.getfield 22, 3) := by decide +kernel
theorem dX7_copyFrom_38 : decode cX7_copyFrom 38 = .ok (.invokestatic 25, 3) := by decide +kernel
theorem dX7_copyFrom_41 : decode cX7_copyFrom 41 = .ok (.return_, 1) := by decide +kernel
theorem dX8_init_0 : decode cX8_init 0 = .ok (.aload_n 0, 1) := by decide +kernel
theorem dX8_init_1 : decode cX8_init 1 = .ok (.invokespecial 1, 3) := by decide +kernel
theorem dX8_init_4 : decode cX8_init 4 = .ok (.new 7, 3) := by decide +kernel
theorem dX8_init_7 : decode cX8_init 7 = .ok (.dup, 1) := by decide +kernel
theorem dX8_init_8 : decode cX8_init 8 = .ok (.invokespecial 9, 3) := by decide +kernel
theorem dX8_init_11 : decode cX8_init 11 = .ok (.astore_n 1, 1) := by decide +kernel
theorem dX8_init_12 : decode cX8_init 12 = .ok (.new 10, 3) := by decide +kernel
theorem dX8_init_15 : decode cX8_init 15 = .ok (.dup, 1) := by decide +kernel
theorem dX8_init_16 : decode cX8_init 16 = .ok (.aload_n 1, 1) := by decide +kernel
theorem dX8_init_17 : decode cX8_init 17 = .ok (.invokespecial 12, 3) := by decide +kernel
theorem dX8_init_20 : decode cX8_init 20 = .ok (.astore_n 2, 1) := by decide +kernel
theorem dX8_init_21 : decode cX8_init 21 = .ok (.aload_n 0, 1) := by decide +kernel
theorem dX8_init_22 : decode cX8_init 22 = .ok (.aload_n 1, 1) := by decide +kernel
theorem dX8_init_23 : decode cX8_init 23 = .ok (.putfield 15, 3) := by decide +kernel
theorem dX8_init_26 : decode cX8_init 26 = .ok (.aload_n 0, 1) := by decide +kernel
theorem dX8_init_27 : decode cX8_init 27 = .ok (.aload_n 2, 1) := by decide +kernel
theorem dX8_init_28 : decode cX8_init 28 = .ok (.putfield 21, 3) := by decide +kernel
theorem dX8_init_31 : decode cX8_init 31 = .ok (.aload_n 0, 1) := by decide +kernel
theorem dX8_init_32 : decode cX8_init 32 = .ok (.new 25, 3) := by decide +kernel
theorem dX8_init_35 : decode cX8_init 35 = .ok (.dup, 1) := by decide +kernel
theorem dX8_init_36 : decode cX8_init 36 = .ok (.aload_n 1, 1) := by decide +kernel
theorem dX8_init_37 : decode cX8_init 37 = .ok (.aload_n 2, 1) := by decide +kernel
theorem dX8_init_38 : decode cX8_init 38 = .ok (.invokespecial 27, 3) := by decide +kernel
theorem dX8_init_41 : decode cX8_init 41 = .ok (.putfield 30, 3) := by decide +kernel
theorem dX8_init_44 : decode cX8_init 44 = .ok (.aload_n 0, 1) := by decide +kernel
theorem dX8_init_45 : decode cX8_init 45 = .ok (.aconst_null, 1) := by decide +kernel
theorem dX8_init_46 : decode cX8_init 46 = .ok (.putfield 34, 3) := by decide +kernel
theorem dX8_init_49 : decode cX8_init 49 = .ok (.return_, 1) := by decide +kernel
theorem dX8_room_0 : decode cX8_room 0 = .ok (.iload_n 1, 1) := by decide +kernel
theorem dX8_room_1 : decode cX8_room 1 = .ok (.iconst 1, 1) := by decide +kernel
theorem dX8_room_2 : decode cX8_room 2 = .ok (.sipush 200, 3) := by decide +kernel
theorem dX8_room_5 : decode cX8_room 5 = .ok (.invokestatic 37, 3) := by decide +kernel
theorem dX8_room_8 : decode cX8_room 8 = .ok (.ifCond .ne 5, 3) := by decide +kernel
theorem dX8_room_11 : decode cX8_room 11 = .ok (.iconst (-1), 1) := by decide +kernel
theorem dX8_room_12 : decode cX8_room 12 = .ok (.ireturn, 1) := by decide +kernel
theorem dX8_room_13 : decode cX8_room 13 = .ok (.aload_n 0, 1) := by decide +kernel
theorem dX8_room_14 : decode cX8_room 14 = .ok (.getfield 15, 3) := by decide +kernel
theorem dX8_room_17 : decode cX8_room 17 = .ok (.getfield 41, 3) := by decide +kernel
theorem dX8_room_20 : decode cX8_room 20 = .ok (.getfield 45, 3) := by decide +kernel
theorem dX8_room_23 : decode cX8_room 23 = .ok (.iconst 4, 1) := by decide +kernel
theorem dX8_room_24 : decode cX8_room 24 = .ok (.if_icmp .lt 6, 3) := by decide +kernel
theorem dX8_room_27 : decode cX8_room 27 = .ok (.bipush (-2), 2) := by decide +kernel
theorem dX8_room_29 : decode cX8_room 29 = .ok (.ireturn, 1) := by decide +kernel
theorem dX8_room_30 : decode cX8_room 30 = .ok (.aload_n 0, 1) := by decide +kernel
theorem dX8_room_31 : decode cX8_room 31 = .ok (.aload_n 0, 1) := by decide +kernel
theorem dX8_room_32 : decode cX8_room 32 = .ok (.getfield 15, 3) := by decide +kernel
theorem dX8_room_35 : decode cX8_room 35 = .ok (.getfield 41, 3) := by decide +kernel
theorem dX8_room_38 : decode cX8_room 38 = .ok (.iload_n 1, 1) := by decide +kernel
theorem dX8_room_39 : decode cX8_room 39 = .ok (.invokevirtual 51, 3) := by decide +kernel
theorem dX8_room_42 : decode cX8_room 42 = .ok (.invokevirtual 55, 3) := by decide +kernel
theorem dX8_room_45 : decode cX8_room 45 = .ok (.ireturn, 1) := by decide +kernel
theorem dX8_reading_0 : decode cX8_reading 0 = .ok (.aload_n 0, 1) := by decide +kernel
theorem dX8_reading_1 : decode cX8_reading 1 = .ok (.getfield 15, 3) := by decide +kernel
theorem dX8_reading_4 : decode cX8_reading 4 = .ok (.getfield 41, 3) := by decide +kernel
theorem dX8_reading_7 : decode cX8_reading 7 = .ok (.iload_n 1, 1) := by decide +kernel
theorem dX8_reading_8 : decode cX8_reading 8 = .ok (.invokevirtual 58, 3) := by decide +kernel
theorem dX8_reading_11 : decode cX8_reading 11 = .ok (.ifCond .eq 30, 3) := by decide +kernel
theorem dX8_reading_14 : decode cX8_reading 14 = .ok (.iload_n 2, 1) := by decide +kernel
theorem dX8_reading_15 : decode cX8_reading 15 = .ok (.invokestatic 62, 3) := by decide +kernel
theorem dX8_reading_18 : decode cX8_reading 18 = .ok (.ifCond .eq 23, 3) := by decide +kernel
theorem dX8_reading_21 : decode cX8_reading 21 = .ok (.iload_n 3, 1) := by decide +kernel
theorem dX8_reading_22 : decode cX8_reading 22 = .ok (.iconst (-1), 1) := by decide +kernel
theorem dX8_reading_23 : decode cX8_reading 23 = .ok (.aload_n 0, 1) := by decide +kernel
theorem dX8_reading_24 : decode cX8_reading 24 = .ok (.getfield 15, 3) := by decide +kernel
theorem dX8_reading_27 : decode cX8_reading 27 = .ok (.getfield 41, 3) := by decide +kernel
theorem dX8_reading_30 : decode cX8_reading 30 = .ok (.getfield 65, 3) := by decide +kernel
theorem dX8_reading_33 : decode cX8_reading 33 = .ok (.iload_n 1, 1) := by decide +kernel
theorem dX8_reading_34 : decode cX8_reading 34 = .ok (.iaload, 1) := by decide +kernel
theorem dX8_reading_35 : decode cX8_reading 35 = .ok (.invokestatic 37, 3) := by decide +kernel
theorem dX8_reading_38 : decode cX8_reading 38 = .ok (.ifCond .ne 5, 3) := by decide +kernel
theorem dX8_reading_41 : decode cX8_reading 41 = .ok (.iconst (-1), 1) := by decide +kernel
theorem dX8_reading_42 : decode cX8_reading 42 = .ok (.ireturn, 1) := by decide +kernel
theorem dX8_reading_43 : decode cX8_reading 43 = .ok (.aload_n 0, 1) := by decide +kernel
theorem dX8_reading_44 : decode cX8_reading 44 = .ok (.getfield 15, 3) := by decide +kernel
theorem dX8_reading_47 : decode cX8_reading 47 = .ok (.getfield 41, 3) := by decide +kernel
theorem dX8_reading_50 : decode cX8_reading 50 = .ok (.iload_n 1, 1) := by decide +kernel
theorem dX8_reading_51 : decode cX8_reading 51 = .ok (.iload_n 2, 1) := by decide +kernel
theorem dX8_reading_52 : decode cX8_reading 52 = .ok (.iload_n 3, 1) := by decide +kernel
theorem dX8_reading_53 : decode cX8_reading 53 = .ok (.invokevirtual 69, 3) := by decide +kernel
theorem dX8_reading_56 : decode cX8_reading 56 = .ok (.aload_n 0, 1) := by decide +kernel
theorem dX8_reading_57 : decode cX8_reading 57 = .ok (.iconst 1, 1) := by decide +kernel
theorem dX8_reading_58 : decode cX8_reading 58 = .ok (.invokevirtual 55, 3) := by decide +kernel
theorem dX8_reading_61 : decode cX8_reading 61 = .ok (.ireturn, 1) := by decide +kernel
theorem dX8_light_0 : decode cX8_light 0 = .ok (.aload_n 0, 1) := by decide +kernel
theorem dX8_light_1 : decode cX8_light 1 = .ok (.getfield 15, 3) := by decide +kernel
theorem dX8_light_4 : decode cX8_light 4 = .ok (.getfield 41, 3) := by decide +kernel
theorem dX8_light_7 : decode cX8_light 7 = .ok (.iload_n 1, 1) := by decide +kernel
theorem dX8_light_8 : decode cX8_light 8 = .ok (.invokevirtual 58, 3) := by decide +kernel
theorem dX8_light_11 : decode cX8_light 11 = .ok (.ifCond .eq 10, 3) := by decide +kernel
theorem dX8_light_14 : decode cX8_light 14 = .ok (.iload_n 2, 1) := by decide +kernel
theorem dX8_light_15 : decode cX8_light 15 = .ok (.invokestatic 62, 3) := by decide +kernel
theorem dX8_light_18 : decode cX8_light 18 = .ok (.ifCond .ne 5, 3) := by decide +kernel
theorem dX8_light_21 : decode cX8_light 21 = .ok (.iconst (-1), 1) := by decide +kernel
theorem dX8_light_22 : decode cX8_light 22 = .ok (.ireturn, 1) := by decide +kernel
theorem dX8_light_23 : decode cX8_light 23 = .ok (.aload_n 0, 1) := by decide +kernel
theorem dX8_light_24 : decode cX8_light 24 = .ok (.getfield 15, 3) := by decide +kernel
theorem dX8_light_27 : decode cX8_light 27 = .ok (.getfield 41, 3) := by decide +kernel
theorem dX8_light_30 : decode cX8_light 30 = .ok (.iload_n 1, 1) := by decide +kernel
theorem dX8_light_31 : decode cX8_light 31 = .ok (.iload_n 2, 1) := by decide +kernel
theorem dX8_light_32 : decode cX8_light 32 = .ok (.iload_n 3, 1) := by decide +kernel
theorem dX8_light_33 : decode cX8_light 33 = .ok (.invokevirtual 73, 3) := by decide +kernel
theorem dX8_light_36 : decode cX8_light 36 = .ok (.ireturn, 1) := by decide +kernel
theorem dX8_sheet_0 : decode cX8_sheet 0 = .ok (.iload_n 1, 1) := by decide +kernel
theorem dX8_sheet_1 : decode cX8_sheet 1 = .ok (.iconst 1, 1) := by decide +kernel
theorem dX8_sheet_2 : decode cX8_sheet 2 = .ok (.sipush 2000, 3) := by decide +kernel
theorem dX8_sheet_5 : decode cX8_sheet 5 = .ok (.invokestatic 37, 3) := by decide +kernel
theorem dX8_sheet_8 : decode cX8_sheet 8 = .ok (.ifCond .eq 13, 3) := by decide +kernel
theorem dX8_sheet_11 : decode cX8_sheet 11 = .ok (.iload_n 2, 1) := by decide +kernel
theorem dX8_sheet_12 : decode cX8_sheet 12 = .ok (.iconst 1, 1) := by decide +kernel
theorem dX8_sheet_13 : decode cX8_sheet 13 = .ok (.bipush 15, 2) := by decide +kernel
theorem dX8_sheet_15 : decode cX8_sheet 15 = .ok (.invokestatic 37, 3) := by decide +kernel
theorem dX8_sheet_18 : decode cX8_sheet 18 = .ok (.ifCond .ne 5, 3) := by decide +kernel
theorem dX8_sheet_21 : decode cX8_sheet 21 = .ok (.iconst (-1), 1) := by decide +kernel
theorem dX8_sheet_22 : decode cX8_sheet 22 = .ok (.ireturn, 1) := by decide +kernel
theorem dX8_sheet_23 : decode cX8_sheet 23 = .ok (.iload_n 3, 1) := by decide +kernel
theorem dX8_sheet_24 : decode cX8_sheet 24 = .ok (.iconst 1, 1) := by decide +kernel
theorem dX8_sheet_25 : decode cX8_sheet 25 = .ok (.bipush 9, 2) := by decide +kernel
theorem dX8_sheet_27 : decode cX8_sheet 27 = .ok (.invokestatic 37, 3) := by decide +kernel
theorem dX8_sheet_30 : decode cX8_sheet 30 = .ok (.ifCond .eq 13, 3) := by decide +kernel
theorem dX8_sheet_33 : decode cX8_sheet 33 = .ok (.iload 4, 2) := by decide +kernel
theorem dX8_sheet_35 : decode cX8_sheet 35 = .ok (.iconst 0, 1) := by decide +kernel
theorem dX8_sheet_36 : decode cX8_sheet 36 = .ok (.iconst 3, 1) := by decide +kernel
theorem dX8_sheet_37 : decode cX8_sheet 37 = .ok (.invokestatic 37, 3) := by decide +kernel
theorem dX8_sheet_40 : decode cX8_sheet 40 = .ok (.ifCond .ne 5, 3) := by decide +kernel
theorem dX8_sheet_43 : decode cX8_sheet 43 = .ok (.iconst (-1), 1) := by decide +kernel
theorem dX8_sheet_44 : decode cX8_sheet 44 = .ok (.ireturn, 1) := by decide +kernel
theorem dX8_sheet_45 : decode cX8_sheet 45 = .ok (.aload_n 0, 1) := by decide +kernel
theorem dX8_sheet_46 : decode cX8_sheet 46 = .ok (.getfield 15, 3) := by decide +kernel
theorem dX8_sheet_49 : decode cX8_sheet 49 = .ok (.getfield 77, 3) := by decide +kernel
theorem dX8_sheet_52 : decode cX8_sheet 52 = .ok (.getfield 81, 3) := by decide +kernel
theorem dX8_sheet_55 : decode cX8_sheet 55 = .ok (.bipush 8, 2) := by decide +kernel
theorem dX8_sheet_57 : decode cX8_sheet 57 = .ok (.if_icmp .lt 6, 3) := by decide +kernel
theorem dX8_sheet_60 : decode cX8_sheet 60 = .ok (.bipush (-2), 2) := by decide +kernel
theorem dX8_sheet_62 : decode cX8_sheet 62 = .ok (.ireturn, 1) := by decide +kernel
theorem dX8_sheet_63 : decode cX8_sheet 63 = .ok (.aload_n 0, 1) := by decide +kernel
theorem dX8_sheet_64 : decode cX8_sheet 64 = .ok (.aload_n 0, 1) := by decide +kernel
theorem dX8_sheet_65 : decode cX8_sheet 65 = .ok (.getfield 15, 3) := by decide +kernel
theorem dX8_sheet_68 : decode cX8_sheet 68 = .ok (.getfield 77, 3) := by decide +kernel
theorem dX8_sheet_71 : decode cX8_sheet 71 = .ok (.iload_n 1, 1) := by decide +kernel
theorem dX8_sheet_72 : decode cX8_sheet 72 = .ok (.iload_n 2, 1) := by decide +kernel
theorem dX8_sheet_73 : decode cX8_sheet 73 = .ok (.iload_n 3, 1) := by decide +kernel
theorem dX8_sheet_74 : decode cX8_sheet 74 = .ok (.iload 4, 2) := by decide +kernel
theorem dX8_sheet_76 : decode cX8_sheet 76 = .ok (.invokevirtual 84, 3) := by decide +kernel
theorem dX8_sheet_79 : decode cX8_sheet 79 = .ok (.invokevirtual 55, 3) := by decide +kernel
theorem dX8_sheet_82 : decode cX8_sheet 82 = .ok (.ireturn, 1) := by decide +kernel
theorem dX8_sisters_0 : decode cX8_sisters 0 = .ok (.aload_n 0, 1) := by decide +kernel
theorem dX8_sisters_1 : decode cX8_sisters 1 = .ok (.getfield 15, 3) := by decide +kernel
theorem dX8_sisters_4 : decode cX8_sisters 4 = .ok (.getfield 77, 3) := by decide +kernel
theorem dX8_sisters_7 : decode cX8_sisters 7 = .ok (.astore_n 3, 1) := by decide +kernel
theorem dX8_sisters_8 : decode cX8_sisters 8 = .ok (.aload_n 3, 1) := by decide +kernel
theorem dX8_sisters_9 : decode cX8_sisters 9 = .ok (.iload_n 1, 1) := by decide +kernel
theorem dX8_sisters_10 : decode cX8_sisters 10 = .ok (.invokevirtual 87, 3) := by decide +kernel
theorem dX8_sisters_13 : decode cX8_sisters 13 = .ok (.ifCond .eq 16, 3) := by decide +kernel
theorem dX8_sisters_16 : decode cX8_sisters 16 = .ok (.aload_n 3, 1) := by decide +kernel
theorem dX8_sisters_17 : decode cX8_sisters 17 = .ok (.iload_n 2, 1) := by decide +kernel
theorem dX8_sisters_18 : decode cX8_sisters 18 = .ok (.invokevirtual 87, 3) := by decide +kernel
theorem dX8_sisters_21 : decode cX8_sisters 21 = .ok (.ifCond .eq 8, 3) := by decide +kernel
theorem dX8_sisters_24 : decode cX8_sisters 24 = .ok (.iload_n 1, 1) := by decide +kernel
theorem dX8_sisters_25 : decode cX8_sisters 25 = .ok (.iload_n 2, 1) := by decide +kernel
theorem dX8_sisters_26 : decode cX8_sisters 26 = .ok (.if_icmp .ne 5, 3) := by decide +kernel
theorem dX8_sisters_29 : decode cX8_sisters 29 = .ok (.iconst (-1), 1) := by decide +kernel
theorem dX8_sisters_30 : decode cX8_sisters 30 = .ok (.ireturn, 1) := by decide +kernel
theorem dX8_sisters_31 : decode cX8_sisters 31 = .ok (.aload_n 3, 1) := by decide +kernel
theorem dX8_sisters_32 : decode cX8_sisters 32 = .ok (.getfield 88, 3) := by decide +kernel
theorem dX8_sisters_35 : decode cX8_sisters 35 = .ok (.iload_n 1, 1) := by decide +kernel
theorem dX8_sisters_36 : decode cX8_sisters 36 = .ok (.iaload, 1) := by decide +kernel
theorem dX8_sisters_37 : decode cX8_sisters 37 = .ok (.bipush (-4), 2) := by decide +kernel
theorem dX8_sisters_39 : decode cX8_sisters 39 = .ok (.if_icmp .ne 14, 3) := by decide +kernel
theorem dX8_sisters_42 : decode cX8_sisters 42 = .ok (.aload_n 3, 1) := by decide +kernel
theorem dX8_sisters_43 : decode cX8_sisters 43 = .ok (.getfield 88, 3) := by decide +kernel
theorem dX8_sisters_46 : decode cX8_sisters 46 = .ok (.iload_n 2, 1) := by decide +kernel
theorem dX8_sisters_47 : decode cX8_sisters 47 = .ok (.iaload, 1) := by decide +kernel
theorem dX8_sisters_48 : decode cX8_sisters 48 = .ok (.bipush (-4), 2) := by decide +kernel
theorem dX8_sisters_50 : decode cX8_sisters 50 = .ok (.if_icmp .eq 6, 3) := by decide +kernel
theorem dX8_sisters_53 : decode cX8_sisters 53 = .ok (.bipush (-3), 2) := by decide +kernel
theorem dX8_sisters_55 : decode cX8_sisters 55 = .ok (.ireturn, 1) := by decide +kernel
theorem dX8_sisters_56 : decode cX8_sisters 56 = .ok (.aload_n 3, 1) := by decide +kernel
theorem dX8_sisters_57 : decode cX8_sisters 57 = .ok (.getfield 88, 3) := by decide +kernel
theorem dX8_sisters_60 : decode cX8_sisters 60 = .ok (.iload_n 1, 1) := by decide +kernel
theorem dX8_sisters_61 : decode cX8_sisters 61 = .ok (.iload_n 2, 1) := by decide +kernel
theorem dX8_sisters_62 : decode cX8_sisters 62 = .ok (.iastore, 1) := by decide +kernel
theorem dX8_sisters_63 : decode cX8_sisters 63 = .ok (.aload_n 3, 1) := by decide +kernel
theorem dX8_sisters_64 : decode cX8_sisters 64 = .ok (.getfield 88, 3) := by decide +kernel
theorem dX8_sisters_67 : decode cX8_sisters 67 = .ok (.iload_n 2, 1) := by decide +kernel
theorem dX8_sisters_68 : decode cX8_sisters 68 = .ok (.iload_n 1, 1) := by decide +kernel
theorem dX8_sisters_69 : decode cX8_sisters 69 = .ok (.iastore, 1) := by decide +kernel
theorem dX8_sisters_70 : decode cX8_sisters 70 = .ok (.aload_n 0, 1) := by decide +kernel
theorem dX8_sisters_71 : decode cX8_sisters 71 = .ok (.iconst 1, 1) := by decide +kernel
theorem dX8_sisters_72 : decode cX8_sisters 72 = .ok (.invokevirtual 55, 3) := by decide +kernel
theorem dX8_sisters_75 : decode cX8_sisters 75 = .ok (.ireturn, 1) := by decide +kernel
theorem dX8_past_0 : decode cX8_past 0 = .ok (.aload_n 0, 1) := by decide +kernel
theorem dX8_past_1 : decode cX8_past 1 = .ok (.getfield 15, 3) := by decide +kernel
theorem dX8_past_4 : decode cX8_past 4 = .ok (.getfield 77, 3) := by decide +kernel
theorem dX8_past_7 : decode cX8_past 7 = .ok (.iload_n 1, 1) := by decide +kernel
theorem dX8_past_8 : decode cX8_past 8 = .ok (.invokevirtual 87, 3) := by decide +kernel
theorem dX8_past_11 : decode cX8_past 11 = .ok (.ifCond .eq 25, 3) := by decide +kernel
theorem dX8_past_14 : decode cX8_past 14 = .ok (.iload_n 2, 1) := by decide +kernel
theorem dX8_past_15 : decode cX8_past 15 = .ok (.iconst 0, 1) := by decide +kernel
theorem dX8_past_16 : decode cX8_past 16 = .ok (.sipush 2000, 3) := by decide +kernel
theorem dX8_past_19 : decode cX8_past 19 = .ok (.invokestatic 37, 3) := by decide +kernel
theorem dX8_past_22 : decode cX8_past 22 = .ok (.ifCond .eq 14, 3) := by decide +kernel
theorem dX8_past_25 : decode cX8_past 25 = .ok (.iload_n 3, 1) := by decide +kernel
theorem dX8_past_26 : decode cX8_past 26 = .ok (.iload_n 2, 1) := by decide +kernel
theorem dX8_past_27 : decode cX8_past 27 = .ok (.sipush 2000, 3) := by decide +kernel
theorem dX8_past_30 : decode cX8_past 30 = .ok (.invokestatic 37, 3) := by decide +kernel
theorem dX8_past_33 : decode cX8_past 33 = .ok (.ifCond .ne 5, 3) := by decide +kernel
theorem dX8_past_36 : decode cX8_past 36 = .ok (.iconst (-1), 1) := by decide +kernel
theorem dX8_past_37 : decode cX8_past 37 = .ok (.ireturn, 1) := by decide +kernel
theorem dX8_past_38 : decode cX8_past 38 = .ok (.aload_n 0, 1) := by decide +kernel
theorem dX8_past_39 : decode cX8_past 39 = .ok (.getfield 15, 3) := by decide +kernel
theorem dX8_past_42 : decode cX8_past 42 = .ok (.getfield 77, 3) := by decide +kernel
theorem dX8_past_45 : decode cX8_past 45 = .ok (.getfield 91, 3) := by decide +kernel
theorem dX8_past_48 : decode cX8_past 48 = .ok (.iload_n 1, 1) := by decide +kernel
theorem dX8_past_49 : decode cX8_past 49 = .ok (.iload_n 2, 1) := by decide +kernel
theorem dX8_past_50 : decode cX8_past 50 = .ok (.iastore, 1) := by decide +kernel
theorem dX8_past_51 : decode cX8_past 51 = .ok (.aload_n 0, 1) := by decide +kernel
theorem dX8_past_52 : decode cX8_past 52 = .ok (.getfield 15, 3) := by decide +kernel
theorem dX8_past_55 : decode cX8_past 55 = .ok (.getfield 77, 3) := by decide +kernel
theorem dX8_past_58 : decode cX8_past 58 = .ok (.getfield 94, 3) := by decide +kernel
theorem dX8_past_61 : decode cX8_past 61 = .ok (.iload_n 1, 1) := by decide +kernel
theorem dX8_past_62 : decode cX8_past 62 = .ok (.iload_n 3, 1) := by decide +kernel
theorem dX8_past_63 : decode cX8_past 63 = .ok (.iastore, 1) := by decide +kernel
theorem dX8_past_64 : decode cX8_past 64 = .ok (.aload_n 0, 1) := by decide +kernel
theorem dX8_past_65 : decode cX8_past 65 = .ok (.iconst 1, 1) := by decide +kernel
theorem dX8_past_66 : decode cX8_past 66 = .ok (.invokevirtual 55, 3) := by decide +kernel
theorem dX8_past_69 : decode cX8_past 69 = .ok (.ireturn, 1) := by decide +kernel
theorem dX8_of_0 : decode cX8_of 0 = .ok (.aload_n 0, 1) := by decide +kernel
end
section
theorem dX8_of_1 : decode cX8_of 1 = .ok (.getfield 15, 3) := by decide +kernel
theorem dX8_of_4 : decode cX8_of 4 = .ok (.getfield 77, 3) := by decide +kernel
theorem dX8_of_7 : decode cX8_of 7 = .ok (.astore_n 3, 1) := by decide +kernel
theorem dX8_of_8 : decode cX8_of 8 = .ok (.aload_n 3, 1) := by decide +kernel
theorem dX8_of_9 : decode cX8_of 9 = .ok (.iload_n 1, 1) := by decide +kernel
theorem dX8_of_10 : decode cX8_of 10 = .ok (.invokevirtual 87, 3) := by decide +kernel
theorem dX8_of_13 : decode cX8_of 13 = .ok (.ifCond .ne 5, 3) := by decide +kernel
theorem dX8_of_16 : decode cX8_of 16 = .ok (.iconst (-1), 1) := by decide +kernel
theorem dX8_of_17 : decode cX8_of 17 = .ok (.ireturn, 1) := by decide +kernel
theorem dX8_of_18 : decode cX8_of 18 = .ok (.iload_n 2, 1) := by decide +kernel
theorem dX8_of_19 : decode cX8_of 19 = .ok (.tableswitch 124 0 7 #[45, 52, 59, 66, 73, 80, 100, 112], 45) := by decide +kernel
theorem dX8_of_64 : decode cX8_of 64 = .ok (.aload_n 3, 1) := by decide +kernel
theorem dX8_of_65 : decode cX8_of 65 = .ok (.getfield 97, 3) := by decide +kernel
theorem dX8_of_68 : decode cX8_of 68 = .ok (.iload_n 1, 1) := by decide +kernel
theorem dX8_of_69 : decode cX8_of 69 = .ok (.iaload, 1) := by decide +kernel
theorem dX8_of_70 : decode cX8_of 70 = .ok (.ireturn, 1) := by decide +kernel
theorem dX8_of_71 : decode cX8_of 71 = .ok (.aload_n 3, 1) := by decide +kernel
theorem dX8_of_72 : decode cX8_of 72 = .ok (.getfield 100, 3) := by decide +kernel
theorem dX8_of_75 : decode cX8_of 75 = .ok (.iload_n 1, 1) := by decide +kernel
theorem dX8_of_76 : decode cX8_of 76 = .ok (.iaload, 1) := by decide +kernel
theorem dX8_of_77 : decode cX8_of 77 = .ok (.ireturn, 1) := by decide +kernel
theorem dX8_of_78 : decode cX8_of 78 = .ok (.aload_n 3, 1) := by decide +kernel
theorem dX8_of_79 : decode cX8_of 79 = .ok (.getfield 103, 3) := by decide +kernel
theorem dX8_of_82 : decode cX8_of 82 = .ok (.iload_n 1, 1) := by decide +kernel
theorem dX8_of_83 : decode cX8_of 83 = .ok (.iaload, 1) := by decide +kernel
theorem dX8_of_84 : decode cX8_of 84 = .ok (.ireturn, 1) := by decide +kernel
theorem dX8_of_85 : decode cX8_of 85 = .ok (.aload_n 3, 1) := by decide +kernel
theorem dX8_of_86 : decode cX8_of 86 = .ok (.getfield 106, 3) := by decide +kernel
theorem dX8_of_89 : decode cX8_of 89 = .ok (.iload_n 1, 1) := by decide +kernel
theorem dX8_of_90 : decode cX8_of 90 = .ok (.iaload, 1) := by decide +kernel
theorem dX8_of_91 : decode cX8_of 91 = .ok (.ireturn, 1) := by decide +kernel
theorem dX8_of_92 : decode cX8_of 92 = .ok (.aload_n 3, 1) := by decide +kernel
theorem dX8_of_93 : decode cX8_of 93 = .ok (.getfield 88, 3) := by decide +kernel
theorem dX8_of_96 : decode cX8_of 96 = .ok (.iload_n 1, 1) := by decide +kernel
theorem dX8_of_97 : decode cX8_of 97 = .ok (.iaload, 1) := by decide +kernel
theorem dX8_of_98 : decode cX8_of 98 = .ok (.ireturn, 1) := by decide +kernel
theorem dX8_of_99 : decode cX8_of 99 = .ok (.aload_n 0, 1) := by decide +kernel
theorem dX8_of_100 : decode cX8_of 100 = .ok (.getfield 21, 3) := by decide +kernel
theorem dX8_of_103 : decode cX8_of 103 = .ok (.iload_n 1, 1) := by decide +kernel
theorem dX8_of_104 : decode cX8_of 104 = .ok (.invokevirtual 109, 3) := by decide +kernel
theorem dX8_of_107 : decode cX8_of 107 = .ok (.getfield 113, 3) := by decide +kernel
theorem dX8_of_110 : decode cX8_of 110 = .ok (.ifCond .eq 7, 3) := by decide +kernel
theorem dX8_of_113 : decode cX8_of 113 = .ok (.iconst 1, 1) := by decide +kernel
theorem dX8_of_114 : decode cX8_of 114 = .ok (.goto 4, 3) := by decide +kernel
theorem dX8_of_117 : decode cX8_of 117 = .ok (.iconst 0, 1) := by decide +kernel
theorem dX8_of_118 : decode cX8_of 118 = .ok (.ireturn, 1) := by decide +kernel
theorem dX8_of_119 : decode cX8_of 119 = .ok (.aload_n 0, 1) := by decide +kernel
theorem dX8_of_120 : decode cX8_of 120 = .ok (.getfield 15, 3) := by decide +kernel
theorem dX8_of_123 : decode cX8_of 123 = .ok (.getfield 117, 3) := by decide +kernel
theorem dX8_of_126 : decode cX8_of 126 = .ok (.iload_n 1, 1) := by decide +kernel
theorem dX8_of_127 : decode cX8_of 127 = .ok (.invokevirtual 121, 3) := by decide +kernel
theorem dX8_of_130 : decode cX8_of 130 = .ok (.ireturn, 1) := by decide +kernel
theorem dX8_of_131 : decode cX8_of 131 = .ok (.aload_n 0, 1) := by decide +kernel
theorem dX8_of_132 : decode cX8_of 132 = .ok (.getfield 15, 3) := by decide +kernel
theorem dX8_of_135 : decode cX8_of 135 = .ok (.getfield 126, 3) := by decide +kernel
theorem dX8_of_138 : decode cX8_of 138 = .ok (.iload_n 1, 1) := by decide +kernel
theorem dX8_of_139 : decode cX8_of 139 = .ok (.invokevirtual 130, 3) := by decide +kernel
theorem dX8_of_142 : decode cX8_of 142 = .ok (.ireturn, 1) := by decide +kernel
theorem dX8_of_143 : decode cX8_of 143 = .ok (.iconst (-1), 1) := by decide +kernel
theorem dX8_of_144 : decode cX8_of 144 = .ok (.ireturn, 1) := by decide +kernel
theorem dX8_show_0 : decode cX8_show 0 = .ok (.aload_n 0, 1) := by decide +kernel
theorem dX8_show_1 : decode cX8_show 1 = .ok (.getfield 15, 3) := by decide +kernel
theorem dX8_show_4 : decode cX8_show 4 = .ok (.getfield 77, 3) := by decide +kernel
theorem dX8_show_7 : decode cX8_show 7 = .ok (.iload_n 1, 1) := by decide +kernel
theorem dX8_show_8 : decode cX8_show 8 = .ok (.invokevirtual 87, 3) := by decide +kernel
theorem dX8_show_11 : decode cX8_show 11 = .ok (.ifCond .eq 24, 3) := by decide +kernel
theorem dX8_show_14 : decode cX8_show 14 = .ok (.aload_n 0, 1) := by decide +kernel
theorem dX8_show_15 : decode cX8_show 15 = .ok (.getfield 15, 3) := by decide +kernel
theorem dX8_show_18 : decode cX8_show 18 = .ok (.getfield 41, 3) := by decide +kernel
theorem dX8_show_21 : decode cX8_show 21 = .ok (.iload_n 2, 1) := by decide +kernel
theorem dX8_show_22 : decode cX8_show 22 = .ok (.invokevirtual 58, 3) := by decide +kernel
theorem dX8_show_25 : decode cX8_show 25 = .ok (.ifCond .eq 10, 3) := by decide +kernel
theorem dX8_show_28 : decode cX8_show 28 = .ok (.iload_n 3, 1) := by decide +kernel
theorem dX8_show_29 : decode cX8_show 29 = .ok (.invokestatic 62, 3) := by decide +kernel
theorem dX8_show_32 : decode cX8_show 32 = .ok (.ifCond .ne 5, 3) := by decide +kernel
theorem dX8_show_35 : decode cX8_show 35 = .ok (.iconst (-1), 1) := by decide +kernel
theorem dX8_show_36 : decode cX8_show 36 = .ok (.ireturn, 1) := by decide +kernel
theorem dX8_show_37 : decode cX8_show 37 = .ok (.aload_n 0, 1) := by decide +kernel
theorem dX8_show_38 : decode cX8_show 38 = .ok (.getfield 15, 3) := by decide +kernel
theorem dX8_show_41 : decode cX8_show 41 = .ok (.getfield 117, 3) := by decide +kernel
theorem dX8_show_44 : decode cX8_show 44 = .ok (.iload_n 1, 1) := by decide +kernel
theorem dX8_show_45 : decode cX8_show 45 = .ok (.iload_n 3, 1) := by decide +kernel
theorem dX8_show_46 : decode cX8_show 46 = .ok (.iconst 0, 1) := by decide +kernel
theorem dX8_show_47 : decode cX8_show 47 = .ok (.invokevirtual 133, 3) := by decide +kernel
theorem dX8_show_50 : decode cX8_show 50 = .ok (.ifCond .eq 6, 3) := by decide +kernel
theorem dX8_show_53 : decode cX8_show 53 = .ok (.bipush (-3), 2) := by decide +kernel
theorem dX8_show_55 : decode cX8_show 55 = .ok (.ireturn, 1) := by decide +kernel
theorem dX8_show_56 : decode cX8_show 56 = .ok (.aload_n 0, 1) := by decide +kernel
theorem dX8_show_57 : decode cX8_show 57 = .ok (.getfield 15, 3) := by decide +kernel
theorem dX8_show_60 : decode cX8_show 60 = .ok (.getfield 117, 3) := by decide +kernel
theorem dX8_show_63 : decode cX8_show 63 = .ok (.getfield 136, 3) := by decide +kernel
theorem dX8_show_66 : decode cX8_show 66 = .ok (.bipush 30, 2) := by decide +kernel
theorem dX8_show_68 : decode cX8_show 68 = .ok (.if_icmp .lt 6, 3) := by decide +kernel
theorem dX8_show_71 : decode cX8_show 71 = .ok (.bipush (-2), 2) := by decide +kernel
theorem dX8_show_73 : decode cX8_show 73 = .ok (.ireturn, 1) := by decide +kernel
theorem dX8_show_74 : decode cX8_show 74 = .ok (.aload_n 0, 1) := by decide +kernel
theorem dX8_show_75 : decode cX8_show 75 = .ok (.aload_n 0, 1) := by decide +kernel
theorem dX8_show_76 : decode cX8_show 76 = .ok (.getfield 15, 3) := by decide +kernel
theorem dX8_show_79 : decode cX8_show 79 = .ok (.getfield 117, 3) := by decide +kernel
theorem dX8_show_82 : decode cX8_show 82 = .ok (.iload_n 1, 1) := by decide +kernel
theorem dX8_show_83 : decode cX8_show 83 = .ok (.iload_n 2, 1) := by decide +kernel
theorem dX8_show_84 : decode cX8_show 84 = .ok (.iload_n 3, 1) := by decide +kernel
theorem dX8_show_85 : decode cX8_show 85 = .ok (.invokevirtual 137, 3) := by decide +kernel
theorem dX8_show_88 : decode cX8_show 88 = .ok (.invokevirtual 55, 3) := by decide +kernel
theorem dX8_show_91 : decode cX8_show 91 = .ok (.ireturn, 1) := by decide +kernel
theorem dX8_lend_0 : decode cX8_lend 0 = .ok (.aload_n 0, 1) := by decide +kernel
theorem dX8_lend_1 : decode cX8_lend 1 = .ok (.getfield 15, 3) := by decide +kernel
theorem dX8_lend_4 : decode cX8_lend 4 = .ok (.getfield 77, 3) := by decide +kernel
theorem dX8_lend_7 : decode cX8_lend 7 = .ok (.iload_n 1, 1) := by decide +kernel
theorem dX8_lend_8 : decode cX8_lend 8 = .ok (.invokevirtual 87, 3) := by decide +kernel
theorem dX8_lend_11 : decode cX8_lend 11 = .ok (.ifCond .eq 21, 3) := by decide +kernel
theorem dX8_lend_14 : decode cX8_lend 14 = .ok (.iload_n 2, 1) := by decide +kernel
theorem dX8_lend_15 : decode cX8_lend 15 = .ok (.invokestatic 62, 3) := by decide +kernel
theorem dX8_lend_18 : decode cX8_lend 18 = .ok (.ifCond .eq 14, 3) := by decide +kernel
theorem dX8_lend_21 : decode cX8_lend 21 = .ok (.iload_n 3, 1) := by decide +kernel
theorem dX8_lend_22 : decode cX8_lend 22 = .ok (.iconst 1, 1) := by decide +kernel
theorem dX8_lend_23 : decode cX8_lend 23 = .ok (.sipush 500, 3) := by decide +kernel
theorem dX8_lend_26 : decode cX8_lend 26 = .ok (.invokestatic 37, 3) := by decide +kernel
theorem dX8_lend_29 : decode cX8_lend 29 = .ok (.ifCond .ne 5, 3) := by decide +kernel
theorem dX8_lend_32 : decode cX8_lend 32 = .ok (.iconst (-1), 1) := by decide +kernel
theorem dX8_lend_33 : decode cX8_lend 33 = .ok (.ireturn, 1) := by decide +kernel
theorem dX8_lend_34 : decode cX8_lend 34 = .ok (.aload_n 0, 1) := by decide +kernel
theorem dX8_lend_35 : decode cX8_lend 35 = .ok (.getfield 21, 3) := by decide +kernel
theorem dX8_lend_38 : decode cX8_lend 38 = .ok (.iload_n 1, 1) := by decide +kernel
theorem dX8_lend_39 : decode cX8_lend 39 = .ok (.invokevirtual 109, 3) := by decide +kernel
theorem dX8_lend_42 : decode cX8_lend 42 = .ok (.iconst 0, 1) := by decide +kernel
theorem dX8_lend_43 : decode cX8_lend 43 = .ok (.invokevirtual 141, 3) := by decide +kernel
theorem dX8_lend_46 : decode cX8_lend 46 = .ok (.iload_n 3, 1) := by decide +kernel
theorem dX8_lend_47 : decode cX8_lend 47 = .ok (.if_icmp .ge 6, 3) := by decide +kernel
theorem dX8_lend_50 : decode cX8_lend 50 = .ok (.bipush (-4), 2) := by decide +kernel
theorem dX8_lend_52 : decode cX8_lend 52 = .ok (.ireturn, 1) := by decide +kernel
theorem dX8_lend_53 : decode cX8_lend 53 = .ok (.aload_n 0, 1) := by decide +kernel
theorem dX8_lend_54 : decode cX8_lend 54 = .ok (.getfield 15, 3) := by decide +kernel
theorem dX8_lend_57 : decode cX8_lend 57 = .ok (.getfield 117, 3) := by decide +kernel
theorem dX8_lend_60 : decode cX8_lend 60 = .ok (.getfield 136, 3) := by decide +kernel
theorem dX8_lend_63 : decode cX8_lend 63 = .ok (.bipush 30, 2) := by decide +kernel
theorem dX8_lend_65 : decode cX8_lend 65 = .ok (.if_icmp .lt 6, 3) := by decide +kernel
theorem dX8_lend_68 : decode cX8_lend 68 = .ok (.bipush (-2), 2) := by decide +kernel
theorem dX8_lend_70 : decode cX8_lend 70 = .ok (.ireturn, 1) := by decide +kernel
theorem dX8_lend_71 : decode cX8_lend 71 = .ok (.aload_n 0, 1) := by decide +kernel
theorem dX8_lend_72 : decode cX8_lend 72 = .ok (.aload_n 0, 1) := by decide +kernel
theorem dX8_lend_73 : decode cX8_lend 73 = .ok (.getfield 15, 3) := by decide +kernel
theorem dX8_lend_76 : decode cX8_lend 76 = .ok (.getfield 117, 3) := by decide +kernel
theorem dX8_lend_79 : decode cX8_lend 79 = .ok (.iload_n 1, 1) := by decide +kernel
theorem dX8_lend_80 : decode cX8_lend 80 = .ok (.iload_n 2, 1) := by decide +kernel
theorem dX8_lend_81 : decode cX8_lend 81 = .ok (.iload_n 3, 1) := by decide +kernel
theorem dX8_lend_82 : decode cX8_lend 82 = .ok (.invokevirtual 145, 3) := by decide +kernel
theorem dX8_lend_85 : decode cX8_lend 85 = .ok (.invokevirtual 55, 3) := by decide +kernel
theorem dX8_lend_88 : decode cX8_lend 88 = .ok (.ireturn, 1) := by decide +kernel
theorem dX8_lacks_0 : decode cX8_lacks 0 = .ok (.aload_n 0, 1) := by decide +kernel
theorem dX8_lacks_1 : decode cX8_lacks 1 = .ok (.getfield 15, 3) := by decide +kernel
theorem dX8_lacks_4 : decode cX8_lacks 4 = .ok (.getfield 77, 3) := by decide +kernel
theorem dX8_lacks_7 : decode cX8_lacks 7 = .ok (.iload_n 1, 1) := by decide +kernel
theorem dX8_lacks_8 : decode cX8_lacks 8 = .ok (.invokevirtual 87, 3) := by decide +kernel
theorem dX8_lacks_11 : decode cX8_lacks 11 = .ok (.ifCond .eq 14, 3) := by decide +kernel
theorem dX8_lacks_14 : decode cX8_lacks 14 = .ok (.iload_n 2, 1) := by decide +kernel
theorem dX8_lacks_15 : decode cX8_lacks 15 = .ok (.iconst 1, 1) := by decide +kernel
theorem dX8_lacks_16 : decode cX8_lacks 16 = .ok (.sipush 500, 3) := by decide +kernel
theorem dX8_lacks_19 : decode cX8_lacks 19 = .ok (.invokestatic 37, 3) := by decide +kernel
theorem dX8_lacks_22 : decode cX8_lacks 22 = .ok (.ifCond .ne 5, 3) := by decide +kernel
theorem dX8_lacks_25 : decode cX8_lacks 25 = .ok (.iconst (-1), 1) := by decide +kernel
theorem dX8_lacks_26 : decode cX8_lacks 26 = .ok (.ireturn, 1) := by decide +kernel
theorem dX8_lacks_27 : decode cX8_lacks 27 = .ok (.iconst 0, 1) := by decide +kernel
theorem dX8_lacks_28 : decode cX8_lacks 28 = .ok (.iload_n 2, 1) := by decide +kernel
theorem dX8_lacks_29 : decode cX8_lacks 29 = .ok (.aload_n 0, 1) := by decide +kernel
theorem dX8_lacks_30 : decode cX8_lacks 30 = .ok (.getfield 21, 3) := by decide +kernel
theorem dX8_lacks_33 : decode cX8_lacks 33 = .ok (.iload_n 1, 1) := by decide +kernel
theorem dX8_lacks_34 : decode cX8_lacks 34 = .ok (.invokevirtual 109, 3) := by decide +kernel
theorem dX8_lacks_37 : decode cX8_lacks 37 = .ok (.iconst 0, 1) := by decide +kernel
theorem dX8_lacks_38 : decode cX8_lacks 38 = .ok (.invokevirtual 141, 3) := by decide +kernel
theorem dX8_lacks_41 : decode cX8_lacks 41 = .ok (.isub, 1) := by decide +kernel
theorem dX8_lacks_42 : decode cX8_lacks 42 = .ok (.invokestatic 148, 3) := by decide +kernel
theorem dX8_lacks_45 : decode cX8_lacks 45 = .ok (.ireturn, 1) := by decide +kernel
theorem dX8_cancel_0 : decode cX8_cancel 0 = .ok (.aload_n 0, 1) := by decide +kernel
theorem dX8_cancel_1 : decode cX8_cancel 1 = .ok (.getfield 15, 3) := by decide +kernel
theorem dX8_cancel_4 : decode cX8_cancel 4 = .ok (.getfield 117, 3) := by decide +kernel
theorem dX8_cancel_7 : decode cX8_cancel 7 = .ok (.astore_n 2, 1) := by decide +kernel
theorem dX8_cancel_8 : decode cX8_cancel 8 = .ok (.aload_n 2, 1) := by decide +kernel
theorem dX8_cancel_9 : decode cX8_cancel 9 = .ok (.iload_n 1, 1) := by decide +kernel
theorem dX8_cancel_10 : decode cX8_cancel 10 = .ok (.invokevirtual 154, 3) := by decide +kernel
theorem dX8_cancel_13 : decode cX8_cancel 13 = .ok (.ifCond .ne 5, 3) := by decide +kernel
theorem dX8_cancel_16 : decode cX8_cancel 16 = .ok (.iconst (-1), 1) := by decide +kernel
theorem dX8_cancel_17 : decode cX8_cancel 17 = .ok (.ireturn, 1) := by decide +kernel
theorem dX8_cancel_18 : decode cX8_cancel 18 = .ok (.aload_n 2, 1) := by decide +kernel
theorem dX8_cancel_19 : decode cX8_cancel 19 = .ok (.getfield 155, 3) := by decide +kernel
theorem dX8_cancel_22 : decode cX8_cancel 22 = .ok (.iload_n 1, 1) := by decide +kernel
theorem dX8_cancel_23 : decode cX8_cancel 23 = .ok (.baload, 1) := by decide +kernel
theorem dX8_cancel_24 : decode cX8_cancel 24 = .ok (.ifCond .eq 6, 3) := by decide +kernel
theorem dX8_cancel_27 : decode cX8_cancel 27 = .ok (.bipush (-3), 2) := by decide +kernel
theorem dX8_cancel_29 : decode cX8_cancel 29 = .ok (.ireturn, 1) := by decide +kernel
theorem dX8_cancel_30 : decode cX8_cancel 30 = .ok (.aload_n 2, 1) := by decide +kernel
theorem dX8_cancel_31 : decode cX8_cancel 31 = .ok (.getfield 155, 3) := by decide +kernel
theorem dX8_cancel_34 : decode cX8_cancel 34 = .ok (.iload_n 1, 1) := by decide +kernel
theorem dX8_cancel_35 : decode cX8_cancel 35 = .ok (.iconst 1, 1) := by decide +kernel
theorem dX8_cancel_36 : decode cX8_cancel 36 = .ok (.bastore, 1) := by decide +kernel
theorem dX8_cancel_37 : decode cX8_cancel 37 = .ok (.aload_n 0, 1) := by decide +kernel
theorem dX8_cancel_38 : decode cX8_cancel 38 = .ok (.iconst 1, 1) := by decide +kernel
theorem dX8_cancel_39 : decode cX8_cancel 39 = .ok (.invokevirtual 55, 3) := by decide +kernel
theorem dX8_cancel_42 : decode cX8_cancel 42 = .ok (.ireturn, 1) := by decide +kernel
theorem dX8_booking_0 : decode cX8_booking 0 = .ok (.aload_n 0, 1) := by decide +kernel
theorem dX8_booking_1 : decode cX8_booking 1 = .ok (.getfield 15, 3) := by decide +kernel
theorem dX8_booking_4 : decode cX8_booking 4 = .ok (.getfield 117, 3) := by decide +kernel
theorem dX8_booking_7 : decode cX8_booking 7 = .ok (.astore_n 3, 1) := by decide +kernel
theorem dX8_booking_8 : decode cX8_booking 8 = .ok (.aload_n 3, 1) := by decide +kernel
theorem dX8_booking_9 : decode cX8_booking 9 = .ok (.iload_n 1, 1) := by decide +kernel
theorem dX8_booking_10 : decode cX8_booking 10 = .ok (.invokevirtual 154, 3) := by decide +kernel
theorem dX8_booking_13 : decode cX8_booking 13 = .ok (.ifCond .ne 5, 3) := by decide +kernel
theorem dX8_booking_16 : decode cX8_booking 16 = .ok (.iconst (-1), 1) := by decide +kernel
theorem dX8_booking_17 : decode cX8_booking 17 = .ok (.ireturn, 1) := by decide +kernel
theorem dX8_booking_18 : decode cX8_booking 18 = .ok (.iload_n 2, 1) := by decide +kernel
theorem dX8_booking_19 : decode cX8_booking 19 = .ok (.tableswitch 111 0 6 #[41, 55, 62, 69, 76, 86, 96], 41) := by decide +kernel
theorem dX8_booking_60 : decode cX8_booking 60 = .ok (.aload_n 3, 1) := by decide +kernel
theorem dX8_booking_61 : decode cX8_booking 61 = .ok (.iload_n 1, 1) := by decide +kernel
theorem dX8_booking_62 : decode cX8_booking 62 = .ok (.invokevirtual 159, 3) := by decide +kernel
theorem dX8_booking_65 : decode cX8_booking 65 = .ok (.ifCond .eq 7, 3) := by decide +kernel
theorem dX8_booking_68 : decode cX8_booking 68 = .ok (.iconst 1, 1) := by decide +kernel
theorem dX8_booking_69 : decode cX8_booking 69 = .ok (.goto 4, 3) := by decide +kernel
theorem dX8_booking_72 : decode cX8_booking 72 = .ok (.iconst 0, 1) := by decide +kernel
theorem dX8_booking_73 : decode cX8_booking 73 = .ok (.ireturn, 1) := by decide +kernel
theorem dX8_booking_74 : decode cX8_booking 74 = .ok (.aload_n 3, 1) := by decide +kernel
theorem dX8_booking_75 : decode cX8_booking 75 = .ok (.getfield 162, 3) := by decide +kernel
theorem dX8_booking_78 : decode cX8_booking 78 = .ok (.iload_n 1, 1) := by decide +kernel
theorem dX8_booking_79 : decode cX8_booking 79 = .ok (.iaload, 1) := by decide +kernel
theorem dX8_booking_80 : decode cX8_booking 80 = .ok (.ireturn, 1) := by decide +kernel
theorem dX8_booking_81 : decode cX8_booking 81 = .ok (.aload_n 3, 1) := by decide +kernel
theorem dX8_booking_82 : decode cX8_booking 82 = .ok (.getfield 165, 3) := by decide +kernel
theorem dX8_booking_85 : decode cX8_booking 85 = .ok (.iload_n 1, 1) := by decide +kernel
theorem dX8_booking_86 : decode cX8_booking 86 = .ok (.iaload, 1) := by decide +kernel
theorem dX8_booking_87 : decode cX8_booking 87 = .ok (.ireturn, 1) := by decide +kernel
theorem dX8_booking_88 : decode cX8_booking 88 = .ok (.aload_n 3, 1) := by decide +kernel
theorem dX8_booking_89 : decode cX8_booking 89 = .ok (.getfield 168, 3) := by decide +kernel
theorem dX8_booking_92 : decode cX8_booking 92 = .ok (.iload_n 1, 1) := by decide +kernel
theorem dX8_booking_93 : decode cX8_booking 93 = .ok (.iaload, 1) := by decide +kernel
theorem dX8_booking_94 : decode cX8_booking 94 = .ok (.ireturn, 1) := by decide +kernel
theorem dX8_booking_95 : decode cX8_booking 95 = .ok (.aload_n 0, 1) := by decide +kernel
theorem dX8_booking_96 : decode cX8_booking 96 = .ok (.getfield 15, 3) := by decide +kernel
theorem dX8_booking_99 : decode cX8_booking 99 = .ok (.iload_n 1, 1) := by decide +kernel
theorem dX8_booking_100 : decode cX8_booking 100 = .ok (.iconst 0, 1) := by decide +kernel
theorem dX8_booking_101 : decode cX8_booking 101 = .ok (.invokevirtual 171, 3) := by decide +kernel
theorem dX8_booking_104 : decode cX8_booking 104 = .ok (.ireturn, 1) := by decide +kernel
theorem dX8_booking_105 : decode cX8_booking 105 = .ok (.aload_n 0, 1) := by decide +kernel
theorem dX8_booking_106 : decode cX8_booking 106 = .ok (.getfield 15, 3) := by decide +kernel
theorem dX8_booking_109 : decode cX8_booking 109 = .ok (.iload_n 1, 1) := by decide +kernel
theorem dX8_booking_110 : decode cX8_booking 110 = .ok (.iconst 1, 1) := by decide +kernel
theorem dX8_booking_111 : decode cX8_booking 111 = .ok (.invokevirtual 171, 3) := by decide +kernel
theorem dX8_booking_114 : decode cX8_booking 114 = .ok (.ireturn, 1) := by decide +kernel
theorem dX8_booking_115 : decode cX8_booking 115 = .ok (.aload_n 3, 1) := by decide +kernel
theorem dX8_booking_116 : decode cX8_booking 116 = .ok (.getfield 155, 3) := by decide +kernel
theorem dX8_booking_119 : decode cX8_booking 119 = .ok (.iload_n 1, 1) := by decide +kernel
theorem dX8_booking_120 : decode cX8_booking 120 = .ok (.baload, 1) := by decide +kernel
theorem dX8_booking_121 : decode cX8_booking 121 = .ok (.ifCond .eq 7, 3) := by decide +kernel
theorem dX8_booking_124 : decode cX8_booking 124 = .ok (.iconst 1, 1) := by decide +kernel
theorem dX8_booking_125 : decode cX8_booking 125 = .ok (.goto 4, 3) := by decide +kernel
theorem dX8_booking_128 : decode cX8_booking 128 = .ok (.iconst 0, 1) := by decide +kernel
theorem dX8_booking_129 : decode cX8_booking 129 = .ok (.ireturn, 1) := by decide +kernel
theorem dX8_booking_130 : decode cX8_booking 130 = .ok (.iconst (-1), 1) := by decide +kernel
theorem dX8_booking_131 : decode cX8_booking 131 = .ok (.ireturn, 1) := by decide +kernel
theorem dX8_thread_0 : decode cX8_thread 0 = .ok (.aload_n 0, 1) := by decide +kernel
theorem dX8_thread_1 : decode cX8_thread 1 = .ok (.getfield 15, 3) := by decide +kernel
theorem dX8_thread_4 : decode cX8_thread 4 = .ok (.getfield 77, 3) := by decide +kernel
theorem dX8_thread_7 : decode cX8_thread 7 = .ok (.iload_n 1, 1) := by decide +kernel
theorem dX8_thread_8 : decode cX8_thread 8 = .ok (.invokevirtual 87, 3) := by decide +kernel
theorem dX8_thread_11 : decode cX8_thread 11 = .ok (.ifCond .eq 20, 3) := by decide +kernel
theorem dX8_thread_14 : decode cX8_thread 14 = .ok (.iload_n 2, 1) := by decide +kernel
theorem dX8_thread_15 : decode cX8_thread 15 = .ok (.invokestatic 62, 3) := by decide +kernel
theorem dX8_thread_18 : decode cX8_thread 18 = .ok (.ifCond .eq 13, 3) := by decide +kernel
theorem dX8_thread_21 : decode cX8_thread 21 = .ok (.iload_n 3, 1) := by decide +kernel
theorem dX8_thread_22 : decode cX8_thread 22 = .ok (.iconst 0, 1) := by decide +kernel
theorem dX8_thread_23 : decode cX8_thread 23 = .ok (.bipush 7, 2) := by decide +kernel
theorem dX8_thread_25 : decode cX8_thread 25 = .ok (.invokestatic 37, 3) := by decide +kernel
theorem dX8_thread_28 : decode cX8_thread 28 = .ok (.ifCond .ne 5, 3) := by decide +kernel
theorem dX8_thread_31 : decode cX8_thread 31 = .ok (.iconst (-1), 1) := by decide +kernel
theorem dX8_thread_32 : decode cX8_thread 32 = .ok (.ireturn, 1) := by decide +kernel
theorem dX8_thread_33 : decode cX8_thread 33 = .ok (.aload_n 0, 1) := by decide +kernel
theorem dX8_thread_34 : decode cX8_thread 34 = .ok (.getfield 15, 3) := by decide +kernel
theorem dX8_thread_37 : decode cX8_thread 37 = .ok (.getfield 126, 3) := by decide +kernel
theorem dX8_thread_40 : decode cX8_thread 40 = .ok (.getfield 175, 3) := by decide +kernel
theorem dX8_thread_43 : decode cX8_thread 43 = .ok (.bipush 12, 2) := by decide +kernel
theorem dX8_thread_45 : decode cX8_thread 45 = .ok (.if_icmp .lt 6, 3) := by decide +kernel
theorem dX8_thread_48 : decode cX8_thread 48 = .ok (.bipush (-2), 2) := by decide +kernel
theorem dX8_thread_50 : decode cX8_thread 50 = .ok (.ireturn, 1) := by decide +kernel
theorem dX8_thread_51 : decode cX8_thread 51 = .ok (.aload_n 0, 1) := by decide +kernel
theorem dX8_thread_52 : decode cX8_thread 52 = .ok (.aload_n 0, 1) := by decide +kernel
theorem dX8_thread_53 : decode cX8_thread 53 = .ok (.getfield 15, 3) := by decide +kernel
theorem dX8_thread_56 : decode cX8_thread 56 = .ok (.getfield 126, 3) := by decide +kernel
theorem dX8_thread_59 : decode cX8_thread 59 = .ok (.iload_n 1, 1) := by decide +kernel
theorem dX8_thread_60 : decode cX8_thread 60 = .ok (.iload_n 2, 1) := by decide +kernel
theorem dX8_thread_61 : decode cX8_thread 61 = .ok (.iload_n 3, 1) := by decide +kernel
theorem dX8_thread_62 : decode cX8_thread 62 = .ok (.invokevirtual 176, 3) := by decide +kernel
theorem dX8_thread_65 : decode cX8_thread 65 = .ok (.invokevirtual 55, 3) := by decide +kernel
theorem dX8_thread_68 : decode cX8_thread 68 = .ok (.ireturn, 1) := by decide +kernel
theorem dX8_cut_0 : decode cX8_cut 0 = .ok (.aload_n 0, 1) := by decide +kernel
theorem dX8_cut_1 : decode cX8_cut 1 = .ok (.getfield 15, 3) := by decide +kernel
theorem dX8_cut_4 : decode cX8_cut 4 = .ok (.getfield 126, 3) := by decide +kernel
theorem dX8_cut_7 : decode cX8_cut 7 = .ok (.getfield 175, 3) := by decide +kernel
theorem dX8_cut_10 : decode cX8_cut 10 = .ok (.ifCond .gt 6, 3) := by decide +kernel
theorem dX8_cut_13 : decode cX8_cut 13 = .ok (.bipush (-4), 2) := by decide +kernel
theorem dX8_cut_15 : decode cX8_cut 15 = .ok (.ireturn, 1) := by decide +kernel
theorem dX8_cut_16 : decode cX8_cut 16 = .ok (.aload_n 0, 1) := by decide +kernel
theorem dX8_cut_17 : decode cX8_cut 17 = .ok (.getfield 15, 3) := by decide +kernel
theorem dX8_cut_20 : decode cX8_cut 20 = .ok (.getfield 126, 3) := by decide +kernel
theorem dX8_cut_23 : decode cX8_cut 23 = .ok (.dup, 1) := by decide +kernel
theorem dX8_cut_24 : decode cX8_cut 24 = .ok (.getfield 175, 3) := by decide +kernel
theorem dX8_cut_27 : decode cX8_cut 27 = .ok (.iconst 1, 1) := by decide +kernel
theorem dX8_cut_28 : decode cX8_cut 28 = .ok (.isub, 1) := by decide +kernel
theorem dX8_cut_29 : decode cX8_cut 29 = .ok (.putfield 175, 3) := by decide +kernel
theorem dX8_cut_32 : decode cX8_cut 32 = .ok (.aload_n 0, 1) := by decide +kernel
theorem dX8_cut_33 : decode cX8_cut 33 = .ok (.aload_n 0, 1) := by decide +kernel
theorem dX8_cut_34 : decode cX8_cut 34 = .ok (.getfield 15, 3) := by decide +kernel
theorem dX8_cut_37 : decode cX8_cut 37 = .ok (.getfield 126, 3) := by decide +kernel
theorem dX8_cut_40 : decode cX8_cut 40 = .ok (.getfield 175, 3) := by decide +kernel
theorem dX8_cut_43 : decode cX8_cut 43 = .ok (.invokevirtual 55, 3) := by decide +kernel
theorem dX8_cut_46 : decode cX8_cut 46 = .ok (.ireturn, 1) := by decide +kernel
theorem dX8_pastOf_0 : decode cX8_pastOf 0 = .ok (.aload_n 0, 1) := by decide +kernel
theorem dX8_pastOf_1 : decode cX8_pastOf 1 = .ok (.getfield 15, 3) := by decide +kernel
theorem dX8_pastOf_4 : decode cX8_pastOf 4 = .ok (.getfield 77, 3) := by decide +kernel
theorem dX8_pastOf_7 : decode cX8_pastOf 7 = .ok (.iload_n 1, 1) := by decide +kernel
theorem dX8_pastOf_8 : decode cX8_pastOf 8 = .ok (.invokevirtual 87, 3) := by decide +kernel
theorem dX8_pastOf_11 : decode cX8_pastOf 11 = .ok (.ifCond .ne 5, 3) := by decide +kernel
theorem dX8_pastOf_14 : decode cX8_pastOf 14 = .ok (.iconst (-1), 1) := by decide +kernel
theorem dX8_pastOf_15 : decode cX8_pastOf 15 = .ok (.ireturn, 1) := by decide +kernel
theorem dX8_pastOf_16 : decode cX8_pastOf 16 = .ok (.aload_n 0, 1) := by decide +kernel
theorem dX8_pastOf_17 : decode cX8_pastOf 17 = .ok (.getfield 21, 3) := by decide +kernel
theorem dX8_pastOf_20 : decode cX8_pastOf 20 = .ok (.iload_n 1, 1) := by decide +kernel
theorem dX8_pastOf_21 : decode cX8_pastOf 21 = .ok (.invokevirtual 109, 3) := by decide +kernel
theorem dX8_pastOf_24 : decode cX8_pastOf 24 = .ok (.iload_n 2, 1) := by decide +kernel
theorem dX8_pastOf_25 : decode cX8_pastOf 25 = .ok (.invokevirtual 178, 3) := by decide +kernel
theorem dX8_pastOf_28 : decode cX8_pastOf 28 = .ok (.ireturn, 1) := by decide +kernel
theorem dX8_spent_0 : decode cX8_spent 0 = .ok (.aload_n 0, 1) := by decide +kernel
theorem dX8_spent_1 : decode cX8_spent 1 = .ok (.getfield 15, 3) := by decide +kernel
theorem dX8_spent_4 : decode cX8_spent 4 = .ok (.getfield 77, 3) := by decide +kernel
theorem dX8_spent_7 : decode cX8_spent 7 = .ok (.iload_n 1, 1) := by decide +kernel
theorem dX8_spent_8 : decode cX8_spent 8 = .ok (.invokevirtual 87, 3) := by decide +kernel
theorem dX8_spent_11 : decode cX8_spent 11 = .ok (.ifCond .eq 10, 3) := by decide +kernel
theorem dX8_spent_14 : decode cX8_spent 14 = .ok (.iload_n 2, 1) := by decide +kernel
theorem dX8_spent_15 : decode cX8_spent 15 = .ok (.invokestatic 62, 3) := by decide +kernel
theorem dX8_spent_18 : decode cX8_spent 18 = .ok (.ifCond .ne 5, 3) := by decide +kernel
theorem dX8_spent_21 : decode cX8_spent 21 = .ok (.iconst (-1), 1) := by decide +kernel
theorem dX8_spent_22 : decode cX8_spent 22 = .ok (.ireturn, 1) := by decide +kernel
theorem dX8_spent_23 : decode cX8_spent 23 = .ok (.aload_n 0, 1) := by decide +kernel
theorem dX8_spent_24 : decode cX8_spent 24 = .ok (.getfield 21, 3) := by decide +kernel
theorem dX8_spent_27 : decode cX8_spent 27 = .ok (.iload_n 1, 1) := by decide +kernel
theorem dX8_spent_28 : decode cX8_spent 28 = .ok (.invokevirtual 109, 3) := by decide +kernel
theorem dX8_spent_31 : decode cX8_spent 31 = .ok (.iload_n 2, 1) := by decide +kernel
theorem dX8_spent_32 : decode cX8_spent 32 = .ok (.iload_n 3, 1) := by decide +kernel
theorem dX8_spent_33 : decode cX8_spent 33 = .ok (.invokevirtual 181, 3) := by decide +kernel
theorem dX8_spent_36 : decode cX8_spent 36 = .ok (.ireturn, 1) := by decide +kernel
theorem dX8_left_0 : decode cX8_left 0 = .ok (.aload_n 0, 1) := by decide +kernel
theorem dX8_left_1 : decode cX8_left 1 = .ok (.getfield 15, 3) := by decide +kernel
theorem dX8_left_4 : decode cX8_left 4 = .ok (.getfield 77, 3) := by decide +kernel
theorem dX8_left_7 : decode cX8_left 7 = .ok (.iload_n 1, 1) := by decide +kernel
theorem dX8_left_8 : decode cX8_left 8 = .ok (.invokevirtual 87, 3) := by decide +kernel
theorem dX8_left_11 : decode cX8_left 11 = .ok (.ifCond .ne 6, 3) := by decide +kernel
theorem dX8_left_14 : decode cX8_left 14 = .ok (.ldc 184, 2) := by decide +kernel
theorem dX8_left_16 : decode cX8_left 16 = .ok (.ireturn, 1) := by decide +kernel
theorem dX8_left_17 : decode cX8_left 17 = .ok (.aload_n 0, 1) := by decide +kernel
theorem dX8_left_18 : decode cX8_left 18 = .ok (.getfield 21, 3) := by decide +kernel
theorem dX8_left_21 : decode cX8_left 21 = .ok (.iload_n 1, 1) := by decide +kernel
theorem dX8_left_22 : decode cX8_left 22 = .ok (.invokevirtual 109, 3) := by decide +kernel
theorem dX8_left_25 : decode cX8_left 25 = .ok (.iload_n 2, 1) := by decide +kernel
theorem dX8_left_26 : decode cX8_left 26 = .ok (.invokevirtual 141, 3) := by decide +kernel
theorem dX8_left_29 : decode cX8_left 29 = .ok (.ireturn, 1) := by decide +kernel
theorem dX8_step_0 : decode cX8_step 0 = .ok (.aload_n 0, 1) := by decide +kernel
theorem dX8_step_1 : decode cX8_step 1 = .ok (.getfield 15, 3) := by decide +kernel
theorem dX8_step_4 : decode cX8_step 4 = .ok (.getfield 77, 3) := by decide +kernel
theorem dX8_step_7 : decode cX8_step 7 = .ok (.iload_n 1, 1) := by decide +kernel
theorem dX8_step_8 : decode cX8_step 8 = .ok (.invokevirtual 87, 3) := by decide +kernel
theorem dX8_step_11 : decode cX8_step 11 = .ok (.ifCond .eq 10, 3) := by decide +kernel
theorem dX8_step_14 : decode cX8_step 14 = .ok (.iload_n 2, 1) := by decide +kernel
theorem dX8_step_15 : decode cX8_step 15 = .ok (.invokestatic 62, 3) := by decide +kernel
theorem dX8_step_18 : decode cX8_step 18 = .ok (.ifCond .ne 5, 3) := by decide +kernel
theorem dX8_step_21 : decode cX8_step 21 = .ok (.iconst (-1), 1) := by decide +kernel
theorem dX8_step_22 : decode cX8_step 22 = .ok (.ireturn, 1) := by decide +kernel
theorem dX8_step_23 : decode cX8_step 23 = .ok (.aload_n 0, 1) := by decide +kernel
theorem dX8_step_24 : decode cX8_step 24 = .ok (.getfield 21, 3) := by decide +kernel
theorem dX8_step_27 : decode cX8_step 27 = .ok (.iload_n 1, 1) := by decide +kernel
theorem dX8_step_28 : decode cX8_step 28 = .ok (.invokevirtual 109, 3) := by decide +kernel
theorem dX8_step_31 : decode cX8_step 31 = .ok (.iload_n 2, 1) := by decide +kernel
theorem dX8_step_32 : decode cX8_step 32 = .ok (.iload_n 3, 1) := by decide +kernel
theorem dX8_step_33 : decode cX8_step 33 = .ok (.invokevirtual 181, 3) := by decide +kernel
theorem dX8_step_36 : decode cX8_step 36 = .ok (.invokestatic 185, 3) := by decide +kernel
theorem dX8_step_39 : decode cX8_step 39 = .ok (.ireturn, 1) := by decide +kernel
theorem dX8_wall_0 : decode cX8_wall 0 = .ok (.aload_n 0, 1) := by decide +kernel
theorem dX8_wall_1 : decode cX8_wall 1 = .ok (.getfield 15, 3) := by decide +kernel
theorem dX8_wall_4 : decode cX8_wall 4 = .ok (.getfield 41, 3) := by decide +kernel
theorem dX8_wall_7 : decode cX8_wall 7 = .ok (.iload_n 1, 1) := by decide +kernel
theorem dX8_wall_8 : decode cX8_wall 8 = .ok (.invokevirtual 58, 3) := by decide +kernel
theorem dX8_wall_11 : decode cX8_wall 11 = .ok (.ifCond .eq 19, 3) := by decide +kernel
theorem dX8_wall_14 : decode cX8_wall 14 = .ok (.iload_n 2, 1) := by decide +kernel
theorem dX8_wall_15 : decode cX8_wall 15 = .ok (.invokestatic 62, 3) := by decide +kernel
theorem dX8_wall_18 : decode cX8_wall 18 = .ok (.ifCond .eq 12, 3) := by decide +kernel
theorem dX8_wall_21 : decode cX8_wall 21 = .ok (.iload_n 3, 1) := by decide +kernel
theorem dX8_wall_22 : decode cX8_wall 22 = .ok (.iconst 0, 1) := by decide +kernel
theorem dX8_wall_23 : decode cX8_wall 23 = .ok (.iconst 3, 1) := by decide +kernel
theorem dX8_wall_24 : decode cX8_wall 24 = .ok (.invokestatic 37, 3) := by decide +kernel
theorem dX8_wall_27 : decode cX8_wall 27 = .ok (.ifCond .ne 5, 3) := by decide +kernel
theorem dX8_wall_30 : decode cX8_wall 30 = .ok (.iconst (-1), 1) := by decide +kernel
theorem dX8_wall_31 : decode cX8_wall 31 = .ok (.ireturn, 1) := by decide +kernel
theorem dX8_wall_32 : decode cX8_wall 32 = .ok (.aload_n 0, 1) := by decide +kernel
theorem dX8_wall_33 : decode cX8_wall 33 = .ok (.getfield 15, 3) := by decide +kernel
theorem dX8_wall_36 : decode cX8_wall 36 = .ok (.getfield 188, 3) := by decide +kernel
theorem dX8_wall_39 : decode cX8_wall 39 = .ok (.getfield 192, 3) := by decide +kernel
theorem dX8_wall_42 : decode cX8_wall 42 = .ok (.iconst 5, 1) := by decide +kernel
theorem dX8_wall_43 : decode cX8_wall 43 = .ok (.if_icmp .lt 6, 3) := by decide +kernel
theorem dX8_wall_46 : decode cX8_wall 46 = .ok (.bipush (-2), 2) := by decide +kernel
theorem dX8_wall_48 : decode cX8_wall 48 = .ok (.ireturn, 1) := by decide +kernel
theorem dX8_wall_49 : decode cX8_wall 49 = .ok (.aload_n 0, 1) := by decide +kernel
theorem dX8_wall_50 : decode cX8_wall 50 = .ok (.aload_n 0, 1) := by decide +kernel
theorem dX8_wall_51 : decode cX8_wall 51 = .ok (.getfield 15, 3) := by decide +kernel
theorem dX8_wall_54 : decode cX8_wall 54 = .ok (.getfield 188, 3) := by decide +kernel
theorem dX8_wall_57 : decode cX8_wall 57 = .ok (.iload_n 1, 1) := by decide +kernel
theorem dX8_wall_58 : decode cX8_wall 58 = .ok (.iload_n 2, 1) := by decide +kernel
theorem dX8_wall_59 : decode cX8_wall 59 = .ok (.iload_n 3, 1) := by decide +kernel
theorem dX8_wall_60 : decode cX8_wall 60 = .ok (.invokevirtual 195, 3) := by decide +kernel
theorem dX8_wall_63 : decode cX8_wall 63 = .ok (.invokevirtual 55, 3) := by decide +kernel
theorem dX8_wall_66 : decode cX8_wall 66 = .ok (.ireturn, 1) := by decide +kernel
theorem dX8_strip_0 : decode cX8_strip 0 = .ok (.aload_n 0, 1) := by decide +kernel
theorem dX8_strip_1 : decode cX8_strip 1 = .ok (.getfield 15, 3) := by decide +kernel
theorem dX8_strip_4 : decode cX8_strip 4 = .ok (.getfield 188, 3) := by decide +kernel
theorem dX8_strip_7 : decode cX8_strip 7 = .ok (.getfield 192, 3) := by decide +kernel
theorem dX8_strip_10 : decode cX8_strip 10 = .ok (.ifCond .gt 6, 3) := by decide +kernel
theorem dX8_strip_13 : decode cX8_strip 13 = .ok (.bipush (-4), 2) := by decide +kernel
theorem dX8_strip_15 : decode cX8_strip 15 = .ok (.ireturn, 1) := by decide +kernel
theorem dX8_strip_16 : decode cX8_strip 16 = .ok (.aload_n 0, 1) := by decide +kernel
theorem dX8_strip_17 : decode cX8_strip 17 = .ok (.getfield 15, 3) := by decide +kernel
theorem dX8_strip_20 : decode cX8_strip 20 = .ok (.getfield 188, 3) := by decide +kernel
theorem dX8_strip_23 : decode cX8_strip 23 = .ok (.dup, 1) := by decide +kernel
theorem dX8_strip_24 : decode cX8_strip 24 = .ok (.getfield 192, 3) := by decide +kernel
theorem dX8_strip_27 : decode cX8_strip 27 = .ok (.iconst 1, 1) := by decide +kernel
theorem dX8_strip_28 : decode cX8_strip 28 = .ok (.isub, 1) := by decide +kernel
theorem dX8_strip_29 : decode cX8_strip 29 = .ok (.putfield 192, 3) := by decide +kernel
theorem dX8_strip_32 : decode cX8_strip 32 = .ok (.aload_n 0, 1) := by decide +kernel
theorem dX8_strip_33 : decode cX8_strip 33 = .ok (.aload_n 0, 1) := by decide +kernel
theorem dX8_strip_34 : decode cX8_strip 34 = .ok (.getfield 15, 3) := by decide +kernel
theorem dX8_strip_37 : decode cX8_strip 37 = .ok (.getfield 188, 3) := by decide +kernel
theorem dX8_strip_40 : decode cX8_strip 40 = .ok (.getfield 192, 3) := by decide +kernel
theorem dX8_strip_43 : decode cX8_strip 43 = .ok (.invokevirtual 55, 3) := by decide +kernel
theorem dX8_strip_46 : decode cX8_strip 46 = .ok (.ireturn, 1) := by decide +kernel
theorem dX8_hung_0 : decode cX8_hung 0 = .ok (.aload_n 0, 1) := by decide +kernel
theorem dX8_hung_1 : decode cX8_hung 1 = .ok (.getfield 15, 3) := by decide +kernel
theorem dX8_hung_4 : decode cX8_hung 4 = .ok (.getfield 188, 3) := by decide +kernel
theorem dX8_hung_7 : decode cX8_hung 7 = .ok (.iload_n 1, 1) := by decide +kernel
theorem dX8_hung_8 : decode cX8_hung 8 = .ok (.invokevirtual 196, 3) := by decide +kernel
theorem dX8_hung_11 : decode cX8_hung 11 = .ok (.ifCond .ne 5, 3) := by decide +kernel
theorem dX8_hung_14 : decode cX8_hung 14 = .ok (.iconst (-1), 1) := by decide +kernel
theorem dX8_hung_15 : decode cX8_hung 15 = .ok (.ireturn, 1) := by decide +kernel
theorem dX8_hung_16 : decode cX8_hung 16 = .ok (.aload_n 0, 1) := by decide +kernel
theorem dX8_hung_17 : decode cX8_hung 17 = .ok (.getfield 30, 3) := by decide +kernel
theorem dX8_hung_20 : decode cX8_hung 20 = .ok (.invokevirtual 197, 3) := by decide +kernel
theorem dX8_hung_23 : decode cX8_hung 23 = .ok (.aload_n 0, 1) := by decide +kernel
theorem dX8_hung_24 : decode cX8_hung 24 = .ok (.getfield 30, 3) := by decide +kernel
theorem dX8_hung_27 : decode cX8_hung 27 = .ok (.getfield 200, 3) := by decide +kernel
theorem dX8_hung_30 : decode cX8_hung 30 = .ok (.iload_n 1, 1) := by decide +kernel
theorem dX8_hung_31 : decode cX8_hung 31 = .ok (.iaload, 1) := by decide +kernel
theorem dX8_hung_32 : decode cX8_hung 32 = .ok (.ireturn, 1) := by decide +kernel
theorem dX8_worth_0 : decode cX8_worth 0 = .ok (.aload_n 0, 1) := by decide +kernel
theorem dX8_worth_1 : decode cX8_worth 1 = .ok (.getfield 30, 3) := by decide +kernel
theorem dX8_worth_4 : decode cX8_worth 4 = .ok (.invokevirtual 197, 3) := by decide +kernel
theorem dX8_worth_7 : decode cX8_worth 7 = .ok (.aload_n 0, 1) := by decide +kernel
theorem dX8_worth_8 : decode cX8_worth 8 = .ok (.getfield 30, 3) := by decide +kernel
theorem dX8_worth_11 : decode cX8_worth 11 = .ok (.getfield 203, 3) := by decide +kernel
theorem dX8_worth_14 : decode cX8_worth 14 = .ok (.ireturn, 1) := by decide +kernel
theorem dX8_spares_0 : decode cX8_spares 0 = .ok (.aload_n 0, 1) := by decide +kernel
theorem dX8_spares_1 : decode cX8_spares 1 = .ok (.getfield 15, 3) := by decide +kernel
theorem dX8_spares_4 : decode cX8_spares 4 = .ok (.getfield 77, 3) := by decide +kernel
theorem dX8_spares_7 : decode cX8_spares 7 = .ok (.iload_n 1, 1) := by decide +kernel
theorem dX8_spares_8 : decode cX8_spares 8 = .ok (.invokevirtual 87, 3) := by decide +kernel
theorem dX8_spares_11 : decode cX8_spares 11 = .ok (.ifCond .ne 6, 3) := by decide +kernel
theorem dX8_spares_14 : decode cX8_spares 14 = .ok (.ldc 184, 2) := by decide +kernel
theorem dX8_spares_16 : decode cX8_spares 16 = .ok (.ireturn, 1) := by decide +kernel
theorem dX8_spares_17 : decode cX8_spares 17 = .ok (.aload_n 0, 1) := by decide +kernel
theorem dX8_spares_18 : decode cX8_spares 18 = .ok (.getfield 30, 3) := by decide +kernel
theorem dX8_spares_21 : decode cX8_spares 21 = .ok (.invokevirtual 197, 3) := by decide +kernel
theorem dX8_spares_24 : decode cX8_spares 24 = .ok (.aload_n 0, 1) := by decide +kernel
theorem dX8_spares_25 : decode cX8_spares 25 = .ok (.getfield 21, 3) := by decide +kernel
theorem dX8_spares_28 : decode cX8_spares 28 = .ok (.iload_n 1, 1) := by decide +kernel
theorem dX8_spares_29 : decode cX8_spares 29 = .ok (.invokevirtual 109, 3) := by decide +kernel
theorem dX8_spares_32 : decode cX8_spares 32 = .ok (.iconst 0, 1) := by decide +kernel
theorem dX8_spares_33 : decode cX8_spares 33 = .ok (.invokevirtual 141, 3) := by decide +kernel
theorem dX8_spares_36 : decode cX8_spares 36 = .ok (.aload_n 0, 1) := by decide +kernel
theorem dX8_spares_37 : decode cX8_spares 37 = .ok (.getfield 30, 3) := by decide +kernel
theorem dX8_spares_40 : decode cX8_spares 40 = .ok (.iload_n 1, 1) := by decide +kernel
theorem dX8_spares_41 : decode cX8_spares 41 = .ok (.invokevirtual 206, 3) := by decide +kernel
theorem dX8_spares_44 : decode cX8_spares 44 = .ok (.isub, 1) := by decide +kernel
theorem dX8_spares_45 : decode cX8_spares 45 = .ok (.ireturn, 1) := by decide +kernel
theorem dX8_hang_0 : decode cX8_hang 0 = .ok (.aload_n 0, 1) := by decide +kernel
theorem dX8_hang_1 : decode cX8_hang 1 = .ok (.getfield 30, 3) := by decide +kernel
theorem dX8_hang_4 : decode cX8_hang 4 = .ok (.invokevirtual 197, 3) := by decide +kernel
theorem dX8_hang_7 : decode cX8_hang 7 = .ok (.aload_n 0, 1) := by decide +kernel
theorem dX8_hang_8 : decode cX8_hang 8 = .ok (.getfield 30, 3) := by decide +kernel
theorem dX8_hang_11 : decode cX8_hang 11 = .ok (.invokevirtual 209, 3) := by decide +kernel
theorem dX8_hang_14 : decode cX8_hang 14 = .ok (.istore_n 1, 1) := by decide +kernel
theorem dX8_hang_15 : decode cX8_hang 15 = .ok (.aload_n 0, 1) := by decide +kernel
theorem dX8_hang_16 : decode cX8_hang 16 = .ok (.getfield 15, 3) := by decide +kernel
theorem dX8_hang_19 : decode cX8_hang 19 = .ok (.getfield 117, 3) := by decide +kernel
theorem dX8_hang_22 : decode cX8_hang 22 = .ok (.getfield 136, 3) := by decide +kernel
theorem dX8_hang_25 : decode cX8_hang 25 = .ok (.iload_n 1, 1) := by decide +kernel
theorem dX8_hang_26 : decode cX8_hang 26 = .ok (.iadd, 1) := by decide +kernel
theorem dX8_hang_27 : decode cX8_hang 27 = .ok (.bipush 30, 2) := by decide +kernel
theorem dX8_hang_29 : decode cX8_hang 29 = .ok (.if_icmp .le 6, 3) := by decide +kernel
theorem dX8_hang_32 : decode cX8_hang 32 = .ok (.bipush (-2), 2) := by decide +kernel
theorem dX8_hang_34 : decode cX8_hang 34 = .ok (.ireturn, 1) := by decide +kernel
theorem dX8_hang_35 : decode cX8_hang 35 = .ok (.aload_n 0, 1) := by decide +kernel
theorem dX8_hang_36 : decode cX8_hang 36 = .ok (.getfield 15, 3) := by decide +kernel
theorem dX8_hang_39 : decode cX8_hang 39 = .ok (.getfield 188, 3) := by decide +kernel
theorem dX8_hang_42 : decode cX8_hang 42 = .ok (.astore_n 2, 1) := by decide +kernel
theorem dX8_hang_43 : decode cX8_hang 43 = .ok (.iconst 0, 1) := by decide +kernel
theorem dX8_hang_44 : decode cX8_hang 44 = .ok (.istore_n 3, 1) := by decide +kernel
theorem dX8_hang_45 : decode cX8_hang 45 = .ok (.iload_n 3, 1) := by decide +kernel
theorem dX8_hang_46 : decode cX8_hang 46 = .ok (.aload_n 2, 1) := by decide +kernel
theorem dX8_hang_47 : decode cX8_hang 47 = .ok (.getfield 192, 3) := by decide +kernel
theorem dX8_hang_50 : decode cX8_hang 50 = .ok (.if_icmp .ge 55, 3) := by decide +kernel
theorem dX8_hang_53 : decode cX8_hang 53 = .ok (.aload_n 0, 1) := by decide +kernel
theorem dX8_hang_54 : decode cX8_hang 54 = .ok (.getfield 30, 3) := by decide +kernel
theorem dX8_hang_57 : decode cX8_hang 57 = .ok (.getfield 200, 3) := by decide +kernel
theorem dX8_hang_60 : decode cX8_hang 60 = .ok (.iload_n 3, 1) := by decide +kernel
theorem dX8_hang_61 : decode cX8_hang 61 = .ok (.iaload, 1) := by decide +kernel
theorem dX8_hang_62 : decode cX8_hang 62 = .ok (.bipush (-4), 2) := by decide +kernel
theorem dX8_hang_64 : decode cX8_hang 64 = .ok (.if_icmp .eq 35, 3) := by decide +kernel
theorem dX8_hang_67 : decode cX8_hang 67 = .ok (.aload_n 0, 1) := by decide +kernel
theorem dX8_hang_68 : decode cX8_hang 68 = .ok (.getfield 15, 3) := by decide +kernel
theorem dX8_hang_71 : decode cX8_hang 71 = .ok (.getfield 117, 3) := by decide +kernel
theorem dX8_hang_74 : decode cX8_hang 74 = .ok (.aload_n 0, 1) := by decide +kernel
theorem dX8_hang_75 : decode cX8_hang 75 = .ok (.getfield 30, 3) := by decide +kernel
theorem dX8_hang_78 : decode cX8_hang 78 = .ok (.getfield 200, 3) := by decide +kernel
theorem dX8_hang_81 : decode cX8_hang 81 = .ok (.iload_n 3, 1) := by decide +kernel
theorem dX8_hang_82 : decode cX8_hang 82 = .ok (.iaload, 1) := by decide +kernel
theorem dX8_hang_83 : decode cX8_hang 83 = .ok (.aload_n 2, 1) := by decide +kernel
theorem dX8_hang_84 : decode cX8_hang 84 = .ok (.getfield 213, 3) := by decide +kernel
theorem dX8_hang_87 : decode cX8_hang 87 = .ok (.iload_n 3, 1) := by decide +kernel
theorem dX8_hang_88 : decode cX8_hang 88 = .ok (.iaload, 1) := by decide +kernel
theorem dX8_hang_89 : decode cX8_hang 89 = .ok (.aload_n 2, 1) := by decide +kernel
theorem dX8_hang_90 : decode cX8_hang 90 = .ok (.getfield 214, 3) := by decide +kernel
theorem dX8_hang_93 : decode cX8_hang 93 = .ok (.iload_n 3, 1) := by decide +kernel
theorem dX8_hang_94 : decode cX8_hang 94 = .ok (.iaload, 1) := by decide +kernel
theorem dX8_hang_95 : decode cX8_hang 95 = .ok (.invokevirtual 137, 3) := by decide +kernel
theorem dX8_hang_98 : decode cX8_hang 98 = .ok (.pop, 1) := by decide +kernel
theorem dX8_hang_99 : decode cX8_hang 99 = .ok (.iinc 3 1, 3) := by decide +kernel
theorem dX8_hang_102 : decode cX8_hang 102 = .ok (.goto (-57), 3) := by decide +kernel
theorem dX8_hang_105 : decode cX8_hang 105 = .ok (.aload_n 2, 1) := by decide +kernel
theorem dX8_hang_106 : decode cX8_hang 106 = .ok (.iconst 0, 1) := by decide +kernel
theorem dX8_hang_107 : decode cX8_hang 107 = .ok (.putfield 192, 3) := by decide +kernel
theorem dX8_hang_110 : decode cX8_hang 110 = .ok (.aload_n 0, 1) := by decide +kernel
theorem dX8_hang_111 : decode cX8_hang 111 = .ok (.iload_n 1, 1) := by decide +kernel
theorem dX8_hang_112 : decode cX8_hang 112 = .ok (.invokevirtual 55, 3) := by decide +kernel
theorem dX8_hang_115 : decode cX8_hang 115 = .ok (.ireturn, 1) := by decide +kernel
theorem dX8_many_0 : decode cX8_many 0 = .ok (.iload_n 1, 1) := by decide +kernel
theorem dX8_many_1 : decode cX8_many 1 = .ok (.tableswitch 144 0 8 #[51, 62, 73, 84, 95, 106, 117, 125, 133], 51) := by decide +kernel
theorem dX8_many_52 : decode cX8_many 52 = .ok (.aload_n 0, 1) := by decide +kernel
theorem dX8_many_53 : decode cX8_many 53 = .ok (.getfield 15, 3) := by decide +kernel
theorem dX8_many_56 : decode cX8_many 56 = .ok (.getfield 41, 3) := by decide +kernel
theorem dX8_many_59 : decode cX8_many 59 = .ok (.getfield 45, 3) := by decide +kernel
theorem dX8_many_62 : decode cX8_many 62 = .ok (.ireturn, 1) := by decide +kernel
theorem dX8_many_63 : decode cX8_many 63 = .ok (.aload_n 0, 1) := by decide +kernel
theorem dX8_many_64 : decode cX8_many 64 = .ok (.getfield 15, 3) := by decide +kernel
theorem dX8_many_67 : decode cX8_many 67 = .ok (.getfield 77, 3) := by decide +kernel
theorem dX8_many_70 : decode cX8_many 70 = .ok (.getfield 81, 3) := by decide +kernel
theorem dX8_many_73 : decode cX8_many 73 = .ok (.ireturn, 1) := by decide +kernel
theorem dX8_many_74 : decode cX8_many 74 = .ok (.aload_n 0, 1) := by decide +kernel
theorem dX8_many_75 : decode cX8_many 75 = .ok (.getfield 15, 3) := by decide +kernel
theorem dX8_many_78 : decode cX8_many 78 = .ok (.getfield 117, 3) := by decide +kernel
theorem dX8_many_81 : decode cX8_many 81 = .ok (.getfield 136, 3) := by decide +kernel
theorem dX8_many_84 : decode cX8_many 84 = .ok (.ireturn, 1) := by decide +kernel
theorem dX8_many_85 : decode cX8_many 85 = .ok (.aload_n 0, 1) := by decide +kernel
theorem dX8_many_86 : decode cX8_many 86 = .ok (.getfield 15, 3) := by decide +kernel
theorem dX8_many_89 : decode cX8_many 89 = .ok (.getfield 117, 3) := by decide +kernel
theorem dX8_many_92 : decode cX8_many 92 = .ok (.invokevirtual 215, 3) := by decide +kernel
theorem dX8_many_95 : decode cX8_many 95 = .ok (.ireturn, 1) := by decide +kernel
theorem dX8_many_96 : decode cX8_many 96 = .ok (.aload_n 0, 1) := by decide +kernel
theorem dX8_many_97 : decode cX8_many 97 = .ok (.getfield 15, 3) := by decide +kernel
theorem dX8_many_100 : decode cX8_many 100 = .ok (.getfield 126, 3) := by decide +kernel
theorem dX8_many_103 : decode cX8_many 103 = .ok (.getfield 175, 3) := by decide +kernel
theorem dX8_many_106 : decode cX8_many 106 = .ok (.ireturn, 1) := by decide +kernel
theorem dX8_many_107 : decode cX8_many 107 = .ok (.aload_n 0, 1) := by decide +kernel
theorem dX8_many_108 : decode cX8_many 108 = .ok (.getfield 15, 3) := by decide +kernel
theorem dX8_many_111 : decode cX8_many 111 = .ok (.getfield 188, 3) := by decide +kernel
theorem dX8_many_114 : decode cX8_many 114 = .ok (.getfield 192, 3) := by decide +kernel
theorem dX8_many_117 : decode cX8_many 117 = .ok (.ireturn, 1) := by decide +kernel
theorem dX8_many_118 : decode cX8_many 118 = .ok (.aload_n 0, 1) := by decide +kernel
theorem dX8_many_119 : decode cX8_many 119 = .ok (.getfield 21, 3) := by decide +kernel
theorem dX8_many_122 : decode cX8_many 122 = .ok (.invokevirtual 218, 3) := by decide +kernel
theorem dX8_many_125 : decode cX8_many 125 = .ok (.ireturn, 1) := by decide +kernel
theorem dX8_many_126 : decode cX8_many 126 = .ok (.aload_n 0, 1) := by decide +kernel
theorem dX8_many_127 : decode cX8_many 127 = .ok (.getfield 21, 3) := by decide +kernel
theorem dX8_many_130 : decode cX8_many 130 = .ok (.invokevirtual 221, 3) := by decide +kernel
theorem dX8_many_133 : decode cX8_many 133 = .ok (.ireturn, 1) := by decide +kernel
theorem dX8_many_134 : decode cX8_many 134 = .ok (.aload_n 0, 1) := by decide +kernel
theorem dX8_many_135 : decode cX8_many 135 = .ok (.getfield 15, 3) := by decide +kernel
theorem dX8_many_138 : decode cX8_many 138 = .ok (.getfield 41, 3) := by decide +kernel
theorem dX8_many_141 : decode cX8_many 141 = .ok (.invokevirtual 224, 3) := by decide +kernel
theorem dX8_many_144 : decode cX8_many 144 = .ok (.ireturn, 1) := by decide +kernel
theorem dX8_many_145 : decode cX8_many 145 = .ok (.iconst (-1), 1) := by decide +kernel
theorem dX8_many_146 : decode cX8_many 146 = .ok (.ireturn, 1) := by decide +kernel
theorem dX8_keep_0 : decode cX8_keep 0 = .ok (.aload_n 0, 1) := by decide +kernel
theorem dX8_keep_1 : decode cX8_keep 1 = .ok (.getfield 34, 3) := by decide +kernel
theorem dX8_keep_4 : decode cX8_keep 4 = .ok (.ifnonnull 14, 3) := by decide +kernel
theorem dX8_keep_7 : decode cX8_keep 7 = .ok (.aload_n 0, 1) := by decide +kernel
theorem dX8_keep_8 : decode cX8_keep 8 = .ok (.new 7, 3) := by decide +kernel
theorem dX8_keep_11 : decode cX8_keep 11 = .ok (.dup, 1) := by decide +kernel
theorem dX8_keep_12 : decode cX8_keep 12 = .ok (.invokespecial 9, 3) := by decide +kernel
theorem dX8_keep_15 : decode cX8_keep 15 = .ok (.putfield 34, 3) := by decide +kernel
theorem dX8_keep_18 : decode cX8_keep 18 = .ok (.aload_n 0, 1) := by decide +kernel
theorem dX8_keep_19 : decode cX8_keep 19 = .ok (.getfield 34, 3) := by decide +kernel
theorem dX8_keep_22 : decode cX8_keep 22 = .ok (.aload_n 0, 1) := by decide +kernel
theorem dX8_keep_23 : decode cX8_keep 23 = .ok (.getfield 15, 3) := by decide +kernel
theorem dX8_keep_26 : decode cX8_keep 26 = .ok (.invokevirtual 227, 3) := by decide +kernel
theorem dX8_keep_29 : decode cX8_keep 29 = .ok (.iconst 1, 1) := by decide +kernel
theorem dX8_keep_30 : decode cX8_keep 30 = .ok (.ireturn, 1) := by decide +kernel
theorem dX8_back_0 : decode cX8_back 0 = .ok (.aload_n 0, 1) := by decide +kernel
theorem dX8_back_1 : decode cX8_back 1 = .ok (.getfield 34, 3) := by decide +kernel
theorem dX8_back_4 : decode cX8_back 4 = .ok (.ifnonnull 6, 3) := by decide +kernel
theorem dX8_back_7 : decode cX8_back 7 = .ok (.bipush (-4), 2) := by decide +kernel
theorem dX8_back_9 : decode cX8_back 9 = .ok (.ireturn, 1) := by decide +kernel
theorem dX8_back_10 : decode cX8_back 10 = .ok (.aload_n 0, 1) := by decide +kernel
theorem dX8_back_11 : decode cX8_back 11 = .ok (.getfield 15, 3) := by decide +kernel
theorem dX8_back_14 : decode cX8_back 14 = .ok (.aload_n 0, 1) := by decide +kernel
theorem dX8_back_15 : decode cX8_back 15 = .ok (.getfield 34, 3) := by decide +kernel
theorem dX8_back_18 : decode cX8_back 18 = .ok (.invokevirtual 227, 3) := by decide +kernel
theorem dX8_back_21 : decode cX8_back 21 = .ok (.aload_n 0, 1) := by decide +kernel
theorem dX8_back_22 : decode cX8_back 22 = .ok (.iconst 1, 1) := by decide +kernel
theorem dX8_back_23 : decode cX8_back 23 = .ok (.invokevirtual 55, 3) := by decide +kernel
theorem dX8_back_26 : decode cX8_back 26 = .ok (.ireturn, 1) := by decide +kernel
theorem dX8_changed_0 : decode cX8_changed 0 = .ok (.aload_n 0, 1) := by decide +kernel
theorem dX8_changed_1 : decode cX8_changed 1 = .ok (.getfield 30, 3) := by decide +kernel
theorem dX8_changed_4 : decode cX8_changed 4 = .ok (.invokevirtual 230, 3) := by decide +kernel
theorem dX8_changed_7 : decode cX8_changed 7 = .ok (.iload_n 1, 1) := by decide +kernel
theorem dX8_changed_8 : decode cX8_changed 8 = .ok (.ireturn, 1) := by decide +kernel
theorem dX8_within_0 : decode cX8_within 0 = .ok (.iload_n 0, 1) := by decide +kernel
theorem dX8_within_1 : decode cX8_within 1 = .ok (.iload_n 1, 1) := by decide +kernel
theorem dX8_within_2 : decode cX8_within 2 = .ok (.if_icmp .lt 12, 3) := by decide +kernel
theorem dX8_within_5 : decode cX8_within 5 = .ok (.iload_n 0, 1) := by decide +kernel
theorem dX8_within_6 : decode cX8_within 6 = .ok (.iload_n 2, 1) := by decide +kernel
theorem dX8_within_7 : decode cX8_within 7 = .ok (.if_icmp .gt 7, 3) := by decide +kernel
theorem dX8_within_10 : decode cX8_within 10 = .ok (.iconst 1, 1) := by decide +kernel
theorem dX8_within_11 : decode cX8_within 11 = .ok (.goto 4, 3) := by decide +kernel
theorem dX8_within_14 : decode cX8_within 14 = .ok (.iconst 0, 1) := by decide +kernel
theorem dX8_within_15 : decode cX8_within 15 = .ok (.ireturn, 1) := by decide +kernel
theorem dX8_isYear_0 : decode cX8_isYear 0 = .ok (.iload_n 0, 1) := by decide +kernel
theorem dX8_isYear_1 : decode cX8_isYear 1 = .ok (.iconst 0, 1) := by decide +kernel
theorem dX8_isYear_2 : decode cX8_isYear 2 = .ok (.bipush 9, 2) := by decide +kernel
theorem dX8_isYear_4 : decode cX8_isYear 4 = .ok (.invokestatic 37, 3) := by decide +kernel
theorem dX8_isYear_7 : decode cX8_isYear 7 = .ok (.ireturn, 1) := by decide +kernel
theorem dX8_stepOfAmount_0 : decode cX8_stepOfAmount 0 = .ok (.bipush 7, 2) := by decide +kernel
theorem dX8_stepOfAmount_2 : decode cX8_stepOfAmount 2 = .ok (.istore_n 1, 1) := by decide +kernel
theorem dX8_stepOfAmount_3 : decode cX8_stepOfAmount 3 = .ok (.iload_n 1, 1) := by decide +kernel
theorem dX8_stepOfAmount_4 : decode cX8_stepOfAmount 4 = .ok (.ifCond .le 18, 3) := by decide +kernel
theorem dX8_stepOfAmount_7 : decode cX8_stepOfAmount 7 = .ok (.iload_n 0, 1) := by decide +kernel
theorem dX8_stepOfAmount_8 : decode cX8_stepOfAmount 8 = .ok (.getstatic 233, 3) := by decide +kernel
theorem dX8_stepOfAmount_11 : decode cX8_stepOfAmount 11 = .ok (.iload_n 1, 1) := by decide +kernel
theorem dX8_stepOfAmount_12 : decode cX8_stepOfAmount 12 = .ok (.iaload, 1) := by decide +kernel
theorem dX8_stepOfAmount_13 : decode cX8_stepOfAmount 13 = .ok (.if_icmp .ge 9, 3) := by decide +kernel
theorem dX8_stepOfAmount_16 : decode cX8_stepOfAmount 16 = .ok (.iinc 1 (-1), 3) := by decide +kernel
theorem dX8_stepOfAmount_19 : decode cX8_stepOfAmount 19 = .ok (.goto (-16), 3) := by decide +kernel
theorem dX8_stepOfAmount_22 : decode cX8_stepOfAmount 22 = .ok (.iload_n 1, 1) := by decide +kernel
theorem dX8_stepOfAmount_23 : decode cX8_stepOfAmount 23 = .ok (.ireturn, 1) := by decide +kernel
theorem dX8_copyRow_0 : decode cX8_copyRow 0 = .ok (.aload_n 0, 1) := by decide +kernel
theorem dX8_copyRow_1 : decode cX8_copyRow 1 = .ok (.iconst 0, 1) := by decide +kernel
theorem dX8_copyRow_2 : decode cX8_copyRow 2 = .ok (.aload_n 1, 1) := by decide +kernel
theorem dX8_copyRow_3 : decode cX8_copyRow 3 = .ok (.iconst 0, 1) := by decide +kernel
theorem dX8_copyRow_4 : decode cX8_copyRow 4 = .ok (.aload_n 0, 1) := by decide +kernel
theorem dX8_copyRow_5 : decode cX8_copyRow 5 = .ok (.arraylength, 1) := by decide +kernel
theorem dX8_copyRow_6 : decode cX8_copyRow 6 = .ok (.aload_n 1, 1) := by decide +kernel
theorem dX8_copyRow_7 : decode cX8_copyRow 7 = .ok (.arraylength, 1) := by decide +kernel
theorem dX8_copyRow_8 : decode cX8_copyRow 8 = .ok (.invokestatic 236, 3) := by decide +kernel
theorem dX8_copyRow_11 : decode cX8_copyRow 11 = .ok (.invokestatic 239, 3) := by decide +kernel
theorem dX8_copyRow_14 : decode cX8_copyRow 14 = .ok (.return_, 1) := by decide +kernel
theorem dX9_init_0 : decode cX9_init 0 = .ok (.aload_n 0, 1) := by decide +kernel
theorem dX9_init_1 : decode cX9_init 1 = .ok (.invokespecial 1, 3) := by decide +kernel
theorem dX9_init_4 : decode cX9_init 4 = .ok (.aload_n 0, 1) := by decide +kernel
theorem dX9_init_5 : decode cX9_init 5 = .ok (.iconst 5, 1) := by decide +kernel
theorem dX9_init_6 : decode cX9_init 6 = .ok (.newarray .int, 2) := by decide +kernel
theorem dX9_init_8 : decode cX9_init 8 = .ok (.putfield 7, 3) := by decide +kernel
theorem dX9_init_11 : decode cX9_init 11 = .ok (.aload_n 0, 1) := by decide +kernel
theorem dX9_init_12 : decode cX9_init 12 = .ok (.iconst 4, 1) := by decide +kernel
theorem dX9_init_13 : decode cX9_init 13 = .ok (.newarray .int, 2) := by decide +kernel
theorem dX9_init_15 : decode cX9_init 15 = .ok (.putfield 13, 3) := by decide +kernel
theorem dX9_init_18 : decode cX9_init 18 = .ok (.aload_n 0, 1) := by decide +kernel
theorem dX9_init_19 : decode cX9_init 19 = .ok (.bipush 40, 2) := by decide +kernel
theorem dX9_init_21 : decode cX9_init 21 = .ok (.newarray .int, 2) := by decide +kernel
theorem dX9_init_23 : decode cX9_init 23 = .ok (.putfield 16, 3) := by decide +kernel
theorem dX9_init_26 : decode cX9_init 26 = .ok (.aload_n 0, 1) := by decide +kernel
theorem dX9_init_27 : decode cX9_init 27 = .ok (.bipush 56, 2) := by decide +kernel
theorem dX9_init_29 : decode cX9_init 29 = .ok (.newarray .int, 2) := by decide +kernel
theorem dX9_init_31 : decode cX9_init 31 = .ok (.putfield 19, 3) := by decide +kernel
theorem dX9_init_34 : decode cX9_init 34 = .ok (.aload_n 0, 1) := by decide +kernel
theorem dX9_init_35 : decode cX9_init 35 = .ok (.sipush 150, 3) := by decide +kernel
theorem dX9_init_38 : decode cX9_init 38 = .ok (.newarray .int, 2) := by decide +kernel
theorem dX9_init_40 : decode cX9_init 40 = .ok (.putfield 22, 3) := by decide +kernel
theorem dX9_init_43 : decode cX9_init 43 = .ok (.aload_n 0, 1) := by decide +kernel
theorem dX9_init_44 : decode cX9_init 44 = .ok (.bipush 36, 2) := by decide +kernel
theorem dX9_init_46 : decode cX9_init 46 = .ok (.newarray .int, 2) := by decide +kernel
theorem dX9_init_48 : decode cX9_init 48 = .ok (.putfield 25, 3) := by decide +kernel
theorem dX9_init_51 : decode cX9_init 51 = .ok (.aload_n 0, 1) := by decide +kernel
theorem dX9_init_52 : decode cX9_init 52 = .ok (.bipush 15, 2) := by decide +kernel
theorem dX9_init_54 : decode cX9_init 54 = .ok (.newarray .int, 2) := by decide +kernel
theorem dX9_init_56 : decode cX9_init 56 = .ok (.putfield 28, 3) := by decide +kernel
theorem dX9_init_59 : decode cX9_init 59 = .ok (.aload_n 0, 1) := by decide +kernel
theorem dX9_init_60 : decode cX9_init 60 = .ok (.bipush 9, 2) := by decide +kernel
theorem dX9_init_62 : decode cX9_init 62 = .ok (.newarray .int, 2) := by decide +kernel
theorem dX9_init_64 : decode cX9_init 64 = .ok (.dup, 1) := by decide +kernel
theorem dX9_init_65 : decode cX9_init 65 = .ok (.iconst 0, 1) := by decide +kernel
theorem dX9_init_66 : decode cX9_init 66 = .ok (.iconst 0, 1) := by decide +kernel
theorem dX9_init_67 : decode cX9_init 67 = .ok (.iastore, 1) := by decide +kernel
theorem dX9_init_68 : decode cX9_init 68 = .ok (.dup, 1) := by decide +kernel
theorem dX9_init_69 : decode cX9_init 69 = .ok (.iconst 1, 1) := by decide +kernel
theorem dX9_init_70 : decode cX9_init 70 = .ok (.bipush 10, 2) := by decide +kernel
theorem dX9_init_72 : decode cX9_init 72 = .ok (.iastore, 1) := by decide +kernel
theorem dX9_init_73 : decode cX9_init 73 = .ok (.dup, 1) := by decide +kernel
theorem dX9_init_74 : decode cX9_init 74 = .ok (.iconst 2, 1) := by decide +kernel
theorem dX9_init_75 : decode cX9_init 75 = .ok (.bipush 20, 2) := by decide +kernel
theorem dX9_init_77 : decode cX9_init 77 = .ok (.iastore, 1) := by decide +kernel
theorem dX9_init_78 : decode cX9_init 78 = .ok (.dup, 1) := by decide +kernel
theorem dX9_init_79 : decode cX9_init 79 = .ok (.iconst 3, 1) := by decide +kernel
theorem dX9_init_80 : decode cX9_init 80 = .ok (.bipush 40, 2) := by decide +kernel
theorem dX9_init_82 : decode cX9_init 82 = .ok (.iastore, 1) := by decide +kernel
theorem dX9_init_83 : decode cX9_init 83 = .ok (.dup, 1) := by decide +kernel
theorem dX9_init_84 : decode cX9_init 84 = .ok (.iconst 4, 1) := by decide +kernel
theorem dX9_init_85 : decode cX9_init 85 = .ok (.bipush 80, 2) := by decide +kernel
theorem dX9_init_87 : decode cX9_init 87 = .ok (.iastore, 1) := by decide +kernel
theorem dX9_init_88 : decode cX9_init 88 = .ok (.dup, 1) := by decide +kernel
theorem dX9_init_89 : decode cX9_init 89 = .ok (.iconst 5, 1) := by decide +kernel
theorem dX9_init_90 : decode cX9_init 90 = .ok (.sipush 160, 3) := by decide +kernel
theorem dX9_init_93 : decode cX9_init 93 = .ok (.iastore, 1) := by decide +kernel
theorem dX9_init_94 : decode cX9_init 94 = .ok (.dup, 1) := by decide +kernel
theorem dX9_init_95 : decode cX9_init 95 = .ok (.bipush 6, 2) := by decide +kernel
theorem dX9_init_97 : decode cX9_init 97 = .ok (.sipush 320, 3) := by decide +kernel
theorem dX9_init_100 : decode cX9_init 100 = .ok (.iastore, 1) := by decide +kernel
theorem dX9_init_101 : decode cX9_init 101 = .ok (.dup, 1) := by decide +kernel
theorem dX9_init_102 : decode cX9_init 102 = .ok (.bipush 7, 2) := by decide +kernel
theorem dX9_init_104 : decode cX9_init 104 = .ok (.sipush 640, 3) := by decide +kernel
theorem dX9_init_107 : decode cX9_init 107 = .ok (.iastore, 1) := by decide +kernel
theorem dX9_init_108 : decode cX9_init 108 = .ok (.dup, 1) := by decide +kernel
theorem dX9_init_109 : decode cX9_init 109 = .ok (.bipush 8, 2) := by decide +kernel
theorem dX9_init_111 : decode cX9_init 111 = .ok (.ldc 31, 2) := by decide +kernel
theorem dX9_init_113 : decode cX9_init 113 = .ok (.iastore, 1) := by decide +kernel
theorem dX9_init_114 : decode cX9_init 114 = .ok (.putfield 32, 3) := by decide +kernel
theorem dX9_init_117 : decode cX9_init 117 = .ok (.aload_n 0, 1) := by decide +kernel
theorem dX9_init_118 : decode cX9_init 118 = .ok (.sipush 310, 3) := by decide +kernel
theorem dX9_init_121 : decode cX9_init 121 = .ok (.newarray .int, 2) := by decide +kernel
theorem dX9_init_123 : decode cX9_init 123 = .ok (.putfield 35, 3) := by decide +kernel
theorem dX9_init_126 : decode cX9_init 126 = .ok (.aload_n 0, 1) := by decide +kernel
theorem dX9_init_127 : decode cX9_init 127 = .ok (.bipush 6, 2) := by decide +kernel
theorem dX9_init_129 : decode cX9_init 129 = .ok (.newarray .int, 2) := by decide +kernel
theorem dX9_init_131 : decode cX9_init 131 = .ok (.putfield 38, 3) := by decide +kernel
theorem dX9_init_134 : decode cX9_init 134 = .ok (.aload_n 0, 1) := by decide +kernel
theorem dX9_init_135 : decode cX9_init 135 = .ok (.iconst 5, 1) := by decide +kernel
theorem dX9_init_136 : decode cX9_init 136 = .ok (.newarray .int, 2) := by decide +kernel
theorem dX9_init_138 : decode cX9_init 138 = .ok (.putfield 41, 3) := by decide +kernel
theorem dX9_init_141 : decode cX9_init 141 = .ok (.aload_n 0, 1) := by decide +kernel
theorem dX9_init_142 : decode cX9_init 142 = .ok (.bipush 8, 2) := by decide +kernel
theorem dX9_init_144 : decode cX9_init 144 = .ok (.newarray .int, 2) := by decide +kernel
theorem dX9_init_146 : decode cX9_init 146 = .ok (.putfield 44, 3) := by decide +kernel
theorem dX9_init_149 : decode cX9_init 149 = .ok (.return_, 1) := by decide +kernel
theorem dX9_in_0 : decode cX9_in 0 = .ok (.iload_n 0, 1) := by decide +kernel
theorem dX9_in_1 : decode cX9_in 1 = .ok (.iload_n 1, 1) := by decide +kernel
theorem dX9_in_2 : decode cX9_in 2 = .ok (.if_icmp .lt 12, 3) := by decide +kernel
theorem dX9_in_5 : decode cX9_in 5 = .ok (.iload_n 0, 1) := by decide +kernel
theorem dX9_in_6 : decode cX9_in 6 = .ok (.iload_n 2, 1) := by decide +kernel
theorem dX9_in_7 : decode cX9_in 7 = .ok (.if_icmp .gt 7, 3) := by decide +kernel
theorem dX9_in_10 : decode cX9_in 10 = .ok (.iconst 1, 1) := by decide +kernel
theorem dX9_in_11 : decode cX9_in 11 = .ok (.goto 4, 3) := by decide +kernel
theorem dX9_in_14 : decode cX9_in 14 = .ok (.iconst 0, 1) := by decide +kernel
theorem dX9_in_15 : decode cX9_in 15 = .ok (.ireturn, 1) := by decide +kernel
theorem dX9_is_0 : decode cX9_is 0 = .ok (.iload_n 2, 1) := by decide +kernel
theorem dX9_is_1 : decode cX9_is 1 = .ok (.iconst 0, 1) := by decide +kernel
theorem dX9_is_2 : decode cX9_is 2 = .ok (.aload_n 0, 1) := by decide +kernel
theorem dX9_is_3 : decode cX9_is 3 = .ok (.getfield 7, 3) := by decide +kernel
theorem dX9_is_6 : decode cX9_is 6 = .ok (.iload_n 1, 1) := by decide +kernel
theorem dX9_is_7 : decode cX9_is 7 = .ok (.iaload, 1) := by decide +kernel
theorem dX9_is_8 : decode cX9_is 8 = .ok (.iconst 1, 1) := by decide +kernel
theorem dX9_is_9 : decode cX9_is 9 = .ok (.isub, 1) := by decide +kernel
theorem dX9_is_10 : decode cX9_is 10 = .ok (.invokestatic 47, 3) := by decide +kernel
theorem dX9_is_13 : decode cX9_is 13 = .ok (.ireturn, 1) := by decide +kernel
theorem dX9_isYear_0 : decode cX9_isYear 0 = .ok (.iload_n 0, 1) := by decide +kernel
theorem dX9_isYear_1 : decode cX9_isYear 1 = .ok (.iconst 0, 1) := by decide +kernel
theorem dX9_isYear_2 : decode cX9_isYear 2 = .ok (.bipush 9, 2) := by decide +kernel
theorem dX9_isYear_4 : decode cX9_isYear 4 = .ok (.invokestatic 47, 3) := by decide +kernel
theorem dX9_isYear_7 : decode cX9_isYear 7 = .ok (.ireturn, 1) := by decide +kernel
theorem dX9_came_0 : decode cX9_came 0 = .ok (.aload_n 0, 1) := by decide +kernel
theorem dX9_came_1 : decode cX9_came 1 = .ok (.getfield 7, 3) := by decide +kernel
theorem dX9_came_4 : decode cX9_came 4 = .ok (.iload_n 1, 1) := by decide +kernel
theorem dX9_came_5 : decode cX9_came 5 = .ok (.dup2, 1) := by decide +kernel
theorem dX9_came_6 : decode cX9_came 6 = .ok (.iaload, 1) := by decide +kernel
theorem dX9_came_7 : decode cX9_came 7 = .ok (.iconst 1, 1) := by decide +kernel
theorem dX9_came_8 : decode cX9_came 8 = .ok (.iadd, 1) := by decide +kernel
theorem dX9_came_9 : decode cX9_came 9 = .ok (.iastore, 1) := by decide +kernel
theorem dX9_came_10 : decode cX9_came 10 = .ok (.aload_n 0, 1) := by decide +kernel
theorem dX9_came_11 : decode cX9_came 11 = .ok (.getfield 7, 3) := by decide +kernel
theorem dX9_came_14 : decode cX9_came 14 = .ok (.iload_n 1, 1) := by decide +kernel
theorem dX9_came_15 : decode cX9_came 15 = .ok (.iaload, 1) := by decide +kernel
theorem dX9_came_16 : decode cX9_came 16 = .ok (.iconst 1, 1) := by decide +kernel
theorem dX9_came_17 : decode cX9_came 17 = .ok (.isub, 1) := by decide +kernel
theorem dX9_came_18 : decode cX9_came 18 = .ok (.ireturn, 1) := by decide +kernel
theorem dX9_room_0 : decode cX9_room 0 = .ok (.iload_n 1, 1) := by decide +kernel
theorem dX9_room_1 : decode cX9_room 1 = .ok (.iconst 1, 1) := by decide +kernel
theorem dX9_room_2 : decode cX9_room 2 = .ok (.sipush 200, 3) := by decide +kernel
theorem dX9_room_5 : decode cX9_room 5 = .ok (.invokestatic 47, 3) := by decide +kernel
theorem dX9_room_8 : decode cX9_room 8 = .ok (.ifCond .ne 5, 3) := by decide +kernel
theorem dX9_room_11 : decode cX9_room 11 = .ok (.iconst (-1), 1) := by decide +kernel
theorem dX9_room_12 : decode cX9_room 12 = .ok (.ireturn, 1) := by decide +kernel
theorem dX9_room_13 : decode cX9_room 13 = .ok (.aload_n 0, 1) := by decide +kernel
theorem dX9_room_14 : decode cX9_room 14 = .ok (.getfield 7, 3) := by decide +kernel
theorem dX9_room_17 : decode cX9_room 17 = .ok (.iconst 0, 1) := by decide +kernel
theorem dX9_room_18 : decode cX9_room 18 = .ok (.iaload, 1) := by decide +kernel
theorem dX9_room_19 : decode cX9_room 19 = .ok (.iconst 4, 1) := by decide +kernel
theorem dX9_room_20 : decode cX9_room 20 = .ok (.if_icmp .ne 6, 3) := by decide +kernel
theorem dX9_room_23 : decode cX9_room 23 = .ok (.bipush (-2), 2) := by decide +kernel
theorem dX9_room_25 : decode cX9_room 25 = .ok (.ireturn, 1) := by decide +kernel
theorem dX9_room_26 : decode cX9_room 26 = .ok (.aload_n 0, 1) := by decide +kernel
theorem dX9_room_27 : decode cX9_room 27 = .ok (.getfield 7, 3) := by decide +kernel
theorem dX9_room_30 : decode cX9_room 30 = .ok (.iconst 0, 1) := by decide +kernel
theorem dX9_room_31 : decode cX9_room 31 = .ok (.iaload, 1) := by decide +kernel
theorem dX9_room_32 : decode cX9_room 32 = .ok (.istore_n 2, 1) := by decide +kernel
theorem dX9_room_33 : decode cX9_room 33 = .ok (.aload_n 0, 1) := by decide +kernel
theorem dX9_room_34 : decode cX9_room 34 = .ok (.getfield 13, 3) := by decide +kernel
theorem dX9_room_37 : decode cX9_room 37 = .ok (.iload_n 2, 1) := by decide +kernel
theorem dX9_room_38 : decode cX9_room 38 = .ok (.iload_n 1, 1) := by decide +kernel
theorem dX9_room_39 : decode cX9_room 39 = .ok (.iastore, 1) := by decide +kernel
theorem dX9_room_40 : decode cX9_room 40 = .ok (.iconst 0, 1) := by decide +kernel
theorem dX9_room_41 : decode cX9_room 41 = .ok (.istore_n 3, 1) := by decide +kernel
theorem dX9_room_42 : decode cX9_room 42 = .ok (.iload_n 3, 1) := by decide +kernel
theorem dX9_room_43 : decode cX9_room 43 = .ok (.bipush 10, 2) := by decide +kernel
theorem dX9_room_45 : decode cX9_room 45 = .ok (.if_icmp .ge 21, 3) := by decide +kernel
theorem dX9_room_48 : decode cX9_room 48 = .ok (.aload_n 0, 1) := by decide +kernel
theorem dX9_room_49 : decode cX9_room 49 = .ok (.getfield 16, 3) := by decide +kernel
theorem dX9_room_52 : decode cX9_room 52 = .ok (.bipush 10, 2) := by decide +kernel
theorem dX9_room_54 : decode cX9_room 54 = .ok (.iload_n 2, 1) := by decide +kernel
theorem dX9_room_55 : decode cX9_room 55 = .ok (.imul, 1) := by decide +kernel
theorem dX9_room_56 : decode cX9_room 56 = .ok (.iload_n 3, 1) := by decide +kernel
theorem dX9_room_57 : decode cX9_room 57 = .ok (.iadd, 1) := by decide +kernel
theorem dX9_room_58 : decode cX9_room 58 = .ok (.iconst (-1), 1) := by decide +kernel
theorem dX9_room_59 : decode cX9_room 59 = .ok (.iastore, 1) := by decide +kernel
theorem dX9_room_60 : decode cX9_room 60 = .ok (.iinc 3 1, 3) := by decide +kernel
theorem dX9_room_63 : decode cX9_room 63 = .ok (.goto (-21), 3) := by decide +kernel
theorem dX9_room_66 : decode cX9_room 66 = .ok (.aload_n 0, 1) := by decide +kernel
theorem dX9_room_67 : decode cX9_room 67 = .ok (.iconst 0, 1) := by decide +kernel
theorem dX9_room_68 : decode cX9_room 68 = .ok (.invokevirtual 51, 3) := by decide +kernel
theorem dX9_room_71 : decode cX9_room 71 = .ok (.ireturn, 1) := by decide +kernel
theorem dX9_reading_0 : decode cX9_reading 0 = .ok (.aload_n 0, 1) := by decide +kernel
theorem dX9_reading_1 : decode cX9_reading 1 = .ok (.iconst 0, 1) := by decide +kernel
theorem dX9_reading_2 : decode cX9_reading 2 = .ok (.iload_n 1, 1) := by decide +kernel
theorem dX9_reading_3 : decode cX9_reading 3 = .ok (.invokevirtual 55, 3) := by decide +kernel
theorem dX9_reading_6 : decode cX9_reading 6 = .ok (.ifCond .eq 24, 3) := by decide +kernel
theorem dX9_reading_9 : decode cX9_reading 9 = .ok (.iload_n 2, 1) := by decide +kernel
theorem dX9_reading_10 : decode cX9_reading 10 = .ok (.invokestatic 59, 3) := by decide +kernel
theorem dX9_reading_13 : decode cX9_reading 13 = .ok (.ifCond .eq 17, 3) := by decide +kernel
theorem dX9_reading_16 : decode cX9_reading 16 = .ok (.iload_n 3, 1) := by decide +kernel
theorem dX9_reading_17 : decode cX9_reading 17 = .ok (.iconst (-1), 1) := by decide +kernel
theorem dX9_reading_18 : decode cX9_reading 18 = .ok (.aload_n 0, 1) := by decide +kernel
theorem dX9_reading_19 : decode cX9_reading 19 = .ok (.getfield 13, 3) := by decide +kernel
theorem dX9_reading_22 : decode cX9_reading 22 = .ok (.iload_n 1, 1) := by decide +kernel
theorem dX9_reading_23 : decode cX9_reading 23 = .ok (.iaload, 1) := by decide +kernel
theorem dX9_reading_24 : decode cX9_reading 24 = .ok (.invokestatic 47, 3) := by decide +kernel
theorem dX9_reading_27 : decode cX9_reading 27 = .ok (.ifCond .ne 5, 3) := by decide +kernel
theorem dX9_reading_30 : decode cX9_reading 30 = .ok (.iconst (-1), 1) := by decide +kernel
theorem dX9_reading_31 : decode cX9_reading 31 = .ok (.ireturn, 1) := by decide +kernel
theorem dX9_reading_32 : decode cX9_reading 32 = .ok (.aload_n 0, 1) := by decide +kernel
theorem dX9_reading_33 : decode cX9_reading 33 = .ok (.getfield 16, 3) := by decide +kernel
theorem dX9_reading_36 : decode cX9_reading 36 = .ok (.bipush 10, 2) := by decide +kernel
theorem dX9_reading_38 : decode cX9_reading 38 = .ok (.iload_n 1, 1) := by decide +kernel
theorem dX9_reading_39 : decode cX9_reading 39 = .ok (.imul, 1) := by decide +kernel
theorem dX9_reading_40 : decode cX9_reading 40 = .ok (.iload_n 2, 1) := by decide +kernel
theorem dX9_reading_41 : decode cX9_reading 41 = .ok (.iadd, 1) := by decide +kernel
theorem dX9_reading_42 : decode cX9_reading 42 = .ok (.iload_n 3, 1) := by decide +kernel
theorem dX9_reading_43 : decode cX9_reading 43 = .ok (.iastore, 1) := by decide +kernel
theorem dX9_reading_44 : decode cX9_reading 44 = .ok (.iconst 1, 1) := by decide +kernel
theorem dX9_reading_45 : decode cX9_reading 45 = .ok (.ireturn, 1) := by decide +kernel
theorem dX9_lightOf_0 : decode cX9_lightOf 0 = .ok (.aload_n 0, 1) := by decide +kernel
theorem dX9_lightOf_1 : decode cX9_lightOf 1 = .ok (.getfield 16, 3) := by decide +kernel
theorem dX9_lightOf_4 : decode cX9_lightOf 4 = .ok (.bipush 10, 2) := by decide +kernel
theorem dX9_lightOf_6 : decode cX9_lightOf 6 = .ok (.iload_n 1, 1) := by decide +kernel
theorem dX9_lightOf_7 : decode cX9_lightOf 7 = .ok (.imul, 1) := by decide +kernel
theorem dX9_lightOf_8 : decode cX9_lightOf 8 = .ok (.iload_n 2, 1) := by decide +kernel
theorem dX9_lightOf_9 : decode cX9_lightOf 9 = .ok (.iadd, 1) := by decide +kernel
theorem dX9_lightOf_10 : decode cX9_lightOf 10 = .ok (.iaload, 1) := by decide +kernel
theorem dX9_lightOf_11 : decode cX9_lightOf 11 = .ok (.istore 4, 2) := by decide +kernel
theorem dX9_lightOf_13 : decode cX9_lightOf 13 = .ok (.iload 4, 2) := by decide +kernel
theorem dX9_lightOf_15 : decode cX9_lightOf 15 = .ok (.ifCond .lt 8, 3) := by decide +kernel
theorem dX9_lightOf_18 : decode cX9_lightOf 18 = .ok (.iload 4, 2) := by decide +kernel
theorem dX9_lightOf_20 : decode cX9_lightOf 20 = .ok (.goto 17, 3) := by decide +kernel
theorem dX9_lightOf_23 : decode cX9_lightOf 23 = .ok (.iload_n 3, 1) := by decide +kernel
theorem dX9_lightOf_24 : decode cX9_lightOf 24 = .ok (.ifCond .eq 12, 3) := by decide +kernel
theorem dX9_lightOf_27 : decode cX9_lightOf 27 = .ok (.aload_n 0, 1) := by decide +kernel
theorem dX9_lightOf_28 : decode cX9_lightOf 28 = .ok (.getfield 13, 3) := by decide +kernel
theorem dX9_lightOf_31 : decode cX9_lightOf 31 = .ok (.iload_n 1, 1) := by decide +kernel
theorem dX9_lightOf_32 : decode cX9_lightOf 32 = .ok (.iaload, 1) := by decide +kernel
theorem dX9_lightOf_33 : decode cX9_lightOf 33 = .ok (.goto 4, 3) := by decide +kernel
theorem dX9_lightOf_36 : decode cX9_lightOf 36 = .ok (.iconst 0, 1) := by decide +kernel
theorem dX9_lightOf_37 : decode cX9_lightOf 37 = .ok (.ireturn, 1) := by decide +kernel
theorem dX9_light_0 : decode cX9_light 0 = .ok (.aload_n 0, 1) := by decide +kernel
theorem dX9_light_1 : decode cX9_light 1 = .ok (.iconst 0, 1) := by decide +kernel
theorem dX9_light_2 : decode cX9_light 2 = .ok (.iload_n 1, 1) := by decide +kernel
theorem dX9_light_3 : decode cX9_light 3 = .ok (.invokevirtual 55, 3) := by decide +kernel
theorem dX9_light_6 : decode cX9_light 6 = .ok (.ifCond .eq 20, 3) := by decide +kernel
theorem dX9_light_9 : decode cX9_light 9 = .ok (.iload_n 2, 1) := by decide +kernel
theorem dX9_light_10 : decode cX9_light 10 = .ok (.invokestatic 59, 3) := by decide +kernel
theorem dX9_light_13 : decode cX9_light 13 = .ok (.ifCond .eq 13, 3) := by decide +kernel
theorem dX9_light_16 : decode cX9_light 16 = .ok (.aload_n 0, 1) := by decide +kernel
theorem dX9_light_17 : decode cX9_light 17 = .ok (.iload_n 1, 1) := by decide +kernel
theorem dX9_light_18 : decode cX9_light 18 = .ok (.iload_n 2, 1) := by decide +kernel
end
section
theorem dX9_light_19 : decode cX9_light 19 = .ok (.iload_n 3, 1) := by decide +kernel
theorem dX9_light_20 : decode cX9_light 20 = .ok (.invokevirtual 63, 3) := by decide +kernel
theorem dX9_light_23 : decode cX9_light 23 = .ok (.goto 4, 3) := by decide +kernel
theorem dX9_light_26 : decode cX9_light 26 = .ok (.iconst (-1), 1) := by decide +kernel
theorem dX9_light_27 : decode cX9_light 27 = .ok (.ireturn, 1) := by decide +kernel
theorem dX9_sheet_0 : decode cX9_sheet 0 = .ok (.iload_n 1, 1) := by decide +kernel
theorem dX9_sheet_1 : decode cX9_sheet 1 = .ok (.iconst 1, 1) := by decide +kernel
theorem dX9_sheet_2 : decode cX9_sheet 2 = .ok (.sipush 2000, 3) := by decide +kernel
theorem dX9_sheet_5 : decode cX9_sheet 5 = .ok (.invokestatic 47, 3) := by decide +kernel
theorem dX9_sheet_8 : decode cX9_sheet 8 = .ok (.ifCond .eq 33, 3) := by decide +kernel
theorem dX9_sheet_11 : decode cX9_sheet 11 = .ok (.iload_n 2, 1) := by decide +kernel
theorem dX9_sheet_12 : decode cX9_sheet 12 = .ok (.iconst 1, 1) := by decide +kernel
theorem dX9_sheet_13 : decode cX9_sheet 13 = .ok (.bipush 15, 2) := by decide +kernel
theorem dX9_sheet_15 : decode cX9_sheet 15 = .ok (.invokestatic 47, 3) := by decide +kernel
theorem dX9_sheet_18 : decode cX9_sheet 18 = .ok (.ifCond .eq 23, 3) := by decide +kernel
theorem dX9_sheet_21 : decode cX9_sheet 21 = .ok (.iload_n 3, 1) := by decide +kernel
theorem dX9_sheet_22 : decode cX9_sheet 22 = .ok (.iconst 1, 1) := by decide +kernel
theorem dX9_sheet_23 : decode cX9_sheet 23 = .ok (.bipush 9, 2) := by decide +kernel
theorem dX9_sheet_25 : decode cX9_sheet 25 = .ok (.invokestatic 47, 3) := by decide +kernel
theorem dX9_sheet_28 : decode cX9_sheet 28 = .ok (.ifCond .eq 13, 3) := by decide +kernel
theorem dX9_sheet_31 : decode cX9_sheet 31 = .ok (.iload 4, 2) := by decide +kernel
theorem dX9_sheet_33 : decode cX9_sheet 33 = .ok (.iconst 0, 1) := by decide +kernel
theorem dX9_sheet_34 : decode cX9_sheet 34 = .ok (.iconst 3, 1) := by decide +kernel
theorem dX9_sheet_35 : decode cX9_sheet 35 = .ok (.invokestatic 47, 3) := by decide +kernel
theorem dX9_sheet_38 : decode cX9_sheet 38 = .ok (.ifCond .ne 5, 3) := by decide +kernel
theorem dX9_sheet_41 : decode cX9_sheet 41 = .ok (.iconst (-1), 1) := by decide +kernel
theorem dX9_sheet_42 : decode cX9_sheet 42 = .ok (.ireturn, 1) := by decide +kernel
theorem dX9_sheet_43 : decode cX9_sheet 43 = .ok (.aload_n 0, 1) := by decide +kernel
theorem dX9_sheet_44 : decode cX9_sheet 44 = .ok (.getfield 7, 3) := by decide +kernel
theorem dX9_sheet_47 : decode cX9_sheet 47 = .ok (.iconst 1, 1) := by decide +kernel
theorem dX9_sheet_48 : decode cX9_sheet 48 = .ok (.iaload, 1) := by decide +kernel
theorem dX9_sheet_49 : decode cX9_sheet 49 = .ok (.bipush 8, 2) := by decide +kernel
theorem dX9_sheet_51 : decode cX9_sheet 51 = .ok (.if_icmp .ne 6, 3) := by decide +kernel
theorem dX9_sheet_54 : decode cX9_sheet 54 = .ok (.bipush (-2), 2) := by decide +kernel
theorem dX9_sheet_56 : decode cX9_sheet 56 = .ok (.ireturn, 1) := by decide +kernel
theorem dX9_sheet_57 : decode cX9_sheet 57 = .ok (.bipush 7, 2) := by decide +kernel
theorem dX9_sheet_59 : decode cX9_sheet 59 = .ok (.aload_n 0, 1) := by decide +kernel
theorem dX9_sheet_60 : decode cX9_sheet 60 = .ok (.getfield 7, 3) := by decide +kernel
theorem dX9_sheet_63 : decode cX9_sheet 63 = .ok (.iconst 1, 1) := by decide +kernel
theorem dX9_sheet_64 : decode cX9_sheet 64 = .ok (.iaload, 1) := by decide +kernel
theorem dX9_sheet_65 : decode cX9_sheet 65 = .ok (.imul, 1) := by decide +kernel
theorem dX9_sheet_66 : decode cX9_sheet 66 = .ok (.istore 5, 2) := by decide +kernel
theorem dX9_sheet_68 : decode cX9_sheet 68 = .ok (.aload_n 0, 1) := by decide +kernel
theorem dX9_sheet_69 : decode cX9_sheet 69 = .ok (.getfield 19, 3) := by decide +kernel
theorem dX9_sheet_72 : decode cX9_sheet 72 = .ok (.iload 5, 2) := by decide +kernel
theorem dX9_sheet_74 : decode cX9_sheet 74 = .ok (.iload_n 1, 1) := by decide +kernel
theorem dX9_sheet_75 : decode cX9_sheet 75 = .ok (.iastore, 1) := by decide +kernel
theorem dX9_sheet_76 : decode cX9_sheet 76 = .ok (.aload_n 0, 1) := by decide +kernel
theorem dX9_sheet_77 : decode cX9_sheet 77 = .ok (.getfield 19, 3) := by decide +kernel
theorem dX9_sheet_80 : decode cX9_sheet 80 = .ok (.iload 5, 2) := by decide +kernel
theorem dX9_sheet_82 : decode cX9_sheet 82 = .ok (.iconst 1, 1) := by decide +kernel
theorem dX9_sheet_83 : decode cX9_sheet 83 = .ok (.iadd, 1) := by decide +kernel
theorem dX9_sheet_84 : decode cX9_sheet 84 = .ok (.iload_n 2, 1) := by decide +kernel
theorem dX9_sheet_85 : decode cX9_sheet 85 = .ok (.iastore, 1) := by decide +kernel
theorem dX9_sheet_86 : decode cX9_sheet 86 = .ok (.aload_n 0, 1) := by decide +kernel
theorem dX9_sheet_87 : decode cX9_sheet 87 = .ok (.getfield 19, 3) := by decide +kernel
theorem dX9_sheet_90 : decode cX9_sheet 90 = .ok (.iload 5, 2) := by decide +kernel
theorem dX9_sheet_92 : decode cX9_sheet 92 = .ok (.iconst 2, 1) := by decide +kernel
theorem dX9_sheet_93 : decode cX9_sheet 93 = .ok (.iadd, 1) := by decide +kernel
theorem dX9_sheet_94 : decode cX9_sheet 94 = .ok (.iload_n 3, 1) := by decide +kernel
theorem dX9_sheet_95 : decode cX9_sheet 95 = .ok (.iastore, 1) := by decide +kernel
theorem dX9_sheet_96 : decode cX9_sheet 96 = .ok (.aload_n 0, 1) := by decide +kernel
theorem dX9_sheet_97 : decode cX9_sheet 97 = .ok (.getfield 19, 3) := by decide +kernel
theorem dX9_sheet_100 : decode cX9_sheet 100 = .ok (.iload 5, 2) := by decide +kernel
theorem dX9_sheet_102 : decode cX9_sheet 102 = .ok (.iconst 3, 1) := by decide +kernel
theorem dX9_sheet_103 : decode cX9_sheet 103 = .ok (.iadd, 1) := by decide +kernel
theorem dX9_sheet_104 : decode cX9_sheet 104 = .ok (.iload 4, 2) := by decide +kernel
theorem dX9_sheet_106 : decode cX9_sheet 106 = .ok (.iastore, 1) := by decide +kernel
theorem dX9_sheet_107 : decode cX9_sheet 107 = .ok (.aload_n 0, 1) := by decide +kernel
theorem dX9_sheet_108 : decode cX9_sheet 108 = .ok (.getfield 19, 3) := by decide +kernel
theorem dX9_sheet_111 : decode cX9_sheet 111 = .ok (.iload 5, 2) := by decide +kernel
theorem dX9_sheet_113 : decode cX9_sheet 113 = .ok (.iconst 4, 1) := by decide +kernel
theorem dX9_sheet_114 : decode cX9_sheet 114 = .ok (.iadd, 1) := by decide +kernel
theorem dX9_sheet_115 : decode cX9_sheet 115 = .ok (.iconst (-1), 1) := by decide +kernel
theorem dX9_sheet_116 : decode cX9_sheet 116 = .ok (.iastore, 1) := by decide +kernel
theorem dX9_sheet_117 : decode cX9_sheet 117 = .ok (.aload_n 0, 1) := by decide +kernel
theorem dX9_sheet_118 : decode cX9_sheet 118 = .ok (.getfield 19, 3) := by decide +kernel
theorem dX9_sheet_121 : decode cX9_sheet 121 = .ok (.iload 5, 2) := by decide +kernel
theorem dX9_sheet_123 : decode cX9_sheet 123 = .ok (.iconst 5, 1) := by decide +kernel
theorem dX9_sheet_124 : decode cX9_sheet 124 = .ok (.iadd, 1) := by decide +kernel
theorem dX9_sheet_125 : decode cX9_sheet 125 = .ok (.iconst 0, 1) := by decide +kernel
theorem dX9_sheet_126 : decode cX9_sheet 126 = .ok (.iastore, 1) := by decide +kernel
theorem dX9_sheet_127 : decode cX9_sheet 127 = .ok (.aload_n 0, 1) := by decide +kernel
theorem dX9_sheet_128 : decode cX9_sheet 128 = .ok (.getfield 19, 3) := by decide +kernel
theorem dX9_sheet_131 : decode cX9_sheet 131 = .ok (.iload 5, 2) := by decide +kernel
theorem dX9_sheet_133 : decode cX9_sheet 133 = .ok (.bipush 6, 2) := by decide +kernel
theorem dX9_sheet_135 : decode cX9_sheet 135 = .ok (.iadd, 1) := by decide +kernel
theorem dX9_sheet_136 : decode cX9_sheet 136 = .ok (.iconst 0, 1) := by decide +kernel
theorem dX9_sheet_137 : decode cX9_sheet 137 = .ok (.iastore, 1) := by decide +kernel
theorem dX9_sheet_138 : decode cX9_sheet 138 = .ok (.aload_n 0, 1) := by decide +kernel
theorem dX9_sheet_139 : decode cX9_sheet 139 = .ok (.iconst 1, 1) := by decide +kernel
theorem dX9_sheet_140 : decode cX9_sheet 140 = .ok (.invokevirtual 51, 3) := by decide +kernel
theorem dX9_sheet_143 : decode cX9_sheet 143 = .ok (.ireturn, 1) := by decide +kernel
theorem dX9_sisterOf_0 : decode cX9_sisterOf 0 = .ok (.aload_n 0, 1) := by decide +kernel
theorem dX9_sisterOf_1 : decode cX9_sisterOf 1 = .ok (.getfield 19, 3) := by decide +kernel
theorem dX9_sisterOf_4 : decode cX9_sisterOf 4 = .ok (.bipush 7, 2) := by decide +kernel
theorem dX9_sisterOf_6 : decode cX9_sisterOf 6 = .ok (.iload_n 1, 1) := by decide +kernel
theorem dX9_sisterOf_7 : decode cX9_sisterOf 7 = .ok (.imul, 1) := by decide +kernel
theorem dX9_sisterOf_8 : decode cX9_sisterOf 8 = .ok (.iconst 4, 1) := by decide +kernel
theorem dX9_sisterOf_9 : decode cX9_sisterOf 9 = .ok (.iadd, 1) := by decide +kernel
theorem dX9_sisterOf_10 : decode cX9_sisterOf 10 = .ok (.iaload, 1) := by decide +kernel
theorem dX9_sisterOf_11 : decode cX9_sisterOf 11 = .ok (.ireturn, 1) := by decide +kernel
theorem dX9_sisters_0 : decode cX9_sisters 0 = .ok (.aload_n 0, 1) := by decide +kernel
theorem dX9_sisters_1 : decode cX9_sisters 1 = .ok (.iconst 1, 1) := by decide +kernel
theorem dX9_sisters_2 : decode cX9_sisters 2 = .ok (.iload_n 1, 1) := by decide +kernel
theorem dX9_sisters_3 : decode cX9_sisters 3 = .ok (.invokevirtual 55, 3) := by decide +kernel
theorem dX9_sisters_6 : decode cX9_sisters 6 = .ok (.ifCond .eq 17, 3) := by decide +kernel
theorem dX9_sisters_9 : decode cX9_sisters 9 = .ok (.aload_n 0, 1) := by decide +kernel
theorem dX9_sisters_10 : decode cX9_sisters 10 = .ok (.iconst 1, 1) := by decide +kernel
theorem dX9_sisters_11 : decode cX9_sisters 11 = .ok (.iload_n 2, 1) := by decide +kernel
theorem dX9_sisters_12 : decode cX9_sisters 12 = .ok (.invokevirtual 55, 3) := by decide +kernel
theorem dX9_sisters_15 : decode cX9_sisters 15 = .ok (.ifCond .eq 8, 3) := by decide +kernel
theorem dX9_sisters_18 : decode cX9_sisters 18 = .ok (.iload_n 1, 1) := by decide +kernel
theorem dX9_sisters_19 : decode cX9_sisters 19 = .ok (.iload_n 2, 1) := by decide +kernel
theorem dX9_sisters_20 : decode cX9_sisters 20 = .ok (.if_icmp .ne 5, 3) := by decide +kernel
theorem dX9_sisters_23 : decode cX9_sisters 23 = .ok (.iconst (-1), 1) := by decide +kernel
theorem dX9_sisters_24 : decode cX9_sisters 24 = .ok (.ireturn, 1) := by decide +kernel
theorem dX9_sisters_25 : decode cX9_sisters 25 = .ok (.aload_n 0, 1) := by decide +kernel
theorem dX9_sisters_26 : decode cX9_sisters 26 = .ok (.iload_n 1, 1) := by decide +kernel
theorem dX9_sisters_27 : decode cX9_sisters 27 = .ok (.invokevirtual 67, 3) := by decide +kernel
theorem dX9_sisters_30 : decode cX9_sisters 30 = .ok (.ifCond .ge 11, 3) := by decide +kernel
theorem dX9_sisters_33 : decode cX9_sisters 33 = .ok (.aload_n 0, 1) := by decide +kernel
theorem dX9_sisters_34 : decode cX9_sisters 34 = .ok (.iload_n 2, 1) := by decide +kernel
theorem dX9_sisters_35 : decode cX9_sisters 35 = .ok (.invokevirtual 67, 3) := by decide +kernel
theorem dX9_sisters_38 : decode cX9_sisters 38 = .ok (.ifCond .lt 6, 3) := by decide +kernel
theorem dX9_sisters_41 : decode cX9_sisters 41 = .ok (.bipush (-3), 2) := by decide +kernel
theorem dX9_sisters_43 : decode cX9_sisters 43 = .ok (.ireturn, 1) := by decide +kernel
theorem dX9_sisters_44 : decode cX9_sisters 44 = .ok (.aload_n 0, 1) := by decide +kernel
theorem dX9_sisters_45 : decode cX9_sisters 45 = .ok (.getfield 19, 3) := by decide +kernel
theorem dX9_sisters_48 : decode cX9_sisters 48 = .ok (.bipush 7, 2) := by decide +kernel
theorem dX9_sisters_50 : decode cX9_sisters 50 = .ok (.iload_n 1, 1) := by decide +kernel
theorem dX9_sisters_51 : decode cX9_sisters 51 = .ok (.imul, 1) := by decide +kernel
theorem dX9_sisters_52 : decode cX9_sisters 52 = .ok (.iconst 4, 1) := by decide +kernel
theorem dX9_sisters_53 : decode cX9_sisters 53 = .ok (.iadd, 1) := by decide +kernel
theorem dX9_sisters_54 : decode cX9_sisters 54 = .ok (.iload_n 2, 1) := by decide +kernel
theorem dX9_sisters_55 : decode cX9_sisters 55 = .ok (.iastore, 1) := by decide +kernel
theorem dX9_sisters_56 : decode cX9_sisters 56 = .ok (.aload_n 0, 1) := by decide +kernel
theorem dX9_sisters_57 : decode cX9_sisters 57 = .ok (.getfield 19, 3) := by decide +kernel
theorem dX9_sisters_60 : decode cX9_sisters 60 = .ok (.bipush 7, 2) := by decide +kernel
theorem dX9_sisters_62 : decode cX9_sisters 62 = .ok (.iload_n 2, 1) := by decide +kernel
theorem dX9_sisters_63 : decode cX9_sisters 63 = .ok (.imul, 1) := by decide +kernel
theorem dX9_sisters_64 : decode cX9_sisters 64 = .ok (.iconst 4, 1) := by decide +kernel
theorem dX9_sisters_65 : decode cX9_sisters 65 = .ok (.iadd, 1) := by decide +kernel
theorem dX9_sisters_66 : decode cX9_sisters 66 = .ok (.iload_n 1, 1) := by decide +kernel
theorem dX9_sisters_67 : decode cX9_sisters 67 = .ok (.iastore, 1) := by decide +kernel
theorem dX9_sisters_68 : decode cX9_sisters 68 = .ok (.iconst 1, 1) := by decide +kernel
theorem dX9_sisters_69 : decode cX9_sisters 69 = .ok (.ireturn, 1) := by decide +kernel
theorem dX9_past_0 : decode cX9_past 0 = .ok (.aload_n 0, 1) := by decide +kernel
theorem dX9_past_1 : decode cX9_past 1 = .ok (.iconst 1, 1) := by decide +kernel
theorem dX9_past_2 : decode cX9_past 2 = .ok (.iload_n 1, 1) := by decide +kernel
theorem dX9_past_3 : decode cX9_past 3 = .ok (.invokevirtual 55, 3) := by decide +kernel
theorem dX9_past_6 : decode cX9_past 6 = .ok (.ifCond .eq 25, 3) := by decide +kernel
theorem dX9_past_9 : decode cX9_past 9 = .ok (.iload_n 2, 1) := by decide +kernel
theorem dX9_past_10 : decode cX9_past 10 = .ok (.iconst 0, 1) := by decide +kernel
theorem dX9_past_11 : decode cX9_past 11 = .ok (.sipush 2000, 3) := by decide +kernel
theorem dX9_past_14 : decode cX9_past 14 = .ok (.invokestatic 47, 3) := by decide +kernel
theorem dX9_past_17 : decode cX9_past 17 = .ok (.ifCond .eq 14, 3) := by decide +kernel
theorem dX9_past_20 : decode cX9_past 20 = .ok (.iload_n 3, 1) := by decide +kernel
theorem dX9_past_21 : decode cX9_past 21 = .ok (.iload_n 2, 1) := by decide +kernel
theorem dX9_past_22 : decode cX9_past 22 = .ok (.sipush 2000, 3) := by decide +kernel
theorem dX9_past_25 : decode cX9_past 25 = .ok (.invokestatic 47, 3) := by decide +kernel
theorem dX9_past_28 : decode cX9_past 28 = .ok (.ifCond .ne 5, 3) := by decide +kernel
theorem dX9_past_31 : decode cX9_past 31 = .ok (.iconst (-1), 1) := by decide +kernel
theorem dX9_past_32 : decode cX9_past 32 = .ok (.ireturn, 1) := by decide +kernel
theorem dX9_past_33 : decode cX9_past 33 = .ok (.aload_n 0, 1) := by decide +kernel
theorem dX9_past_34 : decode cX9_past 34 = .ok (.getfield 19, 3) := by decide +kernel
theorem dX9_past_37 : decode cX9_past 37 = .ok (.bipush 7, 2) := by decide +kernel
theorem dX9_past_39 : decode cX9_past 39 = .ok (.iload_n 1, 1) := by decide +kernel
theorem dX9_past_40 : decode cX9_past 40 = .ok (.imul, 1) := by decide +kernel
theorem dX9_past_41 : decode cX9_past 41 = .ok (.iconst 5, 1) := by decide +kernel
theorem dX9_past_42 : decode cX9_past 42 = .ok (.iadd, 1) := by decide +kernel
theorem dX9_past_43 : decode cX9_past 43 = .ok (.iload_n 2, 1) := by decide +kernel
theorem dX9_past_44 : decode cX9_past 44 = .ok (.iastore, 1) := by decide +kernel
theorem dX9_past_45 : decode cX9_past 45 = .ok (.aload_n 0, 1) := by decide +kernel
theorem dX9_past_46 : decode cX9_past 46 = .ok (.getfield 19, 3) := by decide +kernel
theorem dX9_past_49 : decode cX9_past 49 = .ok (.bipush 7, 2) := by decide +kernel
theorem dX9_past_51 : decode cX9_past 51 = .ok (.iload_n 1, 1) := by decide +kernel
theorem dX9_past_52 : decode cX9_past 52 = .ok (.imul, 1) := by decide +kernel
theorem dX9_past_53 : decode cX9_past 53 = .ok (.bipush 6, 2) := by decide +kernel
theorem dX9_past_55 : decode cX9_past 55 = .ok (.iadd, 1) := by decide +kernel
theorem dX9_past_56 : decode cX9_past 56 = .ok (.iload_n 3, 1) := by decide +kernel
theorem dX9_past_57 : decode cX9_past 57 = .ok (.iastore, 1) := by decide +kernel
theorem dX9_past_58 : decode cX9_past 58 = .ok (.iconst 1, 1) := by decide +kernel
theorem dX9_past_59 : decode cX9_past 59 = .ok (.ireturn, 1) := by decide +kernel
theorem dX9_isHere_0 : decode cX9_isHere 0 = .ok (.aload_n 0, 1) := by decide +kernel
theorem dX9_isHere_1 : decode cX9_isHere 1 = .ok (.getfield 22, 3) := by decide +kernel
theorem dX9_isHere_4 : decode cX9_isHere 4 = .ok (.iconst 5, 1) := by decide +kernel
theorem dX9_isHere_5 : decode cX9_isHere 5 = .ok (.iload_n 1, 1) := by decide +kernel
theorem dX9_isHere_6 : decode cX9_isHere 6 = .ok (.imul, 1) := by decide +kernel
theorem dX9_isHere_7 : decode cX9_isHere 7 = .ok (.iaload, 1) := by decide +kernel
theorem dX9_isHere_8 : decode cX9_isHere 8 = .ok (.iload_n 2, 1) := by decide +kernel
theorem dX9_isHere_9 : decode cX9_isHere 9 = .ok (.if_icmp .ne 20, 3) := by decide +kernel
theorem dX9_isHere_12 : decode cX9_isHere 12 = .ok (.aload_n 0, 1) := by decide +kernel
theorem dX9_isHere_13 : decode cX9_isHere 13 = .ok (.getfield 22, 3) := by decide +kernel
theorem dX9_isHere_16 : decode cX9_isHere 16 = .ok (.iconst 5, 1) := by decide +kernel
theorem dX9_isHere_17 : decode cX9_isHere 17 = .ok (.iload_n 1, 1) := by decide +kernel
theorem dX9_isHere_18 : decode cX9_isHere 18 = .ok (.imul, 1) := by decide +kernel
theorem dX9_isHere_19 : decode cX9_isHere 19 = .ok (.iconst 4, 1) := by decide +kernel
theorem dX9_isHere_20 : decode cX9_isHere 20 = .ok (.iadd, 1) := by decide +kernel
theorem dX9_isHere_21 : decode cX9_isHere 21 = .ok (.iaload, 1) := by decide +kernel
theorem dX9_isHere_22 : decode cX9_isHere 22 = .ok (.ifCond .ne 7, 3) := by decide +kernel
theorem dX9_isHere_25 : decode cX9_isHere 25 = .ok (.iconst 1, 1) := by decide +kernel
theorem dX9_isHere_26 : decode cX9_isHere 26 = .ok (.goto 4, 3) := by decide +kernel
theorem dX9_isHere_29 : decode cX9_isHere 29 = .ok (.iconst 0, 1) := by decide +kernel
theorem dX9_isHere_30 : decode cX9_isHere 30 = .ok (.ireturn, 1) := by decide +kernel
theorem dX9_spends_0 : decode cX9_spends 0 = .ok (.aload_n 0, 1) := by decide +kernel
theorem dX9_spends_1 : decode cX9_spends 1 = .ok (.getfield 22, 3) := by decide +kernel
theorem dX9_spends_4 : decode cX9_spends 4 = .ok (.iconst 5, 1) := by decide +kernel
theorem dX9_spends_5 : decode cX9_spends 5 = .ok (.iload_n 1, 1) := by decide +kernel
theorem dX9_spends_6 : decode cX9_spends 6 = .ok (.imul, 1) := by decide +kernel
theorem dX9_spends_7 : decode cX9_spends 7 = .ok (.iconst 1, 1) := by decide +kernel
theorem dX9_spends_8 : decode cX9_spends 8 = .ok (.iadd, 1) := by decide +kernel
theorem dX9_spends_9 : decode cX9_spends 9 = .ok (.iaload, 1) := by decide +kernel
theorem dX9_spends_10 : decode cX9_spends 10 = .ok (.istore_n 3, 1) := by decide +kernel
theorem dX9_spends_11 : decode cX9_spends 11 = .ok (.iload_n 3, 1) := by decide +kernel
theorem dX9_spends_12 : decode cX9_spends 12 = .ok (.ifCond .ge 16, 3) := by decide +kernel
theorem dX9_spends_15 : decode cX9_spends 15 = .ok (.aload_n 0, 1) := by decide +kernel
theorem dX9_spends_16 : decode cX9_spends 16 = .ok (.getfield 22, 3) := by decide +kernel
theorem dX9_spends_19 : decode cX9_spends 19 = .ok (.iconst 5, 1) := by decide +kernel
theorem dX9_spends_20 : decode cX9_spends 20 = .ok (.iload_n 1, 1) := by decide +kernel
theorem dX9_spends_21 : decode cX9_spends 21 = .ok (.imul, 1) := by decide +kernel
theorem dX9_spends_22 : decode cX9_spends 22 = .ok (.iconst 3, 1) := by decide +kernel
theorem dX9_spends_23 : decode cX9_spends 23 = .ok (.iadd, 1) := by decide +kernel
theorem dX9_spends_24 : decode cX9_spends 24 = .ok (.iaload, 1) := by decide +kernel
theorem dX9_spends_25 : decode cX9_spends 25 = .ok (.goto 19, 3) := by decide +kernel
theorem dX9_spends_28 : decode cX9_spends 28 = .ok (.aload_n 0, 1) := by decide +kernel
theorem dX9_spends_29 : decode cX9_spends 29 = .ok (.iload_n 3, 1) := by decide +kernel
theorem dX9_spends_30 : decode cX9_spends 30 = .ok (.aload_n 0, 1) := by decide +kernel
theorem dX9_spends_31 : decode cX9_spends 31 = .ok (.getfield 22, 3) := by decide +kernel
theorem dX9_spends_34 : decode cX9_spends 34 = .ok (.iconst 5, 1) := by decide +kernel
theorem dX9_spends_35 : decode cX9_spends 35 = .ok (.iload_n 1, 1) := by decide +kernel
theorem dX9_spends_36 : decode cX9_spends 36 = .ok (.imul, 1) := by decide +kernel
theorem dX9_spends_37 : decode cX9_spends 37 = .ok (.iconst 2, 1) := by decide +kernel
theorem dX9_spends_38 : decode cX9_spends 38 = .ok (.iadd, 1) := by decide +kernel
theorem dX9_spends_39 : decode cX9_spends 39 = .ok (.iaload, 1) := by decide +kernel
theorem dX9_spends_40 : decode cX9_spends 40 = .ok (.iload_n 2, 1) := by decide +kernel
theorem dX9_spends_41 : decode cX9_spends 41 = .ok (.invokevirtual 63, 3) := by decide +kernel
theorem dX9_spends_44 : decode cX9_spends 44 = .ok (.ireturn, 1) := by decide +kernel
theorem dX9_booked_0 : decode cX9_booked 0 = .ok (.iconst 0, 1) := by decide +kernel
theorem dX9_booked_1 : decode cX9_booked 1 = .ok (.istore 4, 2) := by decide +kernel
theorem dX9_booked_3 : decode cX9_booked 3 = .ok (.iconst 0, 1) := by decide +kernel
theorem dX9_booked_4 : decode cX9_booked 4 = .ok (.istore 5, 2) := by decide +kernel
theorem dX9_booked_6 : decode cX9_booked 6 = .ok (.iload 5, 2) := by decide +kernel
theorem dX9_booked_8 : decode cX9_booked 8 = .ok (.aload_n 0, 1) := by decide +kernel
theorem dX9_booked_9 : decode cX9_booked 9 = .ok (.getfield 7, 3) := by decide +kernel
theorem dX9_booked_12 : decode cX9_booked 12 = .ok (.iconst 2, 1) := by decide +kernel
theorem dX9_booked_13 : decode cX9_booked 13 = .ok (.iaload, 1) := by decide +kernel
theorem dX9_booked_14 : decode cX9_booked 14 = .ok (.if_icmp .ge 50, 3) := by decide +kernel
theorem dX9_booked_17 : decode cX9_booked 17 = .ok (.iload 4, 2) := by decide +kernel
theorem dX9_booked_19 : decode cX9_booked 19 = .ok (.aload_n 0, 1) := by decide +kernel
theorem dX9_booked_20 : decode cX9_booked 20 = .ok (.iload 5, 2) := by decide +kernel
theorem dX9_booked_22 : decode cX9_booked 22 = .ok (.iload_n 1, 1) := by decide +kernel
theorem dX9_booked_23 : decode cX9_booked 23 = .ok (.invokevirtual 70, 3) := by decide +kernel
theorem dX9_booked_26 : decode cX9_booked 26 = .ok (.ifCond .eq 28, 3) := by decide +kernel
theorem dX9_booked_29 : decode cX9_booked 29 = .ok (.aload_n 0, 1) := by decide +kernel
theorem dX9_booked_30 : decode cX9_booked 30 = .ok (.getfield 22, 3) := by decide +kernel
theorem dX9_booked_33 : decode cX9_booked 33 = .ok (.iconst 5, 1) := by decide +kernel
theorem dX9_booked_34 : decode cX9_booked 34 = .ok (.iload 5, 2) := by decide +kernel
theorem dX9_booked_36 : decode cX9_booked 36 = .ok (.imul, 1) := by decide +kernel
theorem dX9_booked_37 : decode cX9_booked 37 = .ok (.iconst 2, 1) := by decide +kernel
theorem dX9_booked_38 : decode cX9_booked 38 = .ok (.iadd, 1) := by decide +kernel
theorem dX9_booked_39 : decode cX9_booked 39 = .ok (.iaload, 1) := by decide +kernel
theorem dX9_booked_40 : decode cX9_booked 40 = .ok (.iload_n 2, 1) := by decide +kernel
theorem dX9_booked_41 : decode cX9_booked 41 = .ok (.if_icmp .gt 13, 3) := by decide +kernel
theorem dX9_booked_44 : decode cX9_booked 44 = .ok (.aload_n 0, 1) := by decide +kernel
theorem dX9_booked_45 : decode cX9_booked 45 = .ok (.iload 5, 2) := by decide +kernel
theorem dX9_booked_47 : decode cX9_booked 47 = .ok (.iload_n 3, 1) := by decide +kernel
theorem dX9_booked_48 : decode cX9_booked 48 = .ok (.invokevirtual 73, 3) := by decide +kernel
theorem dX9_booked_51 : decode cX9_booked 51 = .ok (.goto 4, 3) := by decide +kernel
theorem dX9_booked_54 : decode cX9_booked 54 = .ok (.iconst 0, 1) := by decide +kernel
theorem dX9_booked_55 : decode cX9_booked 55 = .ok (.iadd, 1) := by decide +kernel
theorem dX9_booked_56 : decode cX9_booked 56 = .ok (.istore 4, 2) := by decide +kernel
theorem dX9_booked_58 : decode cX9_booked 58 = .ok (.iinc 5 1, 3) := by decide +kernel
theorem dX9_booked_61 : decode cX9_booked 61 = .ok (.goto (-55), 3) := by decide +kernel
theorem dX9_booked_64 : decode cX9_booked 64 = .ok (.iload 4, 2) := by decide +kernel
theorem dX9_booked_66 : decode cX9_booked 66 = .ok (.ireturn, 1) := by decide +kernel
theorem dX9_findPast_0 : decode cX9_findPast 0 = .ok (.aload_n 0, 1) := by decide +kernel
theorem dX9_findPast_1 : decode cX9_findPast 1 = .ok (.aload_n 0, 1) := by decide +kernel
theorem dX9_findPast_2 : decode cX9_findPast 2 = .ok (.getfield 19, 3) := by decide +kernel
theorem dX9_findPast_5 : decode cX9_findPast 5 = .ok (.bipush 7, 2) := by decide +kernel
theorem dX9_findPast_7 : decode cX9_findPast 7 = .ok (.iload_n 1, 1) := by decide +kernel
theorem dX9_findPast_8 : decode cX9_findPast 8 = .ok (.imul, 1) := by decide +kernel
theorem dX9_findPast_9 : decode cX9_findPast 9 = .ok (.iconst 5, 1) := by decide +kernel
theorem dX9_findPast_10 : decode cX9_findPast 10 = .ok (.iadd, 1) := by decide +kernel
theorem dX9_findPast_11 : decode cX9_findPast 11 = .ok (.iaload, 1) := by decide +kernel
theorem dX9_findPast_12 : decode cX9_findPast 12 = .ok (.putfield 77, 3) := by decide +kernel
theorem dX9_findPast_15 : decode cX9_findPast 15 = .ok (.aload_n 0, 1) := by decide +kernel
theorem dX9_findPast_16 : decode cX9_findPast 16 = .ok (.aload_n 0, 1) := by decide +kernel
theorem dX9_findPast_17 : decode cX9_findPast 17 = .ok (.getfield 19, 3) := by decide +kernel
theorem dX9_findPast_20 : decode cX9_findPast 20 = .ok (.bipush 7, 2) := by decide +kernel
theorem dX9_findPast_22 : decode cX9_findPast 22 = .ok (.iload_n 1, 1) := by decide +kernel
theorem dX9_findPast_23 : decode cX9_findPast 23 = .ok (.imul, 1) := by decide +kernel
theorem dX9_findPast_24 : decode cX9_findPast 24 = .ok (.bipush 6, 2) := by decide +kernel
theorem dX9_findPast_26 : decode cX9_findPast 26 = .ok (.iadd, 1) := by decide +kernel
theorem dX9_findPast_27 : decode cX9_findPast 27 = .ok (.iaload, 1) := by decide +kernel
theorem dX9_findPast_28 : decode cX9_findPast 28 = .ok (.putfield 81, 3) := by decide +kernel
theorem dX9_findPast_31 : decode cX9_findPast 31 = .ok (.iconst 0, 1) := by decide +kernel
theorem dX9_findPast_32 : decode cX9_findPast 32 = .ok (.istore_n 2, 1) := by decide +kernel
theorem dX9_findPast_33 : decode cX9_findPast 33 = .ok (.iload_n 2, 1) := by decide +kernel
theorem dX9_findPast_34 : decode cX9_findPast 34 = .ok (.aload_n 0, 1) := by decide +kernel
theorem dX9_findPast_35 : decode cX9_findPast 35 = .ok (.getfield 7, 3) := by decide +kernel
theorem dX9_findPast_38 : decode cX9_findPast 38 = .ok (.iconst 3, 1) := by decide +kernel
theorem dX9_findPast_39 : decode cX9_findPast 39 = .ok (.iaload, 1) := by decide +kernel
theorem dX9_findPast_40 : decode cX9_findPast 40 = .ok (.if_icmp .ge 126, 3) := by decide +kernel
theorem dX9_findPast_43 : decode cX9_findPast 43 = .ok (.aload_n 0, 1) := by decide +kernel
theorem dX9_findPast_44 : decode cX9_findPast 44 = .ok (.getfield 25, 3) := by decide +kernel
theorem dX9_findPast_47 : decode cX9_findPast 47 = .ok (.iconst 3, 1) := by decide +kernel
theorem dX9_findPast_48 : decode cX9_findPast 48 = .ok (.iload_n 2, 1) := by decide +kernel
theorem dX9_findPast_49 : decode cX9_findPast 49 = .ok (.imul, 1) := by decide +kernel
theorem dX9_findPast_50 : decode cX9_findPast 50 = .ok (.iaload, 1) := by decide +kernel
theorem dX9_findPast_51 : decode cX9_findPast 51 = .ok (.iload_n 1, 1) := by decide +kernel
theorem dX9_findPast_52 : decode cX9_findPast 52 = .ok (.if_icmp .ne 108, 3) := by decide +kernel
theorem dX9_findPast_55 : decode cX9_findPast 55 = .ok (.aload_n 0, 1) := by decide +kernel
theorem dX9_findPast_56 : decode cX9_findPast 56 = .ok (.getfield 25, 3) := by decide +kernel
theorem dX9_findPast_59 : decode cX9_findPast 59 = .ok (.iconst 3, 1) := by decide +kernel
theorem dX9_findPast_60 : decode cX9_findPast 60 = .ok (.iload_n 2, 1) := by decide +kernel
theorem dX9_findPast_61 : decode cX9_findPast 61 = .ok (.imul, 1) := by decide +kernel
theorem dX9_findPast_62 : decode cX9_findPast 62 = .ok (.iconst 1, 1) := by decide +kernel
theorem dX9_findPast_63 : decode cX9_findPast 63 = .ok (.iadd, 1) := by decide +kernel
theorem dX9_findPast_64 : decode cX9_findPast 64 = .ok (.iaload, 1) := by decide +kernel
theorem dX9_findPast_65 : decode cX9_findPast 65 = .ok (.istore_n 3, 1) := by decide +kernel
theorem dX9_findPast_66 : decode cX9_findPast 66 = .ok (.aload_n 0, 1) := by decide +kernel
theorem dX9_findPast_67 : decode cX9_findPast 67 = .ok (.getfield 25, 3) := by decide +kernel
theorem dX9_findPast_70 : decode cX9_findPast 70 = .ok (.iconst 3, 1) := by decide +kernel
theorem dX9_findPast_71 : decode cX9_findPast 71 = .ok (.iload_n 2, 1) := by decide +kernel
theorem dX9_findPast_72 : decode cX9_findPast 72 = .ok (.imul, 1) := by decide +kernel
theorem dX9_findPast_73 : decode cX9_findPast 73 = .ok (.iconst 2, 1) := by decide +kernel
theorem dX9_findPast_74 : decode cX9_findPast 74 = .ok (.iadd, 1) := by decide +kernel
theorem dX9_findPast_75 : decode cX9_findPast 75 = .ok (.iaload, 1) := by decide +kernel
theorem dX9_findPast_76 : decode cX9_findPast 76 = .ok (.istore 4, 2) := by decide +kernel
theorem dX9_findPast_78 : decode cX9_findPast 78 = .ok (.aload_n 0, 1) := by decide +kernel
theorem dX9_findPast_79 : decode cX9_findPast 79 = .ok (.getfield 32, 3) := by decide +kernel
theorem dX9_findPast_82 : decode cX9_findPast 82 = .ok (.iload 4, 2) := by decide +kernel
theorem dX9_findPast_84 : decode cX9_findPast 84 = .ok (.iaload, 1) := by decide +kernel
theorem dX9_findPast_85 : decode cX9_findPast 85 = .ok (.aload_n 0, 1) := by decide +kernel
theorem dX9_findPast_86 : decode cX9_findPast 86 = .ok (.iload_n 1, 1) := by decide +kernel
theorem dX9_findPast_87 : decode cX9_findPast 87 = .ok (.iload_n 3, 1) := by decide +kernel
theorem dX9_findPast_88 : decode cX9_findPast 88 = .ok (.iconst 1, 1) := by decide +kernel
theorem dX9_findPast_89 : decode cX9_findPast 89 = .ok (.invokevirtual 84, 3) := by decide +kernel
theorem dX9_findPast_92 : decode cX9_findPast 92 = .ok (.isub, 1) := by decide +kernel
theorem dX9_findPast_93 : decode cX9_findPast 93 = .ok (.istore 5, 2) := by decide +kernel
theorem dX9_findPast_95 : decode cX9_findPast 95 = .ok (.aload_n 0, 1) := by decide +kernel
theorem dX9_findPast_96 : decode cX9_findPast 96 = .ok (.getfield 32, 3) := by decide +kernel
theorem dX9_findPast_99 : decode cX9_findPast 99 = .ok (.iload 4, 2) := by decide +kernel
theorem dX9_findPast_101 : decode cX9_findPast 101 = .ok (.iconst 1, 1) := by decide +kernel
theorem dX9_findPast_102 : decode cX9_findPast 102 = .ok (.iadd, 1) := by decide +kernel
theorem dX9_findPast_103 : decode cX9_findPast 103 = .ok (.iaload, 1) := by decide +kernel
theorem dX9_findPast_104 : decode cX9_findPast 104 = .ok (.iconst 1, 1) := by decide +kernel
theorem dX9_findPast_105 : decode cX9_findPast 105 = .ok (.isub, 1) := by decide +kernel
theorem dX9_findPast_106 : decode cX9_findPast 106 = .ok (.aload_n 0, 1) := by decide +kernel
theorem dX9_findPast_107 : decode cX9_findPast 107 = .ok (.iload_n 1, 1) := by decide +kernel
theorem dX9_findPast_108 : decode cX9_findPast 108 = .ok (.iload_n 3, 1) := by decide +kernel
theorem dX9_findPast_109 : decode cX9_findPast 109 = .ok (.iconst 0, 1) := by decide +kernel
theorem dX9_findPast_110 : decode cX9_findPast 110 = .ok (.invokevirtual 84, 3) := by decide +kernel
theorem dX9_findPast_113 : decode cX9_findPast 113 = .ok (.isub, 1) := by decide +kernel
theorem dX9_findPast_114 : decode cX9_findPast 114 = .ok (.istore 6, 2) := by decide +kernel
theorem dX9_findPast_116 : decode cX9_findPast 116 = .ok (.aload_n 0, 1) := by decide +kernel
theorem dX9_findPast_117 : decode cX9_findPast 117 = .ok (.iload 5, 2) := by decide +kernel
theorem dX9_findPast_119 : decode cX9_findPast 119 = .ok (.aload_n 0, 1) := by decide +kernel
theorem dX9_findPast_120 : decode cX9_findPast 120 = .ok (.getfield 77, 3) := by decide +kernel
theorem dX9_findPast_123 : decode cX9_findPast 123 = .ok (.if_icmp .le 8, 3) := by decide +kernel
theorem dX9_findPast_126 : decode cX9_findPast 126 = .ok (.iload 5, 2) := by decide +kernel
theorem dX9_findPast_128 : decode cX9_findPast 128 = .ok (.goto 7, 3) := by decide +kernel
theorem dX9_findPast_131 : decode cX9_findPast 131 = .ok (.aload_n 0, 1) := by decide +kernel
theorem dX9_findPast_132 : decode cX9_findPast 132 = .ok (.getfield 77, 3) := by decide +kernel
theorem dX9_findPast_135 : decode cX9_findPast 135 = .ok (.putfield 77, 3) := by decide +kernel
theorem dX9_findPast_138 : decode cX9_findPast 138 = .ok (.aload_n 0, 1) := by decide +kernel
theorem dX9_findPast_139 : decode cX9_findPast 139 = .ok (.iload 6, 2) := by decide +kernel
theorem dX9_findPast_141 : decode cX9_findPast 141 = .ok (.aload_n 0, 1) := by decide +kernel
theorem dX9_findPast_142 : decode cX9_findPast 142 = .ok (.getfield 81, 3) := by decide +kernel
theorem dX9_findPast_145 : decode cX9_findPast 145 = .ok (.if_icmp .ge 8, 3) := by decide +kernel
theorem dX9_findPast_148 : decode cX9_findPast 148 = .ok (.iload 6, 2) := by decide +kernel
theorem dX9_findPast_150 : decode cX9_findPast 150 = .ok (.goto 7, 3) := by decide +kernel
theorem dX9_findPast_153 : decode cX9_findPast 153 = .ok (.aload_n 0, 1) := by decide +kernel
theorem dX9_findPast_154 : decode cX9_findPast 154 = .ok (.getfield 81, 3) := by decide +kernel
theorem dX9_findPast_157 : decode cX9_findPast 157 = .ok (.putfield 81, 3) := by decide +kernel
theorem dX9_findPast_160 : decode cX9_findPast 160 = .ok (.iinc 2 1, 3) := by decide +kernel
theorem dX9_findPast_163 : decode cX9_findPast 163 = .ok (.goto (-130), 3) := by decide +kernel
theorem dX9_findPast_166 : decode cX9_findPast 166 = .ok (.aload_n 0, 1) := by decide +kernel
theorem dX9_findPast_167 : decode cX9_findPast 167 = .ok (.aload_n 0, 1) := by decide +kernel
theorem dX9_findPast_168 : decode cX9_findPast 168 = .ok (.getfield 77, 3) := by decide +kernel
theorem dX9_findPast_171 : decode cX9_findPast 171 = .ok (.aload_n 0, 1) := by decide +kernel
theorem dX9_findPast_172 : decode cX9_findPast 172 = .ok (.getfield 81, 3) := by decide +kernel
theorem dX9_findPast_175 : decode cX9_findPast 175 = .ok (.if_icmp .le 7, 3) := by decide +kernel
theorem dX9_findPast_178 : decode cX9_findPast 178 = .ok (.iconst 1, 1) := by decide +kernel
theorem dX9_findPast_179 : decode cX9_findPast 179 = .ok (.goto 4, 3) := by decide +kernel
theorem dX9_findPast_182 : decode cX9_findPast 182 = .ok (.iconst 0, 1) := by decide +kernel
theorem dX9_findPast_183 : decode cX9_findPast 183 = .ok (.putfield 87, 3) := by decide +kernel
theorem dX9_findPast_186 : decode cX9_findPast 186 = .ok (.aload_n 0, 1) := by decide +kernel
theorem dX9_findPast_187 : decode cX9_findPast 187 = .ok (.getfield 87, 3) := by decide +kernel
theorem dX9_findPast_190 : decode cX9_findPast 190 = .ok (.ifCond .eq 34, 3) := by decide +kernel
theorem dX9_findPast_193 : decode cX9_findPast 193 = .ok (.aload_n 0, 1) := by decide +kernel
theorem dX9_findPast_194 : decode cX9_findPast 194 = .ok (.aload_n 0, 1) := by decide +kernel
theorem dX9_findPast_195 : decode cX9_findPast 195 = .ok (.getfield 19, 3) := by decide +kernel
theorem dX9_findPast_198 : decode cX9_findPast 198 = .ok (.bipush 7, 2) := by decide +kernel
theorem dX9_findPast_200 : decode cX9_findPast 200 = .ok (.iload_n 1, 1) := by decide +kernel
theorem dX9_findPast_201 : decode cX9_findPast 201 = .ok (.imul, 1) := by decide +kernel
theorem dX9_findPast_202 : decode cX9_findPast 202 = .ok (.iconst 5, 1) := by decide +kernel
theorem dX9_findPast_203 : decode cX9_findPast 203 = .ok (.iadd, 1) := by decide +kernel
theorem dX9_findPast_204 : decode cX9_findPast 204 = .ok (.iaload, 1) := by decide +kernel
theorem dX9_findPast_205 : decode cX9_findPast 205 = .ok (.putfield 77, 3) := by decide +kernel
theorem dX9_findPast_208 : decode cX9_findPast 208 = .ok (.aload_n 0, 1) := by decide +kernel
theorem dX9_findPast_209 : decode cX9_findPast 209 = .ok (.aload_n 0, 1) := by decide +kernel
theorem dX9_findPast_210 : decode cX9_findPast 210 = .ok (.getfield 19, 3) := by decide +kernel
theorem dX9_findPast_213 : decode cX9_findPast 213 = .ok (.bipush 7, 2) := by decide +kernel
theorem dX9_findPast_215 : decode cX9_findPast 215 = .ok (.iload_n 1, 1) := by decide +kernel
theorem dX9_findPast_216 : decode cX9_findPast 216 = .ok (.imul, 1) := by decide +kernel
theorem dX9_findPast_217 : decode cX9_findPast 217 = .ok (.bipush 6, 2) := by decide +kernel
theorem dX9_findPast_219 : decode cX9_findPast 219 = .ok (.iadd, 1) := by decide +kernel
theorem dX9_findPast_220 : decode cX9_findPast 220 = .ok (.iaload, 1) := by decide +kernel
theorem dX9_findPast_221 : decode cX9_findPast 221 = .ok (.putfield 81, 3) := by decide +kernel
theorem dX9_findPast_224 : decode cX9_findPast 224 = .ok (.return_, 1) := by decide +kernel
theorem dX9_spentOf_0 : decode cX9_spentOf 0 = .ok (.aload_n 0, 1) := by decide +kernel
theorem dX9_spentOf_1 : decode cX9_spentOf 1 = .ok (.iload_n 1, 1) := by decide +kernel
theorem dX9_spentOf_2 : decode cX9_spentOf 2 = .ok (.invokevirtual 91, 3) := by decide +kernel
theorem dX9_spentOf_5 : decode cX9_spentOf 5 = .ok (.iload_n 3, 1) := by decide +kernel
theorem dX9_spentOf_6 : decode cX9_spentOf 6 = .ok (.ifCond .eq 10, 3) := by decide +kernel
theorem dX9_spentOf_9 : decode cX9_spentOf 9 = .ok (.aload_n 0, 1) := by decide +kernel
theorem dX9_spentOf_10 : decode cX9_spentOf 10 = .ok (.getfield 81, 3) := by decide +kernel
theorem dX9_spentOf_13 : decode cX9_spentOf 13 = .ok (.goto 7, 3) := by decide +kernel
theorem dX9_spentOf_16 : decode cX9_spentOf 16 = .ok (.aload_n 0, 1) := by decide +kernel
theorem dX9_spentOf_17 : decode cX9_spentOf 17 = .ok (.getfield 77, 3) := by decide +kernel
theorem dX9_spentOf_20 : decode cX9_spentOf 20 = .ok (.aload_n 0, 1) := by decide +kernel
theorem dX9_spentOf_21 : decode cX9_spentOf 21 = .ok (.iload_n 1, 1) := by decide +kernel
theorem dX9_spentOf_22 : decode cX9_spentOf 22 = .ok (.iload_n 2, 1) := by decide +kernel
theorem dX9_spentOf_23 : decode cX9_spentOf 23 = .ok (.iload_n 3, 1) := by decide +kernel
theorem dX9_spentOf_24 : decode cX9_spentOf 24 = .ok (.invokevirtual 84, 3) := by decide +kernel
theorem dX9_spentOf_27 : decode cX9_spentOf 27 = .ok (.iadd, 1) := by decide +kernel
theorem dX9_spentOf_28 : decode cX9_spentOf 28 = .ok (.ireturn, 1) := by decide +kernel
theorem dX9_leastLeft_0 : decode cX9_leastLeft 0 = .ok (.aload_n 0, 1) := by decide +kernel
theorem dX9_leastLeft_1 : decode cX9_leastLeft 1 = .ok (.getfield 19, 3) := by decide +kernel
theorem dX9_leastLeft_4 : decode cX9_leastLeft 4 = .ok (.bipush 7, 2) := by decide +kernel
theorem dX9_leastLeft_6 : decode cX9_leastLeft 6 = .ok (.iload_n 1, 1) := by decide +kernel
theorem dX9_leastLeft_7 : decode cX9_leastLeft 7 = .ok (.imul, 1) := by decide +kernel
theorem dX9_leastLeft_8 : decode cX9_leastLeft 8 = .ok (.iaload, 1) := by decide +kernel
theorem dX9_leastLeft_9 : decode cX9_leastLeft 9 = .ok (.aload_n 0, 1) := by decide +kernel
theorem dX9_leastLeft_10 : decode cX9_leastLeft 10 = .ok (.iload_n 1, 1) := by decide +kernel
theorem dX9_leastLeft_11 : decode cX9_leastLeft 11 = .ok (.bipush 9, 2) := by decide +kernel
theorem dX9_leastLeft_13 : decode cX9_leastLeft 13 = .ok (.iconst 1, 1) := by decide +kernel
theorem dX9_leastLeft_14 : decode cX9_leastLeft 14 = .ok (.invokevirtual 95, 3) := by decide +kernel
theorem dX9_leastLeft_17 : decode cX9_leastLeft 17 = .ok (.isub, 1) := by decide +kernel
theorem dX9_leastLeft_18 : decode cX9_leastLeft 18 = .ok (.ireturn, 1) := by decide +kernel
theorem dX9_bookedMany_0 : decode cX9_bookedMany 0 = .ok (.iconst 0, 1) := by decide +kernel
theorem dX9_bookedMany_1 : decode cX9_bookedMany 1 = .ok (.istore_n 2, 1) := by decide +kernel
theorem dX9_bookedMany_2 : decode cX9_bookedMany 2 = .ok (.iconst 0, 1) := by decide +kernel
theorem dX9_bookedMany_3 : decode cX9_bookedMany 3 = .ok (.istore_n 3, 1) := by decide +kernel
theorem dX9_bookedMany_4 : decode cX9_bookedMany 4 = .ok (.iload_n 3, 1) := by decide +kernel
theorem dX9_bookedMany_5 : decode cX9_bookedMany 5 = .ok (.aload_n 0, 1) := by decide +kernel
theorem dX9_bookedMany_6 : decode cX9_bookedMany 6 = .ok (.getfield 7, 3) := by decide +kernel
theorem dX9_bookedMany_9 : decode cX9_bookedMany 9 = .ok (.iconst 2, 1) := by decide +kernel
theorem dX9_bookedMany_10 : decode cX9_bookedMany 10 = .ok (.iaload, 1) := by decide +kernel
theorem dX9_bookedMany_11 : decode cX9_bookedMany 11 = .ok (.if_icmp .ge 26, 3) := by decide +kernel
theorem dX9_bookedMany_14 : decode cX9_bookedMany 14 = .ok (.iload_n 2, 1) := by decide +kernel
theorem dX9_bookedMany_15 : decode cX9_bookedMany 15 = .ok (.aload_n 0, 1) := by decide +kernel
theorem dX9_bookedMany_16 : decode cX9_bookedMany 16 = .ok (.iload_n 3, 1) := by decide +kernel
theorem dX9_bookedMany_17 : decode cX9_bookedMany 17 = .ok (.iload_n 1, 1) := by decide +kernel
theorem dX9_bookedMany_18 : decode cX9_bookedMany 18 = .ok (.invokevirtual 70, 3) := by decide +kernel
theorem dX9_bookedMany_21 : decode cX9_bookedMany 21 = .ok (.ifCond .eq 7, 3) := by decide +kernel
theorem dX9_bookedMany_24 : decode cX9_bookedMany 24 = .ok (.iconst 1, 1) := by decide +kernel
theorem dX9_bookedMany_25 : decode cX9_bookedMany 25 = .ok (.goto 4, 3) := by decide +kernel
theorem dX9_bookedMany_28 : decode cX9_bookedMany 28 = .ok (.iconst 0, 1) := by decide +kernel
theorem dX9_bookedMany_29 : decode cX9_bookedMany 29 = .ok (.iadd, 1) := by decide +kernel
theorem dX9_bookedMany_30 : decode cX9_bookedMany 30 = .ok (.istore_n 2, 1) := by decide +kernel
theorem dX9_bookedMany_31 : decode cX9_bookedMany 31 = .ok (.iinc 3 1, 3) := by decide +kernel
theorem dX9_bookedMany_34 : decode cX9_bookedMany 34 = .ok (.goto (-30), 3) := by decide +kernel
theorem dX9_bookedMany_37 : decode cX9_bookedMany 37 = .ok (.iload_n 2, 1) := by decide +kernel
theorem dX9_bookedMany_38 : decode cX9_bookedMany 38 = .ok (.ireturn, 1) := by decide +kernel
theorem dX9_threadMany_0 : decode cX9_threadMany 0 = .ok (.iconst 0, 1) := by decide +kernel
theorem dX9_threadMany_1 : decode cX9_threadMany 1 = .ok (.istore_n 2, 1) := by decide +kernel
theorem dX9_threadMany_2 : decode cX9_threadMany 2 = .ok (.iconst 0, 1) := by decide +kernel
theorem dX9_threadMany_3 : decode cX9_threadMany 3 = .ok (.istore_n 3, 1) := by decide +kernel
theorem dX9_threadMany_4 : decode cX9_threadMany 4 = .ok (.iload_n 3, 1) := by decide +kernel
theorem dX9_threadMany_5 : decode cX9_threadMany 5 = .ok (.aload_n 0, 1) := by decide +kernel
theorem dX9_threadMany_6 : decode cX9_threadMany 6 = .ok (.getfield 7, 3) := by decide +kernel
theorem dX9_threadMany_9 : decode cX9_threadMany 9 = .ok (.iconst 3, 1) := by decide +kernel
theorem dX9_threadMany_10 : decode cX9_threadMany 10 = .ok (.iaload, 1) := by decide +kernel
theorem dX9_threadMany_11 : decode cX9_threadMany 11 = .ok (.if_icmp .ge 29, 3) := by decide +kernel
theorem dX9_threadMany_14 : decode cX9_threadMany 14 = .ok (.iload_n 2, 1) := by decide +kernel
theorem dX9_threadMany_15 : decode cX9_threadMany 15 = .ok (.aload_n 0, 1) := by decide +kernel
theorem dX9_threadMany_16 : decode cX9_threadMany 16 = .ok (.getfield 25, 3) := by decide +kernel
theorem dX9_threadMany_19 : decode cX9_threadMany 19 = .ok (.iconst 3, 1) := by decide +kernel
theorem dX9_threadMany_20 : decode cX9_threadMany 20 = .ok (.iload_n 3, 1) := by decide +kernel
theorem dX9_threadMany_21 : decode cX9_threadMany 21 = .ok (.imul, 1) := by decide +kernel
theorem dX9_threadMany_22 : decode cX9_threadMany 22 = .ok (.iaload, 1) := by decide +kernel
theorem dX9_threadMany_23 : decode cX9_threadMany 23 = .ok (.iload_n 1, 1) := by decide +kernel
theorem dX9_threadMany_24 : decode cX9_threadMany 24 = .ok (.if_icmp .ne 7, 3) := by decide +kernel
theorem dX9_threadMany_27 : decode cX9_threadMany 27 = .ok (.iconst 1, 1) := by decide +kernel
theorem dX9_threadMany_28 : decode cX9_threadMany 28 = .ok (.goto 4, 3) := by decide +kernel
theorem dX9_threadMany_31 : decode cX9_threadMany 31 = .ok (.iconst 0, 1) := by decide +kernel
theorem dX9_threadMany_32 : decode cX9_threadMany 32 = .ok (.iadd, 1) := by decide +kernel
theorem dX9_threadMany_33 : decode cX9_threadMany 33 = .ok (.istore_n 2, 1) := by decide +kernel
theorem dX9_threadMany_34 : decode cX9_threadMany 34 = .ok (.iinc 3 1, 3) := by decide +kernel
theorem dX9_threadMany_37 : decode cX9_threadMany 37 = .ok (.goto (-33), 3) := by decide +kernel
theorem dX9_threadMany_40 : decode cX9_threadMany 40 = .ok (.iload_n 2, 1) := by decide +kernel
theorem dX9_threadMany_41 : decode cX9_threadMany 41 = .ok (.ireturn, 1) := by decide +kernel
theorem dX9_of_0 : decode cX9_of 0 = .ok (.aload_n 0, 1) := by decide +kernel
theorem dX9_of_1 : decode cX9_of 1 = .ok (.iconst 1, 1) := by decide +kernel
theorem dX9_of_2 : decode cX9_of 2 = .ok (.iload_n 1, 1) := by decide +kernel
theorem dX9_of_3 : decode cX9_of 3 = .ok (.invokevirtual 55, 3) := by decide +kernel
theorem dX9_of_6 : decode cX9_of 6 = .ok (.ifCond .eq 13, 3) := by decide +kernel
theorem dX9_of_9 : decode cX9_of 9 = .ok (.iload_n 2, 1) := by decide +kernel
theorem dX9_of_10 : decode cX9_of 10 = .ok (.iconst 0, 1) := by decide +kernel
theorem dX9_of_11 : decode cX9_of 11 = .ok (.bipush 7, 2) := by decide +kernel
theorem dX9_of_13 : decode cX9_of 13 = .ok (.invokestatic 47, 3) := by decide +kernel
theorem dX9_of_16 : decode cX9_of 16 = .ok (.ifCond .ne 5, 3) := by decide +kernel
theorem dX9_of_19 : decode cX9_of 19 = .ok (.iconst (-1), 1) := by decide +kernel
theorem dX9_of_20 : decode cX9_of 20 = .ok (.ireturn, 1) := by decide +kernel
theorem dX9_of_21 : decode cX9_of 21 = .ok (.iload_n 2, 1) := by decide +kernel
theorem dX9_of_22 : decode cX9_of 22 = .ok (.iconst 4, 1) := by decide +kernel
theorem dX9_of_23 : decode cX9_of 23 = .ok (.if_icmp .ge 15, 3) := by decide +kernel
theorem dX9_of_26 : decode cX9_of 26 = .ok (.aload_n 0, 1) := by decide +kernel
theorem dX9_of_27 : decode cX9_of 27 = .ok (.getfield 19, 3) := by decide +kernel
theorem dX9_of_30 : decode cX9_of 30 = .ok (.bipush 7, 2) := by decide +kernel
theorem dX9_of_32 : decode cX9_of 32 = .ok (.iload_n 1, 1) := by decide +kernel
theorem dX9_of_33 : decode cX9_of 33 = .ok (.imul, 1) := by decide +kernel
theorem dX9_of_34 : decode cX9_of 34 = .ok (.iload_n 2, 1) := by decide +kernel
theorem dX9_of_35 : decode cX9_of 35 = .ok (.iadd, 1) := by decide +kernel
theorem dX9_of_36 : decode cX9_of 36 = .ok (.iaload, 1) := by decide +kernel
theorem dX9_of_37 : decode cX9_of 37 = .ok (.ireturn, 1) := by decide +kernel
theorem dX9_of_38 : decode cX9_of 38 = .ok (.iload_n 2, 1) := by decide +kernel
theorem dX9_of_39 : decode cX9_of 39 = .ok (.tableswitch 68 4 6 #[25, 44, 62], 25) := by decide +kernel
theorem dX9_of_64 : decode cX9_of 64 = .ok (.aload_n 0, 1) := by decide +kernel
theorem dX9_of_65 : decode cX9_of 65 = .ok (.iload_n 1, 1) := by decide +kernel
theorem dX9_of_66 : decode cX9_of 66 = .ok (.invokevirtual 67, 3) := by decide +kernel
theorem dX9_of_69 : decode cX9_of 69 = .ok (.ifCond .ge 8, 3) := by decide +kernel
theorem dX9_of_72 : decode cX9_of 72 = .ok (.bipush (-4), 2) := by decide +kernel
theorem dX9_of_74 : decode cX9_of 74 = .ok (.goto 8, 3) := by decide +kernel
theorem dX9_of_77 : decode cX9_of 77 = .ok (.aload_n 0, 1) := by decide +kernel
theorem dX9_of_78 : decode cX9_of 78 = .ok (.iload_n 1, 1) := by decide +kernel
theorem dX9_of_79 : decode cX9_of 79 = .ok (.invokevirtual 67, 3) := by decide +kernel
theorem dX9_of_82 : decode cX9_of 82 = .ok (.ireturn, 1) := by decide +kernel
theorem dX9_of_83 : decode cX9_of 83 = .ok (.aload_n 0, 1) := by decide +kernel
theorem dX9_of_84 : decode cX9_of 84 = .ok (.iload_n 1, 1) := by decide +kernel
theorem dX9_of_85 : decode cX9_of 85 = .ok (.invokevirtual 91, 3) := by decide +kernel
theorem dX9_of_88 : decode cX9_of 88 = .ok (.aload_n 0, 1) := by decide +kernel
theorem dX9_of_89 : decode cX9_of 89 = .ok (.getfield 87, 3) := by decide +kernel
theorem dX9_of_92 : decode cX9_of 92 = .ok (.ifCond .eq 7, 3) := by decide +kernel
theorem dX9_of_95 : decode cX9_of 95 = .ok (.iconst 1, 1) := by decide +kernel
theorem dX9_of_96 : decode cX9_of 96 = .ok (.goto 4, 3) := by decide +kernel
theorem dX9_of_99 : decode cX9_of 99 = .ok (.iconst 0, 1) := by decide +kernel
theorem dX9_of_100 : decode cX9_of 100 = .ok (.ireturn, 1) := by decide +kernel
theorem dX9_of_101 : decode cX9_of 101 = .ok (.aload_n 0, 1) := by decide +kernel
theorem dX9_of_102 : decode cX9_of 102 = .ok (.iload_n 1, 1) := by decide +kernel
theorem dX9_of_103 : decode cX9_of 103 = .ok (.invokevirtual 98, 3) := by decide +kernel
theorem dX9_of_106 : decode cX9_of 106 = .ok (.ireturn, 1) := by decide +kernel
theorem dX9_of_107 : decode cX9_of 107 = .ok (.aload_n 0, 1) := by decide +kernel
theorem dX9_of_108 : decode cX9_of 108 = .ok (.iload_n 1, 1) := by decide +kernel
theorem dX9_of_109 : decode cX9_of 109 = .ok (.invokevirtual 101, 3) := by decide +kernel
theorem dX9_of_112 : decode cX9_of 112 = .ok (.ireturn, 1) := by decide +kernel
theorem dX9_books_0 : decode cX9_books 0 = .ok (.iconst 5, 1) := by decide +kernel
theorem dX9_books_1 : decode cX9_books 1 = .ok (.aload_n 0, 1) := by decide +kernel
theorem dX9_books_2 : decode cX9_books 2 = .ok (.getfield 7, 3) := by decide +kernel
theorem dX9_books_5 : decode cX9_books 5 = .ok (.iconst 2, 1) := by decide +kernel
theorem dX9_books_6 : decode cX9_books 6 = .ok (.iaload, 1) := by decide +kernel
theorem dX9_books_7 : decode cX9_books 7 = .ok (.imul, 1) := by decide +kernel
theorem dX9_books_8 : decode cX9_books 8 = .ok (.istore 5, 2) := by decide +kernel
theorem dX9_books_10 : decode cX9_books 10 = .ok (.aload_n 0, 1) := by decide +kernel
theorem dX9_books_11 : decode cX9_books 11 = .ok (.getfield 22, 3) := by decide +kernel
theorem dX9_books_14 : decode cX9_books 14 = .ok (.iload 5, 2) := by decide +kernel
theorem dX9_books_16 : decode cX9_books 16 = .ok (.iload_n 1, 1) := by decide +kernel
theorem dX9_books_17 : decode cX9_books 17 = .ok (.iastore, 1) := by decide +kernel
theorem dX9_books_18 : decode cX9_books 18 = .ok (.aload_n 0, 1) := by decide +kernel
theorem dX9_books_19 : decode cX9_books 19 = .ok (.getfield 22, 3) := by decide +kernel
theorem dX9_books_22 : decode cX9_books 22 = .ok (.iload 5, 2) := by decide +kernel
theorem dX9_books_24 : decode cX9_books 24 = .ok (.iconst 1, 1) := by decide +kernel
theorem dX9_books_25 : decode cX9_books 25 = .ok (.iadd, 1) := by decide +kernel
theorem dX9_books_26 : decode cX9_books 26 = .ok (.iload_n 2, 1) := by decide +kernel
theorem dX9_books_27 : decode cX9_books 27 = .ok (.iastore, 1) := by decide +kernel
theorem dX9_books_28 : decode cX9_books 28 = .ok (.aload_n 0, 1) := by decide +kernel
theorem dX9_books_29 : decode cX9_books 29 = .ok (.getfield 22, 3) := by decide +kernel
theorem dX9_books_32 : decode cX9_books 32 = .ok (.iload 5, 2) := by decide +kernel
theorem dX9_books_34 : decode cX9_books 34 = .ok (.iconst 2, 1) := by decide +kernel
theorem dX9_books_35 : decode cX9_books 35 = .ok (.iadd, 1) := by decide +kernel
theorem dX9_books_36 : decode cX9_books 36 = .ok (.iload_n 3, 1) := by decide +kernel
theorem dX9_books_37 : decode cX9_books 37 = .ok (.iastore, 1) := by decide +kernel
theorem dX9_books_38 : decode cX9_books 38 = .ok (.aload_n 0, 1) := by decide +kernel
theorem dX9_books_39 : decode cX9_books 39 = .ok (.getfield 22, 3) := by decide +kernel
theorem dX9_books_42 : decode cX9_books 42 = .ok (.iload 5, 2) := by decide +kernel
theorem dX9_books_44 : decode cX9_books 44 = .ok (.iconst 3, 1) := by decide +kernel
theorem dX9_books_45 : decode cX9_books 45 = .ok (.iadd, 1) := by decide +kernel
theorem dX9_books_46 : decode cX9_books 46 = .ok (.iload 4, 2) := by decide +kernel
theorem dX9_books_48 : decode cX9_books 48 = .ok (.iastore, 1) := by decide +kernel
theorem dX9_books_49 : decode cX9_books 49 = .ok (.aload_n 0, 1) := by decide +kernel
theorem dX9_books_50 : decode cX9_books 50 = .ok (.getfield 22, 3) := by decide +kernel
theorem dX9_books_53 : decode cX9_books 53 = .ok (.iload 5, 2) := by decide +kernel
theorem dX9_books_55 : decode cX9_books 55 = .ok (.iconst 4, 1) := by decide +kernel
theorem dX9_books_56 : decode cX9_books 56 = .ok (.iadd, 1) := by decide +kernel
theorem dX9_books_57 : decode cX9_books 57 = .ok (.iconst 0, 1) := by decide +kernel
theorem dX9_books_58 : decode cX9_books 58 = .ok (.iastore, 1) := by decide +kernel
theorem dX9_books_59 : decode cX9_books 59 = .ok (.aload_n 0, 1) := by decide +kernel
theorem dX9_books_60 : decode cX9_books 60 = .ok (.iconst 2, 1) := by decide +kernel
theorem dX9_books_61 : decode cX9_books 61 = .ok (.invokevirtual 51, 3) := by decide +kernel
theorem dX9_books_64 : decode cX9_books 64 = .ok (.ireturn, 1) := by decide +kernel
theorem dX9_isShown_0 : decode cX9_isShown 0 = .ok (.iconst 0, 1) := by decide +kernel
theorem dX9_isShown_1 : decode cX9_isShown 1 = .ok (.istore_n 3, 1) := by decide +kernel
theorem dX9_isShown_2 : decode cX9_isShown 2 = .ok (.iconst 0, 1) := by decide +kernel
theorem dX9_isShown_3 : decode cX9_isShown 3 = .ok (.istore 4, 2) := by decide +kernel
theorem dX9_isShown_5 : decode cX9_isShown 5 = .ok (.iload 4, 2) := by decide +kernel
theorem dX9_isShown_7 : decode cX9_isShown 7 = .ok (.aload_n 0, 1) := by decide +kernel
theorem dX9_isShown_8 : decode cX9_isShown 8 = .ok (.getfield 7, 3) := by decide +kernel
theorem dX9_isShown_11 : decode cX9_isShown 11 = .ok (.iconst 2, 1) := by decide +kernel
theorem dX9_isShown_12 : decode cX9_isShown 12 = .ok (.iaload, 1) := by decide +kernel
theorem dX9_isShown_13 : decode cX9_isShown 13 = .ok (.if_icmp .ge 58, 3) := by decide +kernel
theorem dX9_isShown_16 : decode cX9_isShown 16 = .ok (.iload_n 3, 1) := by decide +kernel
theorem dX9_isShown_17 : decode cX9_isShown 17 = .ok (.ifCond .ne 42, 3) := by decide +kernel
theorem dX9_isShown_20 : decode cX9_isShown 20 = .ok (.aload_n 0, 1) := by decide +kernel
theorem dX9_isShown_21 : decode cX9_isShown 21 = .ok (.iload 4, 2) := by decide +kernel
theorem dX9_isShown_23 : decode cX9_isShown 23 = .ok (.iload_n 1, 1) := by decide +kernel
theorem dX9_isShown_24 : decode cX9_isShown 24 = .ok (.invokevirtual 70, 3) := by decide +kernel
theorem dX9_isShown_27 : decode cX9_isShown 27 = .ok (.ifCond .eq 36, 3) := by decide +kernel
theorem dX9_isShown_30 : decode cX9_isShown 30 = .ok (.aload_n 0, 1) := by decide +kernel
theorem dX9_isShown_31 : decode cX9_isShown 31 = .ok (.getfield 22, 3) := by decide +kernel
theorem dX9_isShown_34 : decode cX9_isShown 34 = .ok (.iconst 5, 1) := by decide +kernel
theorem dX9_isShown_35 : decode cX9_isShown 35 = .ok (.iload 4, 2) := by decide +kernel
theorem dX9_isShown_37 : decode cX9_isShown 37 = .ok (.imul, 1) := by decide +kernel
theorem dX9_isShown_38 : decode cX9_isShown 38 = .ok (.iconst 1, 1) := by decide +kernel
theorem dX9_isShown_39 : decode cX9_isShown 39 = .ok (.iadd, 1) := by decide +kernel
theorem dX9_isShown_40 : decode cX9_isShown 40 = .ok (.iaload, 1) := by decide +kernel
theorem dX9_isShown_41 : decode cX9_isShown 41 = .ok (.ifCond .lt 22, 3) := by decide +kernel
theorem dX9_isShown_44 : decode cX9_isShown 44 = .ok (.aload_n 0, 1) := by decide +kernel
theorem dX9_isShown_45 : decode cX9_isShown 45 = .ok (.getfield 22, 3) := by decide +kernel
theorem dX9_isShown_48 : decode cX9_isShown 48 = .ok (.iconst 5, 1) := by decide +kernel
theorem dX9_isShown_49 : decode cX9_isShown 49 = .ok (.iload 4, 2) := by decide +kernel
theorem dX9_isShown_51 : decode cX9_isShown 51 = .ok (.imul, 1) := by decide +kernel
theorem dX9_isShown_52 : decode cX9_isShown 52 = .ok (.iconst 2, 1) := by decide +kernel
theorem dX9_isShown_53 : decode cX9_isShown 53 = .ok (.iadd, 1) := by decide +kernel
theorem dX9_isShown_54 : decode cX9_isShown 54 = .ok (.iaload, 1) := by decide +kernel
theorem dX9_isShown_55 : decode cX9_isShown 55 = .ok (.iload_n 2, 1) := by decide +kernel
theorem dX9_isShown_56 : decode cX9_isShown 56 = .ok (.if_icmp .ne 7, 3) := by decide +kernel
theorem dX9_isShown_59 : decode cX9_isShown 59 = .ok (.iconst 1, 1) := by decide +kernel
theorem dX9_isShown_60 : decode cX9_isShown 60 = .ok (.goto 4, 3) := by decide +kernel
theorem dX9_isShown_63 : decode cX9_isShown 63 = .ok (.iconst 0, 1) := by decide +kernel
theorem dX9_isShown_64 : decode cX9_isShown 64 = .ok (.istore_n 3, 1) := by decide +kernel
theorem dX9_isShown_65 : decode cX9_isShown 65 = .ok (.iinc 4 1, 3) := by decide +kernel
theorem dX9_isShown_68 : decode cX9_isShown 68 = .ok (.goto (-63), 3) := by decide +kernel
theorem dX9_isShown_71 : decode cX9_isShown 71 = .ok (.iload_n 3, 1) := by decide +kernel
theorem dX9_isShown_72 : decode cX9_isShown 72 = .ok (.ireturn, 1) := by decide +kernel
theorem dX9_show_0 : decode cX9_show 0 = .ok (.aload_n 0, 1) := by decide +kernel
theorem dX9_show_1 : decode cX9_show 1 = .ok (.iconst 1, 1) := by decide +kernel
theorem dX9_show_2 : decode cX9_show 2 = .ok (.iload_n 1, 1) := by decide +kernel
theorem dX9_show_3 : decode cX9_show 3 = .ok (.invokevirtual 55, 3) := by decide +kernel
theorem dX9_show_6 : decode cX9_show 6 = .ok (.ifCond .eq 19, 3) := by decide +kernel
theorem dX9_show_9 : decode cX9_show 9 = .ok (.aload_n 0, 1) := by decide +kernel
theorem dX9_show_10 : decode cX9_show 10 = .ok (.iconst 0, 1) := by decide +kernel
theorem dX9_show_11 : decode cX9_show 11 = .ok (.iload_n 2, 1) := by decide +kernel
theorem dX9_show_12 : decode cX9_show 12 = .ok (.invokevirtual 55, 3) := by decide +kernel
theorem dX9_show_15 : decode cX9_show 15 = .ok (.ifCond .eq 10, 3) := by decide +kernel
theorem dX9_show_18 : decode cX9_show 18 = .ok (.iload_n 3, 1) := by decide +kernel
theorem dX9_show_19 : decode cX9_show 19 = .ok (.invokestatic 59, 3) := by decide +kernel
theorem dX9_show_22 : decode cX9_show 22 = .ok (.ifCond .ne 5, 3) := by decide +kernel
theorem dX9_show_25 : decode cX9_show 25 = .ok (.iconst (-1), 1) := by decide +kernel
theorem dX9_show_26 : decode cX9_show 26 = .ok (.ireturn, 1) := by decide +kernel
theorem dX9_show_27 : decode cX9_show 27 = .ok (.aload_n 0, 1) := by decide +kernel
theorem dX9_show_28 : decode cX9_show 28 = .ok (.iload_n 1, 1) := by decide +kernel
theorem dX9_show_29 : decode cX9_show 29 = .ok (.iload_n 3, 1) := by decide +kernel
theorem dX9_show_30 : decode cX9_show 30 = .ok (.invokevirtual 104, 3) := by decide +kernel
theorem dX9_show_33 : decode cX9_show 33 = .ok (.ifCond .eq 6, 3) := by decide +kernel
theorem dX9_show_36 : decode cX9_show 36 = .ok (.bipush (-3), 2) := by decide +kernel
theorem dX9_show_38 : decode cX9_show 38 = .ok (.ireturn, 1) := by decide +kernel
theorem dX9_show_39 : decode cX9_show 39 = .ok (.aload_n 0, 1) := by decide +kernel
theorem dX9_show_40 : decode cX9_show 40 = .ok (.getfield 7, 3) := by decide +kernel
theorem dX9_show_43 : decode cX9_show 43 = .ok (.iconst 2, 1) := by decide +kernel
theorem dX9_show_44 : decode cX9_show 44 = .ok (.iaload, 1) := by decide +kernel
theorem dX9_show_45 : decode cX9_show 45 = .ok (.bipush 30, 2) := by decide +kernel
theorem dX9_show_47 : decode cX9_show 47 = .ok (.if_icmp .ne 8, 3) := by decide +kernel
theorem dX9_show_50 : decode cX9_show 50 = .ok (.bipush (-2), 2) := by decide +kernel
theorem dX9_show_52 : decode cX9_show 52 = .ok (.goto 11, 3) := by decide +kernel
theorem dX9_show_55 : decode cX9_show 55 = .ok (.aload_n 0, 1) := by decide +kernel
theorem dX9_show_56 : decode cX9_show 56 = .ok (.iload_n 1, 1) := by decide +kernel
theorem dX9_show_57 : decode cX9_show 57 = .ok (.iload_n 2, 1) := by decide +kernel
theorem dX9_show_58 : decode cX9_show 58 = .ok (.iload_n 3, 1) := by decide +kernel
theorem dX9_show_59 : decode cX9_show 59 = .ok (.iconst 0, 1) := by decide +kernel
theorem dX9_show_60 : decode cX9_show 60 = .ok (.invokevirtual 107, 3) := by decide +kernel
theorem dX9_show_63 : decode cX9_show 63 = .ok (.ireturn, 1) := by decide +kernel
theorem dX9_lend_0 : decode cX9_lend 0 = .ok (.aload_n 0, 1) := by decide +kernel
theorem dX9_lend_1 : decode cX9_lend 1 = .ok (.iconst 1, 1) := by decide +kernel
theorem dX9_lend_2 : decode cX9_lend 2 = .ok (.iload_n 1, 1) := by decide +kernel
theorem dX9_lend_3 : decode cX9_lend 3 = .ok (.invokevirtual 55, 3) := by decide +kernel
theorem dX9_lend_6 : decode cX9_lend 6 = .ok (.ifCond .eq 21, 3) := by decide +kernel
theorem dX9_lend_9 : decode cX9_lend 9 = .ok (.iload_n 2, 1) := by decide +kernel
theorem dX9_lend_10 : decode cX9_lend 10 = .ok (.invokestatic 59, 3) := by decide +kernel
theorem dX9_lend_13 : decode cX9_lend 13 = .ok (.ifCond .eq 14, 3) := by decide +kernel
theorem dX9_lend_16 : decode cX9_lend 16 = .ok (.iload_n 3, 1) := by decide +kernel
theorem dX9_lend_17 : decode cX9_lend 17 = .ok (.iconst 1, 1) := by decide +kernel
theorem dX9_lend_18 : decode cX9_lend 18 = .ok (.sipush 500, 3) := by decide +kernel
theorem dX9_lend_21 : decode cX9_lend 21 = .ok (.invokestatic 47, 3) := by decide +kernel
theorem dX9_lend_24 : decode cX9_lend 24 = .ok (.ifCond .ne 5, 3) := by decide +kernel
theorem dX9_lend_27 : decode cX9_lend 27 = .ok (.iconst (-1), 1) := by decide +kernel
theorem dX9_lend_28 : decode cX9_lend 28 = .ok (.ireturn, 1) := by decide +kernel
theorem dX9_lend_29 : decode cX9_lend 29 = .ok (.aload_n 0, 1) := by decide +kernel
theorem dX9_lend_30 : decode cX9_lend 30 = .ok (.iload_n 1, 1) := by decide +kernel
theorem dX9_lend_31 : decode cX9_lend 31 = .ok (.invokevirtual 111, 3) := by decide +kernel
theorem dX9_lend_34 : decode cX9_lend 34 = .ok (.iload_n 3, 1) := by decide +kernel
theorem dX9_lend_35 : decode cX9_lend 35 = .ok (.if_icmp .ge 6, 3) := by decide +kernel
theorem dX9_lend_38 : decode cX9_lend 38 = .ok (.bipush (-4), 2) := by decide +kernel
theorem dX9_lend_40 : decode cX9_lend 40 = .ok (.ireturn, 1) := by decide +kernel
theorem dX9_lend_41 : decode cX9_lend 41 = .ok (.aload_n 0, 1) := by decide +kernel
theorem dX9_lend_42 : decode cX9_lend 42 = .ok (.getfield 7, 3) := by decide +kernel
theorem dX9_lend_45 : decode cX9_lend 45 = .ok (.iconst 2, 1) := by decide +kernel
theorem dX9_lend_46 : decode cX9_lend 46 = .ok (.iaload, 1) := by decide +kernel
theorem dX9_lend_47 : decode cX9_lend 47 = .ok (.bipush 30, 2) := by decide +kernel
theorem dX9_lend_49 : decode cX9_lend 49 = .ok (.if_icmp .ne 8, 3) := by decide +kernel
theorem dX9_lend_52 : decode cX9_lend 52 = .ok (.bipush (-2), 2) := by decide +kernel
theorem dX9_lend_54 : decode cX9_lend 54 = .ok (.goto 11, 3) := by decide +kernel
theorem dX9_lend_57 : decode cX9_lend 57 = .ok (.aload_n 0, 1) := by decide +kernel
theorem dX9_lend_58 : decode cX9_lend 58 = .ok (.iload_n 1, 1) := by decide +kernel
theorem dX9_lend_59 : decode cX9_lend 59 = .ok (.iconst (-1), 1) := by decide +kernel
theorem dX9_lend_60 : decode cX9_lend 60 = .ok (.iload_n 2, 1) := by decide +kernel
theorem dX9_lend_61 : decode cX9_lend 61 = .ok (.iload_n 3, 1) := by decide +kernel
theorem dX9_lend_62 : decode cX9_lend 62 = .ok (.invokevirtual 107, 3) := by decide +kernel
theorem dX9_lend_65 : decode cX9_lend 65 = .ok (.ireturn, 1) := by decide +kernel
theorem dX9_lacks_0 : decode cX9_lacks 0 = .ok (.aload_n 0, 1) := by decide +kernel
theorem dX9_lacks_1 : decode cX9_lacks 1 = .ok (.iconst 1, 1) := by decide +kernel
theorem dX9_lacks_2 : decode cX9_lacks 2 = .ok (.iload_n 1, 1) := by decide +kernel
theorem dX9_lacks_3 : decode cX9_lacks 3 = .ok (.invokevirtual 55, 3) := by decide +kernel
theorem dX9_lacks_6 : decode cX9_lacks 6 = .ok (.ifCond .eq 14, 3) := by decide +kernel
theorem dX9_lacks_9 : decode cX9_lacks 9 = .ok (.iload_n 2, 1) := by decide +kernel
theorem dX9_lacks_10 : decode cX9_lacks 10 = .ok (.iconst 1, 1) := by decide +kernel
theorem dX9_lacks_11 : decode cX9_lacks 11 = .ok (.sipush 500, 3) := by decide +kernel
theorem dX9_lacks_14 : decode cX9_lacks 14 = .ok (.invokestatic 47, 3) := by decide +kernel
theorem dX9_lacks_17 : decode cX9_lacks 17 = .ok (.ifCond .ne 5, 3) := by decide +kernel
theorem dX9_lacks_20 : decode cX9_lacks 20 = .ok (.iconst (-1), 1) := by decide +kernel
theorem dX9_lacks_21 : decode cX9_lacks 21 = .ok (.ireturn, 1) := by decide +kernel
theorem dX9_lacks_22 : decode cX9_lacks 22 = .ok (.iload_n 2, 1) := by decide +kernel
theorem dX9_lacks_23 : decode cX9_lacks 23 = .ok (.aload_n 0, 1) := by decide +kernel
theorem dX9_lacks_24 : decode cX9_lacks 24 = .ok (.iload_n 1, 1) := by decide +kernel
theorem dX9_lacks_25 : decode cX9_lacks 25 = .ok (.invokevirtual 111, 3) := by decide +kernel
theorem dX9_lacks_28 : decode cX9_lacks 28 = .ok (.isub, 1) := by decide +kernel
theorem dX9_lacks_29 : decode cX9_lacks 29 = .ok (.istore_n 3, 1) := by decide +kernel
theorem dX9_lacks_30 : decode cX9_lacks 30 = .ok (.iload_n 3, 1) := by decide +kernel
theorem dX9_lacks_31 : decode cX9_lacks 31 = .ok (.ifCond .le 7, 3) := by decide +kernel
theorem dX9_lacks_34 : decode cX9_lacks 34 = .ok (.iload_n 3, 1) := by decide +kernel
theorem dX9_lacks_35 : decode cX9_lacks 35 = .ok (.goto 4, 3) := by decide +kernel
theorem dX9_lacks_38 : decode cX9_lacks 38 = .ok (.iconst 0, 1) := by decide +kernel
theorem dX9_lacks_39 : decode cX9_lacks 39 = .ok (.ireturn, 1) := by decide +kernel
theorem dX9_cancel_0 : decode cX9_cancel 0 = .ok (.aload_n 0, 1) := by decide +kernel
theorem dX9_cancel_1 : decode cX9_cancel 1 = .ok (.iconst 2, 1) := by decide +kernel
theorem dX9_cancel_2 : decode cX9_cancel 2 = .ok (.iload_n 1, 1) := by decide +kernel
theorem dX9_cancel_3 : decode cX9_cancel 3 = .ok (.invokevirtual 55, 3) := by decide +kernel
theorem dX9_cancel_6 : decode cX9_cancel 6 = .ok (.ifCond .ne 5, 3) := by decide +kernel
theorem dX9_cancel_9 : decode cX9_cancel 9 = .ok (.iconst (-1), 1) := by decide +kernel
theorem dX9_cancel_10 : decode cX9_cancel 10 = .ok (.ireturn, 1) := by decide +kernel
theorem dX9_cancel_11 : decode cX9_cancel 11 = .ok (.aload_n 0, 1) := by decide +kernel
theorem dX9_cancel_12 : decode cX9_cancel 12 = .ok (.getfield 22, 3) := by decide +kernel
theorem dX9_cancel_15 : decode cX9_cancel 15 = .ok (.iconst 5, 1) := by decide +kernel
theorem dX9_cancel_16 : decode cX9_cancel 16 = .ok (.iload_n 1, 1) := by decide +kernel
theorem dX9_cancel_17 : decode cX9_cancel 17 = .ok (.imul, 1) := by decide +kernel
theorem dX9_cancel_18 : decode cX9_cancel 18 = .ok (.iconst 4, 1) := by decide +kernel
theorem dX9_cancel_19 : decode cX9_cancel 19 = .ok (.iadd, 1) := by decide +kernel
theorem dX9_cancel_20 : decode cX9_cancel 20 = .ok (.iaload, 1) := by decide +kernel
theorem dX9_cancel_21 : decode cX9_cancel 21 = .ok (.iconst 1, 1) := by decide +kernel
theorem dX9_cancel_22 : decode cX9_cancel 22 = .ok (.if_icmp .ne 6, 3) := by decide +kernel
theorem dX9_cancel_25 : decode cX9_cancel 25 = .ok (.bipush (-3), 2) := by decide +kernel
theorem dX9_cancel_27 : decode cX9_cancel 27 = .ok (.ireturn, 1) := by decide +kernel
theorem dX9_cancel_28 : decode cX9_cancel 28 = .ok (.aload_n 0, 1) := by decide +kernel
theorem dX9_cancel_29 : decode cX9_cancel 29 = .ok (.getfield 22, 3) := by decide +kernel
theorem dX9_cancel_32 : decode cX9_cancel 32 = .ok (.iconst 5, 1) := by decide +kernel
theorem dX9_cancel_33 : decode cX9_cancel 33 = .ok (.iload_n 1, 1) := by decide +kernel
theorem dX9_cancel_34 : decode cX9_cancel 34 = .ok (.imul, 1) := by decide +kernel
theorem dX9_cancel_35 : decode cX9_cancel 35 = .ok (.iconst 4, 1) := by decide +kernel
theorem dX9_cancel_36 : decode cX9_cancel 36 = .ok (.iadd, 1) := by decide +kernel
theorem dX9_cancel_37 : decode cX9_cancel 37 = .ok (.iconst 1, 1) := by decide +kernel
theorem dX9_cancel_38 : decode cX9_cancel 38 = .ok (.iastore, 1) := by decide +kernel
theorem dX9_cancel_39 : decode cX9_cancel 39 = .ok (.iconst 1, 1) := by decide +kernel
theorem dX9_cancel_40 : decode cX9_cancel 40 = .ok (.ireturn, 1) := by decide +kernel
theorem dX9_booking_0 : decode cX9_booking 0 = .ok (.aload_n 0, 1) := by decide +kernel
theorem dX9_booking_1 : decode cX9_booking 1 = .ok (.iconst 2, 1) := by decide +kernel
theorem dX9_booking_2 : decode cX9_booking 2 = .ok (.iload_n 1, 1) := by decide +kernel
theorem dX9_booking_3 : decode cX9_booking 3 = .ok (.invokevirtual 55, 3) := by decide +kernel
theorem dX9_booking_6 : decode cX9_booking 6 = .ok (.ifCond .eq 13, 3) := by decide +kernel
theorem dX9_booking_9 : decode cX9_booking 9 = .ok (.iload_n 2, 1) := by decide +kernel
theorem dX9_booking_10 : decode cX9_booking 10 = .ok (.iconst 0, 1) := by decide +kernel
theorem dX9_booking_11 : decode cX9_booking 11 = .ok (.bipush 6, 2) := by decide +kernel
theorem dX9_booking_13 : decode cX9_booking 13 = .ok (.invokestatic 47, 3) := by decide +kernel
theorem dX9_booking_16 : decode cX9_booking 16 = .ok (.ifCond .ne 5, 3) := by decide +kernel
theorem dX9_booking_19 : decode cX9_booking 19 = .ok (.iconst (-1), 1) := by decide +kernel
theorem dX9_booking_20 : decode cX9_booking 20 = .ok (.ireturn, 1) := by decide +kernel
theorem dX9_booking_21 : decode cX9_booking 21 = .ok (.iconst 5, 1) := by decide +kernel
theorem dX9_booking_22 : decode cX9_booking 22 = .ok (.iload_n 1, 1) := by decide +kernel
theorem dX9_booking_23 : decode cX9_booking 23 = .ok (.imul, 1) := by decide +kernel
theorem dX9_booking_24 : decode cX9_booking 24 = .ok (.istore_n 3, 1) := by decide +kernel
theorem dX9_booking_25 : decode cX9_booking 25 = .ok (.iload_n 2, 1) := by decide +kernel
theorem dX9_booking_26 : decode cX9_booking 26 = .ok (.tableswitch 112 0 5 #[38, 55, 62, 87, 96, 96], 38) := by decide +kernel
theorem dX9_booking_64 : decode cX9_booking 64 = .ok (.aload_n 0, 1) := by decide +kernel
theorem dX9_booking_65 : decode cX9_booking 65 = .ok (.getfield 22, 3) := by decide +kernel
theorem dX9_booking_68 : decode cX9_booking 68 = .ok (.iload_n 3, 1) := by decide +kernel
theorem dX9_booking_69 : decode cX9_booking 69 = .ok (.iconst 1, 1) := by decide +kernel
theorem dX9_booking_70 : decode cX9_booking 70 = .ok (.iadd, 1) := by decide +kernel
theorem dX9_booking_71 : decode cX9_booking 71 = .ok (.iaload, 1) := by decide +kernel
theorem dX9_booking_72 : decode cX9_booking 72 = .ok (.ifCond .ge 7, 3) := by decide +kernel
theorem dX9_booking_75 : decode cX9_booking 75 = .ok (.iconst 1, 1) := by decide +kernel
theorem dX9_booking_76 : decode cX9_booking 76 = .ok (.goto 4, 3) := by decide +kernel
theorem dX9_booking_79 : decode cX9_booking 79 = .ok (.iconst 0, 1) := by decide +kernel
theorem dX9_booking_80 : decode cX9_booking 80 = .ok (.ireturn, 1) := by decide +kernel
theorem dX9_booking_81 : decode cX9_booking 81 = .ok (.aload_n 0, 1) := by decide +kernel
theorem dX9_booking_82 : decode cX9_booking 82 = .ok (.getfield 22, 3) := by decide +kernel
theorem dX9_booking_85 : decode cX9_booking 85 = .ok (.iload_n 3, 1) := by decide +kernel
theorem dX9_booking_86 : decode cX9_booking 86 = .ok (.iaload, 1) := by decide +kernel
theorem dX9_booking_87 : decode cX9_booking 87 = .ok (.ireturn, 1) := by decide +kernel
theorem dX9_booking_88 : decode cX9_booking 88 = .ok (.aload_n 0, 1) := by decide +kernel
theorem dX9_booking_89 : decode cX9_booking 89 = .ok (.getfield 22, 3) := by decide +kernel
theorem dX9_booking_92 : decode cX9_booking 92 = .ok (.iload_n 3, 1) := by decide +kernel
theorem dX9_booking_93 : decode cX9_booking 93 = .ok (.iconst 1, 1) := by decide +kernel
theorem dX9_booking_94 : decode cX9_booking 94 = .ok (.iadd, 1) := by decide +kernel
theorem dX9_booking_95 : decode cX9_booking 95 = .ok (.iaload, 1) := by decide +kernel
theorem dX9_booking_96 : decode cX9_booking 96 = .ok (.ifCond .ge 8, 3) := by decide +kernel
theorem dX9_booking_99 : decode cX9_booking 99 = .ok (.bipush (-4), 2) := by decide +kernel
theorem dX9_booking_101 : decode cX9_booking 101 = .ok (.goto 11, 3) := by decide +kernel
theorem dX9_booking_104 : decode cX9_booking 104 = .ok (.aload_n 0, 1) := by decide +kernel
theorem dX9_booking_105 : decode cX9_booking 105 = .ok (.getfield 22, 3) := by decide +kernel
theorem dX9_booking_108 : decode cX9_booking 108 = .ok (.iload_n 3, 1) := by decide +kernel
theorem dX9_booking_109 : decode cX9_booking 109 = .ok (.iconst 1, 1) := by decide +kernel
theorem dX9_booking_110 : decode cX9_booking 110 = .ok (.iadd, 1) := by decide +kernel
theorem dX9_booking_111 : decode cX9_booking 111 = .ok (.iaload, 1) := by decide +kernel
theorem dX9_booking_112 : decode cX9_booking 112 = .ok (.ireturn, 1) := by decide +kernel
theorem dX9_booking_113 : decode cX9_booking 113 = .ok (.aload_n 0, 1) := by decide +kernel
theorem dX9_booking_114 : decode cX9_booking 114 = .ok (.getfield 22, 3) := by decide +kernel
theorem dX9_booking_117 : decode cX9_booking 117 = .ok (.iload_n 3, 1) := by decide +kernel
theorem dX9_booking_118 : decode cX9_booking 118 = .ok (.iconst 2, 1) := by decide +kernel
theorem dX9_booking_119 : decode cX9_booking 119 = .ok (.iadd, 1) := by decide +kernel
theorem dX9_booking_120 : decode cX9_booking 120 = .ok (.iaload, 1) := by decide +kernel
theorem dX9_booking_121 : decode cX9_booking 121 = .ok (.ireturn, 1) := by decide +kernel
theorem dX9_booking_122 : decode cX9_booking 122 = .ok (.aload_n 0, 1) := by decide +kernel
theorem dX9_booking_123 : decode cX9_booking 123 = .ok (.iload_n 1, 1) := by decide +kernel
theorem dX9_booking_124 : decode cX9_booking 124 = .ok (.iload_n 2, 1) := by decide +kernel
theorem dX9_booking_125 : decode cX9_booking 125 = .ok (.iconst 5, 1) := by decide +kernel
theorem dX9_booking_126 : decode cX9_booking 126 = .ok (.if_icmp .ne 7, 3) := by decide +kernel
theorem dX9_booking_129 : decode cX9_booking 129 = .ok (.iconst 1, 1) := by decide +kernel
theorem dX9_booking_130 : decode cX9_booking 130 = .ok (.goto 4, 3) := by decide +kernel
theorem dX9_booking_133 : decode cX9_booking 133 = .ok (.iconst 0, 1) := by decide +kernel
theorem dX9_booking_134 : decode cX9_booking 134 = .ok (.invokevirtual 73, 3) := by decide +kernel
theorem dX9_booking_137 : decode cX9_booking 137 = .ok (.ireturn, 1) := by decide +kernel
theorem dX9_booking_138 : decode cX9_booking 138 = .ok (.aload_n 0, 1) := by decide +kernel
theorem dX9_booking_139 : decode cX9_booking 139 = .ok (.getfield 22, 3) := by decide +kernel
theorem dX9_booking_142 : decode cX9_booking 142 = .ok (.iload_n 3, 1) := by decide +kernel
theorem dX9_booking_143 : decode cX9_booking 143 = .ok (.iconst 4, 1) := by decide +kernel
theorem dX9_booking_144 : decode cX9_booking 144 = .ok (.iadd, 1) := by decide +kernel
theorem dX9_booking_145 : decode cX9_booking 145 = .ok (.iaload, 1) := by decide +kernel
theorem dX9_booking_146 : decode cX9_booking 146 = .ok (.ireturn, 1) := by decide +kernel
theorem dX9_thread_0 : decode cX9_thread 0 = .ok (.aload_n 0, 1) := by decide +kernel
theorem dX9_thread_1 : decode cX9_thread 1 = .ok (.iconst 1, 1) := by decide +kernel
theorem dX9_thread_2 : decode cX9_thread 2 = .ok (.iload_n 1, 1) := by decide +kernel
theorem dX9_thread_3 : decode cX9_thread 3 = .ok (.invokevirtual 55, 3) := by decide +kernel
theorem dX9_thread_6 : decode cX9_thread 6 = .ok (.ifCond .eq 20, 3) := by decide +kernel
theorem dX9_thread_9 : decode cX9_thread 9 = .ok (.iload_n 2, 1) := by decide +kernel
theorem dX9_thread_10 : decode cX9_thread 10 = .ok (.invokestatic 59, 3) := by decide +kernel
theorem dX9_thread_13 : decode cX9_thread 13 = .ok (.ifCond .eq 13, 3) := by decide +kernel
theorem dX9_thread_16 : decode cX9_thread 16 = .ok (.iload_n 3, 1) := by decide +kernel
theorem dX9_thread_17 : decode cX9_thread 17 = .ok (.iconst 0, 1) := by decide +kernel
theorem dX9_thread_18 : decode cX9_thread 18 = .ok (.bipush 7, 2) := by decide +kernel
theorem dX9_thread_20 : decode cX9_thread 20 = .ok (.invokestatic 47, 3) := by decide +kernel
theorem dX9_thread_23 : decode cX9_thread 23 = .ok (.ifCond .ne 5, 3) := by decide +kernel
theorem dX9_thread_26 : decode cX9_thread 26 = .ok (.iconst (-1), 1) := by decide +kernel
theorem dX9_thread_27 : decode cX9_thread 27 = .ok (.ireturn, 1) := by decide +kernel
theorem dX9_thread_28 : decode cX9_thread 28 = .ok (.aload_n 0, 1) := by decide +kernel
theorem dX9_thread_29 : decode cX9_thread 29 = .ok (.getfield 7, 3) := by decide +kernel
theorem dX9_thread_32 : decode cX9_thread 32 = .ok (.iconst 3, 1) := by decide +kernel
theorem dX9_thread_33 : decode cX9_thread 33 = .ok (.iaload, 1) := by decide +kernel
theorem dX9_thread_34 : decode cX9_thread 34 = .ok (.bipush 12, 2) := by decide +kernel
theorem dX9_thread_36 : decode cX9_thread 36 = .ok (.if_icmp .ne 6, 3) := by decide +kernel
theorem dX9_thread_39 : decode cX9_thread 39 = .ok (.bipush (-2), 2) := by decide +kernel
theorem dX9_thread_41 : decode cX9_thread 41 = .ok (.ireturn, 1) := by decide +kernel
theorem dX9_thread_42 : decode cX9_thread 42 = .ok (.iconst 3, 1) := by decide +kernel
theorem dX9_thread_43 : decode cX9_thread 43 = .ok (.aload_n 0, 1) := by decide +kernel
theorem dX9_thread_44 : decode cX9_thread 44 = .ok (.getfield 7, 3) := by decide +kernel
theorem dX9_thread_47 : decode cX9_thread 47 = .ok (.iconst 3, 1) := by decide +kernel
theorem dX9_thread_48 : decode cX9_thread 48 = .ok (.iaload, 1) := by decide +kernel
theorem dX9_thread_49 : decode cX9_thread 49 = .ok (.imul, 1) := by decide +kernel
theorem dX9_thread_50 : decode cX9_thread 50 = .ok (.istore 4, 2) := by decide +kernel
theorem dX9_thread_52 : decode cX9_thread 52 = .ok (.aload_n 0, 1) := by decide +kernel
theorem dX9_thread_53 : decode cX9_thread 53 = .ok (.getfield 25, 3) := by decide +kernel
theorem dX9_thread_56 : decode cX9_thread 56 = .ok (.iload 4, 2) := by decide +kernel
theorem dX9_thread_58 : decode cX9_thread 58 = .ok (.iload_n 1, 1) := by decide +kernel
theorem dX9_thread_59 : decode cX9_thread 59 = .ok (.iastore, 1) := by decide +kernel
theorem dX9_thread_60 : decode cX9_thread 60 = .ok (.aload_n 0, 1) := by decide +kernel
theorem dX9_thread_61 : decode cX9_thread 61 = .ok (.getfield 25, 3) := by decide +kernel
theorem dX9_thread_64 : decode cX9_thread 64 = .ok (.iload 4, 2) := by decide +kernel
theorem dX9_thread_66 : decode cX9_thread 66 = .ok (.iconst 1, 1) := by decide +kernel
theorem dX9_thread_67 : decode cX9_thread 67 = .ok (.iadd, 1) := by decide +kernel
theorem dX9_thread_68 : decode cX9_thread 68 = .ok (.iload_n 2, 1) := by decide +kernel
theorem dX9_thread_69 : decode cX9_thread 69 = .ok (.iastore, 1) := by decide +kernel
theorem dX9_thread_70 : decode cX9_thread 70 = .ok (.aload_n 0, 1) := by decide +kernel
theorem dX9_thread_71 : decode cX9_thread 71 = .ok (.getfield 25, 3) := by decide +kernel
theorem dX9_thread_74 : decode cX9_thread 74 = .ok (.iload 4, 2) := by decide +kernel
theorem dX9_thread_76 : decode cX9_thread 76 = .ok (.iconst 2, 1) := by decide +kernel
theorem dX9_thread_77 : decode cX9_thread 77 = .ok (.iadd, 1) := by decide +kernel
theorem dX9_thread_78 : decode cX9_thread 78 = .ok (.iload_n 3, 1) := by decide +kernel
theorem dX9_thread_79 : decode cX9_thread 79 = .ok (.iastore, 1) := by decide +kernel
theorem dX9_thread_80 : decode cX9_thread 80 = .ok (.aload_n 0, 1) := by decide +kernel
theorem dX9_thread_81 : decode cX9_thread 81 = .ok (.iconst 3, 1) := by decide +kernel
theorem dX9_thread_82 : decode cX9_thread 82 = .ok (.invokevirtual 51, 3) := by decide +kernel
theorem dX9_thread_85 : decode cX9_thread 85 = .ok (.ireturn, 1) := by decide +kernel
theorem dX9_cut_0 : decode cX9_cut 0 = .ok (.aload_n 0, 1) := by decide +kernel
theorem dX9_cut_1 : decode cX9_cut 1 = .ok (.getfield 7, 3) := by decide +kernel
theorem dX9_cut_4 : decode cX9_cut 4 = .ok (.iconst 3, 1) := by decide +kernel
theorem dX9_cut_5 : decode cX9_cut 5 = .ok (.iaload, 1) := by decide +kernel
theorem dX9_cut_6 : decode cX9_cut 6 = .ok (.ifCond .ne 6, 3) := by decide +kernel
theorem dX9_cut_9 : decode cX9_cut 9 = .ok (.bipush (-4), 2) := by decide +kernel
theorem dX9_cut_11 : decode cX9_cut 11 = .ok (.ireturn, 1) := by decide +kernel
theorem dX9_cut_12 : decode cX9_cut 12 = .ok (.aload_n 0, 1) := by decide +kernel
end
section
theorem dX9_cut_13 : decode cX9_cut 13 = .ok (.getfield 7, 3) := by decide +kernel
theorem dX9_cut_16 : decode cX9_cut 16 = .ok (.iconst 3, 1) := by decide +kernel
theorem dX9_cut_17 : decode cX9_cut 17 = .ok (.dup2, 1) := by decide +kernel
theorem dX9_cut_18 : decode cX9_cut 18 = .ok (.iaload, 1) := by decide +kernel
theorem dX9_cut_19 : decode cX9_cut 19 = .ok (.iconst 1, 1) := by decide +kernel
theorem dX9_cut_20 : decode cX9_cut 20 = .ok (.isub, 1) := by decide +kernel
theorem dX9_cut_21 : decode cX9_cut 21 = .ok (.iastore, 1) := by decide +kernel
theorem dX9_cut_22 : decode cX9_cut 22 = .ok (.aload_n 0, 1) := by decide +kernel
theorem dX9_cut_23 : decode cX9_cut 23 = .ok (.getfield 7, 3) := by decide +kernel
theorem dX9_cut_26 : decode cX9_cut 26 = .ok (.iconst 3, 1) := by decide +kernel
theorem dX9_cut_27 : decode cX9_cut 27 = .ok (.iaload, 1) := by decide +kernel
theorem dX9_cut_28 : decode cX9_cut 28 = .ok (.ireturn, 1) := by decide +kernel
theorem dX9_pastOf_0 : decode cX9_pastOf 0 = .ok (.aload_n 0, 1) := by decide +kernel
theorem dX9_pastOf_1 : decode cX9_pastOf 1 = .ok (.iconst 1, 1) := by decide +kernel
theorem dX9_pastOf_2 : decode cX9_pastOf 2 = .ok (.iload_n 1, 1) := by decide +kernel
theorem dX9_pastOf_3 : decode cX9_pastOf 3 = .ok (.invokevirtual 55, 3) := by decide +kernel
theorem dX9_pastOf_6 : decode cX9_pastOf 6 = .ok (.ifCond .ne 5, 3) := by decide +kernel
theorem dX9_pastOf_9 : decode cX9_pastOf 9 = .ok (.iconst (-1), 1) := by decide +kernel
theorem dX9_pastOf_10 : decode cX9_pastOf 10 = .ok (.ireturn, 1) := by decide +kernel
theorem dX9_pastOf_11 : decode cX9_pastOf 11 = .ok (.aload_n 0, 1) := by decide +kernel
theorem dX9_pastOf_12 : decode cX9_pastOf 12 = .ok (.iload_n 1, 1) := by decide +kernel
theorem dX9_pastOf_13 : decode cX9_pastOf 13 = .ok (.invokevirtual 91, 3) := by decide +kernel
theorem dX9_pastOf_16 : decode cX9_pastOf 16 = .ok (.iload_n 2, 1) := by decide +kernel
theorem dX9_pastOf_17 : decode cX9_pastOf 17 = .ok (.ifCond .eq 10, 3) := by decide +kernel
theorem dX9_pastOf_20 : decode cX9_pastOf 20 = .ok (.aload_n 0, 1) := by decide +kernel
theorem dX9_pastOf_21 : decode cX9_pastOf 21 = .ok (.getfield 81, 3) := by decide +kernel
theorem dX9_pastOf_24 : decode cX9_pastOf 24 = .ok (.goto 7, 3) := by decide +kernel
theorem dX9_pastOf_27 : decode cX9_pastOf 27 = .ok (.aload_n 0, 1) := by decide +kernel
theorem dX9_pastOf_28 : decode cX9_pastOf 28 = .ok (.getfield 77, 3) := by decide +kernel
theorem dX9_pastOf_31 : decode cX9_pastOf 31 = .ok (.ireturn, 1) := by decide +kernel
theorem dX9_spent_0 : decode cX9_spent 0 = .ok (.aload_n 0, 1) := by decide +kernel
theorem dX9_spent_1 : decode cX9_spent 1 = .ok (.iconst 1, 1) := by decide +kernel
theorem dX9_spent_2 : decode cX9_spent 2 = .ok (.iload_n 1, 1) := by decide +kernel
theorem dX9_spent_3 : decode cX9_spent 3 = .ok (.invokevirtual 55, 3) := by decide +kernel
theorem dX9_spent_6 : decode cX9_spent 6 = .ok (.ifCond .eq 20, 3) := by decide +kernel
theorem dX9_spent_9 : decode cX9_spent 9 = .ok (.iload_n 2, 1) := by decide +kernel
theorem dX9_spent_10 : decode cX9_spent 10 = .ok (.invokestatic 59, 3) := by decide +kernel
theorem dX9_spent_13 : decode cX9_spent 13 = .ok (.ifCond .eq 13, 3) := by decide +kernel
theorem dX9_spent_16 : decode cX9_spent 16 = .ok (.aload_n 0, 1) := by decide +kernel
theorem dX9_spent_17 : decode cX9_spent 17 = .ok (.iload_n 1, 1) := by decide +kernel
theorem dX9_spent_18 : decode cX9_spent 18 = .ok (.iload_n 2, 1) := by decide +kernel
theorem dX9_spent_19 : decode cX9_spent 19 = .ok (.iload_n 3, 1) := by decide +kernel
theorem dX9_spent_20 : decode cX9_spent 20 = .ok (.invokevirtual 95, 3) := by decide +kernel
theorem dX9_spent_23 : decode cX9_spent 23 = .ok (.goto 4, 3) := by decide +kernel
theorem dX9_spent_26 : decode cX9_spent 26 = .ok (.iconst (-1), 1) := by decide +kernel
theorem dX9_spent_27 : decode cX9_spent 27 = .ok (.ireturn, 1) := by decide +kernel
theorem dX9_left_0 : decode cX9_left 0 = .ok (.aload_n 0, 1) := by decide +kernel
theorem dX9_left_1 : decode cX9_left 1 = .ok (.iconst 1, 1) := by decide +kernel
theorem dX9_left_2 : decode cX9_left 2 = .ok (.iload_n 1, 1) := by decide +kernel
theorem dX9_left_3 : decode cX9_left 3 = .ok (.invokevirtual 55, 3) := by decide +kernel
theorem dX9_left_6 : decode cX9_left 6 = .ok (.ifCond .ne 6, 3) := by decide +kernel
theorem dX9_left_9 : decode cX9_left 9 = .ok (.ldc 114, 2) := by decide +kernel
theorem dX9_left_11 : decode cX9_left 11 = .ok (.ireturn, 1) := by decide +kernel
theorem dX9_left_12 : decode cX9_left 12 = .ok (.iload_n 2, 1) := by decide +kernel
theorem dX9_left_13 : decode cX9_left 13 = .ok (.ifCond .eq 24, 3) := by decide +kernel
theorem dX9_left_16 : decode cX9_left 16 = .ok (.aload_n 0, 1) := by decide +kernel
theorem dX9_left_17 : decode cX9_left 17 = .ok (.getfield 19, 3) := by decide +kernel
theorem dX9_left_20 : decode cX9_left 20 = .ok (.bipush 7, 2) := by decide +kernel
theorem dX9_left_22 : decode cX9_left 22 = .ok (.iload_n 1, 1) := by decide +kernel
theorem dX9_left_23 : decode cX9_left 23 = .ok (.imul, 1) := by decide +kernel
theorem dX9_left_24 : decode cX9_left 24 = .ok (.iaload, 1) := by decide +kernel
theorem dX9_left_25 : decode cX9_left 25 = .ok (.aload_n 0, 1) := by decide +kernel
theorem dX9_left_26 : decode cX9_left 26 = .ok (.iload_n 1, 1) := by decide +kernel
theorem dX9_left_27 : decode cX9_left 27 = .ok (.bipush 9, 2) := by decide +kernel
theorem dX9_left_29 : decode cX9_left 29 = .ok (.iconst 0, 1) := by decide +kernel
theorem dX9_left_30 : decode cX9_left 30 = .ok (.invokevirtual 95, 3) := by decide +kernel
theorem dX9_left_33 : decode cX9_left 33 = .ok (.isub, 1) := by decide +kernel
theorem dX9_left_34 : decode cX9_left 34 = .ok (.goto 8, 3) := by decide +kernel
theorem dX9_left_37 : decode cX9_left 37 = .ok (.aload_n 0, 1) := by decide +kernel
theorem dX9_left_38 : decode cX9_left 38 = .ok (.iload_n 1, 1) := by decide +kernel
theorem dX9_left_39 : decode cX9_left 39 = .ok (.invokevirtual 111, 3) := by decide +kernel
theorem dX9_left_42 : decode cX9_left 42 = .ok (.ireturn, 1) := by decide +kernel
theorem dX9_step_0 : decode cX9_step 0 = .ok (.aload_n 0, 1) := by decide +kernel
theorem dX9_step_1 : decode cX9_step 1 = .ok (.iconst 1, 1) := by decide +kernel
theorem dX9_step_2 : decode cX9_step 2 = .ok (.iload_n 1, 1) := by decide +kernel
theorem dX9_step_3 : decode cX9_step 3 = .ok (.invokevirtual 55, 3) := by decide +kernel
theorem dX9_step_6 : decode cX9_step 6 = .ok (.ifCond .eq 10, 3) := by decide +kernel
theorem dX9_step_9 : decode cX9_step 9 = .ok (.iload_n 2, 1) := by decide +kernel
theorem dX9_step_10 : decode cX9_step 10 = .ok (.invokestatic 59, 3) := by decide +kernel
theorem dX9_step_13 : decode cX9_step 13 = .ok (.ifCond .ne 5, 3) := by decide +kernel
theorem dX9_step_16 : decode cX9_step 16 = .ok (.iconst (-1), 1) := by decide +kernel
theorem dX9_step_17 : decode cX9_step 17 = .ok (.ireturn, 1) := by decide +kernel
theorem dX9_step_18 : decode cX9_step 18 = .ok (.aload_n 0, 1) := by decide +kernel
theorem dX9_step_19 : decode cX9_step 19 = .ok (.iload_n 1, 1) := by decide +kernel
theorem dX9_step_20 : decode cX9_step 20 = .ok (.iload_n 2, 1) := by decide +kernel
theorem dX9_step_21 : decode cX9_step 21 = .ok (.iload_n 3, 1) := by decide +kernel
theorem dX9_step_22 : decode cX9_step 22 = .ok (.invokevirtual 95, 3) := by decide +kernel
theorem dX9_step_25 : decode cX9_step 25 = .ok (.istore 4, 2) := by decide +kernel
theorem dX9_step_27 : decode cX9_step 27 = .ok (.iconst 0, 1) := by decide +kernel
theorem dX9_step_28 : decode cX9_step 28 = .ok (.istore 5, 2) := by decide +kernel
theorem dX9_step_30 : decode cX9_step 30 = .ok (.iload 4, 2) := by decide +kernel
theorem dX9_step_32 : decode cX9_step 32 = .ok (.aload_n 0, 1) := by decide +kernel
theorem dX9_step_33 : decode cX9_step 33 = .ok (.getfield 32, 3) := by decide +kernel
theorem dX9_step_36 : decode cX9_step 36 = .ok (.iload 5, 2) := by decide +kernel
theorem dX9_step_38 : decode cX9_step 38 = .ok (.iconst 1, 1) := by decide +kernel
theorem dX9_step_39 : decode cX9_step 39 = .ok (.iadd, 1) := by decide +kernel
theorem dX9_step_40 : decode cX9_step 40 = .ok (.iaload, 1) := by decide +kernel
theorem dX9_step_41 : decode cX9_step 41 = .ok (.if_icmp .lt 9, 3) := by decide +kernel
theorem dX9_step_44 : decode cX9_step 44 = .ok (.iinc 5 1, 3) := by decide +kernel
theorem dX9_step_47 : decode cX9_step 47 = .ok (.goto (-17), 3) := by decide +kernel
theorem dX9_step_50 : decode cX9_step 50 = .ok (.iload 5, 2) := by decide +kernel
theorem dX9_step_52 : decode cX9_step 52 = .ok (.ireturn, 1) := by decide +kernel
theorem dX9_wall_0 : decode cX9_wall 0 = .ok (.aload_n 0, 1) := by decide +kernel
theorem dX9_wall_1 : decode cX9_wall 1 = .ok (.iconst 0, 1) := by decide +kernel
theorem dX9_wall_2 : decode cX9_wall 2 = .ok (.iload_n 1, 1) := by decide +kernel
theorem dX9_wall_3 : decode cX9_wall 3 = .ok (.invokevirtual 55, 3) := by decide +kernel
theorem dX9_wall_6 : decode cX9_wall 6 = .ok (.ifCond .eq 19, 3) := by decide +kernel
theorem dX9_wall_9 : decode cX9_wall 9 = .ok (.iload_n 2, 1) := by decide +kernel
theorem dX9_wall_10 : decode cX9_wall 10 = .ok (.invokestatic 59, 3) := by decide +kernel
theorem dX9_wall_13 : decode cX9_wall 13 = .ok (.ifCond .eq 12, 3) := by decide +kernel
theorem dX9_wall_16 : decode cX9_wall 16 = .ok (.iload_n 3, 1) := by decide +kernel
theorem dX9_wall_17 : decode cX9_wall 17 = .ok (.iconst 0, 1) := by decide +kernel
theorem dX9_wall_18 : decode cX9_wall 18 = .ok (.iconst 3, 1) := by decide +kernel
theorem dX9_wall_19 : decode cX9_wall 19 = .ok (.invokestatic 47, 3) := by decide +kernel
theorem dX9_wall_22 : decode cX9_wall 22 = .ok (.ifCond .ne 5, 3) := by decide +kernel
theorem dX9_wall_25 : decode cX9_wall 25 = .ok (.iconst (-1), 1) := by decide +kernel
theorem dX9_wall_26 : decode cX9_wall 26 = .ok (.ireturn, 1) := by decide +kernel
theorem dX9_wall_27 : decode cX9_wall 27 = .ok (.aload_n 0, 1) := by decide +kernel
theorem dX9_wall_28 : decode cX9_wall 28 = .ok (.getfield 7, 3) := by decide +kernel
theorem dX9_wall_31 : decode cX9_wall 31 = .ok (.iconst 4, 1) := by decide +kernel
theorem dX9_wall_32 : decode cX9_wall 32 = .ok (.iaload, 1) := by decide +kernel
theorem dX9_wall_33 : decode cX9_wall 33 = .ok (.iconst 5, 1) := by decide +kernel
theorem dX9_wall_34 : decode cX9_wall 34 = .ok (.if_icmp .ne 6, 3) := by decide +kernel
theorem dX9_wall_37 : decode cX9_wall 37 = .ok (.bipush (-2), 2) := by decide +kernel
theorem dX9_wall_39 : decode cX9_wall 39 = .ok (.ireturn, 1) := by decide +kernel
theorem dX9_wall_40 : decode cX9_wall 40 = .ok (.iconst 3, 1) := by decide +kernel
theorem dX9_wall_41 : decode cX9_wall 41 = .ok (.aload_n 0, 1) := by decide +kernel
theorem dX9_wall_42 : decode cX9_wall 42 = .ok (.getfield 7, 3) := by decide +kernel
theorem dX9_wall_45 : decode cX9_wall 45 = .ok (.iconst 4, 1) := by decide +kernel
theorem dX9_wall_46 : decode cX9_wall 46 = .ok (.iaload, 1) := by decide +kernel
theorem dX9_wall_47 : decode cX9_wall 47 = .ok (.imul, 1) := by decide +kernel
theorem dX9_wall_48 : decode cX9_wall 48 = .ok (.istore 4, 2) := by decide +kernel
theorem dX9_wall_50 : decode cX9_wall 50 = .ok (.aload_n 0, 1) := by decide +kernel
theorem dX9_wall_51 : decode cX9_wall 51 = .ok (.getfield 28, 3) := by decide +kernel
theorem dX9_wall_54 : decode cX9_wall 54 = .ok (.iload 4, 2) := by decide +kernel
theorem dX9_wall_56 : decode cX9_wall 56 = .ok (.iload_n 1, 1) := by decide +kernel
theorem dX9_wall_57 : decode cX9_wall 57 = .ok (.iastore, 1) := by decide +kernel
theorem dX9_wall_58 : decode cX9_wall 58 = .ok (.aload_n 0, 1) := by decide +kernel
theorem dX9_wall_59 : decode cX9_wall 59 = .ok (.getfield 28, 3) := by decide +kernel
theorem dX9_wall_62 : decode cX9_wall 62 = .ok (.iload 4, 2) := by decide +kernel
theorem dX9_wall_64 : decode cX9_wall 64 = .ok (.iconst 1, 1) := by decide +kernel
theorem dX9_wall_65 : decode cX9_wall 65 = .ok (.iadd, 1) := by decide +kernel
theorem dX9_wall_66 : decode cX9_wall 66 = .ok (.iload_n 2, 1) := by decide +kernel
theorem dX9_wall_67 : decode cX9_wall 67 = .ok (.iastore, 1) := by decide +kernel
theorem dX9_wall_68 : decode cX9_wall 68 = .ok (.aload_n 0, 1) := by decide +kernel
theorem dX9_wall_69 : decode cX9_wall 69 = .ok (.getfield 28, 3) := by decide +kernel
theorem dX9_wall_72 : decode cX9_wall 72 = .ok (.iload 4, 2) := by decide +kernel
theorem dX9_wall_74 : decode cX9_wall 74 = .ok (.iconst 2, 1) := by decide +kernel
theorem dX9_wall_75 : decode cX9_wall 75 = .ok (.iadd, 1) := by decide +kernel
theorem dX9_wall_76 : decode cX9_wall 76 = .ok (.iload_n 3, 1) := by decide +kernel
theorem dX9_wall_77 : decode cX9_wall 77 = .ok (.iastore, 1) := by decide +kernel
theorem dX9_wall_78 : decode cX9_wall 78 = .ok (.aload_n 0, 1) := by decide +kernel
theorem dX9_wall_79 : decode cX9_wall 79 = .ok (.iconst 4, 1) := by decide +kernel
theorem dX9_wall_80 : decode cX9_wall 80 = .ok (.invokevirtual 51, 3) := by decide +kernel
theorem dX9_wall_83 : decode cX9_wall 83 = .ok (.ireturn, 1) := by decide +kernel
theorem dX9_strip_0 : decode cX9_strip 0 = .ok (.aload_n 0, 1) := by decide +kernel
theorem dX9_strip_1 : decode cX9_strip 1 = .ok (.getfield 7, 3) := by decide +kernel
theorem dX9_strip_4 : decode cX9_strip 4 = .ok (.iconst 4, 1) := by decide +kernel
theorem dX9_strip_5 : decode cX9_strip 5 = .ok (.iaload, 1) := by decide +kernel
theorem dX9_strip_6 : decode cX9_strip 6 = .ok (.ifCond .ne 6, 3) := by decide +kernel
theorem dX9_strip_9 : decode cX9_strip 9 = .ok (.bipush (-4), 2) := by decide +kernel
theorem dX9_strip_11 : decode cX9_strip 11 = .ok (.ireturn, 1) := by decide +kernel
theorem dX9_strip_12 : decode cX9_strip 12 = .ok (.aload_n 0, 1) := by decide +kernel
theorem dX9_strip_13 : decode cX9_strip 13 = .ok (.getfield 7, 3) := by decide +kernel
theorem dX9_strip_16 : decode cX9_strip 16 = .ok (.iconst 4, 1) := by decide +kernel
theorem dX9_strip_17 : decode cX9_strip 17 = .ok (.dup2, 1) := by decide +kernel
theorem dX9_strip_18 : decode cX9_strip 18 = .ok (.iaload, 1) := by decide +kernel
theorem dX9_strip_19 : decode cX9_strip 19 = .ok (.iconst 1, 1) := by decide +kernel
theorem dX9_strip_20 : decode cX9_strip 20 = .ok (.isub, 1) := by decide +kernel
theorem dX9_strip_21 : decode cX9_strip 21 = .ok (.iastore, 1) := by decide +kernel
theorem dX9_strip_22 : decode cX9_strip 22 = .ok (.aload_n 0, 1) := by decide +kernel
theorem dX9_strip_23 : decode cX9_strip 23 = .ok (.getfield 7, 3) := by decide +kernel
theorem dX9_strip_26 : decode cX9_strip 26 = .ok (.iconst 4, 1) := by decide +kernel
theorem dX9_strip_27 : decode cX9_strip 27 = .ok (.iaload, 1) := by decide +kernel
theorem dX9_strip_28 : decode cX9_strip 28 = .ok (.ireturn, 1) := by decide +kernel
theorem dX9_away_0 : decode cX9_away 0 = .ok (.iload_n 0, 1) := by decide +kernel
theorem dX9_away_1 : decode cX9_away 1 = .ok (.iload_n 1, 1) := by decide +kernel
theorem dX9_away_2 : decode cX9_away 2 = .ok (.if_icmp .ge 9, 3) := by decide +kernel
theorem dX9_away_5 : decode cX9_away 5 = .ok (.iload_n 1, 1) := by decide +kernel
theorem dX9_away_6 : decode cX9_away 6 = .ok (.iload_n 0, 1) := by decide +kernel
theorem dX9_away_7 : decode cX9_away 7 = .ok (.isub, 1) := by decide +kernel
theorem dX9_away_8 : decode cX9_away 8 = .ok (.goto 6, 3) := by decide +kernel
theorem dX9_away_11 : decode cX9_away 11 = .ok (.iload_n 0, 1) := by decide +kernel
theorem dX9_away_12 : decode cX9_away 12 = .ok (.iload_n 1, 1) := by decide +kernel
theorem dX9_away_13 : decode cX9_away 13 = .ok (.isub, 1) := by decide +kernel
theorem dX9_away_14 : decode cX9_away 14 = .ok (.ireturn, 1) := by decide +kernel
theorem dX9_rests_0 : decode cX9_rests 0 = .ok (.iconst 1, 1) := by decide +kernel
theorem dX9_rests_1 : decode cX9_rests 1 = .ok (.istore_n 3, 1) := by decide +kernel
theorem dX9_rests_2 : decode cX9_rests 2 = .ok (.iconst 0, 1) := by decide +kernel
theorem dX9_rests_3 : decode cX9_rests 3 = .ok (.istore 4, 2) := by decide +kernel
theorem dX9_rests_5 : decode cX9_rests 5 = .ok (.iload 4, 2) := by decide +kernel
theorem dX9_rests_7 : decode cX9_rests 7 = .ok (.aload_n 0, 1) := by decide +kernel
theorem dX9_rests_8 : decode cX9_rests 8 = .ok (.getfield 7, 3) := by decide +kernel
theorem dX9_rests_11 : decode cX9_rests 11 = .ok (.iconst 2, 1) := by decide +kernel
theorem dX9_rests_12 : decode cX9_rests 12 = .ok (.iaload, 1) := by decide +kernel
theorem dX9_rests_13 : decode cX9_rests 13 = .ok (.if_icmp .ge 88, 3) := by decide +kernel
theorem dX9_rests_16 : decode cX9_rests 16 = .ok (.aload_n 0, 1) := by decide +kernel
theorem dX9_rests_17 : decode cX9_rests 17 = .ok (.iload 4, 2) := by decide +kernel
theorem dX9_rests_19 : decode cX9_rests 19 = .ok (.iload_n 1, 1) := by decide +kernel
theorem dX9_rests_20 : decode cX9_rests 20 = .ok (.invokevirtual 70, 3) := by decide +kernel
theorem dX9_rests_23 : decode cX9_rests 23 = .ok (.ifCond .eq 21, 3) := by decide +kernel
theorem dX9_rests_26 : decode cX9_rests 26 = .ok (.aload_n 0, 1) := by decide +kernel
theorem dX9_rests_27 : decode cX9_rests 27 = .ok (.getfield 22, 3) := by decide +kernel
theorem dX9_rests_30 : decode cX9_rests 30 = .ok (.iconst 5, 1) := by decide +kernel
theorem dX9_rests_31 : decode cX9_rests 31 = .ok (.iload 4, 2) := by decide +kernel
theorem dX9_rests_33 : decode cX9_rests 33 = .ok (.imul, 1) := by decide +kernel
theorem dX9_rests_34 : decode cX9_rests 34 = .ok (.iconst 1, 1) := by decide +kernel
theorem dX9_rests_35 : decode cX9_rests 35 = .ok (.iadd, 1) := by decide +kernel
theorem dX9_rests_36 : decode cX9_rests 36 = .ok (.iaload, 1) := by decide +kernel
theorem dX9_rests_37 : decode cX9_rests 37 = .ok (.ifCond .lt 7, 3) := by decide +kernel
theorem dX9_rests_40 : decode cX9_rests 40 = .ok (.iconst 1, 1) := by decide +kernel
theorem dX9_rests_41 : decode cX9_rests 41 = .ok (.goto 4, 3) := by decide +kernel
theorem dX9_rests_44 : decode cX9_rests 44 = .ok (.iconst 0, 1) := by decide +kernel
theorem dX9_rests_45 : decode cX9_rests 45 = .ok (.istore 5, 2) := by decide +kernel
theorem dX9_rests_47 : decode cX9_rests 47 = .ok (.aload_n 0, 1) := by decide +kernel
theorem dX9_rests_48 : decode cX9_rests 48 = .ok (.getfield 22, 3) := by decide +kernel
theorem dX9_rests_51 : decode cX9_rests 51 = .ok (.iconst 5, 1) := by decide +kernel
theorem dX9_rests_52 : decode cX9_rests 52 = .ok (.iload 4, 2) := by decide +kernel
theorem dX9_rests_54 : decode cX9_rests 54 = .ok (.imul, 1) := by decide +kernel
theorem dX9_rests_55 : decode cX9_rests 55 = .ok (.iconst 2, 1) := by decide +kernel
theorem dX9_rests_56 : decode cX9_rests 56 = .ok (.iadd, 1) := by decide +kernel
theorem dX9_rests_57 : decode cX9_rests 57 = .ok (.iaload, 1) := by decide +kernel
theorem dX9_rests_58 : decode cX9_rests 58 = .ok (.iload_n 2, 1) := by decide +kernel
theorem dX9_rests_59 : decode cX9_rests 59 = .ok (.invokestatic 115, 3) := by decide +kernel
theorem dX9_rests_62 : decode cX9_rests 62 = .ok (.istore 6, 2) := by decide +kernel
theorem dX9_rests_64 : decode cX9_rests 64 = .ok (.iload_n 3, 1) := by decide +kernel
theorem dX9_rests_65 : decode cX9_rests 65 = .ok (.ifCond .eq 28, 3) := by decide +kernel
theorem dX9_rests_68 : decode cX9_rests 68 = .ok (.iload 5, 2) := by decide +kernel
theorem dX9_rests_70 : decode cX9_rests 70 = .ok (.ifCond .eq 19, 3) := by decide +kernel
theorem dX9_rests_73 : decode cX9_rests 73 = .ok (.iload 6, 2) := by decide +kernel
theorem dX9_rests_75 : decode cX9_rests 75 = .ok (.aload_n 0, 1) := by decide +kernel
theorem dX9_rests_76 : decode cX9_rests 76 = .ok (.getfield 19, 3) := by decide +kernel
theorem dX9_rests_79 : decode cX9_rests 79 = .ok (.bipush 7, 2) := by decide +kernel
theorem dX9_rests_81 : decode cX9_rests 81 = .ok (.iload_n 1, 1) := by decide +kernel
theorem dX9_rests_82 : decode cX9_rests 82 = .ok (.imul, 1) := by decide +kernel
theorem dX9_rests_83 : decode cX9_rests 83 = .ok (.iconst 3, 1) := by decide +kernel
theorem dX9_rests_84 : decode cX9_rests 84 = .ok (.iadd, 1) := by decide +kernel
theorem dX9_rests_85 : decode cX9_rests 85 = .ok (.iaload, 1) := by decide +kernel
theorem dX9_rests_86 : decode cX9_rests 86 = .ok (.if_icmp .le 7, 3) := by decide +kernel
theorem dX9_rests_89 : decode cX9_rests 89 = .ok (.iconst 1, 1) := by decide +kernel
theorem dX9_rests_90 : decode cX9_rests 90 = .ok (.goto 4, 3) := by decide +kernel
theorem dX9_rests_93 : decode cX9_rests 93 = .ok (.iconst 0, 1) := by decide +kernel
theorem dX9_rests_94 : decode cX9_rests 94 = .ok (.istore_n 3, 1) := by decide +kernel
theorem dX9_rests_95 : decode cX9_rests 95 = .ok (.iinc 4 1, 3) := by decide +kernel
theorem dX9_rests_98 : decode cX9_rests 98 = .ok (.goto (-93), 3) := by decide +kernel
theorem dX9_rests_101 : decode cX9_rests 101 = .ok (.iload_n 3, 1) := by decide +kernel
theorem dX9_rests_102 : decode cX9_rests 102 = .ok (.ireturn, 1) := by decide +kernel
theorem dX9_fits_0 : decode cX9_fits 0 = .ok (.aload_n 0, 1) := by decide +kernel
theorem dX9_fits_1 : decode cX9_fits 1 = .ok (.getfield 38, 3) := by decide +kernel
theorem dX9_fits_4 : decode cX9_fits 4 = .ok (.iload_n 1, 1) := by decide +kernel
theorem dX9_fits_5 : decode cX9_fits 5 = .ok (.iaload, 1) := by decide +kernel
theorem dX9_fits_6 : decode cX9_fits 6 = .ok (.istore_n 2, 1) := by decide +kernel
theorem dX9_fits_7 : decode cX9_fits 7 = .ok (.iload_n 2, 1) := by decide +kernel
theorem dX9_fits_8 : decode cX9_fits 8 = .ok (.aload_n 0, 1) := by decide +kernel
theorem dX9_fits_9 : decode cX9_fits 9 = .ok (.getfield 7, 3) := by decide +kernel
theorem dX9_fits_12 : decode cX9_fits 12 = .ok (.iconst 1, 1) := by decide +kernel
theorem dX9_fits_13 : decode cX9_fits 13 = .ok (.iaload, 1) := by decide +kernel
theorem dX9_fits_14 : decode cX9_fits 14 = .ok (.if_icmp .ne 5, 3) := by decide +kernel
theorem dX9_fits_17 : decode cX9_fits 17 = .ok (.iconst 1, 1) := by decide +kernel
theorem dX9_fits_18 : decode cX9_fits 18 = .ok (.ireturn, 1) := by decide +kernel
theorem dX9_fits_19 : decode cX9_fits 19 = .ok (.aload_n 0, 1) := by decide +kernel
theorem dX9_fits_20 : decode cX9_fits 20 = .ok (.getfield 28, 3) := by decide +kernel
theorem dX9_fits_23 : decode cX9_fits 23 = .ok (.iconst 3, 1) := by decide +kernel
theorem dX9_fits_24 : decode cX9_fits 24 = .ok (.iload_n 1, 1) := by decide +kernel
theorem dX9_fits_25 : decode cX9_fits 25 = .ok (.imul, 1) := by decide +kernel
theorem dX9_fits_26 : decode cX9_fits 26 = .ok (.iconst 1, 1) := by decide +kernel
theorem dX9_fits_27 : decode cX9_fits 27 = .ok (.iadd, 1) := by decide +kernel
theorem dX9_fits_28 : decode cX9_fits 28 = .ok (.iaload, 1) := by decide +kernel
theorem dX9_fits_29 : decode cX9_fits 29 = .ok (.istore_n 3, 1) := by decide +kernel
theorem dX9_fits_30 : decode cX9_fits 30 = .ok (.aload_n 0, 1) := by decide +kernel
theorem dX9_fits_31 : decode cX9_fits 31 = .ok (.getfield 19, 3) := by decide +kernel
theorem dX9_fits_34 : decode cX9_fits 34 = .ok (.bipush 7, 2) := by decide +kernel
theorem dX9_fits_36 : decode cX9_fits 36 = .ok (.iload_n 2, 1) := by decide +kernel
theorem dX9_fits_37 : decode cX9_fits 37 = .ok (.imul, 1) := by decide +kernel
theorem dX9_fits_38 : decode cX9_fits 38 = .ok (.iconst 1, 1) := by decide +kernel
theorem dX9_fits_39 : decode cX9_fits 39 = .ok (.iadd, 1) := by decide +kernel
theorem dX9_fits_40 : decode cX9_fits 40 = .ok (.iaload, 1) := by decide +kernel
theorem dX9_fits_41 : decode cX9_fits 41 = .ok (.aload_n 0, 1) := by decide +kernel
theorem dX9_fits_42 : decode cX9_fits 42 = .ok (.getfield 28, 3) := by decide +kernel
theorem dX9_fits_45 : decode cX9_fits 45 = .ok (.iconst 3, 1) := by decide +kernel
theorem dX9_fits_46 : decode cX9_fits 46 = .ok (.iload_n 1, 1) := by decide +kernel
theorem dX9_fits_47 : decode cX9_fits 47 = .ok (.imul, 1) := by decide +kernel
theorem dX9_fits_48 : decode cX9_fits 48 = .ok (.iconst 2, 1) := by decide +kernel
theorem dX9_fits_49 : decode cX9_fits 49 = .ok (.iadd, 1) := by decide +kernel
theorem dX9_fits_50 : decode cX9_fits 50 = .ok (.iaload, 1) := by decide +kernel
theorem dX9_fits_51 : decode cX9_fits 51 = .ok (.ishr, 1) := by decide +kernel
theorem dX9_fits_52 : decode cX9_fits 52 = .ok (.iconst 1, 1) := by decide +kernel
theorem dX9_fits_53 : decode cX9_fits 53 = .ok (.iand, 1) := by decide +kernel
theorem dX9_fits_54 : decode cX9_fits 54 = .ok (.iconst 1, 1) := by decide +kernel
theorem dX9_fits_55 : decode cX9_fits 55 = .ok (.if_icmp .ne 16, 3) := by decide +kernel
theorem dX9_fits_58 : decode cX9_fits 58 = .ok (.aload_n 0, 1) := by decide +kernel
theorem dX9_fits_59 : decode cX9_fits 59 = .ok (.iload_n 2, 1) := by decide +kernel
theorem dX9_fits_60 : decode cX9_fits 60 = .ok (.iload_n 3, 1) := by decide +kernel
theorem dX9_fits_61 : decode cX9_fits 61 = .ok (.invokevirtual 119, 3) := by decide +kernel
theorem dX9_fits_64 : decode cX9_fits 64 = .ok (.ifCond .eq 7, 3) := by decide +kernel
theorem dX9_fits_67 : decode cX9_fits 67 = .ok (.iconst 1, 1) := by decide +kernel
theorem dX9_fits_68 : decode cX9_fits 68 = .ok (.goto 4, 3) := by decide +kernel
theorem dX9_fits_71 : decode cX9_fits 71 = .ok (.iconst 0, 1) := by decide +kernel
theorem dX9_fits_72 : decode cX9_fits 72 = .ok (.istore 4, 2) := by decide +kernel
theorem dX9_fits_74 : decode cX9_fits 74 = .ok (.aload_n 0, 1) := by decide +kernel
theorem dX9_fits_75 : decode cX9_fits 75 = .ok (.iload_n 2, 1) := by decide +kernel
theorem dX9_fits_76 : decode cX9_fits 76 = .ok (.invokevirtual 67, 3) := by decide +kernel
theorem dX9_fits_79 : decode cX9_fits 79 = .ok (.istore 5, 2) := by decide +kernel
theorem dX9_fits_81 : decode cX9_fits 81 = .ok (.iload 4, 2) := by decide +kernel
theorem dX9_fits_83 : decode cX9_fits 83 = .ok (.ifCond .eq 22, 3) := by decide +kernel
theorem dX9_fits_86 : decode cX9_fits 86 = .ok (.iload 5, 2) := by decide +kernel
theorem dX9_fits_88 : decode cX9_fits 88 = .ok (.ifCond .lt 13, 3) := by decide +kernel
theorem dX9_fits_91 : decode cX9_fits 91 = .ok (.aload_n 0, 1) := by decide +kernel
theorem dX9_fits_92 : decode cX9_fits 92 = .ok (.iload 5, 2) := by decide +kernel
theorem dX9_fits_94 : decode cX9_fits 94 = .ok (.iload_n 3, 1) := by decide +kernel
theorem dX9_fits_95 : decode cX9_fits 95 = .ok (.invokevirtual 104, 3) := by decide +kernel
theorem dX9_fits_98 : decode cX9_fits 98 = .ok (.ifCond .ne 7, 3) := by decide +kernel
theorem dX9_fits_101 : decode cX9_fits 101 = .ok (.iconst 1, 1) := by decide +kernel
theorem dX9_fits_102 : decode cX9_fits 102 = .ok (.goto 4, 3) := by decide +kernel
theorem dX9_fits_105 : decode cX9_fits 105 = .ok (.iconst 0, 1) := by decide +kernel
theorem dX9_fits_106 : decode cX9_fits 106 = .ok (.istore 4, 2) := by decide +kernel
theorem dX9_fits_108 : decode cX9_fits 108 = .ok (.aload_n 0, 1) := by decide +kernel
theorem dX9_fits_109 : decode cX9_fits 109 = .ok (.aload_n 0, 1) := by decide +kernel
theorem dX9_fits_110 : decode cX9_fits 110 = .ok (.getfield 28, 3) := by decide +kernel
theorem dX9_fits_113 : decode cX9_fits 113 = .ok (.iconst 3, 1) := by decide +kernel
theorem dX9_fits_114 : decode cX9_fits 114 = .ok (.iload_n 1, 1) := by decide +kernel
theorem dX9_fits_115 : decode cX9_fits 115 = .ok (.imul, 1) := by decide +kernel
theorem dX9_fits_116 : decode cX9_fits 116 = .ok (.iaload, 1) := by decide +kernel
theorem dX9_fits_117 : decode cX9_fits 117 = .ok (.iload_n 3, 1) := by decide +kernel
theorem dX9_fits_118 : decode cX9_fits 118 = .ok (.iconst 1, 1) := by decide +kernel
theorem dX9_fits_119 : decode cX9_fits 119 = .ok (.invokevirtual 63, 3) := by decide +kernel
theorem dX9_fits_122 : decode cX9_fits 122 = .ok (.istore 6, 2) := by decide +kernel
theorem dX9_fits_124 : decode cX9_fits 124 = .ok (.iconst 0, 1) := by decide +kernel
theorem dX9_fits_125 : decode cX9_fits 125 = .ok (.istore 7, 2) := by decide +kernel
theorem dX9_fits_127 : decode cX9_fits 127 = .ok (.iload 7, 2) := by decide +kernel
theorem dX9_fits_129 : decode cX9_fits 129 = .ok (.iload_n 1, 1) := by decide +kernel
theorem dX9_fits_130 : decode cX9_fits 130 = .ok (.if_icmp .ge 116, 3) := by decide +kernel
theorem dX9_fits_133 : decode cX9_fits 133 = .ok (.iload 4, 2) := by decide +kernel
theorem dX9_fits_135 : decode cX9_fits 135 = .ok (.ifCond .eq 111, 3) := by decide +kernel
theorem dX9_fits_138 : decode cX9_fits 138 = .ok (.aload_n 0, 1) := by decide +kernel
theorem dX9_fits_139 : decode cX9_fits 139 = .ok (.getfield 28, 3) := by decide +kernel
theorem dX9_fits_142 : decode cX9_fits 142 = .ok (.iconst 3, 1) := by decide +kernel
theorem dX9_fits_143 : decode cX9_fits 143 = .ok (.iload 7, 2) := by decide +kernel
theorem dX9_fits_145 : decode cX9_fits 145 = .ok (.imul, 1) := by decide +kernel
theorem dX9_fits_146 : decode cX9_fits 146 = .ok (.iconst 1, 1) := by decide +kernel
theorem dX9_fits_147 : decode cX9_fits 147 = .ok (.iadd, 1) := by decide +kernel
theorem dX9_fits_148 : decode cX9_fits 148 = .ok (.iaload, 1) := by decide +kernel
theorem dX9_fits_149 : decode cX9_fits 149 = .ok (.istore 8, 2) := by decide +kernel
theorem dX9_fits_151 : decode cX9_fits 151 = .ok (.aload_n 0, 1) := by decide +kernel
theorem dX9_fits_152 : decode cX9_fits 152 = .ok (.getfield 38, 3) := by decide +kernel
theorem dX9_fits_155 : decode cX9_fits 155 = .ok (.iload 7, 2) := by decide +kernel
theorem dX9_fits_157 : decode cX9_fits 157 = .ok (.iaload, 1) := by decide +kernel
theorem dX9_fits_158 : decode cX9_fits 158 = .ok (.iload_n 2, 1) := by decide +kernel
theorem dX9_fits_159 : decode cX9_fits 159 = .ok (.if_icmp .ne 51, 3) := by decide +kernel
theorem dX9_fits_162 : decode cX9_fits 162 = .ok (.iload 8, 2) := by decide +kernel
theorem dX9_fits_164 : decode cX9_fits 164 = .ok (.iload_n 3, 1) := by decide +kernel
theorem dX9_fits_165 : decode cX9_fits 165 = .ok (.invokestatic 115, 3) := by decide +kernel
theorem dX9_fits_168 : decode cX9_fits 168 = .ok (.aload_n 0, 1) := by decide +kernel
theorem dX9_fits_169 : decode cX9_fits 169 = .ok (.getfield 19, 3) := by decide +kernel
theorem dX9_fits_172 : decode cX9_fits 172 = .ok (.bipush 7, 2) := by decide +kernel
theorem dX9_fits_174 : decode cX9_fits 174 = .ok (.iload_n 2, 1) := by decide +kernel
theorem dX9_fits_175 : decode cX9_fits 175 = .ok (.imul, 1) := by decide +kernel
theorem dX9_fits_176 : decode cX9_fits 176 = .ok (.iconst 3, 1) := by decide +kernel
theorem dX9_fits_177 : decode cX9_fits 177 = .ok (.iadd, 1) := by decide +kernel
theorem dX9_fits_178 : decode cX9_fits 178 = .ok (.iaload, 1) := by decide +kernel
theorem dX9_fits_179 : decode cX9_fits 179 = .ok (.if_icmp .le 7, 3) := by decide +kernel
theorem dX9_fits_182 : decode cX9_fits 182 = .ok (.iconst 1, 1) := by decide +kernel
theorem dX9_fits_183 : decode cX9_fits 183 = .ok (.goto 4, 3) := by decide +kernel
theorem dX9_fits_186 : decode cX9_fits 186 = .ok (.iconst 0, 1) := by decide +kernel
theorem dX9_fits_187 : decode cX9_fits 187 = .ok (.istore 4, 2) := by decide +kernel
theorem dX9_fits_189 : decode cX9_fits 189 = .ok (.iload 6, 2) := by decide +kernel
theorem dX9_fits_191 : decode cX9_fits 191 = .ok (.aload_n 0, 1) := by decide +kernel
theorem dX9_fits_192 : decode cX9_fits 192 = .ok (.aload_n 0, 1) := by decide +kernel
theorem dX9_fits_193 : decode cX9_fits 193 = .ok (.getfield 28, 3) := by decide +kernel
theorem dX9_fits_196 : decode cX9_fits 196 = .ok (.iconst 3, 1) := by decide +kernel
theorem dX9_fits_197 : decode cX9_fits 197 = .ok (.iload 7, 2) := by decide +kernel
theorem dX9_fits_199 : decode cX9_fits 199 = .ok (.imul, 1) := by decide +kernel
theorem dX9_fits_200 : decode cX9_fits 200 = .ok (.iaload, 1) := by decide +kernel
theorem dX9_fits_201 : decode cX9_fits 201 = .ok (.iload 8, 2) := by decide +kernel
theorem dX9_fits_203 : decode cX9_fits 203 = .ok (.iconst 1, 1) := by decide +kernel
theorem dX9_fits_204 : decode cX9_fits 204 = .ok (.invokevirtual 63, 3) := by decide +kernel
theorem dX9_fits_207 : decode cX9_fits 207 = .ok (.iadd, 1) := by decide +kernel
theorem dX9_fits_208 : decode cX9_fits 208 = .ok (.istore 6, 2) := by decide +kernel
theorem dX9_fits_210 : decode cX9_fits 210 = .ok (.iload 4, 2) := by decide +kernel
theorem dX9_fits_212 : decode cX9_fits 212 = .ok (.ifCond .eq 25, 3) := by decide +kernel
theorem dX9_fits_215 : decode cX9_fits 215 = .ok (.aload_n 0, 1) := by decide +kernel
theorem dX9_fits_216 : decode cX9_fits 216 = .ok (.getfield 38, 3) := by decide +kernel
theorem dX9_fits_219 : decode cX9_fits 219 = .ok (.iload 7, 2) := by decide +kernel
theorem dX9_fits_221 : decode cX9_fits 221 = .ok (.iaload, 1) := by decide +kernel
theorem dX9_fits_222 : decode cX9_fits 222 = .ok (.iload 5, 2) := by decide +kernel
theorem dX9_fits_224 : decode cX9_fits 224 = .ok (.if_icmp .ne 9, 3) := by decide +kernel
theorem dX9_fits_227 : decode cX9_fits 227 = .ok (.iload 8, 2) := by decide +kernel
theorem dX9_fits_229 : decode cX9_fits 229 = .ok (.iload_n 3, 1) := by decide +kernel
theorem dX9_fits_230 : decode cX9_fits 230 = .ok (.if_icmp .eq 7, 3) := by decide +kernel
theorem dX9_fits_233 : decode cX9_fits 233 = .ok (.iconst 1, 1) := by decide +kernel
theorem dX9_fits_234 : decode cX9_fits 234 = .ok (.goto 4, 3) := by decide +kernel
theorem dX9_fits_237 : decode cX9_fits 237 = .ok (.iconst 0, 1) := by decide +kernel
theorem dX9_fits_238 : decode cX9_fits 238 = .ok (.istore 4, 2) := by decide +kernel
theorem dX9_fits_240 : decode cX9_fits 240 = .ok (.iinc 7 1, 3) := by decide +kernel
theorem dX9_fits_243 : decode cX9_fits 243 = .ok (.goto (-116), 3) := by decide +kernel
theorem dX9_fits_246 : decode cX9_fits 246 = .ok (.iload 4, 2) := by decide +kernel
theorem dX9_fits_248 : decode cX9_fits 248 = .ok (.ifCond .eq 18, 3) := by decide +kernel
theorem dX9_fits_251 : decode cX9_fits 251 = .ok (.iload 6, 2) := by decide +kernel
theorem dX9_fits_253 : decode cX9_fits 253 = .ok (.aload_n 0, 1) := by decide +kernel
theorem dX9_fits_254 : decode cX9_fits 254 = .ok (.getfield 44, 3) := by decide +kernel
theorem dX9_fits_257 : decode cX9_fits 257 = .ok (.iload_n 2, 1) := by decide +kernel
theorem dX9_fits_258 : decode cX9_fits 258 = .ok (.iaload, 1) := by decide +kernel
theorem dX9_fits_259 : decode cX9_fits 259 = .ok (.if_icmp .gt 7, 3) := by decide +kernel
theorem dX9_fits_262 : decode cX9_fits 262 = .ok (.iconst 1, 1) := by decide +kernel
theorem dX9_fits_263 : decode cX9_fits 263 = .ok (.goto 4, 3) := by decide +kernel
theorem dX9_fits_266 : decode cX9_fits 266 = .ok (.iconst 0, 1) := by decide +kernel
theorem dX9_fits_267 : decode cX9_fits 267 = .ok (.ireturn, 1) := by decide +kernel
theorem dX9_valueOf_0 : decode cX9_valueOf 0 = .ok (.aload_n 0, 1) := by decide +kernel
theorem dX9_valueOf_1 : decode cX9_valueOf 1 = .ok (.getfield 38, 3) := by decide +kernel
theorem dX9_valueOf_4 : decode cX9_valueOf 4 = .ok (.iload_n 1, 1) := by decide +kernel
theorem dX9_valueOf_5 : decode cX9_valueOf 5 = .ok (.iaload, 1) := by decide +kernel
theorem dX9_valueOf_6 : decode cX9_valueOf 6 = .ok (.aload_n 0, 1) := by decide +kernel
theorem dX9_valueOf_7 : decode cX9_valueOf 7 = .ok (.getfield 7, 3) := by decide +kernel
theorem dX9_valueOf_10 : decode cX9_valueOf 10 = .ok (.iconst 1, 1) := by decide +kernel
theorem dX9_valueOf_11 : decode cX9_valueOf 11 = .ok (.iaload, 1) := by decide +kernel
theorem dX9_valueOf_12 : decode cX9_valueOf 12 = .ok (.if_icmp .ne 7, 3) := by decide +kernel
theorem dX9_valueOf_15 : decode cX9_valueOf 15 = .ok (.iconst 0, 1) := by decide +kernel
theorem dX9_valueOf_16 : decode cX9_valueOf 16 = .ok (.goto 19, 3) := by decide +kernel
theorem dX9_valueOf_19 : decode cX9_valueOf 19 = .ok (.aload_n 0, 1) := by decide +kernel
theorem dX9_valueOf_20 : decode cX9_valueOf 20 = .ok (.getfield 19, 3) := by decide +kernel
theorem dX9_valueOf_23 : decode cX9_valueOf 23 = .ok (.bipush 7, 2) := by decide +kernel
theorem dX9_valueOf_25 : decode cX9_valueOf 25 = .ok (.aload_n 0, 1) := by decide +kernel
theorem dX9_valueOf_26 : decode cX9_valueOf 26 = .ok (.getfield 38, 3) := by decide +kernel
theorem dX9_valueOf_29 : decode cX9_valueOf 29 = .ok (.iload_n 1, 1) := by decide +kernel
theorem dX9_valueOf_30 : decode cX9_valueOf 30 = .ok (.iaload, 1) := by decide +kernel
theorem dX9_valueOf_31 : decode cX9_valueOf 31 = .ok (.imul, 1) := by decide +kernel
theorem dX9_valueOf_32 : decode cX9_valueOf 32 = .ok (.iconst 2, 1) := by decide +kernel
theorem dX9_valueOf_33 : decode cX9_valueOf 33 = .ok (.iadd, 1) := by decide +kernel
theorem dX9_valueOf_34 : decode cX9_valueOf 34 = .ok (.iaload, 1) := by decide +kernel
theorem dX9_valueOf_35 : decode cX9_valueOf 35 = .ok (.ireturn, 1) := by decide +kernel
theorem dX9_findHang_0 : decode cX9_findHang 0 = .ok (.iconst 0, 1) := by decide +kernel
theorem dX9_findHang_1 : decode cX9_findHang 1 = .ok (.istore_n 1, 1) := by decide +kernel
theorem dX9_findHang_2 : decode cX9_findHang 2 = .ok (.iload_n 1, 1) := by decide +kernel
theorem dX9_findHang_3 : decode cX9_findHang 3 = .ok (.aload_n 0, 1) := by decide +kernel
theorem dX9_findHang_4 : decode cX9_findHang 4 = .ok (.getfield 7, 3) := by decide +kernel
theorem dX9_findHang_7 : decode cX9_findHang 7 = .ok (.iconst 1, 1) := by decide +kernel
theorem dX9_findHang_8 : decode cX9_findHang 8 = .ok (.iaload, 1) := by decide +kernel
theorem dX9_findHang_9 : decode cX9_findHang 9 = .ok (.if_icmp .ge 20, 3) := by decide +kernel
theorem dX9_findHang_12 : decode cX9_findHang 12 = .ok (.aload_n 0, 1) := by decide +kernel
theorem dX9_findHang_13 : decode cX9_findHang 13 = .ok (.getfield 44, 3) := by decide +kernel
theorem dX9_findHang_16 : decode cX9_findHang 16 = .ok (.iload_n 1, 1) := by decide +kernel
theorem dX9_findHang_17 : decode cX9_findHang 17 = .ok (.aload_n 0, 1) := by decide +kernel
theorem dX9_findHang_18 : decode cX9_findHang 18 = .ok (.iload_n 1, 1) := by decide +kernel
theorem dX9_findHang_19 : decode cX9_findHang 19 = .ok (.invokevirtual 111, 3) := by decide +kernel
theorem dX9_findHang_22 : decode cX9_findHang 22 = .ok (.iastore, 1) := by decide +kernel
theorem dX9_findHang_23 : decode cX9_findHang 23 = .ok (.iinc 1 1, 3) := by decide +kernel
theorem dX9_findHang_26 : decode cX9_findHang 26 = .ok (.goto (-24), 3) := by decide +kernel
theorem dX9_findHang_29 : decode cX9_findHang 29 = .ok (.aload_n 0, 1) := by decide +kernel
theorem dX9_findHang_30 : decode cX9_findHang 30 = .ok (.iconst (-1), 1) := by decide +kernel
theorem dX9_findHang_31 : decode cX9_findHang 31 = .ok (.putfield 122, 3) := by decide +kernel
theorem dX9_findHang_34 : decode cX9_findHang 34 = .ok (.iconst 0, 1) := by decide +kernel
theorem dX9_findHang_35 : decode cX9_findHang 35 = .ok (.istore_n 1, 1) := by decide +kernel
theorem dX9_findHang_36 : decode cX9_findHang 36 = .ok (.aload_n 0, 1) := by decide +kernel
theorem dX9_findHang_37 : decode cX9_findHang 37 = .ok (.getfield 38, 3) := by decide +kernel
theorem dX9_findHang_40 : decode cX9_findHang 40 = .ok (.iconst 0, 1) := by decide +kernel
theorem dX9_findHang_41 : decode cX9_findHang 41 = .ok (.iconst (-1), 1) := by decide +kernel
theorem dX9_findHang_42 : decode cX9_findHang 42 = .ok (.iastore, 1) := by decide +kernel
theorem dX9_findHang_43 : decode cX9_findHang 43 = .ok (.iconst 1, 1) := by decide +kernel
theorem dX9_findHang_44 : decode cX9_findHang 44 = .ok (.istore_n 2, 1) := by decide +kernel
theorem dX9_findHang_45 : decode cX9_findHang 45 = .ok (.iload_n 2, 1) := by decide +kernel
theorem dX9_findHang_46 : decode cX9_findHang 46 = .ok (.ifCond .eq 85, 3) := by decide +kernel
theorem dX9_findHang_49 : decode cX9_findHang 49 = .ok (.iload_n 1, 1) := by decide +kernel
theorem dX9_findHang_50 : decode cX9_findHang 50 = .ok (.aload_n 0, 1) := by decide +kernel
theorem dX9_findHang_51 : decode cX9_findHang 51 = .ok (.getfield 7, 3) := by decide +kernel
theorem dX9_findHang_54 : decode cX9_findHang 54 = .ok (.iconst 4, 1) := by decide +kernel
theorem dX9_findHang_55 : decode cX9_findHang 55 = .ok (.iaload, 1) := by decide +kernel
theorem dX9_findHang_56 : decode cX9_findHang 56 = .ok (.if_icmp .ne 13, 3) := by decide +kernel
theorem dX9_findHang_59 : decode cX9_findHang 59 = .ok (.aload_n 0, 1) := by decide +kernel
theorem dX9_findHang_60 : decode cX9_findHang 60 = .ok (.invokevirtual 125, 3) := by decide +kernel
theorem dX9_findHang_63 : decode cX9_findHang 63 = .ok (.iinc 1 (-1), 3) := by decide +kernel
theorem dX9_findHang_66 : decode cX9_findHang 66 = .ok (.goto 52, 3) := by decide +kernel
theorem dX9_findHang_69 : decode cX9_findHang 69 = .ok (.aload_n 0, 1) := by decide +kernel
theorem dX9_findHang_70 : decode cX9_findHang 70 = .ok (.getfield 38, 3) := by decide +kernel
theorem dX9_findHang_73 : decode cX9_findHang 73 = .ok (.iload_n 1, 1) := by decide +kernel
theorem dX9_findHang_74 : decode cX9_findHang 74 = .ok (.dup2, 1) := by decide +kernel
theorem dX9_findHang_75 : decode cX9_findHang 75 = .ok (.iaload, 1) := by decide +kernel
theorem dX9_findHang_76 : decode cX9_findHang 76 = .ok (.iconst 1, 1) := by decide +kernel
theorem dX9_findHang_77 : decode cX9_findHang 77 = .ok (.iadd, 1) := by decide +kernel
theorem dX9_findHang_78 : decode cX9_findHang 78 = .ok (.iastore, 1) := by decide +kernel
theorem dX9_findHang_79 : decode cX9_findHang 79 = .ok (.aload_n 0, 1) := by decide +kernel
theorem dX9_findHang_80 : decode cX9_findHang 80 = .ok (.getfield 38, 3) := by decide +kernel
theorem dX9_findHang_83 : decode cX9_findHang 83 = .ok (.iload_n 1, 1) := by decide +kernel
theorem dX9_findHang_84 : decode cX9_findHang 84 = .ok (.iaload, 1) := by decide +kernel
theorem dX9_findHang_85 : decode cX9_findHang 85 = .ok (.aload_n 0, 1) := by decide +kernel
theorem dX9_findHang_86 : decode cX9_findHang 86 = .ok (.getfield 7, 3) := by decide +kernel
theorem dX9_findHang_89 : decode cX9_findHang 89 = .ok (.iconst 1, 1) := by decide +kernel
theorem dX9_findHang_90 : decode cX9_findHang 90 = .ok (.iaload, 1) := by decide +kernel
theorem dX9_findHang_91 : decode cX9_findHang 91 = .ok (.if_icmp .le 9, 3) := by decide +kernel
theorem dX9_findHang_94 : decode cX9_findHang 94 = .ok (.iinc 1 (-1), 3) := by decide +kernel
theorem dX9_findHang_97 : decode cX9_findHang 97 = .ok (.goto 21, 3) := by decide +kernel
theorem dX9_findHang_100 : decode cX9_findHang 100 = .ok (.aload_n 0, 1) := by decide +kernel
theorem dX9_findHang_101 : decode cX9_findHang 101 = .ok (.iload_n 1, 1) := by decide +kernel
theorem dX9_findHang_102 : decode cX9_findHang 102 = .ok (.invokevirtual 128, 3) := by decide +kernel
theorem dX9_findHang_105 : decode cX9_findHang 105 = .ok (.ifCond .eq 13, 3) := by decide +kernel
theorem dX9_findHang_108 : decode cX9_findHang 108 = .ok (.iinc 1 1, 3) := by decide +kernel
theorem dX9_findHang_111 : decode cX9_findHang 111 = .ok (.aload_n 0, 1) := by decide +kernel
theorem dX9_findHang_112 : decode cX9_findHang 112 = .ok (.getfield 38, 3) := by decide +kernel
theorem dX9_findHang_115 : decode cX9_findHang 115 = .ok (.iload_n 1, 1) := by decide +kernel
theorem dX9_findHang_116 : decode cX9_findHang 116 = .ok (.iconst (-1), 1) := by decide +kernel
theorem dX9_findHang_117 : decode cX9_findHang 117 = .ok (.iastore, 1) := by decide +kernel
theorem dX9_findHang_118 : decode cX9_findHang 118 = .ok (.iload_n 1, 1) := by decide +kernel
theorem dX9_findHang_119 : decode cX9_findHang 119 = .ok (.ifCond .lt 7, 3) := by decide +kernel
theorem dX9_findHang_122 : decode cX9_findHang 122 = .ok (.iconst 1, 1) := by decide +kernel
theorem dX9_findHang_123 : decode cX9_findHang 123 = .ok (.goto 4, 3) := by decide +kernel
theorem dX9_findHang_126 : decode cX9_findHang 126 = .ok (.iconst 0, 1) := by decide +kernel
theorem dX9_findHang_127 : decode cX9_findHang 127 = .ok (.istore_n 2, 1) := by decide +kernel
theorem dX9_findHang_128 : decode cX9_findHang 128 = .ok (.goto (-83), 3) := by decide +kernel
theorem dX9_findHang_131 : decode cX9_findHang 131 = .ok (.return_, 1) := by decide +kernel
theorem dX9_takes_0 : decode cX9_takes 0 = .ok (.iconst 0, 1) := by decide +kernel
theorem dX9_takes_1 : decode cX9_takes 1 = .ok (.istore_n 1, 1) := by decide +kernel
theorem dX9_takes_2 : decode cX9_takes 2 = .ok (.iconst 0, 1) := by decide +kernel
theorem dX9_takes_3 : decode cX9_takes 3 = .ok (.istore_n 2, 1) := by decide +kernel
theorem dX9_takes_4 : decode cX9_takes 4 = .ok (.iload_n 2, 1) := by decide +kernel
theorem dX9_takes_5 : decode cX9_takes 5 = .ok (.aload_n 0, 1) := by decide +kernel
theorem dX9_takes_6 : decode cX9_takes 6 = .ok (.getfield 7, 3) := by decide +kernel
theorem dX9_takes_9 : decode cX9_takes 9 = .ok (.iconst 4, 1) := by decide +kernel
theorem dX9_takes_10 : decode cX9_takes 10 = .ok (.iaload, 1) := by decide +kernel
theorem dX9_takes_11 : decode cX9_takes 11 = .ok (.if_icmp .ge 17, 3) := by decide +kernel
theorem dX9_takes_14 : decode cX9_takes 14 = .ok (.iload_n 1, 1) := by decide +kernel
theorem dX9_takes_15 : decode cX9_takes 15 = .ok (.aload_n 0, 1) := by decide +kernel
theorem dX9_takes_16 : decode cX9_takes 16 = .ok (.iload_n 2, 1) := by decide +kernel
theorem dX9_takes_17 : decode cX9_takes 17 = .ok (.invokevirtual 131, 3) := by decide +kernel
theorem dX9_takes_20 : decode cX9_takes 20 = .ok (.iadd, 1) := by decide +kernel
theorem dX9_takes_21 : decode cX9_takes 21 = .ok (.istore_n 1, 1) := by decide +kernel
theorem dX9_takes_22 : decode cX9_takes 22 = .ok (.iinc 2 1, 3) := by decide +kernel
theorem dX9_takes_25 : decode cX9_takes 25 = .ok (.goto (-21), 3) := by decide +kernel
theorem dX9_takes_28 : decode cX9_takes 28 = .ok (.iload_n 1, 1) := by decide +kernel
theorem dX9_takes_29 : decode cX9_takes 29 = .ok (.aload_n 0, 1) := by decide +kernel
theorem dX9_takes_30 : decode cX9_takes 30 = .ok (.getfield 122, 3) := by decide +kernel
theorem dX9_takes_33 : decode cX9_takes 33 = .ok (.if_icmp .le 33, 3) := by decide +kernel
theorem dX9_takes_36 : decode cX9_takes 36 = .ok (.aload_n 0, 1) := by decide +kernel
theorem dX9_takes_37 : decode cX9_takes 37 = .ok (.iload_n 1, 1) := by decide +kernel
theorem dX9_takes_38 : decode cX9_takes 38 = .ok (.putfield 122, 3) := by decide +kernel
theorem dX9_takes_41 : decode cX9_takes 41 = .ok (.iconst 0, 1) := by decide +kernel
theorem dX9_takes_42 : decode cX9_takes 42 = .ok (.istore_n 2, 1) := by decide +kernel
theorem dX9_takes_43 : decode cX9_takes 43 = .ok (.iload_n 2, 1) := by decide +kernel
theorem dX9_takes_44 : decode cX9_takes 44 = .ok (.iconst 5, 1) := by decide +kernel
theorem dX9_takes_45 : decode cX9_takes 45 = .ok (.if_icmp .ge 21, 3) := by decide +kernel
theorem dX9_takes_48 : decode cX9_takes 48 = .ok (.aload_n 0, 1) := by decide +kernel
theorem dX9_takes_49 : decode cX9_takes 49 = .ok (.getfield 41, 3) := by decide +kernel
theorem dX9_takes_52 : decode cX9_takes 52 = .ok (.iload_n 2, 1) := by decide +kernel
theorem dX9_takes_53 : decode cX9_takes 53 = .ok (.aload_n 0, 1) := by decide +kernel
theorem dX9_takes_54 : decode cX9_takes 54 = .ok (.getfield 38, 3) := by decide +kernel
theorem dX9_takes_57 : decode cX9_takes 57 = .ok (.iload_n 2, 1) := by decide +kernel
theorem dX9_takes_58 : decode cX9_takes 58 = .ok (.iaload, 1) := by decide +kernel
theorem dX9_takes_59 : decode cX9_takes 59 = .ok (.iastore, 1) := by decide +kernel
theorem dX9_takes_60 : decode cX9_takes 60 = .ok (.iinc 2 1, 3) := by decide +kernel
theorem dX9_takes_63 : decode cX9_takes 63 = .ok (.goto (-20), 3) := by decide +kernel
theorem dX9_takes_66 : decode cX9_takes 66 = .ok (.return_, 1) := by decide +kernel
theorem dX9_hung_0 : decode cX9_hung 0 = .ok (.aload_n 0, 1) := by decide +kernel
theorem dX9_hung_1 : decode cX9_hung 1 = .ok (.iconst 4, 1) := by decide +kernel
theorem dX9_hung_2 : decode cX9_hung 2 = .ok (.iload_n 1, 1) := by decide +kernel
theorem dX9_hung_3 : decode cX9_hung 3 = .ok (.invokevirtual 55, 3) := by decide +kernel
theorem dX9_hung_6 : decode cX9_hung 6 = .ok (.ifCond .ne 5, 3) := by decide +kernel
theorem dX9_hung_9 : decode cX9_hung 9 = .ok (.iconst (-1), 1) := by decide +kernel
theorem dX9_hung_10 : decode cX9_hung 10 = .ok (.ireturn, 1) := by decide +kernel
theorem dX9_hung_11 : decode cX9_hung 11 = .ok (.aload_n 0, 1) := by decide +kernel
theorem dX9_hung_12 : decode cX9_hung 12 = .ok (.invokevirtual 134, 3) := by decide +kernel
theorem dX9_hung_15 : decode cX9_hung 15 = .ok (.aload_n 0, 1) := by decide +kernel
theorem dX9_hung_16 : decode cX9_hung 16 = .ok (.getfield 41, 3) := by decide +kernel
theorem dX9_hung_19 : decode cX9_hung 19 = .ok (.iload_n 1, 1) := by decide +kernel
theorem dX9_hung_20 : decode cX9_hung 20 = .ok (.iaload, 1) := by decide +kernel
theorem dX9_hung_21 : decode cX9_hung 21 = .ok (.aload_n 0, 1) := by decide +kernel
theorem dX9_hung_22 : decode cX9_hung 22 = .ok (.getfield 7, 3) := by decide +kernel
theorem dX9_hung_25 : decode cX9_hung 25 = .ok (.iconst 1, 1) := by decide +kernel
theorem dX9_hung_26 : decode cX9_hung 26 = .ok (.iaload, 1) := by decide +kernel
theorem dX9_hung_27 : decode cX9_hung 27 = .ok (.if_icmp .ne 8, 3) := by decide +kernel
theorem dX9_hung_30 : decode cX9_hung 30 = .ok (.bipush (-4), 2) := by decide +kernel
theorem dX9_hung_32 : decode cX9_hung 32 = .ok (.goto 9, 3) := by decide +kernel
theorem dX9_hung_35 : decode cX9_hung 35 = .ok (.aload_n 0, 1) := by decide +kernel
theorem dX9_hung_36 : decode cX9_hung 36 = .ok (.getfield 41, 3) := by decide +kernel
theorem dX9_hung_39 : decode cX9_hung 39 = .ok (.iload_n 1, 1) := by decide +kernel
theorem dX9_hung_40 : decode cX9_hung 40 = .ok (.iaload, 1) := by decide +kernel
theorem dX9_hung_41 : decode cX9_hung 41 = .ok (.ireturn, 1) := by decide +kernel
theorem dX9_worth_0 : decode cX9_worth 0 = .ok (.aload_n 0, 1) := by decide +kernel
theorem dX9_worth_1 : decode cX9_worth 1 = .ok (.invokevirtual 134, 3) := by decide +kernel
theorem dX9_worth_4 : decode cX9_worth 4 = .ok (.aload_n 0, 1) := by decide +kernel
theorem dX9_worth_5 : decode cX9_worth 5 = .ok (.getfield 122, 3) := by decide +kernel
theorem dX9_worth_8 : decode cX9_worth 8 = .ok (.ireturn, 1) := by decide +kernel
theorem dX9_spares_0 : decode cX9_spares 0 = .ok (.aload_n 0, 1) := by decide +kernel
theorem dX9_spares_1 : decode cX9_spares 1 = .ok (.iconst 1, 1) := by decide +kernel
theorem dX9_spares_2 : decode cX9_spares 2 = .ok (.iload_n 1, 1) := by decide +kernel
theorem dX9_spares_3 : decode cX9_spares 3 = .ok (.invokevirtual 55, 3) := by decide +kernel
theorem dX9_spares_6 : decode cX9_spares 6 = .ok (.ifCond .ne 6, 3) := by decide +kernel
theorem dX9_spares_9 : decode cX9_spares 9 = .ok (.ldc 114, 2) := by decide +kernel
theorem dX9_spares_11 : decode cX9_spares 11 = .ok (.ireturn, 1) := by decide +kernel
theorem dX9_spares_12 : decode cX9_spares 12 = .ok (.aload_n 0, 1) := by decide +kernel
theorem dX9_spares_13 : decode cX9_spares 13 = .ok (.invokevirtual 134, 3) := by decide +kernel
theorem dX9_spares_16 : decode cX9_spares 16 = .ok (.aload_n 0, 1) := by decide +kernel
theorem dX9_spares_17 : decode cX9_spares 17 = .ok (.iload_n 1, 1) := by decide +kernel
theorem dX9_spares_18 : decode cX9_spares 18 = .ok (.invokevirtual 111, 3) := by decide +kernel
theorem dX9_spares_21 : decode cX9_spares 21 = .ok (.istore_n 2, 1) := by decide +kernel
theorem dX9_spares_22 : decode cX9_spares 22 = .ok (.iconst 0, 1) := by decide +kernel
theorem dX9_spares_23 : decode cX9_spares 23 = .ok (.istore_n 3, 1) := by decide +kernel
theorem dX9_spares_24 : decode cX9_spares 24 = .ok (.iload_n 3, 1) := by decide +kernel
theorem dX9_spares_25 : decode cX9_spares 25 = .ok (.aload_n 0, 1) := by decide +kernel
theorem dX9_spares_26 : decode cX9_spares 26 = .ok (.getfield 7, 3) := by decide +kernel
theorem dX9_spares_29 : decode cX9_spares 29 = .ok (.iconst 4, 1) := by decide +kernel
theorem dX9_spares_30 : decode cX9_spares 30 = .ok (.iaload, 1) := by decide +kernel
theorem dX9_spares_31 : decode cX9_spares 31 = .ok (.if_icmp .ge 49, 3) := by decide +kernel
theorem dX9_spares_34 : decode cX9_spares 34 = .ok (.iload_n 2, 1) := by decide +kernel
theorem dX9_spares_35 : decode cX9_spares 35 = .ok (.aload_n 0, 1) := by decide +kernel
theorem dX9_spares_36 : decode cX9_spares 36 = .ok (.getfield 41, 3) := by decide +kernel
theorem dX9_spares_39 : decode cX9_spares 39 = .ok (.iload_n 3, 1) := by decide +kernel
theorem dX9_spares_40 : decode cX9_spares 40 = .ok (.iaload, 1) := by decide +kernel
theorem dX9_spares_41 : decode cX9_spares 41 = .ok (.iload_n 1, 1) := by decide +kernel
theorem dX9_spares_42 : decode cX9_spares 42 = .ok (.if_icmp .ne 29, 3) := by decide +kernel
theorem dX9_spares_45 : decode cX9_spares 45 = .ok (.aload_n 0, 1) := by decide +kernel
theorem dX9_spares_46 : decode cX9_spares 46 = .ok (.aload_n 0, 1) := by decide +kernel
theorem dX9_spares_47 : decode cX9_spares 47 = .ok (.getfield 28, 3) := by decide +kernel
theorem dX9_spares_50 : decode cX9_spares 50 = .ok (.iconst 3, 1) := by decide +kernel
theorem dX9_spares_51 : decode cX9_spares 51 = .ok (.iload_n 3, 1) := by decide +kernel
theorem dX9_spares_52 : decode cX9_spares 52 = .ok (.imul, 1) := by decide +kernel
theorem dX9_spares_53 : decode cX9_spares 53 = .ok (.iaload, 1) := by decide +kernel
theorem dX9_spares_54 : decode cX9_spares 54 = .ok (.aload_n 0, 1) := by decide +kernel
theorem dX9_spares_55 : decode cX9_spares 55 = .ok (.getfield 28, 3) := by decide +kernel
theorem dX9_spares_58 : decode cX9_spares 58 = .ok (.iconst 3, 1) := by decide +kernel
theorem dX9_spares_59 : decode cX9_spares 59 = .ok (.iload_n 3, 1) := by decide +kernel
theorem dX9_spares_60 : decode cX9_spares 60 = .ok (.imul, 1) := by decide +kernel
theorem dX9_spares_61 : decode cX9_spares 61 = .ok (.iconst 1, 1) := by decide +kernel
theorem dX9_spares_62 : decode cX9_spares 62 = .ok (.iadd, 1) := by decide +kernel
theorem dX9_spares_63 : decode cX9_spares 63 = .ok (.iaload, 1) := by decide +kernel
theorem dX9_spares_64 : decode cX9_spares 64 = .ok (.iconst 1, 1) := by decide +kernel
theorem dX9_spares_65 : decode cX9_spares 65 = .ok (.invokevirtual 63, 3) := by decide +kernel
theorem dX9_spares_68 : decode cX9_spares 68 = .ok (.goto 4, 3) := by decide +kernel
theorem dX9_spares_71 : decode cX9_spares 71 = .ok (.iconst 0, 1) := by decide +kernel
theorem dX9_spares_72 : decode cX9_spares 72 = .ok (.isub, 1) := by decide +kernel
theorem dX9_spares_73 : decode cX9_spares 73 = .ok (.istore_n 2, 1) := by decide +kernel
theorem dX9_spares_74 : decode cX9_spares 74 = .ok (.iinc 3 1, 3) := by decide +kernel
theorem dX9_spares_77 : decode cX9_spares 77 = .ok (.goto (-53), 3) := by decide +kernel
theorem dX9_spares_80 : decode cX9_spares 80 = .ok (.iload_n 2, 1) := by decide +kernel
theorem dX9_spares_81 : decode cX9_spares 81 = .ok (.ireturn, 1) := by decide +kernel
theorem dX9_hang_0 : decode cX9_hang 0 = .ok (.aload_n 0, 1) := by decide +kernel
theorem dX9_hang_1 : decode cX9_hang 1 = .ok (.invokevirtual 134, 3) := by decide +kernel
theorem dX9_hang_4 : decode cX9_hang 4 = .ok (.iconst 0, 1) := by decide +kernel
theorem dX9_hang_5 : decode cX9_hang 5 = .ok (.istore_n 1, 1) := by decide +kernel
theorem dX9_hang_6 : decode cX9_hang 6 = .ok (.iconst 0, 1) := by decide +kernel
theorem dX9_hang_7 : decode cX9_hang 7 = .ok (.istore_n 2, 1) := by decide +kernel
theorem dX9_hang_8 : decode cX9_hang 8 = .ok (.iload_n 2, 1) := by decide +kernel
theorem dX9_hang_9 : decode cX9_hang 9 = .ok (.aload_n 0, 1) := by decide +kernel
theorem dX9_hang_10 : decode cX9_hang 10 = .ok (.getfield 7, 3) := by decide +kernel
theorem dX9_hang_13 : decode cX9_hang 13 = .ok (.iconst 4, 1) := by decide +kernel
theorem dX9_hang_14 : decode cX9_hang 14 = .ok (.iaload, 1) := by decide +kernel
theorem dX9_hang_15 : decode cX9_hang 15 = .ok (.if_icmp .ge 32, 3) := by decide +kernel
theorem dX9_hang_18 : decode cX9_hang 18 = .ok (.iload_n 1, 1) := by decide +kernel
theorem dX9_hang_19 : decode cX9_hang 19 = .ok (.aload_n 0, 1) := by decide +kernel
theorem dX9_hang_20 : decode cX9_hang 20 = .ok (.getfield 41, 3) := by decide +kernel
theorem dX9_hang_23 : decode cX9_hang 23 = .ok (.iload_n 2, 1) := by decide +kernel
theorem dX9_hang_24 : decode cX9_hang 24 = .ok (.iaload, 1) := by decide +kernel
theorem dX9_hang_25 : decode cX9_hang 25 = .ok (.aload_n 0, 1) := by decide +kernel
theorem dX9_hang_26 : decode cX9_hang 26 = .ok (.getfield 7, 3) := by decide +kernel
theorem dX9_hang_29 : decode cX9_hang 29 = .ok (.iconst 1, 1) := by decide +kernel
theorem dX9_hang_30 : decode cX9_hang 30 = .ok (.iaload, 1) := by decide +kernel
theorem dX9_hang_31 : decode cX9_hang 31 = .ok (.if_icmp .ne 7, 3) := by decide +kernel
theorem dX9_hang_34 : decode cX9_hang 34 = .ok (.iconst 0, 1) := by decide +kernel
theorem dX9_hang_35 : decode cX9_hang 35 = .ok (.goto 4, 3) := by decide +kernel
theorem dX9_hang_38 : decode cX9_hang 38 = .ok (.iconst 1, 1) := by decide +kernel
theorem dX9_hang_39 : decode cX9_hang 39 = .ok (.iadd, 1) := by decide +kernel
theorem dX9_hang_40 : decode cX9_hang 40 = .ok (.istore_n 1, 1) := by decide +kernel
theorem dX9_hang_41 : decode cX9_hang 41 = .ok (.iinc 2 1, 3) := by decide +kernel
theorem dX9_hang_44 : decode cX9_hang 44 = .ok (.goto (-36), 3) := by decide +kernel
theorem dX9_hang_47 : decode cX9_hang 47 = .ok (.aload_n 0, 1) := by decide +kernel
theorem dX9_hang_48 : decode cX9_hang 48 = .ok (.getfield 7, 3) := by decide +kernel
theorem dX9_hang_51 : decode cX9_hang 51 = .ok (.iconst 2, 1) := by decide +kernel
theorem dX9_hang_52 : decode cX9_hang 52 = .ok (.iaload, 1) := by decide +kernel
theorem dX9_hang_53 : decode cX9_hang 53 = .ok (.iload_n 1, 1) := by decide +kernel
theorem dX9_hang_54 : decode cX9_hang 54 = .ok (.iadd, 1) := by decide +kernel
theorem dX9_hang_55 : decode cX9_hang 55 = .ok (.bipush 30, 2) := by decide +kernel
theorem dX9_hang_57 : decode cX9_hang 57 = .ok (.if_icmp .le 6, 3) := by decide +kernel
theorem dX9_hang_60 : decode cX9_hang 60 = .ok (.bipush (-2), 2) := by decide +kernel
theorem dX9_hang_62 : decode cX9_hang 62 = .ok (.ireturn, 1) := by decide +kernel
theorem dX9_hang_63 : decode cX9_hang 63 = .ok (.iconst 0, 1) := by decide +kernel
theorem dX9_hang_64 : decode cX9_hang 64 = .ok (.istore_n 2, 1) := by decide +kernel
theorem dX9_hang_65 : decode cX9_hang 65 = .ok (.iload_n 2, 1) := by decide +kernel
theorem dX9_hang_66 : decode cX9_hang 66 = .ok (.aload_n 0, 1) := by decide +kernel
theorem dX9_hang_67 : decode cX9_hang 67 = .ok (.getfield 7, 3) := by decide +kernel
theorem dX9_hang_70 : decode cX9_hang 70 = .ok (.iconst 4, 1) := by decide +kernel
theorem dX9_hang_71 : decode cX9_hang 71 = .ok (.iaload, 1) := by decide +kernel
theorem dX9_hang_72 : decode cX9_hang 72 = .ok (.if_icmp .ge 54, 3) := by decide +kernel
theorem dX9_hang_75 : decode cX9_hang 75 = .ok (.aload_n 0, 1) := by decide +kernel
theorem dX9_hang_76 : decode cX9_hang 76 = .ok (.getfield 41, 3) := by decide +kernel
theorem dX9_hang_79 : decode cX9_hang 79 = .ok (.iload_n 2, 1) := by decide +kernel
theorem dX9_hang_80 : decode cX9_hang 80 = .ok (.iaload, 1) := by decide +kernel
theorem dX9_hang_81 : decode cX9_hang 81 = .ok (.aload_n 0, 1) := by decide +kernel
theorem dX9_hang_82 : decode cX9_hang 82 = .ok (.getfield 7, 3) := by decide +kernel
theorem dX9_hang_85 : decode cX9_hang 85 = .ok (.iconst 1, 1) := by decide +kernel
theorem dX9_hang_86 : decode cX9_hang 86 = .ok (.iaload, 1) := by decide +kernel
theorem dX9_hang_87 : decode cX9_hang 87 = .ok (.if_icmp .ge 33, 3) := by decide +kernel
theorem dX9_hang_90 : decode cX9_hang 90 = .ok (.aload_n 0, 1) := by decide +kernel
theorem dX9_hang_91 : decode cX9_hang 91 = .ok (.aload_n 0, 1) := by decide +kernel
theorem dX9_hang_92 : decode cX9_hang 92 = .ok (.getfield 41, 3) := by decide +kernel
theorem dX9_hang_95 : decode cX9_hang 95 = .ok (.iload_n 2, 1) := by decide +kernel
theorem dX9_hang_96 : decode cX9_hang 96 = .ok (.iaload, 1) := by decide +kernel
theorem dX9_hang_97 : decode cX9_hang 97 = .ok (.aload_n 0, 1) := by decide +kernel
theorem dX9_hang_98 : decode cX9_hang 98 = .ok (.getfield 28, 3) := by decide +kernel
theorem dX9_hang_101 : decode cX9_hang 101 = .ok (.iconst 3, 1) := by decide +kernel
theorem dX9_hang_102 : decode cX9_hang 102 = .ok (.iload_n 2, 1) := by decide +kernel
theorem dX9_hang_103 : decode cX9_hang 103 = .ok (.imul, 1) := by decide +kernel
theorem dX9_hang_104 : decode cX9_hang 104 = .ok (.iaload, 1) := by decide +kernel
theorem dX9_hang_105 : decode cX9_hang 105 = .ok (.aload_n 0, 1) := by decide +kernel
theorem dX9_hang_106 : decode cX9_hang 106 = .ok (.getfield 28, 3) := by decide +kernel
theorem dX9_hang_109 : decode cX9_hang 109 = .ok (.iconst 3, 1) := by decide +kernel
theorem dX9_hang_110 : decode cX9_hang 110 = .ok (.iload_n 2, 1) := by decide +kernel
theorem dX9_hang_111 : decode cX9_hang 111 = .ok (.imul, 1) := by decide +kernel
theorem dX9_hang_112 : decode cX9_hang 112 = .ok (.iconst 1, 1) := by decide +kernel
theorem dX9_hang_113 : decode cX9_hang 113 = .ok (.iadd, 1) := by decide +kernel
theorem dX9_hang_114 : decode cX9_hang 114 = .ok (.iaload, 1) := by decide +kernel
theorem dX9_hang_115 : decode cX9_hang 115 = .ok (.iconst 0, 1) := by decide +kernel
theorem dX9_hang_116 : decode cX9_hang 116 = .ok (.invokevirtual 107, 3) := by decide +kernel
theorem dX9_hang_119 : decode cX9_hang 119 = .ok (.istore_n 3, 1) := by decide +kernel
theorem dX9_hang_120 : decode cX9_hang 120 = .ok (.iinc 2 1, 3) := by decide +kernel
theorem dX9_hang_123 : decode cX9_hang 123 = .ok (.goto (-58), 3) := by decide +kernel
theorem dX9_hang_126 : decode cX9_hang 126 = .ok (.aload_n 0, 1) := by decide +kernel
theorem dX9_hang_127 : decode cX9_hang 127 = .ok (.getfield 7, 3) := by decide +kernel
theorem dX9_hang_130 : decode cX9_hang 130 = .ok (.iconst 4, 1) := by decide +kernel
theorem dX9_hang_131 : decode cX9_hang 131 = .ok (.iconst 0, 1) := by decide +kernel
theorem dX9_hang_132 : decode cX9_hang 132 = .ok (.iastore, 1) := by decide +kernel
theorem dX9_hang_133 : decode cX9_hang 133 = .ok (.iload_n 1, 1) := by decide +kernel
theorem dX9_hang_134 : decode cX9_hang 134 = .ok (.ireturn, 1) := by decide +kernel
theorem dX9_cancelled_0 : decode cX9_cancelled 0 = .ok (.iconst 0, 1) := by decide +kernel
theorem dX9_cancelled_1 : decode cX9_cancelled 1 = .ok (.istore_n 1, 1) := by decide +kernel
theorem dX9_cancelled_2 : decode cX9_cancelled 2 = .ok (.iconst 0, 1) := by decide +kernel
theorem dX9_cancelled_3 : decode cX9_cancelled 3 = .ok (.istore_n 2, 1) := by decide +kernel
theorem dX9_cancelled_4 : decode cX9_cancelled 4 = .ok (.iload_n 2, 1) := by decide +kernel
theorem dX9_cancelled_5 : decode cX9_cancelled 5 = .ok (.aload_n 0, 1) := by decide +kernel
theorem dX9_cancelled_6 : decode cX9_cancelled 6 = .ok (.getfield 7, 3) := by decide +kernel
theorem dX9_cancelled_9 : decode cX9_cancelled 9 = .ok (.iconst 2, 1) := by decide +kernel
theorem dX9_cancelled_10 : decode cX9_cancelled 10 = .ok (.iaload, 1) := by decide +kernel
theorem dX9_cancelled_11 : decode cX9_cancelled 11 = .ok (.if_icmp .ge 22, 3) := by decide +kernel
theorem dX9_cancelled_14 : decode cX9_cancelled 14 = .ok (.iload_n 1, 1) := by decide +kernel
theorem dX9_cancelled_15 : decode cX9_cancelled 15 = .ok (.aload_n 0, 1) := by decide +kernel
theorem dX9_cancelled_16 : decode cX9_cancelled 16 = .ok (.getfield 22, 3) := by decide +kernel
theorem dX9_cancelled_19 : decode cX9_cancelled 19 = .ok (.iconst 5, 1) := by decide +kernel
theorem dX9_cancelled_20 : decode cX9_cancelled 20 = .ok (.iload_n 2, 1) := by decide +kernel
theorem dX9_cancelled_21 : decode cX9_cancelled 21 = .ok (.imul, 1) := by decide +kernel
theorem dX9_cancelled_22 : decode cX9_cancelled 22 = .ok (.iconst 4, 1) := by decide +kernel
theorem dX9_cancelled_23 : decode cX9_cancelled 23 = .ok (.iadd, 1) := by decide +kernel
theorem dX9_cancelled_24 : decode cX9_cancelled 24 = .ok (.iaload, 1) := by decide +kernel
theorem dX9_cancelled_25 : decode cX9_cancelled 25 = .ok (.iadd, 1) := by decide +kernel
theorem dX9_cancelled_26 : decode cX9_cancelled 26 = .ok (.istore_n 1, 1) := by decide +kernel
theorem dX9_cancelled_27 : decode cX9_cancelled 27 = .ok (.iinc 2 1, 3) := by decide +kernel
theorem dX9_cancelled_30 : decode cX9_cancelled 30 = .ok (.goto (-26), 3) := by decide +kernel
theorem dX9_cancelled_33 : decode cX9_cancelled 33 = .ok (.iload_n 1, 1) := by decide +kernel
theorem dX9_cancelled_34 : decode cX9_cancelled 34 = .ok (.ireturn, 1) := by decide +kernel
theorem dX9_quarrels_0 : decode cX9_quarrels 0 = .ok (.iconst 0, 1) := by decide +kernel
theorem dX9_quarrels_1 : decode cX9_quarrels 1 = .ok (.istore_n 1, 1) := by decide +kernel
theorem dX9_quarrels_2 : decode cX9_quarrels 2 = .ok (.iconst 0, 1) := by decide +kernel
theorem dX9_quarrels_3 : decode cX9_quarrels 3 = .ok (.istore_n 2, 1) := by decide +kernel
theorem dX9_quarrels_4 : decode cX9_quarrels 4 = .ok (.iload_n 2, 1) := by decide +kernel
theorem dX9_quarrels_5 : decode cX9_quarrels 5 = .ok (.aload_n 0, 1) := by decide +kernel
theorem dX9_quarrels_6 : decode cX9_quarrels 6 = .ok (.getfield 7, 3) := by decide +kernel
theorem dX9_quarrels_9 : decode cX9_quarrels 9 = .ok (.iconst 1, 1) := by decide +kernel
theorem dX9_quarrels_10 : decode cX9_quarrels 10 = .ok (.iaload, 1) := by decide +kernel
theorem dX9_quarrels_11 : decode cX9_quarrels 11 = .ok (.if_icmp .ge 18, 3) := by decide +kernel
theorem dX9_quarrels_14 : decode cX9_quarrels 14 = .ok (.iload_n 1, 1) := by decide +kernel
theorem dX9_quarrels_15 : decode cX9_quarrels 15 = .ok (.aload_n 0, 1) := by decide +kernel
theorem dX9_quarrels_16 : decode cX9_quarrels 16 = .ok (.iload_n 2, 1) := by decide +kernel
theorem dX9_quarrels_17 : decode cX9_quarrels 17 = .ok (.iconst 5, 1) := by decide +kernel
theorem dX9_quarrels_18 : decode cX9_quarrels 18 = .ok (.invokevirtual 137, 3) := by decide +kernel
theorem dX9_quarrels_21 : decode cX9_quarrels 21 = .ok (.iadd, 1) := by decide +kernel
theorem dX9_quarrels_22 : decode cX9_quarrels 22 = .ok (.istore_n 1, 1) := by decide +kernel
theorem dX9_quarrels_23 : decode cX9_quarrels 23 = .ok (.iinc 2 1, 3) := by decide +kernel
theorem dX9_quarrels_26 : decode cX9_quarrels 26 = .ok (.goto (-22), 3) := by decide +kernel
theorem dX9_quarrels_29 : decode cX9_quarrels 29 = .ok (.iload_n 1, 1) := by decide +kernel
theorem dX9_quarrels_30 : decode cX9_quarrels 30 = .ok (.ireturn, 1) := by decide +kernel
theorem dX9_overspent_0 : decode cX9_overspent 0 = .ok (.iconst 0, 1) := by decide +kernel
theorem dX9_overspent_1 : decode cX9_overspent 1 = .ok (.istore_n 1, 1) := by decide +kernel
theorem dX9_overspent_2 : decode cX9_overspent 2 = .ok (.iconst 0, 1) := by decide +kernel
theorem dX9_overspent_3 : decode cX9_overspent 3 = .ok (.istore_n 2, 1) := by decide +kernel
theorem dX9_overspent_4 : decode cX9_overspent 4 = .ok (.iload_n 2, 1) := by decide +kernel
theorem dX9_overspent_5 : decode cX9_overspent 5 = .ok (.aload_n 0, 1) := by decide +kernel
theorem dX9_overspent_6 : decode cX9_overspent 6 = .ok (.getfield 7, 3) := by decide +kernel
theorem dX9_overspent_9 : decode cX9_overspent 9 = .ok (.iconst 1, 1) := by decide +kernel
theorem dX9_overspent_10 : decode cX9_overspent 10 = .ok (.iaload, 1) := by decide +kernel
theorem dX9_overspent_11 : decode cX9_overspent 11 = .ok (.if_icmp .ge 25, 3) := by decide +kernel
theorem dX9_overspent_14 : decode cX9_overspent 14 = .ok (.iload_n 1, 1) := by decide +kernel
theorem dX9_overspent_15 : decode cX9_overspent 15 = .ok (.aload_n 0, 1) := by decide +kernel
theorem dX9_overspent_16 : decode cX9_overspent 16 = .ok (.iload_n 2, 1) := by decide +kernel
theorem dX9_overspent_17 : decode cX9_overspent 17 = .ok (.invokevirtual 111, 3) := by decide +kernel
theorem dX9_overspent_20 : decode cX9_overspent 20 = .ok (.ifCond .ge 7, 3) := by decide +kernel
theorem dX9_overspent_23 : decode cX9_overspent 23 = .ok (.iconst 1, 1) := by decide +kernel
theorem dX9_overspent_24 : decode cX9_overspent 24 = .ok (.goto 4, 3) := by decide +kernel
theorem dX9_overspent_27 : decode cX9_overspent 27 = .ok (.iconst 0, 1) := by decide +kernel
theorem dX9_overspent_28 : decode cX9_overspent 28 = .ok (.iadd, 1) := by decide +kernel
theorem dX9_overspent_29 : decode cX9_overspent 29 = .ok (.istore_n 1, 1) := by decide +kernel
theorem dX9_overspent_30 : decode cX9_overspent 30 = .ok (.iinc 2 1, 3) := by decide +kernel
theorem dX9_overspent_33 : decode cX9_overspent 33 = .ok (.goto (-29), 3) := by decide +kernel
theorem dX9_overspent_36 : decode cX9_overspent 36 = .ok (.iload_n 1, 1) := by decide +kernel
theorem dX9_overspent_37 : decode cX9_overspent 37 = .ok (.ireturn, 1) := by decide +kernel
theorem dX9_readMany_0 : decode cX9_readMany 0 = .ok (.iconst 0, 1) := by decide +kernel
theorem dX9_readMany_1 : decode cX9_readMany 1 = .ok (.istore_n 1, 1) := by decide +kernel
theorem dX9_readMany_2 : decode cX9_readMany 2 = .ok (.iconst 0, 1) := by decide +kernel
theorem dX9_readMany_3 : decode cX9_readMany 3 = .ok (.istore_n 2, 1) := by decide +kernel
theorem dX9_readMany_4 : decode cX9_readMany 4 = .ok (.iload_n 2, 1) := by decide +kernel
theorem dX9_readMany_5 : decode cX9_readMany 5 = .ok (.bipush 10, 2) := by decide +kernel
theorem dX9_readMany_7 : decode cX9_readMany 7 = .ok (.aload_n 0, 1) := by decide +kernel
theorem dX9_readMany_8 : decode cX9_readMany 8 = .ok (.getfield 7, 3) := by decide +kernel
theorem dX9_readMany_11 : decode cX9_readMany 11 = .ok (.iconst 0, 1) := by decide +kernel
theorem dX9_readMany_12 : decode cX9_readMany 12 = .ok (.iaload, 1) := by decide +kernel
theorem dX9_readMany_13 : decode cX9_readMany 13 = .ok (.imul, 1) := by decide +kernel
theorem dX9_readMany_14 : decode cX9_readMany 14 = .ok (.if_icmp .ge 26, 3) := by decide +kernel
theorem dX9_readMany_17 : decode cX9_readMany 17 = .ok (.iload_n 1, 1) := by decide +kernel
theorem dX9_readMany_18 : decode cX9_readMany 18 = .ok (.aload_n 0, 1) := by decide +kernel
theorem dX9_readMany_19 : decode cX9_readMany 19 = .ok (.getfield 16, 3) := by decide +kernel
theorem dX9_readMany_22 : decode cX9_readMany 22 = .ok (.iload_n 2, 1) := by decide +kernel
theorem dX9_readMany_23 : decode cX9_readMany 23 = .ok (.iaload, 1) := by decide +kernel
theorem dX9_readMany_24 : decode cX9_readMany 24 = .ok (.ifCond .lt 7, 3) := by decide +kernel
theorem dX9_readMany_27 : decode cX9_readMany 27 = .ok (.iconst 1, 1) := by decide +kernel
theorem dX9_readMany_28 : decode cX9_readMany 28 = .ok (.goto 4, 3) := by decide +kernel
theorem dX9_readMany_31 : decode cX9_readMany 31 = .ok (.iconst 0, 1) := by decide +kernel
theorem dX9_readMany_32 : decode cX9_readMany 32 = .ok (.iadd, 1) := by decide +kernel
theorem dX9_readMany_33 : decode cX9_readMany 33 = .ok (.istore_n 1, 1) := by decide +kernel
theorem dX9_readMany_34 : decode cX9_readMany 34 = .ok (.iinc 2 1, 3) := by decide +kernel
theorem dX9_readMany_37 : decode cX9_readMany 37 = .ok (.goto (-33), 3) := by decide +kernel
theorem dX9_readMany_40 : decode cX9_readMany 40 = .ok (.iload_n 1, 1) := by decide +kernel
theorem dX9_readMany_41 : decode cX9_readMany 41 = .ok (.ireturn, 1) := by decide +kernel
theorem dX9_many_0 : decode cX9_many 0 = .ok (.iload_n 1, 1) := by decide +kernel
theorem dX9_many_1 : decode cX9_many 1 = .ok (.tableswitch 106 0 8 #[51, 58, 65, 72, 77, 84, 91, 96, 101], 51) := by decide +kernel
theorem dX9_many_52 : decode cX9_many 52 = .ok (.aload_n 0, 1) := by decide +kernel
theorem dX9_many_53 : decode cX9_many 53 = .ok (.getfield 7, 3) := by decide +kernel
theorem dX9_many_56 : decode cX9_many 56 = .ok (.iconst 0, 1) := by decide +kernel
theorem dX9_many_57 : decode cX9_many 57 = .ok (.iaload, 1) := by decide +kernel
theorem dX9_many_58 : decode cX9_many 58 = .ok (.ireturn, 1) := by decide +kernel
theorem dX9_many_59 : decode cX9_many 59 = .ok (.aload_n 0, 1) := by decide +kernel
theorem dX9_many_60 : decode cX9_many 60 = .ok (.getfield 7, 3) := by decide +kernel
theorem dX9_many_63 : decode cX9_many 63 = .ok (.iconst 1, 1) := by decide +kernel
theorem dX9_many_64 : decode cX9_many 64 = .ok (.iaload, 1) := by decide +kernel
theorem dX9_many_65 : decode cX9_many 65 = .ok (.ireturn, 1) := by decide +kernel
theorem dX9_many_66 : decode cX9_many 66 = .ok (.aload_n 0, 1) := by decide +kernel
theorem dX9_many_67 : decode cX9_many 67 = .ok (.getfield 7, 3) := by decide +kernel
theorem dX9_many_70 : decode cX9_many 70 = .ok (.iconst 2, 1) := by decide +kernel
theorem dX9_many_71 : decode cX9_many 71 = .ok (.iaload, 1) := by decide +kernel
theorem dX9_many_72 : decode cX9_many 72 = .ok (.ireturn, 1) := by decide +kernel
theorem dX9_many_73 : decode cX9_many 73 = .ok (.aload_n 0, 1) := by decide +kernel
theorem dX9_many_74 : decode cX9_many 74 = .ok (.invokevirtual 140, 3) := by decide +kernel
theorem dX9_many_77 : decode cX9_many 77 = .ok (.ireturn, 1) := by decide +kernel
theorem dX9_many_78 : decode cX9_many 78 = .ok (.aload_n 0, 1) := by decide +kernel
theorem dX9_many_79 : decode cX9_many 79 = .ok (.getfield 7, 3) := by decide +kernel
theorem dX9_many_82 : decode cX9_many 82 = .ok (.iconst 3, 1) := by decide +kernel
theorem dX9_many_83 : decode cX9_many 83 = .ok (.iaload, 1) := by decide +kernel
theorem dX9_many_84 : decode cX9_many 84 = .ok (.ireturn, 1) := by decide +kernel
theorem dX9_many_85 : decode cX9_many 85 = .ok (.aload_n 0, 1) := by decide +kernel
theorem dX9_many_86 : decode cX9_many 86 = .ok (.getfield 7, 3) := by decide +kernel
theorem dX9_many_89 : decode cX9_many 89 = .ok (.iconst 4, 1) := by decide +kernel
theorem dX9_many_90 : decode cX9_many 90 = .ok (.iaload, 1) := by decide +kernel
theorem dX9_many_91 : decode cX9_many 91 = .ok (.ireturn, 1) := by decide +kernel
theorem dX9_many_92 : decode cX9_many 92 = .ok (.aload_n 0, 1) := by decide +kernel
theorem dX9_many_93 : decode cX9_many 93 = .ok (.invokevirtual 144, 3) := by decide +kernel
theorem dX9_many_96 : decode cX9_many 96 = .ok (.ireturn, 1) := by decide +kernel
theorem dX9_many_97 : decode cX9_many 97 = .ok (.aload_n 0, 1) := by decide +kernel
theorem dX9_many_98 : decode cX9_many 98 = .ok (.invokevirtual 147, 3) := by decide +kernel
theorem dX9_many_101 : decode cX9_many 101 = .ok (.ireturn, 1) := by decide +kernel
theorem dX9_many_102 : decode cX9_many 102 = .ok (.aload_n 0, 1) := by decide +kernel
theorem dX9_many_103 : decode cX9_many 103 = .ok (.invokevirtual 150, 3) := by decide +kernel
theorem dX9_many_106 : decode cX9_many 106 = .ok (.ireturn, 1) := by decide +kernel
theorem dX9_many_107 : decode cX9_many 107 = .ok (.iconst (-1), 1) := by decide +kernel
theorem dX9_many_108 : decode cX9_many 108 = .ok (.ireturn, 1) := by decide +kernel
theorem dX9_move_0 : decode cX9_move 0 = .ok (.iconst 0, 1) := by decide +kernel
theorem dX9_move_1 : decode cX9_move 1 = .ok (.istore 4, 2) := by decide +kernel
theorem dX9_move_3 : decode cX9_move 3 = .ok (.iload 4, 2) := by decide +kernel
theorem dX9_move_5 : decode cX9_move 5 = .ok (.iload_n 2, 1) := by decide +kernel
theorem dX9_move_6 : decode cX9_move 6 = .ok (.if_icmp .ge 52, 3) := by decide +kernel
theorem dX9_move_9 : decode cX9_move 9 = .ok (.iload_n 3, 1) := by decide +kernel
theorem dX9_move_10 : decode cX9_move 10 = .ok (.ifCond .eq 19, 3) := by decide +kernel
theorem dX9_move_13 : decode cX9_move 13 = .ok (.aload_n 0, 1) := by decide +kernel
theorem dX9_move_14 : decode cX9_move 14 = .ok (.getfield 35, 3) := by decide +kernel
theorem dX9_move_17 : decode cX9_move 17 = .ok (.aload_n 0, 1) := by decide +kernel
theorem dX9_move_18 : decode cX9_move 18 = .ok (.getfield 153, 3) := by decide +kernel
theorem dX9_move_21 : decode cX9_move 21 = .ok (.aload_n 1, 1) := by decide +kernel
theorem dX9_move_22 : decode cX9_move 22 = .ok (.iload 4, 2) := by decide +kernel
theorem dX9_move_24 : decode cX9_move 24 = .ok (.iaload, 1) := by decide +kernel
theorem dX9_move_25 : decode cX9_move 25 = .ok (.iastore, 1) := by decide +kernel
theorem dX9_move_26 : decode cX9_move 26 = .ok (.goto 16, 3) := by decide +kernel
theorem dX9_move_29 : decode cX9_move 29 = .ok (.aload_n 1, 1) := by decide +kernel
theorem dX9_move_30 : decode cX9_move 30 = .ok (.iload 4, 2) := by decide +kernel
theorem dX9_move_32 : decode cX9_move 32 = .ok (.aload_n 0, 1) := by decide +kernel
theorem dX9_move_33 : decode cX9_move 33 = .ok (.getfield 35, 3) := by decide +kernel
theorem dX9_move_36 : decode cX9_move 36 = .ok (.aload_n 0, 1) := by decide +kernel
theorem dX9_move_37 : decode cX9_move 37 = .ok (.getfield 153, 3) := by decide +kernel
theorem dX9_move_40 : decode cX9_move 40 = .ok (.iaload, 1) := by decide +kernel
theorem dX9_move_41 : decode cX9_move 41 = .ok (.iastore, 1) := by decide +kernel
theorem dX9_move_42 : decode cX9_move 42 = .ok (.aload_n 0, 1) := by decide +kernel
theorem dX9_move_43 : decode cX9_move 43 = .ok (.dup, 1) := by decide +kernel
theorem dX9_move_44 : decode cX9_move 44 = .ok (.getfield 153, 3) := by decide +kernel
theorem dX9_move_47 : decode cX9_move 47 = .ok (.iconst 1, 1) := by decide +kernel
theorem dX9_move_48 : decode cX9_move 48 = .ok (.iadd, 1) := by decide +kernel
theorem dX9_move_49 : decode cX9_move 49 = .ok (.putfield 153, 3) := by decide +kernel
theorem dX9_move_52 : decode cX9_move 52 = .ok (.iinc 4 1, 3) := by decide +kernel
theorem dX9_move_55 : decode cX9_move 55 = .ok (.goto (-52), 3) := by decide +kernel
theorem dX9_move_58 : decode cX9_move 58 = .ok (.return_, 1) := by decide +kernel
theorem dX9_moveAll_0 : decode cX9_moveAll 0 = .ok (.aload_n 0, 1) := by decide +kernel
theorem dX9_moveAll_1 : decode cX9_moveAll 1 = .ok (.iconst 0, 1) := by decide +kernel
theorem dX9_moveAll_2 : decode cX9_moveAll 2 = .ok (.putfield 153, 3) := by decide +kernel
theorem dX9_moveAll_5 : decode cX9_moveAll 5 = .ok (.aload_n 0, 1) := by decide +kernel
theorem dX9_moveAll_6 : decode cX9_moveAll 6 = .ok (.aload_n 0, 1) := by decide +kernel
theorem dX9_moveAll_7 : decode cX9_moveAll 7 = .ok (.getfield 7, 3) := by decide +kernel
theorem dX9_moveAll_10 : decode cX9_moveAll 10 = .ok (.iconst 5, 1) := by decide +kernel
theorem dX9_moveAll_11 : decode cX9_moveAll 11 = .ok (.iload_n 1, 1) := by decide +kernel
theorem dX9_moveAll_12 : decode cX9_moveAll 12 = .ok (.invokevirtual 156, 3) := by decide +kernel
theorem dX9_moveAll_15 : decode cX9_moveAll 15 = .ok (.aload_n 0, 1) := by decide +kernel
end
section
theorem dX9_moveAll_16 : decode cX9_moveAll 16 = .ok (.aload_n 0, 1) := by decide +kernel
theorem dX9_moveAll_17 : decode cX9_moveAll 17 = .ok (.getfield 13, 3) := by decide +kernel
theorem dX9_moveAll_20 : decode cX9_moveAll 20 = .ok (.iconst 4, 1) := by decide +kernel
theorem dX9_moveAll_21 : decode cX9_moveAll 21 = .ok (.iload_n 1, 1) := by decide +kernel
theorem dX9_moveAll_22 : decode cX9_moveAll 22 = .ok (.invokevirtual 156, 3) := by decide +kernel
theorem dX9_moveAll_25 : decode cX9_moveAll 25 = .ok (.aload_n 0, 1) := by decide +kernel
theorem dX9_moveAll_26 : decode cX9_moveAll 26 = .ok (.aload_n 0, 1) := by decide +kernel
theorem dX9_moveAll_27 : decode cX9_moveAll 27 = .ok (.getfield 16, 3) := by decide +kernel
theorem dX9_moveAll_30 : decode cX9_moveAll 30 = .ok (.bipush 40, 2) := by decide +kernel
theorem dX9_moveAll_32 : decode cX9_moveAll 32 = .ok (.iload_n 1, 1) := by decide +kernel
theorem dX9_moveAll_33 : decode cX9_moveAll 33 = .ok (.invokevirtual 156, 3) := by decide +kernel
theorem dX9_moveAll_36 : decode cX9_moveAll 36 = .ok (.aload_n 0, 1) := by decide +kernel
theorem dX9_moveAll_37 : decode cX9_moveAll 37 = .ok (.aload_n 0, 1) := by decide +kernel
theorem dX9_moveAll_38 : decode cX9_moveAll 38 = .ok (.getfield 19, 3) := by decide +kernel
theorem dX9_moveAll_41 : decode cX9_moveAll 41 = .ok (.bipush 56, 2) := by decide +kernel
theorem dX9_moveAll_43 : decode cX9_moveAll 43 = .ok (.iload_n 1, 1) := by decide +kernel
theorem dX9_moveAll_44 : decode cX9_moveAll 44 = .ok (.invokevirtual 156, 3) := by decide +kernel
theorem dX9_moveAll_47 : decode cX9_moveAll 47 = .ok (.aload_n 0, 1) := by decide +kernel
theorem dX9_moveAll_48 : decode cX9_moveAll 48 = .ok (.aload_n 0, 1) := by decide +kernel
theorem dX9_moveAll_49 : decode cX9_moveAll 49 = .ok (.getfield 22, 3) := by decide +kernel
theorem dX9_moveAll_52 : decode cX9_moveAll 52 = .ok (.sipush 150, 3) := by decide +kernel
theorem dX9_moveAll_55 : decode cX9_moveAll 55 = .ok (.iload_n 1, 1) := by decide +kernel
theorem dX9_moveAll_56 : decode cX9_moveAll 56 = .ok (.invokevirtual 156, 3) := by decide +kernel
theorem dX9_moveAll_59 : decode cX9_moveAll 59 = .ok (.aload_n 0, 1) := by decide +kernel
theorem dX9_moveAll_60 : decode cX9_moveAll 60 = .ok (.aload_n 0, 1) := by decide +kernel
theorem dX9_moveAll_61 : decode cX9_moveAll 61 = .ok (.getfield 25, 3) := by decide +kernel
theorem dX9_moveAll_64 : decode cX9_moveAll 64 = .ok (.bipush 36, 2) := by decide +kernel
theorem dX9_moveAll_66 : decode cX9_moveAll 66 = .ok (.iload_n 1, 1) := by decide +kernel
theorem dX9_moveAll_67 : decode cX9_moveAll 67 = .ok (.invokevirtual 156, 3) := by decide +kernel
theorem dX9_moveAll_70 : decode cX9_moveAll 70 = .ok (.aload_n 0, 1) := by decide +kernel
theorem dX9_moveAll_71 : decode cX9_moveAll 71 = .ok (.aload_n 0, 1) := by decide +kernel
theorem dX9_moveAll_72 : decode cX9_moveAll 72 = .ok (.getfield 28, 3) := by decide +kernel
theorem dX9_moveAll_75 : decode cX9_moveAll 75 = .ok (.bipush 15, 2) := by decide +kernel
theorem dX9_moveAll_77 : decode cX9_moveAll 77 = .ok (.iload_n 1, 1) := by decide +kernel
theorem dX9_moveAll_78 : decode cX9_moveAll 78 = .ok (.invokevirtual 156, 3) := by decide +kernel
theorem dX9_moveAll_81 : decode cX9_moveAll 81 = .ok (.return_, 1) := by decide +kernel
theorem dX9_keep_0 : decode cX9_keep 0 = .ok (.aload_n 0, 1) := by decide +kernel
theorem dX9_keep_1 : decode cX9_keep 1 = .ok (.iconst 1, 1) := by decide +kernel
theorem dX9_keep_2 : decode cX9_keep 2 = .ok (.invokevirtual 160, 3) := by decide +kernel
theorem dX9_keep_5 : decode cX9_keep 5 = .ok (.aload_n 0, 1) := by decide +kernel
theorem dX9_keep_6 : decode cX9_keep 6 = .ok (.iconst 1, 1) := by decide +kernel
theorem dX9_keep_7 : decode cX9_keep 7 = .ok (.putfield 164, 3) := by decide +kernel
theorem dX9_keep_10 : decode cX9_keep 10 = .ok (.iconst 1, 1) := by decide +kernel
theorem dX9_keep_11 : decode cX9_keep 11 = .ok (.ireturn, 1) := by decide +kernel
theorem dX9_back_0 : decode cX9_back 0 = .ok (.aload_n 0, 1) := by decide +kernel
theorem dX9_back_1 : decode cX9_back 1 = .ok (.getfield 164, 3) := by decide +kernel
theorem dX9_back_4 : decode cX9_back 4 = .ok (.ifCond .ne 6, 3) := by decide +kernel
theorem dX9_back_7 : decode cX9_back 7 = .ok (.bipush (-4), 2) := by decide +kernel
theorem dX9_back_9 : decode cX9_back 9 = .ok (.ireturn, 1) := by decide +kernel
theorem dX9_back_10 : decode cX9_back 10 = .ok (.aload_n 0, 1) := by decide +kernel
theorem dX9_back_11 : decode cX9_back 11 = .ok (.iconst 0, 1) := by decide +kernel
theorem dX9_back_12 : decode cX9_back 12 = .ok (.invokevirtual 160, 3) := by decide +kernel
theorem dX9_back_15 : decode cX9_back 15 = .ok (.iconst 1, 1) := by decide +kernel
theorem dX9_back_16 : decode cX9_back 16 = .ok (.ireturn, 1) := by decide +kernel
theorem dL_law_0 : decode cL_law 0 = .ok (.new 7, 3) := by decide +kernel
theorem dL_law_3 : decode cL_law 3 = .ok (.dup, 1) := by decide +kernel
theorem dL_law_4 : decode cL_law 4 = .ok (.invokespecial 9, 3) := by decide +kernel
theorem dL_law_7 : decode cL_law 7 = .ok (.astore_n 1, 1) := by decide +kernel
theorem dL_law_8 : decode cL_law 8 = .ok (.new 10, 3) := by decide +kernel
theorem dL_law_11 : decode cL_law 11 = .ok (.dup, 1) := by decide +kernel
theorem dL_law_12 : decode cL_law 12 = .ok (.invokespecial 12, 3) := by decide +kernel
theorem dL_law_15 : decode cL_law 15 = .ok (.astore_n 2, 1) := by decide +kernel
theorem dL_law_16 : decode cL_law 16 = .ok (.iconst 0, 1) := by decide +kernel
theorem dL_law_17 : decode cL_law 17 = .ok (.istore_n 3, 1) := by decide +kernel
theorem dL_law_18 : decode cL_law 18 = .ok (.iload_n 3, 1) := by decide +kernel
theorem dL_law_19 : decode cL_law 19 = .ok (.aload_n 0, 1) := by decide +kernel
theorem dL_law_20 : decode cL_law 20 = .ok (.arraylength, 1) := by decide +kernel
theorem dL_law_21 : decode cL_law 21 = .ok (.iconst 5, 1) := by decide +kernel
theorem dL_law_22 : decode cL_law 22 = .ok (.isub, 1) := by decide +kernel
theorem dL_law_23 : decode cL_law 23 = .ok (.if_icmp .gt 1050, 3) := by decide +kernel
theorem dL_law_26 : decode cL_law 26 = .ok (.aload_n 0, 1) := by decide +kernel
theorem dL_law_27 : decode cL_law 27 = .ok (.iload_n 3, 1) := by decide +kernel
theorem dL_law_28 : decode cL_law 28 = .ok (.iaload, 1) := by decide +kernel
theorem dL_law_29 : decode cL_law 29 = .ok (.bipush 31, 2) := by decide +kernel
theorem dL_law_31 : decode cL_law 31 = .ok (.iand, 1) := by decide +kernel
theorem dL_law_32 : decode cL_law 32 = .ok (.tableswitch 1035 0 26 #[124, 147, 190, 249, 302, 335, 378, 411, 454, 497, 530, 553, 586, 629, 642, 691, 750, 799, 858, 901, 914, 937, 950, 973, 986, 1009, 1022], 124) := by decide +kernel
theorem dL_law_156 : decode cL_law 156 = .ok (.aload_n 1, 1) := by decide +kernel
theorem dL_law_157 : decode cL_law 157 = .ok (.aload_n 0, 1) := by decide +kernel
theorem dL_law_158 : decode cL_law 158 = .ok (.iload_n 3, 1) := by decide +kernel
theorem dL_law_159 : decode cL_law 159 = .ok (.iconst 1, 1) := by decide +kernel
theorem dL_law_160 : decode cL_law 160 = .ok (.iadd, 1) := by decide +kernel
theorem dL_law_161 : decode cL_law 161 = .ok (.iaload, 1) := by decide +kernel
theorem dL_law_162 : decode cL_law 162 = .ok (.invokevirtual 13, 3) := by decide +kernel
theorem dL_law_165 : decode cL_law 165 = .ok (.aload_n 2, 1) := by decide +kernel
theorem dL_law_166 : decode cL_law 166 = .ok (.aload_n 0, 1) := by decide +kernel
theorem dL_law_167 : decode cL_law 167 = .ok (.iload_n 3, 1) := by decide +kernel
theorem dL_law_168 : decode cL_law 168 = .ok (.iconst 1, 1) := by decide +kernel
theorem dL_law_169 : decode cL_law 169 = .ok (.iadd, 1) := by decide +kernel
theorem dL_law_170 : decode cL_law 170 = .ok (.iaload, 1) := by decide +kernel
theorem dL_law_171 : decode cL_law 171 = .ok (.invokevirtual 17, 3) := by decide +kernel
theorem dL_law_174 : decode cL_law 174 = .ok (.if_icmp .eq 893, 3) := by decide +kernel
theorem dL_law_177 : decode cL_law 177 = .ok (.iconst 0, 1) := by decide +kernel
theorem dL_law_178 : decode cL_law 178 = .ok (.ireturn, 1) := by decide +kernel
theorem dL_law_179 : decode cL_law 179 = .ok (.aload_n 1, 1) := by decide +kernel
theorem dL_law_180 : decode cL_law 180 = .ok (.aload_n 0, 1) := by decide +kernel
theorem dL_law_181 : decode cL_law 181 = .ok (.iload_n 3, 1) := by decide +kernel
theorem dL_law_182 : decode cL_law 182 = .ok (.iconst 1, 1) := by decide +kernel
theorem dL_law_183 : decode cL_law 183 = .ok (.iadd, 1) := by decide +kernel
theorem dL_law_184 : decode cL_law 184 = .ok (.iaload, 1) := by decide +kernel
theorem dL_law_185 : decode cL_law 185 = .ok (.aload_n 0, 1) := by decide +kernel
theorem dL_law_186 : decode cL_law 186 = .ok (.iload_n 3, 1) := by decide +kernel
theorem dL_law_187 : decode cL_law 187 = .ok (.iconst 2, 1) := by decide +kernel
theorem dL_law_188 : decode cL_law 188 = .ok (.iadd, 1) := by decide +kernel
theorem dL_law_189 : decode cL_law 189 = .ok (.iaload, 1) := by decide +kernel
theorem dL_law_190 : decode cL_law 190 = .ok (.aload_n 0, 1) := by decide +kernel
theorem dL_law_191 : decode cL_law 191 = .ok (.iload_n 3, 1) := by decide +kernel
theorem dL_law_192 : decode cL_law 192 = .ok (.iconst 3, 1) := by decide +kernel
theorem dL_law_193 : decode cL_law 193 = .ok (.iadd, 1) := by decide +kernel
theorem dL_law_194 : decode cL_law 194 = .ok (.iaload, 1) := by decide +kernel
theorem dL_law_195 : decode cL_law 195 = .ok (.invokevirtual 18, 3) := by decide +kernel
theorem dL_law_198 : decode cL_law 198 = .ok (.aload_n 2, 1) := by decide +kernel
theorem dL_law_199 : decode cL_law 199 = .ok (.aload_n 0, 1) := by decide +kernel
theorem dL_law_200 : decode cL_law 200 = .ok (.iload_n 3, 1) := by decide +kernel
theorem dL_law_201 : decode cL_law 201 = .ok (.iconst 1, 1) := by decide +kernel
theorem dL_law_202 : decode cL_law 202 = .ok (.iadd, 1) := by decide +kernel
theorem dL_law_203 : decode cL_law 203 = .ok (.iaload, 1) := by decide +kernel
theorem dL_law_204 : decode cL_law 204 = .ok (.aload_n 0, 1) := by decide +kernel
theorem dL_law_205 : decode cL_law 205 = .ok (.iload_n 3, 1) := by decide +kernel
theorem dL_law_206 : decode cL_law 206 = .ok (.iconst 2, 1) := by decide +kernel
theorem dL_law_207 : decode cL_law 207 = .ok (.iadd, 1) := by decide +kernel
theorem dL_law_208 : decode cL_law 208 = .ok (.iaload, 1) := by decide +kernel
theorem dL_law_209 : decode cL_law 209 = .ok (.aload_n 0, 1) := by decide +kernel
theorem dL_law_210 : decode cL_law 210 = .ok (.iload_n 3, 1) := by decide +kernel
theorem dL_law_211 : decode cL_law 211 = .ok (.iconst 3, 1) := by decide +kernel
theorem dL_law_212 : decode cL_law 212 = .ok (.iadd, 1) := by decide +kernel
theorem dL_law_213 : decode cL_law 213 = .ok (.iaload, 1) := by decide +kernel
theorem dL_law_214 : decode cL_law 214 = .ok (.invokevirtual 22, 3) := by decide +kernel
theorem dL_law_217 : decode cL_law 217 = .ok (.if_icmp .eq 850, 3) := by decide +kernel
theorem dL_law_220 : decode cL_law 220 = .ok (.iconst 0, 1) := by decide +kernel
theorem dL_law_221 : decode cL_law 221 = .ok (.ireturn, 1) := by decide +kernel
theorem dL_law_222 : decode cL_law 222 = .ok (.aload_n 1, 1) := by decide +kernel
theorem dL_law_223 : decode cL_law 223 = .ok (.aload_n 0, 1) := by decide +kernel
theorem dL_law_224 : decode cL_law 224 = .ok (.iload_n 3, 1) := by decide +kernel
theorem dL_law_225 : decode cL_law 225 = .ok (.iconst 1, 1) := by decide +kernel
theorem dL_law_226 : decode cL_law 226 = .ok (.iadd, 1) := by decide +kernel
theorem dL_law_227 : decode cL_law 227 = .ok (.iaload, 1) := by decide +kernel
theorem dL_law_228 : decode cL_law 228 = .ok (.aload_n 0, 1) := by decide +kernel
theorem dL_law_229 : decode cL_law 229 = .ok (.iload_n 3, 1) := by decide +kernel
theorem dL_law_230 : decode cL_law 230 = .ok (.iconst 2, 1) := by decide +kernel
theorem dL_law_231 : decode cL_law 231 = .ok (.iadd, 1) := by decide +kernel
theorem dL_law_232 : decode cL_law 232 = .ok (.iaload, 1) := by decide +kernel
theorem dL_law_233 : decode cL_law 233 = .ok (.aload_n 0, 1) := by decide +kernel
theorem dL_law_234 : decode cL_law 234 = .ok (.iload_n 3, 1) := by decide +kernel
theorem dL_law_235 : decode cL_law 235 = .ok (.iconst 3, 1) := by decide +kernel
theorem dL_law_236 : decode cL_law 236 = .ok (.iadd, 1) := by decide +kernel
theorem dL_law_237 : decode cL_law 237 = .ok (.iaload, 1) := by decide +kernel
theorem dL_law_238 : decode cL_law 238 = .ok (.ifCond .eq 7, 3) := by decide +kernel
theorem dL_law_241 : decode cL_law 241 = .ok (.iconst 1, 1) := by decide +kernel
theorem dL_law_242 : decode cL_law 242 = .ok (.goto 4, 3) := by decide +kernel
theorem dL_law_245 : decode cL_law 245 = .ok (.iconst 0, 1) := by decide +kernel
theorem dL_law_246 : decode cL_law 246 = .ok (.invokevirtual 23, 3) := by decide +kernel
theorem dL_law_249 : decode cL_law 249 = .ok (.aload_n 2, 1) := by decide +kernel
theorem dL_law_250 : decode cL_law 250 = .ok (.aload_n 0, 1) := by decide +kernel
theorem dL_law_251 : decode cL_law 251 = .ok (.iload_n 3, 1) := by decide +kernel
theorem dL_law_252 : decode cL_law 252 = .ok (.iconst 1, 1) := by decide +kernel
theorem dL_law_253 : decode cL_law 253 = .ok (.iadd, 1) := by decide +kernel
theorem dL_law_254 : decode cL_law 254 = .ok (.iaload, 1) := by decide +kernel
theorem dL_law_255 : decode cL_law 255 = .ok (.aload_n 0, 1) := by decide +kernel
theorem dL_law_256 : decode cL_law 256 = .ok (.iload_n 3, 1) := by decide +kernel
theorem dL_law_257 : decode cL_law 257 = .ok (.iconst 2, 1) := by decide +kernel
theorem dL_law_258 : decode cL_law 258 = .ok (.iadd, 1) := by decide +kernel
theorem dL_law_259 : decode cL_law 259 = .ok (.iaload, 1) := by decide +kernel
theorem dL_law_260 : decode cL_law 260 = .ok (.aload_n 0, 1) := by decide +kernel
theorem dL_law_261 : decode cL_law 261 = .ok (.iload_n 3, 1) := by decide +kernel
theorem dL_law_262 : decode cL_law 262 = .ok (.iconst 3, 1) := by decide +kernel
theorem dL_law_263 : decode cL_law 263 = .ok (.iadd, 1) := by decide +kernel
theorem dL_law_264 : decode cL_law 264 = .ok (.iaload, 1) := by decide +kernel
theorem dL_law_265 : decode cL_law 265 = .ok (.ifCond .eq 7, 3) := by decide +kernel
theorem dL_law_268 : decode cL_law 268 = .ok (.iconst 1, 1) := by decide +kernel
theorem dL_law_269 : decode cL_law 269 = .ok (.goto 4, 3) := by decide +kernel
theorem dL_law_272 : decode cL_law 272 = .ok (.iconst 0, 1) := by decide +kernel
theorem dL_law_273 : decode cL_law 273 = .ok (.invokevirtual 27, 3) := by decide +kernel
theorem dL_law_276 : decode cL_law 276 = .ok (.if_icmp .eq 791, 3) := by decide +kernel
theorem dL_law_279 : decode cL_law 279 = .ok (.iconst 0, 1) := by decide +kernel
theorem dL_law_280 : decode cL_law 280 = .ok (.ireturn, 1) := by decide +kernel
theorem dL_law_281 : decode cL_law 281 = .ok (.aload_n 1, 1) := by decide +kernel
theorem dL_law_282 : decode cL_law 282 = .ok (.aload_n 0, 1) := by decide +kernel
theorem dL_law_283 : decode cL_law 283 = .ok (.iload_n 3, 1) := by decide +kernel
theorem dL_law_284 : decode cL_law 284 = .ok (.iconst 1, 1) := by decide +kernel
theorem dL_law_285 : decode cL_law 285 = .ok (.iadd, 1) := by decide +kernel
theorem dL_law_286 : decode cL_law 286 = .ok (.iaload, 1) := by decide +kernel
theorem dL_law_287 : decode cL_law 287 = .ok (.aload_n 0, 1) := by decide +kernel
theorem dL_law_288 : decode cL_law 288 = .ok (.iload_n 3, 1) := by decide +kernel
theorem dL_law_289 : decode cL_law 289 = .ok (.iconst 2, 1) := by decide +kernel
theorem dL_law_290 : decode cL_law 290 = .ok (.iadd, 1) := by decide +kernel
theorem dL_law_291 : decode cL_law 291 = .ok (.iaload, 1) := by decide +kernel
theorem dL_law_292 : decode cL_law 292 = .ok (.aload_n 0, 1) := by decide +kernel
theorem dL_law_293 : decode cL_law 293 = .ok (.iload_n 3, 1) := by decide +kernel
theorem dL_law_294 : decode cL_law 294 = .ok (.iconst 3, 1) := by decide +kernel
theorem dL_law_295 : decode cL_law 295 = .ok (.iadd, 1) := by decide +kernel
theorem dL_law_296 : decode cL_law 296 = .ok (.iaload, 1) := by decide +kernel
theorem dL_law_297 : decode cL_law 297 = .ok (.aload_n 0, 1) := by decide +kernel
theorem dL_law_298 : decode cL_law 298 = .ok (.iload_n 3, 1) := by decide +kernel
theorem dL_law_299 : decode cL_law 299 = .ok (.iconst 4, 1) := by decide +kernel
theorem dL_law_300 : decode cL_law 300 = .ok (.iadd, 1) := by decide +kernel
theorem dL_law_301 : decode cL_law 301 = .ok (.iaload, 1) := by decide +kernel
theorem dL_law_302 : decode cL_law 302 = .ok (.invokevirtual 28, 3) := by decide +kernel
theorem dL_law_305 : decode cL_law 305 = .ok (.aload_n 2, 1) := by decide +kernel
theorem dL_law_306 : decode cL_law 306 = .ok (.aload_n 0, 1) := by decide +kernel
theorem dL_law_307 : decode cL_law 307 = .ok (.iload_n 3, 1) := by decide +kernel
theorem dL_law_308 : decode cL_law 308 = .ok (.iconst 1, 1) := by decide +kernel
theorem dL_law_309 : decode cL_law 309 = .ok (.iadd, 1) := by decide +kernel
theorem dL_law_310 : decode cL_law 310 = .ok (.iaload, 1) := by decide +kernel
theorem dL_law_311 : decode cL_law 311 = .ok (.aload_n 0, 1) := by decide +kernel
theorem dL_law_312 : decode cL_law 312 = .ok (.iload_n 3, 1) := by decide +kernel
theorem dL_law_313 : decode cL_law 313 = .ok (.iconst 2, 1) := by decide +kernel
theorem dL_law_314 : decode cL_law 314 = .ok (.iadd, 1) := by decide +kernel
theorem dL_law_315 : decode cL_law 315 = .ok (.iaload, 1) := by decide +kernel
theorem dL_law_316 : decode cL_law 316 = .ok (.aload_n 0, 1) := by decide +kernel
theorem dL_law_317 : decode cL_law 317 = .ok (.iload_n 3, 1) := by decide +kernel
theorem dL_law_318 : decode cL_law 318 = .ok (.iconst 3, 1) := by decide +kernel
theorem dL_law_319 : decode cL_law 319 = .ok (.iadd, 1) := by decide +kernel
theorem dL_law_320 : decode cL_law 320 = .ok (.iaload, 1) := by decide +kernel
theorem dL_law_321 : decode cL_law 321 = .ok (.aload_n 0, 1) := by decide +kernel
theorem dL_law_322 : decode cL_law 322 = .ok (.iload_n 3, 1) := by decide +kernel
theorem dL_law_323 : decode cL_law 323 = .ok (.iconst 4, 1) := by decide +kernel
theorem dL_law_324 : decode cL_law 324 = .ok (.iadd, 1) := by decide +kernel
theorem dL_law_325 : decode cL_law 325 = .ok (.iaload, 1) := by decide +kernel
theorem dL_law_326 : decode cL_law 326 = .ok (.invokevirtual 32, 3) := by decide +kernel
theorem dL_law_329 : decode cL_law 329 = .ok (.if_icmp .eq 738, 3) := by decide +kernel
theorem dL_law_332 : decode cL_law 332 = .ok (.iconst 0, 1) := by decide +kernel
theorem dL_law_333 : decode cL_law 333 = .ok (.ireturn, 1) := by decide +kernel
theorem dL_law_334 : decode cL_law 334 = .ok (.aload_n 1, 1) := by decide +kernel
theorem dL_law_335 : decode cL_law 335 = .ok (.aload_n 0, 1) := by decide +kernel
theorem dL_law_336 : decode cL_law 336 = .ok (.iload_n 3, 1) := by decide +kernel
theorem dL_law_337 : decode cL_law 337 = .ok (.iconst 1, 1) := by decide +kernel
theorem dL_law_338 : decode cL_law 338 = .ok (.iadd, 1) := by decide +kernel
theorem dL_law_339 : decode cL_law 339 = .ok (.iaload, 1) := by decide +kernel
theorem dL_law_340 : decode cL_law 340 = .ok (.aload_n 0, 1) := by decide +kernel
theorem dL_law_341 : decode cL_law 341 = .ok (.iload_n 3, 1) := by decide +kernel
theorem dL_law_342 : decode cL_law 342 = .ok (.iconst 2, 1) := by decide +kernel
theorem dL_law_343 : decode cL_law 343 = .ok (.iadd, 1) := by decide +kernel
theorem dL_law_344 : decode cL_law 344 = .ok (.iaload, 1) := by decide +kernel
theorem dL_law_345 : decode cL_law 345 = .ok (.invokevirtual 33, 3) := by decide +kernel
theorem dL_law_348 : decode cL_law 348 = .ok (.aload_n 2, 1) := by decide +kernel
theorem dL_law_349 : decode cL_law 349 = .ok (.aload_n 0, 1) := by decide +kernel
theorem dL_law_350 : decode cL_law 350 = .ok (.iload_n 3, 1) := by decide +kernel
theorem dL_law_351 : decode cL_law 351 = .ok (.iconst 1, 1) := by decide +kernel
theorem dL_law_352 : decode cL_law 352 = .ok (.iadd, 1) := by decide +kernel
theorem dL_law_353 : decode cL_law 353 = .ok (.iaload, 1) := by decide +kernel
theorem dL_law_354 : decode cL_law 354 = .ok (.aload_n 0, 1) := by decide +kernel
theorem dL_law_355 : decode cL_law 355 = .ok (.iload_n 3, 1) := by decide +kernel
theorem dL_law_356 : decode cL_law 356 = .ok (.iconst 2, 1) := by decide +kernel
theorem dL_law_357 : decode cL_law 357 = .ok (.iadd, 1) := by decide +kernel
theorem dL_law_358 : decode cL_law 358 = .ok (.iaload, 1) := by decide +kernel
theorem dL_law_359 : decode cL_law 359 = .ok (.invokevirtual 37, 3) := by decide +kernel
theorem dL_law_362 : decode cL_law 362 = .ok (.if_icmp .eq 705, 3) := by decide +kernel
theorem dL_law_365 : decode cL_law 365 = .ok (.iconst 0, 1) := by decide +kernel
theorem dL_law_366 : decode cL_law 366 = .ok (.ireturn, 1) := by decide +kernel
theorem dL_law_367 : decode cL_law 367 = .ok (.aload_n 1, 1) := by decide +kernel
theorem dL_law_368 : decode cL_law 368 = .ok (.aload_n 0, 1) := by decide +kernel
theorem dL_law_369 : decode cL_law 369 = .ok (.iload_n 3, 1) := by decide +kernel
theorem dL_law_370 : decode cL_law 370 = .ok (.iconst 1, 1) := by decide +kernel
theorem dL_law_371 : decode cL_law 371 = .ok (.iadd, 1) := by decide +kernel
theorem dL_law_372 : decode cL_law 372 = .ok (.iaload, 1) := by decide +kernel
theorem dL_law_373 : decode cL_law 373 = .ok (.aload_n 0, 1) := by decide +kernel
theorem dL_law_374 : decode cL_law 374 = .ok (.iload_n 3, 1) := by decide +kernel
theorem dL_law_375 : decode cL_law 375 = .ok (.iconst 2, 1) := by decide +kernel
theorem dL_law_376 : decode cL_law 376 = .ok (.iadd, 1) := by decide +kernel
theorem dL_law_377 : decode cL_law 377 = .ok (.iaload, 1) := by decide +kernel
theorem dL_law_378 : decode cL_law 378 = .ok (.aload_n 0, 1) := by decide +kernel
theorem dL_law_379 : decode cL_law 379 = .ok (.iload_n 3, 1) := by decide +kernel
theorem dL_law_380 : decode cL_law 380 = .ok (.iconst 3, 1) := by decide +kernel
theorem dL_law_381 : decode cL_law 381 = .ok (.iadd, 1) := by decide +kernel
theorem dL_law_382 : decode cL_law 382 = .ok (.iaload, 1) := by decide +kernel
theorem dL_law_383 : decode cL_law 383 = .ok (.invokevirtual 38, 3) := by decide +kernel
theorem dL_law_386 : decode cL_law 386 = .ok (.aload_n 2, 1) := by decide +kernel
theorem dL_law_387 : decode cL_law 387 = .ok (.aload_n 0, 1) := by decide +kernel
theorem dL_law_388 : decode cL_law 388 = .ok (.iload_n 3, 1) := by decide +kernel
theorem dL_law_389 : decode cL_law 389 = .ok (.iconst 1, 1) := by decide +kernel
theorem dL_law_390 : decode cL_law 390 = .ok (.iadd, 1) := by decide +kernel
theorem dL_law_391 : decode cL_law 391 = .ok (.iaload, 1) := by decide +kernel
theorem dL_law_392 : decode cL_law 392 = .ok (.aload_n 0, 1) := by decide +kernel
theorem dL_law_393 : decode cL_law 393 = .ok (.iload_n 3, 1) := by decide +kernel
theorem dL_law_394 : decode cL_law 394 = .ok (.iconst 2, 1) := by decide +kernel
theorem dL_law_395 : decode cL_law 395 = .ok (.iadd, 1) := by decide +kernel
theorem dL_law_396 : decode cL_law 396 = .ok (.iaload, 1) := by decide +kernel
theorem dL_law_397 : decode cL_law 397 = .ok (.aload_n 0, 1) := by decide +kernel
theorem dL_law_398 : decode cL_law 398 = .ok (.iload_n 3, 1) := by decide +kernel
theorem dL_law_399 : decode cL_law 399 = .ok (.iconst 3, 1) := by decide +kernel
theorem dL_law_400 : decode cL_law 400 = .ok (.iadd, 1) := by decide +kernel
theorem dL_law_401 : decode cL_law 401 = .ok (.iaload, 1) := by decide +kernel
theorem dL_law_402 : decode cL_law 402 = .ok (.invokevirtual 41, 3) := by decide +kernel
theorem dL_law_405 : decode cL_law 405 = .ok (.if_icmp .eq 662, 3) := by decide +kernel
theorem dL_law_408 : decode cL_law 408 = .ok (.iconst 0, 1) := by decide +kernel
theorem dL_law_409 : decode cL_law 409 = .ok (.ireturn, 1) := by decide +kernel
theorem dL_law_410 : decode cL_law 410 = .ok (.aload_n 1, 1) := by decide +kernel
theorem dL_law_411 : decode cL_law 411 = .ok (.aload_n 0, 1) := by decide +kernel
theorem dL_law_412 : decode cL_law 412 = .ok (.iload_n 3, 1) := by decide +kernel
theorem dL_law_413 : decode cL_law 413 = .ok (.iconst 1, 1) := by decide +kernel
theorem dL_law_414 : decode cL_law 414 = .ok (.iadd, 1) := by decide +kernel
theorem dL_law_415 : decode cL_law 415 = .ok (.iaload, 1) := by decide +kernel
theorem dL_law_416 : decode cL_law 416 = .ok (.aload_n 0, 1) := by decide +kernel
theorem dL_law_417 : decode cL_law 417 = .ok (.iload_n 3, 1) := by decide +kernel
theorem dL_law_418 : decode cL_law 418 = .ok (.iconst 2, 1) := by decide +kernel
theorem dL_law_419 : decode cL_law 419 = .ok (.iadd, 1) := by decide +kernel
theorem dL_law_420 : decode cL_law 420 = .ok (.iaload, 1) := by decide +kernel
theorem dL_law_421 : decode cL_law 421 = .ok (.invokevirtual 42, 3) := by decide +kernel
theorem dL_law_424 : decode cL_law 424 = .ok (.aload_n 2, 1) := by decide +kernel
theorem dL_law_425 : decode cL_law 425 = .ok (.aload_n 0, 1) := by decide +kernel
theorem dL_law_426 : decode cL_law 426 = .ok (.iload_n 3, 1) := by decide +kernel
theorem dL_law_427 : decode cL_law 427 = .ok (.iconst 1, 1) := by decide +kernel
theorem dL_law_428 : decode cL_law 428 = .ok (.iadd, 1) := by decide +kernel
theorem dL_law_429 : decode cL_law 429 = .ok (.iaload, 1) := by decide +kernel
theorem dL_law_430 : decode cL_law 430 = .ok (.aload_n 0, 1) := by decide +kernel
theorem dL_law_431 : decode cL_law 431 = .ok (.iload_n 3, 1) := by decide +kernel
theorem dL_law_432 : decode cL_law 432 = .ok (.iconst 2, 1) := by decide +kernel
theorem dL_law_433 : decode cL_law 433 = .ok (.iadd, 1) := by decide +kernel
theorem dL_law_434 : decode cL_law 434 = .ok (.iaload, 1) := by decide +kernel
theorem dL_law_435 : decode cL_law 435 = .ok (.invokevirtual 45, 3) := by decide +kernel
theorem dL_law_438 : decode cL_law 438 = .ok (.if_icmp .eq 629, 3) := by decide +kernel
theorem dL_law_441 : decode cL_law 441 = .ok (.iconst 0, 1) := by decide +kernel
theorem dL_law_442 : decode cL_law 442 = .ok (.ireturn, 1) := by decide +kernel
theorem dL_law_443 : decode cL_law 443 = .ok (.aload_n 1, 1) := by decide +kernel
theorem dL_law_444 : decode cL_law 444 = .ok (.aload_n 0, 1) := by decide +kernel
theorem dL_law_445 : decode cL_law 445 = .ok (.iload_n 3, 1) := by decide +kernel
theorem dL_law_446 : decode cL_law 446 = .ok (.iconst 1, 1) := by decide +kernel
theorem dL_law_447 : decode cL_law 447 = .ok (.iadd, 1) := by decide +kernel
theorem dL_law_448 : decode cL_law 448 = .ok (.iaload, 1) := by decide +kernel
theorem dL_law_449 : decode cL_law 449 = .ok (.aload_n 0, 1) := by decide +kernel
theorem dL_law_450 : decode cL_law 450 = .ok (.iload_n 3, 1) := by decide +kernel
theorem dL_law_451 : decode cL_law 451 = .ok (.iconst 2, 1) := by decide +kernel
theorem dL_law_452 : decode cL_law 452 = .ok (.iadd, 1) := by decide +kernel
theorem dL_law_453 : decode cL_law 453 = .ok (.iaload, 1) := by decide +kernel
theorem dL_law_454 : decode cL_law 454 = .ok (.aload_n 0, 1) := by decide +kernel
theorem dL_law_455 : decode cL_law 455 = .ok (.iload_n 3, 1) := by decide +kernel
theorem dL_law_456 : decode cL_law 456 = .ok (.iconst 3, 1) := by decide +kernel
theorem dL_law_457 : decode cL_law 457 = .ok (.iadd, 1) := by decide +kernel
theorem dL_law_458 : decode cL_law 458 = .ok (.iaload, 1) := by decide +kernel
theorem dL_law_459 : decode cL_law 459 = .ok (.invokevirtual 46, 3) := by decide +kernel
theorem dL_law_462 : decode cL_law 462 = .ok (.aload_n 2, 1) := by decide +kernel
theorem dL_law_463 : decode cL_law 463 = .ok (.aload_n 0, 1) := by decide +kernel
theorem dL_law_464 : decode cL_law 464 = .ok (.iload_n 3, 1) := by decide +kernel
theorem dL_law_465 : decode cL_law 465 = .ok (.iconst 1, 1) := by decide +kernel
theorem dL_law_466 : decode cL_law 466 = .ok (.iadd, 1) := by decide +kernel
theorem dL_law_467 : decode cL_law 467 = .ok (.iaload, 1) := by decide +kernel
theorem dL_law_468 : decode cL_law 468 = .ok (.aload_n 0, 1) := by decide +kernel
theorem dL_law_469 : decode cL_law 469 = .ok (.iload_n 3, 1) := by decide +kernel
theorem dL_law_470 : decode cL_law 470 = .ok (.iconst 2, 1) := by decide +kernel
theorem dL_law_471 : decode cL_law 471 = .ok (.iadd, 1) := by decide +kernel
theorem dL_law_472 : decode cL_law 472 = .ok (.iaload, 1) := by decide +kernel
theorem dL_law_473 : decode cL_law 473 = .ok (.aload_n 0, 1) := by decide +kernel
theorem dL_law_474 : decode cL_law 474 = .ok (.iload_n 3, 1) := by decide +kernel
theorem dL_law_475 : decode cL_law 475 = .ok (.iconst 3, 1) := by decide +kernel
theorem dL_law_476 : decode cL_law 476 = .ok (.iadd, 1) := by decide +kernel
theorem dL_law_477 : decode cL_law 477 = .ok (.iaload, 1) := by decide +kernel
theorem dL_law_478 : decode cL_law 478 = .ok (.invokevirtual 49, 3) := by decide +kernel
theorem dL_law_481 : decode cL_law 481 = .ok (.if_icmp .eq 586, 3) := by decide +kernel
theorem dL_law_484 : decode cL_law 484 = .ok (.iconst 0, 1) := by decide +kernel
theorem dL_law_485 : decode cL_law 485 = .ok (.ireturn, 1) := by decide +kernel
theorem dL_law_486 : decode cL_law 486 = .ok (.aload_n 1, 1) := by decide +kernel
theorem dL_law_487 : decode cL_law 487 = .ok (.aload_n 0, 1) := by decide +kernel
theorem dL_law_488 : decode cL_law 488 = .ok (.iload_n 3, 1) := by decide +kernel
theorem dL_law_489 : decode cL_law 489 = .ok (.iconst 1, 1) := by decide +kernel
theorem dL_law_490 : decode cL_law 490 = .ok (.iadd, 1) := by decide +kernel
theorem dL_law_491 : decode cL_law 491 = .ok (.iaload, 1) := by decide +kernel
theorem dL_law_492 : decode cL_law 492 = .ok (.aload_n 0, 1) := by decide +kernel
theorem dL_law_493 : decode cL_law 493 = .ok (.iload_n 3, 1) := by decide +kernel
theorem dL_law_494 : decode cL_law 494 = .ok (.iconst 2, 1) := by decide +kernel
theorem dL_law_495 : decode cL_law 495 = .ok (.iadd, 1) := by decide +kernel
theorem dL_law_496 : decode cL_law 496 = .ok (.iaload, 1) := by decide +kernel
theorem dL_law_497 : decode cL_law 497 = .ok (.aload_n 0, 1) := by decide +kernel
theorem dL_law_498 : decode cL_law 498 = .ok (.iload_n 3, 1) := by decide +kernel
theorem dL_law_499 : decode cL_law 499 = .ok (.iconst 3, 1) := by decide +kernel
theorem dL_law_500 : decode cL_law 500 = .ok (.iadd, 1) := by decide +kernel
theorem dL_law_501 : decode cL_law 501 = .ok (.iaload, 1) := by decide +kernel
theorem dL_law_502 : decode cL_law 502 = .ok (.invokevirtual 50, 3) := by decide +kernel
theorem dL_law_505 : decode cL_law 505 = .ok (.aload_n 2, 1) := by decide +kernel
theorem dL_law_506 : decode cL_law 506 = .ok (.aload_n 0, 1) := by decide +kernel
theorem dL_law_507 : decode cL_law 507 = .ok (.iload_n 3, 1) := by decide +kernel
theorem dL_law_508 : decode cL_law 508 = .ok (.iconst 1, 1) := by decide +kernel
theorem dL_law_509 : decode cL_law 509 = .ok (.iadd, 1) := by decide +kernel
theorem dL_law_510 : decode cL_law 510 = .ok (.iaload, 1) := by decide +kernel
theorem dL_law_511 : decode cL_law 511 = .ok (.aload_n 0, 1) := by decide +kernel
theorem dL_law_512 : decode cL_law 512 = .ok (.iload_n 3, 1) := by decide +kernel
theorem dL_law_513 : decode cL_law 513 = .ok (.iconst 2, 1) := by decide +kernel
theorem dL_law_514 : decode cL_law 514 = .ok (.iadd, 1) := by decide +kernel
theorem dL_law_515 : decode cL_law 515 = .ok (.iaload, 1) := by decide +kernel
theorem dL_law_516 : decode cL_law 516 = .ok (.aload_n 0, 1) := by decide +kernel
theorem dL_law_517 : decode cL_law 517 = .ok (.iload_n 3, 1) := by decide +kernel
theorem dL_law_518 : decode cL_law 518 = .ok (.iconst 3, 1) := by decide +kernel
theorem dL_law_519 : decode cL_law 519 = .ok (.iadd, 1) := by decide +kernel
theorem dL_law_520 : decode cL_law 520 = .ok (.iaload, 1) := by decide +kernel
theorem dL_law_521 : decode cL_law 521 = .ok (.invokevirtual 53, 3) := by decide +kernel
theorem dL_law_524 : decode cL_law 524 = .ok (.if_icmp .eq 543, 3) := by decide +kernel
theorem dL_law_527 : decode cL_law 527 = .ok (.iconst 0, 1) := by decide +kernel
theorem dL_law_528 : decode cL_law 528 = .ok (.ireturn, 1) := by decide +kernel
theorem dL_law_529 : decode cL_law 529 = .ok (.aload_n 1, 1) := by decide +kernel
theorem dL_law_530 : decode cL_law 530 = .ok (.aload_n 0, 1) := by decide +kernel
theorem dL_law_531 : decode cL_law 531 = .ok (.iload_n 3, 1) := by decide +kernel
theorem dL_law_532 : decode cL_law 532 = .ok (.iconst 1, 1) := by decide +kernel
theorem dL_law_533 : decode cL_law 533 = .ok (.iadd, 1) := by decide +kernel
theorem dL_law_534 : decode cL_law 534 = .ok (.iaload, 1) := by decide +kernel
theorem dL_law_535 : decode cL_law 535 = .ok (.aload_n 0, 1) := by decide +kernel
theorem dL_law_536 : decode cL_law 536 = .ok (.iload_n 3, 1) := by decide +kernel
theorem dL_law_537 : decode cL_law 537 = .ok (.iconst 2, 1) := by decide +kernel
theorem dL_law_538 : decode cL_law 538 = .ok (.iadd, 1) := by decide +kernel
theorem dL_law_539 : decode cL_law 539 = .ok (.iaload, 1) := by decide +kernel
theorem dL_law_540 : decode cL_law 540 = .ok (.invokevirtual 54, 3) := by decide +kernel
theorem dL_law_543 : decode cL_law 543 = .ok (.aload_n 2, 1) := by decide +kernel
theorem dL_law_544 : decode cL_law 544 = .ok (.aload_n 0, 1) := by decide +kernel
theorem dL_law_545 : decode cL_law 545 = .ok (.iload_n 3, 1) := by decide +kernel
theorem dL_law_546 : decode cL_law 546 = .ok (.iconst 1, 1) := by decide +kernel
theorem dL_law_547 : decode cL_law 547 = .ok (.iadd, 1) := by decide +kernel
theorem dL_law_548 : decode cL_law 548 = .ok (.iaload, 1) := by decide +kernel
theorem dL_law_549 : decode cL_law 549 = .ok (.aload_n 0, 1) := by decide +kernel
theorem dL_law_550 : decode cL_law 550 = .ok (.iload_n 3, 1) := by decide +kernel
theorem dL_law_551 : decode cL_law 551 = .ok (.iconst 2, 1) := by decide +kernel
theorem dL_law_552 : decode cL_law 552 = .ok (.iadd, 1) := by decide +kernel
theorem dL_law_553 : decode cL_law 553 = .ok (.iaload, 1) := by decide +kernel
theorem dL_law_554 : decode cL_law 554 = .ok (.invokevirtual 57, 3) := by decide +kernel
theorem dL_law_557 : decode cL_law 557 = .ok (.if_icmp .eq 510, 3) := by decide +kernel
theorem dL_law_560 : decode cL_law 560 = .ok (.iconst 0, 1) := by decide +kernel
theorem dL_law_561 : decode cL_law 561 = .ok (.ireturn, 1) := by decide +kernel
theorem dL_law_562 : decode cL_law 562 = .ok (.aload_n 1, 1) := by decide +kernel
theorem dL_law_563 : decode cL_law 563 = .ok (.aload_n 0, 1) := by decide +kernel
theorem dL_law_564 : decode cL_law 564 = .ok (.iload_n 3, 1) := by decide +kernel
theorem dL_law_565 : decode cL_law 565 = .ok (.iconst 1, 1) := by decide +kernel
theorem dL_law_566 : decode cL_law 566 = .ok (.iadd, 1) := by decide +kernel
theorem dL_law_567 : decode cL_law 567 = .ok (.iaload, 1) := by decide +kernel
theorem dL_law_568 : decode cL_law 568 = .ok (.invokevirtual 58, 3) := by decide +kernel
theorem dL_law_571 : decode cL_law 571 = .ok (.aload_n 2, 1) := by decide +kernel
theorem dL_law_572 : decode cL_law 572 = .ok (.aload_n 0, 1) := by decide +kernel
theorem dL_law_573 : decode cL_law 573 = .ok (.iload_n 3, 1) := by decide +kernel
theorem dL_law_574 : decode cL_law 574 = .ok (.iconst 1, 1) := by decide +kernel
theorem dL_law_575 : decode cL_law 575 = .ok (.iadd, 1) := by decide +kernel
theorem dL_law_576 : decode cL_law 576 = .ok (.iaload, 1) := by decide +kernel
theorem dL_law_577 : decode cL_law 577 = .ok (.invokevirtual 61, 3) := by decide +kernel
theorem dL_law_580 : decode cL_law 580 = .ok (.if_icmp .eq 487, 3) := by decide +kernel
theorem dL_law_583 : decode cL_law 583 = .ok (.iconst 0, 1) := by decide +kernel
theorem dL_law_584 : decode cL_law 584 = .ok (.ireturn, 1) := by decide +kernel
theorem dL_law_585 : decode cL_law 585 = .ok (.aload_n 1, 1) := by decide +kernel
theorem dL_law_586 : decode cL_law 586 = .ok (.aload_n 0, 1) := by decide +kernel
theorem dL_law_587 : decode cL_law 587 = .ok (.iload_n 3, 1) := by decide +kernel
theorem dL_law_588 : decode cL_law 588 = .ok (.iconst 1, 1) := by decide +kernel
theorem dL_law_589 : decode cL_law 589 = .ok (.iadd, 1) := by decide +kernel
theorem dL_law_590 : decode cL_law 590 = .ok (.iaload, 1) := by decide +kernel
theorem dL_law_591 : decode cL_law 591 = .ok (.aload_n 0, 1) := by decide +kernel
theorem dL_law_592 : decode cL_law 592 = .ok (.iload_n 3, 1) := by decide +kernel
theorem dL_law_593 : decode cL_law 593 = .ok (.iconst 2, 1) := by decide +kernel
theorem dL_law_594 : decode cL_law 594 = .ok (.iadd, 1) := by decide +kernel
theorem dL_law_595 : decode cL_law 595 = .ok (.iaload, 1) := by decide +kernel
theorem dL_law_596 : decode cL_law 596 = .ok (.invokevirtual 62, 3) := by decide +kernel
theorem dL_law_599 : decode cL_law 599 = .ok (.aload_n 2, 1) := by decide +kernel
theorem dL_law_600 : decode cL_law 600 = .ok (.aload_n 0, 1) := by decide +kernel
theorem dL_law_601 : decode cL_law 601 = .ok (.iload_n 3, 1) := by decide +kernel
theorem dL_law_602 : decode cL_law 602 = .ok (.iconst 1, 1) := by decide +kernel
theorem dL_law_603 : decode cL_law 603 = .ok (.iadd, 1) := by decide +kernel
theorem dL_law_604 : decode cL_law 604 = .ok (.iaload, 1) := by decide +kernel
theorem dL_law_605 : decode cL_law 605 = .ok (.aload_n 0, 1) := by decide +kernel
theorem dL_law_606 : decode cL_law 606 = .ok (.iload_n 3, 1) := by decide +kernel
theorem dL_law_607 : decode cL_law 607 = .ok (.iconst 2, 1) := by decide +kernel
theorem dL_law_608 : decode cL_law 608 = .ok (.iadd, 1) := by decide +kernel
theorem dL_law_609 : decode cL_law 609 = .ok (.iaload, 1) := by decide +kernel
theorem dL_law_610 : decode cL_law 610 = .ok (.invokevirtual 65, 3) := by decide +kernel
theorem dL_law_613 : decode cL_law 613 = .ok (.if_icmp .eq 454, 3) := by decide +kernel
theorem dL_law_616 : decode cL_law 616 = .ok (.iconst 0, 1) := by decide +kernel
theorem dL_law_617 : decode cL_law 617 = .ok (.ireturn, 1) := by decide +kernel
theorem dL_law_618 : decode cL_law 618 = .ok (.aload_n 1, 1) := by decide +kernel
theorem dL_law_619 : decode cL_law 619 = .ok (.aload_n 0, 1) := by decide +kernel
theorem dL_law_620 : decode cL_law 620 = .ok (.iload_n 3, 1) := by decide +kernel
theorem dL_law_621 : decode cL_law 621 = .ok (.iconst 1, 1) := by decide +kernel
theorem dL_law_622 : decode cL_law 622 = .ok (.iadd, 1) := by decide +kernel
theorem dL_law_623 : decode cL_law 623 = .ok (.iaload, 1) := by decide +kernel
theorem dL_law_624 : decode cL_law 624 = .ok (.aload_n 0, 1) := by decide +kernel
theorem dL_law_625 : decode cL_law 625 = .ok (.iload_n 3, 1) := by decide +kernel
theorem dL_law_626 : decode cL_law 626 = .ok (.iconst 2, 1) := by decide +kernel
theorem dL_law_627 : decode cL_law 627 = .ok (.iadd, 1) := by decide +kernel
theorem dL_law_628 : decode cL_law 628 = .ok (.iaload, 1) := by decide +kernel
theorem dL_law_629 : decode cL_law 629 = .ok (.aload_n 0, 1) := by decide +kernel
theorem dL_law_630 : decode cL_law 630 = .ok (.iload_n 3, 1) := by decide +kernel
theorem dL_law_631 : decode cL_law 631 = .ok (.iconst 3, 1) := by decide +kernel
theorem dL_law_632 : decode cL_law 632 = .ok (.iadd, 1) := by decide +kernel
theorem dL_law_633 : decode cL_law 633 = .ok (.iaload, 1) := by decide +kernel
theorem dL_law_634 : decode cL_law 634 = .ok (.invokevirtual 66, 3) := by decide +kernel
theorem dL_law_637 : decode cL_law 637 = .ok (.aload_n 2, 1) := by decide +kernel
theorem dL_law_638 : decode cL_law 638 = .ok (.aload_n 0, 1) := by decide +kernel
theorem dL_law_639 : decode cL_law 639 = .ok (.iload_n 3, 1) := by decide +kernel
theorem dL_law_640 : decode cL_law 640 = .ok (.iconst 1, 1) := by decide +kernel
theorem dL_law_641 : decode cL_law 641 = .ok (.iadd, 1) := by decide +kernel
theorem dL_law_642 : decode cL_law 642 = .ok (.iaload, 1) := by decide +kernel
theorem dL_law_643 : decode cL_law 643 = .ok (.aload_n 0, 1) := by decide +kernel
theorem dL_law_644 : decode cL_law 644 = .ok (.iload_n 3, 1) := by decide +kernel
theorem dL_law_645 : decode cL_law 645 = .ok (.iconst 2, 1) := by decide +kernel
theorem dL_law_646 : decode cL_law 646 = .ok (.iadd, 1) := by decide +kernel
theorem dL_law_647 : decode cL_law 647 = .ok (.iaload, 1) := by decide +kernel
theorem dL_law_648 : decode cL_law 648 = .ok (.aload_n 0, 1) := by decide +kernel
theorem dL_law_649 : decode cL_law 649 = .ok (.iload_n 3, 1) := by decide +kernel
theorem dL_law_650 : decode cL_law 650 = .ok (.iconst 3, 1) := by decide +kernel
theorem dL_law_651 : decode cL_law 651 = .ok (.iadd, 1) := by decide +kernel
theorem dL_law_652 : decode cL_law 652 = .ok (.iaload, 1) := by decide +kernel
theorem dL_law_653 : decode cL_law 653 = .ok (.invokevirtual 69, 3) := by decide +kernel
theorem dL_law_656 : decode cL_law 656 = .ok (.if_icmp .eq 411, 3) := by decide +kernel
theorem dL_law_659 : decode cL_law 659 = .ok (.iconst 0, 1) := by decide +kernel
theorem dL_law_660 : decode cL_law 660 = .ok (.ireturn, 1) := by decide +kernel
theorem dL_law_661 : decode cL_law 661 = .ok (.aload_n 1, 1) := by decide +kernel
theorem dL_law_662 : decode cL_law 662 = .ok (.invokevirtual 70, 3) := by decide +kernel
theorem dL_law_665 : decode cL_law 665 = .ok (.aload_n 2, 1) := by decide +kernel
theorem dL_law_666 : decode cL_law 666 = .ok (.invokevirtual 74, 3) := by decide +kernel
theorem dL_law_669 : decode cL_law 669 = .ok (.if_icmp .eq 398, 3) := by decide +kernel
theorem dL_law_672 : decode cL_law 672 = .ok (.iconst 0, 1) := by decide +kernel
theorem dL_law_673 : decode cL_law 673 = .ok (.ireturn, 1) := by decide +kernel
theorem dL_law_674 : decode cL_law 674 = .ok (.aload_n 1, 1) := by decide +kernel
theorem dL_law_675 : decode cL_law 675 = .ok (.aload_n 0, 1) := by decide +kernel
theorem dL_law_676 : decode cL_law 676 = .ok (.iload_n 3, 1) := by decide +kernel
theorem dL_law_677 : decode cL_law 677 = .ok (.iconst 1, 1) := by decide +kernel
theorem dL_law_678 : decode cL_law 678 = .ok (.iadd, 1) := by decide +kernel
theorem dL_law_679 : decode cL_law 679 = .ok (.iaload, 1) := by decide +kernel
theorem dL_law_680 : decode cL_law 680 = .ok (.aload_n 0, 1) := by decide +kernel
theorem dL_law_681 : decode cL_law 681 = .ok (.iload_n 3, 1) := by decide +kernel
theorem dL_law_682 : decode cL_law 682 = .ok (.iconst 2, 1) := by decide +kernel
theorem dL_law_683 : decode cL_law 683 = .ok (.iadd, 1) := by decide +kernel
theorem dL_law_684 : decode cL_law 684 = .ok (.iaload, 1) := by decide +kernel
theorem dL_law_685 : decode cL_law 685 = .ok (.ifCond .eq 7, 3) := by decide +kernel
theorem dL_law_688 : decode cL_law 688 = .ok (.iconst 1, 1) := by decide +kernel
theorem dL_law_689 : decode cL_law 689 = .ok (.goto 4, 3) := by decide +kernel
theorem dL_law_692 : decode cL_law 692 = .ok (.iconst 0, 1) := by decide +kernel
theorem dL_law_693 : decode cL_law 693 = .ok (.invokevirtual 75, 3) := by decide +kernel
theorem dL_law_696 : decode cL_law 696 = .ok (.aload_n 2, 1) := by decide +kernel
theorem dL_law_697 : decode cL_law 697 = .ok (.aload_n 0, 1) := by decide +kernel
theorem dL_law_698 : decode cL_law 698 = .ok (.iload_n 3, 1) := by decide +kernel
theorem dL_law_699 : decode cL_law 699 = .ok (.iconst 1, 1) := by decide +kernel
theorem dL_law_700 : decode cL_law 700 = .ok (.iadd, 1) := by decide +kernel
theorem dL_law_701 : decode cL_law 701 = .ok (.iaload, 1) := by decide +kernel
theorem dL_law_702 : decode cL_law 702 = .ok (.aload_n 0, 1) := by decide +kernel
theorem dL_law_703 : decode cL_law 703 = .ok (.iload_n 3, 1) := by decide +kernel
theorem dL_law_704 : decode cL_law 704 = .ok (.iconst 2, 1) := by decide +kernel
theorem dL_law_705 : decode cL_law 705 = .ok (.iadd, 1) := by decide +kernel
theorem dL_law_706 : decode cL_law 706 = .ok (.iaload, 1) := by decide +kernel
theorem dL_law_707 : decode cL_law 707 = .ok (.ifCond .eq 7, 3) := by decide +kernel
theorem dL_law_710 : decode cL_law 710 = .ok (.iconst 1, 1) := by decide +kernel
theorem dL_law_711 : decode cL_law 711 = .ok (.goto 4, 3) := by decide +kernel
theorem dL_law_714 : decode cL_law 714 = .ok (.iconst 0, 1) := by decide +kernel
theorem dL_law_715 : decode cL_law 715 = .ok (.invokevirtual 79, 3) := by decide +kernel
theorem dL_law_718 : decode cL_law 718 = .ok (.if_icmp .eq 349, 3) := by decide +kernel
theorem dL_law_721 : decode cL_law 721 = .ok (.iconst 0, 1) := by decide +kernel
theorem dL_law_722 : decode cL_law 722 = .ok (.ireturn, 1) := by decide +kernel
theorem dL_law_723 : decode cL_law 723 = .ok (.aload_n 1, 1) := by decide +kernel
theorem dL_law_724 : decode cL_law 724 = .ok (.aload_n 0, 1) := by decide +kernel
theorem dL_law_725 : decode cL_law 725 = .ok (.iload_n 3, 1) := by decide +kernel
theorem dL_law_726 : decode cL_law 726 = .ok (.iconst 1, 1) := by decide +kernel
theorem dL_law_727 : decode cL_law 727 = .ok (.iadd, 1) := by decide +kernel
theorem dL_law_728 : decode cL_law 728 = .ok (.iaload, 1) := by decide +kernel
theorem dL_law_729 : decode cL_law 729 = .ok (.aload_n 0, 1) := by decide +kernel
theorem dL_law_730 : decode cL_law 730 = .ok (.iload_n 3, 1) := by decide +kernel
theorem dL_law_731 : decode cL_law 731 = .ok (.iconst 2, 1) := by decide +kernel
theorem dL_law_732 : decode cL_law 732 = .ok (.iadd, 1) := by decide +kernel
theorem dL_law_733 : decode cL_law 733 = .ok (.iaload, 1) := by decide +kernel
theorem dL_law_734 : decode cL_law 734 = .ok (.aload_n 0, 1) := by decide +kernel
theorem dL_law_735 : decode cL_law 735 = .ok (.iload_n 3, 1) := by decide +kernel
theorem dL_law_736 : decode cL_law 736 = .ok (.iconst 3, 1) := by decide +kernel
theorem dL_law_737 : decode cL_law 737 = .ok (.iadd, 1) := by decide +kernel
theorem dL_law_738 : decode cL_law 738 = .ok (.iaload, 1) := by decide +kernel
theorem dL_law_739 : decode cL_law 739 = .ok (.ifCond .eq 7, 3) := by decide +kernel
theorem dL_law_742 : decode cL_law 742 = .ok (.iconst 1, 1) := by decide +kernel
theorem dL_law_743 : decode cL_law 743 = .ok (.goto 4, 3) := by decide +kernel
theorem dL_law_746 : decode cL_law 746 = .ok (.iconst 0, 1) := by decide +kernel
theorem dL_law_747 : decode cL_law 747 = .ok (.invokevirtual 80, 3) := by decide +kernel
theorem dL_law_750 : decode cL_law 750 = .ok (.aload_n 2, 1) := by decide +kernel
theorem dL_law_751 : decode cL_law 751 = .ok (.aload_n 0, 1) := by decide +kernel
theorem dL_law_752 : decode cL_law 752 = .ok (.iload_n 3, 1) := by decide +kernel
theorem dL_law_753 : decode cL_law 753 = .ok (.iconst 1, 1) := by decide +kernel
theorem dL_law_754 : decode cL_law 754 = .ok (.iadd, 1) := by decide +kernel
theorem dL_law_755 : decode cL_law 755 = .ok (.iaload, 1) := by decide +kernel
theorem dL_law_756 : decode cL_law 756 = .ok (.aload_n 0, 1) := by decide +kernel
theorem dL_law_757 : decode cL_law 757 = .ok (.iload_n 3, 1) := by decide +kernel
theorem dL_law_758 : decode cL_law 758 = .ok (.iconst 2, 1) := by decide +kernel
theorem dL_law_759 : decode cL_law 759 = .ok (.iadd, 1) := by decide +kernel
theorem dL_law_760 : decode cL_law 760 = .ok (.iaload, 1) := by decide +kernel
theorem dL_law_761 : decode cL_law 761 = .ok (.aload_n 0, 1) := by decide +kernel
theorem dL_law_762 : decode cL_law 762 = .ok (.iload_n 3, 1) := by decide +kernel
theorem dL_law_763 : decode cL_law 763 = .ok (.iconst 3, 1) := by decide +kernel
theorem dL_law_764 : decode cL_law 764 = .ok (.iadd, 1) := by decide +kernel
theorem dL_law_765 : decode cL_law 765 = .ok (.iaload, 1) := by decide +kernel
theorem dL_law_766 : decode cL_law 766 = .ok (.ifCond .eq 7, 3) := by decide +kernel
theorem dL_law_769 : decode cL_law 769 = .ok (.iconst 1, 1) := by decide +kernel
theorem dL_law_770 : decode cL_law 770 = .ok (.goto 4, 3) := by decide +kernel
theorem dL_law_773 : decode cL_law 773 = .ok (.iconst 0, 1) := by decide +kernel
theorem dL_law_774 : decode cL_law 774 = .ok (.invokevirtual 83, 3) := by decide +kernel
theorem dL_law_777 : decode cL_law 777 = .ok (.if_icmp .eq 290, 3) := by decide +kernel
theorem dL_law_780 : decode cL_law 780 = .ok (.iconst 0, 1) := by decide +kernel
theorem dL_law_781 : decode cL_law 781 = .ok (.ireturn, 1) := by decide +kernel
theorem dL_law_782 : decode cL_law 782 = .ok (.aload_n 1, 1) := by decide +kernel
theorem dL_law_783 : decode cL_law 783 = .ok (.aload_n 0, 1) := by decide +kernel
theorem dL_law_784 : decode cL_law 784 = .ok (.iload_n 3, 1) := by decide +kernel
theorem dL_law_785 : decode cL_law 785 = .ok (.iconst 1, 1) := by decide +kernel
theorem dL_law_786 : decode cL_law 786 = .ok (.iadd, 1) := by decide +kernel
theorem dL_law_787 : decode cL_law 787 = .ok (.iaload, 1) := by decide +kernel
theorem dL_law_788 : decode cL_law 788 = .ok (.aload_n 0, 1) := by decide +kernel
theorem dL_law_789 : decode cL_law 789 = .ok (.iload_n 3, 1) := by decide +kernel
theorem dL_law_790 : decode cL_law 790 = .ok (.iconst 2, 1) := by decide +kernel
theorem dL_law_791 : decode cL_law 791 = .ok (.iadd, 1) := by decide +kernel
theorem dL_law_792 : decode cL_law 792 = .ok (.iaload, 1) := by decide +kernel
theorem dL_law_793 : decode cL_law 793 = .ok (.ifCond .eq 7, 3) := by decide +kernel
theorem dL_law_796 : decode cL_law 796 = .ok (.iconst 1, 1) := by decide +kernel
theorem dL_law_797 : decode cL_law 797 = .ok (.goto 4, 3) := by decide +kernel
theorem dL_law_800 : decode cL_law 800 = .ok (.iconst 0, 1) := by decide +kernel
theorem dL_law_801 : decode cL_law 801 = .ok (.invokevirtual 84, 3) := by decide +kernel
theorem dL_law_804 : decode cL_law 804 = .ok (.aload_n 2, 1) := by decide +kernel
theorem dL_law_805 : decode cL_law 805 = .ok (.aload_n 0, 1) := by decide +kernel
theorem dL_law_806 : decode cL_law 806 = .ok (.iload_n 3, 1) := by decide +kernel
theorem dL_law_807 : decode cL_law 807 = .ok (.iconst 1, 1) := by decide +kernel
theorem dL_law_808 : decode cL_law 808 = .ok (.iadd, 1) := by decide +kernel
theorem dL_law_809 : decode cL_law 809 = .ok (.iaload, 1) := by decide +kernel
theorem dL_law_810 : decode cL_law 810 = .ok (.aload_n 0, 1) := by decide +kernel
theorem dL_law_811 : decode cL_law 811 = .ok (.iload_n 3, 1) := by decide +kernel
theorem dL_law_812 : decode cL_law 812 = .ok (.iconst 2, 1) := by decide +kernel
theorem dL_law_813 : decode cL_law 813 = .ok (.iadd, 1) := by decide +kernel
theorem dL_law_814 : decode cL_law 814 = .ok (.iaload, 1) := by decide +kernel
theorem dL_law_815 : decode cL_law 815 = .ok (.ifCond .eq 7, 3) := by decide +kernel
theorem dL_law_818 : decode cL_law 818 = .ok (.iconst 1, 1) := by decide +kernel
theorem dL_law_819 : decode cL_law 819 = .ok (.goto 4, 3) := by decide +kernel
theorem dL_law_822 : decode cL_law 822 = .ok (.iconst 0, 1) := by decide +kernel
theorem dL_law_823 : decode cL_law 823 = .ok (.invokevirtual 87, 3) := by decide +kernel
theorem dL_law_826 : decode cL_law 826 = .ok (.if_icmp .eq 241, 3) := by decide +kernel
theorem dL_law_829 : decode cL_law 829 = .ok (.iconst 0, 1) := by decide +kernel
theorem dL_law_830 : decode cL_law 830 = .ok (.ireturn, 1) := by decide +kernel
theorem dL_law_831 : decode cL_law 831 = .ok (.aload_n 1, 1) := by decide +kernel
theorem dL_law_832 : decode cL_law 832 = .ok (.aload_n 0, 1) := by decide +kernel
theorem dL_law_833 : decode cL_law 833 = .ok (.iload_n 3, 1) := by decide +kernel
theorem dL_law_834 : decode cL_law 834 = .ok (.iconst 1, 1) := by decide +kernel
theorem dL_law_835 : decode cL_law 835 = .ok (.iadd, 1) := by decide +kernel
theorem dL_law_836 : decode cL_law 836 = .ok (.iaload, 1) := by decide +kernel
theorem dL_law_837 : decode cL_law 837 = .ok (.aload_n 0, 1) := by decide +kernel
theorem dL_law_838 : decode cL_law 838 = .ok (.iload_n 3, 1) := by decide +kernel
theorem dL_law_839 : decode cL_law 839 = .ok (.iconst 2, 1) := by decide +kernel
theorem dL_law_840 : decode cL_law 840 = .ok (.iadd, 1) := by decide +kernel
theorem dL_law_841 : decode cL_law 841 = .ok (.iaload, 1) := by decide +kernel
theorem dL_law_842 : decode cL_law 842 = .ok (.aload_n 0, 1) := by decide +kernel
theorem dL_law_843 : decode cL_law 843 = .ok (.iload_n 3, 1) := by decide +kernel
theorem dL_law_844 : decode cL_law 844 = .ok (.iconst 3, 1) := by decide +kernel
theorem dL_law_845 : decode cL_law 845 = .ok (.iadd, 1) := by decide +kernel
theorem dL_law_846 : decode cL_law 846 = .ok (.iaload, 1) := by decide +kernel
theorem dL_law_847 : decode cL_law 847 = .ok (.ifCond .eq 7, 3) := by decide +kernel
theorem dL_law_850 : decode cL_law 850 = .ok (.iconst 1, 1) := by decide +kernel
theorem dL_law_851 : decode cL_law 851 = .ok (.goto 4, 3) := by decide +kernel
theorem dL_law_854 : decode cL_law 854 = .ok (.iconst 0, 1) := by decide +kernel
theorem dL_law_855 : decode cL_law 855 = .ok (.invokevirtual 88, 3) := by decide +kernel
theorem dL_law_858 : decode cL_law 858 = .ok (.aload_n 2, 1) := by decide +kernel
theorem dL_law_859 : decode cL_law 859 = .ok (.aload_n 0, 1) := by decide +kernel
theorem dL_law_860 : decode cL_law 860 = .ok (.iload_n 3, 1) := by decide +kernel
theorem dL_law_861 : decode cL_law 861 = .ok (.iconst 1, 1) := by decide +kernel
theorem dL_law_862 : decode cL_law 862 = .ok (.iadd, 1) := by decide +kernel
theorem dL_law_863 : decode cL_law 863 = .ok (.iaload, 1) := by decide +kernel
theorem dL_law_864 : decode cL_law 864 = .ok (.aload_n 0, 1) := by decide +kernel
theorem dL_law_865 : decode cL_law 865 = .ok (.iload_n 3, 1) := by decide +kernel
theorem dL_law_866 : decode cL_law 866 = .ok (.iconst 2, 1) := by decide +kernel
theorem dL_law_867 : decode cL_law 867 = .ok (.iadd, 1) := by decide +kernel
theorem dL_law_868 : decode cL_law 868 = .ok (.iaload, 1) := by decide +kernel
theorem dL_law_869 : decode cL_law 869 = .ok (.aload_n 0, 1) := by decide +kernel
theorem dL_law_870 : decode cL_law 870 = .ok (.iload_n 3, 1) := by decide +kernel
theorem dL_law_871 : decode cL_law 871 = .ok (.iconst 3, 1) := by decide +kernel
theorem dL_law_872 : decode cL_law 872 = .ok (.iadd, 1) := by decide +kernel
theorem dL_law_873 : decode cL_law 873 = .ok (.iaload, 1) := by decide +kernel
theorem dL_law_874 : decode cL_law 874 = .ok (.ifCond .eq 7, 3) := by decide +kernel
theorem dL_law_877 : decode cL_law 877 = .ok (.iconst 1, 1) := by decide +kernel
theorem dL_law_878 : decode cL_law 878 = .ok (.goto 4, 3) := by decide +kernel
theorem dL_law_881 : decode cL_law 881 = .ok (.iconst 0, 1) := by decide +kernel
theorem dL_law_882 : decode cL_law 882 = .ok (.invokevirtual 91, 3) := by decide +kernel
theorem dL_law_885 : decode cL_law 885 = .ok (.if_icmp .eq 182, 3) := by decide +kernel
theorem dL_law_888 : decode cL_law 888 = .ok (.iconst 0, 1) := by decide +kernel
theorem dL_law_889 : decode cL_law 889 = .ok (.ireturn, 1) := by decide +kernel
theorem dL_law_890 : decode cL_law 890 = .ok (.aload_n 1, 1) := by decide +kernel
theorem dL_law_891 : decode cL_law 891 = .ok (.aload_n 0, 1) := by decide +kernel
theorem dL_law_892 : decode cL_law 892 = .ok (.iload_n 3, 1) := by decide +kernel
theorem dL_law_893 : decode cL_law 893 = .ok (.iconst 1, 1) := by decide +kernel
theorem dL_law_894 : decode cL_law 894 = .ok (.iadd, 1) := by decide +kernel
theorem dL_law_895 : decode cL_law 895 = .ok (.iaload, 1) := by decide +kernel
theorem dL_law_896 : decode cL_law 896 = .ok (.aload_n 0, 1) := by decide +kernel
theorem dL_law_897 : decode cL_law 897 = .ok (.iload_n 3, 1) := by decide +kernel
theorem dL_law_898 : decode cL_law 898 = .ok (.iconst 2, 1) := by decide +kernel
theorem dL_law_899 : decode cL_law 899 = .ok (.iadd, 1) := by decide +kernel
theorem dL_law_900 : decode cL_law 900 = .ok (.iaload, 1) := by decide +kernel
theorem dL_law_901 : decode cL_law 901 = .ok (.aload_n 0, 1) := by decide +kernel
theorem dL_law_902 : decode cL_law 902 = .ok (.iload_n 3, 1) := by decide +kernel
theorem dL_law_903 : decode cL_law 903 = .ok (.iconst 3, 1) := by decide +kernel
theorem dL_law_904 : decode cL_law 904 = .ok (.iadd, 1) := by decide +kernel
theorem dL_law_905 : decode cL_law 905 = .ok (.iaload, 1) := by decide +kernel
theorem dL_law_906 : decode cL_law 906 = .ok (.invokevirtual 92, 3) := by decide +kernel
theorem dL_law_909 : decode cL_law 909 = .ok (.aload_n 2, 1) := by decide +kernel
theorem dL_law_910 : decode cL_law 910 = .ok (.aload_n 0, 1) := by decide +kernel
theorem dL_law_911 : decode cL_law 911 = .ok (.iload_n 3, 1) := by decide +kernel
theorem dL_law_912 : decode cL_law 912 = .ok (.iconst 1, 1) := by decide +kernel
theorem dL_law_913 : decode cL_law 913 = .ok (.iadd, 1) := by decide +kernel
theorem dL_law_914 : decode cL_law 914 = .ok (.iaload, 1) := by decide +kernel
theorem dL_law_915 : decode cL_law 915 = .ok (.aload_n 0, 1) := by decide +kernel
theorem dL_law_916 : decode cL_law 916 = .ok (.iload_n 3, 1) := by decide +kernel
theorem dL_law_917 : decode cL_law 917 = .ok (.iconst 2, 1) := by decide +kernel
theorem dL_law_918 : decode cL_law 918 = .ok (.iadd, 1) := by decide +kernel
theorem dL_law_919 : decode cL_law 919 = .ok (.iaload, 1) := by decide +kernel
theorem dL_law_920 : decode cL_law 920 = .ok (.aload_n 0, 1) := by decide +kernel
theorem dL_law_921 : decode cL_law 921 = .ok (.iload_n 3, 1) := by decide +kernel
theorem dL_law_922 : decode cL_law 922 = .ok (.iconst 3, 1) := by decide +kernel
theorem dL_law_923 : decode cL_law 923 = .ok (.iadd, 1) := by decide +kernel
theorem dL_law_924 : decode cL_law 924 = .ok (.iaload, 1) := by decide +kernel
theorem dL_law_925 : decode cL_law 925 = .ok (.invokevirtual 95, 3) := by decide +kernel
theorem dL_law_928 : decode cL_law 928 = .ok (.if_icmp .eq 139, 3) := by decide +kernel
theorem dL_law_931 : decode cL_law 931 = .ok (.iconst 0, 1) := by decide +kernel
theorem dL_law_932 : decode cL_law 932 = .ok (.ireturn, 1) := by decide +kernel
theorem dL_law_933 : decode cL_law 933 = .ok (.aload_n 1, 1) := by decide +kernel
theorem dL_law_934 : decode cL_law 934 = .ok (.invokevirtual 96, 3) := by decide +kernel
theorem dL_law_937 : decode cL_law 937 = .ok (.aload_n 2, 1) := by decide +kernel
theorem dL_law_938 : decode cL_law 938 = .ok (.invokevirtual 99, 3) := by decide +kernel
theorem dL_law_941 : decode cL_law 941 = .ok (.if_icmp .eq 126, 3) := by decide +kernel
theorem dL_law_944 : decode cL_law 944 = .ok (.iconst 0, 1) := by decide +kernel
theorem dL_law_945 : decode cL_law 945 = .ok (.ireturn, 1) := by decide +kernel
theorem dL_law_946 : decode cL_law 946 = .ok (.aload_n 1, 1) := by decide +kernel
theorem dL_law_947 : decode cL_law 947 = .ok (.aload_n 0, 1) := by decide +kernel
theorem dL_law_948 : decode cL_law 948 = .ok (.iload_n 3, 1) := by decide +kernel
theorem dL_law_949 : decode cL_law 949 = .ok (.iconst 1, 1) := by decide +kernel
theorem dL_law_950 : decode cL_law 950 = .ok (.iadd, 1) := by decide +kernel
theorem dL_law_951 : decode cL_law 951 = .ok (.iaload, 1) := by decide +kernel
theorem dL_law_952 : decode cL_law 952 = .ok (.invokevirtual 100, 3) := by decide +kernel
theorem dL_law_955 : decode cL_law 955 = .ok (.aload_n 2, 1) := by decide +kernel
theorem dL_law_956 : decode cL_law 956 = .ok (.aload_n 0, 1) := by decide +kernel
theorem dL_law_957 : decode cL_law 957 = .ok (.iload_n 3, 1) := by decide +kernel
theorem dL_law_958 : decode cL_law 958 = .ok (.iconst 1, 1) := by decide +kernel
theorem dL_law_959 : decode cL_law 959 = .ok (.iadd, 1) := by decide +kernel
theorem dL_law_960 : decode cL_law 960 = .ok (.iaload, 1) := by decide +kernel
theorem dL_law_961 : decode cL_law 961 = .ok (.invokevirtual 103, 3) := by decide +kernel
theorem dL_law_964 : decode cL_law 964 = .ok (.if_icmp .eq 103, 3) := by decide +kernel
theorem dL_law_967 : decode cL_law 967 = .ok (.iconst 0, 1) := by decide +kernel
theorem dL_law_968 : decode cL_law 968 = .ok (.ireturn, 1) := by decide +kernel
theorem dL_law_969 : decode cL_law 969 = .ok (.aload_n 1, 1) := by decide +kernel
theorem dL_law_970 : decode cL_law 970 = .ok (.invokevirtual 104, 3) := by decide +kernel
theorem dL_law_973 : decode cL_law 973 = .ok (.aload_n 2, 1) := by decide +kernel
theorem dL_law_974 : decode cL_law 974 = .ok (.invokevirtual 107, 3) := by decide +kernel
theorem dL_law_977 : decode cL_law 977 = .ok (.if_icmp .eq 90, 3) := by decide +kernel
theorem dL_law_980 : decode cL_law 980 = .ok (.iconst 0, 1) := by decide +kernel
theorem dL_law_981 : decode cL_law 981 = .ok (.ireturn, 1) := by decide +kernel
theorem dL_law_982 : decode cL_law 982 = .ok (.aload_n 1, 1) := by decide +kernel
theorem dL_law_983 : decode cL_law 983 = .ok (.aload_n 0, 1) := by decide +kernel
theorem dL_law_984 : decode cL_law 984 = .ok (.iload_n 3, 1) := by decide +kernel
theorem dL_law_985 : decode cL_law 985 = .ok (.iconst 1, 1) := by decide +kernel
theorem dL_law_986 : decode cL_law 986 = .ok (.iadd, 1) := by decide +kernel
theorem dL_law_987 : decode cL_law 987 = .ok (.iaload, 1) := by decide +kernel
theorem dL_law_988 : decode cL_law 988 = .ok (.invokevirtual 108, 3) := by decide +kernel
theorem dL_law_991 : decode cL_law 991 = .ok (.aload_n 2, 1) := by decide +kernel
theorem dL_law_992 : decode cL_law 992 = .ok (.aload_n 0, 1) := by decide +kernel
theorem dL_law_993 : decode cL_law 993 = .ok (.iload_n 3, 1) := by decide +kernel
theorem dL_law_994 : decode cL_law 994 = .ok (.iconst 1, 1) := by decide +kernel
theorem dL_law_995 : decode cL_law 995 = .ok (.iadd, 1) := by decide +kernel
theorem dL_law_996 : decode cL_law 996 = .ok (.iaload, 1) := by decide +kernel
theorem dL_law_997 : decode cL_law 997 = .ok (.invokevirtual 111, 3) := by decide +kernel
theorem dL_law_1000 : decode cL_law 1000 = .ok (.if_icmp .eq 67, 3) := by decide +kernel
theorem dL_law_1003 : decode cL_law 1003 = .ok (.iconst 0, 1) := by decide +kernel
theorem dL_law_1004 : decode cL_law 1004 = .ok (.ireturn, 1) := by decide +kernel
theorem dL_law_1005 : decode cL_law 1005 = .ok (.aload_n 1, 1) := by decide +kernel
theorem dL_law_1006 : decode cL_law 1006 = .ok (.invokevirtual 112, 3) := by decide +kernel
theorem dL_law_1009 : decode cL_law 1009 = .ok (.aload_n 2, 1) := by decide +kernel
theorem dL_law_1010 : decode cL_law 1010 = .ok (.invokevirtual 115, 3) := by decide +kernel
theorem dL_law_1013 : decode cL_law 1013 = .ok (.if_icmp .eq 54, 3) := by decide +kernel
theorem dL_law_1016 : decode cL_law 1016 = .ok (.iconst 0, 1) := by decide +kernel
theorem dL_law_1017 : decode cL_law 1017 = .ok (.ireturn, 1) := by decide +kernel
theorem dL_law_1018 : decode cL_law 1018 = .ok (.aload_n 1, 1) := by decide +kernel
theorem dL_law_1019 : decode cL_law 1019 = .ok (.aload_n 0, 1) := by decide +kernel
theorem dL_law_1020 : decode cL_law 1020 = .ok (.iload_n 3, 1) := by decide +kernel
theorem dL_law_1021 : decode cL_law 1021 = .ok (.iconst 1, 1) := by decide +kernel
theorem dL_law_1022 : decode cL_law 1022 = .ok (.iadd, 1) := by decide +kernel
theorem dL_law_1023 : decode cL_law 1023 = .ok (.iaload, 1) := by decide +kernel
theorem dL_law_1024 : decode cL_law 1024 = .ok (.invokevirtual 116, 3) := by decide +kernel
theorem dL_law_1027 : decode cL_law 1027 = .ok (.aload_n 2, 1) := by decide +kernel
theorem dL_law_1028 : decode cL_law 1028 = .ok (.aload_n 0, 1) := by decide +kernel
theorem dL_law_1029 : decode cL_law 1029 = .ok (.iload_n 3, 1) := by decide +kernel
theorem dL_law_1030 : decode cL_law 1030 = .ok (.iconst 1, 1) := by decide +kernel
theorem dL_law_1031 : decode cL_law 1031 = .ok (.iadd, 1) := by decide +kernel
theorem dL_law_1032 : decode cL_law 1032 = .ok (.iaload, 1) := by decide +kernel
theorem dL_law_1033 : decode cL_law 1033 = .ok (.invokevirtual 119, 3) := by decide +kernel
theorem dL_law_1036 : decode cL_law 1036 = .ok (.if_icmp .eq 31, 3) := by decide +kernel
theorem dL_law_1039 : decode cL_law 1039 = .ok (.iconst 0, 1) := by decide +kernel
theorem dL_law_1040 : decode cL_law 1040 = .ok (.ireturn, 1) := by decide +kernel
theorem dL_law_1041 : decode cL_law 1041 = .ok (.aload_n 1, 1) := by decide +kernel
theorem dL_law_1042 : decode cL_law 1042 = .ok (.invokevirtual 120, 3) := by decide +kernel
theorem dL_law_1045 : decode cL_law 1045 = .ok (.aload_n 2, 1) := by decide +kernel
theorem dL_law_1046 : decode cL_law 1046 = .ok (.invokevirtual 123, 3) := by decide +kernel
theorem dL_law_1049 : decode cL_law 1049 = .ok (.if_icmp .eq 18, 3) := by decide +kernel
theorem dL_law_1052 : decode cL_law 1052 = .ok (.iconst 0, 1) := by decide +kernel
theorem dL_law_1053 : decode cL_law 1053 = .ok (.ireturn, 1) := by decide +kernel
theorem dL_law_1054 : decode cL_law 1054 = .ok (.aload_n 1, 1) := by decide +kernel
theorem dL_law_1055 : decode cL_law 1055 = .ok (.invokevirtual 124, 3) := by decide +kernel
theorem dL_law_1058 : decode cL_law 1058 = .ok (.aload_n 2, 1) := by decide +kernel
theorem dL_law_1059 : decode cL_law 1059 = .ok (.invokevirtual 127, 3) := by decide +kernel
theorem dL_law_1062 : decode cL_law 1062 = .ok (.if_icmp .eq 5, 3) := by decide +kernel
theorem dL_law_1065 : decode cL_law 1065 = .ok (.iconst 0, 1) := by decide +kernel
theorem dL_law_1066 : decode cL_law 1066 = .ok (.ireturn, 1) := by decide +kernel
theorem dL_law_1067 : decode cL_law 1067 = .ok (.iinc 3 5, 3) := by decide +kernel
theorem dL_law_1070 : decode cL_law 1070 = .ok (.goto (-1052), 3) := by decide +kernel
theorem dL_law_1073 : decode cL_law 1073 = .ok (.iconst 1, 1) := by decide +kernel
theorem dL_law_1074 : decode cL_law 1074 = .ok (.ireturn, 1) := by decide +kernel
end
section
/-! THE WORLD: the class's cells 0..36, the reference's 37..49, the kept house's 50..75 (there once k). Its numbers: one function, cell and place to Int32. -/
abbrev lh_HS : Type := Nat → Nat → Int32
def lh_row (h : lh_HS) (i : Nat) (r : Nat → Int32) : lh_HS := fun a => if a = i then r else h a
def lh_up (h : lh_HS) (i j : Nat) (x : Int32) : lh_HS := lh_row h i (upd (h i) j x)
theorem lh_row_eq (h : lh_HS) (i : Nat) (r : Nat → Int32) : lh_row h i r i = r := by simp [lh_row]
theorem lh_row_ne {h : lh_HS} {i a : Nat} {r : Nat → Int32} (n : a ≠ i) : lh_row h i r a = h a := by simp [lh_row, n]
theorem lh_up_eq (h : lh_HS) (i j : Nat) (x : Int32) : lh_up h i j x i j = x := by simp [lh_up, lh_row, upd]
theorem lh_up_ne {h : lh_HS} {i j a b : Nat} {x : Int32} (n : a ≠ i ∨ b ≠ j) : lh_up h i j x a b = h a b := by
  unfold lh_up lh_row upd
  by_cases ha : a = i
  · subst ha
    rcases n with n | n
    · exact absurd rfl n
    · simp [n]
  · simp [ha]
def lh_sh (ad : Nat → Nat) (cI cZ : ClassId) (k : Bool) (i : Nat) (r : Nat → Int32) : va_E := match i with
  | 0 => .inr (8, [.ref (ad 1), .ref (ad 27), .ref (ad 30), cond k (.ref (ad 50)) .null])
  | 1 => .inr (2, [.ref (ad 2), .ref (ad 3), .ref (ad 4), .ref (ad 5), .ref (ad 6)])
  | 2 => .inr (4, [.int (r 0), .ref (ad 7), .ref (ad 8)])
  | 3 => .inr (5, [.int (r 0), .ref (ad 9), .ref (ad 10), .ref (ad 11), .ref (ad 12), .ref (ad 13), .ref (ad 14), .ref (ad 15)])
  | 4 => .inr (0, [.int (r 0), .ref (ad 16), .ref (ad 17), .ref (ad 18), .ref (ad 19), .ref (ad 20)])
  | 5 => .inr (6, [.int (r 0), .ref (ad 21), .ref (ad 22), .ref (ad 23)])
  | 6 => .inr (7, [.int (r 0), .ref (ad 24), .ref (ad 25), .ref (ad 26)])
  | 7 => .inl (cI, 4, .inl r)
  | 8 => .inl (cI, 40, .inl r)
  | 9 => .inl (cI, 8, .inl r)
  | 10 => .inl (cI, 8, .inl r)
  | 11 => .inl (cI, 8, .inl r)
  | 12 => .inl (cI, 8, .inl r)
  | 13 => .inl (cI, 8, .inl r)
  | 14 => .inl (cI, 8, .inl r)
  | 15 => .inl (cI, 8, .inl r)
  | 16 => .inl (cI, 30, .inl r)
  | 17 => .inl (cI, 30, .inl r)
  | 18 => .inl (cI, 30, .inl r)
  | 19 => .inl (cI, 30, .inl r)
  | 20 => .inl (cZ, 30, .inl r)
  | 21 => .inl (cI, 12, .inl r)
  | 22 => .inl (cI, 12, .inl r)
  | 23 => .inl (cI, 12, .inl r)
  | 24 => .inl (cI, 5, .inl r)
  | 25 => .inl (cI, 5, .inl r)
  | 26 => .inl (cI, 5, .inl r)
  | 27 => .inr (3, [.ref (ad 1), .int (r 1), .int (r 2), .int (r 3), .int (r 4), .ref (ad 28), .ref (ad 29)])
  | 28 => .inl (cI, 10, .inl r)
  | 29 => .inl (cI, 10, .inl r)
  | 30 => .inr (1, [.ref (ad 1), .ref (ad 27), .int (r 2), .ref (ad 31), .int (r 4), .ref (ad 32), .ref (ad 33), .ref (ad 34), .ref (ad 35), .ref (ad 36)])
  | 31 => .inl (cI, 5, .inl r)
  | 32 => .inl (cI, 5, .inl r)
  | 33 => .inl (cI, 5, .inl r)
  | 34 => .inl (cI, 5, .inl r)
  | 35 => .inl (cI, 6, .inl r)
  | 36 => .inl (cI, 8, .inl r)
  | 37 => .inr (9, [.ref (ad 38), .ref (ad 39), .ref (ad 40), .ref (ad 41), .ref (ad 42), .ref (ad 43), .ref (ad 44), .ref (ad 45), .int (r 8), .ref (ad 46), .int (r 10), .int (r 11), .int (r 12), .ref (ad 47), .ref (ad 48), .ref (ad 49), .int (r 16), .int (r 17)])
  | 38 => .inl (cI, 5, .inl r)
  | 39 => .inl (cI, 4, .inl r)
  | 40 => .inl (cI, 40, .inl r)
  | 41 => .inl (cI, 56, .inl r)
  | 42 => .inl (cI, 150, .inl r)
  | 43 => .inl (cI, 36, .inl r)
  | 44 => .inl (cI, 15, .inl r)
  | 45 => .inl (cI, 9, .inl r)
  | 46 => .inl (cI, 310, .inl r)
  | 47 => .inl (cI, 6, .inl r)
  | 48 => .inl (cI, 5, .inl r)
  | 49 => .inl (cI, 8, .inl r)
  | 50 => .inr (2, [.ref (ad 51), .ref (ad 52), .ref (ad 53), .ref (ad 54), .ref (ad 55)])
  | 51 => .inr (4, [.int (r 0), .ref (ad 56), .ref (ad 57)])
  | 52 => .inr (5, [.int (r 0), .ref (ad 58), .ref (ad 59), .ref (ad 60), .ref (ad 61), .ref (ad 62), .ref (ad 63), .ref (ad 64)])
  | 53 => .inr (0, [.int (r 0), .ref (ad 65), .ref (ad 66), .ref (ad 67), .ref (ad 68), .ref (ad 69)])
  | 54 => .inr (6, [.int (r 0), .ref (ad 70), .ref (ad 71), .ref (ad 72)])
  | 55 => .inr (7, [.int (r 0), .ref (ad 73), .ref (ad 74), .ref (ad 75)])
  | 56 => .inl (cI, 4, .inl r)
  | 57 => .inl (cI, 40, .inl r)
  | 58 => .inl (cI, 8, .inl r)
  | 59 => .inl (cI, 8, .inl r)
  | 60 => .inl (cI, 8, .inl r)
  | 61 => .inl (cI, 8, .inl r)
  | 62 => .inl (cI, 8, .inl r)
  | 63 => .inl (cI, 8, .inl r)
  | 64 => .inl (cI, 8, .inl r)
  | 65 => .inl (cI, 30, .inl r)
  | 66 => .inl (cI, 30, .inl r)
  | 67 => .inl (cI, 30, .inl r)
  | 68 => .inl (cI, 30, .inl r)
  | 69 => .inl (cZ, 30, .inl r)
  | 70 => .inl (cI, 12, .inl r)
  | 71 => .inl (cI, 12, .inl r)
  | 72 => .inl (cI, 12, .inl r)
  | 73 => .inl (cI, 5, .inl r)
  | 74 => .inl (cI, 5, .inl r)
  | _ => .inl (cI, 5, .inl r)
def lh_nc (k : Bool) : Nat := cond k 76 50
theorem lh_nc_lt {k : Bool} {i : Nat} (h : i < 50) : i < lh_nc k := by cases k <;> simp [lh_nc] <;> omega
def lh_wl (ad : Nat → Nat) (cI cZ : ClassId) (k : Bool) (h : lh_HS) : va_W := (List.range (lh_nc k)).map (fun i => (ad i, lh_sh ad cI cZ k i (h i)))
theorem lh_get {ad : Nat → Nat} {cI cZ : ClassId} {k : Bool} {h : lh_HS} {i : Nat} (hi : i < lh_nc k) : (lh_wl ad cI cZ k h)[i]? = some (ad i, lh_sh ad cI cZ k i (h i)) := by
  simp [lh_wl, List.getElem?_map, List.getElem?_range hi]
theorem lh_set {ad : Nat → Nat} {cI cZ : ClassId} {k : Bool} {h : lh_HS} {i : Nat} {r : Nat → Int32} : (lh_wl ad cI cZ k h).set i (ad i, lh_sh ad cI cZ k i r) = lh_wl ad cI cZ k (lh_row h i r) := by
  apply List.ext_getElem?
  intro a
  by_cases ha : a < lh_nc k
  · rw [lh_get ha]
    by_cases e : i = a
    · subst e
      rw [List.getElem?_set_self (by simp [lh_wl]; exact ha), lh_row_eq]
    · rw [List.getElem?_set_ne e, lh_get ha, lh_row_ne (Ne.symm e)]
  · have h1 : (lh_wl ad cI cZ k (lh_row h i r)).length ≤ a := by simp [lh_wl]; omega
    have h2 : ((lh_wl ad cI cZ k h).set i (ad i, lh_sh ad cI cZ k i r)).length ≤ a := by simp [lh_wl]; omega
    rw [List.getElem?_eq_none h1, List.getElem?_eq_none h2]
abbrev lh_A (bs : Nat) : Nat → Prop := fun q => bs ≤ q
def lh_AD (ad : Nat → Nat) (bs : Nat) (k : Bool) : Prop := (∀ i j, i < lh_nc k → j < lh_nc k → ad i = ad j → i = j) ∧ ∀ i, i < lh_nc k → bs ≤ ad i
theorem lh_AD.D {ad : Nat → Nat} {bs : Nat} {k : Bool} (a : lh_AD ad bs k) (cI cZ : ClassId) (h : lh_HS) : va_D (lh_A bs) (lh_wl ad cI cZ k h) := by
  have key : ∀ (i : Nat) (p : Nat × va_E), (lh_wl ad cI cZ k h)[i]? = some p → i < lh_nc k ∧ p.1 = ad i := by
    intro i p hp
    have hi : i < lh_nc k := by have := (List.getElem?_eq_some_iff.mp hp).1; simpa [lh_wl] using this
    rw [lh_get hi] at hp
    cases hp
    exact ⟨hi, rfl⟩
  refine ⟨fun i j p q hi hj e => ?_, fun i q hi => ?_⟩
  · obtain ⟨h1, e1⟩ := key i p hi
    obtain ⟨h2, e2⟩ := key j q hj
    exact a.1 i j h1 h2 (by rw [← e1, ← e2]; exact e)
  · obtain ⟨h1, e1⟩ := key i q hi
    rw [e1]
    exact a.2 i h1
/-- the numbers agree wherever an array or a field has a place -/
def lh_len (i : Nat) : Nat := match i with
  | 7 => 4 | 8 => 40 | 9 => 8 | 10 => 8 | 11 => 8 | 12 => 8 | 13 => 8 | 14 => 8 | 15 => 8 | 16 => 30 | 17 => 30 | 18 => 30 | 19 => 30 | 20 => 30
  | 21 => 12 | 22 => 12 | 23 => 12 | 24 => 5 | 25 => 5 | 26 => 5 | 28 => 10 | 29 => 10 | 31 => 5 | 32 => 5 | 33 => 5 | 34 => 5 | 35 => 6 | 36 => 8
  | 38 => 5 | 39 => 4 | 40 => 40 | 41 => 56 | 42 => 150 | 43 => 36 | 44 => 15 | 45 => 9 | 46 => 310 | 47 => 6 | 48 => 5 | 49 => 8
  | 56 => 4 | 57 => 40 | 58 => 8 | 59 => 8 | 60 => 8 | 61 => 8 | 62 => 8 | 63 => 8 | 64 => 8 | 65 => 30 | 66 => 30 | 67 => 30 | 68 => 30 | 69 => 30
  | 70 => 12 | 71 => 12 | 72 => 12 | 73 => 5 | 74 => 5 | 75 => 5
  | _ => 18
/-- T of the document -/
def lh_T (j : Nat) : Int32 := match j with
  | 0 => 0 | 1 => 10 | 2 => 20 | 3 => 40 | 4 => 80 | 5 => 160 | 6 => 320 | 7 => 640 | _ => 100000
abbrev lh_Tv : Nat → Value := fun j => .int (lh_T j)
/-- the nest's links: they aren't among the words that stay, so they are carried -/
abbrev lh_cr : MethodName := ⟨"LightHours", "copyRow", "([I[I)V"⟩
def lh_nest : List Cond := [.methodLinkNest "LightHours" 9 ⟨"LightHours$House", "<init>", "()V"⟩ "LightHours", .methodLinkNest "LightHours$House" 9 ⟨"LightHours$Rooms", "<init>", "()V"⟩ "LightHours", .methodLinkNest "LightHours$House" 18 ⟨"LightHours$Sheets", "<init>", "()V"⟩ "LightHours", .methodLinkNest "LightHours$House" 25 ⟨"LightHours$Bookings", "<init>", "()V"⟩ "LightHours", .methodLinkNest "LightHours$House" 32 ⟨"LightHours$Threads", "<init>", "()V"⟩ "LightHours", .methodLinkNest "LightHours$House" 39 ⟨"LightHours$Walls", "<init>", "()V"⟩ "LightHours", .methodLinkNest "LightHours$Hanging" 137 lh_cr "LightHours", .methodLinkNest "LightHours$Rooms" 26 lh_cr "LightHours", .methodLinkNest "LightHours$Sheets" 37 lh_cr "LightHours", .methodLinkNest "LightHours$Bookings" 50 lh_cr "LightHours", .methodLinkNest "LightHours$Threads" 25 lh_cr "LightHours", .methodLinkNest "LightHours$Walls" 25 lh_cr "LightHours"]
abbrev lh_fln : Cond := .fieldLinkNest "LightHours$Ledger" 89 "LightHours" "STEPS" "[I" "LightHours"
def lh_NW (U : State) : Prop := (∀ w ∈ lh_nest, va_Nw w U) ∧ va_Nw lh_fln U
theorem lh_NW.warm {s U : State} (hW : s.WarmedH U.vm) (h : lh_NW s) : lh_NW U := by
  refine ⟨fun w hw => ?_, va_Nw.warmF hW h.2⟩
  have h1 := h.1 w hw
  simp only [lh_nest, List.mem_cons, List.not_mem_nil, or_false] at hw
  rcases hw with rfl | rfl | rfl | rfl | rfl | rfl | rfl | rfl | rfl | rfl | rfl | rfl <;> exact va_Nw.warmM hW h1
theorem lh_NW.same {s U : State} (e : s.vm = U.vm) (h : lh_NW s) : lh_NW U := by
  refine ⟨fun w hw => ?_, va_Nw.same rfl e h.2⟩
  have h1 := h.1 w hw
  simp only [lh_nest, List.mem_cons, List.not_mem_nil, or_false] at hw
  rcases hw with rfl | rfl | rfl | rfl | rfl | rfl | rfl | rfl | rfl | rfl | rfl | rfl <;> exact va_Nw.same rfl e h1
abbrev lh_ty (cI cZ : ClassId) : List (ClassId × FieldType) := [(cI, .int), (cZ, .boolean)]
/-- what holds of the state, whatever the numbers: tables, addresses, the static row -/
def lh_SB (D : va_G) (ad : Nat → Nat) (bs : Nat) (cI cZ : ClassId) (t9 : Nat) (k : Bool) (U : State) (H : Heap) : Prop :=
  va_K D clz (lh_ty cI cZ) U ∧ lh_AD ad bs k ∧ lh_NW U ∧ va_Z "LightHours" "STEPS" "[I" (.ref t9) (lh_A bs) U H ∧ va_T .int t9 9 lh_Tv (lh_A bs) U H
def lh_PB (D : va_G) (ad : Nat → Nat) (bs : Nat) (cI cZ : ClassId) (t9 : Nat) (k : Bool) (h : lh_HS) (U : State) : Prop :=
  va_P D clz (lh_wl ad cI cZ k h) U.heap ∧ lh_SB D ad bs cI cZ t9 k U U.heap
theorem lh_SB.go {D : va_G} {ad : Nat → Nat} {bs : Nat} {cI cZ : ClassId} {t9 : Nat} {k : Bool} {s U : State} {H : Heap} {locs : List Loc} (h : lh_SB D ad bs cI cZ t9 k s s.heap) (hS : va_S (lh_A bs) s.heap H locs) (hW : s.WarmedH U.vm) : lh_SB D ad bs cI cZ t9 k U H :=
  ⟨va_K.moved hW.alike h.1, h.2.1, h.2.2.1.warm hW, va_Z.moved hW.alike (h.2.2.2.1.kept hS.2.1), va_T.moved hW.alike (h.2.2.2.2.kept hS.2.1)⟩
def lh_ws (y : MethodName) (cc : ByteArray) (n : Nat) (ret : Option FieldType) : List Cond := .code y cc n ret :: GT
def lh_rm (d : Nat) : Room := { frames := d, cells := 0, slots := 0, locals := 40 * d }
theorem lh_blind {av : List Value} {D : va_G} {ad : Nat → Nat} {bs : Nat} {cI cZ : ClassId} {t9 : Nat} {k : Bool} {h : lh_HS} : FrameBlind (va_Pc av (lh_PB D ad bs cI cZ t9 k h)) := by
  intro a U g mk q
  obtain ⟨q0, qP, qK, qA, qN, qZ, qT⟩ := q
  exact ⟨q0, qP, va_K.moved (u := U) (U := U.calling g mk a) (Vm.Alike.refl U.vm) qK, qA, lh_NW.same (s := U) (U := U.calling g mk a) rfl qN, va_Z.moved (u := U) (U := U.calling g mk a) (Vm.Alike.refl U.vm) qZ, va_T.moved (u := U) (U := U.calling g mk a) (Vm.Alike.refl U.vm) qT⟩
/-- contracts: from numbers h, the method returns r (int), or returns (void), and the numbers are h' -/
abbrev lh_Qi (D : va_G) (ad : Nat → Nat) (bs : Nat) (cI cZ : ClassId) (k : Bool) (r : Int32) (h' : lh_HS) : Array Value → State → Outcome → State → Prop := va_Qi (fun x (_ : Unit) => x = r) (fun _ t => va_P D clz (lh_wl ad cI cZ k h') t.heap) (lh_A bs)
abbrev lh_Qv (D : va_G) (ad : Nat → Nat) (bs : Nat) (cI cZ : ClassId) (k : Bool) (h' : lh_HS) : Array Value → State → Outcome → State → Prop := va_Qv (fun (_ : Unit) => True) (fun _ t => va_P D clz (lh_wl ad cI cZ k h') t.heap) (lh_A bs)
abbrev lh_Qr (D : va_G) (ad : Nat → Nat) (bs : Nat) (cI cZ : ClassId) (k : Bool) (q : Nat) (h' : lh_HS) : Array Value → State → Outcome → State → Prop := va_Qr (fun (_ : Unit) => True) (fun _ a t => a = ad q ∧ va_P D clz (lh_wl ad cI cZ k h') t.heap) (lh_A bs)
def lh_CTi (l : Launch) (D : va_G) (ad : Nat → Nat) (bs : Nat) (cI cZ : ClassId) (t9 : Nat) (k : Bool) (y : MethodName) (cc : ByteArray) (n : Nat) (ret : Option FieldType) (d : Nat) (av : List Value) (h : lh_HS) (r : Int32) (h' : lh_HS) : Prop :=
  Met l y (lh_ws y cc n ret) (lh_rm d) (va_Pc av (lh_PB D ad bs cI cZ t9 k h)) (lh_Qi D ad bs cI cZ k r h') 0 0 (lh_A bs)
def lh_CTv (l : Launch) (D : va_G) (ad : Nat → Nat) (bs : Nat) (cI cZ : ClassId) (t9 : Nat) (k : Bool) (y : MethodName) (cc : ByteArray) (n : Nat) (d : Nat) (av : List Value) (h : lh_HS) (h' : lh_HS) : Prop :=
  Met l y (lh_ws y cc n none) (lh_rm d) (va_Pc av (lh_PB D ad bs cI cZ t9 k h)) (lh_Qv D ad bs cI cZ k h') 0 0 (lh_A bs)
def lh_CTr (l : Launch) (D : va_G) (ad : Nat → Nat) (bs : Nat) (cI cZ : ClassId) (t9 : Nat) (k : Bool) (y : MethodName) (cc : ByteArray) (n : Nat) (ret : Option FieldType) (d : Nat) (av : List Value) (h : lh_HS) (q : Nat) (h' : lh_HS) : Prop :=
  Met l y (lh_ws y cc n ret) (lh_rm d) (va_Pc av (lh_PB D ad bs cI cZ t9 k h)) (lh_Qr D ad bs cI cZ k q h') 0 0 (lh_A bs)
/-- the locals: the first entry of a place counts; all of one word -/
def lh_lv (ls : Array Slot) (nL : Nat) (lv : List (Nat × Value)) : Prop := ls.size = nL ∧ lv_wf ls ∧ (∀ q ∈ lv, q.2.category = 1) ∧ ∀ i v, lv.lookup i = some v → ls[i]? = some (.val v)
def lh_in : List (Nat × Value) → List (Nat × Value) → Prop
  | [], _ => True
  | q :: l, lv => lv.lookup q.1 = some q.2 ∧ lh_in l lv
theorem lh_lk_mem {lv : List (Nat × Value)} {i : Nat} {v : Value} (h : lv.lookup i = some v) : (i, v) ∈ lv := by
  induction lv with
  | nil => simp at h
  | cons q l ih =>
    obtain ⟨a, w⟩ := q
    rw [List.lookup_cons] at h
    by_cases e : i == a
    · simp [e] at h
      subst h
      have := eq_of_beq e
      subst this
      exact List.mem_cons_self
    · simp [e] at h
      exact List.mem_cons_of_mem _ (ih h)
theorem lh_in_lk {lv : List (Nat × Value)} : ∀ (l : List (Nat × Value)), lh_in l lv → ∀ i v, l.lookup i = some v → lv.lookup i = some v
  | [], _, i, v, h => by simp at h
  | q :: l, hi, i, v, h => by
    obtain ⟨a, w⟩ := q
    rw [List.lookup_cons] at h
    by_cases e : i == a
    · simp [e] at h
      subst h
      have := eq_of_beq e
      subst this
      exact hi.1
    · simp [e] at h
      exact lh_in_lk l hi.2 i v h
theorem lh_lv.sub {ls : Array Slot} {nL : Nat} {lv l : List (Nat × Value)} (h : lh_lv ls nL lv) (hi : lh_in l lv) (hc : ∀ q ∈ l, q.2.category = 1) : lh_lv ls nL l :=
  ⟨h.1, h.2.1, hc, fun i v e => h.2.2.2 i v (lh_in_lk l hi i v e)⟩
def lh_dd (nL : Nat) (lv : List (Nat × Value)) : List (Nat × Value) := (List.range nL).filterMap (fun i => (lv.lookup i).map (fun v => (i, v)))
theorem lh_lv.has {ls : Array Slot} {nL : Nat} {lv : List (Nat × Value)} (h : lh_lv ls nL lv) : lv_has ls nL (lh_dd nL lv) := by
  refine ⟨h.1, h.2.1, fun q hq => ?_⟩
  obtain ⟨i, -, hi⟩ := List.mem_filterMap.mp hq
  cases e : lv.lookup i with
  | none => rw [e] at hi; cases hi
  | some v => rw [e] at hi; cases hi; exact h.2.2.2 i v e
theorem lh_lv.st {ls ls' : Array Slot} {nL i : Nat} {v : Value} {lv : List (Nat × Value)} (h : lh_lv ls nL lv) (hv : v.category = 1) (h' : lv_has ls' nL ((i, v) :: (lh_dd nL lv).filter (fun q => !(q.1 == i) && !(q.1 + 1 == i && q.2.category == 2)))) : lh_lv ls' nL ((i, v) :: lv) := by
  refine ⟨h'.1, h'.2.1, fun q hq => ?_, fun j w e => ?_⟩
  · rcases List.mem_cons.mp hq with rfl | hq
    · exact hv
    · exact h.2.2.1 q hq
  · rw [List.lookup_cons] at e
    by_cases c : j == i
    · simp [c] at e
      subst e
      have := eq_of_beq c
      subst this
      exact h'.2.2 (j, v) List.mem_cons_self
    · simp [c] at e
      have hj : j < nL := by rw [← h.1]; exact lv_lt (h.2.2.2 j w e)
      have hw : w.category = 1 := h.2.2.1 (j, w) (lh_lk_mem e)
      refine h'.2.2 (j, w) (List.mem_cons_of_mem _ (List.mem_filter.mpr ⟨List.mem_filterMap.mpr ⟨j, List.mem_range.mpr hj, by rw [e]; rfl⟩, ?_⟩))
      have hne : ¬ j = i := fun z => c (by rw [z]; exact beq_self_eq_true i)
      simp [hne, hw]
theorem lh_lv.entry (vs : List Value) {n : Nat} {lv : List (Nat × Value)} (hn : (lg_sl vs).length ≤ n) (hlv : lv_args 0 vs = lv) (hc : ∀ q ∈ lv, q.2.category = 1) (hnd : lh_in lv lv) : lh_lv ((lg_sl vs ++ List.replicate (n - (lg_sl vs).length) Slot.unset).toArray) n lv := by
  have h := lv_entry vs hn
  rw [hlv] at h
  exact ⟨h.1, h.2.1, hc, fun i v e => h.2.2 (i, v) (lh_lk_mem e)⟩
end
section
/-! THE ROWS over the world: an instruction each. lh_AJ: from here, with these locals, stack and numbers, the method comes to its end Q. -/
section LHR
variable {p : Program} {l : Launch} {e : Env} {R : Room} {s : State} {m : MethodId} {args : Array Value} {below : List Frame} {meth : Method} {c : Code} {Q : State → Prop}
variable {D : va_G} {ad : Nat → Nat} {bs : Nat} {cI cZ : ClassId} {t9 : Nat} {k : Bool}
variable {own : String} {cc : ByteArray} {nL : Nat} {ret : Option FieldType}
def lh_BK (p : Program) (R : Room) (s : State) (m : MethodId) (args : Array Value) (meth : Method) (c : Code) (D : va_G) (ad : Nat → Nat) (bs : Nat) (cI cZ : ClassId) (t9 : Nat) (k : Bool) (own : String) (cc : ByteArray) (nL : Nat) (ret : Option FieldType) : Prop :=
  p.tables.exec = Jvm.exec ∧ c.code = cc ∧ meth.sig.returnType = ret ∧ c.maxLocals = nL ∧ s.vm.findClass own = some m.cls ∧ (∀ w ∈ GT, w.before args s = true) ∧ meth.locks = false ∧ lh_SB D ad bs cI cZ t9 k s s.heap
def lh_AJ (p : Program) (l : Launch) (e : Env) (R : Room) (s : State) (m : MethodId) (args : Array Value) (below : List Frame) (meth : Method) (c : Code) (D : va_G) (ad : Nat → Nat) (bs : Nat) (cI cZ : ClassId) (k : Bool) (nL : Nat) (Q : State → Prop) (pc : Nat) (lv : List (Nat × Value)) (st : List Value) (h : lh_HS) : Prop :=
  ∀ (H : Heap) (locs : List Loc) (ls : Array Slot), va_P D clz (lh_wl ad cI cZ k h) H → va_S (lh_A bs) s.heap H locs → lh_lv ls nL lv → W p l e R s m args below meth c H locs 0 0 Q (F0 m pc ls st)
variable {pc : Nat} {lv : List (Nat × Value)} {st : List Value} {h : lh_HS}
theorem la_iconst (B : lh_BK p R s m args meth c D ad bs cI cZ t9 k own cc nL ret) {n : Int} {v : Int32} (hdg : decode cc pc = .ok (.iconst n, 1)) (hv : Int32.ofInt n = v) (K : lh_AJ p l e R s m args below meth c D ad bs cI cZ k nL Q (pc + 1) lv (.int v :: st) h) : lh_AJ p l e R s m args below meth c D ad bs cI cZ k nL Q pc lv (st) h :=
  fun H locs ls hP hS hl => lv_iconst B.1 B.2.1 hdg hv (K H locs ls hP hS hl)
theorem la_bipush (B : lh_BK p R s m args meth c D ad bs cI cZ t9 k own cc nL ret) {n : Int} {v : Int32} (hdg : decode cc pc = .ok (.bipush n, 2)) (hv : (Int8.ofInt n).toInt32 = v) (K : lh_AJ p l e R s m args below meth c D ad bs cI cZ k nL Q (pc + 2) lv (.int v :: st) h) : lh_AJ p l e R s m args below meth c D ad bs cI cZ k nL Q pc lv (st) h :=
  fun H locs ls hP hS hl => lv_bipush B.1 B.2.1 hdg hv (K H locs ls hP hS hl)
theorem la_sipush (B : lh_BK p R s m args meth c D ad bs cI cZ t9 k own cc nL ret) {n : Int} {v : Int32} (hdg : decode cc pc = .ok (.sipush n, 3)) (hv : (Int16.ofInt n).toInt32 = v) (K : lh_AJ p l e R s m args below meth c D ad bs cI cZ k nL Q (pc + 3) lv (.int v :: st) h) : lh_AJ p l e R s m args below meth c D ad bs cI cZ k nL Q pc lv (st) h :=
  fun H locs ls hP hS hl => lv_sipush B.1 B.2.1 hdg hv (K H locs ls hP hS hl)
theorem la_ldc (B : lh_BK p R s m args meth c D ad bs cI cZ t9 k own cc nL ret) {index : Nat} {v : Int32} (hw : Cond.constant own index v ∈ GT) (hdg : decode cc pc = .ok (.ldc index, 2)) (K : lh_AJ p l e R s m args below meth c D ad bs cI cZ k nL Q (pc + 2) lv (.int v :: st) h) : lh_AJ p l e R s m args below meth c D ad bs cI cZ k nL Q pc lv (st) h :=
  fun H locs ls hP hS hl => lv_ldc B.1 B.2.1 B.2.2.2.2.1 (B.2.2.2.2.2.1 _ hw) hdg (K H locs ls hP hS hl)
theorem la_iload_n (B : lh_BK p R s m args meth c D ad bs cI cZ t9 k own cc nL ret) {q : Fin 4} {i : Nat} {x : Int32} (hdg : decode cc pc = .ok (.iload_n q, 1)) (hi : (q : Nat) = i) (hx : lv.lookup i = some (.int x)) (K : lh_AJ p l e R s m args below meth c D ad bs cI cZ k nL Q (pc + 1) lv (.int x :: st) h) : lh_AJ p l e R s m args below meth c D ad bs cI cZ k nL Q pc lv (st) h :=
  fun H locs ls hP hS hl => lv_iload_n B.1 B.2.1 hdg hi (hl.2.2.2 i _ hx) (K H locs ls hP hS hl)
theorem la_iload (B : lh_BK p R s m args meth c D ad bs cI cZ t9 k own cc nL ret) {i : Nat} {x : Int32} (hdg : decode cc pc = .ok (.iload i, 2)) (hx : lv.lookup i = some (.int x)) (K : lh_AJ p l e R s m args below meth c D ad bs cI cZ k nL Q (pc + 2) lv (.int x :: st) h) : lh_AJ p l e R s m args below meth c D ad bs cI cZ k nL Q pc lv (st) h :=
  fun H locs ls hP hS hl => lv_iload B.1 B.2.1 hdg (hl.2.2.2 i _ hx) (K H locs ls hP hS hl)
theorem la_aload_n (B : lh_BK p R s m args meth c D ad bs cI cZ t9 k own cc nL ret) {q : Fin 4} {i : Nat} {x : Nat} (hdg : decode cc pc = .ok (.aload_n q, 1)) (hi : (q : Nat) = i) (hx : lv.lookup i = some (.ref x)) (K : lh_AJ p l e R s m args below meth c D ad bs cI cZ k nL Q (pc + 1) lv (.ref x :: st) h) : lh_AJ p l e R s m args below meth c D ad bs cI cZ k nL Q pc lv (st) h :=
  fun H locs ls hP hS hl => lv_aload_n B.1 B.2.1 hdg hi (hl.2.2.2 i _ hx) (K H locs ls hP hS hl)
theorem la_aload (B : lh_BK p R s m args meth c D ad bs cI cZ t9 k own cc nL ret) {i : Nat} {x : Nat} (hdg : decode cc pc = .ok (.aload i, 2)) (hx : lv.lookup i = some (.ref x)) (K : lh_AJ p l e R s m args below meth c D ad bs cI cZ k nL Q (pc + 2) lv (.ref x :: st) h) : lh_AJ p l e R s m args below meth c D ad bs cI cZ k nL Q pc lv (st) h :=
  fun H locs ls hP hS hl => lv_aload B.1 B.2.1 hdg (hl.2.2.2 i _ hx) (K H locs ls hP hS hl)
theorem la_istore_n (B : lh_BK p R s m args meth c D ad bs cI cZ t9 k own cc nL ret) {q : Fin 4} {i : Nat} {x : Int32} (hdg : decode cc pc = .ok (.istore_n q, 1)) (hi : (q : Nat) = i) (hn : i < nL) (K : lh_AJ p l e R s m args below meth c D ad bs cI cZ k nL Q (pc + 1) ((i, .int x) :: lv) (st) h) : lh_AJ p l e R s m args below meth c D ad bs cI cZ k nL Q pc lv (.int x :: st) h :=
  fun H locs ls hP hS hl => lv_istore_n B.1 B.2.1 hdg hi hl.has hn rfl (fun ls2 hl2 => K H locs ls2 hP hS (hl.st rfl hl2))
theorem la_istore (B : lh_BK p R s m args meth c D ad bs cI cZ t9 k own cc nL ret) {i : Nat} {x : Int32} (hdg : decode cc pc = .ok (.istore i, 2)) (hn : i < nL) (K : lh_AJ p l e R s m args below meth c D ad bs cI cZ k nL Q (pc + 2) ((i, .int x) :: lv) (st) h) : lh_AJ p l e R s m args below meth c D ad bs cI cZ k nL Q pc lv (.int x :: st) h :=
  fun H locs ls hP hS hl => lv_istore B.1 B.2.1 hdg hl.has hn rfl (fun ls2 hl2 => K H locs ls2 hP hS (hl.st rfl hl2))
theorem la_astore_n (B : lh_BK p R s m args meth c D ad bs cI cZ t9 k own cc nL ret) {q : Fin 4} {i : Nat} {x : Nat} (hdg : decode cc pc = .ok (.astore_n q, 1)) (hi : (q : Nat) = i) (hn : i < nL) (K : lh_AJ p l e R s m args below meth c D ad bs cI cZ k nL Q (pc + 1) ((i, .ref x) :: lv) (st) h) : lh_AJ p l e R s m args below meth c D ad bs cI cZ k nL Q pc lv (.ref x :: st) h :=
  fun H locs ls hP hS hl => lv_astore_n B.1 B.2.1 hdg hi hl.has hn rfl (fun ls2 hl2 => K H locs ls2 hP hS (hl.st rfl hl2))
theorem lh_dd_at {nL i : Nat} {lv : List (Nat × Value)} {v : Value} (hi : i < nL) (hx : lv.lookup i = some v) : ∃ q : Nat, (lh_dd nL lv)[q]? = some (i, v) :=
  List.getElem?_of_mem (List.mem_filterMap.mpr ⟨i, List.mem_range.mpr hi, by rw [hx]; rfl⟩)
theorem la_iinc (B : lh_BK p R s m args meth c D ad bs cI cZ t9 k own cc nL ret) {i : Nat} {n : Int} {x v : Int32} (hdg : decode cc pc = .ok (.iinc i n, 3)) (hx : lv.lookup i = some (.int x)) (hv : x + Int32.ofInt n = v) (hn : i < nL) (K : lh_AJ p l e R s m args below meth c D ad bs cI cZ k nL Q (pc + 3) ((i, .int v) :: lv) st h) : lh_AJ p l e R s m args below meth c D ad bs cI cZ k nL Q pc lv st h := by
  intro H locs ls hP hS hl
  obtain ⟨q, hq⟩ := lh_dd_at hn hx
  exact lv_iinc B.1 B.2.1 hdg hl.has hq hv hn rfl (fun ls2 hl2 => K H locs ls2 hP hS (hl.st rfl hl2))
theorem la_iadd (B : lh_BK p R s m args meth c D ad bs cI cZ t9 k own cc nL ret) {x y : Int32} (hdg : decode cc pc = .ok (.iadd, 1)) (K : lh_AJ p l e R s m args below meth c D ad bs cI cZ k nL Q (pc + 1) lv (.int (x + y) :: st) h) : lh_AJ p l e R s m args below meth c D ad bs cI cZ k nL Q pc lv (.int y :: .int x :: st) h :=
  fun H locs ls hP hS hl => lv_iadd B.1 B.2.1 hdg (K H locs ls hP hS hl)
theorem la_isub (B : lh_BK p R s m args meth c D ad bs cI cZ t9 k own cc nL ret) {x y : Int32} (hdg : decode cc pc = .ok (.isub, 1)) (K : lh_AJ p l e R s m args below meth c D ad bs cI cZ k nL Q (pc + 1) lv (.int (x - y) :: st) h) : lh_AJ p l e R s m args below meth c D ad bs cI cZ k nL Q pc lv (.int y :: .int x :: st) h :=
  fun H locs ls hP hS hl => lv_isub B.1 B.2.1 hdg (K H locs ls hP hS hl)
theorem la_imul (B : lh_BK p R s m args meth c D ad bs cI cZ t9 k own cc nL ret) {x y : Int32} (hdg : decode cc pc = .ok (.imul, 1)) (K : lh_AJ p l e R s m args below meth c D ad bs cI cZ k nL Q (pc + 1) lv (.int (x * y) :: st) h) : lh_AJ p l e R s m args below meth c D ad bs cI cZ k nL Q pc lv (.int y :: .int x :: st) h :=
  fun H locs ls hP hS hl => lv_imul B.1 B.2.1 hdg (K H locs ls hP hS hl)
theorem la_iand (B : lh_BK p R s m args meth c D ad bs cI cZ t9 k own cc nL ret) {x y : Int32} (hdg : decode cc pc = .ok (.iand, 1)) (K : lh_AJ p l e R s m args below meth c D ad bs cI cZ k nL Q (pc + 1) lv (.int (x &&& y) :: st) h) : lh_AJ p l e R s m args below meth c D ad bs cI cZ k nL Q pc lv (.int y :: .int x :: st) h :=
  fun H locs ls hP hS hl => lv_iand B.1 B.2.1 hdg (K H locs ls hP hS hl)
theorem la_ior (B : lh_BK p R s m args meth c D ad bs cI cZ t9 k own cc nL ret) {x y : Int32} (hdg : decode cc pc = .ok (.ior, 1)) (K : lh_AJ p l e R s m args below meth c D ad bs cI cZ k nL Q (pc + 1) lv (.int (x ||| y) :: st) h) : lh_AJ p l e R s m args below meth c D ad bs cI cZ k nL Q pc lv (.int y :: .int x :: st) h :=
  fun H locs ls hP hS hl => lv_ior B.1 B.2.1 hdg (K H locs ls hP hS hl)
theorem la_ishl (B : lh_BK p R s m args meth c D ad bs cI cZ t9 k own cc nL ret) {x y : Int32} (hdg : decode cc pc = .ok (.ishl, 1)) (K : lh_AJ p l e R s m args below meth c D ad bs cI cZ k nL Q (pc + 1) lv (.int (x <<< (y &&& 31)) :: st) h) : lh_AJ p l e R s m args below meth c D ad bs cI cZ k nL Q pc lv (.int y :: .int x :: st) h :=
  fun H locs ls hP hS hl => lv_ishl B.1 B.2.1 hdg (K H locs ls hP hS hl)
theorem la_ishr (B : lh_BK p R s m args meth c D ad bs cI cZ t9 k own cc nL ret) {x y : Int32} (hdg : decode cc pc = .ok (.ishr, 1)) (K : lh_AJ p l e R s m args below meth c D ad bs cI cZ k nL Q (pc + 1) lv (.int (x >>> (y &&& 31)) :: st) h) : lh_AJ p l e R s m args below meth c D ad bs cI cZ k nL Q pc lv (.int y :: .int x :: st) h :=
  fun H locs ls hP hS hl => lv_ishr B.1 B.2.1 hdg (K H locs ls hP hS hl)
theorem la_ineg (B : lh_BK p R s m args meth c D ad bs cI cZ t9 k own cc nL ret) {x : Int32} (hdg : decode cc pc = .ok (.ineg, 1)) (K : lh_AJ p l e R s m args below meth c D ad bs cI cZ k nL Q (pc + 1) lv (.int (-x) :: st) h) : lh_AJ p l e R s m args below meth c D ad bs cI cZ k nL Q pc lv (.int x :: st) h :=
  fun H locs ls hP hS hl => lv_ineg B.1 B.2.1 hdg (K H locs ls hP hS hl)
theorem la_dup (B : lh_BK p R s m args meth c D ad bs cI cZ t9 k own cc nL ret) {v : Value} (hdg : decode cc pc = .ok (.dup, 1)) (hv : v.category = 1) (K : lh_AJ p l e R s m args below meth c D ad bs cI cZ k nL Q (pc + 1) lv (v :: v :: st) h) : lh_AJ p l e R s m args below meth c D ad bs cI cZ k nL Q pc lv (v :: st) h :=
  fun H locs ls hP hS hl => lv_dup B.1 B.2.1 hdg hv (K H locs ls hP hS hl)
theorem la_pop (B : lh_BK p R s m args meth c D ad bs cI cZ t9 k own cc nL ret) {v : Value} (hdg : decode cc pc = .ok (.pop, 1)) (hv : v.category = 1) (K : lh_AJ p l e R s m args below meth c D ad bs cI cZ k nL Q (pc + 1) lv (st) h) : lh_AJ p l e R s m args below meth c D ad bs cI cZ k nL Q pc lv (v :: st) h :=
  fun H locs ls hP hS hl => lv_pop B.1 B.2.1 hdg hv (K H locs ls hP hS hl)
theorem la_dup2 (B : lh_BK p R s m args meth c D ad bs cI cZ t9 k own cc nL ret) {v w : Value} (hdg : decode cc pc = .ok (.dup2, 1)) (hv : v.category = 1) (hw : w.category = 1) (K : lh_AJ p l e R s m args below meth c D ad bs cI cZ k nL Q (pc + 1) lv (v :: w :: v :: w :: st) h) : lh_AJ p l e R s m args below meth c D ad bs cI cZ k nL Q pc lv (v :: w :: st) h :=
  fun H locs ls hP hS hl => lv_dup2_11 B.1 B.2.1 hdg hv hw (K H locs ls hP hS hl)
theorem la_if_eq (B : lh_BK p R s m args meth c D ad bs cI cZ t9 k own cc nL ret) {x : Int32} {off : Int} {tgt : Nat} (hdg : decode cc pc = .ok (.ifCond .eq off, 3)) (ht : (pc : Int) + off = (tgt : Int)) (kt : x = 0 → lh_AJ p l e R s m args below meth c D ad bs cI cZ k nL Q tgt lv st h) (kf : ¬ x = 0 → lh_AJ p l e R s m args below meth c D ad bs cI cZ k nL Q (pc + 3) lv st h) : lh_AJ p l e R s m args below meth c D ad bs cI cZ k nL Q pc lv (.int x :: st) h :=
  fun H locs ls hP hS hl => lv_if_eq B.1 B.2.1 hdg ht (fun c9 => kt c9 H locs ls hP hS hl) (fun c9 => kf c9 H locs ls hP hS hl)
theorem la_icmp_eq (B : lh_BK p R s m args meth c D ad bs cI cZ t9 k own cc nL ret) {x y : Int32} {off : Int} {tgt : Nat} (hdg : decode cc pc = .ok (.if_icmp .eq off, 3)) (ht : (pc : Int) + off = (tgt : Int)) (kt : x = y → lh_AJ p l e R s m args below meth c D ad bs cI cZ k nL Q tgt lv st h) (kf : ¬ x = y → lh_AJ p l e R s m args below meth c D ad bs cI cZ k nL Q (pc + 3) lv st h) : lh_AJ p l e R s m args below meth c D ad bs cI cZ k nL Q pc lv (.int y :: .int x :: st) h :=
  fun H locs ls hP hS hl => lv_icmp_eq B.1 B.2.1 hdg ht (fun c9 => kt c9 H locs ls hP hS hl) (fun c9 => kf c9 H locs ls hP hS hl)
theorem la_if_ne (B : lh_BK p R s m args meth c D ad bs cI cZ t9 k own cc nL ret) {x : Int32} {off : Int} {tgt : Nat} (hdg : decode cc pc = .ok (.ifCond .ne off, 3)) (ht : (pc : Int) + off = (tgt : Int)) (kt : ¬ x = 0 → lh_AJ p l e R s m args below meth c D ad bs cI cZ k nL Q tgt lv st h) (kf : x = 0 → lh_AJ p l e R s m args below meth c D ad bs cI cZ k nL Q (pc + 3) lv st h) : lh_AJ p l e R s m args below meth c D ad bs cI cZ k nL Q pc lv (.int x :: st) h :=
  fun H locs ls hP hS hl => lv_if_ne B.1 B.2.1 hdg ht (fun c9 => kt c9 H locs ls hP hS hl) (fun c9 => kf c9 H locs ls hP hS hl)
theorem la_icmp_ne (B : lh_BK p R s m args meth c D ad bs cI cZ t9 k own cc nL ret) {x y : Int32} {off : Int} {tgt : Nat} (hdg : decode cc pc = .ok (.if_icmp .ne off, 3)) (ht : (pc : Int) + off = (tgt : Int)) (kt : ¬ x = y → lh_AJ p l e R s m args below meth c D ad bs cI cZ k nL Q tgt lv st h) (kf : x = y → lh_AJ p l e R s m args below meth c D ad bs cI cZ k nL Q (pc + 3) lv st h) : lh_AJ p l e R s m args below meth c D ad bs cI cZ k nL Q pc lv (.int y :: .int x :: st) h :=
  fun H locs ls hP hS hl => lv_icmp_ne B.1 B.2.1 hdg ht (fun c9 => kt c9 H locs ls hP hS hl) (fun c9 => kf c9 H locs ls hP hS hl)
theorem la_if_lt (B : lh_BK p R s m args meth c D ad bs cI cZ t9 k own cc nL ret) {x : Int32} {off : Int} {tgt : Nat} (hdg : decode cc pc = .ok (.ifCond .lt off, 3)) (ht : (pc : Int) + off = (tgt : Int)) (kt : x < 0 → lh_AJ p l e R s m args below meth c D ad bs cI cZ k nL Q tgt lv st h) (kf : ¬ x < 0 → lh_AJ p l e R s m args below meth c D ad bs cI cZ k nL Q (pc + 3) lv st h) : lh_AJ p l e R s m args below meth c D ad bs cI cZ k nL Q pc lv (.int x :: st) h :=
  fun H locs ls hP hS hl => lv_if_lt B.1 B.2.1 hdg ht (fun c9 => kt c9 H locs ls hP hS hl) (fun c9 => kf c9 H locs ls hP hS hl)
theorem la_icmp_lt (B : lh_BK p R s m args meth c D ad bs cI cZ t9 k own cc nL ret) {x y : Int32} {off : Int} {tgt : Nat} (hdg : decode cc pc = .ok (.if_icmp .lt off, 3)) (ht : (pc : Int) + off = (tgt : Int)) (kt : x < y → lh_AJ p l e R s m args below meth c D ad bs cI cZ k nL Q tgt lv st h) (kf : ¬ x < y → lh_AJ p l e R s m args below meth c D ad bs cI cZ k nL Q (pc + 3) lv st h) : lh_AJ p l e R s m args below meth c D ad bs cI cZ k nL Q pc lv (.int y :: .int x :: st) h :=
  fun H locs ls hP hS hl => lv_icmp_lt B.1 B.2.1 hdg ht (fun c9 => kt c9 H locs ls hP hS hl) (fun c9 => kf c9 H locs ls hP hS hl)
theorem la_if_ge (B : lh_BK p R s m args meth c D ad bs cI cZ t9 k own cc nL ret) {x : Int32} {off : Int} {tgt : Nat} (hdg : decode cc pc = .ok (.ifCond .ge off, 3)) (ht : (pc : Int) + off = (tgt : Int)) (kt : 0 ≤ x → lh_AJ p l e R s m args below meth c D ad bs cI cZ k nL Q tgt lv st h) (kf : ¬ 0 ≤ x → lh_AJ p l e R s m args below meth c D ad bs cI cZ k nL Q (pc + 3) lv st h) : lh_AJ p l e R s m args below meth c D ad bs cI cZ k nL Q pc lv (.int x :: st) h :=
  fun H locs ls hP hS hl => lv_if_ge B.1 B.2.1 hdg ht (fun c9 => kt c9 H locs ls hP hS hl) (fun c9 => kf c9 H locs ls hP hS hl)
theorem la_icmp_ge (B : lh_BK p R s m args meth c D ad bs cI cZ t9 k own cc nL ret) {x y : Int32} {off : Int} {tgt : Nat} (hdg : decode cc pc = .ok (.if_icmp .ge off, 3)) (ht : (pc : Int) + off = (tgt : Int)) (kt : y ≤ x → lh_AJ p l e R s m args below meth c D ad bs cI cZ k nL Q tgt lv st h) (kf : ¬ y ≤ x → lh_AJ p l e R s m args below meth c D ad bs cI cZ k nL Q (pc + 3) lv st h) : lh_AJ p l e R s m args below meth c D ad bs cI cZ k nL Q pc lv (.int y :: .int x :: st) h :=
  fun H locs ls hP hS hl => lv_icmp_ge B.1 B.2.1 hdg ht (fun c9 => kt c9 H locs ls hP hS hl) (fun c9 => kf c9 H locs ls hP hS hl)
theorem la_if_gt (B : lh_BK p R s m args meth c D ad bs cI cZ t9 k own cc nL ret) {x : Int32} {off : Int} {tgt : Nat} (hdg : decode cc pc = .ok (.ifCond .gt off, 3)) (ht : (pc : Int) + off = (tgt : Int)) (kt : 0 < x → lh_AJ p l e R s m args below meth c D ad bs cI cZ k nL Q tgt lv st h) (kf : ¬ 0 < x → lh_AJ p l e R s m args below meth c D ad bs cI cZ k nL Q (pc + 3) lv st h) : lh_AJ p l e R s m args below meth c D ad bs cI cZ k nL Q pc lv (.int x :: st) h :=
  fun H locs ls hP hS hl => lv_if_gt B.1 B.2.1 hdg ht (fun c9 => kt c9 H locs ls hP hS hl) (fun c9 => kf c9 H locs ls hP hS hl)
theorem la_icmp_gt (B : lh_BK p R s m args meth c D ad bs cI cZ t9 k own cc nL ret) {x y : Int32} {off : Int} {tgt : Nat} (hdg : decode cc pc = .ok (.if_icmp .gt off, 3)) (ht : (pc : Int) + off = (tgt : Int)) (kt : y < x → lh_AJ p l e R s m args below meth c D ad bs cI cZ k nL Q tgt lv st h) (kf : ¬ y < x → lh_AJ p l e R s m args below meth c D ad bs cI cZ k nL Q (pc + 3) lv st h) : lh_AJ p l e R s m args below meth c D ad bs cI cZ k nL Q pc lv (.int y :: .int x :: st) h :=
  fun H locs ls hP hS hl => lv_icmp_gt B.1 B.2.1 hdg ht (fun c9 => kt c9 H locs ls hP hS hl) (fun c9 => kf c9 H locs ls hP hS hl)
theorem la_if_le (B : lh_BK p R s m args meth c D ad bs cI cZ t9 k own cc nL ret) {x : Int32} {off : Int} {tgt : Nat} (hdg : decode cc pc = .ok (.ifCond .le off, 3)) (ht : (pc : Int) + off = (tgt : Int)) (kt : x ≤ 0 → lh_AJ p l e R s m args below meth c D ad bs cI cZ k nL Q tgt lv st h) (kf : ¬ x ≤ 0 → lh_AJ p l e R s m args below meth c D ad bs cI cZ k nL Q (pc + 3) lv st h) : lh_AJ p l e R s m args below meth c D ad bs cI cZ k nL Q pc lv (.int x :: st) h :=
  fun H locs ls hP hS hl => lv_if_le B.1 B.2.1 hdg ht (fun c9 => kt c9 H locs ls hP hS hl) (fun c9 => kf c9 H locs ls hP hS hl)
theorem la_icmp_le (B : lh_BK p R s m args meth c D ad bs cI cZ t9 k own cc nL ret) {x y : Int32} {off : Int} {tgt : Nat} (hdg : decode cc pc = .ok (.if_icmp .le off, 3)) (ht : (pc : Int) + off = (tgt : Int)) (kt : x ≤ y → lh_AJ p l e R s m args below meth c D ad bs cI cZ k nL Q tgt lv st h) (kf : ¬ x ≤ y → lh_AJ p l e R s m args below meth c D ad bs cI cZ k nL Q (pc + 3) lv st h) : lh_AJ p l e R s m args below meth c D ad bs cI cZ k nL Q pc lv (.int y :: .int x :: st) h :=
  fun H locs ls hP hS hl => lv_icmp_le B.1 B.2.1 hdg ht (fun c9 => kt c9 H locs ls hP hS hl) (fun c9 => kf c9 H locs ls hP hS hl)
theorem la_goto (B : lh_BK p R s m args meth c D ad bs cI cZ t9 k own cc nL ret) {off : Int} {tgt : Nat} (hdg : decode cc pc = .ok (.goto off, 3)) (ht : (pc : Int) + off = (tgt : Int)) (K : lh_AJ p l e R s m args below meth c D ad bs cI cZ k nL Q tgt lv st h) : lh_AJ p l e R s m args below meth c D ad bs cI cZ k nL Q pc lv st h :=
  fun H locs ls hP hS hl => lv_goto B.1 B.2.1 hdg ht (K H locs ls hP hS hl)
theorem la_tabOut (B : lh_BK p R s m args meth c D ad bs cI cZ t9 k own cc nL ret) {dflt lo hi : Int} {offs : Array Int} {len : Nat} {x : Int32} {tgt : Nat} (hdg : decode cc pc = .ok (.tableswitch dflt lo hi offs, len)) (hx : x.toInt < lo ∨ hi < x.toInt) (ht : (pc : Int) + dflt = (tgt : Int)) (K : lh_AJ p l e R s m args below meth c D ad bs cI cZ k nL Q tgt lv st h) : lh_AJ p l e R s m args below meth c D ad bs cI cZ k nL Q pc lv (.int x :: st) h :=
  fun H locs ls hP hS hl => lv_tableOut B.1 B.2.1 hdg hx ht (K H locs ls hP hS hl)
theorem la_tabIn (B : lh_BK p R s m args meth c D ad bs cI cZ t9 k own cc nL ret) {dflt lo hi : Int} {offs : Array Int} {len : Nat} {x : Int32} {off : Int} {tgt : Nat} (hdg : decode cc pc = .ok (.tableswitch dflt lo hi offs, len)) (h1 : ¬ x.toInt < lo) (h2 : ¬ hi < x.toInt) (ho : offs[(x.toInt - lo).toNat]? = some off) (ht : (pc : Int) + off = (tgt : Int)) (K : lh_AJ p l e R s m args below meth c D ad bs cI cZ k nL Q tgt lv st h) : lh_AJ p l e R s m args below meth c D ad bs cI cZ k nL Q pc lv (.int x :: st) h :=
  fun H locs ls hP hS hl => lv_tableIn B.1 B.2.1 hdg h1 h2 ho ht (K H locs ls hP hS hl)
theorem la_get (B : lh_BK p R s m args meth c D ad bs cI cZ t9 k own cc nL ret) {i index ci N j : Nat} {T : u_T} {C ref : String} {fs : List Value} {v : Value} (hi : i < lh_nc k) (hsh : lh_sh ad cI cZ k i (h i) = .inr (ci, fs)) (hin : ∀ w ∈ u_ws C T N, w ∈ GT) (hc : clz[ci]? = some (C, T, N)) (hj : j < N) (hw : Cond.fieldLink own index ref (T j).2.1 (T j).2.2.1 ∈ GT) (hr : (T j).1 = ref) (hv : fs[j]? = some v) (hdg : decode cc pc = .ok (.getfield index, 3)) (K : lh_AJ p l e R s m args below meth c D ad bs cI cZ k nL Q (pc + 3) lv (v :: st) h) : lh_AJ p l e R s m args below meth c D ad bs cI cZ k nL Q pc lv (.ref (ad i) :: st) h := by
  intro H locs ls hP hS hl
  subst hr
  exact va_get B.1 B.2.1 B.2.2.2.2.2.1 hin B.2.2.2.2.1 B.2.2.2.2.2.2.2.1 hP i (by rw [lh_get hi, hsh]) hc j hj (B.2.2.2.2.2.1 _ hw) (fun _ h9 => h9) hv hdg (K H locs ls hP hS hl)
theorem la_put (B : lh_BK p R s m args meth c D ad bs cI cZ t9 k own cc nL ret) {i index ci N j : Nat} {T : u_T} {C ref : String} {fs : List Value} {x : Int32} {ty0 : Nat → FieldType} {ty : FieldType} (hi : i < lh_nc k) (hsh : lh_sh ad cI cZ k i (h i) = .inr (ci, fs)) (hup : lh_sh ad cI cZ k i (upd (h i) j x) = .inr (ci, fs.set j (.int x))) (hin : ∀ w ∈ u_ws C T N, w ∈ GT) (hty : ∀ k, k < N → parseFieldDescriptor (T k).2.2.1 = some (ty0 k)) (hnm : ∀ a, a < N → ∀ b, b < N → a ≠ b → (T a).2.1 ≠ (T b).2.1) (hc : clz[ci]? = some (C, T, N)) (hj : j < N) (hw : Cond.fieldLink own index ref (T j).2.1 (T j).2.2.1 ∈ GT) (hr : (T j).1 = ref) (hfin : (T j).2.2.2 = false) (hty0 : ty0 j = ty) (hn : narrow ty (.int x) = .int x) (hfit : fits ty (.int x) = true) (hlen : j < fs.length) (hdg : decode cc pc = .ok (.putfield index, 3)) (K : lh_AJ p l e R s m args below meth c D ad bs cI cZ k nL Q (pc + 3) lv st (lh_up h i j x)) : lh_AJ p l e R s m args below meth c D ad bs cI cZ k nL Q pc lv (.int x :: .ref (ad i) :: st) h := by
  intro H locs ls hP hS hl
  subst hr
  refine va_put B.1 B.2.1 B.2.2.2.2.2.1 hin ty0 hty hnm B.2.2.2.2.1 B.2.2.2.2.2.2.2.1 hP (B.2.2.2.2.2.2.2.2.1.D cI cZ h) hS i (by rw [lh_get hi, hsh]) hc j hj (B.2.2.2.2.2.1 _ hw) (fun _ h9 => h9) hfin (by rw [hty j hj, hty0]) hn hfit hlen hdg (fun H1 locs1 hP1 _ hS1 => ?_)
  rw [← hup, lh_set] at hP1
  exact K H1 locs1 ls hP1 hS1 hl
theorem la_iald (B : lh_BK p R s m args meth c D ad bs cI cZ t9 k own cc nL ret) {i n : Nat} {x v : Int32} (hi : i < lh_nc k) (hsh : lh_sh ad cI cZ k i (h i) = .inl (cI, n, .inl (h i))) (hin : vp_in x n) (hv : h i x.toNatClampNeg = v) (hdg : decode cc pc = .ok (.iaload, 1)) (K : lh_AJ p l e R s m args below meth c D ad bs cI cZ k nL Q (pc + 1) lv (.int v :: st) h) : lh_AJ p l e R s m args below meth c D ad bs cI cZ k nL Q pc lv (.int x :: .ref (ad i) :: st) h :=
  by
  subst hv
  exact fun H locs ls hP hS hl => va_iald B.1 B.2.1 B.2.2.2.2.2.2.2.1 hP i 0 (by rw [lh_get hi, hsh]) rfl hin hdg (K H locs ls hP hS hl)
theorem la_zald (B : lh_BK p R s m args meth c D ad bs cI cZ t9 k own cc nL ret) {i n : Nat} {x v : Int32} (hi : i < lh_nc k) (hsh : lh_sh ad cI cZ k i (h i) = .inl (cZ, n, .inl (h i))) (hin : vp_in x n) (hv : h i x.toNatClampNeg = v) (hdg : decode cc pc = .ok (.baload, 1)) (K : lh_AJ p l e R s m args below meth c D ad bs cI cZ k nL Q (pc + 1) lv (.int v :: st) h) : lh_AJ p l e R s m args below meth c D ad bs cI cZ k nL Q pc lv (.int x :: .ref (ad i) :: st) h :=
  by
  subst hv
  exact fun H locs ls hP hS hl => va_zald B.1 B.2.1 B.2.2.2.2.2.2.2.1 hP i 1 (by rw [lh_get hi, hsh]) rfl hin hdg (K H locs ls hP hS hl)
theorem la_iast (B : lh_BK p R s m args meth c D ad bs cI cZ t9 k own cc nL ret) {i n : Nat} {x y : Int32} (hi : i < lh_nc k) (hsh : lh_sh ad cI cZ k i (h i) = .inl (cI, n, .inl (h i))) (hup : lh_sh ad cI cZ k i (upd (h i) x.toNatClampNeg y) = .inl (cI, n, .inl (upd (h i) x.toNatClampNeg y))) (hin : vp_in x n) (hdg : decode cc pc = .ok (.iastore, 1)) (K : lh_AJ p l e R s m args below meth c D ad bs cI cZ k nL Q (pc + 1) lv st (lh_up h i x.toNatClampNeg y)) : lh_AJ p l e R s m args below meth c D ad bs cI cZ k nL Q pc lv (.int y :: .int x :: .ref (ad i) :: st) h := by
  intro H locs ls hP hS hl
  refine va_iast B.1 B.2.1 B.2.2.2.2.2.2.2.1 hP (B.2.2.2.2.2.2.2.2.1.D cI cZ h) hS i 0 (by rw [lh_get hi, hsh]) rfl hin hdg (fun H1 locs1 hP1 _ hS1 => ?_)
  rw [← hup, lh_set] at hP1
  exact K H1 locs1 ls hP1 hS1 hl
theorem la_zast (B : lh_BK p R s m args meth c D ad bs cI cZ t9 k own cc nL ret) {i n : Nat} {x y : Int32} (hi : i < lh_nc k) (hsh : lh_sh ad cI cZ k i (h i) = .inl (cZ, n, .inl (h i))) (hup : lh_sh ad cI cZ k i (upd (h i) x.toNatClampNeg y) = .inl (cZ, n, .inl (upd (h i) x.toNatClampNeg y))) (hin : vp_in x n) (hy : vp_nar .boolean y = y) (hdg : decode cc pc = .ok (.bastore, 1)) (K : lh_AJ p l e R s m args below meth c D ad bs cI cZ k nL Q (pc + 1) lv st (lh_up h i x.toNatClampNeg y)) : lh_AJ p l e R s m args below meth c D ad bs cI cZ k nL Q pc lv (.int y :: .int x :: .ref (ad i) :: st) h := by
  intro H locs ls hP hS hl
  refine va_zast B.1 B.2.1 B.2.2.2.2.2.2.2.1 hP (B.2.2.2.2.2.2.2.2.1.D cI cZ h) hS i 1 (by rw [lh_get hi, hsh]) rfl hin hdg (fun H1 locs1 hP1 _ hS1 => ?_)
  rw [hy, ← hup, lh_set] at hP1
  exact K H1 locs1 ls hP1 hS1 hl
theorem la_alen (B : lh_BK p R s m args meth c D ad bs cI cZ t9 k own cc nL ret) {i n : Nat} {v : Int32} (hi : i < lh_nc k) (hsh : lh_sh ad cI cZ k i (h i) = .inl (cI, n, .inl (h i))) (hv : Int32.ofNat n = v) (hdg : decode cc pc = .ok (.arraylength, 1)) (K : lh_AJ p l e R s m args below meth c D ad bs cI cZ k nL Q (pc + 1) lv (.int v :: st) h) : lh_AJ p l e R s m args below meth c D ad bs cI cZ k nL Q pc lv (.ref (ad i) :: st) h :=
  fun H locs ls hP hS hl => va_alen B.1 B.2.1 B.2.2.2.2.2.2.2.1 hP i 0 (by rw [lh_get hi, hsh]) (ty := .int) rfl hv hdg (K H locs ls hP hS hl)
theorem la_gets (B : lh_BK p R s m args meth c D ad bs cI cZ t9 k own cc nL ret) {index : Nat} (hw : Cond.fieldLink own index "LightHours" "STEPS" "[I" ∈ GT) (hdg : decode cc pc = .ok (.getstatic index, 3)) (K : lh_AJ p l e R s m args below meth c D ad bs cI cZ k nL Q (pc + 3) lv (.ref t9 :: st) h) : lh_AJ p l e R s m args below meth c D ad bs cI cZ k nL Q pc lv st h :=
  fun H locs ls hP hS hl => va_gets B.1 B.2.1 B.2.2.2.2.2.2.2.2.2.2.1 hS B.2.2.2.2.1 (B.2.2.2.2.2.1 _ hw) (fun _ h9 => h9) hdg (K H locs ls hP hS hl)
theorem la_ti (B : lh_BK p R s m args meth c D ad bs cI cZ t9 k own cc nL ret) {x : Int32} (hin : vp_in x 9) (hdg : decode cc pc = .ok (.iaload, 1)) (K : lh_AJ p l e R s m args below meth c D ad bs cI cZ k nL Q (pc + 1) lv (.int (lh_T x.toNatClampNeg) :: st) h) : lh_AJ p l e R s m args below meth c D ad bs cI cZ k nL Q pc lv (.int x :: .ref t9 :: st) h :=
  fun H locs ls hP hS hl => va_ti B.1 B.2.1 B.2.2.2.2.2.2.2.2.2.2.2 hS hin rfl hdg (K H locs ls hP hS hl)
theorem la_mmax (B : lh_BK p R s m args meth c D ad bs cI cZ t9 k own cc nL ret) {index : Nat} {x y : Int32} (hw1 : Cond.methodLink own index Lib.Math.max.name ∈ GT) (hw2 : Cond.static Lib.Math.max.name ∈ GT) (hw3 : Cond.initialized "java/lang/Math" ∈ GT) (hw4 : Cond.code Lib.Math.max.name Lib.Math.max.code 2 (some .int) ∈ GT) (hf : 1 ≤ R.frames) (hloc : (st.map fun v => v.category).sum + 13 ≤ R.locals) (hdg : decode cc pc = .ok (.invokestatic index, 3)) (K : lh_AJ p l e R s m args below meth c D ad bs cI cZ k nL Q (pc + 3) lv (.int (if x < y then y else x) :: st) h) : lh_AJ p l e R s m args below meth c D ad bs cI cZ k nL Q pc lv (.int y :: .int x :: st) h :=
  fun H locs ls hP hS hl => va_mmax B.1 B.2.1 (by rw [B.2.2.2.1, hl.1]) B.2.2.2.2.1 (B.2.2.2.2.2.1 _ hw1) (B.2.2.2.2.2.1 _ hw2) (B.2.2.2.2.2.1 _ hw3) (B.2.2.2.2.2.1 _ hw4) hf hloc (Nat.zero_le _) (Nat.zero_le _) hdg (K H locs ls hP hS hl)
theorem la_mmin (B : lh_BK p R s m args meth c D ad bs cI cZ t9 k own cc nL ret) {index : Nat} {x y : Int32} (hw1 : Cond.methodLink own index Lib.Math.min.name ∈ GT) (hw2 : Cond.static Lib.Math.min.name ∈ GT) (hw3 : Cond.initialized "java/lang/Math" ∈ GT) (hw4 : Cond.code Lib.Math.min.name Lib.Math.min.code 2 (some .int) ∈ GT) (hf : 1 ≤ R.frames) (hloc : (st.map fun v => v.category).sum + 13 ≤ R.locals) (hdg : decode cc pc = .ok (.invokestatic index, 3)) (K : lh_AJ p l e R s m args below meth c D ad bs cI cZ k nL Q (pc + 3) lv (.int (if y < x then y else x) :: st) h) : lh_AJ p l e R s m args below meth c D ad bs cI cZ k nL Q pc lv (.int y :: .int x :: st) h :=
  fun H locs ls hP hS hl => va_mmin B.1 B.2.1 (by rw [B.2.2.2.1, hl.1]) B.2.2.2.2.1 (B.2.2.2.2.2.1 _ hw1) (B.2.2.2.2.2.1 _ hw2) (B.2.2.2.2.2.1 _ hw3) (B.2.2.2.2.2.1 _ hw4) hf hloc (Nat.zero_le _) (Nat.zero_le _) hdg (K H locs ls hP hS hl)
theorem la_mabs (B : lh_BK p R s m args meth c D ad bs cI cZ t9 k own cc nL ret) {index : Nat} {x : Int32} (hw1 : Cond.methodLink own index Lib.Math.abs.name ∈ GT) (hw2 : Cond.static Lib.Math.abs.name ∈ GT) (hw3 : Cond.initialized "java/lang/Math" ∈ GT) (hw4 : Cond.code Lib.Math.abs.name Lib.Math.abs.code 1 (some .int) ∈ GT) (hf : 1 ≤ R.frames) (hloc : (st.map fun v => v.category).sum + 13 ≤ R.locals) (hdg : decode cc pc = .ok (.invokestatic index, 3)) (K : lh_AJ p l e R s m args below meth c D ad bs cI cZ k nL Q (pc + 3) lv (.int (if 0 ≤ x then x else 0 - x) :: st) h) : lh_AJ p l e R s m args below meth c D ad bs cI cZ k nL Q pc lv (.int x :: st) h :=
  fun H locs ls hP hS hl => va_mabs B.1 B.2.1 (by rw [B.2.2.2.1, hl.1]) B.2.2.2.2.1 (B.2.2.2.2.2.1 _ hw1) (B.2.2.2.2.2.1 _ hw2) (B.2.2.2.2.2.1 _ hw3) (B.2.2.2.2.2.1 _ hw4) hf hloc (Nat.zero_le _) (Nat.zero_le _) hdg (K H locs ls hP hS hl)
theorem la_ireturn (B : lh_BK p R s m args meth c D ad bs cI cZ t9 k own cc nL ret) {x r : Int32} {h' : lh_HS} (hr : ret = some .int) (hx : x = r) (hh : h = h') (hdg : decode cc pc = .ok (.ireturn, 1)) : lh_AJ p l e R s m args below meth c D ad bs cI cZ k nL (MQ below (lh_Qi D ad bs cI cZ k r h') args s 0 0 (lh_A bs)) pc lv [.int x] h := by
  intro H locs ls hP hS hl
  subst hx; subst hh; subst hr
  exact W.iret B.1 B.2.1 B.2.2.1 (fun t ht hW => ⟨⟨x, (), rfl, rfl, (by show va_P _ _ _ t.heap; rw [ht]; exact hP)⟩, hS.F ht⟩) hS.2.2 hdg B.2.2.2.2.2.2.1
theorem la_zreturn (B : lh_BK p R s m args meth c D ad bs cI cZ t9 k own cc nL ret) {x r : Int32} {h' : lh_HS} (hr : ret = some .boolean) (hx : x = r) (hh : h = h') (hn : narrow .boolean (.int x) = .int x) (hdg : decode cc pc = .ok (.ireturn, 1)) : lh_AJ p l e R s m args below meth c D ad bs cI cZ k nL (MQ below (lh_Qi D ad bs cI cZ k r h') args s 0 0 (lh_A bs)) pc lv [.int x] h := by
  intro H locs ls hP hS hl
  subst hx; subst hh; subst hr
  exact W.zret B.1 B.2.1 B.2.2.1 hn (fun t ht hW => ⟨⟨x, (), rfl, rfl, (by show va_P _ _ _ t.heap; rw [ht]; exact hP)⟩, hS.F ht⟩) hS.2.2 hdg B.2.2.2.2.2.2.1
theorem la_return (B : lh_BK p R s m args meth c D ad bs cI cZ t9 k own cc nL ret) {h' : lh_HS} (hr : ret = none) (hh : h = h') (hdg : decode cc pc = .ok (.return_, 1)) : lh_AJ p l e R s m args below meth c D ad bs cI cZ k nL (MQ below (lh_Qv D ad bs cI cZ k h') args s 0 0 (lh_A bs)) pc lv [] h := by
  intro H locs ls hP hS hl
  subst hh; subst hr
  exact W.vret B.1 B.2.1 B.2.2.1 (fun t ht hW => ⟨⟨(), rfl, trivial, (by show va_P _ _ _ t.heap; rw [ht]; exact hP)⟩, hS.F ht⟩) hS.2.2 hdg B.2.2.2.2.2.2.1
theorem la_areturn (B : lh_BK p R s m args meth c D ad bs cI cZ t9 k own cc nL ret) {C : String} {q : Nat} {h' : lh_HS} (hr : ret = some (.object C)) (hh : h = h') (hdg : decode cc pc = .ok (.areturn, 1)) : lh_AJ p l e R s m args below meth c D ad bs cI cZ k nL (MQ below (lh_Qr D ad bs cI cZ k q h') args s 0 0 (lh_A bs)) pc lv [.ref (ad q)] h := by
  intro H locs ls hP hS hl
  subst hh; subst hr
  exact W.aret B.1 B.2.1 B.2.2.1 (Or.inl ⟨C, rfl⟩) (Or.inr ⟨_, rfl⟩) (fun t ht hW => ⟨⟨(), ad q, rfl, trivial, rfl, (by show va_P _ _ _ t.heap; rw [ht]; exact hP)⟩, hS.F ht⟩) hS.2.2 hdg B.2.2.2.2.2.2.1
theorem la_sub {lv2 : List (Nat × Value)} (hi : lh_in lv2 lv) (hc : ∀ q ∈ lv2, q.2.category = 1) (K : lh_AJ p l e R s m args below meth c D ad bs cI cZ k nL Q pc lv2 st h) : lh_AJ p l e R s m args below meth c D ad bs cI cZ k nL Q pc lv st h :=
  fun H locs ls hP hS hl => K H locs ls hP hS (hl.sub hi hc)
theorem la_num {h2 : lh_HS} (hh : h = h2) (K : lh_AJ p l e R s m args below meth c D ad bs cI cZ k nL Q pc lv st h2) : lh_AJ p l e R s m args below meth c D ad bs cI cZ k nL Q pc lv st h := by
  subst hh; exact K
end LHR
end
section
/-! CALLS over the world, and a method's start -/
section LHC
variable {p : Program} {l : Launch} {e : Env} {R : Room} {s : State} {m : MethodId} {args : Array Value} {below : List Frame} {meth : Method} {c : Code} {Q : State → Prop}
variable {D : va_G} {ad : Nat → Nat} {bs : Nat} {cI cZ : ClassId} {t9 : Nat} {k : Bool}
variable {own : String} {cc : ByteArray} {nL : Nat} {ret : Option FieldType}
variable {pc : Nat} {lv : List (Nat × Value)} {st stk : List Value} {h h' : lh_HS}
variable {y : MethodName} {bytes : ByteArray} {maxL d index i ci N : Nat} {ret' : Option FieldType} {As : List Value} {r : Int32} {fs : List Value} {T : u_T}
theorem lh_goodB (hw5 : Cond.code y bytes maxL ret' ∈ GT) : GoodIn GT (lh_ws y bytes maxL ret') := by
  intro w hw
  rcases List.mem_cons.mp hw with rfl | hw
  · exact ⟨hw5, gt_good hw5⟩
  · exact ⟨hw, gt_good hw⟩
theorem lh_goodV (hw1 : Cond.methodLink own index y ∈ GT) (hw2 : Cond.instanceMethod y ∈ GT) (hw3 : Cond.selects y.cls y y ∈ GT) (hw4 : Cond.initialized y.cls ∈ GT) (hw5 : Cond.code y bytes maxL ret' ∈ GT) : GoodIn GT (wsV own index y.cls y (lh_ws y bytes maxL ret')) := by
  intro w hw
  rcases List.mem_append.mp hw with hw | hw
  · simp only [List.mem_cons, List.not_mem_nil, or_false] at hw
    rcases hw with rfl | rfl | rfl | rfl
    · exact ⟨hw1, gt_good hw1⟩
    · exact ⟨hw2, gt_good hw2⟩
    · exact ⟨hw3, gt_good hw3⟩
    · exact ⟨hw4, gt_good hw4⟩
  · exact lh_goodB hw5 w hw
theorem lh_goodS (hw1 : Cond.methodLink own index y ∈ GT) (hw2 : Cond.static y ∈ GT) (hw4 : Cond.initialized y.cls ∈ GT) (hw5 : Cond.code y bytes maxL ret' ∈ GT) : GoodIn GT (va_wsS own index y (lh_ws y bytes maxL ret')) := by
  intro w hw
  rcases List.mem_append.mp hw with hw | hw
  · simp only [List.mem_cons, List.not_mem_nil, or_false] at hw
    rcases hw with rfl | rfl | rfl
    · exact ⟨hw1, gt_good hw1⟩
    · exact ⟨hw2, gt_good hw2⟩
    · exact ⟨hw4, gt_good hw4⟩
  · exact lh_goodB hw5 w hw
/-- a virtual call's words, said once -/
def lh_LV (own : String) (index : Nat) (y : MethodName) (bytes : ByteArray) (maxL : Nat) (ret' : Option FieldType) (n : Nat) : Prop := GoodIn GT (wsV own index y.cls y (lh_ws y bytes maxL ret')) ∧ y.cls ≠ "java/lang/invoke/MethodHandle" ∧ y.cls ≠ "java/lang/invoke/VarHandle" ∧ (parseMethodDescriptor y.desc).map (fun d => d.parameters.length) = some n
def lh_LS (own : String) (index : Nat) (y : MethodName) (bytes : ByteArray) (maxL : Nat) (ret' : Option FieldType) (n : Nat) : Prop := GoodIn GT (va_wsS own index y (lh_ws y bytes maxL ret')) ∧ y.cls ≠ "java/lang/invoke/MethodHandle" ∧ y.cls ≠ "java/lang/invoke/VarHandle" ∧ (parseMethodDescriptor y.desc).map (fun d => d.parameters.length) = some n
def lh_LN (own : String) (index : Nat) (y : MethodName) (bytes : ByteArray) (maxL : Nat) (ret' : Option FieldType) (n : Nat) : Prop := GoodIn GT (lh_ws y bytes maxL ret') ∧ Cond.methodLinkNest own index y "LightHours" ∈ lh_nest ∧ Cond.static y ∈ GT ∧ Cond.initialized y.cls ∈ GT ∧ y.cls ≠ "java/lang/invoke/MethodHandle" ∧ y.cls ≠ "java/lang/invoke/VarHandle" ∧ (parseMethodDescriptor y.desc).map (fun d => d.parameters.length) = some n
theorem lh_runV {H : Heap} {locs : List Loc} {ls : Array Slot} {Qc : Array Value → State → Outcome → State → Prop} (B : lh_BK p R s m args meth c D ad bs cI cZ t9 k own cc nL ret) (hct : Met l y (lh_ws y bytes maxL ret') (lh_rm d) (va_Pc (.ref (ad i) :: As) (lh_PB D ad bs cI cZ t9 k h)) Qc 0 0 (lh_A bs)) (hL : lh_LV own index y bytes maxL ret' As.length) (hR : d + 1 ≤ R.frames ∧ 8 + (maxL + 11) + 40 * d ≤ R.locals) (hi : i < lh_nc k) (hsh : lh_sh ad cI cZ k i (h i) = .inr (ci, fs)) (hc : clz[ci]? = some (y.cls, T, N)) (hcat : (st.map fun v => v.category).sum ≤ 8) (hdg : decode cc pc = .ok (.invokevirtual index, 3)) (hP : va_P D clz (lh_wl ad cI cZ k h) H) (hS : va_S (lh_A bs) s.heap H locs) (hl : lh_lv ls nL lv) :
    va_Run p l e R s m args below meth c H locs 0 0 0 0 (F0 m pc ls (As.reverse ++ .ref (ad i) :: st)) st (Qc (Value.ref (ad i) :: As).toArray) (lh_A bs) :=
  va_runV (As := As) (rest := st) ⟨B.1, B.2.1, B.2.2.2.1, B.2.2.2.2.1, B.2.2.2.2.2.1⟩ hct (cwV As.length B.2.2.2.2.2.1 hL.1 rfl rfl rfl ⟨rfl, hL.2⟩ hR) ⟨lh_blind, va_recv B.2.2.2.2.2.2.2.1 hP hc (by rw [lh_get hi, hsh]), fun U hU hW => ⟨rfl, by rw [hU]; exact hP, by rw [hU]; exact B.2.2.2.2.2.2.2.go hS hW⟩⟩ rfl rfl hl.1 rfl (lv_room hcat) hdg ⟨Nat.zero_le _, Nat.zero_le _⟩
theorem lh_runS {H : Heap} {locs : List Loc} {ls : Array Slot} {Qc : Array Value → State → Outcome → State → Prop} (B : lh_BK p R s m args meth c D ad bs cI cZ t9 k own cc nL ret) (hct : Met l y (lh_ws y bytes maxL ret') (lh_rm d) (va_Pc As (lh_PB D ad bs cI cZ t9 k h)) Qc 0 0 (lh_A bs)) (hL : lh_LS own index y bytes maxL ret' As.length) (hR : d + 1 ≤ R.frames ∧ 8 + (maxL + 11) + 40 * d ≤ R.locals) (hcat : (st.map fun v => v.category).sum ≤ 8) (hdg : decode cc pc = .ok (.invokestatic index, 3)) (hP : va_P D clz (lh_wl ad cI cZ k h) H) (hS : va_S (lh_A bs) s.heap H locs) (hl : lh_lv ls nL lv) :
    va_Run p l e R s m args below meth c H locs 0 0 0 0 (F0 m pc ls (As.reverse ++ st)) st (Qc As.toArray) (lh_A bs) :=
  va_runS (As := As) (rest := st) ⟨B.1, B.2.1, B.2.2.2.1, B.2.2.2.2.1, B.2.2.2.2.2.1⟩ hct (va_cwS As.length B.2.2.2.2.2.1 hL.1 rfl rfl rfl hL.2 hR) ⟨lh_blind, fun U hU hW => ⟨rfl, by rw [hU]; exact hP, by rw [hU]; exact B.2.2.2.2.2.2.2.go hS hW⟩⟩ rfl rfl hl.1 rfl (lv_room hcat) hdg ⟨Nat.zero_le _, Nat.zero_le _⟩
theorem lh_runSN {H : Heap} {locs : List Loc} {ls : Array Slot} {Qc : Array Value → State → Outcome → State → Prop} (B : lh_BK p R s m args meth c D ad bs cI cZ t9 k own cc nL ret) (hct : Met l y (lh_ws y bytes maxL ret') (lh_rm d) (va_Pc As (lh_PB D ad bs cI cZ t9 k h)) Qc 0 0 (lh_A bs)) (hL : lh_LN own index y bytes maxL ret' As.length) (hR : d + 1 ≤ R.frames ∧ 8 + (maxL + 11) + 40 * d ≤ R.locals) (hcat : (st.map fun v => v.category).sum ≤ 8) (hdg : decode cc pc = .ok (.invokestatic index, 3)) (hP : va_P D clz (lh_wl ad cI cZ k h) H) (hS : va_S (lh_A bs) s.heap H locs) (hl : lh_lv ls nL lv) :
    va_Run p l e R s m args below meth c H locs 0 0 0 0 (F0 m pc ls (As.reverse ++ st)) st (Qc As.toArray) (lh_A bs) :=
  va_runSN (As := As) (rest := st) (host := "LightHours") ⟨B.1, B.2.1, B.2.2.2.1, B.2.2.2.2.1, B.2.2.2.2.2.1⟩ hct ⟨va_cnB As.length B.2.2.2.2.2.1 hL.1 rfl rfl rfl (B.2.2.2.2.2.2.2.2.2.1.1 _ hL.2.1) (B.2.2.2.2.2.1 _ hL.2.2.2.1) hL.2.2.2.2 hR, B.2.2.2.2.2.1 _ hL.2.2.1, trivial⟩ ⟨lh_blind, fun U hU hW => ⟨rfl, by rw [hU]; exact hP, by rw [hU]; exact B.2.2.2.2.2.2.2.go hS hW⟩⟩ rfl rfl hl.1 rfl (lv_room hcat) hdg ⟨Nat.zero_le _, Nat.zero_le _⟩
theorem la_callVi (B : lh_BK p R s m args meth c D ad bs cI cZ t9 k own cc nL ret) (hct : lh_CTi l D ad bs cI cZ t9 k y bytes maxL ret' d (.ref (ad i) :: As) h r h') (hL : lh_LV own index y bytes maxL ret' As.length) (hR : d + 1 ≤ R.frames ∧ 8 + (maxL + 11) + 40 * d ≤ R.locals) (hi : i < lh_nc k) (hsh : lh_sh ad cI cZ k i (h i) = .inr (ci, fs)) (hc : clz[ci]? = some (y.cls, T, N)) (hstk : stk = As.reverse ++ .ref (ad i) :: st) (hcat : (st.map fun v => v.category).sum ≤ 8) (hdg : decode cc pc = .ok (.invokevirtual index, 3)) (K : lh_AJ p l e R s m args below meth c D ad bs cI cZ k nL Q (pc + 3) lv (.int r :: st) h') : lh_AJ p l e R s m args below meth c D ad bs cI cZ k nL Q pc lv stk h := by
  intro H locs ls hP hS hl
  subst hstk
  refine va_calli (lh_runV B hct hL hR hi hsh hc hcat hdg hP hS hl) hS (fun q _ h => h) (fun q h => h) (fun r2 _ t H1 locs1 ht _ hr2 hB _ _ hS1 => ?_)
  subst hr2
  have hB' : va_P D clz (lh_wl ad cI cZ k h') t.heap := hB
  rw [ht] at hB'
  exact K H1 locs1 ls hB' hS1 hl
theorem la_callSi (B : lh_BK p R s m args meth c D ad bs cI cZ t9 k own cc nL ret) (hct : lh_CTi l D ad bs cI cZ t9 k y bytes maxL ret' d (As) h r h') (hL : lh_LS own index y bytes maxL ret' As.length) (hR : d + 1 ≤ R.frames ∧ 8 + (maxL + 11) + 40 * d ≤ R.locals) (hstk : stk = As.reverse ++ st) (hcat : (st.map fun v => v.category).sum ≤ 8) (hdg : decode cc pc = .ok (.invokestatic index, 3)) (K : lh_AJ p l e R s m args below meth c D ad bs cI cZ k nL Q (pc + 3) lv (.int r :: st) h') : lh_AJ p l e R s m args below meth c D ad bs cI cZ k nL Q pc lv stk h := by
  intro H locs ls hP hS hl
  subst hstk
  refine va_calli (lh_runS B hct hL hR hcat hdg hP hS hl) hS (fun q _ h => h) (fun q h => h) (fun r2 _ t H1 locs1 ht _ hr2 hB _ _ hS1 => ?_)
  subst hr2
  have hB' : va_P D clz (lh_wl ad cI cZ k h') t.heap := hB
  rw [ht] at hB'
  exact K H1 locs1 ls hB' hS1 hl
theorem la_callSNi (B : lh_BK p R s m args meth c D ad bs cI cZ t9 k own cc nL ret) (hct : lh_CTi l D ad bs cI cZ t9 k y bytes maxL ret' d (As) h r h') (hL : lh_LN own index y bytes maxL ret' As.length) (hR : d + 1 ≤ R.frames ∧ 8 + (maxL + 11) + 40 * d ≤ R.locals) (hstk : stk = As.reverse ++ st) (hcat : (st.map fun v => v.category).sum ≤ 8) (hdg : decode cc pc = .ok (.invokestatic index, 3)) (K : lh_AJ p l e R s m args below meth c D ad bs cI cZ k nL Q (pc + 3) lv (.int r :: st) h') : lh_AJ p l e R s m args below meth c D ad bs cI cZ k nL Q pc lv stk h := by
  intro H locs ls hP hS hl
  subst hstk
  refine va_calli (lh_runSN B hct hL hR hcat hdg hP hS hl) hS (fun q _ h => h) (fun q h => h) (fun r2 _ t H1 locs1 ht _ hr2 hB _ _ hS1 => ?_)
  subst hr2
  have hB' : va_P D clz (lh_wl ad cI cZ k h') t.heap := hB
  rw [ht] at hB'
  exact K H1 locs1 ls hB' hS1 hl
theorem la_callVv (B : lh_BK p R s m args meth c D ad bs cI cZ t9 k own cc nL ret) (hct : lh_CTv l D ad bs cI cZ t9 k y bytes maxL d (.ref (ad i) :: As) h h') (hL : lh_LV own index y bytes maxL none As.length) (hR : d + 1 ≤ R.frames ∧ 8 + (maxL + 11) + 40 * d ≤ R.locals) (hi : i < lh_nc k) (hsh : lh_sh ad cI cZ k i (h i) = .inr (ci, fs)) (hc : clz[ci]? = some (y.cls, T, N)) (hstk : stk = As.reverse ++ .ref (ad i) :: st) (hcat : (st.map fun v => v.category).sum ≤ 8) (hdg : decode cc pc = .ok (.invokevirtual index, 3)) (K : lh_AJ p l e R s m args below meth c D ad bs cI cZ k nL Q (pc + 3) lv (st) h') : lh_AJ p l e R s m args below meth c D ad bs cI cZ k nL Q pc lv stk h := by
  intro H locs ls hP hS hl
  subst hstk
  refine va_callv (lh_runV B hct hL hR hi hsh hc hcat hdg hP hS hl) hS (fun q _ h => h) (fun q h => h) (fun _ t H1 locs1 ht _ _ hB _ _ hS1 => ?_)
  have hB' : va_P D clz (lh_wl ad cI cZ k h') t.heap := hB
  rw [ht] at hB'
  exact K H1 locs1 ls hB' hS1 hl
theorem la_callSv (B : lh_BK p R s m args meth c D ad bs cI cZ t9 k own cc nL ret) (hct : lh_CTv l D ad bs cI cZ t9 k y bytes maxL d (As) h h') (hL : lh_LS own index y bytes maxL none As.length) (hR : d + 1 ≤ R.frames ∧ 8 + (maxL + 11) + 40 * d ≤ R.locals) (hstk : stk = As.reverse ++ st) (hcat : (st.map fun v => v.category).sum ≤ 8) (hdg : decode cc pc = .ok (.invokestatic index, 3)) (K : lh_AJ p l e R s m args below meth c D ad bs cI cZ k nL Q (pc + 3) lv (st) h') : lh_AJ p l e R s m args below meth c D ad bs cI cZ k nL Q pc lv stk h := by
  intro H locs ls hP hS hl
  subst hstk
  refine va_callv (lh_runS B hct hL hR hcat hdg hP hS hl) hS (fun q _ h => h) (fun q h => h) (fun _ t H1 locs1 ht _ _ hB _ _ hS1 => ?_)
  have hB' : va_P D clz (lh_wl ad cI cZ k h') t.heap := hB
  rw [ht] at hB'
  exact K H1 locs1 ls hB' hS1 hl
theorem la_callSNv (B : lh_BK p R s m args meth c D ad bs cI cZ t9 k own cc nL ret) (hct : lh_CTv l D ad bs cI cZ t9 k y bytes maxL d (As) h h') (hL : lh_LN own index y bytes maxL none As.length) (hR : d + 1 ≤ R.frames ∧ 8 + (maxL + 11) + 40 * d ≤ R.locals) (hstk : stk = As.reverse ++ st) (hcat : (st.map fun v => v.category).sum ≤ 8) (hdg : decode cc pc = .ok (.invokestatic index, 3)) (K : lh_AJ p l e R s m args below meth c D ad bs cI cZ k nL Q (pc + 3) lv (st) h') : lh_AJ p l e R s m args below meth c D ad bs cI cZ k nL Q pc lv stk h := by
  intro H locs ls hP hS hl
  subst hstk
  refine va_callv (lh_runSN B hct hL hR hcat hdg hP hS hl) hS (fun q _ h => h) (fun q h => h) (fun _ t H1 locs1 ht _ _ hB _ _ hS1 => ?_)
  have hB' : va_P D clz (lh_wl ad cI cZ k h') t.heap := hB
  rw [ht] at hB'
  exact K H1 locs1 ls hB' hS1 hl
theorem la_callVr (B : lh_BK p R s m args meth c D ad bs cI cZ t9 k own cc nL ret) {q : Nat} (hct : lh_CTr l D ad bs cI cZ t9 k y bytes maxL ret' d (.ref (ad i) :: As) h q h') (hL : lh_LV own index y bytes maxL ret' As.length) (hR : d + 1 ≤ R.frames ∧ 8 + (maxL + 11) + 40 * d ≤ R.locals) (hi : i < lh_nc k) (hsh : lh_sh ad cI cZ k i (h i) = .inr (ci, fs)) (hc : clz[ci]? = some (y.cls, T, N)) (hstk : stk = As.reverse ++ .ref (ad i) :: st) (hcat : (st.map fun v => v.category).sum ≤ 8) (hdg : decode cc pc = .ok (.invokevirtual index, 3)) (K : lh_AJ p l e R s m args below meth c D ad bs cI cZ k nL Q (pc + 3) lv (.ref (ad q) :: st) h') : lh_AJ p l e R s m args below meth c D ad bs cI cZ k nL Q pc lv stk h := by
  intro H locs ls hP hS hl
  subst hstk
  refine va_callr (lh_runV B hct hL hR hi hsh hc hcat hdg hP hS hl) hS (fun q _ h => h) (fun q h => h) (fun _ a t H1 locs1 ht _ _ hB _ _ hS1 => ?_)
  obtain ⟨ha, hB'⟩ : a = ad q ∧ va_P D clz (lh_wl ad cI cZ k h') t.heap := hB
  subst ha
  rw [ht] at hB'
  exact K H1 locs1 ls hB' hS1 hl
theorem la_callSr (B : lh_BK p R s m args meth c D ad bs cI cZ t9 k own cc nL ret) {q : Nat} (hct : lh_CTr l D ad bs cI cZ t9 k y bytes maxL ret' d (As) h q h') (hL : lh_LS own index y bytes maxL ret' As.length) (hR : d + 1 ≤ R.frames ∧ 8 + (maxL + 11) + 40 * d ≤ R.locals) (hstk : stk = As.reverse ++ st) (hcat : (st.map fun v => v.category).sum ≤ 8) (hdg : decode cc pc = .ok (.invokestatic index, 3)) (K : lh_AJ p l e R s m args below meth c D ad bs cI cZ k nL Q (pc + 3) lv (.ref (ad q) :: st) h') : lh_AJ p l e R s m args below meth c D ad bs cI cZ k nL Q pc lv stk h := by
  intro H locs ls hP hS hl
  subst hstk
  refine va_callr (lh_runS B hct hL hR hcat hdg hP hS hl) hS (fun q _ h => h) (fun q h => h) (fun _ a t H1 locs1 ht _ _ hB _ _ hS1 => ?_)
  obtain ⟨ha, hB'⟩ : a = ad q ∧ va_P D clz (lh_wl ad cI cZ k h') t.heap := hB
  subst ha
  rw [ht] at hB'
  exact K H1 locs1 ls hB' hS1 hl
theorem la_callSNr (B : lh_BK p R s m args meth c D ad bs cI cZ t9 k own cc nL ret) {q : Nat} (hct : lh_CTr l D ad bs cI cZ t9 k y bytes maxL ret' d (As) h q h') (hL : lh_LN own index y bytes maxL ret' As.length) (hR : d + 1 ≤ R.frames ∧ 8 + (maxL + 11) + 40 * d ≤ R.locals) (hstk : stk = As.reverse ++ st) (hcat : (st.map fun v => v.category).sum ≤ 8) (hdg : decode cc pc = .ok (.invokestatic index, 3)) (K : lh_AJ p l e R s m args below meth c D ad bs cI cZ k nL Q (pc + 3) lv (.ref (ad q) :: st) h') : lh_AJ p l e R s m args below meth c D ad bs cI cZ k nL Q pc lv stk h := by
  intro H locs ls hP hS hl
  subst hstk
  refine va_callr (lh_runSN B hct hL hR hcat hdg hP hS hl) hS (fun q _ h => h) (fun q h => h) (fun _ a t H1 locs1 ht _ _ hB _ _ hS1 => ?_)
  obtain ⟨ha, hB'⟩ : a = ad q ∧ va_P D clz (lh_wl ad cI cZ k h') t.heap := hB
  subst ha
  rw [ht] at hB'
  exact K H1 locs1 ls hB' hS1 hl
theorem lh_ofi {av : List Value} (hy : plainName y.cls = true) (hn : (lg_sl av).length ≤ nL) (hlv : lv_args 0 av = lv) (hc : ∀ q ∈ lv, q.2.category = 1) (hin : lh_in lv lv)
    (body : ∀ (p : Program) (e : Env) (s : State) (m : MethodId) (args : Array Value) (below : List Frame) (meth : Method) (c : Code), lh_BK p (lh_rm d) s m args meth c D ad bs cI cZ t9 k y.cls cc nL ret → lh_AJ p l e (lh_rm d) s m args below meth c D ad bs cI cZ k nL (MQ below (lh_Qi D ad bs cI cZ k r h') args s 0 0 (lh_A bs)) 0 lv [] h) : lh_CTi l D ad bs cI cZ t9 k y cc nL ret d (av) h r h' := by
  refine Met.ofW (cc := cc) (maxL := nL) (ret := ret) hy rfl ?_
  intro p e s m args below meth c s₁ B hml hv
  obtain ⟨rfl, hP, hSB⟩ := hv
  have hts := atoms_spec (ws := lh_ws y cc nL ret) B.pre
  rw [lg_entry_eq]
  exact body p e s m _ below meth c ⟨B.exec, B.bytes, B.returns, hml, findClass_of_methodNamed B.named, fun w hw => hts w (List.mem_cons_of_mem _ hw), B.notSynchronized, hSB⟩ s.heap [] _ hP va_S.rf (lh_lv.entry av hn hlv hc hin)
theorem lh_ofv {av : List Value} (hy : plainName y.cls = true) (hn : (lg_sl av).length ≤ nL) (hlv : lv_args 0 av = lv) (hc : ∀ q ∈ lv, q.2.category = 1) (hin : lh_in lv lv)
    (body : ∀ (p : Program) (e : Env) (s : State) (m : MethodId) (args : Array Value) (below : List Frame) (meth : Method) (c : Code), lh_BK p (lh_rm d) s m args meth c D ad bs cI cZ t9 k y.cls cc nL none → lh_AJ p l e (lh_rm d) s m args below meth c D ad bs cI cZ k nL (MQ below (lh_Qv D ad bs cI cZ k h') args s 0 0 (lh_A bs)) 0 lv [] h) : lh_CTv l D ad bs cI cZ t9 k y cc nL d (av) h h' := by
  refine Met.ofW (cc := cc) (maxL := nL) (ret := none) hy rfl ?_
  intro p e s m args below meth c s₁ B hml hv
  obtain ⟨rfl, hP, hSB⟩ := hv
  have hts := atoms_spec (ws := lh_ws y cc nL none) B.pre
  rw [lg_entry_eq]
  exact body p e s m _ below meth c ⟨B.exec, B.bytes, B.returns, hml, findClass_of_methodNamed B.named, fun w hw => hts w (List.mem_cons_of_mem _ hw), B.notSynchronized, hSB⟩ s.heap [] _ hP va_S.rf (lh_lv.entry av hn hlv hc hin)
theorem lh_ofr {q : Nat} {av : List Value} (hy : plainName y.cls = true) (hn : (lg_sl av).length ≤ nL) (hlv : lv_args 0 av = lv) (hc : ∀ q ∈ lv, q.2.category = 1) (hin : lh_in lv lv)
    (body : ∀ (p : Program) (e : Env) (s : State) (m : MethodId) (args : Array Value) (below : List Frame) (meth : Method) (c : Code), lh_BK p (lh_rm d) s m args meth c D ad bs cI cZ t9 k y.cls cc nL ret → lh_AJ p l e (lh_rm d) s m args below meth c D ad bs cI cZ k nL (MQ below (lh_Qr D ad bs cI cZ k q h') args s 0 0 (lh_A bs)) 0 lv [] h) : lh_CTr l D ad bs cI cZ t9 k y cc nL ret d (av) h q h' := by
  refine Met.ofW (cc := cc) (maxL := nL) (ret := ret) hy rfl ?_
  intro p e s m args below meth c s₁ B hml hv
  obtain ⟨rfl, hP, hSB⟩ := hv
  have hts := atoms_spec (ws := lh_ws y cc nL ret) B.pre
  rw [lg_entry_eq]
  exact body p e s m _ below meth c ⟨B.exec, B.bytes, B.returns, hml, findClass_of_methodNamed B.named, fun w hw => hts w (List.mem_cons_of_mem _ hw), B.notSynchronized, hSB⟩ s.heap [] _ hP va_S.rf (lh_lv.entry av hn hlv hc hin)
end LHC
end
section
/-! more rows: iinc by one, the nest's static, arraycopy of whole rows; copyRow -/
theorem lh_arr_congr {cA : ClassId} {n : Nat} {f g : Nat → Int32} (e : ∀ j, j < n → f j = g j) : vp_cell cA (n, .inl f) = vp_cell cA (n, .inl g) := by
  rw [vp_cell_i, vp_cell_i]
  unfold arrV
  congr 2
  funext j
  exact congrArg Value.int (e j.val j.isLt)
theorem lh_P_congr {D : va_G} {cl : List vw_C} {ws : va_W} {q a n : Nat} {cA : ClassId} {f g : Nat → Int32} {H : Heap} (e : ∀ j, j < n → f j = g j) (hP : va_P D cl (ws.set q (a, .inl (cA, n, .inl f))) H) : va_P D cl (ws.set q (a, .inl (cA, n, .inl g))) H := by
  intro i w hi
  by_cases c : q = i
  · subst c
    by_cases hl : q < ws.length
    · rw [List.getElem?_set_self hl] at hi
      cases hi
      have h1 := hP q _ (List.getElem?_set_self hl)
      show H[a]? = some (vp_cell cA (n, .inl g))
      rw [← lh_arr_congr e]
      exact h1
    · rw [List.getElem?_eq_none (by rw [List.length_set]; omega)] at hi
      cases hi
  · rw [List.getElem?_set_ne c] at hi
    exact hP i w (by rw [List.getElem?_set_ne c]; exact hi)
section LHM
variable {p : Program} {l : Launch} {e : Env} {R : Room} {s : State} {m : MethodId} {args : Array Value} {below : List Frame} {meth : Method} {c : Code} {Q : State → Prop}
variable {D : va_G} {ad : Nat → Nat} {bs : Nat} {cI cZ : ClassId} {t9 : Nat} {k : Bool}
variable {own : String} {cc : ByteArray} {nL : Nat} {ret : Option FieldType}
variable {pc : Nat} {lv : List (Nat × Value)} {st stk : List Value} {h h' : lh_HS}
theorem la_iincp (B : lh_BK p R s m args meth c D ad bs cI cZ t9 k own cc nL ret) {i : Nat} {x : Int32} (hdg : decode cc pc = .ok (.iinc i 1, 3)) (hx : lv.lookup i = some (.int x)) (hn : i < nL) (K : lh_AJ p l e R s m args below meth c D ad bs cI cZ k nL Q (pc + 3) ((i, .int (x + 1)) :: lv) st h) : lh_AJ p l e R s m args below meth c D ad bs cI cZ k nL Q pc lv st h :=
  la_iinc B hdg hx (by rw [show Int32.ofInt 1 = 1 from by decide]) hn K
theorem la_iincm (B : lh_BK p R s m args meth c D ad bs cI cZ t9 k own cc nL ret) {i : Nat} {x : Int32} (hdg : decode cc pc = .ok (.iinc i (-1), 3)) (hx : lv.lookup i = some (.int x)) (hn : i < nL) (K : lh_AJ p l e R s m args below meth c D ad bs cI cZ k nL Q (pc + 3) ((i, .int (x + (-1))) :: lv) st h) : lh_AJ p l e R s m args below meth c D ad bs cI cZ k nL Q pc lv st h :=
  la_iinc B hdg hx (by rw [show Int32.ofInt (-1) = -1 from by decide]) hn K
theorem la_getsN (B : lh_BK p R s m args meth c D ad bs cI cZ t9 k "LightHours$Ledger" cc nL ret) (hdg : decode cc pc = .ok (.getstatic 89, 3)) (K : lh_AJ p l e R s m args below meth c D ad bs cI cZ k nL Q (pc + 3) lv (.ref t9 :: st) h) : lh_AJ p l e R s m args below meth c D ad bs cI cZ k nL Q pc lv st h :=
  fun H locs ls hP hS hl => va_getsN B.1 B.2.1 B.2.2.2.2.2.2.2.2.2.2.1 hS B.2.2.2.2.1 (va_Nw.use rfl B.2.2.2.2.2.2.2.2.2.1.2) (fun _ h9 => h9) hdg (K H locs ls hP hS hl)
theorem la_copy (B : lh_BK p R s m args meth c D ad bs cI cZ t9 k own cc nL ret) {q0 q1 N index : Nat} {x : Int32} (hi0 : q0 < lh_nc k) (hi1 : q1 < lh_nc k) (hs0 : ∀ r, lh_sh ad cI cZ k q0 r = .inl (cI, N, .inl r)) (hs1 : ∀ r, lh_sh ad cI cZ k q1 r = .inl (cI, N, .inl r)) (hx : x = nI N) (hN : N < 2 ^ 31) (hw1 : Cond.methodLink own index arraycopyName ∈ GT) (hw2 : Cond.native arraycopyName ∈ GT) (hw3 : Cond.static arraycopyName ∈ GT) (hw4 : Cond.initialized "java/lang/System" ∈ GT) (hf : 1 ≤ R.frames) (hloc : (st.map fun v => v.category).sum + (nativeFrameWords "java/lang/System" "arraycopy" 5 + 11) ≤ R.locals) (hdg : decode cc pc = .ok (.invokestatic index, 3)) (K : lh_AJ p l e R s m args below meth c D ad bs cI cZ k nL Q (pc + 3) lv st (lh_row h q1 (h q0))) : lh_AJ p l e R s m args below meth c D ad bs cI cZ k nL Q pc lv (.int x :: .int 0 :: .ref (ad q1) :: .int 0 :: .ref (ad q0) :: st) h := by
  intro H locs ls hP hS hl
  have hc : x.toNatClampNeg = N := by rw [hx]; exact nI_clamp hN
  refine va_copyi B.1 B.2.1 (by rw [B.2.2.2.1, hl.1]) B.2.2.2.2.1 (B.2.2.2.2.2.1 _ hw1) (B.2.2.2.2.2.1 _ hw2) (B.2.2.2.2.2.1 _ hw3) (B.2.2.2.2.2.1 _ hw4) B.2.2.2.2.2.2.2.1 hP (B.2.2.2.2.2.2.2.2.1.D cI cZ h) hS q0 q1 0 0 (by rw [lh_get hi0, hs0]) (by rw [lh_get hi1, hs1]) rfl rfl rfl (by decide) (by decide) (by rw [hx]; exact nI_pos hN) (by rw [hc]; show 0 + N ≤ N; omega) (by rw [hc]; show 0 + N ≤ N; omega) (fun i _ => rfl) hf hloc hdg (fun H1 locs1 hP1 _ hS1 => ?_)
  have hP2 := lh_P_congr (g := h q0) (fun j hj => by rw [hc]; exact sb_cpy0 hj) hP1
  rw [← hs1 (h q0), lh_set] at hP2
  exact K H1 locs1 ls hP2 hS1 hl
end LHM
theorem lh_nar {x : Int32} (h : x = 0 ∨ x = 1) : narrow .boolean (.int x) = .int x := by rcases h with rfl | rfl <;> rfl
theorem lh_narv {x : Int32} (h : x = 0 ∨ x = 1) : vp_nar .boolean x = x := by rcases h with rfl | rfl <;> rfl
theorem lk_X8_37 : lh_LS "LightHours" 37 yX8_within cX8_within 3 (some .boolean) 3 := ⟨lh_goodS wd_326 wd_327 wd_35 wd_328, by decide +kernel⟩
theorem lk_X8_51 : lh_LV "LightHours" 51 yX4_add cX4_add 3 (some .int) 1 := ⟨lh_goodV wd_329 wd_330 wd_331 wd_37 wd_332, by decide +kernel⟩
theorem lk_X8_55 : lh_LV "LightHours" 55 yX8_changed cX8_changed 2 (some .int) 1 := ⟨lh_goodV wd_337 wd_339 wd_0 wd_35 wd_340, by decide +kernel⟩
theorem lk_X8_58 : lh_LV "LightHours" 58 yX4_has cX4_has 2 (some .boolean) 1 := ⟨lh_goodV wd_349 wd_350 wd_351 wd_37 wd_352, by decide +kernel⟩
theorem lk_X8_62 : lh_LS "LightHours" 62 yX8_isYear cX8_isYear 1 (some .boolean) 1 := ⟨lh_goodS wd_353 wd_354 wd_35 wd_355, by decide +kernel⟩
theorem lk_X8_69 : lh_LV "LightHours" 69 yX4_read cX4_read 4 none 3 := ⟨lh_goodV wd_356 wd_334 wd_335 wd_37 wd_336, by decide +kernel⟩
theorem lk_X8_73 : lh_LV "LightHours" 73 yX4_lightEnd cX4_lightEnd 5 (some .int) 3 := ⟨lh_goodV wd_361 wd_362 wd_363 wd_37 wd_364, by decide +kernel⟩
theorem lk_X8_84 : lh_LV "LightHours" 84 yX5_add cX5_add 5 (some .int) 4 := ⟨lh_goodV wd_369 wd_370 wd_371 wd_38 wd_372, by decide +kernel⟩
theorem lk_X8_87 : lh_LV "LightHours" 87 yX5_has cX5_has 2 (some .boolean) 1 := ⟨lh_goodV wd_377 wd_378 wd_379 wd_38 wd_380, by decide +kernel⟩
theorem lk_X8_109 : lh_LV "LightHours" 109 yX3_openAt cX3_openAt 2 (some (.object "LightHours$Ledger")) 1 := ⟨lh_goodV wd_389 wd_390 wd_391 wd_42 wd_392, by decide +kernel⟩
theorem lk_X8_121 : lh_LV "LightHours" 121 yX0_countOf cX0_countOf 4 (some .int) 1 := ⟨lh_goodV wd_422 wd_423 wd_424 wd_39 wd_425, by decide +kernel⟩
theorem lk_X8_130 : lh_LV "LightHours" 130 yX6_countOf cX6_countOf 4 (some .int) 1 := ⟨lh_goodV wd_427 wd_428 wd_429 wd_40 wd_430, by decide +kernel⟩
theorem lk_X8_133 : lh_LV "LightHours" 133 yX0_shownWithin cX0_shownWithin 5 (some .boolean) 3 := ⟨lh_goodV wd_435 wd_436 wd_437 wd_39 wd_438, by decide +kernel⟩
theorem lk_X8_137 : lh_LV "LightHours" 137 yX0_addShow cX0_addShow 4 (some .int) 3 := ⟨lh_goodV wd_443 wd_444 wd_445 wd_39 wd_446, by decide +kernel⟩
theorem lk_X8_141 : lh_LV "LightHours" 141 yX3_leftEnd cX3_leftEnd 2 (some .int) 1 := ⟨lh_goodV wd_455 wd_456 wd_457 wd_42 wd_458, by decide +kernel⟩
theorem lk_X8_145 : lh_LV "LightHours" 145 yX0_addLoan cX0_addLoan 4 (some .int) 3 := ⟨lh_goodV wd_463 wd_464 wd_465 wd_39 wd_466, by decide +kernel⟩
theorem lk_X8_154 : lh_LV "LightHours" 154 yX0_has cX0_has 2 (some .boolean) 1 := ⟨lh_goodV wd_476 wd_477 wd_478 wd_39 wd_479, by decide +kernel⟩
theorem lk_X8_159 : lh_LV "LightHours" 159 yX0_isLoan cX0_isLoan 2 (some .boolean) 1 := ⟨lh_goodV wd_484 wd_406 wd_407 wd_39 wd_408, by decide +kernel⟩
theorem lk_X8_171 : lh_LV "LightHours" 171 yX2_spendEnd cX2_spendEnd 3 (some .int) 2 := ⟨lh_goodV wd_485 wd_402 wd_403 wd_36 wd_404, by decide +kernel⟩
theorem lk_X8_176 : lh_LV "LightHours" 176 yX6_add cX6_add 4 (some .int) 3 := ⟨lh_goodV wd_490 wd_491 wd_492 wd_40 wd_493, by decide +kernel⟩
theorem lk_X8_178 : lh_LV "LightHours" 178 yX3_pastEnd cX3_pastEnd 2 (some .int) 1 := ⟨lh_goodV wd_502 wd_503 wd_504 wd_42 wd_505, by decide +kernel⟩
theorem lk_X8_181 : lh_LV "LightHours" 181 yX3_spentEnd cX3_spentEnd 3 (some .int) 2 := ⟨lh_goodV wd_510 wd_460 wd_461 wd_42 wd_462, by decide +kernel⟩
theorem lk_X8_185 : lh_LS "LightHours" 185 yX8_stepOfAmount cX8_stepOfAmount 2 (some .int) 1 := ⟨lh_goodS wd_520 wd_521 wd_35 wd_522, by decide +kernel⟩
theorem lk_X8_195 : lh_LV "LightHours" 195 yX7_add cX7_add 4 (some .int) 3 := ⟨lh_goodV wd_528 wd_529 wd_530 wd_41 wd_531, by decide +kernel⟩
theorem lk_X8_196 : lh_LV "LightHours" 196 yX7_has cX7_has 2 (some .boolean) 1 := ⟨lh_goodV wd_540 wd_541 wd_542 wd_41 wd_543, by decide +kernel⟩
theorem lk_X8_197 : lh_LV "LightHours" 197 yX1_find cX1_find 3 none 0 := ⟨lh_goodV wd_544 wd_545 wd_546 wd_43 wd_547, by decide +kernel⟩
theorem lk_X8_206 : lh_LV "LightHours" 206 yX1_lightOn cX1_lightOn 4 (some .int) 1 := ⟨lh_goodV wd_595 wd_596 wd_597 wd_43 wd_598, by decide +kernel⟩
theorem lk_X8_209 : lh_LV "LightHours" 209 yX1_countHung cX1_countHung 3 (some .int) 0 := ⟨lh_goodV wd_603 wd_604 wd_605 wd_43 wd_606, by decide +kernel⟩
theorem lk_X8_215 : lh_LV "LightHours" 215 yX0_countCancelled cX0_countCancelled 3 (some .int) 0 := ⟨lh_goodV wd_611 wd_612 wd_613 wd_39 wd_614, by decide +kernel⟩
theorem lk_X8_218 : lh_LV "LightHours" 218 yX3_countQuarrels cX3_countQuarrels 3 (some .int) 0 := ⟨lh_goodV wd_615 wd_616 wd_617 wd_42 wd_618, by decide +kernel⟩
theorem lk_X8_221 : lh_LV "LightHours" 221 yX3_countOverspent cX3_countOverspent 3 (some .int) 0 := ⟨lh_goodV wd_620 wd_621 wd_622 wd_42 wd_623, by decide +kernel⟩
theorem lk_X8_224 : lh_LV "LightHours" 224 yX4_countReadings cX4_countReadings 3 (some .int) 0 := ⟨lh_goodV wd_625 wd_626 wd_627 wd_37 wd_628, by decide +kernel⟩
theorem lk_X8_227 : lh_LV "LightHours" 227 yX2_copyFrom cX2_copyFrom 2 none 1 := ⟨lh_goodV wd_633 wd_634 wd_635 wd_36 wd_636, by decide +kernel⟩
theorem lk_X8_230 : lh_LV "LightHours" 230 yX1_forget cX1_forget 1 none 0 := ⟨lh_goodV wd_341 wd_342 wd_343 wd_43 wd_344, by decide +kernel⟩
theorem lk_X0_32 : lh_LV "LightHours$Bookings" 32 yX0_add cX0_add 5 (some .int) 4 := ⟨lh_goodV wd_447 wd_449 wd_3 wd_39 wd_450, by decide +kernel⟩
theorem lk_X0_36 : lh_LV "LightHours$Bookings" 36 yX0_standsFor cX0_standsFor 3 (some .boolean) 2 := ⟨lh_goodV wd_426 wd_398 wd_399 wd_39 wd_400, by decide +kernel⟩
theorem lk_X0_40 : lh_LV "LightHours$Bookings" 40 yX0_isLoan cX0_isLoan 2 (some .boolean) 1 := ⟨lh_goodV wd_439 wd_406 wd_407 wd_39 wd_408, by decide +kernel⟩
theorem lk_X0_50 : lh_LN "LightHours$Bookings" 50 yX8_copyRow cX8_copyRow 2 none 2 := ⟨lh_goodB wd_577, by decide +kernel, wd_576, wd_35, by decide +kernel⟩
theorem lk_X1_46 : lh_LV "LightHours$Hanging" 46 yX1_prepare cX1_prepare 2 none 0 := ⟨lh_goodV wd_548 wd_550 wd_4 wd_43 wd_551, by decide +kernel⟩
theorem lk_X1_60 : lh_LS "LightHours$Hanging" 60 yX1_place cX1_place 4 none 3 := ⟨lh_goodS wd_568 wd_569 wd_43 wd_570, by decide +kernel⟩
theorem lk_X1_71 : lh_LV "LightHours$Hanging" 71 yX3_openAt cX3_openAt 2 (some (.object "LightHours$Ledger")) 1 := ⟨lh_goodV wd_552 wd_390 wd_391 wd_42 wd_392, by decide +kernel⟩
theorem lk_X1_77 : lh_LV "LightHours$Hanging" 77 yX3_leftEnd cX3_leftEnd 2 (some .int) 1 := ⟨lh_goodV wd_553 wd_456 wd_457 wd_42 wd_458, by decide +kernel⟩
theorem lk_X1_91 : lh_LV "LightHours$Hanging" 91 yX4_lightEnd cX4_lightEnd 5 (some .int) 3 := ⟨lh_goodV wd_554 wd_362 wd_363 wd_37 wd_364, by decide +kernel⟩
theorem lk_X1_97 : lh_LV "LightHours$Hanging" 97 yX1_sheetsFor cX1_sheetsFor 5 (some .int) 1 := ⟨lh_goodV wd_555 wd_557 wd_5 wd_43 wd_558, by decide +kernel⟩
theorem lk_X1_104 : lh_LV "LightHours$Hanging" 104 yX5_hasTheme cX5_hasTheme 3 (some .boolean) 2 := ⟨lh_goodV wd_559 wd_560 wd_561 wd_38 wd_562, by decide +kernel⟩
theorem lk_X1_108 : lh_LV "LightHours$Hanging" 108 yX1_shownTooNear cX1_shownTooNear 4 (some .boolean) 2 := ⟨lh_goodV wd_563 wd_565 wd_6 wd_43 wd_566, by decide +kernel⟩
theorem lk_X1_118 : lh_LV "LightHours$Hanging" 118 yX0_shownWithin cX0_shownWithin 5 (some .boolean) 3 := ⟨lh_goodV wd_567 wd_436 wd_437 wd_39 wd_438, by decide +kernel⟩
theorem lk_X1_127 : lh_LV "LightHours$Hanging" 127 yX1_takeIfBetter cX1_takeIfBetter 2 none 1 := ⟨lh_goodV wd_571 wd_573 wd_7 wd_43 wd_574, by decide +kernel⟩
theorem lk_X1_131 : lh_LV "LightHours$Hanging" 131 yX1_fits cX1_fits 6 (some .boolean) 2 := ⟨lh_goodV wd_582 wd_584 wd_8 wd_43 wd_585, by decide +kernel⟩
theorem lk_X1_137 : lh_LN "LightHours$Hanging" 137 yX8_copyRow cX8_copyRow 2 none 2 := ⟨lh_goodB wd_577, by decide +kernel, wd_576, wd_35, by decide +kernel⟩
theorem lk_X2_44 : lh_LV "LightHours$House" 44 yX0_isLoan cX0_isLoan 2 (some .boolean) 1 := ⟨lh_goodV wd_405 wd_406 wd_407 wd_39 wd_408, by decide +kernel⟩
theorem lk_X2_58 : lh_LV "LightHours$House" 58 yX4_lightEnd cX4_lightEnd 5 (some .int) 3 := ⟨lh_goodV wd_409 wd_362 wd_363 wd_37 wd_364, by decide +kernel⟩
theorem lk_X2_62 : lh_LV "LightHours$House" 62 yX4_copyFrom cX4_copyFrom 2 none 1 := ⟨lh_goodV wd_637 wd_638 wd_639 wd_37 wd_640, by decide +kernel⟩
theorem lk_X2_66 : lh_LV "LightHours$House" 66 yX5_copyFrom cX5_copyFrom 2 none 1 := ⟨lh_goodV wd_642 wd_643 wd_644 wd_38 wd_645, by decide +kernel⟩
theorem lk_X2_69 : lh_LV "LightHours$House" 69 yX0_copyFrom cX0_copyFrom 3 none 1 := ⟨lh_goodV wd_647 wd_648 wd_649 wd_39 wd_650, by decide +kernel⟩
theorem lk_X2_72 : lh_LV "LightHours$House" 72 yX6_copyFrom cX6_copyFrom 2 none 1 := ⟨lh_goodV wd_652 wd_653 wd_654 wd_40 wd_655, by decide +kernel⟩
theorem lk_X2_75 : lh_LV "LightHours$House" 75 yX7_copyFrom cX7_copyFrom 2 none 1 := ⟨lh_goodV wd_657 wd_658 wd_659 wd_41 wd_660, by decide +kernel⟩
theorem lk_X3_36 : lh_LV "LightHours$Ledger" 36 yX3_sumSpends cX3_sumSpends 3 none 0 := ⟨lh_goodV wd_393 wd_395 wd_1 wd_42 wd_396, by decide +kernel⟩
theorem lk_X3_39 : lh_LV "LightHours$Ledger" 39 yX3_narrowPast cX3_narrowPast 7 none 0 := ⟨lh_goodV wd_410 wd_412 wd_2 wd_42 wd_413, by decide +kernel⟩
theorem lk_X3_53 : lh_LV "LightHours$Ledger" 53 yX0_standsFor cX0_standsFor 3 (some .boolean) 2 := ⟨lh_goodV wd_397 wd_398 wd_399 wd_39 wd_400, by decide +kernel⟩
theorem lk_X3_60 : lh_LV "LightHours$Ledger" 60 yX2_spendEnd cX2_spendEnd 3 (some .int) 2 := ⟨lh_goodV wd_401 wd_402 wd_403 wd_36 wd_404, by decide +kernel⟩
theorem lk_X3_104 : lh_LV "LightHours$Ledger" 104 yX3_spentEnd cX3_spentEnd 3 (some .int) 2 := ⟨lh_goodV wd_459 wd_460 wd_461 wd_42 wd_462, by decide +kernel⟩
theorem lk_X3_108 : lh_LV "LightHours$Ledger" 108 yX3_openAt cX3_openAt 2 (some (.object "LightHours$Ledger")) 1 := ⟨lh_goodV wd_619 wd_390 wd_391 wd_42 wd_392, by decide +kernel⟩
theorem lk_X3_112 : lh_LV "LightHours$Ledger" 112 yX3_leftEnd cX3_leftEnd 2 (some .int) 1 := ⟨lh_goodV wd_624 wd_456 wd_457 wd_42 wd_458, by decide +kernel⟩
theorem lk_X4_22 : lh_LV "LightHours$Rooms" 22 yX4_read cX4_read 4 none 3 := ⟨lh_goodV wd_333 wd_334 wd_335 wd_37 wd_336, by decide +kernel⟩
theorem lk_X4_26 : lh_LN "LightHours$Rooms" 26 yX8_copyRow cX8_copyRow 2 none 2 := ⟨lh_goodB wd_577, by decide +kernel, wd_576, wd_35, by decide +kernel⟩
theorem lk_X5_37 : lh_LN "LightHours$Sheets" 37 yX8_copyRow cX8_copyRow 2 none 2 := ⟨lh_goodB wd_577, by decide +kernel, wd_576, wd_35, by decide +kernel⟩
theorem lk_X6_25 : lh_LN "LightHours$Threads" 25 yX8_copyRow cX8_copyRow 2 none 2 := ⟨lh_goodB wd_577, by decide +kernel, wd_576, wd_35, by decide +kernel⟩
theorem lk_X7_25 : lh_LN "LightHours$Walls" 25 yX8_copyRow cX8_copyRow 2 none 2 := ⟨lh_goodB wd_577, by decide +kernel, wd_576, wd_35, by decide +kernel⟩
theorem lk_L_13 : lh_LV "LightHoursLaw" 13 yX8_room cX8_room 2 (some .int) 1 := ⟨lh_goodV wd_322 wd_323 wd_324 wd_35 wd_325, by decide +kernel⟩
theorem lk_L_17 : lh_LV "LightHoursLaw" 17 yX9_room cX9_room 4 (some .int) 1 := ⟨lh_goodV wd_728 wd_729 wd_730 wd_44 wd_731, by decide +kernel⟩
theorem lk_L_18 : lh_LV "LightHoursLaw" 18 yX8_reading cX8_reading 4 (some .int) 3 := ⟨lh_goodV wd_345 wd_346 wd_347 wd_35 wd_348, by decide +kernel⟩
theorem lk_L_22 : lh_LV "LightHoursLaw" 22 yX9_reading cX9_reading 4 (some .int) 3 := ⟨lh_goodV wd_739 wd_740 wd_741 wd_44 wd_742, by decide +kernel⟩
theorem lk_L_23 : lh_LV "LightHoursLaw" 23 yX8_light cX8_light 4 (some .int) 3 := ⟨lh_goodV wd_357 wd_358 wd_359 wd_35 wd_360, by decide +kernel⟩
theorem lk_L_27 : lh_LV "LightHoursLaw" 27 yX9_light cX9_light 4 (some .int) 3 := ⟨lh_goodV wd_750 wd_751 wd_752 wd_44 wd_753, by decide +kernel⟩
theorem lk_L_28 : lh_LV "LightHoursLaw" 28 yX8_sheet cX8_sheet 5 (some .int) 4 := ⟨lh_goodV wd_365 wd_366 wd_367 wd_35 wd_368, by decide +kernel⟩
theorem lk_L_32 : lh_LV "LightHoursLaw" 32 yX9_sheet cX9_sheet 6 (some .int) 4 := ⟨lh_goodV wd_758 wd_759 wd_760 wd_44 wd_761, by decide +kernel⟩
theorem lk_L_33 : lh_LV "LightHoursLaw" 33 yX8_sisters cX8_sisters 4 (some .int) 2 := ⟨lh_goodV wd_373 wd_374 wd_375 wd_35 wd_376, by decide +kernel⟩
theorem lk_L_37 : lh_LV "LightHoursLaw" 37 yX9_sisters cX9_sisters 3 (some .int) 2 := ⟨lh_goodV wd_762 wd_763 wd_764 wd_44 wd_765, by decide +kernel⟩
theorem lk_L_38 : lh_LV "LightHoursLaw" 38 yX8_past cX8_past 4 (some .int) 3 := ⟨lh_goodV wd_381 wd_382 wd_383 wd_35 wd_384, by decide +kernel⟩
theorem lk_L_41 : lh_LV "LightHoursLaw" 41 yX9_past cX9_past 4 (some .int) 3 := ⟨lh_goodV wd_770 wd_771 wd_772 wd_44 wd_773, by decide +kernel⟩
theorem lk_L_42 : lh_LV "LightHoursLaw" 42 yX8_of cX8_of 4 (some .int) 2 := ⟨lh_goodV wd_385 wd_386 wd_387 wd_35 wd_388, by decide +kernel⟩
theorem lk_L_45 : lh_LV "LightHoursLaw" 45 yX9_of cX9_of 3 (some .int) 2 := ⟨lh_goodV wd_774 wd_775 wd_776 wd_44 wd_777, by decide +kernel⟩
theorem lk_L_46 : lh_LV "LightHoursLaw" 46 yX8_show cX8_show 4 (some .int) 3 := ⟨lh_goodV wd_431 wd_432 wd_433 wd_35 wd_434, by decide +kernel⟩
theorem lk_L_49 : lh_LV "LightHoursLaw" 49 yX9_show cX9_show 4 (some .int) 3 := ⟨lh_goodV wd_802 wd_803 wd_804 wd_44 wd_805, by decide +kernel⟩
theorem lk_L_50 : lh_LV "LightHoursLaw" 50 yX8_lend cX8_lend 4 (some .int) 3 := ⟨lh_goodV wd_451 wd_452 wd_453 wd_35 wd_454, by decide +kernel⟩
theorem lk_L_53 : lh_LV "LightHoursLaw" 53 yX9_lend cX9_lend 4 (some .int) 3 := ⟨lh_goodV wd_814 wd_815 wd_816 wd_44 wd_817, by decide +kernel⟩
theorem lk_L_54 : lh_LV "LightHoursLaw" 54 yX8_lacks cX8_lacks 3 (some .int) 2 := ⟨lh_goodV wd_467 wd_468 wd_469 wd_35 wd_470, by decide +kernel⟩
theorem lk_L_57 : lh_LV "LightHoursLaw" 57 yX9_lacks cX9_lacks 4 (some .int) 2 := ⟨lh_goodV wd_826 wd_827 wd_828 wd_44 wd_829, by decide +kernel⟩
theorem lk_L_58 : lh_LV "LightHoursLaw" 58 yX8_cancel cX8_cancel 3 (some .int) 1 := ⟨lh_goodV wd_472 wd_473 wd_474 wd_35 wd_475, by decide +kernel⟩
theorem lk_L_61 : lh_LV "LightHoursLaw" 61 yX9_cancel cX9_cancel 2 (some .int) 1 := ⟨lh_goodV wd_830 wd_831 wd_832 wd_44 wd_833, by decide +kernel⟩
theorem lk_L_62 : lh_LV "LightHoursLaw" 62 yX8_booking cX8_booking 4 (some .int) 2 := ⟨lh_goodV wd_480 wd_481 wd_482 wd_35 wd_483, by decide +kernel⟩
theorem lk_L_65 : lh_LV "LightHoursLaw" 65 yX9_booking cX9_booking 4 (some .int) 2 := ⟨lh_goodV wd_834 wd_835 wd_836 wd_44 wd_837, by decide +kernel⟩
theorem lk_L_66 : lh_LV "LightHoursLaw" 66 yX8_thread cX8_thread 4 (some .int) 3 := ⟨lh_goodV wd_486 wd_487 wd_488 wd_35 wd_489, by decide +kernel⟩
theorem lk_L_69 : lh_LV "LightHoursLaw" 69 yX9_thread cX9_thread 5 (some .int) 3 := ⟨lh_goodV wd_838 wd_839 wd_840 wd_44 wd_841, by decide +kernel⟩
theorem lk_L_70 : lh_LV "LightHoursLaw" 70 yX8_cut cX8_cut 1 (some .int) 0 := ⟨lh_goodV wd_494 wd_495 wd_496 wd_35 wd_497, by decide +kernel⟩
theorem lk_L_74 : lh_LV "LightHoursLaw" 74 yX9_cut cX9_cut 1 (some .int) 0 := ⟨lh_goodV wd_842 wd_843 wd_844 wd_44 wd_845, by decide +kernel⟩
theorem lk_L_75 : lh_LV "LightHoursLaw" 75 yX8_pastOf cX8_pastOf 3 (some .int) 2 := ⟨lh_goodV wd_498 wd_499 wd_500 wd_35 wd_501, by decide +kernel⟩
theorem lk_L_79 : lh_LV "LightHoursLaw" 79 yX9_pastOf cX9_pastOf 3 (some .int) 2 := ⟨lh_goodV wd_846 wd_847 wd_848 wd_44 wd_849, by decide +kernel⟩
theorem lk_L_80 : lh_LV "LightHoursLaw" 80 yX8_spent cX8_spent 4 (some .int) 3 := ⟨lh_goodV wd_506 wd_507 wd_508 wd_35 wd_509, by decide +kernel⟩
theorem lk_L_83 : lh_LV "LightHoursLaw" 83 yX9_spent cX9_spent 4 (some .int) 3 := ⟨lh_goodV wd_850 wd_851 wd_852 wd_44 wd_853, by decide +kernel⟩
theorem lk_L_84 : lh_LV "LightHoursLaw" 84 yX8_left cX8_left 3 (some .int) 2 := ⟨lh_goodV wd_511 wd_512 wd_513 wd_35 wd_514, by decide +kernel⟩
theorem lk_L_87 : lh_LV "LightHoursLaw" 87 yX9_left cX9_left 3 (some .int) 2 := ⟨lh_goodV wd_854 wd_855 wd_856 wd_44 wd_857, by decide +kernel⟩
theorem lk_L_88 : lh_LV "LightHoursLaw" 88 yX8_step cX8_step 4 (some .int) 3 := ⟨lh_goodV wd_516 wd_517 wd_518 wd_35 wd_519, by decide +kernel⟩
theorem lk_L_91 : lh_LV "LightHoursLaw" 91 yX9_step cX9_step 6 (some .int) 3 := ⟨lh_goodV wd_859 wd_860 wd_861 wd_44 wd_862, by decide +kernel⟩
theorem lk_L_92 : lh_LV "LightHoursLaw" 92 yX8_wall cX8_wall 4 (some .int) 3 := ⟨lh_goodV wd_524 wd_525 wd_526 wd_35 wd_527, by decide +kernel⟩
theorem lk_L_95 : lh_LV "LightHoursLaw" 95 yX9_wall cX9_wall 5 (some .int) 3 := ⟨lh_goodV wd_863 wd_864 wd_865 wd_44 wd_866, by decide +kernel⟩
theorem lk_L_96 : lh_LV "LightHoursLaw" 96 yX8_strip cX8_strip 1 (some .int) 0 := ⟨lh_goodV wd_532 wd_533 wd_534 wd_35 wd_535, by decide +kernel⟩
theorem lk_L_99 : lh_LV "LightHoursLaw" 99 yX9_strip cX9_strip 1 (some .int) 0 := ⟨lh_goodV wd_867 wd_868 wd_869 wd_44 wd_870, by decide +kernel⟩
theorem lk_L_100 : lh_LV "LightHoursLaw" 100 yX8_hung cX8_hung 2 (some .int) 1 := ⟨lh_goodV wd_536 wd_537 wd_538 wd_35 wd_539, by decide +kernel⟩
theorem lk_L_103 : lh_LV "LightHoursLaw" 103 yX9_hung cX9_hung 2 (some .int) 1 := ⟨lh_goodV wd_871 wd_872 wd_873 wd_44 wd_874, by decide +kernel⟩
theorem lk_L_104 : lh_LV "LightHoursLaw" 104 yX8_worth cX8_worth 1 (some .int) 0 := ⟨lh_goodV wd_587 wd_588 wd_589 wd_35 wd_590, by decide +kernel⟩
theorem lk_L_107 : lh_LV "LightHoursLaw" 107 yX9_worth cX9_worth 1 (some .int) 0 := ⟨lh_goodV wd_898 wd_899 wd_900 wd_44 wd_901, by decide +kernel⟩
theorem lk_L_108 : lh_LV "LightHoursLaw" 108 yX8_spares cX8_spares 2 (some .int) 1 := ⟨lh_goodV wd_591 wd_592 wd_593 wd_35 wd_594, by decide +kernel⟩
theorem lk_L_111 : lh_LV "LightHoursLaw" 111 yX9_spares cX9_spares 4 (some .int) 1 := ⟨lh_goodV wd_902 wd_903 wd_904 wd_44 wd_905, by decide +kernel⟩
theorem lk_L_112 : lh_LV "LightHoursLaw" 112 yX8_hang cX8_hang 4 (some .int) 0 := ⟨lh_goodV wd_599 wd_600 wd_601 wd_35 wd_602, by decide +kernel⟩
theorem lk_L_115 : lh_LV "LightHoursLaw" 115 yX9_hang cX9_hang 4 (some .int) 0 := ⟨lh_goodV wd_906 wd_907 wd_908 wd_44 wd_909, by decide +kernel⟩
theorem lk_L_116 : lh_LV "LightHoursLaw" 116 yX8_many cX8_many 2 (some .int) 1 := ⟨lh_goodV wd_607 wd_608 wd_609 wd_35 wd_610, by decide +kernel⟩
theorem lk_L_119 : lh_LV "LightHoursLaw" 119 yX9_many cX9_many 2 (some .int) 1 := ⟨lh_goodV wd_910 wd_911 wd_912 wd_44 wd_913, by decide +kernel⟩
theorem lk_L_120 : lh_LV "LightHoursLaw" 120 yX8_keep cX8_keep 1 (some .int) 0 := ⟨lh_goodV wd_629 wd_630 wd_631 wd_35 wd_632, by decide +kernel⟩
theorem lk_L_123 : lh_LV "LightHoursLaw" 123 yX9_keep cX9_keep 1 (some .int) 0 := ⟨lh_goodV wd_931 wd_932 wd_933 wd_44 wd_934, by decide +kernel⟩
theorem lk_L_124 : lh_LV "LightHoursLaw" 124 yX8_back cX8_back 1 (some .int) 0 := ⟨lh_goodV wd_662 wd_663 wd_664 wd_35 wd_665, by decide +kernel⟩
theorem lk_L_127 : lh_LV "LightHoursLaw" 127 yX9_back cX9_back 1 (some .int) 0 := ⟨lh_goodV wd_943 wd_944 wd_945 wd_44 wd_946, by decide +kernel⟩
theorem lk_X9_47 : lh_LS "LightHoursModel" 47 yX9_in cX9_in 3 (some .boolean) 3 := ⟨lh_goodS wd_732 wd_733 wd_44 wd_734, by decide +kernel⟩
theorem lk_X9_51 : lh_LV "LightHoursModel" 51 yX9_came cX9_came 2 (some .int) 1 := ⟨lh_goodV wd_735 wd_737 wd_9 wd_44 wd_738, by decide +kernel⟩
theorem lk_X9_55 : lh_LV "LightHoursModel" 55 yX9_is cX9_is 3 (some .boolean) 2 := ⟨lh_goodV wd_743 wd_745 wd_10 wd_44 wd_746, by decide +kernel⟩
theorem lk_X9_59 : lh_LS "LightHoursModel" 59 yX9_isYear cX9_isYear 1 (some .boolean) 1 := ⟨lh_goodS wd_747 wd_748 wd_44 wd_749, by decide +kernel⟩
theorem lk_X9_63 : lh_LV "LightHoursModel" 63 yX9_lightOf cX9_lightOf 5 (some .int) 3 := ⟨lh_goodV wd_754 wd_756 wd_11 wd_44 wd_757, by decide +kernel⟩
theorem lk_X9_67 : lh_LV "LightHoursModel" 67 yX9_sisterOf cX9_sisterOf 2 (some .int) 1 := ⟨lh_goodV wd_766 wd_768 wd_12 wd_44 wd_769, by decide +kernel⟩
theorem lk_X9_70 : lh_LV "LightHoursModel" 70 yX9_isHere cX9_isHere 3 (some .boolean) 2 := ⟨lh_goodV wd_786 wd_788 wd_15 wd_44 wd_789, by decide +kernel⟩
theorem lk_X9_73 : lh_LV "LightHoursModel" 73 yX9_spends cX9_spends 4 (some .int) 2 := ⟨lh_goodV wd_790 wd_792 wd_16 wd_44 wd_793, by decide +kernel⟩
theorem lk_X9_84 : lh_LV "LightHoursModel" 84 yX9_booked cX9_booked 6 (some .int) 3 := ⟨lh_goodV wd_782 wd_784 wd_14 wd_44 wd_785, by decide +kernel⟩
theorem lk_X9_91 : lh_LV "LightHoursModel" 91 yX9_findPast cX9_findPast 7 none 1 := ⟨lh_goodV wd_778 wd_780 wd_13 wd_44 wd_781, by decide +kernel⟩
theorem lk_X9_95 : lh_LV "LightHoursModel" 95 yX9_spentOf cX9_spentOf 4 (some .int) 3 := ⟨lh_goodV wd_822 wd_824 wd_22 wd_44 wd_825, by decide +kernel⟩
theorem lk_X9_98 : lh_LV "LightHoursModel" 98 yX9_bookedMany cX9_bookedMany 4 (some .int) 1 := ⟨lh_goodV wd_794 wd_796 wd_17 wd_44 wd_797, by decide +kernel⟩
theorem lk_X9_101 : lh_LV "LightHoursModel" 101 yX9_threadMany cX9_threadMany 4 (some .int) 1 := ⟨lh_goodV wd_798 wd_800 wd_18 wd_44 wd_801, by decide +kernel⟩
theorem lk_X9_104 : lh_LV "LightHoursModel" 104 yX9_isShown cX9_isShown 5 (some .boolean) 2 := ⟨lh_goodV wd_806 wd_808 wd_19 wd_44 wd_809, by decide +kernel⟩
theorem lk_X9_107 : lh_LV "LightHoursModel" 107 yX9_books cX9_books 6 (some .int) 4 := ⟨lh_goodV wd_810 wd_812 wd_20 wd_44 wd_813, by decide +kernel⟩
theorem lk_X9_111 : lh_LV "LightHoursModel" 111 yX9_leastLeft cX9_leastLeft 2 (some .int) 1 := ⟨lh_goodV wd_818 wd_820 wd_21 wd_44 wd_821, by decide +kernel⟩
theorem lk_X9_115 : lh_LS "LightHoursModel" 115 yX9_away cX9_away 2 (some .int) 2 := ⟨lh_goodS wd_895 wd_896 wd_44 wd_897, by decide +kernel⟩
theorem lk_X9_119 : lh_LV "LightHoursModel" 119 yX9_rests cX9_rests 7 (some .boolean) 2 := ⟨lh_goodV wd_891 wd_893 wd_27 wd_44 wd_894, by decide +kernel⟩
theorem lk_X9_125 : lh_LV "LightHoursModel" 125 yX9_takes cX9_takes 3 none 0 := ⟨lh_goodV wd_879 wd_881 wd_24 wd_44 wd_882, by decide +kernel⟩
theorem lk_X9_128 : lh_LV "LightHoursModel" 128 yX9_fits cX9_fits 9 (some .boolean) 1 := ⟨lh_goodV wd_887 wd_889 wd_26 wd_44 wd_890, by decide +kernel⟩
theorem lk_X9_131 : lh_LV "LightHoursModel" 131 yX9_valueOf cX9_valueOf 2 (some .int) 1 := ⟨lh_goodV wd_883 wd_885 wd_25 wd_44 wd_886, by decide +kernel⟩
theorem lk_X9_134 : lh_LV "LightHoursModel" 134 yX9_findHang cX9_findHang 3 none 0 := ⟨lh_goodV wd_875 wd_877 wd_23 wd_44 wd_878, by decide +kernel⟩
theorem lk_X9_137 : lh_LV "LightHoursModel" 137 yX9_of cX9_of 3 (some .int) 2 := ⟨lh_goodV wd_922 wd_775 wd_776 wd_44 wd_777, by decide +kernel⟩
theorem lk_X9_140 : lh_LV "LightHoursModel" 140 yX9_cancelled cX9_cancelled 3 (some .int) 0 := ⟨lh_goodV wd_914 wd_916 wd_28 wd_44 wd_917, by decide +kernel⟩
theorem lk_X9_144 : lh_LV "LightHoursModel" 144 yX9_quarrels cX9_quarrels 3 (some .int) 0 := ⟨lh_goodV wd_918 wd_920 wd_29 wd_44 wd_921, by decide +kernel⟩
theorem lk_X9_147 : lh_LV "LightHoursModel" 147 yX9_overspent cX9_overspent 3 (some .int) 0 := ⟨lh_goodV wd_923 wd_925 wd_30 wd_44 wd_926, by decide +kernel⟩
theorem lk_X9_150 : lh_LV "LightHoursModel" 150 yX9_readMany cX9_readMany 3 (some .int) 0 := ⟨lh_goodV wd_927 wd_929 wd_31 wd_44 wd_930, by decide +kernel⟩
theorem lk_X9_156 : lh_LV "LightHoursModel" 156 yX9_move cX9_move 5 none 3 := ⟨lh_goodV wd_939 wd_941 wd_33 wd_44 wd_942, by decide +kernel⟩
theorem lk_X9_160 : lh_LV "LightHoursModel" 160 yX9_moveAll cX9_moveAll 2 none 1 := ⟨lh_goodV wd_935 wd_937 wd_32 wd_44 wd_938, by decide +kernel⟩
end
section
def fX8_within (h : lh_HS) (n : Int32) (a : Int32) (b : Int32) : Int32 := (if n < a then 0 else (if b < n then 0 else 1))
set_option maxHeartbeats 4000000 in
set_option maxRecDepth 100000 in
theorem ct_X8_within {l : Launch} {D : va_G} {ad : Nat → Nat} {bs : Nat} {cI cZ : ClassId} {t9 : Nat} {k : Bool} (h : lh_HS) (n : Int32) (a : Int32) (b : Int32)  : lh_CTi l D ad bs cI cZ t9 k yX8_within cX8_within 3 (some .boolean) 0 [.int n, .int a, .int b] h (fX8_within h n a b) h := by
  refine lh_ofi (lv := [(0, .int n), (1, .int a), (2, .int b)]) (by decide) (Nat.le_of_ble_eq_true rfl) rfl (by simp [Value.category]) ⟨rfl, rfl, rfl, trivial⟩ ?_
  intro p e s m args below meth c B
  have B : lh_BK p (lh_rm 0) s m args meth c D ad bs cI cZ t9 k "LightHours" cX8_within 3 (some .boolean) := B
  refine la_iload_n (i := 0) B dX8_within_0 rfl rfl ?_
  refine la_iload_n (i := 1) B dX8_within_1 rfl rfl ?_
  refine la_icmp_lt (tgt := 14) B dX8_within_2 (by decide) (fun c2 => ?_) (fun c2 => ?_)
  · refine la_iconst (v := 0) B dX8_within_14 (by decide) ?_
    exact la_zreturn B rfl (by simp only [fX8_within, if_pos c2]) rfl rfl dX8_within_15
  · refine la_iload_n (i := 0) B dX8_within_5 rfl rfl ?_
    refine la_iload_n (i := 2) B dX8_within_6 rfl rfl ?_
    refine la_icmp_gt (tgt := 14) B dX8_within_7 (by decide) (fun c7 => ?_) (fun c7 => ?_)
    · refine la_iconst (v := 0) B dX8_within_14 (by decide) ?_
      exact la_zreturn B rfl (by simp only [fX8_within, if_neg c2, if_pos c7]) rfl rfl dX8_within_15
    · refine la_iconst (v := 1) B dX8_within_10 (by decide) ?_
      refine la_goto (tgt := 15) B dX8_within_11 (by decide) ?_
      exact la_zreturn B rfl (by simp only [fX8_within, if_neg c2, if_neg c7]) rfl rfl dX8_within_15

theorem bX8_within (h : lh_HS) (n a b : Int32) : fX8_within h n a b = 0 ∨ fX8_within h n a b = 1 := by
  unfold fX8_within
  split
  · exact Or.inl rfl
  · split
    · exact Or.inl rfl
    · exact Or.inr rfl
def fX8_isYear (h : lh_HS) (n : Int32) : Int32 := fX8_within h n 0 9
set_option maxHeartbeats 4000000 in
set_option maxRecDepth 100000 in
theorem ct_X8_isYear {l : Launch} {D : va_G} {ad : Nat → Nat} {bs : Nat} {cI cZ : ClassId} {t9 : Nat} {k : Bool} (h : lh_HS) (n : Int32)  : lh_CTi l D ad bs cI cZ t9 k yX8_isYear cX8_isYear 1 (some .boolean) 1 [.int n] h (fX8_isYear h n) h := by
  refine lh_ofi (lv := [(0, .int n)]) (by decide) (Nat.le_of_ble_eq_true rfl) rfl (by simp [Value.category]) ⟨rfl, trivial⟩ ?_
  intro p e s m args below meth c B
  have B : lh_BK p (lh_rm 1) s m args meth c D ad bs cI cZ t9 k "LightHours" cX8_isYear 1 (some .boolean) := B
  refine la_iload_n (i := 0) B dX8_isYear_0 rfl rfl ?_
  refine la_iconst (v := 0) B dX8_isYear_1 (by decide) ?_
  refine la_bipush (v := 9) B dX8_isYear_2 (by decide) ?_
  refine la_callSi B (ct_X8_within h n 0 9) lk_X8_37 (by decide) rfl (by simp [Value.category]) dX8_isYear_4 ?_
  exact la_zreturn B rfl (by simp only [fX8_isYear]) rfl (lh_nar (bX8_within _ _ _ _)) dX8_isYear_7

def fX4_has (h : lh_HS) (n : Int32) : Int32 := (if n < 0 then 0 else (if (h 2 0) ≤ n then 0 else 1))
set_option maxHeartbeats 4000000 in
set_option maxRecDepth 100000 in
theorem ct_X4_has {l : Launch} {D : va_G} {ad : Nat → Nat} {bs : Nat} {cI cZ : ClassId} {t9 : Nat} {k : Bool} (h : lh_HS) (n : Int32)  : lh_CTi l D ad bs cI cZ t9 k yX4_has cX4_has 2 (some .boolean) 0 [.ref (ad 2), .int n] h (fX4_has h n) h := by
  refine lh_ofi (lv := [(0, .ref (ad 2)), (1, .int n)]) (by decide) (Nat.le_of_ble_eq_true rfl) rfl (by simp [Value.category]) ⟨rfl, rfl, trivial⟩ ?_
  intro p e s m args below meth c B
  have B : lh_BK p (lh_rm 0) s m args meth c D ad bs cI cZ t9 k "LightHours$Rooms" cX4_has 2 (some .boolean) := B
  refine la_iload_n (i := 1) B dX4_has_0 rfl rfl ?_
  refine la_if_lt (tgt := 16) B dX4_has_1 (by decide) (fun c1 => ?_) (fun c1 => ?_)
  · refine la_iconst (v := 0) B dX4_has_16 (by decide) ?_
    exact la_zreturn B rfl (by simp only [fX4_has, if_pos c1]) rfl rfl dX4_has_17
  · refine la_iload_n (i := 1) B dX4_has_4 rfl rfl ?_
    refine la_aload_n (i := 0) B dX4_has_5 rfl rfl ?_
    refine la_get (i := 2) (ci := 4) (j := 0) (v := .int (h 2 0)) (C := RX4) (T := TX4) (N := 3) B (lh_nc_lt (by decide)) rfl ix_4 rfl (by decide) wd_67 rfl rfl dX4_has_6 ?_
    refine la_icmp_ge (tgt := 16) B dX4_has_9 (by decide) (fun c9 => ?_) (fun c9 => ?_)
    · refine la_iconst (v := 0) B dX4_has_16 (by decide) ?_
      exact la_zreturn B rfl (by simp only [fX4_has, if_neg c1, if_pos c9]) rfl rfl dX4_has_17
    · refine la_iconst (v := 1) B dX4_has_12 (by decide) ?_
      refine la_goto (tgt := 17) B dX4_has_13 (by decide) ?_
      exact la_zreturn B rfl (by simp only [fX4_has, if_neg c1, if_neg c9]) rfl rfl dX4_has_17

def fX5_has (h : lh_HS) (n : Int32) : Int32 := (if n < 0 then 0 else (if (h 3 0) ≤ n then 0 else 1))
set_option maxHeartbeats 4000000 in
set_option maxRecDepth 100000 in
theorem ct_X5_has {l : Launch} {D : va_G} {ad : Nat → Nat} {bs : Nat} {cI cZ : ClassId} {t9 : Nat} {k : Bool} (h : lh_HS) (n : Int32)  : lh_CTi l D ad bs cI cZ t9 k yX5_has cX5_has 2 (some .boolean) 0 [.ref (ad 3), .int n] h (fX5_has h n) h := by
  refine lh_ofi (lv := [(0, .ref (ad 3)), (1, .int n)]) (by decide) (Nat.le_of_ble_eq_true rfl) rfl (by simp [Value.category]) ⟨rfl, rfl, trivial⟩ ?_
  intro p e s m args below meth c B
  have B : lh_BK p (lh_rm 0) s m args meth c D ad bs cI cZ t9 k "LightHours$Sheets" cX5_has 2 (some .boolean) := B
  refine la_iload_n (i := 1) B dX5_has_0 rfl rfl ?_
  refine la_if_lt (tgt := 16) B dX5_has_1 (by decide) (fun c1 => ?_) (fun c1 => ?_)
  · refine la_iconst (v := 0) B dX5_has_16 (by decide) ?_
    exact la_zreturn B rfl (by simp only [fX5_has, if_pos c1]) rfl rfl dX5_has_17
  · refine la_iload_n (i := 1) B dX5_has_4 rfl rfl ?_
    refine la_aload_n (i := 0) B dX5_has_5 rfl rfl ?_
    refine la_get (i := 3) (ci := 5) (j := 0) (v := .int (h 3 0)) (C := RX5) (T := TX5) (N := 8) B (lh_nc_lt (by decide)) rfl ix_5 rfl (by decide) wd_86 rfl rfl dX5_has_6 ?_
    refine la_icmp_ge (tgt := 16) B dX5_has_9 (by decide) (fun c9 => ?_) (fun c9 => ?_)
    · refine la_iconst (v := 0) B dX5_has_16 (by decide) ?_
      exact la_zreturn B rfl (by simp only [fX5_has, if_neg c1, if_pos c9]) rfl rfl dX5_has_17
    · refine la_iconst (v := 1) B dX5_has_12 (by decide) ?_
      refine la_goto (tgt := 17) B dX5_has_13 (by decide) ?_
      exact la_zreturn B rfl (by simp only [fX5_has, if_neg c1, if_neg c9]) rfl rfl dX5_has_17

def fX0_has (h : lh_HS) (n : Int32) : Int32 := (if n < 0 then 0 else (if (h 4 0) ≤ n then 0 else 1))
set_option maxHeartbeats 4000000 in
set_option maxRecDepth 100000 in
theorem ct_X0_has {l : Launch} {D : va_G} {ad : Nat → Nat} {bs : Nat} {cI cZ : ClassId} {t9 : Nat} {k : Bool} (h : lh_HS) (n : Int32)  : lh_CTi l D ad bs cI cZ t9 k yX0_has cX0_has 2 (some .boolean) 0 [.ref (ad 4), .int n] h (fX0_has h n) h := by
  refine lh_ofi (lv := [(0, .ref (ad 4)), (1, .int n)]) (by decide) (Nat.le_of_ble_eq_true rfl) rfl (by simp [Value.category]) ⟨rfl, rfl, trivial⟩ ?_
  intro p e s m args below meth c B
  have B : lh_BK p (lh_rm 0) s m args meth c D ad bs cI cZ t9 k "LightHours$Bookings" cX0_has 2 (some .boolean) := B
  refine la_iload_n (i := 1) B dX0_has_0 rfl rfl ?_
  refine la_if_lt (tgt := 16) B dX0_has_1 (by decide) (fun c1 => ?_) (fun c1 => ?_)
  · refine la_iconst (v := 0) B dX0_has_16 (by decide) ?_
    exact la_zreturn B rfl (by simp only [fX0_has, if_pos c1]) rfl rfl dX0_has_17
  · refine la_iload_n (i := 1) B dX0_has_4 rfl rfl ?_
    refine la_aload_n (i := 0) B dX0_has_5 rfl rfl ?_
    refine la_get (i := 4) (ci := 0) (j := 0) (v := .int (h 4 0)) (C := RX0) (T := TX0) (N := 6) B (lh_nc_lt (by decide)) rfl ix_0 rfl (by decide) wd_133 rfl rfl dX0_has_6 ?_
    refine la_icmp_ge (tgt := 16) B dX0_has_9 (by decide) (fun c9 => ?_) (fun c9 => ?_)
    · refine la_iconst (v := 0) B dX0_has_16 (by decide) ?_
      exact la_zreturn B rfl (by simp only [fX0_has, if_neg c1, if_pos c9]) rfl rfl dX0_has_17
    · refine la_iconst (v := 1) B dX0_has_12 (by decide) ?_
      refine la_goto (tgt := 17) B dX0_has_13 (by decide) ?_
      exact la_zreturn B rfl (by simp only [fX0_has, if_neg c1, if_neg c9]) rfl rfl dX0_has_17

def fX7_has (h : lh_HS) (n : Int32) : Int32 := (if n < 0 then 0 else (if (h 6 0) ≤ n then 0 else 1))
set_option maxHeartbeats 4000000 in
set_option maxRecDepth 100000 in
theorem ct_X7_has {l : Launch} {D : va_G} {ad : Nat → Nat} {bs : Nat} {cI cZ : ClassId} {t9 : Nat} {k : Bool} (h : lh_HS) (n : Int32)  : lh_CTi l D ad bs cI cZ t9 k yX7_has cX7_has 2 (some .boolean) 0 [.ref (ad 6), .int n] h (fX7_has h n) h := by
  refine lh_ofi (lv := [(0, .ref (ad 6)), (1, .int n)]) (by decide) (Nat.le_of_ble_eq_true rfl) rfl (by simp [Value.category]) ⟨rfl, rfl, trivial⟩ ?_
  intro p e s m args below meth c B
  have B : lh_BK p (lh_rm 0) s m args meth c D ad bs cI cZ t9 k "LightHours$Walls" cX7_has 2 (some .boolean) := B
  refine la_iload_n (i := 1) B dX7_has_0 rfl rfl ?_
  refine la_if_lt (tgt := 16) B dX7_has_1 (by decide) (fun c1 => ?_) (fun c1 => ?_)
  · refine la_iconst (v := 0) B dX7_has_16 (by decide) ?_
    exact la_zreturn B rfl (by simp only [fX7_has, if_pos c1]) rfl rfl dX7_has_17
  · refine la_iload_n (i := 1) B dX7_has_4 rfl rfl ?_
    refine la_aload_n (i := 0) B dX7_has_5 rfl rfl ?_
    refine la_get (i := 6) (ci := 7) (j := 0) (v := .int (h 6 0)) (C := RX7) (T := TX7) (N := 4) B (lh_nc_lt (by decide)) rfl ix_7 rfl (by decide) wd_193 rfl rfl dX7_has_6 ?_
    refine la_icmp_ge (tgt := 16) B dX7_has_9 (by decide) (fun c9 => ?_) (fun c9 => ?_)
    · refine la_iconst (v := 0) B dX7_has_16 (by decide) ?_
      exact la_zreturn B rfl (by simp only [fX7_has, if_neg c1, if_pos c9]) rfl rfl dX7_has_17
    · refine la_iconst (v := 1) B dX7_has_12 (by decide) ?_
      refine la_goto (tgt := 17) B dX7_has_13 (by decide) ?_
      exact la_zreturn B rfl (by simp only [fX7_has, if_neg c1, if_neg c9]) rfl rfl dX7_has_17

def fX4_lightEnd (h : lh_HS) (n : Int32) (y : Int32) (g : Int32) : Int32 := (if (h 8 ((n * 10) + y).toNatClampNeg) = ((-1)) then (if g = 0 then 0 else h 7 n.toNatClampNeg) else h 8 ((n * 10) + y).toNatClampNeg)
set_option maxHeartbeats 4000000 in
set_option maxRecDepth 100000 in
theorem ct_X4_lightEnd {l : Launch} {D : va_G} {ad : Nat → Nat} {bs : Nat} {cI cZ : ClassId} {t9 : Nat} {k : Bool} (h : lh_HS) (n : Int32) (y : Int32) (g : Int32) (hb : vp_in (n * 10 + y) 40) (hn : vp_in n 4) : lh_CTi l D ad bs cI cZ t9 k yX4_lightEnd cX4_lightEnd 5 (some .int) 0 [.ref (ad 2), .int n, .int y, .int g] h (fX4_lightEnd h n y g) h := by
  refine lh_ofi (lv := [(0, .ref (ad 2)), (1, .int n), (2, .int y), (3, .int g)]) (by decide) (Nat.le_of_ble_eq_true rfl) rfl (by simp [Value.category]) ⟨rfl, rfl, rfl, rfl, trivial⟩ ?_
  intro p e s m args below meth c B
  have B : lh_BK p (lh_rm 0) s m args meth c D ad bs cI cZ t9 k "LightHours$Rooms" cX4_lightEnd 5 (some .int) := B
  refine la_aload_n (i := 0) B dX4_lightEnd_0 rfl rfl ?_
  refine la_get (i := 2) (ci := 4) (j := 2) (C := RX4) (T := TX4) (N := 3) B (lh_nc_lt (by decide)) rfl ix_4 rfl (by decide) wd_71 rfl rfl dX4_lightEnd_1 ?_
  refine la_iload_n (i := 1) B dX4_lightEnd_4 rfl rfl ?_
  refine la_bipush (v := 10) B dX4_lightEnd_5 (by decide) ?_
  refine la_imul B dX4_lightEnd_7 ?_
  refine la_iload_n (i := 2) B dX4_lightEnd_8 rfl rfl ?_
  refine la_iadd B dX4_lightEnd_9 ?_
  refine la_iald (i := 8) (v := h 8 ((n * 10) + y).toNatClampNeg) B (lh_nc_lt (by decide)) rfl hb rfl dX4_lightEnd_10 ?_
  refine la_istore B dX4_lightEnd_11 (by decide) ?_
  refine la_iload B dX4_lightEnd_13 rfl ?_
  refine la_iconst (v := -1) B dX4_lightEnd_15 (by decide) ?_
  refine la_icmp_eq (tgt := 22) B dX4_lightEnd_16 (by decide) (fun c16 => ?_) (fun c16 => ?_)
  · refine la_iload_n (i := 3) B dX4_lightEnd_22 rfl rfl ?_
    refine la_if_eq (tgt := 35) B dX4_lightEnd_23 (by decide) (fun c23 => ?_) (fun c23 => ?_)
    · refine la_iconst (v := 0) B dX4_lightEnd_35 (by decide) ?_
      exact la_ireturn B rfl (by simp only [fX4_lightEnd, if_pos c16, if_pos c23]) rfl dX4_lightEnd_36
    · refine la_aload_n (i := 0) B dX4_lightEnd_26 rfl rfl ?_
      refine la_get (i := 2) (ci := 4) (j := 1) (C := RX4) (T := TX4) (N := 3) B (lh_nc_lt (by decide)) rfl ix_4 rfl (by decide) wd_69 rfl rfl dX4_lightEnd_27 ?_
      refine la_iload_n (i := 1) B dX4_lightEnd_30 rfl rfl ?_
      refine la_iald (i := 7) (v := h 7 n.toNatClampNeg) B (lh_nc_lt (by decide)) rfl hn rfl dX4_lightEnd_31 ?_
      refine la_goto (tgt := 36) B dX4_lightEnd_32 (by decide) ?_
      exact la_ireturn B rfl (by simp only [fX4_lightEnd, if_pos c16, if_neg c23]) rfl dX4_lightEnd_36
  · refine la_iload B dX4_lightEnd_19 rfl ?_
    exact la_ireturn B rfl (by simp only [fX4_lightEnd, if_neg c16]) rfl dX4_lightEnd_21

def gX4_read (h : lh_HS) (n : Int32) (y : Int32) (v : Int32) : lh_HS := lh_up h 8 (((n * 10) + y).toNatClampNeg) v
set_option maxHeartbeats 4000000 in
set_option maxRecDepth 100000 in
theorem ct_X4_read {l : Launch} {D : va_G} {ad : Nat → Nat} {bs : Nat} {cI cZ : ClassId} {t9 : Nat} {k : Bool} (h : lh_HS) (n : Int32) (y : Int32) (v : Int32) (hb : vp_in (n * 10 + y) 40) : lh_CTv l D ad bs cI cZ t9 k yX4_read cX4_read 4 0 [.ref (ad 2), .int n, .int y, .int v] h (gX4_read h n y v) := by
  refine lh_ofv (lv := [(0, .ref (ad 2)), (1, .int n), (2, .int y), (3, .int v)]) (by decide) (Nat.le_of_ble_eq_true rfl) rfl (by simp [Value.category]) ⟨rfl, rfl, rfl, rfl, trivial⟩ ?_
  intro p e s m args below meth c B
  have B : lh_BK p (lh_rm 0) s m args meth c D ad bs cI cZ t9 k "LightHours$Rooms" cX4_read 4 none := B
  refine la_aload_n (i := 0) B dX4_read_0 rfl rfl ?_
  refine la_get (i := 2) (ci := 4) (j := 2) (C := RX4) (T := TX4) (N := 3) B (lh_nc_lt (by decide)) rfl ix_4 rfl (by decide) wd_71 rfl rfl dX4_read_1 ?_
  refine la_iload_n (i := 1) B dX4_read_4 rfl rfl ?_
  refine la_bipush (v := 10) B dX4_read_5 (by decide) ?_
  refine la_imul B dX4_read_7 ?_
  refine la_iload_n (i := 2) B dX4_read_8 rfl rfl ?_
  refine la_iadd B dX4_read_9 ?_
  refine la_iload_n (i := 3) B dX4_read_10 rfl rfl ?_
  refine la_iast (i := 8) B (lh_nc_lt (by decide)) rfl rfl hb dX4_read_11 ?_
  exact la_return B rfl (by simp only [gX4_read]) dX4_read_12

def fX0_isLoan (h : lh_HS) (n : Int32) : Int32 := (if (h 17 n.toNatClampNeg) = ((-4)) then 1 else 0)
set_option maxHeartbeats 4000000 in
set_option maxRecDepth 100000 in
theorem ct_X0_isLoan {l : Launch} {D : va_G} {ad : Nat → Nat} {bs : Nat} {cI cZ : ClassId} {t9 : Nat} {k : Bool} (h : lh_HS) (n : Int32) (hb : vp_in n 30) : lh_CTi l D ad bs cI cZ t9 k yX0_isLoan cX0_isLoan 2 (some .boolean) 0 [.ref (ad 4), .int n] h (fX0_isLoan h n) h := by
  refine lh_ofi (lv := [(0, .ref (ad 4)), (1, .int n)]) (by decide) (Nat.le_of_ble_eq_true rfl) rfl (by simp [Value.category]) ⟨rfl, rfl, trivial⟩ ?_
  intro p e s m args below meth c B
  have B : lh_BK p (lh_rm 0) s m args meth c D ad bs cI cZ t9 k "LightHours$Bookings" cX0_isLoan 2 (some .boolean) := B
  refine la_aload_n (i := 0) B dX0_isLoan_0 rfl rfl ?_
  refine la_get (i := 4) (ci := 0) (j := 2) (C := RX0) (T := TX0) (N := 6) B (lh_nc_lt (by decide)) rfl ix_0 rfl (by decide) wd_138 rfl rfl dX0_isLoan_1 ?_
  refine la_iload_n (i := 1) B dX0_isLoan_4 rfl rfl ?_
  refine la_iald (i := 17) (v := h 17 n.toNatClampNeg) B (lh_nc_lt (by decide)) rfl hb rfl dX0_isLoan_5 ?_
  refine la_bipush (v := -4) B dX0_isLoan_6 (by decide) ?_
  refine la_icmp_ne (tgt := 15) B dX0_isLoan_8 (by decide) (fun c8 => ?_) (fun c8 => ?_)
  · refine la_iconst (v := 0) B dX0_isLoan_15 (by decide) ?_
    exact la_zreturn B rfl (by simp only [fX0_isLoan, if_neg c8]) rfl rfl dX0_isLoan_16
  · refine la_iconst (v := 1) B dX0_isLoan_11 (by decide) ?_
    refine la_goto (tgt := 16) B dX0_isLoan_12 (by decide) ?_
    exact la_zreturn B rfl (by simp only [fX0_isLoan, if_pos c8]) rfl rfl dX0_isLoan_16

def fX0_standsFor (h : lh_HS) (n : Int32) (s : Int32) : Int32 := (if (h 16 n.toNatClampNeg) = s then (if (h 20 n.toNatClampNeg) = 0 then 1 else 0) else 0)
set_option maxHeartbeats 4000000 in
set_option maxRecDepth 100000 in
theorem ct_X0_standsFor {l : Launch} {D : va_G} {ad : Nat → Nat} {bs : Nat} {cI cZ : ClassId} {t9 : Nat} {k : Bool} (h : lh_HS) (n : Int32) (s : Int32) (hb : vp_in n 30) : lh_CTi l D ad bs cI cZ t9 k yX0_standsFor cX0_standsFor 3 (some .boolean) 0 [.ref (ad 4), .int n, .int s] h (fX0_standsFor h n s) h := by
  refine lh_ofi (lv := [(0, .ref (ad 4)), (1, .int n), (2, .int s)]) (by decide) (Nat.le_of_ble_eq_true rfl) rfl (by simp [Value.category]) ⟨rfl, rfl, rfl, trivial⟩ ?_
  intro p e s m args below meth c B
  have B : lh_BK p (lh_rm 0) s m args meth c D ad bs cI cZ t9 k "LightHours$Bookings" cX0_standsFor 3 (some .boolean) := B
  refine la_aload_n (i := 0) B dX0_standsFor_0 rfl rfl ?_
  refine la_get (i := 4) (ci := 0) (j := 1) (C := RX0) (T := TX0) (N := 6) B (lh_nc_lt (by decide)) rfl ix_0 rfl (by decide) wd_136 rfl rfl dX0_standsFor_1 ?_
  refine la_iload_n (i := 1) B dX0_standsFor_4 rfl rfl ?_
  refine la_iald (i := 16) (v := h 16 n.toNatClampNeg) B (lh_nc_lt (by decide)) rfl hb rfl dX0_standsFor_5 ?_
  refine la_iload_n (i := 2) B dX0_standsFor_6 rfl rfl ?_
  refine la_icmp_ne (tgt := 23) B dX0_standsFor_7 (by decide) (fun c7 => ?_) (fun c7 => ?_)
  · refine la_iconst (v := 0) B dX0_standsFor_23 (by decide) ?_
    exact la_zreturn B rfl (by simp only [fX0_standsFor, if_neg c7]) rfl rfl dX0_standsFor_24
  · refine la_aload_n (i := 0) B dX0_standsFor_10 rfl rfl ?_
    refine la_get (i := 4) (ci := 0) (j := 5) (C := RX0) (T := TX0) (N := 6) B (lh_nc_lt (by decide)) rfl ix_0 rfl (by decide) wd_147 rfl rfl dX0_standsFor_11 ?_
    refine la_iload_n (i := 1) B dX0_standsFor_14 rfl rfl ?_
    refine la_zald (i := 20) (v := h 20 n.toNatClampNeg) B (lh_nc_lt (by decide)) rfl hb rfl dX0_standsFor_15 ?_
    refine la_if_ne (tgt := 23) B dX0_standsFor_16 (by decide) (fun c16 => ?_) (fun c16 => ?_)
    · refine la_iconst (v := 0) B dX0_standsFor_23 (by decide) ?_
      exact la_zreturn B rfl (by simp only [fX0_standsFor, if_pos c7, if_neg c16]) rfl rfl dX0_standsFor_24
    · refine la_iconst (v := 1) B dX0_standsFor_19 (by decide) ?_
      refine la_goto (tgt := 24) B dX0_standsFor_20 (by decide) ?_
      exact la_zreturn B rfl (by simp only [fX0_standsFor, if_pos c7, if_pos c16]) rfl rfl dX0_standsFor_24

def fX5_hasTheme (h : lh_HS) (n : Int32) (t : Int32) : Int32 := (if (((h 10 n.toNatClampNeg) >>> (t &&& 31)) &&& 1) = 1 then 1 else 0)
set_option maxHeartbeats 4000000 in
set_option maxRecDepth 100000 in
theorem ct_X5_hasTheme {l : Launch} {D : va_G} {ad : Nat → Nat} {bs : Nat} {cI cZ : ClassId} {t9 : Nat} {k : Bool} (h : lh_HS) (n : Int32) (t : Int32) (hb : vp_in n 8) : lh_CTi l D ad bs cI cZ t9 k yX5_hasTheme cX5_hasTheme 3 (some .boolean) 0 [.ref (ad 3), .int n, .int t] h (fX5_hasTheme h n t) h := by
  refine lh_ofi (lv := [(0, .ref (ad 3)), (1, .int n), (2, .int t)]) (by decide) (Nat.le_of_ble_eq_true rfl) rfl (by simp [Value.category]) ⟨rfl, rfl, rfl, trivial⟩ ?_
  intro p e s m args below meth c B
  have B : lh_BK p (lh_rm 0) s m args meth c D ad bs cI cZ t9 k "LightHours$Sheets" cX5_hasTheme 3 (some .boolean) := B
  refine la_aload_n (i := 0) B dX5_hasTheme_0 rfl rfl ?_
  refine la_get (i := 3) (ci := 5) (j := 2) (C := RX5) (T := TX5) (N := 8) B (lh_nc_lt (by decide)) rfl ix_5 rfl (by decide) wd_93 rfl rfl dX5_hasTheme_1 ?_
  refine la_iload_n (i := 1) B dX5_hasTheme_4 rfl rfl ?_
  refine la_iald (i := 10) (v := h 10 n.toNatClampNeg) B (lh_nc_lt (by decide)) rfl hb rfl dX5_hasTheme_5 ?_
  refine la_iload_n (i := 2) B dX5_hasTheme_6 rfl rfl ?_
  refine la_ishr B dX5_hasTheme_7 ?_
  refine la_iconst (v := 1) B dX5_hasTheme_8 (by decide) ?_
  refine la_iand B dX5_hasTheme_9 ?_
  refine la_iconst (v := 1) B dX5_hasTheme_10 (by decide) ?_
  refine la_icmp_ne (tgt := 18) B dX5_hasTheme_11 (by decide) (fun c11 => ?_) (fun c11 => ?_)
  · refine la_iconst (v := 0) B dX5_hasTheme_18 (by decide) ?_
    exact la_zreturn B rfl (by simp only [fX5_hasTheme, if_neg c11]) rfl rfl dX5_hasTheme_19
  · refine la_iconst (v := 1) B dX5_hasTheme_14 (by decide) ?_
    refine la_goto (tgt := 19) B dX5_hasTheme_15 (by decide) ?_
    exact la_zreturn B rfl (by simp only [fX5_hasTheme, if_pos c11]) rfl rfl dX5_hasTheme_19

def fX3_pastEnd (h : lh_HS) (g : Int32) : Int32 := (if g = 0 then h 27 3 else h 27 4)
set_option maxHeartbeats 4000000 in
set_option maxRecDepth 100000 in
theorem ct_X3_pastEnd {l : Launch} {D : va_G} {ad : Nat → Nat} {bs : Nat} {cI cZ : ClassId} {t9 : Nat} {k : Bool} (h : lh_HS) (g : Int32)  : lh_CTi l D ad bs cI cZ t9 k yX3_pastEnd cX3_pastEnd 2 (some .int) 0 [.ref (ad 27), .int g] h (fX3_pastEnd h g) h := by
  refine lh_ofi (lv := [(0, .ref (ad 27)), (1, .int g)]) (by decide) (Nat.le_of_ble_eq_true rfl) rfl (by simp [Value.category]) ⟨rfl, rfl, trivial⟩ ?_
  intro p e s m args below meth c B
  have B : lh_BK p (lh_rm 0) s m args meth c D ad bs cI cZ t9 k "LightHours$Ledger" cX3_pastEnd 2 (some .int) := B
  refine la_iload_n (i := 1) B dX3_pastEnd_0 rfl rfl ?_
  refine la_if_eq (tgt := 11) B dX3_pastEnd_1 (by decide) (fun c1 => ?_) (fun c1 => ?_)
  · refine la_aload_n (i := 0) B dX3_pastEnd_11 rfl rfl ?_
    refine la_get (i := 27) (ci := 3) (j := 3) (v := .int (h 27 3)) (C := RX3) (T := TX3) (N := 7) B (lh_nc_lt (by decide)) rfl ix_3 rfl (by decide) wd_251 rfl rfl dX3_pastEnd_12 ?_
    exact la_ireturn B rfl (by simp only [fX3_pastEnd, if_pos c1]) rfl dX3_pastEnd_15
  · refine la_aload_n (i := 0) B dX3_pastEnd_4 rfl rfl ?_
    refine la_get (i := 27) (ci := 3) (j := 4) (v := .int (h 27 4)) (C := RX3) (T := TX3) (N := 7) B (lh_nc_lt (by decide)) rfl ix_3 rfl (by decide) wd_252 rfl rfl dX3_pastEnd_5 ?_
    refine la_goto (tgt := 15) B dX3_pastEnd_8 (by decide) ?_
    exact la_ireturn B rfl (by simp only [fX3_pastEnd, if_neg c1]) rfl dX3_pastEnd_15

def fX3_spentEnd (h : lh_HS) (y : Int32) (g : Int32) : Int32 := (if g = 0 then (h 27 3) + (h 28 y.toNatClampNeg) else (h 27 4) + (h 29 y.toNatClampNeg))
set_option maxHeartbeats 4000000 in
set_option maxRecDepth 100000 in
theorem ct_X3_spentEnd {l : Launch} {D : va_G} {ad : Nat → Nat} {bs : Nat} {cI cZ : ClassId} {t9 : Nat} {k : Bool} (h : lh_HS) (y : Int32) (g : Int32) (hb : vp_in y 10) : lh_CTi l D ad bs cI cZ t9 k yX3_spentEnd cX3_spentEnd 3 (some .int) 0 [.ref (ad 27), .int y, .int g] h (fX3_spentEnd h y g) h := by
  refine lh_ofi (lv := [(0, .ref (ad 27)), (1, .int y), (2, .int g)]) (by decide) (Nat.le_of_ble_eq_true rfl) rfl (by simp [Value.category]) ⟨rfl, rfl, rfl, trivial⟩ ?_
  intro p e s m args below meth c B
  have B : lh_BK p (lh_rm 0) s m args meth c D ad bs cI cZ t9 k "LightHours$Ledger" cX3_spentEnd 3 (some .int) := B
  refine la_iload_n (i := 2) B dX3_spentEnd_0 rfl rfl ?_
  refine la_if_eq (tgt := 18) B dX3_spentEnd_1 (by decide) (fun c1 => ?_) (fun c1 => ?_)
  · refine la_aload_n (i := 0) B dX3_spentEnd_18 rfl rfl ?_
    refine la_get (i := 27) (ci := 3) (j := 3) (v := .int (h 27 3)) (C := RX3) (T := TX3) (N := 7) B (lh_nc_lt (by decide)) rfl ix_3 rfl (by decide) wd_251 rfl rfl dX3_spentEnd_19 ?_
    refine la_aload_n (i := 0) B dX3_spentEnd_22 rfl rfl ?_
    refine la_get (i := 27) (ci := 3) (j := 5) (C := RX3) (T := TX3) (N := 7) B (lh_nc_lt (by decide)) rfl ix_3 rfl (by decide) wd_253 rfl rfl dX3_spentEnd_23 ?_
    refine la_iload_n (i := 1) B dX3_spentEnd_26 rfl rfl ?_
    refine la_iald (i := 28) (v := h 28 y.toNatClampNeg) B (lh_nc_lt (by decide)) rfl hb rfl dX3_spentEnd_27 ?_
    refine la_iadd B dX3_spentEnd_28 ?_
    exact la_ireturn B rfl (by simp only [fX3_spentEnd, if_pos c1]) rfl dX3_spentEnd_29
  · refine la_aload_n (i := 0) B dX3_spentEnd_4 rfl rfl ?_
    refine la_get (i := 27) (ci := 3) (j := 4) (v := .int (h 27 4)) (C := RX3) (T := TX3) (N := 7) B (lh_nc_lt (by decide)) rfl ix_3 rfl (by decide) wd_252 rfl rfl dX3_spentEnd_5 ?_
    refine la_aload_n (i := 0) B dX3_spentEnd_8 rfl rfl ?_
    refine la_get (i := 27) (ci := 3) (j := 6) (C := RX3) (T := TX3) (N := 7) B (lh_nc_lt (by decide)) rfl ix_3 rfl (by decide) wd_254 rfl rfl dX3_spentEnd_9 ?_
    refine la_iload_n (i := 1) B dX3_spentEnd_12 rfl rfl ?_
    refine la_iald (i := 29) (v := h 29 y.toNatClampNeg) B (lh_nc_lt (by decide)) rfl hb rfl dX3_spentEnd_13 ?_
    refine la_iadd B dX3_spentEnd_14 ?_
    refine la_goto (tgt := 29) B dX3_spentEnd_15 (by decide) ?_
    exact la_ireturn B rfl (by simp only [fX3_spentEnd, if_neg c1]) rfl dX3_spentEnd_29

def fX3_leftEnd (h : lh_HS) (g : Int32) : Int32 := (if g = 0 then (h 9 (h 27 1).toNatClampNeg) - (fX3_spentEnd h 9 1) else (h 9 (h 27 1).toNatClampNeg) - (fX3_spentEnd h 9 0))
set_option maxHeartbeats 4000000 in
set_option maxRecDepth 100000 in
theorem ct_X3_leftEnd {l : Launch} {D : va_G} {ad : Nat → Nat} {bs : Nat} {cI cZ : ClassId} {t9 : Nat} {k : Bool} (h : lh_HS) (g : Int32) (hb : vp_in (h 27 1) 8) : lh_CTi l D ad bs cI cZ t9 k yX3_leftEnd cX3_leftEnd 2 (some .int) 1 [.ref (ad 27), .int g] h (fX3_leftEnd h g) h := by
  refine lh_ofi (lv := [(0, .ref (ad 27)), (1, .int g)]) (by decide) (Nat.le_of_ble_eq_true rfl) rfl (by simp [Value.category]) ⟨rfl, rfl, trivial⟩ ?_
  intro p e s m args below meth c B
  have B : lh_BK p (lh_rm 1) s m args meth c D ad bs cI cZ t9 k "LightHours$Ledger" cX3_leftEnd 2 (some .int) := B
  refine la_aload_n (i := 0) B dX3_leftEnd_0 rfl rfl ?_
  refine la_get (i := 27) (ci := 3) (j := 0) (C := RX3) (T := TX3) (N := 7) B (lh_nc_lt (by decide)) rfl ix_3 rfl (by decide) wd_247 rfl rfl dX3_leftEnd_1 ?_
  refine la_get (i := 1) (ci := 2) (j := 1) (C := RX2) (T := TX2) (N := 5) B (lh_nc_lt (by decide)) rfl ix_2 rfl (by decide) wd_217 rfl rfl dX3_leftEnd_4 ?_
  refine la_get (i := 3) (ci := 5) (j := 1) (C := RX5) (T := TX5) (N := 8) B (lh_nc_lt (by decide)) rfl ix_5 rfl (by decide) wd_91 rfl rfl dX3_leftEnd_7 ?_
  refine la_aload_n (i := 0) B dX3_leftEnd_10 rfl rfl ?_
  refine la_get (i := 27) (ci := 3) (j := 1) (v := .int (h 27 1)) (C := RX3) (T := TX3) (N := 7) B (lh_nc_lt (by decide)) rfl ix_3 rfl (by decide) wd_248 rfl rfl dX3_leftEnd_11 ?_
  refine la_iald (i := 9) (v := h 9 (h 27 1).toNatClampNeg) B (lh_nc_lt (by decide)) rfl hb rfl dX3_leftEnd_14 ?_
  refine la_aload_n (i := 0) B dX3_leftEnd_15 rfl rfl ?_
  refine la_bipush (v := 9) B dX3_leftEnd_16 (by decide) ?_
  refine la_iload_n (i := 1) B dX3_leftEnd_18 rfl rfl ?_
  refine la_if_ne (tgt := 26) B dX3_leftEnd_19 (by decide) (fun c19 => ?_) (fun c19 => ?_)
  · refine la_iconst (v := 0) B dX3_leftEnd_26 (by decide) ?_
    refine la_callVi (i := 27) B (ct_X3_spentEnd h 9 0 (by unfold vp_in; decide)) lk_X3_104 (by decide) (lh_nc_lt (by decide)) rfl rfl rfl (by simp [Value.category]) dX3_leftEnd_27 ?_
    refine la_isub B dX3_leftEnd_30 ?_
    exact la_ireturn B rfl (by simp only [fX3_leftEnd, if_neg c19]) rfl dX3_leftEnd_31
  · refine la_iconst (v := 1) B dX3_leftEnd_22 (by decide) ?_
    refine la_goto (tgt := 27) B dX3_leftEnd_23 (by decide) ?_
    refine la_callVi (i := 27) B (ct_X3_spentEnd h 9 1 (by unfold vp_in; decide)) lk_X3_104 (by decide) (lh_nc_lt (by decide)) rfl rfl rfl (by simp [Value.category]) dX3_leftEnd_27 ?_
    refine la_isub B dX3_leftEnd_30 ?_
    exact la_ireturn B rfl (by simp only [fX3_leftEnd, if_pos c19]) rfl dX3_leftEnd_31

def fX2_spendEnd (h : lh_HS) (b : Int32) (g : Int32) : Int32 := (if (fX0_isLoan h b) = 0 then fX4_lightEnd h (h 17 b.toNatClampNeg) (h 18 b.toNatClampNeg) g else h 19 b.toNatClampNeg)
set_option maxHeartbeats 4000000 in
set_option maxRecDepth 100000 in
theorem ct_X2_spendEnd {l : Launch} {D : va_G} {ad : Nat → Nat} {bs : Nat} {cI cZ : ClassId} {t9 : Nat} {k : Bool} (h : lh_HS) (b : Int32) (g : Int32) (hb : vp_in b 30) (h1 : fX0_isLoan h b = 0 → vp_in (h 17 b.toNatClampNeg * 10 + h 18 b.toNatClampNeg) 40) (h2 : fX0_isLoan h b = 0 → vp_in (h 17 b.toNatClampNeg) 4) : lh_CTi l D ad bs cI cZ t9 k yX2_spendEnd cX2_spendEnd 3 (some .int) 1 [.ref (ad 1), .int b, .int g] h (fX2_spendEnd h b g) h := by
  refine lh_ofi (lv := [(0, .ref (ad 1)), (1, .int b), (2, .int g)]) (by decide) (Nat.le_of_ble_eq_true rfl) rfl (by simp [Value.category]) ⟨rfl, rfl, rfl, trivial⟩ ?_
  intro p e s m args below meth c B
  have B : lh_BK p (lh_rm 1) s m args meth c D ad bs cI cZ t9 k "LightHours$House" cX2_spendEnd 3 (some .int) := B
  refine la_aload_n (i := 0) B dX2_spendEnd_0 rfl rfl ?_
  refine la_get (i := 1) (ci := 2) (j := 2) (C := RX2) (T := TX2) (N := 5) B (lh_nc_lt (by decide)) rfl ix_2 rfl (by decide) wd_220 rfl rfl dX2_spendEnd_1 ?_
  refine la_iload_n (i := 1) B dX2_spendEnd_4 rfl rfl ?_
  refine la_callVi (i := 4) B (ct_X0_isLoan h b hb) lk_X2_44 (by decide) (lh_nc_lt (by decide)) rfl rfl rfl (by simp [Value.category]) dX2_spendEnd_5 ?_
  refine la_if_eq (tgt := 21) B dX2_spendEnd_8 (by decide) (fun c8 => ?_) (fun c8 => ?_)
  · refine la_aload_n (i := 0) B dX2_spendEnd_21 rfl rfl ?_
    refine la_get (i := 1) (ci := 2) (j := 0) (C := RX2) (T := TX2) (N := 5) B (lh_nc_lt (by decide)) rfl ix_2 rfl (by decide) wd_213 rfl rfl dX2_spendEnd_22 ?_
    refine la_aload_n (i := 0) B dX2_spendEnd_25 rfl rfl ?_
    refine la_get (i := 1) (ci := 2) (j := 2) (C := RX2) (T := TX2) (N := 5) B (lh_nc_lt (by decide)) rfl ix_2 rfl (by decide) wd_220 rfl rfl dX2_spendEnd_26 ?_
    refine la_get (i := 4) (ci := 0) (j := 2) (C := RX0) (T := TX0) (N := 6) B (lh_nc_lt (by decide)) rfl ix_0 rfl (by decide) wd_139 rfl rfl dX2_spendEnd_29 ?_
    refine la_iload_n (i := 1) B dX2_spendEnd_32 rfl rfl ?_
    refine la_iald (i := 17) (v := h 17 b.toNatClampNeg) B (lh_nc_lt (by decide)) rfl hb rfl dX2_spendEnd_33 ?_
    refine la_aload_n (i := 0) B dX2_spendEnd_34 rfl rfl ?_
    refine la_get (i := 1) (ci := 2) (j := 2) (C := RX2) (T := TX2) (N := 5) B (lh_nc_lt (by decide)) rfl ix_2 rfl (by decide) wd_220 rfl rfl dX2_spendEnd_35 ?_
    refine la_get (i := 4) (ci := 0) (j := 3) (C := RX0) (T := TX0) (N := 6) B (lh_nc_lt (by decide)) rfl ix_0 rfl (by decide) wd_142 rfl rfl dX2_spendEnd_38 ?_
    refine la_iload_n (i := 1) B dX2_spendEnd_41 rfl rfl ?_
    refine la_iald (i := 18) (v := h 18 b.toNatClampNeg) B (lh_nc_lt (by decide)) rfl hb rfl dX2_spendEnd_42 ?_
    refine la_iload_n (i := 2) B dX2_spendEnd_43 rfl rfl ?_
    refine la_callVi (i := 2) B (ct_X4_lightEnd h (h 17 b.toNatClampNeg) (h 18 b.toNatClampNeg) g (h1 c8) (h2 c8)) lk_X2_58 (by decide) (lh_nc_lt (by decide)) rfl rfl rfl (by simp [Value.category]) dX2_spendEnd_44 ?_
    exact la_ireturn B rfl (by simp only [fX2_spendEnd, if_pos c8]) rfl dX2_spendEnd_47
  · refine la_aload_n (i := 0) B dX2_spendEnd_11 rfl rfl ?_
    refine la_get (i := 1) (ci := 2) (j := 2) (C := RX2) (T := TX2) (N := 5) B (lh_nc_lt (by decide)) rfl ix_2 rfl (by decide) wd_220 rfl rfl dX2_spendEnd_12 ?_
    refine la_get (i := 4) (ci := 0) (j := 4) (C := RX0) (T := TX0) (N := 6) B (lh_nc_lt (by decide)) rfl ix_0 rfl (by decide) wd_146 rfl rfl dX2_spendEnd_15 ?_
    refine la_iload_n (i := 1) B dX2_spendEnd_18 rfl rfl ?_
    refine la_iald (i := 19) (v := h 19 b.toNatClampNeg) B (lh_nc_lt (by decide)) rfl hb rfl dX2_spendEnd_19 ?_
    exact la_ireturn B rfl (by simp only [fX2_spendEnd, if_neg c8]) rfl dX2_spendEnd_20

def gX1_forget (h : lh_HS)  : lh_HS := lh_up h 30 2 0
set_option maxHeartbeats 4000000 in
set_option maxRecDepth 100000 in
theorem ct_X1_forget {l : Launch} {D : va_G} {ad : Nat → Nat} {bs : Nat} {cI cZ : ClassId} {t9 : Nat} {k : Bool} (h : lh_HS)   : lh_CTv l D ad bs cI cZ t9 k yX1_forget cX1_forget 1 0 [.ref (ad 30)] h (gX1_forget h ) := by
  refine lh_ofv (lv := [(0, .ref (ad 30))]) (by decide) (Nat.le_of_ble_eq_true rfl) rfl (by simp [Value.category]) ⟨rfl, trivial⟩ ?_
  intro p e s m args below meth c B
  have B : lh_BK p (lh_rm 0) s m args meth c D ad bs cI cZ t9 k "LightHours$Hanging" cX1_forget 1 none := B
  refine la_aload_n (i := 0) B dX1_forget_0 rfl rfl ?_
  refine la_iconst (v := 0) B dX1_forget_1 (by decide) ?_
  refine la_put (i := 30) (ci := 1) (j := 2) (C := RX1) (T := TX1) (N := 10) (ty0 := tyX1) B (lh_nc_lt (by decide)) rfl rfl ix_1 tyX1_ok nmX1 rfl (by decide) wd_278 rfl rfl rfl rfl rfl (Nat.le_of_ble_eq_true rfl) dX1_forget_2 ?_
  exact la_return B rfl (by simp only [gX1_forget]) dX1_forget_5

def fX8_changed (h : lh_HS) (a : Int32) : Int32 := a
def gX8_changed (h : lh_HS) (a : Int32) : lh_HS := gX1_forget h 
set_option maxHeartbeats 4000000 in
set_option maxRecDepth 100000 in
theorem ct_X8_changed {l : Launch} {D : va_G} {ad : Nat → Nat} {bs : Nat} {cI cZ : ClassId} {t9 : Nat} {k : Bool} (h : lh_HS) (a : Int32)  : lh_CTi l D ad bs cI cZ t9 k yX8_changed cX8_changed 2 (some .int) 1 [.ref (ad 0), .int a] h (fX8_changed h a) (gX8_changed h a) := by
  refine lh_ofi (lv := [(0, .ref (ad 0)), (1, .int a)]) (by decide) (Nat.le_of_ble_eq_true rfl) rfl (by simp [Value.category]) ⟨rfl, rfl, trivial⟩ ?_
  intro p e s m args below meth c B
  have B : lh_BK p (lh_rm 1) s m args meth c D ad bs cI cZ t9 k "LightHours" cX8_changed 2 (some .int) := B
  refine la_aload_n (i := 0) B dX8_changed_0 rfl rfl ?_
  refine la_get (i := 0) (ci := 8) (j := 2) (C := RX8) (T := TX8) (N := 4) B (lh_nc_lt (by decide)) rfl ix_8 rfl (by decide) wd_311 rfl rfl dX8_changed_1 ?_
  refine la_callVv (i := 30) B (ct_X1_forget h ) lk_X8_230 (by decide) (lh_nc_lt (by decide)) rfl rfl rfl (by simp [Value.category]) dX8_changed_4 ?_
  refine la_iload_n (i := 1) B dX8_changed_7 rfl rfl ?_
  exact la_ireturn B rfl (by simp only [fX8_changed]) (by simp only [gX8_changed]) dX8_changed_8

def fX0_add (h : lh_HS) (a : Int32) (b : Int32) (y : Int32) (z : Int32) : Int32 := (if (h 4 0) < 30 then ((h 4 0) + 1) - 1 else (-2))
def gX0_add (h : lh_HS) (a : Int32) (b : Int32) (y : Int32) (z : Int32) : lh_HS := (if (h 4 0) < 30 then lh_up (lh_up (lh_up (lh_up (lh_up (lh_up h 16 ((h 4 0).toNatClampNeg) a) 17 ((h 4 0).toNatClampNeg) b) 18 ((h 4 0).toNatClampNeg) y) 19 ((h 4 0).toNatClampNeg) z) 20 ((h 4 0).toNatClampNeg) 0) 4 0 ((h 4 0) + 1) else h)
set_option maxHeartbeats 4000000 in
set_option maxRecDepth 100000 in
theorem ct_X0_add {l : Launch} {D : va_G} {ad : Nat → Nat} {bs : Nat} {cI cZ : ClassId} {t9 : Nat} {k : Bool} (h : lh_HS) (a : Int32) (b : Int32) (y : Int32) (z : Int32) (hb : vp_in (h 4 0) 30) : lh_CTi l D ad bs cI cZ t9 k yX0_add cX0_add 5 (some .int) 0 [.ref (ad 4), .int a, .int b, .int y, .int z] h (fX0_add h a b y z) (gX0_add h a b y z) := by
  refine lh_ofi (lv := [(0, .ref (ad 4)), (1, .int a), (2, .int b), (3, .int y), (4, .int z)]) (by decide) (Nat.le_of_ble_eq_true rfl) rfl (by simp [Value.category]) ⟨rfl, rfl, rfl, rfl, rfl, trivial⟩ ?_
  intro p e s m args below meth c B
  have B : lh_BK p (lh_rm 0) s m args meth c D ad bs cI cZ t9 k "LightHours$Bookings" cX0_add 5 (some .int) := B
  refine la_aload_n (i := 0) B dX0_add_0 rfl rfl ?_
  refine la_get (i := 4) (ci := 0) (j := 0) (v := .int (h 4 0)) (C := RX0) (T := TX0) (N := 6) B (lh_nc_lt (by decide)) rfl ix_0 rfl (by decide) wd_133 rfl rfl dX0_add_1 ?_
  refine la_bipush (v := 30) B dX0_add_4 (by decide) ?_
  refine la_icmp_lt (tgt := 12) B dX0_add_6 (by decide) (fun c6 => ?_) (fun c6 => ?_)
  · refine la_aload_n (i := 0) B dX0_add_12 rfl rfl ?_
    refine la_get (i := 4) (ci := 0) (j := 1) (C := RX0) (T := TX0) (N := 6) B (lh_nc_lt (by decide)) rfl ix_0 rfl (by decide) wd_136 rfl rfl dX0_add_13 ?_
    refine la_aload_n (i := 0) B dX0_add_16 rfl rfl ?_
    refine la_get (i := 4) (ci := 0) (j := 0) (v := .int (h 4 0)) (C := RX0) (T := TX0) (N := 6) B (lh_nc_lt (by decide)) rfl ix_0 rfl (by decide) wd_133 rfl rfl dX0_add_17 ?_
    refine la_iload_n (i := 1) B dX0_add_20 rfl rfl ?_
    refine la_iast (i := 16) B (lh_nc_lt (by decide)) rfl rfl hb dX0_add_21 ?_
    refine la_aload_n (i := 0) B dX0_add_22 rfl rfl ?_
    refine la_get (i := 4) (ci := 0) (j := 2) (C := RX0) (T := TX0) (N := 6) B (lh_nc_lt (by decide)) rfl ix_0 rfl (by decide) wd_138 rfl rfl dX0_add_23 ?_
    refine la_aload_n (i := 0) B dX0_add_26 rfl rfl ?_
    refine la_get (i := 4) (ci := 0) (j := 0) (v := .int (h 4 0)) (C := RX0) (T := TX0) (N := 6) B (lh_nc_lt (by decide)) rfl ix_0 rfl (by decide) wd_133 rfl rfl dX0_add_27 ?_
    refine la_iload_n (i := 2) B dX0_add_30 rfl rfl ?_
    refine la_iast (i := 17) B (lh_nc_lt (by decide)) rfl rfl hb dX0_add_31 ?_
    refine la_aload_n (i := 0) B dX0_add_32 rfl rfl ?_
    refine la_get (i := 4) (ci := 0) (j := 3) (C := RX0) (T := TX0) (N := 6) B (lh_nc_lt (by decide)) rfl ix_0 rfl (by decide) wd_141 rfl rfl dX0_add_33 ?_
    refine la_aload_n (i := 0) B dX0_add_36 rfl rfl ?_
    refine la_get (i := 4) (ci := 0) (j := 0) (v := .int (h 4 0)) (C := RX0) (T := TX0) (N := 6) B (lh_nc_lt (by decide)) rfl ix_0 rfl (by decide) wd_133 rfl rfl dX0_add_37 ?_
    refine la_iload_n (i := 3) B dX0_add_40 rfl rfl ?_
    refine la_iast (i := 18) B (lh_nc_lt (by decide)) rfl rfl hb dX0_add_41 ?_
    refine la_aload_n (i := 0) B dX0_add_42 rfl rfl ?_
    refine la_get (i := 4) (ci := 0) (j := 4) (C := RX0) (T := TX0) (N := 6) B (lh_nc_lt (by decide)) rfl ix_0 rfl (by decide) wd_145 rfl rfl dX0_add_43 ?_
    refine la_aload_n (i := 0) B dX0_add_46 rfl rfl ?_
    refine la_get (i := 4) (ci := 0) (j := 0) (v := .int (h 4 0)) (C := RX0) (T := TX0) (N := 6) B (lh_nc_lt (by decide)) rfl ix_0 rfl (by decide) wd_133 rfl rfl dX0_add_47 ?_
    refine la_iload B dX0_add_50 rfl ?_
    refine la_iast (i := 19) B (lh_nc_lt (by decide)) rfl rfl hb dX0_add_52 ?_
    refine la_aload_n (i := 0) B dX0_add_53 rfl rfl ?_
    refine la_get (i := 4) (ci := 0) (j := 5) (C := RX0) (T := TX0) (N := 6) B (lh_nc_lt (by decide)) rfl ix_0 rfl (by decide) wd_147 rfl rfl dX0_add_54 ?_
    refine la_aload_n (i := 0) B dX0_add_57 rfl rfl ?_
    refine la_get (i := 4) (ci := 0) (j := 0) (v := .int (h 4 0)) (C := RX0) (T := TX0) (N := 6) B (lh_nc_lt (by decide)) rfl ix_0 rfl (by decide) wd_133 rfl rfl dX0_add_58 ?_
    refine la_iconst (v := 0) B dX0_add_61 (by decide) ?_
    refine la_zast (i := 20) B (lh_nc_lt (by decide)) rfl rfl hb rfl dX0_add_62 ?_
    refine la_aload_n (i := 0) B dX0_add_63 rfl rfl ?_
    refine la_dup B dX0_add_64 rfl ?_
    refine la_get (i := 4) (ci := 0) (j := 0) (v := .int (h 4 0)) (C := RX0) (T := TX0) (N := 6) B (lh_nc_lt (by decide)) rfl ix_0 rfl (by decide) wd_133 rfl rfl dX0_add_65 ?_
    refine la_iconst (v := 1) B dX0_add_68 (by decide) ?_
    refine la_iadd B dX0_add_69 ?_
    refine la_put (i := 4) (ci := 0) (j := 0) (C := RX0) (T := TX0) (N := 6) (ty0 := tyX0) B (lh_nc_lt (by decide)) rfl rfl ix_0 tyX0_ok nmX0 rfl (by decide) wd_133 rfl rfl rfl rfl rfl (Nat.le_of_ble_eq_true rfl) dX0_add_70 ?_
    refine la_aload_n (i := 0) B dX0_add_73 rfl rfl ?_
    refine la_get (i := 4) (ci := 0) (j := 0) (v := .int ((h 4 0) + 1)) (C := RX0) (T := TX0) (N := 6) B (lh_nc_lt (by decide)) rfl ix_0 rfl (by decide) wd_133 rfl rfl dX0_add_74 ?_
    refine la_iconst (v := 1) B dX0_add_77 (by decide) ?_
    refine la_isub B dX0_add_78 ?_
    exact la_ireturn B rfl (by simp only [fX0_add, if_pos c6]) (by simp only [gX0_add, if_pos c6]) dX0_add_79
  · refine la_bipush (v := -2) B dX0_add_9 (by decide) ?_
    exact la_ireturn B rfl (by simp only [fX0_add, if_neg c6]) (by simp only [gX0_add, if_neg c6]) dX0_add_11

def fX0_addShow (h : lh_HS) (a : Int32) (b : Int32) (y : Int32) : Int32 := fX0_add h a b y 0
def gX0_addShow (h : lh_HS) (a : Int32) (b : Int32) (y : Int32) : lh_HS := gX0_add h a b y 0
set_option maxHeartbeats 4000000 in
set_option maxRecDepth 100000 in
theorem ct_X0_addShow {l : Launch} {D : va_G} {ad : Nat → Nat} {bs : Nat} {cI cZ : ClassId} {t9 : Nat} {k : Bool} (h : lh_HS) (a : Int32) (b : Int32) (y : Int32) (hb : vp_in (h 4 0) 30) : lh_CTi l D ad bs cI cZ t9 k yX0_addShow cX0_addShow 4 (some .int) 1 [.ref (ad 4), .int a, .int b, .int y] h (fX0_addShow h a b y) (gX0_addShow h a b y) := by
  refine lh_ofi (lv := [(0, .ref (ad 4)), (1, .int a), (2, .int b), (3, .int y)]) (by decide) (Nat.le_of_ble_eq_true rfl) rfl (by simp [Value.category]) ⟨rfl, rfl, rfl, rfl, trivial⟩ ?_
  intro p e s m args below meth c B
  have B : lh_BK p (lh_rm 1) s m args meth c D ad bs cI cZ t9 k "LightHours$Bookings" cX0_addShow 4 (some .int) := B
  refine la_aload_n (i := 0) B dX0_addShow_0 rfl rfl ?_
  refine la_iload_n (i := 1) B dX0_addShow_1 rfl rfl ?_
  refine la_iload_n (i := 2) B dX0_addShow_2 rfl rfl ?_
  refine la_iload_n (i := 3) B dX0_addShow_3 rfl rfl ?_
  refine la_iconst (v := 0) B dX0_addShow_4 (by decide) ?_
  refine la_callVi (i := 4) B (ct_X0_add h a b y 0 hb) lk_X0_32 (by decide) (lh_nc_lt (by decide)) rfl rfl rfl (by simp [Value.category]) dX0_addShow_5 ?_
  exact la_ireturn B rfl (by simp only [fX0_addShow]) (by simp only [gX0_addShow]) dX0_addShow_8

def fX0_addLoan (h : lh_HS) (a : Int32) (b : Int32) (y : Int32) : Int32 := fX0_add h a ((-4)) b y
def gX0_addLoan (h : lh_HS) (a : Int32) (b : Int32) (y : Int32) : lh_HS := gX0_add h a ((-4)) b y
set_option maxHeartbeats 4000000 in
set_option maxRecDepth 100000 in
theorem ct_X0_addLoan {l : Launch} {D : va_G} {ad : Nat → Nat} {bs : Nat} {cI cZ : ClassId} {t9 : Nat} {k : Bool} (h : lh_HS) (a : Int32) (b : Int32) (y : Int32) (hb : vp_in (h 4 0) 30) : lh_CTi l D ad bs cI cZ t9 k yX0_addLoan cX0_addLoan 4 (some .int) 1 [.ref (ad 4), .int a, .int b, .int y] h (fX0_addLoan h a b y) (gX0_addLoan h a b y) := by
  refine lh_ofi (lv := [(0, .ref (ad 4)), (1, .int a), (2, .int b), (3, .int y)]) (by decide) (Nat.le_of_ble_eq_true rfl) rfl (by simp [Value.category]) ⟨rfl, rfl, rfl, rfl, trivial⟩ ?_
  intro p e s m args below meth c B
  have B : lh_BK p (lh_rm 1) s m args meth c D ad bs cI cZ t9 k "LightHours$Bookings" cX0_addLoan 4 (some .int) := B
  refine la_aload_n (i := 0) B dX0_addLoan_0 rfl rfl ?_
  refine la_iload_n (i := 1) B dX0_addLoan_1 rfl rfl ?_
  refine la_bipush (v := -4) B dX0_addLoan_2 (by decide) ?_
  refine la_iload_n (i := 2) B dX0_addLoan_4 rfl rfl ?_
  refine la_iload_n (i := 3) B dX0_addLoan_5 rfl rfl ?_
  refine la_callVi (i := 4) B (ct_X0_add h a ((-4)) b y hb) lk_X0_32 (by decide) (lh_nc_lt (by decide)) rfl rfl rfl (by simp [Value.category]) dX0_addLoan_6 ?_
  exact la_ireturn B rfl (by simp only [fX0_addLoan]) (by simp only [gX0_addLoan]) dX0_addLoan_9

def fX6_add (h : lh_HS) (a : Int32) (b : Int32) (y : Int32) : Int32 := (if (h 5 0) < 12 then ((h 5 0) + 1) - 1 else (-2))
def gX6_add (h : lh_HS) (a : Int32) (b : Int32) (y : Int32) : lh_HS := (if (h 5 0) < 12 then lh_up (lh_up (lh_up (lh_up h 21 ((h 5 0).toNatClampNeg) a) 22 ((h 5 0).toNatClampNeg) b) 23 ((h 5 0).toNatClampNeg) y) 5 0 ((h 5 0) + 1) else h)
set_option maxHeartbeats 4000000 in
set_option maxRecDepth 100000 in
theorem ct_X6_add {l : Launch} {D : va_G} {ad : Nat → Nat} {bs : Nat} {cI cZ : ClassId} {t9 : Nat} {k : Bool} (h : lh_HS) (a : Int32) (b : Int32) (y : Int32) (hb : vp_in (h 5 0) 12) : lh_CTi l D ad bs cI cZ t9 k yX6_add cX6_add 4 (some .int) 0 [.ref (ad 5), .int a, .int b, .int y] h (fX6_add h a b y) (gX6_add h a b y) := by
  refine lh_ofi (lv := [(0, .ref (ad 5)), (1, .int a), (2, .int b), (3, .int y)]) (by decide) (Nat.le_of_ble_eq_true rfl) rfl (by simp [Value.category]) ⟨rfl, rfl, rfl, rfl, trivial⟩ ?_
  intro p e s m args below meth c B
  have B : lh_BK p (lh_rm 0) s m args meth c D ad bs cI cZ t9 k "LightHours$Threads" cX6_add 4 (some .int) := B
  refine la_aload_n (i := 0) B dX6_add_0 rfl rfl ?_
  refine la_get (i := 5) (ci := 6) (j := 0) (v := .int (h 5 0)) (C := RX6) (T := TX6) (N := 4) B (lh_nc_lt (by decide)) rfl ix_6 rfl (by decide) wd_169 rfl rfl dX6_add_1 ?_
  refine la_bipush (v := 12) B dX6_add_4 (by decide) ?_
  refine la_icmp_lt (tgt := 12) B dX6_add_6 (by decide) (fun c6 => ?_) (fun c6 => ?_)
  · refine la_aload_n (i := 0) B dX6_add_12 rfl rfl ?_
    refine la_get (i := 5) (ci := 6) (j := 1) (C := RX6) (T := TX6) (N := 4) B (lh_nc_lt (by decide)) rfl ix_6 rfl (by decide) wd_172 rfl rfl dX6_add_13 ?_
    refine la_aload_n (i := 0) B dX6_add_16 rfl rfl ?_
    refine la_get (i := 5) (ci := 6) (j := 0) (v := .int (h 5 0)) (C := RX6) (T := TX6) (N := 4) B (lh_nc_lt (by decide)) rfl ix_6 rfl (by decide) wd_169 rfl rfl dX6_add_17 ?_
    refine la_iload_n (i := 1) B dX6_add_20 rfl rfl ?_
    refine la_iast (i := 21) B (lh_nc_lt (by decide)) rfl rfl hb dX6_add_21 ?_
    refine la_aload_n (i := 0) B dX6_add_22 rfl rfl ?_
    refine la_get (i := 5) (ci := 6) (j := 2) (C := RX6) (T := TX6) (N := 4) B (lh_nc_lt (by decide)) rfl ix_6 rfl (by decide) wd_174 rfl rfl dX6_add_23 ?_
    refine la_aload_n (i := 0) B dX6_add_26 rfl rfl ?_
    refine la_get (i := 5) (ci := 6) (j := 0) (v := .int (h 5 0)) (C := RX6) (T := TX6) (N := 4) B (lh_nc_lt (by decide)) rfl ix_6 rfl (by decide) wd_169 rfl rfl dX6_add_27 ?_
    refine la_iload_n (i := 2) B dX6_add_30 rfl rfl ?_
    refine la_iast (i := 22) B (lh_nc_lt (by decide)) rfl rfl hb dX6_add_31 ?_
    refine la_aload_n (i := 0) B dX6_add_32 rfl rfl ?_
    refine la_get (i := 5) (ci := 6) (j := 3) (C := RX6) (T := TX6) (N := 4) B (lh_nc_lt (by decide)) rfl ix_6 rfl (by decide) wd_176 rfl rfl dX6_add_33 ?_
    refine la_aload_n (i := 0) B dX6_add_36 rfl rfl ?_
    refine la_get (i := 5) (ci := 6) (j := 0) (v := .int (h 5 0)) (C := RX6) (T := TX6) (N := 4) B (lh_nc_lt (by decide)) rfl ix_6 rfl (by decide) wd_169 rfl rfl dX6_add_37 ?_
    refine la_iload_n (i := 3) B dX6_add_40 rfl rfl ?_
    refine la_iast (i := 23) B (lh_nc_lt (by decide)) rfl rfl hb dX6_add_41 ?_
    refine la_aload_n (i := 0) B dX6_add_42 rfl rfl ?_
    refine la_dup B dX6_add_43 rfl ?_
    refine la_get (i := 5) (ci := 6) (j := 0) (v := .int (h 5 0)) (C := RX6) (T := TX6) (N := 4) B (lh_nc_lt (by decide)) rfl ix_6 rfl (by decide) wd_169 rfl rfl dX6_add_44 ?_
    refine la_iconst (v := 1) B dX6_add_47 (by decide) ?_
    refine la_iadd B dX6_add_48 ?_
    refine la_put (i := 5) (ci := 6) (j := 0) (C := RX6) (T := TX6) (N := 4) (ty0 := tyX6) B (lh_nc_lt (by decide)) rfl rfl ix_6 tyX6_ok nmX6 rfl (by decide) wd_169 rfl rfl rfl rfl rfl (Nat.le_of_ble_eq_true rfl) dX6_add_49 ?_
    refine la_aload_n (i := 0) B dX6_add_52 rfl rfl ?_
    refine la_get (i := 5) (ci := 6) (j := 0) (v := .int ((h 5 0) + 1)) (C := RX6) (T := TX6) (N := 4) B (lh_nc_lt (by decide)) rfl ix_6 rfl (by decide) wd_169 rfl rfl dX6_add_53 ?_
    refine la_iconst (v := 1) B dX6_add_56 (by decide) ?_
    refine la_isub B dX6_add_57 ?_
    exact la_ireturn B rfl (by simp only [fX6_add, if_pos c6]) (by simp only [gX6_add, if_pos c6]) dX6_add_58
  · refine la_bipush (v := -2) B dX6_add_9 (by decide) ?_
    exact la_ireturn B rfl (by simp only [fX6_add, if_neg c6]) (by simp only [gX6_add, if_neg c6]) dX6_add_11

def fX7_add (h : lh_HS) (a : Int32) (b : Int32) (y : Int32) : Int32 := (if (h 6 0) < 5 then ((h 6 0) + 1) - 1 else (-2))
def gX7_add (h : lh_HS) (a : Int32) (b : Int32) (y : Int32) : lh_HS := (if (h 6 0) < 5 then lh_up (lh_up (lh_up (lh_up h 24 ((h 6 0).toNatClampNeg) a) 25 ((h 6 0).toNatClampNeg) b) 26 ((h 6 0).toNatClampNeg) y) 6 0 ((h 6 0) + 1) else h)
set_option maxHeartbeats 4000000 in
set_option maxRecDepth 100000 in
theorem ct_X7_add {l : Launch} {D : va_G} {ad : Nat → Nat} {bs : Nat} {cI cZ : ClassId} {t9 : Nat} {k : Bool} (h : lh_HS) (a : Int32) (b : Int32) (y : Int32) (hb : vp_in (h 6 0) 5) : lh_CTi l D ad bs cI cZ t9 k yX7_add cX7_add 4 (some .int) 0 [.ref (ad 6), .int a, .int b, .int y] h (fX7_add h a b y) (gX7_add h a b y) := by
  refine lh_ofi (lv := [(0, .ref (ad 6)), (1, .int a), (2, .int b), (3, .int y)]) (by decide) (Nat.le_of_ble_eq_true rfl) rfl (by simp [Value.category]) ⟨rfl, rfl, rfl, rfl, trivial⟩ ?_
  intro p e s m args below meth c B
  have B : lh_BK p (lh_rm 0) s m args meth c D ad bs cI cZ t9 k "LightHours$Walls" cX7_add 4 (some .int) := B
  refine la_aload_n (i := 0) B dX7_add_0 rfl rfl ?_
  refine la_get (i := 6) (ci := 7) (j := 0) (v := .int (h 6 0)) (C := RX7) (T := TX7) (N := 4) B (lh_nc_lt (by decide)) rfl ix_7 rfl (by decide) wd_193 rfl rfl dX7_add_1 ?_
  refine la_iconst (v := 5) B dX7_add_4 (by decide) ?_
  refine la_icmp_lt (tgt := 11) B dX7_add_5 (by decide) (fun c5 => ?_) (fun c5 => ?_)
  · refine la_aload_n (i := 0) B dX7_add_11 rfl rfl ?_
    refine la_get (i := 6) (ci := 7) (j := 1) (C := RX7) (T := TX7) (N := 4) B (lh_nc_lt (by decide)) rfl ix_7 rfl (by decide) wd_196 rfl rfl dX7_add_12 ?_
    refine la_aload_n (i := 0) B dX7_add_15 rfl rfl ?_
    refine la_get (i := 6) (ci := 7) (j := 0) (v := .int (h 6 0)) (C := RX7) (T := TX7) (N := 4) B (lh_nc_lt (by decide)) rfl ix_7 rfl (by decide) wd_193 rfl rfl dX7_add_16 ?_
    refine la_iload_n (i := 1) B dX7_add_19 rfl rfl ?_
    refine la_iast (i := 24) B (lh_nc_lt (by decide)) rfl rfl hb dX7_add_20 ?_
    refine la_aload_n (i := 0) B dX7_add_21 rfl rfl ?_
    refine la_get (i := 6) (ci := 7) (j := 2) (C := RX7) (T := TX7) (N := 4) B (lh_nc_lt (by decide)) rfl ix_7 rfl (by decide) wd_199 rfl rfl dX7_add_22 ?_
    refine la_aload_n (i := 0) B dX7_add_25 rfl rfl ?_
    refine la_get (i := 6) (ci := 7) (j := 0) (v := .int (h 6 0)) (C := RX7) (T := TX7) (N := 4) B (lh_nc_lt (by decide)) rfl ix_7 rfl (by decide) wd_193 rfl rfl dX7_add_26 ?_
    refine la_iload_n (i := 2) B dX7_add_29 rfl rfl ?_
    refine la_iast (i := 25) B (lh_nc_lt (by decide)) rfl rfl hb dX7_add_30 ?_
    refine la_aload_n (i := 0) B dX7_add_31 rfl rfl ?_
    refine la_get (i := 6) (ci := 7) (j := 3) (C := RX7) (T := TX7) (N := 4) B (lh_nc_lt (by decide)) rfl ix_7 rfl (by decide) wd_202 rfl rfl dX7_add_32 ?_
    refine la_aload_n (i := 0) B dX7_add_35 rfl rfl ?_
    refine la_get (i := 6) (ci := 7) (j := 0) (v := .int (h 6 0)) (C := RX7) (T := TX7) (N := 4) B (lh_nc_lt (by decide)) rfl ix_7 rfl (by decide) wd_193 rfl rfl dX7_add_36 ?_
    refine la_iload_n (i := 3) B dX7_add_39 rfl rfl ?_
    refine la_iast (i := 26) B (lh_nc_lt (by decide)) rfl rfl hb dX7_add_40 ?_
    refine la_aload_n (i := 0) B dX7_add_41 rfl rfl ?_
    refine la_dup B dX7_add_42 rfl ?_
    refine la_get (i := 6) (ci := 7) (j := 0) (v := .int (h 6 0)) (C := RX7) (T := TX7) (N := 4) B (lh_nc_lt (by decide)) rfl ix_7 rfl (by decide) wd_193 rfl rfl dX7_add_43 ?_
    refine la_iconst (v := 1) B dX7_add_46 (by decide) ?_
    refine la_iadd B dX7_add_47 ?_
    refine la_put (i := 6) (ci := 7) (j := 0) (C := RX7) (T := TX7) (N := 4) (ty0 := tyX7) B (lh_nc_lt (by decide)) rfl rfl ix_7 tyX7_ok nmX7 rfl (by decide) wd_193 rfl rfl rfl rfl rfl (Nat.le_of_ble_eq_true rfl) dX7_add_48 ?_
    refine la_aload_n (i := 0) B dX7_add_51 rfl rfl ?_
    refine la_get (i := 6) (ci := 7) (j := 0) (v := .int ((h 6 0) + 1)) (C := RX7) (T := TX7) (N := 4) B (lh_nc_lt (by decide)) rfl ix_7 rfl (by decide) wd_193 rfl rfl dX7_add_52 ?_
    refine la_iconst (v := 1) B dX7_add_55 (by decide) ?_
    refine la_isub B dX7_add_56 ?_
    exact la_ireturn B rfl (by simp only [fX7_add, if_pos c5]) (by simp only [gX7_add, if_pos c5]) dX7_add_57
  · refine la_bipush (v := -2) B dX7_add_8 (by decide) ?_
    exact la_ireturn B rfl (by simp only [fX7_add, if_neg c5]) (by simp only [gX7_add, if_neg c5]) dX7_add_10

def fX5_add (h : lh_HS) (a : Int32) (b : Int32) (y : Int32) (z : Int32) : Int32 := (if (h 3 0) < 8 then ((h 3 0) + 1) - 1 else (-2))
def gX5_add (h : lh_HS) (a : Int32) (b : Int32) (y : Int32) (z : Int32) : lh_HS := (if (h 3 0) < 8 then lh_up (lh_up (lh_up (lh_up (lh_up (lh_up (lh_up (lh_up h 9 ((h 3 0).toNatClampNeg) a) 10 ((h 3 0).toNatClampNeg) b) 11 ((h 3 0).toNatClampNeg) y) 12 ((h 3 0).toNatClampNeg) z) 13 ((h 3 0).toNatClampNeg) (((-4)))) 14 ((h 3 0).toNatClampNeg) 0) 15 ((h 3 0).toNatClampNeg) 0) 3 0 ((h 3 0) + 1) else h)
set_option maxHeartbeats 4000000 in
set_option maxRecDepth 100000 in
theorem ct_X5_add {l : Launch} {D : va_G} {ad : Nat → Nat} {bs : Nat} {cI cZ : ClassId} {t9 : Nat} {k : Bool} (h : lh_HS) (a : Int32) (b : Int32) (y : Int32) (z : Int32) (hb : vp_in (h 3 0) 8) : lh_CTi l D ad bs cI cZ t9 k yX5_add cX5_add 5 (some .int) 0 [.ref (ad 3), .int a, .int b, .int y, .int z] h (fX5_add h a b y z) (gX5_add h a b y z) := by
  refine lh_ofi (lv := [(0, .ref (ad 3)), (1, .int a), (2, .int b), (3, .int y), (4, .int z)]) (by decide) (Nat.le_of_ble_eq_true rfl) rfl (by simp [Value.category]) ⟨rfl, rfl, rfl, rfl, rfl, trivial⟩ ?_
  intro p e s m args below meth c B
  have B : lh_BK p (lh_rm 0) s m args meth c D ad bs cI cZ t9 k "LightHours$Sheets" cX5_add 5 (some .int) := B
  refine la_aload_n (i := 0) B dX5_add_0 rfl rfl ?_
  refine la_get (i := 3) (ci := 5) (j := 0) (v := .int (h 3 0)) (C := RX5) (T := TX5) (N := 8) B (lh_nc_lt (by decide)) rfl ix_5 rfl (by decide) wd_86 rfl rfl dX5_add_1 ?_
  refine la_bipush (v := 8) B dX5_add_4 (by decide) ?_
  refine la_icmp_lt (tgt := 12) B dX5_add_6 (by decide) (fun c6 => ?_) (fun c6 => ?_)
  · refine la_aload_n (i := 0) B dX5_add_12 rfl rfl ?_
    refine la_get (i := 3) (ci := 5) (j := 1) (C := RX5) (T := TX5) (N := 8) B (lh_nc_lt (by decide)) rfl ix_5 rfl (by decide) wd_90 rfl rfl dX5_add_13 ?_
    refine la_aload_n (i := 0) B dX5_add_16 rfl rfl ?_
    refine la_get (i := 3) (ci := 5) (j := 0) (v := .int (h 3 0)) (C := RX5) (T := TX5) (N := 8) B (lh_nc_lt (by decide)) rfl ix_5 rfl (by decide) wd_86 rfl rfl dX5_add_17 ?_
    refine la_iload_n (i := 1) B dX5_add_20 rfl rfl ?_
    refine la_iast (i := 9) B (lh_nc_lt (by decide)) rfl rfl hb dX5_add_21 ?_
    refine la_aload_n (i := 0) B dX5_add_22 rfl rfl ?_
    refine la_get (i := 3) (ci := 5) (j := 2) (C := RX5) (T := TX5) (N := 8) B (lh_nc_lt (by decide)) rfl ix_5 rfl (by decide) wd_93 rfl rfl dX5_add_23 ?_
    refine la_aload_n (i := 0) B dX5_add_26 rfl rfl ?_
    refine la_get (i := 3) (ci := 5) (j := 0) (v := .int (h 3 0)) (C := RX5) (T := TX5) (N := 8) B (lh_nc_lt (by decide)) rfl ix_5 rfl (by decide) wd_86 rfl rfl dX5_add_27 ?_
    refine la_iload_n (i := 2) B dX5_add_30 rfl rfl ?_
    refine la_iast (i := 10) B (lh_nc_lt (by decide)) rfl rfl hb dX5_add_31 ?_
    refine la_aload_n (i := 0) B dX5_add_32 rfl rfl ?_
    refine la_get (i := 3) (ci := 5) (j := 3) (C := RX5) (T := TX5) (N := 8) B (lh_nc_lt (by decide)) rfl ix_5 rfl (by decide) wd_95 rfl rfl dX5_add_33 ?_
    refine la_aload_n (i := 0) B dX5_add_36 rfl rfl ?_
    refine la_get (i := 3) (ci := 5) (j := 0) (v := .int (h 3 0)) (C := RX5) (T := TX5) (N := 8) B (lh_nc_lt (by decide)) rfl ix_5 rfl (by decide) wd_86 rfl rfl dX5_add_37 ?_
    refine la_iload_n (i := 3) B dX5_add_40 rfl rfl ?_
    refine la_iast (i := 11) B (lh_nc_lt (by decide)) rfl rfl hb dX5_add_41 ?_
    refine la_aload_n (i := 0) B dX5_add_42 rfl rfl ?_
    refine la_get (i := 3) (ci := 5) (j := 4) (C := RX5) (T := TX5) (N := 8) B (lh_nc_lt (by decide)) rfl ix_5 rfl (by decide) wd_98 rfl rfl dX5_add_43 ?_
    refine la_aload_n (i := 0) B dX5_add_46 rfl rfl ?_
    refine la_get (i := 3) (ci := 5) (j := 0) (v := .int (h 3 0)) (C := RX5) (T := TX5) (N := 8) B (lh_nc_lt (by decide)) rfl ix_5 rfl (by decide) wd_86 rfl rfl dX5_add_47 ?_
    refine la_iload B dX5_add_50 rfl ?_
    refine la_iast (i := 12) B (lh_nc_lt (by decide)) rfl rfl hb dX5_add_52 ?_
    refine la_aload_n (i := 0) B dX5_add_53 rfl rfl ?_
    refine la_get (i := 3) (ci := 5) (j := 5) (C := RX5) (T := TX5) (N := 8) B (lh_nc_lt (by decide)) rfl ix_5 rfl (by decide) wd_101 rfl rfl dX5_add_54 ?_
    refine la_aload_n (i := 0) B dX5_add_57 rfl rfl ?_
    refine la_get (i := 3) (ci := 5) (j := 0) (v := .int (h 3 0)) (C := RX5) (T := TX5) (N := 8) B (lh_nc_lt (by decide)) rfl ix_5 rfl (by decide) wd_86 rfl rfl dX5_add_58 ?_
    refine la_bipush (v := -4) B dX5_add_61 (by decide) ?_
    refine la_iast (i := 13) B (lh_nc_lt (by decide)) rfl rfl hb dX5_add_63 ?_
    refine la_aload_n (i := 0) B dX5_add_64 rfl rfl ?_
    refine la_get (i := 3) (ci := 5) (j := 6) (C := RX5) (T := TX5) (N := 8) B (lh_nc_lt (by decide)) rfl ix_5 rfl (by decide) wd_104 rfl rfl dX5_add_65 ?_
    refine la_aload_n (i := 0) B dX5_add_68 rfl rfl ?_
    refine la_get (i := 3) (ci := 5) (j := 0) (v := .int (h 3 0)) (C := RX5) (T := TX5) (N := 8) B (lh_nc_lt (by decide)) rfl ix_5 rfl (by decide) wd_86 rfl rfl dX5_add_69 ?_
    refine la_iconst (v := 0) B dX5_add_72 (by decide) ?_
    refine la_iast (i := 14) B (lh_nc_lt (by decide)) rfl rfl hb dX5_add_73 ?_
    refine la_aload_n (i := 0) B dX5_add_74 rfl rfl ?_
    refine la_get (i := 3) (ci := 5) (j := 7) (C := RX5) (T := TX5) (N := 8) B (lh_nc_lt (by decide)) rfl ix_5 rfl (by decide) wd_107 rfl rfl dX5_add_75 ?_
    refine la_aload_n (i := 0) B dX5_add_78 rfl rfl ?_
    refine la_get (i := 3) (ci := 5) (j := 0) (v := .int (h 3 0)) (C := RX5) (T := TX5) (N := 8) B (lh_nc_lt (by decide)) rfl ix_5 rfl (by decide) wd_86 rfl rfl dX5_add_79 ?_
    refine la_iconst (v := 0) B dX5_add_82 (by decide) ?_
    refine la_iast (i := 15) B (lh_nc_lt (by decide)) rfl rfl hb dX5_add_83 ?_
    refine la_aload_n (i := 0) B dX5_add_84 rfl rfl ?_
    refine la_dup B dX5_add_85 rfl ?_
    refine la_get (i := 3) (ci := 5) (j := 0) (v := .int (h 3 0)) (C := RX5) (T := TX5) (N := 8) B (lh_nc_lt (by decide)) rfl ix_5 rfl (by decide) wd_86 rfl rfl dX5_add_86 ?_
    refine la_iconst (v := 1) B dX5_add_89 (by decide) ?_
    refine la_iadd B dX5_add_90 ?_
    refine la_put (i := 3) (ci := 5) (j := 0) (C := RX5) (T := TX5) (N := 8) (ty0 := tyX5) B (lh_nc_lt (by decide)) rfl rfl ix_5 tyX5_ok nmX5 rfl (by decide) wd_86 rfl rfl rfl rfl rfl (Nat.le_of_ble_eq_true rfl) dX5_add_91 ?_
    refine la_aload_n (i := 0) B dX5_add_94 rfl rfl ?_
    refine la_get (i := 3) (ci := 5) (j := 0) (v := .int ((h 3 0) + 1)) (C := RX5) (T := TX5) (N := 8) B (lh_nc_lt (by decide)) rfl ix_5 rfl (by decide) wd_86 rfl rfl dX5_add_95 ?_
    refine la_iconst (v := 1) B dX5_add_98 (by decide) ?_
    refine la_isub B dX5_add_99 ?_
    exact la_ireturn B rfl (by simp only [fX5_add, if_pos c6]) (by simp only [gX5_add, if_pos c6]) dX5_add_100
  · refine la_bipush (v := -2) B dX5_add_9 (by decide) ?_
    exact la_ireturn B rfl (by simp only [fX5_add, if_neg c6]) (by simp only [gX5_add, if_neg c6]) dX5_add_11
end
section
/-! THE INVARIANT of the class's house: counts, and what the cells hold below them -/
def lh_N (h : lh_HS) (c : Nat) : Nat := (h c 0).toNatClampNeg
def lh_cn (h : lh_HS) (c M : Nat) : Prop := h c 0 = nI (lh_N h c) ∧ lh_N h c ≤ M
def lh_rng (x : Int32) (a b : Int) : Prop := a ≤ x.toInt ∧ x.toInt ≤ b
def lh_ix (x : Int32) (n : Nat) : Prop := ∃ j, j < n ∧ x = nI j
def lh_IR (h : lh_HS) : Prop := ∀ r, r < lh_N h 2 → lh_rng (h 7 r) 1 200 ∧ ∀ y, y < 10 → lh_rng (h 8 (r * 10 + y)) (-1) (h 7 r).toInt
def lh_IS (h : lh_HS) : Prop := ∀ s, s < lh_N h 3 → lh_rng (h 9 s) 1 2000 ∧ lh_rng (h 10 s) 1 15 ∧ lh_rng (h 11 s) 1 9 ∧ lh_rng (h 12 s) 0 3 ∧ (h 13 s = -4 ∨ lh_ix (h 13 s) (lh_N h 3)) ∧ lh_rng (h 14 s) 0 2000 ∧ lh_rng (h 15 s) 0 2000
def lh_IB (h : lh_HS) : Prop := ∀ b, b < lh_N h 4 → lh_ix (h 16 b) (lh_N h 3) ∧ (h 17 b = -4 ∨ lh_ix (h 17 b) (lh_N h 2)) ∧ lh_ix (h 18 b) 10 ∧ lh_rng (h 19 b) 0 500 ∧ (h 20 b = 0 ∨ h 20 b = 1)
def lh_IT (h : lh_HS) : Prop := ∀ t, t < lh_N h 5 → lh_ix (h 21 t) (lh_N h 3) ∧ lh_ix (h 22 t) 10 ∧ lh_ix (h 23 t) 8
def lh_IW (h : lh_HS) : Prop := ∀ w, w < lh_N h 6 → lh_ix (h 24 w) (lh_N h 2) ∧ lh_ix (h 25 w) 10 ∧ lh_ix (h 26 w) 4
def lh_I (h : lh_HS) : Prop := (lh_cn h 2 4 ∧ lh_cn h 3 8 ∧ lh_cn h 4 30 ∧ lh_cn h 5 12 ∧ lh_cn h 6 5) ∧ lh_IR h ∧ lh_IS h ∧ lh_IB h ∧ lh_IT h ∧ lh_IW h
/-- h and h' have the same house -/
def lh_fr (h h' : lh_HS) : Prop := ∀ q, 2 ≤ q → q ≤ 26 → h' q = h q
theorem lh_fr.rf (h : lh_HS) : lh_fr h h := fun _ _ _ => rfl
theorem lh_fr.tr {a b c : lh_HS} (x : lh_fr a b) (y : lh_fr b c) : lh_fr a c := fun q h1 h2 => by rw [y q h1 h2, x q h1 h2]
theorem lh_fr.sy {a b : lh_HS} (x : lh_fr a b) : lh_fr b a := fun q h1 h2 => (x q h1 h2).symm
theorem lh_fr.up {a b : lh_HS} (x : lh_fr a b) {i j : Nat} {v : Int32} (hi : 26 < i) : lh_fr a (lh_up b i j v) := fun q h1 h2 => by
  rw [← x q h1 h2]; funext z; exact lh_up_ne (Or.inl (by omega))
theorem lh_fr.row {a b : lh_HS} (x : lh_fr a b) {i : Nat} {v : Nat → Int32} (hi : 26 < i) : lh_fr a (lh_row b i v) := fun q h1 h2 => by
  rw [← x q h1 h2]; exact lh_row_ne (by omega)
theorem lh_fr.N {a b : lh_HS} (x : lh_fr a b) {c : Nat} (h1 : 2 ≤ c) (h2 : c ≤ 26) : lh_N b c = lh_N a c := by unfold lh_N; rw [x c h1 h2]
theorem lh_I.fr {h h' : lh_HS} (I : lh_I h) (f : lh_fr h h') : lh_I h' := by
  have e : ∀ q, 2 ≤ q → q ≤ 26 → h' q = h q := f
  unfold lh_I lh_cn lh_IR lh_IS lh_IB lh_IT lh_IW lh_N at *
  simp only [e 2 (by decide) (by decide), e 3 (by decide) (by decide), e 4 (by decide) (by decide), e 5 (by decide) (by decide), e 6 (by decide) (by decide), e 7 (by decide) (by decide), e 8 (by decide) (by decide), e 9 (by decide) (by decide), e 10 (by decide) (by decide), e 11 (by decide) (by decide), e 12 (by decide) (by decide), e 13 (by decide) (by decide), e 14 (by decide) (by decide), e 15 (by decide) (by decide), e 16 (by decide) (by decide), e 17 (by decide) (by decide), e 18 (by decide) (by decide), e 19 (by decide) (by decide), e 20 (by decide) (by decide), e 21 (by decide) (by decide), e 22 (by decide) (by decide), e 23 (by decide) (by decide), e 24 (by decide) (by decide), e 25 (by decide) (by decide), e 26 (by decide) (by decide)]
  exact I
theorem lh_ix.cl {x : Int32} {n : Nat} (h : lh_ix x n) (hn : n < 2 ^ 31) : x.toNatClampNeg < n ∧ x = nI x.toNatClampNeg := by
  obtain ⟨j, hj, rfl⟩ := h
  rw [nI_clamp (by omega)]
  exact ⟨hj, rfl⟩
theorem lh_ix.vp {x : Int32} {n M : Nat} (h : lh_ix x n) (hn : n ≤ M) (hM : M < 2 ^ 31) : vp_in x M := by
  obtain ⟨j, hj, rfl⟩ := h
  exact vp_in_nI (by omega) hM
theorem lh_ix.mono {x : Int32} {n M : Nat} (h : lh_ix x n) (hn : n ≤ M) : lh_ix x M := by
  obtain ⟨j, hj, rfl⟩ := h
  exact ⟨j, by omega, rfl⟩
theorem lh_ix_nI {j n : Nat} (h : j < n) : lh_ix (nI j) n := ⟨j, h, rfl⟩
theorem lh_ry (a b : Nat) : nI a * 10 + nI b = nI (a * 10 + b) := by
  rw [show (10 : Int32) = nI 10 from rfl, pk_mul, nI_add]
theorem lh_ix_ry {x y : Int32} (hx : lh_ix x 4) (hy : lh_ix y 10) : vp_in (x * 10 + y) 40 := by
  obtain ⟨a, ha, rfl⟩ := hx
  obtain ⟨b, hb, rfl⟩ := hy
  rw [lh_ry]
  exact vp_in_nI (by omega) (by omega)
theorem lh_hasix {x c : Int32} {n : Nat} (hc : c = nI n) (hn : n < 2 ^ 31) (h0 : ¬ x < 0) (h1 : ¬ c ≤ x) : lh_ix x n := by
  obtain ⟨j, hj, rfl⟩ := nI_of h0
  refine ⟨j, ?_, rfl⟩
  rw [hc, nI_leI hn hj] at h1
  omega
theorem lh_has_of {x c : Int32} {n : Nat} (hc : c = nI n) (hn : n < 2 ^ 31) (h : ¬ (if x < 0 then (0 : Int32) else if c ≤ x then 0 else 1) = 0) : lh_ix x n := by
  by_cases h0 : x < 0
  · simp [h0] at h
  · by_cases h1 : c ≤ x
    · simp [h0, h1] at h
    · exact lh_hasix hc hn h0 h1
theorem lh_has_iff {x c : Int32} {n : Nat} (hc : c = nI n) (hn : n < 2 ^ 31) : (if x < 0 then (0 : Int32) else if c ≤ x then 0 else 1) = 0 ↔ ¬ lh_ix x n := by
  constructor
  · rintro h ⟨j, hj, rfl⟩
    rw [hc] at h
    have h1 : ¬ nI j < 0 := nI_pos (by omega)
    have h2 : ¬ nI n ≤ nI j := nI_ge hj hn
    rw [if_neg h1, if_neg h2] at h
    cases h
  · intro h
    by_cases c0 : (if x < 0 then (0 : Int32) else if c ≤ x then 0 else 1) = 0
    · exact c0
    · exact absurd (lh_has_of hc hn c0) h
theorem lh_rooms {h : lh_HS} (I : lh_I h) {x : Int32} (c : ¬ fX4_has h x = 0) : lh_ix x (lh_N h 2) := lh_has_of I.1.1.1 (by have := I.1.1.2; omega) c
theorem lh_sheets {h : lh_HS} (I : lh_I h) {x : Int32} (c : ¬ fX5_has h x = 0) : lh_ix x (lh_N h 3) := lh_has_of I.1.2.1.1 (by have := I.1.2.1.2; omega) c
theorem lh_bookings {h : lh_HS} (I : lh_I h) {x : Int32} (c : ¬ fX0_has h x = 0) : lh_ix x (lh_N h 4) := lh_has_of I.1.2.2.1.1 (by have := I.1.2.2.1.2; omega) c
theorem lh_walls {h : lh_HS} (I : lh_I h) {x : Int32} (c : ¬ fX7_has h x = 0) : lh_ix x (lh_N h 6) := lh_has_of I.1.2.2.2.2.1 (by have := I.1.2.2.2.2.2; omega) c
theorem lh_within_iff {h : lh_HS} {x a b : Int32} : ¬ fX8_within h x a b = 0 ↔ a.toInt ≤ x.toInt ∧ x.toInt ≤ b.toInt := by
  unfold fX8_within
  simp only [Int32.lt_iff_toInt_lt]
  by_cases h1 : x.toInt < a.toInt
  · rw [if_pos h1]; simp; omega
  · rw [if_neg h1]
    by_cases h2 : b.toInt < x.toInt
    · rw [if_pos h2]; simp; omega
    · rw [if_neg h2]
      constructor
      · intro _; omega
      · intro _ q; cases q
theorem lh_ix_iff {x : Int32} {n : Nat} (hn : n < 2 ^ 31) : lh_ix x n ↔ 0 ≤ x.toInt ∧ x.toInt < n := by
  constructor
  · rintro ⟨j, hj, rfl⟩
    rw [nI_toInt (by omega)]
    omega
  · intro hx
    obtain ⟨j, hj, rfl⟩ := nI_of (x := x) (by rw [Int32.lt_iff_toInt_lt]; show ¬ x.toInt < 0; omega)
    rw [nI_toInt hj] at hx
    exact ⟨j, by omega, rfl⟩
theorem lh_years {h : lh_HS} {x : Int32} (c : ¬ fX8_isYear h x = 0) : lh_ix x 10 := by
  have := lh_within_iff.mp c
  rw [lh_ix_iff (by omega)]
  have e0 : (0 : Int32).toInt = 0 := by decide
  have e9 : (9 : Int32).toInt = 9 := by decide
  omega
/-- what a booking spends can be read -/
theorem lh_spendpre {h : lh_HS} (I : lh_I h) {b : Int32} (hb : lh_ix b (lh_N h 4)) : vp_in b 30 ∧ (fX0_isLoan h b = 0 → vp_in (h 17 b.toNatClampNeg * 10 + h 18 b.toNatClampNeg) 40) ∧ (fX0_isLoan h b = 0 → vp_in (h 17 b.toNatClampNeg) 4) := by
  obtain ⟨j, hj, rfl⟩ := hb
  have hM : lh_N h 4 ≤ 30 := I.1.2.2.1.2
  have hR : lh_N h 2 ≤ 4 := I.1.1.2
  refine ⟨vp_in_nI (by omega) (by omega), ?_⟩
  unfold fX0_isLoan
  rw [nI_clamp (by omega)]
  obtain ⟨-, h17, h18, -⟩ := I.2.2.2.1 j hj
  rcases h17 with h17 | h17
  · rw [if_pos h17]
    exact ⟨fun q => absurd q (by decide), fun q => absurd q (by decide)⟩
  · exact ⟨fun _ => lh_ix_ry (h17.mono hR) h18, fun _ => h17.vp hR (by omega)⟩
end
section
def LX0_countOf (h : lh_HS) (sn : Int32) : Nat → Nat → Int32 → Int32
  | 0, i, acc => acc
  | n + 1, i, acc => (if (fX0_standsFor h (nI i) sn) = 0 then (LX0_countOf h sn n (i + 1) acc) else (LX0_countOf h sn n (i + 1) (acc + 1)))
set_option maxHeartbeats 4000000 in
set_option maxRecDepth 100000 in
theorem lp_X0_countOf {l : Launch} {D : va_G} {ad : Nat → Nat} {bs : Nat} {cI cZ : ClassId} {t9 : Nat} {k : Bool} {p : Program} {e : Env} {s : State} {m : MethodId} {args : Array Value} {below : List Frame} {meth : Method} {c : Code} (h : lh_HS) (sn : Int32) {r : Int32} (B : lh_BK p (lh_rm 1) s m args meth c D ad bs cI cZ t9 k "LightHours$Bookings" cX0_countOf 4 (some .int)) {N : Nat} (hN : h 4 0 = nI N) (hM : N ≤ 30) :
    ∀ (n i : Nat) (acc : Int32), i + n = N → r = LX0_countOf h sn n i acc → lh_AJ p l e (lh_rm 1) s m args below meth c D ad bs cI cZ k 4 (MQ below (lh_Qi D ad bs cI cZ k r h) args s 0 0 (lh_A bs)) 4 [(0, .ref (ad 4)), (1, .int sn), (2, .int acc), (3, .int (nI i))] [] h := by
  intro n
  induction n with
  | zero =>
    intro i acc hi hr
    have hexit : h 4 0 ≤ nI i := by rw [hN]; exact nI_le (by omega) (by omega)
    refine la_iload_n (i := 3) B dX0_countOf_4 rfl rfl ?_
    refine la_aload_n (i := 0) B dX0_countOf_5 rfl rfl ?_
    refine la_get (i := 4) (ci := 0) (j := 0) (v := .int (h 4 0)) (C := RX0) (T := TX0) (N := 6) B (lh_nc_lt (by decide)) rfl ix_0 rfl (by decide) wd_133 rfl rfl dX0_countOf_6 ?_
    refine la_icmp_ge (tgt := 30) B dX0_countOf_9 (by decide) (fun c9 => ?_) (fun c9 => ?_)
    · refine la_iload_n (i := 2) B dX0_countOf_30 rfl rfl ?_
      exact la_ireturn B rfl (by rw [hr]; simp only [LX0_countOf]) rfl dX0_countOf_31
    · exact absurd hexit c9
  | succ n ih =>
    intro i acc hi hr
    have hcont : ¬ h 4 0 ≤ nI i := by rw [hN]; exact nI_ge (by omega) (by omega)
    have hb : vp_in (nI i) 30 := vp_in_nI (by omega) (by omega)
    refine la_iload_n (i := 3) B dX0_countOf_4 rfl rfl ?_
    refine la_aload_n (i := 0) B dX0_countOf_5 rfl rfl ?_
    refine la_get (i := 4) (ci := 0) (j := 0) (v := .int (h 4 0)) (C := RX0) (T := TX0) (N := 6) B (lh_nc_lt (by decide)) rfl ix_0 rfl (by decide) wd_133 rfl rfl dX0_countOf_6 ?_
    refine la_icmp_ge (tgt := 30) B dX0_countOf_9 (by decide) (fun c9 => ?_) (fun c9 => ?_)
    · exact absurd c9 hcont
    · refine la_aload_n (i := 0) B dX0_countOf_12 rfl rfl ?_
      refine la_iload_n (i := 3) B dX0_countOf_13 rfl rfl ?_
      refine la_iload_n (i := 1) B dX0_countOf_14 rfl rfl ?_
      refine la_callVi (i := 4) B (ct_X0_standsFor h (nI i) sn hb) lk_X0_36 (by decide) (lh_nc_lt (by decide)) rfl rfl rfl (by simp [Value.category]) dX0_countOf_15 ?_
      refine la_if_eq (tgt := 24) B dX0_countOf_18 (by decide) (fun c18 => ?_) (fun c18 => ?_)
      · refine la_iincp B dX0_countOf_24 rfl (by decide) ?_
        refine la_goto (tgt := 4) B dX0_countOf_27 (by decide) ?_
        refine la_sub (lv2 := [(0, .ref (ad 4)), (1, .int sn), (2, .int acc), (3, .int (nI (i + 1)))]) ⟨rfl, rfl, rfl, (congrArg (fun z => some (Value.int z)) (nI_1 i)), trivial⟩ (by simp [Value.category]) ?_
        exact ih (i + 1) acc (by omega) (by rw [hr]; simp only [LX0_countOf, if_pos c18])
      · refine la_iincp B dX0_countOf_21 rfl (by decide) ?_
        refine la_iincp B dX0_countOf_24 rfl (by decide) ?_
        refine la_goto (tgt := 4) B dX0_countOf_27 (by decide) ?_
        refine la_sub (lv2 := [(0, .ref (ad 4)), (1, .int sn), (2, .int ((acc + 1))), (3, .int (nI (i + 1)))]) ⟨rfl, rfl, rfl, (congrArg (fun z => some (Value.int z)) (nI_1 i)), trivial⟩ (by simp [Value.category]) ?_
        exact ih (i + 1) (acc + 1) (by omega) (by rw [hr]; simp only [LX0_countOf, if_neg c18])

def fX0_countOf (h : lh_HS) (sn : Int32) : Int32 := (LX0_countOf h sn (lh_N h 4) 0 0)
set_option maxHeartbeats 4000000 in
set_option maxRecDepth 100000 in
theorem ct_X0_countOf {l : Launch} {D : va_G} {ad : Nat → Nat} {bs : Nat} {cI cZ : ClassId} {t9 : Nat} {k : Bool} (h : lh_HS) (sn : Int32) (hN : h 4 0 = nI (lh_N h 4)) (hM : lh_N h 4 ≤ 30) : lh_CTi l D ad bs cI cZ t9 k yX0_countOf cX0_countOf 4 (some .int) 1 [.ref (ad 4), .int sn] h (fX0_countOf h sn) h := by
  refine lh_ofi (lv := [(0, .ref (ad 4)), (1, .int sn)]) (by decide) (Nat.le_of_ble_eq_true rfl) rfl (by simp [Value.category]) ⟨rfl, rfl, trivial⟩ ?_
  intro p e s m args below meth c B
  have B : lh_BK p (lh_rm 1) s m args meth c D ad bs cI cZ t9 k "LightHours$Bookings" cX0_countOf 4 (some .int) := B
  refine la_iconst (v := 0) B dX0_countOf_0 (by decide) ?_
  refine la_istore_n (i := 2) B dX0_countOf_1 rfl (by decide) ?_
  refine la_iconst (v := 0) B dX0_countOf_2 (by decide) ?_
  refine la_istore_n (i := 3) B dX0_countOf_3 rfl (by decide) ?_
  refine la_sub (lv2 := [(0, .ref (ad 4)), (1, .int sn), (2, .int 0), (3, .int (nI 0))]) ⟨rfl, rfl, rfl, rfl, trivial⟩ (by simp [Value.category]) ?_
  exact lp_X0_countOf h sn B hN hM _ 0 0 (Nat.zero_add _) (by simp only [fX0_countOf])

def LX0_countCancelled (h : lh_HS)  : Nat → Nat → Int32 → Int32
  | 0, i, acc => acc
  | n + 1, i, acc => (if (h 20 (nI i).toNatClampNeg) = 0 then (LX0_countCancelled h n (i + 1) acc) else (LX0_countCancelled h n (i + 1) (acc + 1)))
set_option maxHeartbeats 4000000 in
set_option maxRecDepth 100000 in
theorem lp_X0_countCancelled {l : Launch} {D : va_G} {ad : Nat → Nat} {bs : Nat} {cI cZ : ClassId} {t9 : Nat} {k : Bool} {p : Program} {e : Env} {s : State} {m : MethodId} {args : Array Value} {below : List Frame} {meth : Method} {c : Code} (h : lh_HS)  {r : Int32} (B : lh_BK p (lh_rm 0) s m args meth c D ad bs cI cZ t9 k "LightHours$Bookings" cX0_countCancelled 3 (some .int)) {N : Nat} (hN : h 4 0 = nI N) (hM : N ≤ 30) :
    ∀ (n i : Nat) (acc : Int32), i + n = N → r = LX0_countCancelled h n i acc → lh_AJ p l e (lh_rm 0) s m args below meth c D ad bs cI cZ k 3 (MQ below (lh_Qi D ad bs cI cZ k r h) args s 0 0 (lh_A bs)) 4 [(0, .ref (ad 4)), (1, .int acc), (2, .int (nI i))] [] h := by
  intro n
  induction n with
  | zero =>
    intro i acc hi hr
    have hexit : h 4 0 ≤ nI i := by rw [hN]; exact nI_le (by omega) (by omega)
    refine la_iload_n (i := 2) B dX0_countCancelled_4 rfl rfl ?_
    refine la_aload_n (i := 0) B dX0_countCancelled_5 rfl rfl ?_
    refine la_get (i := 4) (ci := 0) (j := 0) (v := .int (h 4 0)) (C := RX0) (T := TX0) (N := 6) B (lh_nc_lt (by decide)) rfl ix_0 rfl (by decide) wd_133 rfl rfl dX0_countCancelled_6 ?_
    refine la_icmp_ge (tgt := 30) B dX0_countCancelled_9 (by decide) (fun c9 => ?_) (fun c9 => ?_)
    · refine la_iload_n (i := 1) B dX0_countCancelled_30 rfl rfl ?_
      exact la_ireturn B rfl (by rw [hr]; simp only [LX0_countCancelled]) rfl dX0_countCancelled_31
    · exact absurd hexit c9
  | succ n ih =>
    intro i acc hi hr
    have hcont : ¬ h 4 0 ≤ nI i := by rw [hN]; exact nI_ge (by omega) (by omega)
    have hb : vp_in (nI i) 30 := vp_in_nI (by omega) (by omega)
    refine la_iload_n (i := 2) B dX0_countCancelled_4 rfl rfl ?_
    refine la_aload_n (i := 0) B dX0_countCancelled_5 rfl rfl ?_
    refine la_get (i := 4) (ci := 0) (j := 0) (v := .int (h 4 0)) (C := RX0) (T := TX0) (N := 6) B (lh_nc_lt (by decide)) rfl ix_0 rfl (by decide) wd_133 rfl rfl dX0_countCancelled_6 ?_
    refine la_icmp_ge (tgt := 30) B dX0_countCancelled_9 (by decide) (fun c9 => ?_) (fun c9 => ?_)
    · exact absurd c9 hcont
    · refine la_aload_n (i := 0) B dX0_countCancelled_12 rfl rfl ?_
      refine la_get (i := 4) (ci := 0) (j := 5) (C := RX0) (T := TX0) (N := 6) B (lh_nc_lt (by decide)) rfl ix_0 rfl (by decide) wd_147 rfl rfl dX0_countCancelled_13 ?_
      refine la_iload_n (i := 2) B dX0_countCancelled_16 rfl rfl ?_
      refine la_zald (i := 20) (v := h 20 (nI i).toNatClampNeg) B (lh_nc_lt (by decide)) rfl hb rfl dX0_countCancelled_17 ?_
      refine la_if_eq (tgt := 24) B dX0_countCancelled_18 (by decide) (fun c18 => ?_) (fun c18 => ?_)
      · refine la_iincp B dX0_countCancelled_24 rfl (by decide) ?_
        refine la_goto (tgt := 4) B dX0_countCancelled_27 (by decide) ?_
        refine la_sub (lv2 := [(0, .ref (ad 4)), (1, .int acc), (2, .int (nI (i + 1)))]) ⟨rfl, rfl, (congrArg (fun z => some (Value.int z)) (nI_1 i)), trivial⟩ (by simp [Value.category]) ?_
        exact ih (i + 1) acc (by omega) (by rw [hr]; simp only [LX0_countCancelled, if_pos c18])
      · refine la_iincp B dX0_countCancelled_21 rfl (by decide) ?_
        refine la_iincp B dX0_countCancelled_24 rfl (by decide) ?_
        refine la_goto (tgt := 4) B dX0_countCancelled_27 (by decide) ?_
        refine la_sub (lv2 := [(0, .ref (ad 4)), (1, .int ((acc + 1))), (2, .int (nI (i + 1)))]) ⟨rfl, rfl, (congrArg (fun z => some (Value.int z)) (nI_1 i)), trivial⟩ (by simp [Value.category]) ?_
        exact ih (i + 1) (acc + 1) (by omega) (by rw [hr]; simp only [LX0_countCancelled, if_neg c18])

def fX0_countCancelled (h : lh_HS)  : Int32 := (LX0_countCancelled h (lh_N h 4) 0 0)
set_option maxHeartbeats 4000000 in
set_option maxRecDepth 100000 in
theorem ct_X0_countCancelled {l : Launch} {D : va_G} {ad : Nat → Nat} {bs : Nat} {cI cZ : ClassId} {t9 : Nat} {k : Bool} (h : lh_HS)  (hN : h 4 0 = nI (lh_N h 4)) (hM : lh_N h 4 ≤ 30) : lh_CTi l D ad bs cI cZ t9 k yX0_countCancelled cX0_countCancelled 3 (some .int) 0 [.ref (ad 4)] h (fX0_countCancelled h ) h := by
  refine lh_ofi (lv := [(0, .ref (ad 4))]) (by decide) (Nat.le_of_ble_eq_true rfl) rfl (by simp [Value.category]) ⟨rfl, trivial⟩ ?_
  intro p e s m args below meth c B
  have B : lh_BK p (lh_rm 0) s m args meth c D ad bs cI cZ t9 k "LightHours$Bookings" cX0_countCancelled 3 (some .int) := B
  refine la_iconst (v := 0) B dX0_countCancelled_0 (by decide) ?_
  refine la_istore_n (i := 1) B dX0_countCancelled_1 rfl (by decide) ?_
  refine la_iconst (v := 0) B dX0_countCancelled_2 (by decide) ?_
  refine la_istore_n (i := 2) B dX0_countCancelled_3 rfl (by decide) ?_
  refine la_sub (lv2 := [(0, .ref (ad 4)), (1, .int 0), (2, .int (nI 0))]) ⟨rfl, rfl, rfl, trivial⟩ (by simp [Value.category]) ?_
  exact lp_X0_countCancelled h B hN hM _ 0 0 (Nat.zero_add _) (by simp only [fX0_countCancelled])

def LX0_shownWithin (h : lh_HS) (sn : Int32) (yr : Int32) (aw : Int32) : Nat → Nat → Int32
  | 0, i => 0
  | n + 1, i => (if (fX0_standsFor h (nI i) sn) = 0 then (LX0_shownWithin h sn yr aw n (i + 1)) else (if (fX0_isLoan h (nI i)) = 0 then (if aw < (if 0 ≤ ((h 18 (nI i).toNatClampNeg) - yr) then ((h 18 (nI i).toNatClampNeg) - yr) else 0 - ((h 18 (nI i).toNatClampNeg) - yr)) then (LX0_shownWithin h sn yr aw n (i + 1)) else 1) else (LX0_shownWithin h sn yr aw n (i + 1))))
set_option maxHeartbeats 4000000 in
set_option maxRecDepth 100000 in
theorem lp_X0_shownWithin {l : Launch} {D : va_G} {ad : Nat → Nat} {bs : Nat} {cI cZ : ClassId} {t9 : Nat} {k : Bool} {p : Program} {e : Env} {s : State} {m : MethodId} {args : Array Value} {below : List Frame} {meth : Method} {c : Code} (h : lh_HS) (sn : Int32) (yr : Int32) (aw : Int32) {r : Int32} (B : lh_BK p (lh_rm 1) s m args meth c D ad bs cI cZ t9 k "LightHours$Bookings" cX0_shownWithin 5 (some .boolean)) {N : Nat} (hN : h 4 0 = nI N) (hM : N ≤ 30) :
    ∀ (n i : Nat), i + n = N → r = LX0_shownWithin h sn yr aw n i → lh_AJ p l e (lh_rm 1) s m args below meth c D ad bs cI cZ k 5 (MQ below (lh_Qi D ad bs cI cZ k r h) args s 0 0 (lh_A bs)) 3 [(0, .ref (ad 4)), (1, .int sn), (2, .int yr), (3, .int aw), (4, .int (nI i))] [] h := by
  intro n
  induction n with
  | zero =>
    intro i hi hr
    have hexit : h 4 0 ≤ nI i := by rw [hN]; exact nI_le (by omega) (by omega)
    refine la_iload B dX0_shownWithin_3 rfl ?_
    refine la_aload_n (i := 0) B dX0_shownWithin_5 rfl rfl ?_
    refine la_get (i := 4) (ci := 0) (j := 0) (v := .int (h 4 0)) (C := RX0) (T := TX0) (N := 6) B (lh_nc_lt (by decide)) rfl ix_0 rfl (by decide) wd_133 rfl rfl dX0_shownWithin_6 ?_
    refine la_icmp_ge (tgt := 55) B dX0_shownWithin_9 (by decide) (fun c9 => ?_) (fun c9 => ?_)
    · refine la_iconst (v := 0) B dX0_shownWithin_55 (by decide) ?_
      exact la_zreturn B rfl (by rw [hr]; simp only [LX0_shownWithin]) rfl rfl dX0_shownWithin_56
    · exact absurd hexit c9
  | succ n ih =>
    intro i hi hr
    have hcont : ¬ h 4 0 ≤ nI i := by rw [hN]; exact nI_ge (by omega) (by omega)
    have hb : vp_in (nI i) 30 := vp_in_nI (by omega) (by omega)
    refine la_iload B dX0_shownWithin_3 rfl ?_
    refine la_aload_n (i := 0) B dX0_shownWithin_5 rfl rfl ?_
    refine la_get (i := 4) (ci := 0) (j := 0) (v := .int (h 4 0)) (C := RX0) (T := TX0) (N := 6) B (lh_nc_lt (by decide)) rfl ix_0 rfl (by decide) wd_133 rfl rfl dX0_shownWithin_6 ?_
    refine la_icmp_ge (tgt := 55) B dX0_shownWithin_9 (by decide) (fun c9 => ?_) (fun c9 => ?_)
    · exact absurd c9 hcont
    · refine la_aload_n (i := 0) B dX0_shownWithin_12 rfl rfl ?_
      refine la_iload B dX0_shownWithin_13 rfl ?_
      refine la_iload_n (i := 1) B dX0_shownWithin_15 rfl rfl ?_
      refine la_callVi (i := 4) B (ct_X0_standsFor h (nI i) sn hb) lk_X0_36 (by decide) (lh_nc_lt (by decide)) rfl rfl rfl (by simp [Value.category]) dX0_shownWithin_16 ?_
      refine la_if_eq (tgt := 49) B dX0_shownWithin_19 (by decide) (fun c19 => ?_) (fun c19 => ?_)
      · refine la_iincp B dX0_shownWithin_49 rfl (by decide) ?_
        refine la_goto (tgt := 3) B dX0_shownWithin_52 (by decide) ?_
        refine la_sub (lv2 := [(0, .ref (ad 4)), (1, .int sn), (2, .int yr), (3, .int aw), (4, .int (nI (i + 1)))]) ⟨rfl, rfl, rfl, rfl, (congrArg (fun z => some (Value.int z)) (nI_1 i)), trivial⟩ (by simp [Value.category]) ?_
        exact ih (i + 1) (by omega) (by rw [hr]; simp only [LX0_shownWithin, if_pos c19])
      · refine la_aload_n (i := 0) B dX0_shownWithin_22 rfl rfl ?_
        refine la_iload B dX0_shownWithin_23 rfl ?_
        refine la_callVi (i := 4) B (ct_X0_isLoan h (nI i) hb) lk_X0_40 (by decide) (lh_nc_lt (by decide)) rfl rfl rfl (by simp [Value.category]) dX0_shownWithin_25 ?_
        refine la_if_ne (tgt := 49) B dX0_shownWithin_28 (by decide) (fun c28 => ?_) (fun c28 => ?_)
        · refine la_iincp B dX0_shownWithin_49 rfl (by decide) ?_
          refine la_goto (tgt := 3) B dX0_shownWithin_52 (by decide) ?_
          refine la_sub (lv2 := [(0, .ref (ad 4)), (1, .int sn), (2, .int yr), (3, .int aw), (4, .int (nI (i + 1)))]) ⟨rfl, rfl, rfl, rfl, (congrArg (fun z => some (Value.int z)) (nI_1 i)), trivial⟩ (by simp [Value.category]) ?_
          exact ih (i + 1) (by omega) (by rw [hr]; simp only [LX0_shownWithin, if_neg c19, if_neg c28])
        · refine la_aload_n (i := 0) B dX0_shownWithin_31 rfl rfl ?_
          refine la_get (i := 4) (ci := 0) (j := 3) (C := RX0) (T := TX0) (N := 6) B (lh_nc_lt (by decide)) rfl ix_0 rfl (by decide) wd_141 rfl rfl dX0_shownWithin_32 ?_
          refine la_iload B dX0_shownWithin_35 rfl ?_
          refine la_iald (i := 18) (v := h 18 (nI i).toNatClampNeg) B (lh_nc_lt (by decide)) rfl hb rfl dX0_shownWithin_37 ?_
          refine la_iload_n (i := 2) B dX0_shownWithin_38 rfl rfl ?_
          refine la_isub B dX0_shownWithin_39 ?_
          refine la_mabs B wd_440 wd_441 wd_45 wd_442 (by decide) (by decide) dX0_shownWithin_40 ?_
          refine la_iload_n (i := 3) B dX0_shownWithin_43 rfl rfl ?_
          refine la_icmp_gt (tgt := 49) B dX0_shownWithin_44 (by decide) (fun c44 => ?_) (fun c44 => ?_)
          · refine la_iincp B dX0_shownWithin_49 rfl (by decide) ?_
            refine la_goto (tgt := 3) B dX0_shownWithin_52 (by decide) ?_
            refine la_sub (lv2 := [(0, .ref (ad 4)), (1, .int sn), (2, .int yr), (3, .int aw), (4, .int (nI (i + 1)))]) ⟨rfl, rfl, rfl, rfl, (congrArg (fun z => some (Value.int z)) (nI_1 i)), trivial⟩ (by simp [Value.category]) ?_
            exact ih (i + 1) (by omega) (by rw [hr]; simp only [LX0_shownWithin, if_neg c19, if_pos c28, if_pos c44])
          · refine la_iconst (v := 1) B dX0_shownWithin_47 (by decide) ?_
            exact la_zreturn B rfl (by rw [hr]; simp only [LX0_shownWithin, if_neg c19, if_pos c28, if_neg c44]) rfl rfl dX0_shownWithin_48

def fX0_shownWithin (h : lh_HS) (sn : Int32) (yr : Int32) (aw : Int32) : Int32 := (LX0_shownWithin h sn yr aw (lh_N h 4) 0)
set_option maxHeartbeats 4000000 in
set_option maxRecDepth 100000 in
theorem ct_X0_shownWithin {l : Launch} {D : va_G} {ad : Nat → Nat} {bs : Nat} {cI cZ : ClassId} {t9 : Nat} {k : Bool} (h : lh_HS) (sn : Int32) (yr : Int32) (aw : Int32) (hN : h 4 0 = nI (lh_N h 4)) (hM : lh_N h 4 ≤ 30) : lh_CTi l D ad bs cI cZ t9 k yX0_shownWithin cX0_shownWithin 5 (some .boolean) 1 [.ref (ad 4), .int sn, .int yr, .int aw] h (fX0_shownWithin h sn yr aw) h := by
  refine lh_ofi (lv := [(0, .ref (ad 4)), (1, .int sn), (2, .int yr), (3, .int aw)]) (by decide) (Nat.le_of_ble_eq_true rfl) rfl (by simp [Value.category]) ⟨rfl, rfl, rfl, rfl, trivial⟩ ?_
  intro p e s m args below meth c B
  have B : lh_BK p (lh_rm 1) s m args meth c D ad bs cI cZ t9 k "LightHours$Bookings" cX0_shownWithin 5 (some .boolean) := B
  refine la_iconst (v := 0) B dX0_shownWithin_0 (by decide) ?_
  refine la_istore B dX0_shownWithin_1 (by decide) ?_
  refine la_sub (lv2 := [(0, .ref (ad 4)), (1, .int sn), (2, .int yr), (3, .int aw), (4, .int (nI 0))]) ⟨rfl, rfl, rfl, rfl, rfl, trivial⟩ (by simp [Value.category]) ?_
  exact lp_X0_shownWithin h sn yr aw B hN hM _ 0 (Nat.zero_add _) (by simp only [fX0_shownWithin])

def LX6_countOf (h : lh_HS) (sn : Int32) : Nat → Nat → Int32 → Int32
  | 0, i, acc => acc
  | n + 1, i, acc => (if (h 21 (nI i).toNatClampNeg) = sn then (LX6_countOf h sn n (i + 1) (acc + 1)) else (LX6_countOf h sn n (i + 1) acc))
set_option maxHeartbeats 4000000 in
set_option maxRecDepth 100000 in
theorem lp_X6_countOf {l : Launch} {D : va_G} {ad : Nat → Nat} {bs : Nat} {cI cZ : ClassId} {t9 : Nat} {k : Bool} {p : Program} {e : Env} {s : State} {m : MethodId} {args : Array Value} {below : List Frame} {meth : Method} {c : Code} (h : lh_HS) (sn : Int32) {r : Int32} (B : lh_BK p (lh_rm 0) s m args meth c D ad bs cI cZ t9 k "LightHours$Threads" cX6_countOf 4 (some .int)) {N : Nat} (hN : h 5 0 = nI N) (hM : N ≤ 12) :
    ∀ (n i : Nat) (acc : Int32), i + n = N → r = LX6_countOf h sn n i acc → lh_AJ p l e (lh_rm 0) s m args below meth c D ad bs cI cZ k 4 (MQ below (lh_Qi D ad bs cI cZ k r h) args s 0 0 (lh_A bs)) 4 [(0, .ref (ad 5)), (1, .int sn), (2, .int acc), (3, .int (nI i))] [] h := by
  intro n
  induction n with
  | zero =>
    intro i acc hi hr
    have hexit : h 5 0 ≤ nI i := by rw [hN]; exact nI_le (by omega) (by omega)
    refine la_iload_n (i := 3) B dX6_countOf_4 rfl rfl ?_
    refine la_aload_n (i := 0) B dX6_countOf_5 rfl rfl ?_
    refine la_get (i := 5) (ci := 6) (j := 0) (v := .int (h 5 0)) (C := RX6) (T := TX6) (N := 4) B (lh_nc_lt (by decide)) rfl ix_6 rfl (by decide) wd_169 rfl rfl dX6_countOf_6 ?_
    refine la_icmp_ge (tgt := 31) B dX6_countOf_9 (by decide) (fun c9 => ?_) (fun c9 => ?_)
    · refine la_iload_n (i := 2) B dX6_countOf_31 rfl rfl ?_
      exact la_ireturn B rfl (by rw [hr]; simp only [LX6_countOf]) rfl dX6_countOf_32
    · exact absurd hexit c9
  | succ n ih =>
    intro i acc hi hr
    have hcont : ¬ h 5 0 ≤ nI i := by rw [hN]; exact nI_ge (by omega) (by omega)
    have hb : vp_in (nI i) 12 := vp_in_nI (by omega) (by omega)
    refine la_iload_n (i := 3) B dX6_countOf_4 rfl rfl ?_
    refine la_aload_n (i := 0) B dX6_countOf_5 rfl rfl ?_
    refine la_get (i := 5) (ci := 6) (j := 0) (v := .int (h 5 0)) (C := RX6) (T := TX6) (N := 4) B (lh_nc_lt (by decide)) rfl ix_6 rfl (by decide) wd_169 rfl rfl dX6_countOf_6 ?_
    refine la_icmp_ge (tgt := 31) B dX6_countOf_9 (by decide) (fun c9 => ?_) (fun c9 => ?_)
    · exact absurd c9 hcont
    · refine la_aload_n (i := 0) B dX6_countOf_12 rfl rfl ?_
      refine la_get (i := 5) (ci := 6) (j := 1) (C := RX6) (T := TX6) (N := 4) B (lh_nc_lt (by decide)) rfl ix_6 rfl (by decide) wd_172 rfl rfl dX6_countOf_13 ?_
      refine la_iload_n (i := 3) B dX6_countOf_16 rfl rfl ?_
      refine la_iald (i := 21) (v := h 21 (nI i).toNatClampNeg) B (lh_nc_lt (by decide)) rfl hb rfl dX6_countOf_17 ?_
      refine la_iload_n (i := 1) B dX6_countOf_18 rfl rfl ?_
      refine la_icmp_ne (tgt := 25) B dX6_countOf_19 (by decide) (fun c19 => ?_) (fun c19 => ?_)
      · refine la_iincp B dX6_countOf_25 rfl (by decide) ?_
        refine la_goto (tgt := 4) B dX6_countOf_28 (by decide) ?_
        refine la_sub (lv2 := [(0, .ref (ad 5)), (1, .int sn), (2, .int acc), (3, .int (nI (i + 1)))]) ⟨rfl, rfl, rfl, (congrArg (fun z => some (Value.int z)) (nI_1 i)), trivial⟩ (by simp [Value.category]) ?_
        exact ih (i + 1) acc (by omega) (by rw [hr]; simp only [LX6_countOf, if_neg c19])
      · refine la_iincp B dX6_countOf_22 rfl (by decide) ?_
        refine la_iincp B dX6_countOf_25 rfl (by decide) ?_
        refine la_goto (tgt := 4) B dX6_countOf_28 (by decide) ?_
        refine la_sub (lv2 := [(0, .ref (ad 5)), (1, .int sn), (2, .int ((acc + 1))), (3, .int (nI (i + 1)))]) ⟨rfl, rfl, rfl, (congrArg (fun z => some (Value.int z)) (nI_1 i)), trivial⟩ (by simp [Value.category]) ?_
        exact ih (i + 1) (acc + 1) (by omega) (by rw [hr]; simp only [LX6_countOf, if_pos c19])

def fX6_countOf (h : lh_HS) (sn : Int32) : Int32 := (LX6_countOf h sn (lh_N h 5) 0 0)
set_option maxHeartbeats 4000000 in
set_option maxRecDepth 100000 in
theorem ct_X6_countOf {l : Launch} {D : va_G} {ad : Nat → Nat} {bs : Nat} {cI cZ : ClassId} {t9 : Nat} {k : Bool} (h : lh_HS) (sn : Int32) (hN : h 5 0 = nI (lh_N h 5)) (hM : lh_N h 5 ≤ 12) : lh_CTi l D ad bs cI cZ t9 k yX6_countOf cX6_countOf 4 (some .int) 0 [.ref (ad 5), .int sn] h (fX6_countOf h sn) h := by
  refine lh_ofi (lv := [(0, .ref (ad 5)), (1, .int sn)]) (by decide) (Nat.le_of_ble_eq_true rfl) rfl (by simp [Value.category]) ⟨rfl, rfl, trivial⟩ ?_
  intro p e s m args below meth c B
  have B : lh_BK p (lh_rm 0) s m args meth c D ad bs cI cZ t9 k "LightHours$Threads" cX6_countOf 4 (some .int) := B
  refine la_iconst (v := 0) B dX6_countOf_0 (by decide) ?_
  refine la_istore_n (i := 2) B dX6_countOf_1 rfl (by decide) ?_
  refine la_iconst (v := 0) B dX6_countOf_2 (by decide) ?_
  refine la_istore_n (i := 3) B dX6_countOf_3 rfl (by decide) ?_
  refine la_sub (lv2 := [(0, .ref (ad 5)), (1, .int sn), (2, .int 0), (3, .int (nI 0))]) ⟨rfl, rfl, rfl, rfl, trivial⟩ (by simp [Value.category]) ?_
  exact lp_X6_countOf h sn B hN hM _ 0 0 (Nat.zero_add _) (by simp only [fX6_countOf])

def LX4_countReadings (h : lh_HS)  : Nat → Nat → Int32 → Int32
  | 0, i, acc => acc
  | n + 1, i, acc => (if (h 8 (nI i).toNatClampNeg) = ((-1)) then (LX4_countReadings h n (i + 1) acc) else (LX4_countReadings h n (i + 1) (acc + 1)))
set_option maxHeartbeats 4000000 in
set_option maxRecDepth 100000 in
theorem lp_X4_countReadings {l : Launch} {D : va_G} {ad : Nat → Nat} {bs : Nat} {cI cZ : ClassId} {t9 : Nat} {k : Bool} {p : Program} {e : Env} {s : State} {m : MethodId} {args : Array Value} {below : List Frame} {meth : Method} {c : Code} (h : lh_HS)  {r : Int32} (B : lh_BK p (lh_rm 0) s m args meth c D ad bs cI cZ t9 k "LightHours$Rooms" cX4_countReadings 3 (some .int)) {N : Nat} (hN : h 2 0 * 10 = nI N) (hM : N ≤ 40) :
    ∀ (n i : Nat) (acc : Int32), i + n = N → r = LX4_countReadings h n i acc → lh_AJ p l e (lh_rm 0) s m args below meth c D ad bs cI cZ k 3 (MQ below (lh_Qi D ad bs cI cZ k r h) args s 0 0 (lh_A bs)) 4 [(0, .ref (ad 2)), (1, .int acc), (2, .int (nI i))] [] h := by
  intro n
  induction n with
  | zero =>
    intro i acc hi hr
    have hexit : h 2 0 * 10 ≤ nI i := by rw [hN]; exact nI_le (by omega) (by omega)
    refine la_iload_n (i := 2) B dX4_countReadings_4 rfl rfl ?_
    refine la_aload_n (i := 0) B dX4_countReadings_5 rfl rfl ?_
    refine la_get (i := 2) (ci := 4) (j := 0) (v := .int (h 2 0)) (C := RX4) (T := TX4) (N := 3) B (lh_nc_lt (by decide)) rfl ix_4 rfl (by decide) wd_67 rfl rfl dX4_countReadings_6 ?_
    refine la_bipush (v := 10) B dX4_countReadings_9 (by decide) ?_
    refine la_imul B dX4_countReadings_11 ?_
    refine la_icmp_ge (tgt := 34) B dX4_countReadings_12 (by decide) (fun c12 => ?_) (fun c12 => ?_)
    · refine la_iload_n (i := 1) B dX4_countReadings_34 rfl rfl ?_
      exact la_ireturn B rfl (by rw [hr]; simp only [LX4_countReadings]) rfl dX4_countReadings_35
    · exact absurd hexit c12
  | succ n ih =>
    intro i acc hi hr
    have hcont : ¬ h 2 0 * 10 ≤ nI i := by rw [hN]; exact nI_ge (by omega) (by omega)
    have hb : vp_in (nI i) 40 := vp_in_nI (by omega) (by omega)
    refine la_iload_n (i := 2) B dX4_countReadings_4 rfl rfl ?_
    refine la_aload_n (i := 0) B dX4_countReadings_5 rfl rfl ?_
    refine la_get (i := 2) (ci := 4) (j := 0) (v := .int (h 2 0)) (C := RX4) (T := TX4) (N := 3) B (lh_nc_lt (by decide)) rfl ix_4 rfl (by decide) wd_67 rfl rfl dX4_countReadings_6 ?_
    refine la_bipush (v := 10) B dX4_countReadings_9 (by decide) ?_
    refine la_imul B dX4_countReadings_11 ?_
    refine la_icmp_ge (tgt := 34) B dX4_countReadings_12 (by decide) (fun c12 => ?_) (fun c12 => ?_)
    · exact absurd c12 hcont
    · refine la_aload_n (i := 0) B dX4_countReadings_15 rfl rfl ?_
      refine la_get (i := 2) (ci := 4) (j := 2) (C := RX4) (T := TX4) (N := 3) B (lh_nc_lt (by decide)) rfl ix_4 rfl (by decide) wd_71 rfl rfl dX4_countReadings_16 ?_
      refine la_iload_n (i := 2) B dX4_countReadings_19 rfl rfl ?_
      refine la_iald (i := 8) (v := h 8 (nI i).toNatClampNeg) B (lh_nc_lt (by decide)) rfl hb rfl dX4_countReadings_20 ?_
      refine la_iconst (v := -1) B dX4_countReadings_21 (by decide) ?_
      refine la_icmp_eq (tgt := 28) B dX4_countReadings_22 (by decide) (fun c22 => ?_) (fun c22 => ?_)
      · refine la_iincp B dX4_countReadings_28 rfl (by decide) ?_
        refine la_goto (tgt := 4) B dX4_countReadings_31 (by decide) ?_
        refine la_sub (lv2 := [(0, .ref (ad 2)), (1, .int acc), (2, .int (nI (i + 1)))]) ⟨rfl, rfl, (congrArg (fun z => some (Value.int z)) (nI_1 i)), trivial⟩ (by simp [Value.category]) ?_
        exact ih (i + 1) acc (by omega) (by rw [hr]; simp only [LX4_countReadings, if_pos c22])
      · refine la_iincp B dX4_countReadings_25 rfl (by decide) ?_
        refine la_iincp B dX4_countReadings_28 rfl (by decide) ?_
        refine la_goto (tgt := 4) B dX4_countReadings_31 (by decide) ?_
        refine la_sub (lv2 := [(0, .ref (ad 2)), (1, .int ((acc + 1))), (2, .int (nI (i + 1)))]) ⟨rfl, rfl, (congrArg (fun z => some (Value.int z)) (nI_1 i)), trivial⟩ (by simp [Value.category]) ?_
        exact ih (i + 1) (acc + 1) (by omega) (by rw [hr]; simp only [LX4_countReadings, if_neg c22])

def fX4_countReadings (h : lh_HS)  : Int32 := (LX4_countReadings h (lh_N h 2 * 10) 0 0)
set_option maxHeartbeats 4000000 in
set_option maxRecDepth 100000 in
theorem ct_X4_countReadings {l : Launch} {D : va_G} {ad : Nat → Nat} {bs : Nat} {cI cZ : ClassId} {t9 : Nat} {k : Bool} (h : lh_HS)  (hN : h 2 0 * 10 = nI (lh_N h 2 * 10)) (hM : lh_N h 2 * 10 ≤ 40) : lh_CTi l D ad bs cI cZ t9 k yX4_countReadings cX4_countReadings 3 (some .int) 0 [.ref (ad 2)] h (fX4_countReadings h ) h := by
  refine lh_ofi (lv := [(0, .ref (ad 2))]) (by decide) (Nat.le_of_ble_eq_true rfl) rfl (by simp [Value.category]) ⟨rfl, trivial⟩ ?_
  intro p e s m args below meth c B
  have B : lh_BK p (lh_rm 0) s m args meth c D ad bs cI cZ t9 k "LightHours$Rooms" cX4_countReadings 3 (some .int) := B
  refine la_iconst (v := 0) B dX4_countReadings_0 (by decide) ?_
  refine la_istore_n (i := 1) B dX4_countReadings_1 rfl (by decide) ?_
  refine la_iconst (v := 0) B dX4_countReadings_2 (by decide) ?_
  refine la_istore_n (i := 2) B dX4_countReadings_3 rfl (by decide) ?_
  refine la_sub (lv2 := [(0, .ref (ad 2)), (1, .int 0), (2, .int (nI 0))]) ⟨rfl, rfl, rfl, trivial⟩ (by simp [Value.category]) ?_
  exact lp_X4_countReadings h B hN hM _ 0 0 (Nat.zero_add _) (by simp only [fX4_countReadings])

def LX4_add (wo : Int32) : Nat → Nat → lh_HS → Int32
  | 0, i, h => ((h 2 0) + 1) - 1
  | n + 1, i, h => (LX4_add wo n (i + 1) (gX4_read h (h 2 0) (nI i) ((-1))))
def LX4_add_h (wo : Int32) : Nat → Nat → lh_HS → lh_HS
  | 0, i, h => lh_up h 2 0 ((h 2 0) + 1)
  | n + 1, i, h => (LX4_add_h wo n (i + 1) (gX4_read h (h 2 0) (nI i) ((-1))))
set_option maxHeartbeats 4000000 in
set_option maxRecDepth 100000 in
theorem lp_X4_add {l : Launch} {D : va_G} {ad : Nat → Nat} {bs : Nat} {cI cZ : ClassId} {t9 : Nat} {k : Bool} {p : Program} {e : Env} {s : State} {m : MethodId} {args : Array Value} {below : List Frame} {meth : Method} {c : Code} (wo : Int32) {r : Int32} {h2 : lh_HS} (B : lh_BK p (lh_rm 1) s m args meth c D ad bs cI cZ t9 k "LightHours$Rooms" cX4_add 3 (some .int)) {c0 : Int32} (hc : lh_ix c0 4) :
    ∀ (n i : Nat) (h : lh_HS), i + n = 10 → r = LX4_add wo n i h → h2 = LX4_add_h wo n i h → h 2 0 = c0 → lh_AJ p l e (lh_rm 1) s m args below meth c D ad bs cI cZ k 3 (MQ below (lh_Qi D ad bs cI cZ k r h2) args s 0 0 (lh_A bs)) 23 [(0, .ref (ad 2)), (1, .int wo), (2, .int (nI i))] [] h := by
  intro n
  induction n with
  | zero =>
    intro i h hi hr hh hv
    have hexit : (10 : Int32) ≤ nI i := nI_le (a := 10) (by omega) (by omega)
    refine la_iload_n (i := 2) B dX4_add_23 rfl rfl ?_
    refine la_bipush (v := 10) B dX4_add_24 (by decide) ?_
    refine la_icmp_ge (tgt := 45) B dX4_add_26 (by decide) (fun c26 => ?_) (fun c26 => ?_)
    · refine la_aload_n (i := 0) B dX4_add_45 rfl rfl ?_
      refine la_dup B dX4_add_46 rfl ?_
      refine la_get (i := 2) (ci := 4) (j := 0) (v := .int (h 2 0)) (C := RX4) (T := TX4) (N := 3) B (lh_nc_lt (by decide)) rfl ix_4 rfl (by decide) wd_67 rfl rfl dX4_add_47 ?_
      refine la_iconst (v := 1) B dX4_add_50 (by decide) ?_
      refine la_iadd B dX4_add_51 ?_
      refine la_put (i := 2) (ci := 4) (j := 0) (C := RX4) (T := TX4) (N := 3) (ty0 := tyX4) B (lh_nc_lt (by decide)) rfl rfl ix_4 tyX4_ok nmX4 rfl (by decide) wd_67 rfl rfl rfl rfl rfl (Nat.le_of_ble_eq_true rfl) dX4_add_52 ?_
      refine la_aload_n (i := 0) B dX4_add_55 rfl rfl ?_
      refine la_get (i := 2) (ci := 4) (j := 0) (v := .int ((h 2 0) + 1)) (C := RX4) (T := TX4) (N := 3) B (lh_nc_lt (by decide)) rfl ix_4 rfl (by decide) wd_67 rfl rfl dX4_add_56 ?_
      refine la_iconst (v := 1) B dX4_add_59 (by decide) ?_
      refine la_isub B dX4_add_60 ?_
      exact la_ireturn B rfl (by rw [hr]; simp only [LX4_add]) (by rw [hh]; simp only [LX4_add_h]) dX4_add_61
    · exact absurd hexit c26
  | succ n ih =>
    intro i h hi hr hh hv
    have hcont : ¬ (10 : Int32) ≤ nI i := nI_ge (b := 10) (by omega) (by omega)
    have hy : lh_ix (nI i) 10 := lh_ix_nI (by omega)
    refine la_iload_n (i := 2) B dX4_add_23 rfl rfl ?_
    refine la_bipush (v := 10) B dX4_add_24 (by decide) ?_
    refine la_icmp_ge (tgt := 45) B dX4_add_26 (by decide) (fun c26 => ?_) (fun c26 => ?_)
    · exact absurd c26 hcont
    · refine la_aload_n (i := 0) B dX4_add_29 rfl rfl ?_
      refine la_aload_n (i := 0) B dX4_add_30 rfl rfl ?_
      refine la_get (i := 2) (ci := 4) (j := 0) (v := .int (h 2 0)) (C := RX4) (T := TX4) (N := 3) B (lh_nc_lt (by decide)) rfl ix_4 rfl (by decide) wd_67 rfl rfl dX4_add_31 ?_
      refine la_iload_n (i := 2) B dX4_add_34 rfl rfl ?_
      refine la_iconst (v := -1) B dX4_add_35 (by decide) ?_
      refine la_callVv (i := 2) B (ct_X4_read h (h 2 0) (nI i) ((-1)) (lh_ix_ry (hv ▸ hc) hy)) lk_X4_22 (by decide) (lh_nc_lt (by decide)) rfl rfl rfl (by simp [Value.category]) dX4_add_36 ?_
      refine la_iincp B dX4_add_39 rfl (by decide) ?_
      refine la_goto (tgt := 23) B dX4_add_42 (by decide) ?_
      refine la_sub (lv2 := [(0, .ref (ad 2)), (1, .int wo), (2, .int (nI (i + 1)))]) ⟨rfl, rfl, (congrArg (fun z => some (Value.int z)) (nI_1 i)), trivial⟩ (by simp [Value.category]) ?_
      exact ih (i + 1) (gX4_read h (h 2 0) (nI i) ((-1))) (by omega) (by rw [hr]; simp only [LX4_add]) (by rw [hh]; simp only [LX4_add_h]) (by rw [← hv]; exact lh_up_ne (Or.inl (by decide)))

def fX4_add (h : lh_HS) (wo : Int32) : Int32 := (if (h 2 0) < 4 then (LX4_add wo 10 0 (lh_up h 7 ((h 2 0).toNatClampNeg) wo)) else (-2))
def gX4_add (h : lh_HS) (wo : Int32) : lh_HS := (if (h 2 0) < 4 then (LX4_add_h wo 10 0 (lh_up h 7 ((h 2 0).toNatClampNeg) wo)) else h)
set_option maxHeartbeats 4000000 in
set_option maxRecDepth 100000 in
theorem ct_X4_add {l : Launch} {D : va_G} {ad : Nat → Nat} {bs : Nat} {cI cZ : ClassId} {t9 : Nat} {k : Bool} (h : lh_HS) (wo : Int32) (hc : lh_ix (h 2 0) 4) : lh_CTi l D ad bs cI cZ t9 k yX4_add cX4_add 3 (some .int) 1 [.ref (ad 2), .int wo] h (fX4_add h wo) (gX4_add h wo) := by
  refine lh_ofi (lv := [(0, .ref (ad 2)), (1, .int wo)]) (by decide) (Nat.le_of_ble_eq_true rfl) rfl (by simp [Value.category]) ⟨rfl, rfl, trivial⟩ ?_
  intro p e s m args below meth c B
  have B : lh_BK p (lh_rm 1) s m args meth c D ad bs cI cZ t9 k "LightHours$Rooms" cX4_add 3 (some .int) := B
  have hb : vp_in (h 2 0) 4 := hc.vp (Nat.le_refl _) (by omega)
  refine la_aload_n (i := 0) B dX4_add_0 rfl rfl ?_
  refine la_get (i := 2) (ci := 4) (j := 0) (v := .int (h 2 0)) (C := RX4) (T := TX4) (N := 3) B (lh_nc_lt (by decide)) rfl ix_4 rfl (by decide) wd_67 rfl rfl dX4_add_1 ?_
  refine la_iconst (v := 4) B dX4_add_4 (by decide) ?_
  refine la_icmp_lt (tgt := 11) B dX4_add_5 (by decide) (fun c5 => ?_) (fun c5 => ?_)
  · refine la_aload_n (i := 0) B dX4_add_11 rfl rfl ?_
    refine la_get (i := 2) (ci := 4) (j := 1) (C := RX4) (T := TX4) (N := 3) B (lh_nc_lt (by decide)) rfl ix_4 rfl (by decide) wd_69 rfl rfl dX4_add_12 ?_
    refine la_aload_n (i := 0) B dX4_add_15 rfl rfl ?_
    refine la_get (i := 2) (ci := 4) (j := 0) (v := .int (h 2 0)) (C := RX4) (T := TX4) (N := 3) B (lh_nc_lt (by decide)) rfl ix_4 rfl (by decide) wd_67 rfl rfl dX4_add_16 ?_
    refine la_iload_n (i := 1) B dX4_add_19 rfl rfl ?_
    refine la_iast (i := 7) B (lh_nc_lt (by decide)) rfl rfl hb dX4_add_20 ?_
    refine la_iconst (v := 0) B dX4_add_21 (by decide) ?_
    refine la_istore_n (i := 2) B dX4_add_22 rfl (by decide) ?_
    refine la_sub (lv2 := [(0, .ref (ad 2)), (1, .int wo), (2, .int (nI 0))]) ⟨rfl, rfl, rfl, trivial⟩ (by simp [Value.category]) ?_
    exact lp_X4_add wo B hc _ 0 (lh_up h 7 ((h 2 0).toNatClampNeg) wo) (Nat.zero_add _) (by simp only [fX4_add, if_pos c5]) (by simp only [gX4_add, if_pos c5]) (lh_up_ne (Or.inl (by decide)))
  · refine la_bipush (v := -2) B dX4_add_8 (by decide) ?_
    exact la_ireturn B rfl (by simp only [fX4_add, if_neg c5]) (by simp only [gX4_add, if_neg c5]) dX4_add_10
end
section
def LX3_sum3_h  : Nat → Nat → lh_HS → lh_HS
  | 0, i, h => h
  | n + 1, i, h => (LX3_sum3_h n (i + 1) (lh_up (lh_up h 28 ((nI i).toNatClampNeg) (((h 28 (nI i).toNatClampNeg) + (h 28 ((nI i) - 1).toNatClampNeg)))) 29 ((nI i).toNatClampNeg) (((h 29 (nI i).toNatClampNeg) + (h 29 ((nI i) - 1).toNatClampNeg)))))
set_option maxHeartbeats 4000000 in
set_option maxRecDepth 100000 in
theorem lp_X3_sum3 {l : Launch} {D : va_G} {ad : Nat → Nat} {bs : Nat} {cI cZ : ClassId} {t9 : Nat} {k : Bool} {p : Program} {e : Env} {s : State} {m : MethodId} {args : Array Value} {below : List Frame} {meth : Method} {c : Code}  {h2 : lh_HS} (B : lh_BK p (lh_rm 2) s m args meth c D ad bs cI cZ t9 k "LightHours$Ledger" cX3_sumSpends 3 none)  :
    ∀ (n i : Nat) (h : lh_HS), i + n = 10 → h2 = LX3_sum3_h n i h → 1 ≤ i → lh_AJ p l e (lh_rm 2) s m args below meth c D ad bs cI cZ k 3 (MQ below (lh_Qv D ad bs cI cZ k h2) args s 0 0 (lh_A bs)) 112 [(0, .ref (ad 27)), (2, .int (nI i))] [] h := by
  intro n
  induction n with
  | zero =>
    intro i h hi hh hv
    have hexit : (10 : Int32) ≤ nI i := nI_le (a := 10) (by omega) (by omega)
    refine la_iload_n (i := 2) B dX3_sumSpends_112 rfl rfl ?_
    refine la_bipush (v := 10) B dX3_sumSpends_113 (by decide) ?_
    refine la_icmp_ge (tgt := 158) B dX3_sumSpends_115 (by decide) (fun c115 => ?_) (fun c115 => ?_)
    · exact la_return B rfl (by rw [hh]; simp only [LX3_sum3_h]) dX3_sumSpends_158
    · exact absurd hexit c115
  | succ n ih =>
    intro i h hi hh hv
    have hcont : ¬ (10 : Int32) ≤ nI i := nI_ge (b := 10) (by omega) (by omega)
    have hb : vp_in (nI i) 10 := vp_in_nI (by omega) (by omega)
    have hb1 : vp_in (nI i - 1) 10 := by
      rw [show (1 : Int32) = nI 1 from rfl, pk_sub hv]
      exact vp_in_nI (by omega) (by omega)
    refine la_iload_n (i := 2) B dX3_sumSpends_112 rfl rfl ?_
    refine la_bipush (v := 10) B dX3_sumSpends_113 (by decide) ?_
    refine la_icmp_ge (tgt := 158) B dX3_sumSpends_115 (by decide) (fun c115 => ?_) (fun c115 => ?_)
    · exact absurd c115 hcont
    · refine la_aload_n (i := 0) B dX3_sumSpends_118 rfl rfl ?_
      refine la_get (i := 27) (ci := 3) (j := 5) (C := RX3) (T := TX3) (N := 7) B (lh_nc_lt (by decide)) rfl ix_3 rfl (by decide) wd_253 rfl rfl dX3_sumSpends_119 ?_
      refine la_iload_n (i := 2) B dX3_sumSpends_122 rfl rfl ?_
      refine la_dup2 B dX3_sumSpends_123 rfl rfl ?_
      refine la_iald (i := 28) (v := h 28 (nI i).toNatClampNeg) B (lh_nc_lt (by decide)) rfl hb rfl dX3_sumSpends_124 ?_
      refine la_aload_n (i := 0) B dX3_sumSpends_125 rfl rfl ?_
      refine la_get (i := 27) (ci := 3) (j := 5) (C := RX3) (T := TX3) (N := 7) B (lh_nc_lt (by decide)) rfl ix_3 rfl (by decide) wd_253 rfl rfl dX3_sumSpends_126 ?_
      refine la_iload_n (i := 2) B dX3_sumSpends_129 rfl rfl ?_
      refine la_iconst (v := 1) B dX3_sumSpends_130 (by decide) ?_
      refine la_isub B dX3_sumSpends_131 ?_
      refine la_iald (i := 28) (v := h 28 ((nI i) - 1).toNatClampNeg) B (lh_nc_lt (by decide)) rfl hb1 rfl dX3_sumSpends_132 ?_
      refine la_iadd B dX3_sumSpends_133 ?_
      refine la_iast (i := 28) B (lh_nc_lt (by decide)) rfl rfl hb dX3_sumSpends_134 ?_
      refine la_aload_n (i := 0) B dX3_sumSpends_135 rfl rfl ?_
      refine la_get (i := 27) (ci := 3) (j := 6) (C := RX3) (T := TX3) (N := 7) B (lh_nc_lt (by decide)) rfl ix_3 rfl (by decide) wd_254 rfl rfl dX3_sumSpends_136 ?_
      refine la_iload_n (i := 2) B dX3_sumSpends_139 rfl rfl ?_
      refine la_dup2 B dX3_sumSpends_140 rfl rfl ?_
      refine la_iald (i := 29) (v := h 29 (nI i).toNatClampNeg) B (lh_nc_lt (by decide)) rfl hb rfl dX3_sumSpends_141 ?_
      refine la_aload_n (i := 0) B dX3_sumSpends_142 rfl rfl ?_
      refine la_get (i := 27) (ci := 3) (j := 6) (C := RX3) (T := TX3) (N := 7) B (lh_nc_lt (by decide)) rfl ix_3 rfl (by decide) wd_254 rfl rfl dX3_sumSpends_143 ?_
      refine la_iload_n (i := 2) B dX3_sumSpends_146 rfl rfl ?_
      refine la_iconst (v := 1) B dX3_sumSpends_147 (by decide) ?_
      refine la_isub B dX3_sumSpends_148 ?_
      refine la_iald (i := 29) (v := h 29 ((nI i) - 1).toNatClampNeg) B (lh_nc_lt (by decide)) rfl hb1 rfl dX3_sumSpends_149 ?_
      refine la_iadd B dX3_sumSpends_150 ?_
      refine la_iast (i := 29) B (lh_nc_lt (by decide)) rfl rfl hb dX3_sumSpends_151 ?_
      refine la_iincp B dX3_sumSpends_152 rfl (by decide) ?_
      refine la_goto (tgt := 112) B dX3_sumSpends_155 (by decide) ?_
      refine la_sub (lv2 := [(0, .ref (ad 27)), (2, .int (nI (i + 1)))]) ⟨rfl, (congrArg (fun z => some (Value.int z)) (nI_1 i)), trivial⟩ (by simp [Value.category]) ?_
      exact ih (i + 1) (lh_up (lh_up h 28 ((nI i).toNatClampNeg) (((h 28 (nI i).toNatClampNeg) + (h 28 ((nI i) - 1).toNatClampNeg)))) 29 ((nI i).toNatClampNeg) (((h 29 (nI i).toNatClampNeg) + (h 29 ((nI i) - 1).toNatClampNeg)))) (by omega) (by rw [hh]; simp only [LX3_sum3_h]) (by omega)

theorem lh_hq {h0 h : lh_HS} {b : Int32} (f : lh_fr h0 h) (hb : lh_ix b (lh_N h0 4)) : lh_ix b (lh_N h 4) := by
  unfold lh_N at *
  rw [f 4 (by decide) (by decide)]
  exact hb
def LX3_sum2_h  : Nat → Nat → lh_HS → lh_HS
  | 0, i, h => (LX3_sum3_h 9 1 h)
  | n + 1, i, h => (if (fX0_standsFor h (nI i) (h 27 1)) = 0 then (LX3_sum2_h n (i + 1) h) else (LX3_sum2_h n (i + 1) (lh_up (lh_up h 28 ((h 18 (nI i).toNatClampNeg).toNatClampNeg) (((h 28 (h 18 (nI i).toNatClampNeg).toNatClampNeg) + (fX2_spendEnd h (nI i) 0)))) 29 ((h 18 (nI i).toNatClampNeg).toNatClampNeg) (((h 29 (h 18 (nI i).toNatClampNeg).toNatClampNeg) + (fX2_spendEnd (lh_up h 28 ((h 18 (nI i).toNatClampNeg).toNatClampNeg) (((h 28 (h 18 (nI i).toNatClampNeg).toNatClampNeg) + (fX2_spendEnd h (nI i) 0)))) (nI i) 1))))))
set_option maxHeartbeats 4000000 in
set_option maxRecDepth 100000 in
theorem lp_X3_sum2 {l : Launch} {D : va_G} {ad : Nat → Nat} {bs : Nat} {cI cZ : ClassId} {t9 : Nat} {k : Bool} {p : Program} {e : Env} {s : State} {m : MethodId} {args : Array Value} {below : List Frame} {meth : Method} {c : Code}  {h2 : lh_HS} (B : lh_BK p (lh_rm 2) s m args meth c D ad bs cI cZ t9 k "LightHours$Ledger" cX3_sumSpends 3 none) {h0 : lh_HS} (I0 : lh_I h0) {sv : Int32} (hs : lh_ix sv (lh_N h0 3)) {N : Nat} (hN0 : N = lh_N h0 4) :
    ∀ (n i : Nat) (h : lh_HS), i + n = N → h2 = LX3_sum2_h n i h → lh_fr h0 h ∧ h 27 1 = sv → lh_AJ p l e (lh_rm 2) s m args below meth c D ad bs cI cZ k 3 (MQ below (lh_Qv D ad bs cI cZ k h2) args s 0 0 (lh_A bs)) 38 [(0, .ref (ad 27)), (1, .ref (ad 4)), (2, .int (nI i))] [] h := by
  intro n
  induction n with
  | zero =>
    intro i h hi hh hv
    have hM := I0.1.2.2.1.2
    have hN : h 4 0 = nI N := by rw [hv.1 4 (by decide) (by decide), hN0]; exact I0.1.2.2.1.1
    have hexit : h 4 0 ≤ nI i := by rw [hN]; exact nI_le (by omega) (by omega)
    refine la_iload_n (i := 2) B dX3_sumSpends_38 rfl rfl ?_
    refine la_aload_n (i := 1) B dX3_sumSpends_39 rfl rfl ?_
    refine la_get (i := 4) (ci := 0) (j := 0) (v := .int (h 4 0)) (C := RX0) (T := TX0) (N := 6) B (lh_nc_lt (by decide)) rfl ix_0 rfl (by decide) wd_134 rfl rfl dX3_sumSpends_40 ?_
    refine la_icmp_ge (tgt := 110) B dX3_sumSpends_43 (by decide) (fun c43 => ?_) (fun c43 => ?_)
    · refine la_iconst (v := 1) B dX3_sumSpends_110 (by decide) ?_
      refine la_istore_n (i := 2) B dX3_sumSpends_111 rfl (by decide) ?_
      refine la_sub (lv2 := [(0, .ref (ad 27)), (2, .int (nI 1))]) ⟨rfl, rfl, trivial⟩ (by simp [Value.category]) ?_
      exact lp_X3_sum3 B 9 1 h rfl (by rw [hh]; simp only [LX3_sum2_h]) (Nat.le_refl 1)
    · exact absurd hexit c43
  | succ n ih =>
    intro i h hi hh hv
    have hM := I0.1.2.2.1.2
    have hN : h 4 0 = nI N := by rw [hv.1 4 (by decide) (by decide), hN0]; exact I0.1.2.2.1.1
    have hcont : ¬ h 4 0 ≤ nI i := by rw [hN]; exact nI_ge (by omega) (by omega)
    have hb : vp_in (nI i) 30 := vp_in_nI (by omega) (by omega)
    have hq : lh_ix (nI i) (lh_N h0 4) := lh_ix_nI (by omega)
    have hy : vp_in (h 18 (nI i).toNatClampNeg) 10 := by
      rw [hv.1 18 (by decide) (by decide), nI_clamp (by omega)]
      exact (I0.2.2.2.1 i (by omega)).2.2.1.vp (Nat.le_refl _) (by omega)
    refine la_iload_n (i := 2) B dX3_sumSpends_38 rfl rfl ?_
    refine la_aload_n (i := 1) B dX3_sumSpends_39 rfl rfl ?_
    refine la_get (i := 4) (ci := 0) (j := 0) (v := .int (h 4 0)) (C := RX0) (T := TX0) (N := 6) B (lh_nc_lt (by decide)) rfl ix_0 rfl (by decide) wd_134 rfl rfl dX3_sumSpends_40 ?_
    refine la_icmp_ge (tgt := 110) B dX3_sumSpends_43 (by decide) (fun c43 => ?_) (fun c43 => ?_)
    · exact absurd c43 hcont
    · refine la_aload_n (i := 1) B dX3_sumSpends_46 rfl rfl ?_
      refine la_iload_n (i := 2) B dX3_sumSpends_47 rfl rfl ?_
      refine la_aload_n (i := 0) B dX3_sumSpends_48 rfl rfl ?_
      refine la_get (i := 27) (ci := 3) (j := 1) (v := .int (h 27 1)) (C := RX3) (T := TX3) (N := 7) B (lh_nc_lt (by decide)) rfl ix_3 rfl (by decide) wd_248 rfl rfl dX3_sumSpends_49 ?_
      refine la_callVi (i := 4) B (ct_X0_standsFor h (nI i) (h 27 1) hb) lk_X3_53 (by decide) (lh_nc_lt (by decide)) rfl rfl rfl (by simp [Value.category]) dX3_sumSpends_52 ?_
      refine la_if_eq (tgt := 104) B dX3_sumSpends_55 (by decide) (fun c55 => ?_) (fun c55 => ?_)
      · refine la_iincp B dX3_sumSpends_104 rfl (by decide) ?_
        refine la_goto (tgt := 38) B dX3_sumSpends_107 (by decide) ?_
        refine la_sub (lv2 := [(0, .ref (ad 27)), (1, .ref (ad 4)), (2, .int (nI (i + 1)))]) ⟨rfl, rfl, (congrArg (fun z => some (Value.int z)) (nI_1 i)), trivial⟩ (by simp [Value.category]) ?_
        exact ih (i + 1) h (by omega) (by rw [hh]; simp only [LX3_sum2_h, if_pos c55]) hv
      · refine la_aload_n (i := 0) B dX3_sumSpends_58 rfl rfl ?_
        refine la_get (i := 27) (ci := 3) (j := 5) (C := RX3) (T := TX3) (N := 7) B (lh_nc_lt (by decide)) rfl ix_3 rfl (by decide) wd_253 rfl rfl dX3_sumSpends_59 ?_
        refine la_aload_n (i := 1) B dX3_sumSpends_62 rfl rfl ?_
        refine la_get (i := 4) (ci := 0) (j := 3) (C := RX0) (T := TX0) (N := 6) B (lh_nc_lt (by decide)) rfl ix_0 rfl (by decide) wd_143 rfl rfl dX3_sumSpends_63 ?_
        refine la_iload_n (i := 2) B dX3_sumSpends_66 rfl rfl ?_
        refine la_iald (i := 18) (v := h 18 (nI i).toNatClampNeg) B (lh_nc_lt (by decide)) rfl hb rfl dX3_sumSpends_67 ?_
        refine la_dup2 B dX3_sumSpends_68 rfl rfl ?_
        refine la_iald (i := 28) (v := h 28 (h 18 (nI i).toNatClampNeg).toNatClampNeg) B (lh_nc_lt (by decide)) rfl hy rfl dX3_sumSpends_69 ?_
        refine la_aload_n (i := 0) B dX3_sumSpends_70 rfl rfl ?_
        refine la_get (i := 27) (ci := 3) (j := 0) (C := RX3) (T := TX3) (N := 7) B (lh_nc_lt (by decide)) rfl ix_3 rfl (by decide) wd_247 rfl rfl dX3_sumSpends_71 ?_
        refine la_iload_n (i := 2) B dX3_sumSpends_74 rfl rfl ?_
        refine la_iconst (v := 0) B dX3_sumSpends_75 (by decide) ?_
        have hf1 : lh_fr h0 h := hv.1
        have hp1 := lh_spendpre (I0.fr hf1) (lh_hq hf1 hq)
        refine la_callVi (i := 1) B (ct_X2_spendEnd h (nI i) 0 hp1.1 hp1.2.1 hp1.2.2) lk_X3_60 (by decide) (lh_nc_lt (by decide)) rfl rfl rfl (by simp [Value.category]) dX3_sumSpends_76 ?_
        refine la_iadd B dX3_sumSpends_79 ?_
        refine la_iast (i := 28) B (lh_nc_lt (by decide)) rfl rfl hy dX3_sumSpends_80 ?_
        refine la_aload_n (i := 0) B dX3_sumSpends_81 rfl rfl ?_
        refine la_get (i := 27) (ci := 3) (j := 6) (C := RX3) (T := TX3) (N := 7) B (lh_nc_lt (by decide)) rfl ix_3 rfl (by decide) wd_254 rfl rfl dX3_sumSpends_82 ?_
        refine la_aload_n (i := 1) B dX3_sumSpends_85 rfl rfl ?_
        refine la_get (i := 4) (ci := 0) (j := 3) (C := RX0) (T := TX0) (N := 6) B (lh_nc_lt (by decide)) rfl ix_0 rfl (by decide) wd_143 rfl rfl dX3_sumSpends_86 ?_
        refine la_iload_n (i := 2) B dX3_sumSpends_89 rfl rfl ?_
        refine la_iald (i := 18) (v := h 18 (nI i).toNatClampNeg) B (lh_nc_lt (by decide)) rfl hb rfl dX3_sumSpends_90 ?_
        refine la_dup2 B dX3_sumSpends_91 rfl rfl ?_
        refine la_iald (i := 29) (v := h 29 (h 18 (nI i).toNatClampNeg).toNatClampNeg) B (lh_nc_lt (by decide)) rfl hy rfl dX3_sumSpends_92 ?_
        refine la_aload_n (i := 0) B dX3_sumSpends_93 rfl rfl ?_
        refine la_get (i := 27) (ci := 3) (j := 0) (C := RX3) (T := TX3) (N := 7) B (lh_nc_lt (by decide)) rfl ix_3 rfl (by decide) wd_247 rfl rfl dX3_sumSpends_94 ?_
        refine la_iload_n (i := 2) B dX3_sumSpends_97 rfl rfl ?_
        refine la_iconst (v := 1) B dX3_sumSpends_98 (by decide) ?_
        have hf2 : lh_fr h0 (lh_up h 28 ((h 18 (nI i).toNatClampNeg).toNatClampNeg) (((h 28 (h 18 (nI i).toNatClampNeg).toNatClampNeg) + (fX2_spendEnd h (nI i) 0)))) := (hv.1.up (i := 28) (by decide))
        have hp2 := lh_spendpre (I0.fr hf2) (lh_hq hf2 hq)
        refine la_callVi (i := 1) B (ct_X2_spendEnd (lh_up h 28 ((h 18 (nI i).toNatClampNeg).toNatClampNeg) (((h 28 (h 18 (nI i).toNatClampNeg).toNatClampNeg) + (fX2_spendEnd h (nI i) 0)))) (nI i) 1 hp2.1 hp2.2.1 hp2.2.2) lk_X3_60 (by decide) (lh_nc_lt (by decide)) rfl rfl rfl (by simp [Value.category]) dX3_sumSpends_99 ?_
        refine la_iadd B dX3_sumSpends_102 ?_
        refine la_iast (i := 29) B (lh_nc_lt (by decide)) rfl rfl hy dX3_sumSpends_103 ?_
        refine la_iincp B dX3_sumSpends_104 rfl (by decide) ?_
        refine la_goto (tgt := 38) B dX3_sumSpends_107 (by decide) ?_
        refine la_sub (lv2 := [(0, .ref (ad 27)), (1, .ref (ad 4)), (2, .int (nI (i + 1)))]) ⟨rfl, rfl, (congrArg (fun z => some (Value.int z)) (nI_1 i)), trivial⟩ (by simp [Value.category]) ?_
        exact ih (i + 1) (lh_up (lh_up h 28 ((h 18 (nI i).toNatClampNeg).toNatClampNeg) (((h 28 (h 18 (nI i).toNatClampNeg).toNatClampNeg) + (fX2_spendEnd h (nI i) 0)))) 29 ((h 18 (nI i).toNatClampNeg).toNatClampNeg) (((h 29 (h 18 (nI i).toNatClampNeg).toNatClampNeg) + (fX2_spendEnd (lh_up h 28 ((h 18 (nI i).toNatClampNeg).toNatClampNeg) (((h 28 (h 18 (nI i).toNatClampNeg).toNatClampNeg) + (fX2_spendEnd h (nI i) 0)))) (nI i) 1)))) (by omega) (by rw [hh]; simp only [LX3_sum2_h, if_neg c55]) ⟨((hv.1.up (i := 28) (by decide)).up (i := 29) (by decide)), by rw [← hv.2]; simp only [lh_up_ne (show (27 : Nat) ≠ 28 ∨ (1 : Nat) ≠ _ from Or.inl (by decide)), lh_up_ne (show (27 : Nat) ≠ 29 ∨ (1 : Nat) ≠ _ from Or.inl (by decide))]⟩

def LX3_sum1_h  : Nat → Nat → lh_HS → lh_HS
  | 0, i, h => (LX3_sum2_h (lh_N h 4) 0 h)
  | n + 1, i, h => (LX3_sum1_h n (i + 1) (lh_up (lh_up h 28 ((nI i).toNatClampNeg) 0) 29 ((nI i).toNatClampNeg) 0))
set_option maxHeartbeats 4000000 in
set_option maxRecDepth 100000 in
theorem lp_X3_sum1 {l : Launch} {D : va_G} {ad : Nat → Nat} {bs : Nat} {cI cZ : ClassId} {t9 : Nat} {k : Bool} {p : Program} {e : Env} {s : State} {m : MethodId} {args : Array Value} {below : List Frame} {meth : Method} {c : Code}  {h2 : lh_HS} (B : lh_BK p (lh_rm 2) s m args meth c D ad bs cI cZ t9 k "LightHours$Ledger" cX3_sumSpends 3 none) {h0 : lh_HS} (I0 : lh_I h0) {sv : Int32} (hs : lh_ix sv (lh_N h0 3)) :
    ∀ (n i : Nat) (h : lh_HS), i + n = 10 → h2 = LX3_sum1_h n i h → lh_fr h0 h ∧ h 27 1 = sv → lh_AJ p l e (lh_rm 2) s m args below meth c D ad bs cI cZ k 3 (MQ below (lh_Qv D ad bs cI cZ k h2) args s 0 0 (lh_A bs)) 2 [(0, .ref (ad 27)), (1, .int (nI i))] [] h := by
  intro n
  induction n with
  | zero =>
    intro i h hi hh hv
    have hexit : (10 : Int32) ≤ nI i := nI_le (a := 10) (by omega) (by omega)
    refine la_iload_n (i := 1) B dX3_sumSpends_2 rfl rfl ?_
    refine la_bipush (v := 10) B dX3_sumSpends_3 (by decide) ?_
    refine la_icmp_ge (tgt := 28) B dX3_sumSpends_5 (by decide) (fun c5 => ?_) (fun c5 => ?_)
    · refine la_aload_n (i := 0) B dX3_sumSpends_28 rfl rfl ?_
      refine la_get (i := 27) (ci := 3) (j := 0) (C := RX3) (T := TX3) (N := 7) B (lh_nc_lt (by decide)) rfl ix_3 rfl (by decide) wd_247 rfl rfl dX3_sumSpends_29 ?_
      refine la_get (i := 1) (ci := 2) (j := 2) (C := RX2) (T := TX2) (N := 5) B (lh_nc_lt (by decide)) rfl ix_2 rfl (by decide) wd_221 rfl rfl dX3_sumSpends_32 ?_
      refine la_astore_n (i := 1) B dX3_sumSpends_35 rfl (by decide) ?_
      refine la_iconst (v := 0) B dX3_sumSpends_36 (by decide) ?_
      refine la_istore_n (i := 2) B dX3_sumSpends_37 rfl (by decide) ?_
      refine la_sub (lv2 := [(0, .ref (ad 27)), (1, .ref (ad 4)), (2, .int (nI 0))]) ⟨rfl, rfl, rfl, trivial⟩ (by simp [Value.category]) ?_
      exact lp_X3_sum2 B I0 hs (hv.1.N (by decide) (by decide)) _ 0 h (Nat.zero_add _) (by rw [hh]; simp only [LX3_sum1_h]) hv
    · exact absurd hexit c5
  | succ n ih =>
    intro i h hi hh hv
    have hcont : ¬ (10 : Int32) ≤ nI i := nI_ge (b := 10) (by omega) (by omega)
    have hb : vp_in (nI i) 10 := vp_in_nI (by omega) (by omega)
    refine la_iload_n (i := 1) B dX3_sumSpends_2 rfl rfl ?_
    refine la_bipush (v := 10) B dX3_sumSpends_3 (by decide) ?_
    refine la_icmp_ge (tgt := 28) B dX3_sumSpends_5 (by decide) (fun c5 => ?_) (fun c5 => ?_)
    · exact absurd c5 hcont
    · refine la_aload_n (i := 0) B dX3_sumSpends_8 rfl rfl ?_
      refine la_get (i := 27) (ci := 3) (j := 5) (C := RX3) (T := TX3) (N := 7) B (lh_nc_lt (by decide)) rfl ix_3 rfl (by decide) wd_253 rfl rfl dX3_sumSpends_9 ?_
      refine la_iload_n (i := 1) B dX3_sumSpends_12 rfl rfl ?_
      refine la_iconst (v := 0) B dX3_sumSpends_13 (by decide) ?_
      refine la_iast (i := 28) B (lh_nc_lt (by decide)) rfl rfl hb dX3_sumSpends_14 ?_
      refine la_aload_n (i := 0) B dX3_sumSpends_15 rfl rfl ?_
      refine la_get (i := 27) (ci := 3) (j := 6) (C := RX3) (T := TX3) (N := 7) B (lh_nc_lt (by decide)) rfl ix_3 rfl (by decide) wd_254 rfl rfl dX3_sumSpends_16 ?_
      refine la_iload_n (i := 1) B dX3_sumSpends_19 rfl rfl ?_
      refine la_iconst (v := 0) B dX3_sumSpends_20 (by decide) ?_
      refine la_iast (i := 29) B (lh_nc_lt (by decide)) rfl rfl hb dX3_sumSpends_21 ?_
      refine la_iincp B dX3_sumSpends_22 rfl (by decide) ?_
      refine la_goto (tgt := 2) B dX3_sumSpends_25 (by decide) ?_
      refine la_sub (lv2 := [(0, .ref (ad 27)), (1, .int (nI (i + 1)))]) ⟨rfl, (congrArg (fun z => some (Value.int z)) (nI_1 i)), trivial⟩ (by simp [Value.category]) ?_
      exact ih (i + 1) (lh_up (lh_up h 28 ((nI i).toNatClampNeg) 0) 29 ((nI i).toNatClampNeg) 0) (by omega) (by rw [hh]; simp only [LX3_sum1_h]) ⟨((hv.1.up (i := 28) (by decide)).up (i := 29) (by decide)), by rw [← hv.2]; simp only [lh_up_ne (show (27 : Nat) ≠ 28 ∨ (1 : Nat) ≠ _ from Or.inl (by decide)), lh_up_ne (show (27 : Nat) ≠ 29 ∨ (1 : Nat) ≠ _ from Or.inl (by decide))]⟩

def gX3_sumSpends (h : lh_HS)  : lh_HS := (LX3_sum1_h 10 0 h)
set_option maxHeartbeats 4000000 in
set_option maxRecDepth 100000 in
theorem ct_X3_sumSpends {l : Launch} {D : va_G} {ad : Nat → Nat} {bs : Nat} {cI cZ : ClassId} {t9 : Nat} {k : Bool} (h : lh_HS)  (I : lh_I h) (hs : lh_ix (h 27 1) (lh_N h 3)) : lh_CTv l D ad bs cI cZ t9 k yX3_sumSpends cX3_sumSpends 3 2 [.ref (ad 27)] h (gX3_sumSpends h ) := by
  refine lh_ofv (lv := [(0, .ref (ad 27))]) (by decide) (Nat.le_of_ble_eq_true rfl) rfl (by simp [Value.category]) ⟨rfl, trivial⟩ ?_
  intro p e s m args below meth c B
  have B : lh_BK p (lh_rm 2) s m args meth c D ad bs cI cZ t9 k "LightHours$Ledger" cX3_sumSpends 3 none := B
  refine la_iconst (v := 0) B dX3_sumSpends_0 (by decide) ?_
  refine la_istore_n (i := 1) B dX3_sumSpends_1 rfl (by decide) ?_
  refine la_sub (lv2 := [(0, .ref (ad 27)), (1, .int (nI 0))]) ⟨rfl, rfl, trivial⟩ (by simp [Value.category]) ?_
  exact lp_X3_sum1 B I hs _ 0 h (Nat.zero_add _) (by simp only [gX3_sumSpends]) ⟨lh_fr.rf h, rfl⟩

def LX3_nar_h  : Nat → Nat → Int32 → Int32 → lh_HS → lh_HS
  | 0, i, le, gr, h => (if le ≤ gr then lh_up (lh_up (lh_up h 27 2 0) 27 3 le) 27 4 gr else lh_up (lh_up (lh_up h 27 2 1) 27 3 (h 14 (h 27 1).toNatClampNeg)) 27 4 (h 15 (h 27 1).toNatClampNeg))
  | n + 1, i, le, gr, h => (if (h 21 (nI i).toNatClampNeg) = (h 27 1) then (LX3_nar_h n (i + 1) (if le < ((lh_T (h 23 (nI i).toNatClampNeg).toNatClampNeg) - (h 29 (h 22 (nI i).toNatClampNeg).toNatClampNeg)) then ((lh_T (h 23 (nI i).toNatClampNeg).toNatClampNeg) - (h 29 (h 22 (nI i).toNatClampNeg).toNatClampNeg)) else le) (if (((lh_T ((h 23 (nI i).toNatClampNeg) + 1).toNatClampNeg) - 1) - (h 28 (h 22 (nI i).toNatClampNeg).toNatClampNeg)) < gr then (((lh_T ((h 23 (nI i).toNatClampNeg) + 1).toNatClampNeg) - 1) - (h 28 (h 22 (nI i).toNatClampNeg).toNatClampNeg)) else gr) h) else (LX3_nar_h n (i + 1) le gr h))
set_option maxHeartbeats 4000000 in
set_option maxRecDepth 100000 in
theorem lp_X3_nar {l : Launch} {D : va_G} {ad : Nat → Nat} {bs : Nat} {cI cZ : ClassId} {t9 : Nat} {k : Bool} {p : Program} {e : Env} {s : State} {m : MethodId} {args : Array Value} {below : List Frame} {meth : Method} {c : Code}  {h2 : lh_HS} (B : lh_BK p (lh_rm 1) s m args meth c D ad bs cI cZ t9 k "LightHours$Ledger" cX3_narrowPast 7 none) {h0 : lh_HS} (I0 : lh_I h0) {sv : Int32} (hs : lh_ix sv (lh_N h0 3)) {N : Nat} (hN0 : N = lh_N h0 5) :
    ∀ (n i : Nat) (le : Int32) (gr : Int32) (h : lh_HS), i + n = N → h2 = LX3_nar_h n i le gr h → lh_fr h0 h ∧ h 27 1 = sv → lh_AJ p l e (lh_rm 1) s m args below meth c D ad bs cI cZ k 7 (MQ below (lh_Qv D ad bs cI cZ k h2) args s 0 0 (lh_A bs)) 43 [(0, .ref (ad 27)), (1, .int le), (2, .int gr), (3, .ref (ad 5)), (4, .int (nI i))] [] h := by
  intro n
  induction n with
  | zero =>
    intro i le gr h hi hh hv
    have hM := I0.1.2.2.2.1.2
    have hN : h 5 0 = nI N := by rw [hv.1 5 (by decide) (by decide), hN0]; exact I0.1.2.2.2.1.1
    have hexit : h 5 0 ≤ nI i := by rw [hN]; exact nI_le (by omega) (by omega)
    have h8 : vp_in (h 27 1) 8 := by rw [hv.2]; exact hs.vp I0.1.2.1.2 (by omega)
    refine la_iload B dX3_narrowPast_43 rfl ?_
    refine la_aload_n (i := 3) B dX3_narrowPast_45 rfl rfl ?_
    refine la_get (i := 5) (ci := 6) (j := 0) (v := .int (h 5 0)) (C := RX6) (T := TX6) (N := 4) B (lh_nc_lt (by decide)) rfl ix_6 rfl (by decide) wd_170 rfl rfl dX3_narrowPast_46 ?_
    refine la_icmp_ge (tgt := 132) B dX3_narrowPast_49 (by decide) (fun c49 => ?_) (fun c49 => ?_)
    · refine la_aload_n (i := 0) B dX3_narrowPast_132 rfl rfl ?_
      refine la_iload_n (i := 1) B dX3_narrowPast_133 rfl rfl ?_
      refine la_iload_n (i := 2) B dX3_narrowPast_134 rfl rfl ?_
      refine la_icmp_le (tgt := 142) B dX3_narrowPast_135 (by decide) (fun c135 => ?_) (fun c135 => ?_)
      · refine la_iconst (v := 0) B dX3_narrowPast_142 (by decide) ?_
        refine la_put (i := 27) (ci := 3) (j := 2) (C := RX3) (T := TX3) (N := 7) (ty0 := tyX3) B (lh_nc_lt (by decide)) rfl rfl ix_3 tyX3_ok nmX3 rfl (by decide) wd_249 rfl rfl rfl rfl rfl (Nat.le_of_ble_eq_true rfl) dX3_narrowPast_143 ?_
        refine la_aload_n (i := 0) B dX3_narrowPast_146 rfl rfl ?_
        refine la_aload_n (i := 0) B dX3_narrowPast_147 rfl rfl ?_
        refine la_get (i := 27) (ci := 3) (j := 2) (v := .int 0) (C := RX3) (T := TX3) (N := 7) B (lh_nc_lt (by decide)) rfl ix_3 rfl (by decide) wd_249 rfl rfl dX3_narrowPast_148 ?_
        refine la_if_eq (tgt := 172) B dX3_narrowPast_151 (by decide) (fun c151 => ?_) (fun c151 => ?_)
        · refine la_iload_n (i := 1) B dX3_narrowPast_172 rfl rfl ?_
          refine la_put (i := 27) (ci := 3) (j := 3) (C := RX3) (T := TX3) (N := 7) (ty0 := tyX3) B (lh_nc_lt (by decide)) rfl rfl ix_3 tyX3_ok nmX3 rfl (by decide) wd_251 rfl rfl rfl rfl rfl (Nat.le_of_ble_eq_true rfl) dX3_narrowPast_173 ?_
          refine la_aload_n (i := 0) B dX3_narrowPast_176 rfl rfl ?_
          refine la_aload_n (i := 0) B dX3_narrowPast_177 rfl rfl ?_
          refine la_get (i := 27) (ci := 3) (j := 2) (v := .int 0) (C := RX3) (T := TX3) (N := 7) B (lh_nc_lt (by decide)) rfl ix_3 rfl (by decide) wd_249 rfl rfl dX3_narrowPast_178 ?_
          refine la_if_eq (tgt := 202) B dX3_narrowPast_181 (by decide) (fun c181 => ?_) (fun c181 => ?_)
          · refine la_iload_n (i := 2) B dX3_narrowPast_202 rfl rfl ?_
            refine la_put (i := 27) (ci := 3) (j := 4) (C := RX3) (T := TX3) (N := 7) (ty0 := tyX3) B (lh_nc_lt (by decide)) rfl rfl ix_3 tyX3_ok nmX3 rfl (by decide) wd_252 rfl rfl rfl rfl rfl (Nat.le_of_ble_eq_true rfl) dX3_narrowPast_203 ?_
            exact la_return B rfl (by rw [hh]; simp only [LX3_nar_h, if_pos c135]) dX3_narrowPast_206
          · exact absurd c181 (by decide)
        · exact absurd c151 (by decide)
      · refine la_iconst (v := 1) B dX3_narrowPast_138 (by decide) ?_
        refine la_goto (tgt := 143) B dX3_narrowPast_139 (by decide) ?_
        refine la_put (i := 27) (ci := 3) (j := 2) (C := RX3) (T := TX3) (N := 7) (ty0 := tyX3) B (lh_nc_lt (by decide)) rfl rfl ix_3 tyX3_ok nmX3 rfl (by decide) wd_249 rfl rfl rfl rfl rfl (Nat.le_of_ble_eq_true rfl) dX3_narrowPast_143 ?_
        refine la_aload_n (i := 0) B dX3_narrowPast_146 rfl rfl ?_
        refine la_aload_n (i := 0) B dX3_narrowPast_147 rfl rfl ?_
        refine la_get (i := 27) (ci := 3) (j := 2) (v := .int 1) (C := RX3) (T := TX3) (N := 7) B (lh_nc_lt (by decide)) rfl ix_3 rfl (by decide) wd_249 rfl rfl dX3_narrowPast_148 ?_
        refine la_if_eq (tgt := 172) B dX3_narrowPast_151 (by decide) (fun c151 => ?_) (fun c151 => ?_)
        · exact absurd c151 (by decide)
        · refine la_aload_n (i := 0) B dX3_narrowPast_154 rfl rfl ?_
          refine la_get (i := 27) (ci := 3) (j := 0) (C := RX3) (T := TX3) (N := 7) B (lh_nc_lt (by decide)) rfl ix_3 rfl (by decide) wd_247 rfl rfl dX3_narrowPast_155 ?_
          refine la_get (i := 1) (ci := 2) (j := 1) (C := RX2) (T := TX2) (N := 5) B (lh_nc_lt (by decide)) rfl ix_2 rfl (by decide) wd_217 rfl rfl dX3_narrowPast_158 ?_
          refine la_get (i := 3) (ci := 5) (j := 6) (C := RX5) (T := TX5) (N := 8) B (lh_nc_lt (by decide)) rfl ix_5 rfl (by decide) wd_105 rfl rfl dX3_narrowPast_161 ?_
          refine la_aload_n (i := 0) B dX3_narrowPast_164 rfl rfl ?_
          refine la_get (i := 27) (ci := 3) (j := 1) (v := .int (h 27 1)) (C := RX3) (T := TX3) (N := 7) B (lh_nc_lt (by decide)) rfl ix_3 rfl (by decide) wd_248 rfl rfl dX3_narrowPast_165 ?_
          refine la_iald (i := 14) (v := h 14 (h 27 1).toNatClampNeg) B (lh_nc_lt (by decide)) rfl h8 rfl dX3_narrowPast_168 ?_
          refine la_goto (tgt := 173) B dX3_narrowPast_169 (by decide) ?_
          refine la_put (i := 27) (ci := 3) (j := 3) (C := RX3) (T := TX3) (N := 7) (ty0 := tyX3) B (lh_nc_lt (by decide)) rfl rfl ix_3 tyX3_ok nmX3 rfl (by decide) wd_251 rfl rfl rfl rfl rfl (Nat.le_of_ble_eq_true rfl) dX3_narrowPast_173 ?_
          refine la_aload_n (i := 0) B dX3_narrowPast_176 rfl rfl ?_
          refine la_aload_n (i := 0) B dX3_narrowPast_177 rfl rfl ?_
          refine la_get (i := 27) (ci := 3) (j := 2) (v := .int 1) (C := RX3) (T := TX3) (N := 7) B (lh_nc_lt (by decide)) rfl ix_3 rfl (by decide) wd_249 rfl rfl dX3_narrowPast_178 ?_
          refine la_if_eq (tgt := 202) B dX3_narrowPast_181 (by decide) (fun c181 => ?_) (fun c181 => ?_)
          · exact absurd c181 (by decide)
          · refine la_aload_n (i := 0) B dX3_narrowPast_184 rfl rfl ?_
            refine la_get (i := 27) (ci := 3) (j := 0) (C := RX3) (T := TX3) (N := 7) B (lh_nc_lt (by decide)) rfl ix_3 rfl (by decide) wd_247 rfl rfl dX3_narrowPast_185 ?_
            refine la_get (i := 1) (ci := 2) (j := 1) (C := RX2) (T := TX2) (N := 5) B (lh_nc_lt (by decide)) rfl ix_2 rfl (by decide) wd_217 rfl rfl dX3_narrowPast_188 ?_
            refine la_get (i := 3) (ci := 5) (j := 7) (C := RX5) (T := TX5) (N := 8) B (lh_nc_lt (by decide)) rfl ix_5 rfl (by decide) wd_108 rfl rfl dX3_narrowPast_191 ?_
            refine la_aload_n (i := 0) B dX3_narrowPast_194 rfl rfl ?_
            refine la_get (i := 27) (ci := 3) (j := 1) (v := .int (h 27 1)) (C := RX3) (T := TX3) (N := 7) B (lh_nc_lt (by decide)) rfl ix_3 rfl (by decide) wd_248 rfl rfl dX3_narrowPast_195 ?_
            refine la_iald (i := 15) (v := h 15 (h 27 1).toNatClampNeg) B (lh_nc_lt (by decide)) rfl h8 rfl dX3_narrowPast_198 ?_
            refine la_goto (tgt := 203) B dX3_narrowPast_199 (by decide) ?_
            refine la_put (i := 27) (ci := 3) (j := 4) (C := RX3) (T := TX3) (N := 7) (ty0 := tyX3) B (lh_nc_lt (by decide)) rfl rfl ix_3 tyX3_ok nmX3 rfl (by decide) wd_252 rfl rfl rfl rfl rfl (Nat.le_of_ble_eq_true rfl) dX3_narrowPast_203 ?_
            exact la_return B rfl (by rw [hh]; simp only [LX3_nar_h, if_neg c135]) dX3_narrowPast_206
    · exact absurd hexit c49
  | succ n ih =>
    intro i le gr h hi hh hv
    have hM := I0.1.2.2.2.1.2
    have hN : h 5 0 = nI N := by rw [hv.1 5 (by decide) (by decide), hN0]; exact I0.1.2.2.2.1.1
    have hcont : ¬ h 5 0 ≤ nI i := by rw [hN]; exact nI_ge (by omega) (by omega)
    have hb : vp_in (nI i) 12 := vp_in_nI (by omega) (by omega)
    obtain ⟨-, g22, g23⟩ := I0.2.2.2.2.1 i (by omega)
    have hy : vp_in (h 22 (nI i).toNatClampNeg) 10 := by
      rw [hv.1 22 (by decide) (by decide), nI_clamp (by omega)]
      exact g22.vp (Nat.le_refl _) (by omega)
    have ht : vp_in (h 23 (nI i).toNatClampNeg) 9 := by
      rw [hv.1 23 (by decide) (by decide), nI_clamp (by omega)]
      exact g23.vp (by omega) (by omega)
    have ht1 : vp_in (h 23 (nI i).toNatClampNeg + 1) 9 := by
      rw [hv.1 23 (by decide) (by decide), nI_clamp (by omega)]
      obtain ⟨j, hj, e⟩ := g23
      rw [e, nI_1]
      exact vp_in_nI (by omega) (by omega)
    refine la_iload B dX3_narrowPast_43 rfl ?_
    refine la_aload_n (i := 3) B dX3_narrowPast_45 rfl rfl ?_
    refine la_get (i := 5) (ci := 6) (j := 0) (v := .int (h 5 0)) (C := RX6) (T := TX6) (N := 4) B (lh_nc_lt (by decide)) rfl ix_6 rfl (by decide) wd_170 rfl rfl dX3_narrowPast_46 ?_
    refine la_icmp_ge (tgt := 132) B dX3_narrowPast_49 (by decide) (fun c49 => ?_) (fun c49 => ?_)
    · exact absurd c49 hcont
    · refine la_aload_n (i := 3) B dX3_narrowPast_52 rfl rfl ?_
      refine la_get (i := 5) (ci := 6) (j := 1) (C := RX6) (T := TX6) (N := 4) B (lh_nc_lt (by decide)) rfl ix_6 rfl (by decide) wd_173 rfl rfl dX3_narrowPast_53 ?_
      refine la_iload B dX3_narrowPast_56 rfl ?_
      refine la_iald (i := 21) (v := h 21 (nI i).toNatClampNeg) B (lh_nc_lt (by decide)) rfl hb rfl dX3_narrowPast_58 ?_
      refine la_aload_n (i := 0) B dX3_narrowPast_59 rfl rfl ?_
      refine la_get (i := 27) (ci := 3) (j := 1) (v := .int (h 27 1)) (C := RX3) (T := TX3) (N := 7) B (lh_nc_lt (by decide)) rfl ix_3 rfl (by decide) wd_248 rfl rfl dX3_narrowPast_60 ?_
      refine la_icmp_ne (tgt := 126) B dX3_narrowPast_63 (by decide) (fun c63 => ?_) (fun c63 => ?_)
      · refine la_iincp B dX3_narrowPast_126 rfl (by decide) ?_
        refine la_goto (tgt := 43) B dX3_narrowPast_129 (by decide) ?_
        refine la_sub (lv2 := [(0, .ref (ad 27)), (1, .int le), (2, .int gr), (3, .ref (ad 5)), (4, .int (nI (i + 1)))]) ⟨rfl, rfl, rfl, rfl, (congrArg (fun z => some (Value.int z)) (nI_1 i)), trivial⟩ (by simp [Value.category]) ?_
        exact ih (i + 1) le gr h (by omega) (by rw [hh]; simp only [LX3_nar_h, if_neg c63]) hv
      · refine la_aload_n (i := 3) B dX3_narrowPast_66 rfl rfl ?_
        refine la_get (i := 5) (ci := 6) (j := 3) (C := RX6) (T := TX6) (N := 4) B (lh_nc_lt (by decide)) rfl ix_6 rfl (by decide) wd_177 rfl rfl dX3_narrowPast_67 ?_
        refine la_iload B dX3_narrowPast_70 rfl ?_
        refine la_iald (i := 23) (v := h 23 (nI i).toNatClampNeg) B (lh_nc_lt (by decide)) rfl hb rfl dX3_narrowPast_72 ?_
        refine la_istore B dX3_narrowPast_73 (by decide) ?_
        refine la_aload_n (i := 3) B dX3_narrowPast_75 rfl rfl ?_
        refine la_get (i := 5) (ci := 6) (j := 2) (C := RX6) (T := TX6) (N := 4) B (lh_nc_lt (by decide)) rfl ix_6 rfl (by decide) wd_175 rfl rfl dX3_narrowPast_76 ?_
        refine la_iload B dX3_narrowPast_79 rfl ?_
        refine la_iald (i := 22) (v := h 22 (nI i).toNatClampNeg) B (lh_nc_lt (by decide)) rfl hb rfl dX3_narrowPast_81 ?_
        refine la_istore B dX3_narrowPast_82 (by decide) ?_
        refine la_iload_n (i := 1) B dX3_narrowPast_84 rfl rfl ?_
        refine la_getsN B dX3_narrowPast_85 ?_
        refine la_iload B dX3_narrowPast_88 rfl ?_
        refine la_ti B ht dX3_narrowPast_90 ?_
        refine la_aload_n (i := 0) B dX3_narrowPast_91 rfl rfl ?_
        refine la_get (i := 27) (ci := 3) (j := 6) (C := RX3) (T := TX3) (N := 7) B (lh_nc_lt (by decide)) rfl ix_3 rfl (by decide) wd_254 rfl rfl dX3_narrowPast_92 ?_
        refine la_iload B dX3_narrowPast_95 rfl ?_
        refine la_iald (i := 29) (v := h 29 (h 22 (nI i).toNatClampNeg).toNatClampNeg) B (lh_nc_lt (by decide)) rfl hy rfl dX3_narrowPast_97 ?_
        refine la_isub B dX3_narrowPast_98 ?_
        refine la_mmax B wd_416 wd_417 wd_45 wd_418 (by decide) (by decide) dX3_narrowPast_99 ?_
        refine la_istore_n (i := 1) B dX3_narrowPast_102 rfl (by decide) ?_
        refine la_iload_n (i := 2) B dX3_narrowPast_103 rfl rfl ?_
        refine la_getsN B dX3_narrowPast_104 ?_
        refine la_iload B dX3_narrowPast_107 rfl ?_
        refine la_iconst (v := 1) B dX3_narrowPast_109 (by decide) ?_
        refine la_iadd B dX3_narrowPast_110 ?_
        refine la_ti B ht1 dX3_narrowPast_111 ?_
        refine la_iconst (v := 1) B dX3_narrowPast_112 (by decide) ?_
        refine la_isub B dX3_narrowPast_113 ?_
        refine la_aload_n (i := 0) B dX3_narrowPast_114 rfl rfl ?_
        refine la_get (i := 27) (ci := 3) (j := 5) (C := RX3) (T := TX3) (N := 7) B (lh_nc_lt (by decide)) rfl ix_3 rfl (by decide) wd_253 rfl rfl dX3_narrowPast_115 ?_
        refine la_iload B dX3_narrowPast_118 rfl ?_
        refine la_iald (i := 28) (v := h 28 (h 22 (nI i).toNatClampNeg).toNatClampNeg) B (lh_nc_lt (by decide)) rfl hy rfl dX3_narrowPast_120 ?_
        refine la_isub B dX3_narrowPast_121 ?_
        refine la_mmin B wd_419 wd_420 wd_45 wd_421 (by decide) (by decide) dX3_narrowPast_122 ?_
        refine la_istore_n (i := 2) B dX3_narrowPast_125 rfl (by decide) ?_
        refine la_iincp B dX3_narrowPast_126 rfl (by decide) ?_
        refine la_goto (tgt := 43) B dX3_narrowPast_129 (by decide) ?_
        refine la_sub (lv2 := [(0, .ref (ad 27)), (1, .int ((if le < ((lh_T (h 23 (nI i).toNatClampNeg).toNatClampNeg) - (h 29 (h 22 (nI i).toNatClampNeg).toNatClampNeg)) then ((lh_T (h 23 (nI i).toNatClampNeg).toNatClampNeg) - (h 29 (h 22 (nI i).toNatClampNeg).toNatClampNeg)) else le))), (2, .int ((if (((lh_T ((h 23 (nI i).toNatClampNeg) + 1).toNatClampNeg) - 1) - (h 28 (h 22 (nI i).toNatClampNeg).toNatClampNeg)) < gr then (((lh_T ((h 23 (nI i).toNatClampNeg) + 1).toNatClampNeg) - 1) - (h 28 (h 22 (nI i).toNatClampNeg).toNatClampNeg)) else gr))), (3, .ref (ad 5)), (4, .int (nI (i + 1)))]) ⟨rfl, rfl, rfl, rfl, (congrArg (fun z => some (Value.int z)) (nI_1 i)), trivial⟩ (by simp [Value.category]) ?_
        exact ih (i + 1) (if le < ((lh_T (h 23 (nI i).toNatClampNeg).toNatClampNeg) - (h 29 (h 22 (nI i).toNatClampNeg).toNatClampNeg)) then ((lh_T (h 23 (nI i).toNatClampNeg).toNatClampNeg) - (h 29 (h 22 (nI i).toNatClampNeg).toNatClampNeg)) else le) (if (((lh_T ((h 23 (nI i).toNatClampNeg) + 1).toNatClampNeg) - 1) - (h 28 (h 22 (nI i).toNatClampNeg).toNatClampNeg)) < gr then (((lh_T ((h 23 (nI i).toNatClampNeg) + 1).toNatClampNeg) - 1) - (h 28 (h 22 (nI i).toNatClampNeg).toNatClampNeg)) else gr) h (by omega) (by rw [hh]; simp only [LX3_nar_h, if_pos c63]) hv

def gX3_narrowPast (h : lh_HS)  : lh_HS := (LX3_nar_h (lh_N h 5) 0 (h 14 (h 27 1).toNatClampNeg) (h 15 (h 27 1).toNatClampNeg) h)
set_option maxHeartbeats 4000000 in
set_option maxRecDepth 100000 in
theorem ct_X3_narrowPast {l : Launch} {D : va_G} {ad : Nat → Nat} {bs : Nat} {cI cZ : ClassId} {t9 : Nat} {k : Bool} (h : lh_HS)  (I : lh_I h) (hs : lh_ix (h 27 1) (lh_N h 3)) : lh_CTv l D ad bs cI cZ t9 k yX3_narrowPast cX3_narrowPast 7 1 [.ref (ad 27)] h (gX3_narrowPast h ) := by
  refine lh_ofv (lv := [(0, .ref (ad 27))]) (by decide) (Nat.le_of_ble_eq_true rfl) rfl (by simp [Value.category]) ⟨rfl, trivial⟩ ?_
  intro p e s m args below meth c B
  have B : lh_BK p (lh_rm 1) s m args meth c D ad bs cI cZ t9 k "LightHours$Ledger" cX3_narrowPast 7 none := B
  have h8 : vp_in (h 27 1) 8 := hs.vp I.1.2.1.2 (by omega)
  refine la_aload_n (i := 0) B dX3_narrowPast_0 rfl rfl ?_
  refine la_get (i := 27) (ci := 3) (j := 0) (C := RX3) (T := TX3) (N := 7) B (lh_nc_lt (by decide)) rfl ix_3 rfl (by decide) wd_247 rfl rfl dX3_narrowPast_1 ?_
  refine la_get (i := 1) (ci := 2) (j := 1) (C := RX2) (T := TX2) (N := 5) B (lh_nc_lt (by decide)) rfl ix_2 rfl (by decide) wd_217 rfl rfl dX3_narrowPast_4 ?_
  refine la_get (i := 3) (ci := 5) (j := 6) (C := RX5) (T := TX5) (N := 8) B (lh_nc_lt (by decide)) rfl ix_5 rfl (by decide) wd_105 rfl rfl dX3_narrowPast_7 ?_
  refine la_aload_n (i := 0) B dX3_narrowPast_10 rfl rfl ?_
  refine la_get (i := 27) (ci := 3) (j := 1) (v := .int (h 27 1)) (C := RX3) (T := TX3) (N := 7) B (lh_nc_lt (by decide)) rfl ix_3 rfl (by decide) wd_248 rfl rfl dX3_narrowPast_11 ?_
  refine la_iald (i := 14) (v := h 14 (h 27 1).toNatClampNeg) B (lh_nc_lt (by decide)) rfl h8 rfl dX3_narrowPast_14 ?_
  refine la_istore_n (i := 1) B dX3_narrowPast_15 rfl (by decide) ?_
  refine la_aload_n (i := 0) B dX3_narrowPast_16 rfl rfl ?_
  refine la_get (i := 27) (ci := 3) (j := 0) (C := RX3) (T := TX3) (N := 7) B (lh_nc_lt (by decide)) rfl ix_3 rfl (by decide) wd_247 rfl rfl dX3_narrowPast_17 ?_
  refine la_get (i := 1) (ci := 2) (j := 1) (C := RX2) (T := TX2) (N := 5) B (lh_nc_lt (by decide)) rfl ix_2 rfl (by decide) wd_217 rfl rfl dX3_narrowPast_20 ?_
  refine la_get (i := 3) (ci := 5) (j := 7) (C := RX5) (T := TX5) (N := 8) B (lh_nc_lt (by decide)) rfl ix_5 rfl (by decide) wd_108 rfl rfl dX3_narrowPast_23 ?_
  refine la_aload_n (i := 0) B dX3_narrowPast_26 rfl rfl ?_
  refine la_get (i := 27) (ci := 3) (j := 1) (v := .int (h 27 1)) (C := RX3) (T := TX3) (N := 7) B (lh_nc_lt (by decide)) rfl ix_3 rfl (by decide) wd_248 rfl rfl dX3_narrowPast_27 ?_
  refine la_iald (i := 15) (v := h 15 (h 27 1).toNatClampNeg) B (lh_nc_lt (by decide)) rfl h8 rfl dX3_narrowPast_30 ?_
  refine la_istore_n (i := 2) B dX3_narrowPast_31 rfl (by decide) ?_
  refine la_aload_n (i := 0) B dX3_narrowPast_32 rfl rfl ?_
  refine la_get (i := 27) (ci := 3) (j := 0) (C := RX3) (T := TX3) (N := 7) B (lh_nc_lt (by decide)) rfl ix_3 rfl (by decide) wd_247 rfl rfl dX3_narrowPast_33 ?_
  refine la_get (i := 1) (ci := 2) (j := 3) (C := RX2) (T := TX2) (N := 5) B (lh_nc_lt (by decide)) rfl ix_2 rfl (by decide) wd_225 rfl rfl dX3_narrowPast_36 ?_
  refine la_astore_n (i := 3) B dX3_narrowPast_39 rfl (by decide) ?_
  refine la_iconst (v := 0) B dX3_narrowPast_40 (by decide) ?_
  refine la_istore B dX3_narrowPast_41 (by decide) ?_
  refine la_sub (lv2 := [(0, .ref (ad 27)), (1, .int (h 14 (h 27 1).toNatClampNeg)), (2, .int (h 15 (h 27 1).toNatClampNeg)), (3, .ref (ad 5)), (4, .int (nI 0))]) ⟨rfl, rfl, rfl, rfl, rfl, trivial⟩ (by simp [Value.category]) ?_
  exact lp_X3_nar B I hs rfl _ 0 _ _ h (Nat.zero_add _) (by simp only [gX3_narrowPast]) ⟨lh_fr.rf h, rfl⟩

theorem fr_sum3 : ∀ (n i : Nat) (h : lh_HS) (q : Nat), q ≠ 28 → q ≠ 29 → LX3_sum3_h n i h q = h q := by
  intro n
  induction n with
  | zero => intro i h q _ _; rfl
  | succ n ih =>
    intro i h q h1 h2
    simp only [LX3_sum3_h]
    rw [ih _ _ q h1 h2]
    funext z
    rw [lh_up_ne (Or.inl h2), lh_up_ne (Or.inl h1)]
theorem fr_sum2 : ∀ (n i : Nat) (h : lh_HS) (q : Nat), q ≠ 28 → q ≠ 29 → LX3_sum2_h n i h q = h q := by
  intro n
  induction n with
  | zero => intro i h q h1 h2; simp only [LX3_sum2_h]; exact fr_sum3 _ _ _ q h1 h2
  | succ n ih =>
    intro i h q h1 h2
    simp only [LX3_sum2_h]
    split
    · exact ih _ _ q h1 h2
    · rw [ih _ _ q h1 h2]
      funext z
      rw [lh_up_ne (Or.inl h2), lh_up_ne (Or.inl h1)]
theorem fr_sum1 : ∀ (n i : Nat) (h : lh_HS) (q : Nat), q ≠ 28 → q ≠ 29 → LX3_sum1_h n i h q = h q := by
  intro n
  induction n with
  | zero => intro i h q h1 h2; simp only [LX3_sum1_h]; exact fr_sum2 _ _ _ q h1 h2
  | succ n ih =>
    intro i h q h1 h2
    simp only [LX3_sum1_h]
    rw [ih _ _ q h1 h2]
    funext z
    rw [lh_up_ne (Or.inl h2), lh_up_ne (Or.inl h1)]
theorem fr_nar : ∀ (n i : Nat) (le gr : Int32) (h : lh_HS) (q : Nat), q ≠ 27 → LX3_nar_h n i le gr h q = h q := by
  intro n
  induction n with
  | zero =>
    intro i le gr h q h1
    simp only [LX3_nar_h]
    split <;> (funext z; simp only [lh_up_ne (Or.inl h1)])
  | succ n ih =>
    intro i le gr h q h1
    simp only [LX3_nar_h]
    split <;> exact ih _ _ _ _ q h1
theorem fr_sumSpends (h : lh_HS) (q : Nat) (h1 : q ≠ 28) (h2 : q ≠ 29) : gX3_sumSpends h q = h q := fr_sum1 _ _ _ q h1 h2
theorem fr_narrowPast (h : lh_HS) (q : Nat) (h1 : q ≠ 27) : gX3_narrowPast h q = h q := fr_nar _ _ _ _ _ q h1
theorem lh_open_fr (h : lh_HS) (x : Int32) : lh_fr h (gX3_sumSpends (lh_up h 27 1 x)) := fun q h1 h2 => by
  rw [fr_sumSpends _ q (by omega) (by omega)]
  funext z
  exact lh_up_ne (Or.inl (by omega))
def gX3_openAt (h : lh_HS) (sn : Int32) : lh_HS := gX3_narrowPast (gX3_sumSpends (lh_up h 27 1 sn) ) 
set_option maxHeartbeats 4000000 in
set_option maxRecDepth 100000 in
theorem ct_X3_openAt {l : Launch} {D : va_G} {ad : Nat → Nat} {bs : Nat} {cI cZ : ClassId} {t9 : Nat} {k : Bool} (h : lh_HS) (sn : Int32) (I : lh_I h) (hs : lh_ix sn (lh_N h 3)) : lh_CTr l D ad bs cI cZ t9 k yX3_openAt cX3_openAt 2 (some (.object "LightHours$Ledger")) 3 [.ref (ad 27), .int sn] h 27 (gX3_openAt h sn) := by
  refine lh_ofr (lv := [(0, .ref (ad 27)), (1, .int sn)]) (by decide) (Nat.le_of_ble_eq_true rfl) rfl (by simp [Value.category]) ⟨rfl, rfl, trivial⟩ ?_
  intro p e s m args below meth c B
  have B : lh_BK p (lh_rm 3) s m args meth c D ad bs cI cZ t9 k "LightHours$Ledger" cX3_openAt 2 (some (.object "LightHours$Ledger")) := B
  have hs2 : lh_ix (lh_up h 27 1 sn 27 1) (lh_N (lh_up h 27 1 sn) 3) := by
    rw [lh_up_eq]
    unfold lh_N
    rw [lh_up_ne (Or.inl (by decide))]
    exact hs
  have hs3 : lh_ix (gX3_sumSpends (lh_up h 27 1 sn) 27 1) (lh_N (gX3_sumSpends (lh_up h 27 1 sn)) 3) := by
    unfold lh_N at *
    rw [fr_sumSpends _ 27 (by decide) (by decide), fr_sumSpends _ 3 (by decide) (by decide)]
    exact hs2
  refine la_aload_n (i := 0) B dX3_openAt_0 rfl rfl ?_
  refine la_iload_n (i := 1) B dX3_openAt_1 rfl rfl ?_
  refine la_put (i := 27) (ci := 3) (j := 1) (C := RX3) (T := TX3) (N := 7) (ty0 := tyX3) B (lh_nc_lt (by decide)) rfl rfl ix_3 tyX3_ok nmX3 rfl (by decide) wd_248 rfl rfl rfl rfl rfl (Nat.le_of_ble_eq_true rfl) dX3_openAt_2 ?_
  refine la_aload_n (i := 0) B dX3_openAt_5 rfl rfl ?_
  refine la_callVv (i := 27) B (ct_X3_sumSpends (lh_up h 27 1 sn) (I.fr ((lh_fr.rf h).up (by decide))) hs2) lk_X3_36 (by decide) (lh_nc_lt (by decide)) rfl rfl rfl (by simp [Value.category]) dX3_openAt_6 ?_
  refine la_aload_n (i := 0) B dX3_openAt_9 rfl rfl ?_
  refine la_callVv (i := 27) B (ct_X3_narrowPast (gX3_sumSpends (lh_up h 27 1 sn) ) (I.fr (lh_open_fr h sn)) hs3) lk_X3_39 (by decide) (lh_nc_lt (by decide)) rfl rfl rfl (by simp [Value.category]) dX3_openAt_10 ?_
  refine la_aload_n (i := 0) B dX3_openAt_13 rfl rfl ?_
  exact la_areturn B rfl (by simp only [gX3_openAt]) dX3_openAt_14

theorem fr_openAt (h : lh_HS) (x : Int32) (q : Nat) (h1 : q ≠ 27) (h2 : q ≠ 28) (h3 : q ≠ 29) : gX3_openAt h x q = h q := by
  unfold gX3_openAt
  rw [fr_narrowPast _ q h1, fr_sumSpends _ q h2 h3]
  funext z
  exact lh_up_ne (Or.inl h1)
theorem lh_openfr {a h : lh_HS} (f : lh_fr a h) (x : Int32) : lh_fr a (gX3_openAt h x) := fun q h1 h2 => by
  rw [fr_openAt h x q (by omega) (by omega) (by omega)]
  exact f q h1 h2
end
section
def LX8_stepOfAmount (h : lh_HS) (am : Int32) : Nat → Int32
  | 0 => nI 0
  | n + 1 => (if (lh_T (nI (n + 1)).toNatClampNeg) ≤ am then nI (n + 1) else (LX8_stepOfAmount h am n))
set_option maxHeartbeats 4000000 in
set_option maxRecDepth 100000 in
theorem lp_X8_stepOfAmount {l : Launch} {D : va_G} {ad : Nat → Nat} {bs : Nat} {cI cZ : ClassId} {t9 : Nat} {k : Bool} {p : Program} {e : Env} {s : State} {m : MethodId} {args : Array Value} {below : List Frame} {meth : Method} {c : Code} (h : lh_HS) (am : Int32) {r : Int32} (B : lh_BK p (lh_rm 0) s m args meth c D ad bs cI cZ t9 k "LightHours" cX8_stepOfAmount 2 (some .int))  :
    ∀ (n : Nat), r = LX8_stepOfAmount h am n → n ≤ 7 → lh_AJ p l e (lh_rm 0) s m args below meth c D ad bs cI cZ k 2 (MQ below (lh_Qi D ad bs cI cZ k r h) args s 0 0 (lh_A bs)) 3 [(0, .int am), (1, .int (nI n))] [] h := by
  intro n
  induction n with
  | zero =>
    intro hr hv
    refine la_iload_n (i := 1) B dX8_stepOfAmount_3 rfl rfl ?_
    refine la_if_le (tgt := 22) B dX8_stepOfAmount_4 (by decide) (fun c4 => ?_) (fun c4 => ?_)
    · refine la_iload_n (i := 1) B dX8_stepOfAmount_22 rfl rfl ?_
      exact la_ireturn B rfl (by rw [hr]; simp only [LX8_stepOfAmount]) rfl dX8_stepOfAmount_23
    · exact absurd (show nI 0 ≤ 0 from by decide) c4
  | succ n ih =>
    intro hr hv
    have hb : vp_in (nI (n + 1)) 9 := vp_in_nI (by omega) (by omega)
    refine la_iload_n (i := 1) B dX8_stepOfAmount_3 rfl rfl ?_
    refine la_if_le (tgt := 22) B dX8_stepOfAmount_4 (by decide) (fun c4 => ?_) (fun c4 => ?_)
    · exact absurd c4 (nI_nle (by omega) (by omega))
    · refine la_iload_n (i := 0) B dX8_stepOfAmount_7 rfl rfl ?_
      refine la_gets B wd_523 dX8_stepOfAmount_8 ?_
      refine la_iload_n (i := 1) B dX8_stepOfAmount_11 rfl rfl ?_
      refine la_ti B hb dX8_stepOfAmount_12 ?_
      refine la_icmp_ge (tgt := 22) B dX8_stepOfAmount_13 (by decide) (fun c13 => ?_) (fun c13 => ?_)
      · refine la_iload_n (i := 1) B dX8_stepOfAmount_22 rfl rfl ?_
        exact la_ireturn B rfl (by rw [hr]; simp only [LX8_stepOfAmount, if_pos c13]) rfl dX8_stepOfAmount_23
      · refine la_iincm B dX8_stepOfAmount_16 rfl (by decide) ?_
        refine la_goto (tgt := 3) B dX8_stepOfAmount_19 (by decide) ?_
        refine la_sub (lv2 := [(0, .int am), (1, .int (nI n))]) ⟨rfl, (congrArg (fun z => some (Value.int z)) (pk_m1 n)), trivial⟩ (by simp [Value.category]) ?_
        exact ih (by rw [hr]; simp only [LX8_stepOfAmount, if_neg c13]) (by omega)

def fX8_stepOfAmount (h : lh_HS) (am : Int32) : Int32 := (LX8_stepOfAmount h am 7)
set_option maxHeartbeats 4000000 in
set_option maxRecDepth 100000 in
theorem ct_X8_stepOfAmount {l : Launch} {D : va_G} {ad : Nat → Nat} {bs : Nat} {cI cZ : ClassId} {t9 : Nat} {k : Bool} (h : lh_HS) (am : Int32)  : lh_CTi l D ad bs cI cZ t9 k yX8_stepOfAmount cX8_stepOfAmount 2 (some .int) 0 [.int am] h (fX8_stepOfAmount h am) h := by
  refine lh_ofi (lv := [(0, .int am)]) (by decide) (Nat.le_of_ble_eq_true rfl) rfl (by simp [Value.category]) ⟨rfl, trivial⟩ ?_
  intro p e s m args below meth c B
  have B : lh_BK p (lh_rm 0) s m args meth c D ad bs cI cZ t9 k "LightHours" cX8_stepOfAmount 2 (some .int) := B
  refine la_bipush (v := 7) B dX8_stepOfAmount_0 (by decide) ?_
  refine la_istore_n (i := 1) B dX8_stepOfAmount_2 rfl (by decide) ?_
  refine la_sub (lv2 := [(0, .int am), (1, .int (nI 7))]) ⟨rfl, rfl, trivial⟩ (by simp [Value.category]) ?_
  exact lp_X8_stepOfAmount h am B _ (by simp only [fX8_stepOfAmount]) (Nat.le_refl 7)

theorem sn_nar : ∀ (n i : Nat) (le gr : Int32) (h : lh_HS), LX3_nar_h n i le gr h 27 1 = h 27 1 := by
  intro n
  induction n with
  | zero =>
    intro i le gr h
    simp only [LX3_nar_h]
    split <;> simp only [lh_up_ne (show (27 : Nat) ≠ 27 ∨ (1 : Nat) ≠ 2 from Or.inr (by decide)), lh_up_ne (show (27 : Nat) ≠ 27 ∨ (1 : Nat) ≠ 3 from Or.inr (by decide)), lh_up_ne (show (27 : Nat) ≠ 27 ∨ (1 : Nat) ≠ 4 from Or.inr (by decide))]
  | succ n ih =>
    intro i le gr h
    simp only [LX3_nar_h]
    split <;> exact ih _ _ _ _
theorem sn_openAt (h : lh_HS) (x : Int32) : gX3_openAt h x 27 1 = x := by
  unfold gX3_openAt gX3_narrowPast
  rw [sn_nar, fr_sumSpends _ 27 (by decide) (by decide), lh_up_eq]
theorem lh_open8 {h : lh_HS} (I : lh_I h) {x : Int32} (hs : lh_ix x (lh_N h 3)) : vp_in (gX3_openAt h x 27 1) 8 := by
  rw [sn_openAt]
  exact hs.vp I.1.2.1.2 (by omega)
def LX3_countQuarrels  : Nat → Nat → Int32 → lh_HS → Int32
  | 0, i, acc, h => acc
  | n + 1, i, acc, h => (if ((gX3_openAt h (nI i)) 27 2) = 0 then (LX3_countQuarrels n (i + 1) acc (gX3_openAt h (nI i))) else (LX3_countQuarrels n (i + 1) (acc + 1) (gX3_openAt h (nI i))))
def LX3_countQuarrels_h  : Nat → Nat → Int32 → lh_HS → lh_HS
  | 0, i, acc, h => h
  | n + 1, i, acc, h => (if ((gX3_openAt h (nI i)) 27 2) = 0 then (LX3_countQuarrels_h n (i + 1) acc (gX3_openAt h (nI i))) else (LX3_countQuarrels_h n (i + 1) (acc + 1) (gX3_openAt h (nI i))))
set_option maxHeartbeats 4000000 in
set_option maxRecDepth 100000 in
theorem lp_X3_countQuarrels {l : Launch} {D : va_G} {ad : Nat → Nat} {bs : Nat} {cI cZ : ClassId} {t9 : Nat} {k : Bool} {p : Program} {e : Env} {s : State} {m : MethodId} {args : Array Value} {below : List Frame} {meth : Method} {c : Code}  {r : Int32} {h2 : lh_HS} (B : lh_BK p (lh_rm 4) s m args meth c D ad bs cI cZ t9 k "LightHours$Ledger" cX3_countQuarrels 3 (some .int)) {h0 : lh_HS} (I0 : lh_I h0) {N : Nat} (hN0 : N = lh_N h0 3) :
    ∀ (n i : Nat) (acc : Int32) (h : lh_HS), i + n = N → r = LX3_countQuarrels n i acc h → h2 = LX3_countQuarrels_h n i acc h → lh_fr h0 h → lh_AJ p l e (lh_rm 4) s m args below meth c D ad bs cI cZ k 3 (MQ below (lh_Qi D ad bs cI cZ k r h2) args s 0 0 (lh_A bs)) 4 [(0, .ref (ad 27)), (1, .int acc), (2, .int (nI i))] [] h := by
  intro n
  induction n with
  | zero =>
    intro i acc h hi hr hh hv
    have hM := I0.1.2.1.2
    have hN : h 3 0 = nI N := by rw [hv 3 (by decide) (by decide), hN0]; exact I0.1.2.1.1
    have hexit : h 3 0 ≤ nI i := by rw [hN]; exact nI_le (by omega) (by omega)
    refine la_iload_n (i := 2) B dX3_countQuarrels_4 rfl rfl ?_
    refine la_aload_n (i := 0) B dX3_countQuarrels_5 rfl rfl ?_
    refine la_get (i := 27) (ci := 3) (j := 0) (C := RX3) (T := TX3) (N := 7) B (lh_nc_lt (by decide)) rfl ix_3 rfl (by decide) wd_247 rfl rfl dX3_countQuarrels_6 ?_
    refine la_get (i := 1) (ci := 2) (j := 1) (C := RX2) (T := TX2) (N := 5) B (lh_nc_lt (by decide)) rfl ix_2 rfl (by decide) wd_217 rfl rfl dX3_countQuarrels_9 ?_
    refine la_get (i := 3) (ci := 5) (j := 0) (v := .int (h 3 0)) (C := RX5) (T := TX5) (N := 8) B (lh_nc_lt (by decide)) rfl ix_5 rfl (by decide) wd_89 rfl rfl dX3_countQuarrels_12 ?_
    refine la_icmp_ge (tgt := 38) B dX3_countQuarrels_15 (by decide) (fun c15 => ?_) (fun c15 => ?_)
    · refine la_iload_n (i := 1) B dX3_countQuarrels_38 rfl rfl ?_
      exact la_ireturn B rfl (by rw [hr]; simp only [LX3_countQuarrels]) (by rw [hh]; simp only [LX3_countQuarrels_h]) dX3_countQuarrels_39
    · exact absurd hexit c15
  | succ n ih =>
    intro i acc h hi hr hh hv
    have hM := I0.1.2.1.2
    have hN : h 3 0 = nI N := by rw [hv 3 (by decide) (by decide), hN0]; exact I0.1.2.1.1
    have hcont : ¬ h 3 0 ≤ nI i := by rw [hN]; exact nI_ge (by omega) (by omega)
    have hs : lh_ix (nI i) (lh_N h 3) := lh_ix_nI (by rw [hv.N (by decide) (by decide)]; omega)
    refine la_iload_n (i := 2) B dX3_countQuarrels_4 rfl rfl ?_
    refine la_aload_n (i := 0) B dX3_countQuarrels_5 rfl rfl ?_
    refine la_get (i := 27) (ci := 3) (j := 0) (C := RX3) (T := TX3) (N := 7) B (lh_nc_lt (by decide)) rfl ix_3 rfl (by decide) wd_247 rfl rfl dX3_countQuarrels_6 ?_
    refine la_get (i := 1) (ci := 2) (j := 1) (C := RX2) (T := TX2) (N := 5) B (lh_nc_lt (by decide)) rfl ix_2 rfl (by decide) wd_217 rfl rfl dX3_countQuarrels_9 ?_
    refine la_get (i := 3) (ci := 5) (j := 0) (v := .int (h 3 0)) (C := RX5) (T := TX5) (N := 8) B (lh_nc_lt (by decide)) rfl ix_5 rfl (by decide) wd_89 rfl rfl dX3_countQuarrels_12 ?_
    refine la_icmp_ge (tgt := 38) B dX3_countQuarrels_15 (by decide) (fun c15 => ?_) (fun c15 => ?_)
    · exact absurd c15 hcont
    · refine la_aload_n (i := 0) B dX3_countQuarrels_18 rfl rfl ?_
      refine la_iload_n (i := 2) B dX3_countQuarrels_19 rfl rfl ?_
      refine la_callVr (i := 27) B (ct_X3_openAt h (nI i) (I0.fr hv) hs) lk_X3_108 (by decide) (lh_nc_lt (by decide)) rfl rfl rfl (by simp [Value.category]) dX3_countQuarrels_20 ?_
      refine la_get (i := 27) (ci := 3) (j := 2) (v := .int ((gX3_openAt h (nI i)) 27 2)) (C := RX3) (T := TX3) (N := 7) B (lh_nc_lt (by decide)) rfl ix_3 rfl (by decide) wd_249 rfl rfl dX3_countQuarrels_23 ?_
      refine la_if_eq (tgt := 32) B dX3_countQuarrels_26 (by decide) (fun c26 => ?_) (fun c26 => ?_)
      · refine la_iincp B dX3_countQuarrels_32 rfl (by decide) ?_
        refine la_goto (tgt := 4) B dX3_countQuarrels_35 (by decide) ?_
        refine la_sub (lv2 := [(0, .ref (ad 27)), (1, .int acc), (2, .int (nI (i + 1)))]) ⟨rfl, rfl, (congrArg (fun z => some (Value.int z)) (nI_1 i)), trivial⟩ (by simp [Value.category]) ?_
        exact ih (i + 1) acc (gX3_openAt h (nI i)) (by omega) (by rw [hr]; simp only [LX3_countQuarrels, if_pos c26]) (by rw [hh]; simp only [LX3_countQuarrels_h, if_pos c26]) (lh_openfr hv _)
      · refine la_iincp B dX3_countQuarrels_29 rfl (by decide) ?_
        refine la_iincp B dX3_countQuarrels_32 rfl (by decide) ?_
        refine la_goto (tgt := 4) B dX3_countQuarrels_35 (by decide) ?_
        refine la_sub (lv2 := [(0, .ref (ad 27)), (1, .int ((acc + 1))), (2, .int (nI (i + 1)))]) ⟨rfl, rfl, (congrArg (fun z => some (Value.int z)) (nI_1 i)), trivial⟩ (by simp [Value.category]) ?_
        exact ih (i + 1) (acc + 1) (gX3_openAt h (nI i)) (by omega) (by rw [hr]; simp only [LX3_countQuarrels, if_neg c26]) (by rw [hh]; simp only [LX3_countQuarrels_h, if_neg c26]) (lh_openfr hv _)

def fX3_countQuarrels (h : lh_HS)  : Int32 := (LX3_countQuarrels (lh_N h 3) 0 0 h)
def gX3_countQuarrels (h : lh_HS)  : lh_HS := (LX3_countQuarrels_h (lh_N h 3) 0 0 h)
set_option maxHeartbeats 4000000 in
set_option maxRecDepth 100000 in
theorem ct_X3_countQuarrels {l : Launch} {D : va_G} {ad : Nat → Nat} {bs : Nat} {cI cZ : ClassId} {t9 : Nat} {k : Bool} (h : lh_HS)  (I : lh_I h) : lh_CTi l D ad bs cI cZ t9 k yX3_countQuarrels cX3_countQuarrels 3 (some .int) 4 [.ref (ad 27)] h (fX3_countQuarrels h ) (gX3_countQuarrels h ) := by
  refine lh_ofi (lv := [(0, .ref (ad 27))]) (by decide) (Nat.le_of_ble_eq_true rfl) rfl (by simp [Value.category]) ⟨rfl, trivial⟩ ?_
  intro p e s m args below meth c B
  have B : lh_BK p (lh_rm 4) s m args meth c D ad bs cI cZ t9 k "LightHours$Ledger" cX3_countQuarrels 3 (some .int) := B
  refine la_iconst (v := 0) B dX3_countQuarrels_0 (by decide) ?_
  refine la_istore_n (i := 1) B dX3_countQuarrels_1 rfl (by decide) ?_
  refine la_iconst (v := 0) B dX3_countQuarrels_2 (by decide) ?_
  refine la_istore_n (i := 2) B dX3_countQuarrels_3 rfl (by decide) ?_
  refine la_sub (lv2 := [(0, .ref (ad 27)), (1, .int 0), (2, .int (nI 0))]) ⟨rfl, rfl, rfl, trivial⟩ (by simp [Value.category]) ?_
  exact lp_X3_countQuarrels B I rfl _ 0 0 h (Nat.zero_add _) (by simp only [fX3_countQuarrels]) (by simp only [gX3_countQuarrels]) (lh_fr.rf h)

theorem fr_LcountQuarrels {h0 : lh_HS} : ∀ (n i : Nat) (acc : Int32) (h : lh_HS), lh_fr h0 h → lh_fr h0 (LX3_countQuarrels_h n i acc h) := by
  intro n
  induction n with
  | zero => intro i acc h f; exact f
  | succ n ih =>
    intro i acc h f
    simp only [LX3_countQuarrels_h]
    split <;> exact ih _ _ _ (lh_openfr f _)
def LX3_countOverspent  : Nat → Nat → Int32 → lh_HS → Int32
  | 0, i, acc, h => acc
  | n + 1, i, acc, h => (if 0 ≤ (fX3_leftEnd (gX3_openAt h (nI i)) 0) then (LX3_countOverspent n (i + 1) acc (gX3_openAt h (nI i))) else (LX3_countOverspent n (i + 1) (acc + 1) (gX3_openAt h (nI i))))
def LX3_countOverspent_h  : Nat → Nat → Int32 → lh_HS → lh_HS
  | 0, i, acc, h => h
  | n + 1, i, acc, h => (if 0 ≤ (fX3_leftEnd (gX3_openAt h (nI i)) 0) then (LX3_countOverspent_h n (i + 1) acc (gX3_openAt h (nI i))) else (LX3_countOverspent_h n (i + 1) (acc + 1) (gX3_openAt h (nI i))))
set_option maxHeartbeats 4000000 in
set_option maxRecDepth 100000 in
theorem lp_X3_countOverspent {l : Launch} {D : va_G} {ad : Nat → Nat} {bs : Nat} {cI cZ : ClassId} {t9 : Nat} {k : Bool} {p : Program} {e : Env} {s : State} {m : MethodId} {args : Array Value} {below : List Frame} {meth : Method} {c : Code}  {r : Int32} {h2 : lh_HS} (B : lh_BK p (lh_rm 4) s m args meth c D ad bs cI cZ t9 k "LightHours$Ledger" cX3_countOverspent 3 (some .int)) {h0 : lh_HS} (I0 : lh_I h0) {N : Nat} (hN0 : N = lh_N h0 3) :
    ∀ (n i : Nat) (acc : Int32) (h : lh_HS), i + n = N → r = LX3_countOverspent n i acc h → h2 = LX3_countOverspent_h n i acc h → lh_fr h0 h → lh_AJ p l e (lh_rm 4) s m args below meth c D ad bs cI cZ k 3 (MQ below (lh_Qi D ad bs cI cZ k r h2) args s 0 0 (lh_A bs)) 4 [(0, .ref (ad 27)), (1, .int acc), (2, .int (nI i))] [] h := by
  intro n
  induction n with
  | zero =>
    intro i acc h hi hr hh hv
    have hM := I0.1.2.1.2
    have hN : h 3 0 = nI N := by rw [hv 3 (by decide) (by decide), hN0]; exact I0.1.2.1.1
    have hexit : h 3 0 ≤ nI i := by rw [hN]; exact nI_le (by omega) (by omega)
    refine la_iload_n (i := 2) B dX3_countOverspent_4 rfl rfl ?_
    refine la_aload_n (i := 0) B dX3_countOverspent_5 rfl rfl ?_
    refine la_get (i := 27) (ci := 3) (j := 0) (C := RX3) (T := TX3) (N := 7) B (lh_nc_lt (by decide)) rfl ix_3 rfl (by decide) wd_247 rfl rfl dX3_countOverspent_6 ?_
    refine la_get (i := 1) (ci := 2) (j := 1) (C := RX2) (T := TX2) (N := 5) B (lh_nc_lt (by decide)) rfl ix_2 rfl (by decide) wd_217 rfl rfl dX3_countOverspent_9 ?_
    refine la_get (i := 3) (ci := 5) (j := 0) (v := .int (h 3 0)) (C := RX5) (T := TX5) (N := 8) B (lh_nc_lt (by decide)) rfl ix_5 rfl (by decide) wd_89 rfl rfl dX3_countOverspent_12 ?_
    refine la_icmp_ge (tgt := 39) B dX3_countOverspent_15 (by decide) (fun c15 => ?_) (fun c15 => ?_)
    · refine la_iload_n (i := 1) B dX3_countOverspent_39 rfl rfl ?_
      exact la_ireturn B rfl (by rw [hr]; simp only [LX3_countOverspent]) (by rw [hh]; simp only [LX3_countOverspent_h]) dX3_countOverspent_40
    · exact absurd hexit c15
  | succ n ih =>
    intro i acc h hi hr hh hv
    have hM := I0.1.2.1.2
    have hN : h 3 0 = nI N := by rw [hv 3 (by decide) (by decide), hN0]; exact I0.1.2.1.1
    have hcont : ¬ h 3 0 ≤ nI i := by rw [hN]; exact nI_ge (by omega) (by omega)
    have hs : lh_ix (nI i) (lh_N h 3) := lh_ix_nI (by rw [hv.N (by decide) (by decide)]; omega)
    refine la_iload_n (i := 2) B dX3_countOverspent_4 rfl rfl ?_
    refine la_aload_n (i := 0) B dX3_countOverspent_5 rfl rfl ?_
    refine la_get (i := 27) (ci := 3) (j := 0) (C := RX3) (T := TX3) (N := 7) B (lh_nc_lt (by decide)) rfl ix_3 rfl (by decide) wd_247 rfl rfl dX3_countOverspent_6 ?_
    refine la_get (i := 1) (ci := 2) (j := 1) (C := RX2) (T := TX2) (N := 5) B (lh_nc_lt (by decide)) rfl ix_2 rfl (by decide) wd_217 rfl rfl dX3_countOverspent_9 ?_
    refine la_get (i := 3) (ci := 5) (j := 0) (v := .int (h 3 0)) (C := RX5) (T := TX5) (N := 8) B (lh_nc_lt (by decide)) rfl ix_5 rfl (by decide) wd_89 rfl rfl dX3_countOverspent_12 ?_
    refine la_icmp_ge (tgt := 39) B dX3_countOverspent_15 (by decide) (fun c15 => ?_) (fun c15 => ?_)
    · exact absurd c15 hcont
    · refine la_aload_n (i := 0) B dX3_countOverspent_18 rfl rfl ?_
      refine la_iload_n (i := 2) B dX3_countOverspent_19 rfl rfl ?_
      refine la_callVr (i := 27) B (ct_X3_openAt h (nI i) (I0.fr hv) hs) lk_X3_108 (by decide) (lh_nc_lt (by decide)) rfl rfl rfl (by simp [Value.category]) dX3_countOverspent_20 ?_
      refine la_iconst (v := 0) B dX3_countOverspent_23 (by decide) ?_
      refine la_callVi (i := 27) B (ct_X3_leftEnd (gX3_openAt h (nI i)) 0 (lh_open8 (I0.fr hv) hs)) lk_X3_112 (by decide) (lh_nc_lt (by decide)) rfl rfl rfl (by simp [Value.category]) dX3_countOverspent_24 ?_
      refine la_if_ge (tgt := 33) B dX3_countOverspent_27 (by decide) (fun c27 => ?_) (fun c27 => ?_)
      · refine la_iincp B dX3_countOverspent_33 rfl (by decide) ?_
        refine la_goto (tgt := 4) B dX3_countOverspent_36 (by decide) ?_
        refine la_sub (lv2 := [(0, .ref (ad 27)), (1, .int acc), (2, .int (nI (i + 1)))]) ⟨rfl, rfl, (congrArg (fun z => some (Value.int z)) (nI_1 i)), trivial⟩ (by simp [Value.category]) ?_
        exact ih (i + 1) acc (gX3_openAt h (nI i)) (by omega) (by rw [hr]; simp only [LX3_countOverspent, if_pos c27]) (by rw [hh]; simp only [LX3_countOverspent_h, if_pos c27]) (lh_openfr hv _)
      · refine la_iincp B dX3_countOverspent_30 rfl (by decide) ?_
        refine la_iincp B dX3_countOverspent_33 rfl (by decide) ?_
        refine la_goto (tgt := 4) B dX3_countOverspent_36 (by decide) ?_
        refine la_sub (lv2 := [(0, .ref (ad 27)), (1, .int ((acc + 1))), (2, .int (nI (i + 1)))]) ⟨rfl, rfl, (congrArg (fun z => some (Value.int z)) (nI_1 i)), trivial⟩ (by simp [Value.category]) ?_
        exact ih (i + 1) (acc + 1) (gX3_openAt h (nI i)) (by omega) (by rw [hr]; simp only [LX3_countOverspent, if_neg c27]) (by rw [hh]; simp only [LX3_countOverspent_h, if_neg c27]) (lh_openfr hv _)

def fX3_countOverspent (h : lh_HS)  : Int32 := (LX3_countOverspent (lh_N h 3) 0 0 h)
def gX3_countOverspent (h : lh_HS)  : lh_HS := (LX3_countOverspent_h (lh_N h 3) 0 0 h)
set_option maxHeartbeats 4000000 in
set_option maxRecDepth 100000 in
theorem ct_X3_countOverspent {l : Launch} {D : va_G} {ad : Nat → Nat} {bs : Nat} {cI cZ : ClassId} {t9 : Nat} {k : Bool} (h : lh_HS)  (I : lh_I h) : lh_CTi l D ad bs cI cZ t9 k yX3_countOverspent cX3_countOverspent 3 (some .int) 4 [.ref (ad 27)] h (fX3_countOverspent h ) (gX3_countOverspent h ) := by
  refine lh_ofi (lv := [(0, .ref (ad 27))]) (by decide) (Nat.le_of_ble_eq_true rfl) rfl (by simp [Value.category]) ⟨rfl, trivial⟩ ?_
  intro p e s m args below meth c B
  have B : lh_BK p (lh_rm 4) s m args meth c D ad bs cI cZ t9 k "LightHours$Ledger" cX3_countOverspent 3 (some .int) := B
  refine la_iconst (v := 0) B dX3_countOverspent_0 (by decide) ?_
  refine la_istore_n (i := 1) B dX3_countOverspent_1 rfl (by decide) ?_
  refine la_iconst (v := 0) B dX3_countOverspent_2 (by decide) ?_
  refine la_istore_n (i := 2) B dX3_countOverspent_3 rfl (by decide) ?_
  refine la_sub (lv2 := [(0, .ref (ad 27)), (1, .int 0), (2, .int (nI 0))]) ⟨rfl, rfl, rfl, trivial⟩ (by simp [Value.category]) ?_
  exact lp_X3_countOverspent B I rfl _ 0 0 h (Nat.zero_add _) (by simp only [fX3_countOverspent]) (by simp only [gX3_countOverspent]) (lh_fr.rf h)

theorem fr_LcountOverspent {h0 : lh_HS} : ∀ (n i : Nat) (acc : Int32) (h : lh_HS), lh_fr h0 h → lh_fr h0 (LX3_countOverspent_h n i acc h) := by
  intro n
  induction n with
  | zero => intro i acc h f; exact f
  | succ n ih =>
    intro i acc h f
    simp only [LX3_countOverspent_h]
    split <;> exact ih _ _ _ (lh_openfr f _)
def fX1_shownTooNear (h : lh_HS) (sn : Int32) (yr : Int32) : Int32 := (if (fX0_shownWithin h sn yr (h 12 sn.toNatClampNeg)) = 0 then (if (h 13 sn.toNatClampNeg) = ((-4)) then 0 else (if (fX0_shownWithin h (h 13 sn.toNatClampNeg) yr 0) = 0 then 0 else 1)) else 1)
set_option maxHeartbeats 4000000 in
set_option maxRecDepth 100000 in
theorem ct_X1_shownTooNear {l : Launch} {D : va_G} {ad : Nat → Nat} {bs : Nat} {cI cZ : ClassId} {t9 : Nat} {k : Bool} (h : lh_HS) (sn : Int32) (yr : Int32) (I : lh_I h) (hs : lh_ix sn (lh_N h 3)) : lh_CTi l D ad bs cI cZ t9 k yX1_shownTooNear cX1_shownTooNear 4 (some .boolean) 2 [.ref (ad 30), .int sn, .int yr] h (fX1_shownTooNear h sn yr) h := by
  refine lh_ofi (lv := [(0, .ref (ad 30)), (1, .int sn), (2, .int yr)]) (by decide) (Nat.le_of_ble_eq_true rfl) rfl (by simp [Value.category]) ⟨rfl, rfl, rfl, trivial⟩ ?_
  intro p e s m args below meth c B
  have B : lh_BK p (lh_rm 2) s m args meth c D ad bs cI cZ t9 k "LightHours$Hanging" cX1_shownTooNear 4 (some .boolean) := B
  have hb : vp_in sn 8 := hs.vp I.1.2.1.2 (by omega)
  refine la_aload_n (i := 0) B dX1_shownTooNear_0 rfl rfl ?_
  refine la_get (i := 30) (ci := 1) (j := 0) (C := RX1) (T := TX1) (N := 10) B (lh_nc_lt (by decide)) rfl ix_1 rfl (by decide) wd_276 rfl rfl dX1_shownTooNear_1 ?_
  refine la_get (i := 1) (ci := 2) (j := 2) (C := RX2) (T := TX2) (N := 5) B (lh_nc_lt (by decide)) rfl ix_2 rfl (by decide) wd_222 rfl rfl dX1_shownTooNear_4 ?_
  refine la_iload_n (i := 1) B dX1_shownTooNear_7 rfl rfl ?_
  refine la_iload_n (i := 2) B dX1_shownTooNear_8 rfl rfl ?_
  refine la_aload_n (i := 0) B dX1_shownTooNear_9 rfl rfl ?_
  refine la_get (i := 30) (ci := 1) (j := 0) (C := RX1) (T := TX1) (N := 10) B (lh_nc_lt (by decide)) rfl ix_1 rfl (by decide) wd_276 rfl rfl dX1_shownTooNear_10 ?_
  refine la_get (i := 1) (ci := 2) (j := 1) (C := RX2) (T := TX2) (N := 5) B (lh_nc_lt (by decide)) rfl ix_2 rfl (by decide) wd_218 rfl rfl dX1_shownTooNear_13 ?_
  refine la_get (i := 3) (ci := 5) (j := 4) (C := RX5) (T := TX5) (N := 8) B (lh_nc_lt (by decide)) rfl ix_5 rfl (by decide) wd_99 rfl rfl dX1_shownTooNear_16 ?_
  refine la_iload_n (i := 1) B dX1_shownTooNear_19 rfl rfl ?_
  refine la_iald (i := 12) (v := h 12 sn.toNatClampNeg) B (lh_nc_lt (by decide)) rfl hb rfl dX1_shownTooNear_20 ?_
  refine la_callVi (i := 4) B (ct_X0_shownWithin h sn yr (h 12 sn.toNatClampNeg) I.1.2.2.1.1 I.1.2.2.1.2) lk_X1_118 (by decide) (lh_nc_lt (by decide)) rfl rfl rfl (by simp [Value.category]) dX1_shownTooNear_21 ?_
  refine la_if_eq (tgt := 29) B dX1_shownTooNear_24 (by decide) (fun c24 => ?_) (fun c24 => ?_)
  · refine la_aload_n (i := 0) B dX1_shownTooNear_29 rfl rfl ?_
    refine la_get (i := 30) (ci := 1) (j := 0) (C := RX1) (T := TX1) (N := 10) B (lh_nc_lt (by decide)) rfl ix_1 rfl (by decide) wd_276 rfl rfl dX1_shownTooNear_30 ?_
    refine la_get (i := 1) (ci := 2) (j := 1) (C := RX2) (T := TX2) (N := 5) B (lh_nc_lt (by decide)) rfl ix_2 rfl (by decide) wd_218 rfl rfl dX1_shownTooNear_33 ?_
    refine la_get (i := 3) (ci := 5) (j := 5) (C := RX5) (T := TX5) (N := 8) B (lh_nc_lt (by decide)) rfl ix_5 rfl (by decide) wd_103 rfl rfl dX1_shownTooNear_36 ?_
    refine la_iload_n (i := 1) B dX1_shownTooNear_39 rfl rfl ?_
    refine la_iald (i := 13) (v := h 13 sn.toNatClampNeg) B (lh_nc_lt (by decide)) rfl hb rfl dX1_shownTooNear_40 ?_
    refine la_istore_n (i := 3) B dX1_shownTooNear_41 rfl (by decide) ?_
    refine la_iload_n (i := 3) B dX1_shownTooNear_42 rfl rfl ?_
    refine la_bipush (v := -4) B dX1_shownTooNear_43 (by decide) ?_
    refine la_icmp_eq (tgt := 68) B dX1_shownTooNear_45 (by decide) (fun c45 => ?_) (fun c45 => ?_)
    · refine la_iconst (v := 0) B dX1_shownTooNear_68 (by decide) ?_
      exact la_zreturn B rfl (by simp only [fX1_shownTooNear, if_pos c24, if_pos c45]) rfl rfl dX1_shownTooNear_69
    · refine la_aload_n (i := 0) B dX1_shownTooNear_48 rfl rfl ?_
      refine la_get (i := 30) (ci := 1) (j := 0) (C := RX1) (T := TX1) (N := 10) B (lh_nc_lt (by decide)) rfl ix_1 rfl (by decide) wd_276 rfl rfl dX1_shownTooNear_49 ?_
      refine la_get (i := 1) (ci := 2) (j := 2) (C := RX2) (T := TX2) (N := 5) B (lh_nc_lt (by decide)) rfl ix_2 rfl (by decide) wd_222 rfl rfl dX1_shownTooNear_52 ?_
      refine la_iload_n (i := 3) B dX1_shownTooNear_55 rfl rfl ?_
      refine la_iload_n (i := 2) B dX1_shownTooNear_56 rfl rfl ?_
      refine la_iconst (v := 0) B dX1_shownTooNear_57 (by decide) ?_
      refine la_callVi (i := 4) B (ct_X0_shownWithin h (h 13 sn.toNatClampNeg) yr 0 I.1.2.2.1.1 I.1.2.2.1.2) lk_X1_118 (by decide) (lh_nc_lt (by decide)) rfl rfl rfl (by simp [Value.category]) dX1_shownTooNear_58 ?_
      refine la_if_eq (tgt := 68) B dX1_shownTooNear_61 (by decide) (fun c61 => ?_) (fun c61 => ?_)
      · refine la_iconst (v := 0) B dX1_shownTooNear_68 (by decide) ?_
        exact la_zreturn B rfl (by simp only [fX1_shownTooNear, if_pos c24, if_neg c45, if_pos c61]) rfl rfl dX1_shownTooNear_69
      · refine la_iconst (v := 1) B dX1_shownTooNear_64 (by decide) ?_
        refine la_goto (tgt := 69) B dX1_shownTooNear_65 (by decide) ?_
        exact la_zreturn B rfl (by simp only [fX1_shownTooNear, if_pos c24, if_neg c45, if_neg c61]) rfl rfl dX1_shownTooNear_69
  · refine la_iconst (v := 1) B dX1_shownTooNear_27 (by decide) ?_
    exact la_zreturn B rfl (by simp only [fX1_shownTooNear, if_neg c24]) rfl rfl dX1_shownTooNear_28

def LX1_sheetsFor (h : lh_HS) (wl : Int32) : Nat → Nat → Int32 → Int32
  | 0, i, acc => acc
  | n + 1, i, acc => (if (fX5_hasTheme h (nI i) (h 26 wl.toNatClampNeg)) = 0 then (LX1_sheetsFor h wl n (i + 1) acc) else (if (fX1_shownTooNear h (nI i) (h 25 wl.toNatClampNeg)) = 0 then (LX1_sheetsFor h wl n (i + 1) (acc ||| (1 <<< ((nI i) &&& 31)))) else (LX1_sheetsFor h wl n (i + 1) acc)))
set_option maxHeartbeats 4000000 in
set_option maxRecDepth 100000 in
theorem lp_X1_sheetsFor {l : Launch} {D : va_G} {ad : Nat → Nat} {bs : Nat} {cI cZ : ClassId} {t9 : Nat} {k : Bool} {p : Program} {e : Env} {s : State} {m : MethodId} {args : Array Value} {below : List Frame} {meth : Method} {c : Code} (h : lh_HS) (wl : Int32) {r : Int32} (B : lh_BK p (lh_rm 3) s m args meth c D ad bs cI cZ t9 k "LightHours$Hanging" cX1_sheetsFor 5 (some .int)) (I : lh_I h) (hw : vp_in wl 5) {N : Nat} (hN : h 3 0 = nI N) (hN0 : N = lh_N h 3) :
    ∀ (n i : Nat) (acc : Int32), i + n = N → r = LX1_sheetsFor h wl n i acc → lh_AJ p l e (lh_rm 3) s m args below meth c D ad bs cI cZ k 5 (MQ below (lh_Qi D ad bs cI cZ k r h) args s 0 0 (lh_A bs)) 4 [(0, .ref (ad 30)), (1, .int wl), (2, .int acc), (3, .int (nI i))] [] h := by
  intro n
  induction n with
  | zero =>
    intro i acc hi hr
    have hM := I.1.2.1.2
    have hexit : h 3 0 ≤ nI i := by rw [hN]; exact nI_le (by omega) (by omega)
    refine la_iload_n (i := 3) B dX1_sheetsFor_4 rfl rfl ?_
    refine la_aload_n (i := 0) B dX1_sheetsFor_5 rfl rfl ?_
    refine la_get (i := 30) (ci := 1) (j := 0) (C := RX1) (T := TX1) (N := 10) B (lh_nc_lt (by decide)) rfl ix_1 rfl (by decide) wd_276 rfl rfl dX1_sheetsFor_6 ?_
    refine la_get (i := 1) (ci := 2) (j := 1) (C := RX2) (T := TX2) (N := 5) B (lh_nc_lt (by decide)) rfl ix_2 rfl (by decide) wd_218 rfl rfl dX1_sheetsFor_9 ?_
    refine la_get (i := 3) (ci := 5) (j := 0) (v := .int (h 3 0)) (C := RX5) (T := TX5) (N := 8) B (lh_nc_lt (by decide)) rfl ix_5 rfl (by decide) wd_87 rfl rfl dX1_sheetsFor_12 ?_
    refine la_icmp_ge (tgt := 80) B dX1_sheetsFor_15 (by decide) (fun c15 => ?_) (fun c15 => ?_)
    · refine la_iload_n (i := 2) B dX1_sheetsFor_80 rfl rfl ?_
      exact la_ireturn B rfl (by rw [hr]; simp only [LX1_sheetsFor]) rfl dX1_sheetsFor_81
    · exact absurd hexit c15
  | succ n ih =>
    intro i acc hi hr
    have hM := I.1.2.1.2
    have hcont : ¬ h 3 0 ≤ nI i := by rw [hN]; exact nI_ge (by omega) (by omega)
    have hb : vp_in (nI i) 8 := vp_in_nI (by omega) (by omega)
    have hs : lh_ix (nI i) (lh_N h 3) := lh_ix_nI (by omega)
    refine la_iload_n (i := 3) B dX1_sheetsFor_4 rfl rfl ?_
    refine la_aload_n (i := 0) B dX1_sheetsFor_5 rfl rfl ?_
    refine la_get (i := 30) (ci := 1) (j := 0) (C := RX1) (T := TX1) (N := 10) B (lh_nc_lt (by decide)) rfl ix_1 rfl (by decide) wd_276 rfl rfl dX1_sheetsFor_6 ?_
    refine la_get (i := 1) (ci := 2) (j := 1) (C := RX2) (T := TX2) (N := 5) B (lh_nc_lt (by decide)) rfl ix_2 rfl (by decide) wd_218 rfl rfl dX1_sheetsFor_9 ?_
    refine la_get (i := 3) (ci := 5) (j := 0) (v := .int (h 3 0)) (C := RX5) (T := TX5) (N := 8) B (lh_nc_lt (by decide)) rfl ix_5 rfl (by decide) wd_87 rfl rfl dX1_sheetsFor_12 ?_
    refine la_icmp_ge (tgt := 80) B dX1_sheetsFor_15 (by decide) (fun c15 => ?_) (fun c15 => ?_)
    · exact absurd c15 hcont
    · refine la_aload_n (i := 0) B dX1_sheetsFor_18 rfl rfl ?_
      refine la_get (i := 30) (ci := 1) (j := 0) (C := RX1) (T := TX1) (N := 10) B (lh_nc_lt (by decide)) rfl ix_1 rfl (by decide) wd_276 rfl rfl dX1_sheetsFor_19 ?_
      refine la_get (i := 1) (ci := 2) (j := 1) (C := RX2) (T := TX2) (N := 5) B (lh_nc_lt (by decide)) rfl ix_2 rfl (by decide) wd_218 rfl rfl dX1_sheetsFor_22 ?_
      refine la_iload_n (i := 3) B dX1_sheetsFor_25 rfl rfl ?_
      refine la_aload_n (i := 0) B dX1_sheetsFor_26 rfl rfl ?_
      refine la_get (i := 30) (ci := 1) (j := 0) (C := RX1) (T := TX1) (N := 10) B (lh_nc_lt (by decide)) rfl ix_1 rfl (by decide) wd_276 rfl rfl dX1_sheetsFor_27 ?_
      refine la_get (i := 1) (ci := 2) (j := 4) (C := RX2) (T := TX2) (N := 5) B (lh_nc_lt (by decide)) rfl ix_2 rfl (by decide) wd_228 rfl rfl dX1_sheetsFor_30 ?_
      refine la_get (i := 6) (ci := 7) (j := 3) (C := RX7) (T := TX7) (N := 4) B (lh_nc_lt (by decide)) rfl ix_7 rfl (by decide) wd_203 rfl rfl dX1_sheetsFor_33 ?_
      refine la_iload_n (i := 1) B dX1_sheetsFor_36 rfl rfl ?_
      refine la_iald (i := 26) (v := h 26 wl.toNatClampNeg) B (lh_nc_lt (by decide)) rfl hw rfl dX1_sheetsFor_37 ?_
      refine la_callVi (i := 3) B (ct_X5_hasTheme h (nI i) (h 26 wl.toNatClampNeg) hb) lk_X1_104 (by decide) (lh_nc_lt (by decide)) rfl rfl rfl (by simp [Value.category]) dX1_sheetsFor_38 ?_
      refine la_istore B dX1_sheetsFor_41 (by decide) ?_
      refine la_iload B dX1_sheetsFor_43 rfl ?_
      refine la_if_eq (tgt := 74) B dX1_sheetsFor_45 (by decide) (fun c45 => ?_) (fun c45 => ?_)
      · refine la_iincp B dX1_sheetsFor_74 rfl (by decide) ?_
        refine la_goto (tgt := 4) B dX1_sheetsFor_77 (by decide) ?_
        refine la_sub (lv2 := [(0, .ref (ad 30)), (1, .int wl), (2, .int acc), (3, .int (nI (i + 1)))]) ⟨rfl, rfl, rfl, (congrArg (fun z => some (Value.int z)) (nI_1 i)), trivial⟩ (by simp [Value.category]) ?_
        exact ih (i + 1) acc (by omega) (by rw [hr]; simp only [LX1_sheetsFor, if_pos c45])
      · refine la_aload_n (i := 0) B dX1_sheetsFor_48 rfl rfl ?_
        refine la_iload_n (i := 3) B dX1_sheetsFor_49 rfl rfl ?_
        refine la_aload_n (i := 0) B dX1_sheetsFor_50 rfl rfl ?_
        refine la_get (i := 30) (ci := 1) (j := 0) (C := RX1) (T := TX1) (N := 10) B (lh_nc_lt (by decide)) rfl ix_1 rfl (by decide) wd_276 rfl rfl dX1_sheetsFor_51 ?_
        refine la_get (i := 1) (ci := 2) (j := 4) (C := RX2) (T := TX2) (N := 5) B (lh_nc_lt (by decide)) rfl ix_2 rfl (by decide) wd_228 rfl rfl dX1_sheetsFor_54 ?_
        refine la_get (i := 6) (ci := 7) (j := 2) (C := RX7) (T := TX7) (N := 4) B (lh_nc_lt (by decide)) rfl ix_7 rfl (by decide) wd_200 rfl rfl dX1_sheetsFor_57 ?_
        refine la_iload_n (i := 1) B dX1_sheetsFor_60 rfl rfl ?_
        refine la_iald (i := 25) (v := h 25 wl.toNatClampNeg) B (lh_nc_lt (by decide)) rfl hw rfl dX1_sheetsFor_61 ?_
        refine la_callVi (i := 30) B (ct_X1_shownTooNear h (nI i) (h 25 wl.toNatClampNeg) I hs) lk_X1_108 (by decide) (lh_nc_lt (by decide)) rfl rfl rfl (by simp [Value.category]) dX1_sheetsFor_62 ?_
        refine la_if_ne (tgt := 74) B dX1_sheetsFor_65 (by decide) (fun c65 => ?_) (fun c65 => ?_)
        · refine la_iincp B dX1_sheetsFor_74 rfl (by decide) ?_
          refine la_goto (tgt := 4) B dX1_sheetsFor_77 (by decide) ?_
          refine la_sub (lv2 := [(0, .ref (ad 30)), (1, .int wl), (2, .int acc), (3, .int (nI (i + 1)))]) ⟨rfl, rfl, rfl, (congrArg (fun z => some (Value.int z)) (nI_1 i)), trivial⟩ (by simp [Value.category]) ?_
          exact ih (i + 1) acc (by omega) (by rw [hr]; simp only [LX1_sheetsFor, if_neg c45, if_neg c65])
        · refine la_iload_n (i := 2) B dX1_sheetsFor_68 rfl rfl ?_
          refine la_iconst (v := 1) B dX1_sheetsFor_69 (by decide) ?_
          refine la_iload_n (i := 3) B dX1_sheetsFor_70 rfl rfl ?_
          refine la_ishl B dX1_sheetsFor_71 ?_
          refine la_ior B dX1_sheetsFor_72 ?_
          refine la_istore_n (i := 2) B dX1_sheetsFor_73 rfl (by decide) ?_
          refine la_iincp B dX1_sheetsFor_74 rfl (by decide) ?_
          refine la_goto (tgt := 4) B dX1_sheetsFor_77 (by decide) ?_
          refine la_sub (lv2 := [(0, .ref (ad 30)), (1, .int wl), (2, .int ((acc ||| (1 <<< ((nI i) &&& 31))))), (3, .int (nI (i + 1)))]) ⟨rfl, rfl, rfl, (congrArg (fun z => some (Value.int z)) (nI_1 i)), trivial⟩ (by simp [Value.category]) ?_
          exact ih (i + 1) (acc ||| (1 <<< ((nI i) &&& 31))) (by omega) (by rw [hr]; simp only [LX1_sheetsFor, if_neg c45, if_pos c65])

def fX1_sheetsFor (h : lh_HS) (wl : Int32) : Int32 := (LX1_sheetsFor h wl (lh_N h 3) 0 0)
set_option maxHeartbeats 4000000 in
set_option maxRecDepth 100000 in
theorem ct_X1_sheetsFor {l : Launch} {D : va_G} {ad : Nat → Nat} {bs : Nat} {cI cZ : ClassId} {t9 : Nat} {k : Bool} (h : lh_HS) (wl : Int32) (I : lh_I h) (hw : vp_in wl 5) : lh_CTi l D ad bs cI cZ t9 k yX1_sheetsFor cX1_sheetsFor 5 (some .int) 3 [.ref (ad 30), .int wl] h (fX1_sheetsFor h wl) h := by
  refine lh_ofi (lv := [(0, .ref (ad 30)), (1, .int wl)]) (by decide) (Nat.le_of_ble_eq_true rfl) rfl (by simp [Value.category]) ⟨rfl, rfl, trivial⟩ ?_
  intro p e s m args below meth c B
  have B : lh_BK p (lh_rm 3) s m args meth c D ad bs cI cZ t9 k "LightHours$Hanging" cX1_sheetsFor 5 (some .int) := B
  refine la_iconst (v := 0) B dX1_sheetsFor_0 (by decide) ?_
  refine la_istore_n (i := 2) B dX1_sheetsFor_1 rfl (by decide) ?_
  refine la_iconst (v := 0) B dX1_sheetsFor_2 (by decide) ?_
  refine la_istore_n (i := 3) B dX1_sheetsFor_3 rfl (by decide) ?_
  refine la_sub (lv2 := [(0, .ref (ad 30)), (1, .int wl), (2, .int 0), (3, .int (nI 0))]) ⟨rfl, rfl, rfl, rfl, trivial⟩ (by simp [Value.category]) ?_
  exact lp_X1_sheetsFor h wl B I hw I.1.2.1.1 rfl _ 0 0 (Nat.zero_add _) (by simp only [fX1_sheetsFor])

def LX1_prep2_h  : Nat → Nat → lh_HS → lh_HS
  | 0, i, h => h
  | n + 1, i, h => (LX1_prep2_h n (i + 1) (lh_up (lh_up (lh_up h 32 ((nI i).toNatClampNeg) (((-4)))) 34 ((nI i).toNatClampNeg) ((fX4_lightEnd (lh_up h 32 ((nI i).toNatClampNeg) (((-4)))) (h 24 (nI i).toNatClampNeg) (h 25 (nI i).toNatClampNeg) 1))) 33 ((nI i).toNatClampNeg) ((fX1_sheetsFor (lh_up (lh_up h 32 ((nI i).toNatClampNeg) (((-4)))) 34 ((nI i).toNatClampNeg) ((fX4_lightEnd (lh_up h 32 ((nI i).toNatClampNeg) (((-4)))) (h 24 (nI i).toNatClampNeg) (h 25 (nI i).toNatClampNeg) 1))) (nI i)))))
set_option maxHeartbeats 4000000 in
set_option maxRecDepth 100000 in
theorem lp_X1_prep2 {l : Launch} {D : va_G} {ad : Nat → Nat} {bs : Nat} {cI cZ : ClassId} {t9 : Nat} {k : Bool} {p : Program} {e : Env} {s : State} {m : MethodId} {args : Array Value} {below : List Frame} {meth : Method} {c : Code}  {h2 : lh_HS} (B : lh_BK p (lh_rm 5) s m args meth c D ad bs cI cZ t9 k "LightHours$Hanging" cX1_prepare 2 none) {h0 : lh_HS} (I0 : lh_I h0) {N : Nat} (hN0 : N = lh_N h0 6) :
    ∀ (n i : Nat) (h : lh_HS), i + n = N → h2 = LX1_prep2_h n i h → lh_fr h0 h → lh_AJ p l e (lh_rm 5) s m args below meth c D ad bs cI cZ k 2 (MQ below (lh_Qv D ad bs cI cZ k h2) args s 0 0 (lh_A bs)) 42 [(0, .ref (ad 30)), (1, .int (nI i))] [] h := by
  intro n
  induction n with
  | zero =>
    intro i h hi hh hv
    have hM := I0.1.2.2.2.2.2
    have hN : h 6 0 = nI N := by rw [hv 6 (by decide) (by decide), hN0]; exact I0.1.2.2.2.2.1
    have hexit : h 6 0 ≤ nI i := by rw [hN]; exact nI_le (by omega) (by omega)
    refine la_iload_n (i := 1) B dX1_prepare_42 rfl rfl ?_
    refine la_aload_n (i := 0) B dX1_prepare_43 rfl rfl ?_
    refine la_get (i := 30) (ci := 1) (j := 0) (C := RX1) (T := TX1) (N := 10) B (lh_nc_lt (by decide)) rfl ix_1 rfl (by decide) wd_276 rfl rfl dX1_prepare_44 ?_
    refine la_get (i := 1) (ci := 2) (j := 4) (C := RX2) (T := TX2) (N := 5) B (lh_nc_lt (by decide)) rfl ix_2 rfl (by decide) wd_228 rfl rfl dX1_prepare_47 ?_
    refine la_get (i := 6) (ci := 7) (j := 0) (v := .int (h 6 0)) (C := RX7) (T := TX7) (N := 4) B (lh_nc_lt (by decide)) rfl ix_7 rfl (by decide) wd_194 rfl rfl dX1_prepare_50 ?_
    refine la_icmp_ge (tgt := 122) B dX1_prepare_53 (by decide) (fun c53 => ?_) (fun c53 => ?_)
    · exact la_return B rfl (by rw [hh]; simp only [LX1_prep2_h]) dX1_prepare_122
    · exact absurd hexit c53
  | succ n ih =>
    intro i h hi hh hv
    have hM := I0.1.2.2.2.2.2
    have hN : h 6 0 = nI N := by rw [hv 6 (by decide) (by decide), hN0]; exact I0.1.2.2.2.2.1
    have hcont : ¬ h 6 0 ≤ nI i := by rw [hN]; exact nI_ge (by omega) (by omega)
    have hb : vp_in (nI i) 5 := vp_in_nI (by omega) (by omega)
    obtain ⟨g24, g25, -⟩ := I0.2.2.2.2.2 i (by omega)
    have hR := I0.1.1.2
    have hl1 : vp_in (h 24 (nI i).toNatClampNeg * 10 + h 25 (nI i).toNatClampNeg) 40 := by
      rw [hv 24 (by decide) (by decide), hv 25 (by decide) (by decide), nI_clamp (by omega)]
      exact lh_ix_ry (g24.mono hR) g25
    have hl2 : vp_in (h 24 (nI i).toNatClampNeg) 4 := by
      rw [hv 24 (by decide) (by decide), nI_clamp (by omega)]
      exact g24.vp hR (by omega)
    refine la_iload_n (i := 1) B dX1_prepare_42 rfl rfl ?_
    refine la_aload_n (i := 0) B dX1_prepare_43 rfl rfl ?_
    refine la_get (i := 30) (ci := 1) (j := 0) (C := RX1) (T := TX1) (N := 10) B (lh_nc_lt (by decide)) rfl ix_1 rfl (by decide) wd_276 rfl rfl dX1_prepare_44 ?_
    refine la_get (i := 1) (ci := 2) (j := 4) (C := RX2) (T := TX2) (N := 5) B (lh_nc_lt (by decide)) rfl ix_2 rfl (by decide) wd_228 rfl rfl dX1_prepare_47 ?_
    refine la_get (i := 6) (ci := 7) (j := 0) (v := .int (h 6 0)) (C := RX7) (T := TX7) (N := 4) B (lh_nc_lt (by decide)) rfl ix_7 rfl (by decide) wd_194 rfl rfl dX1_prepare_50 ?_
    refine la_icmp_ge (tgt := 122) B dX1_prepare_53 (by decide) (fun c53 => ?_) (fun c53 => ?_)
    · exact absurd c53 hcont
    · refine la_aload_n (i := 0) B dX1_prepare_56 rfl rfl ?_
      refine la_get (i := 30) (ci := 1) (j := 5) (C := RX1) (T := TX1) (N := 10) B (lh_nc_lt (by decide)) rfl ix_1 rfl (by decide) wd_283 rfl rfl dX1_prepare_57 ?_
      refine la_iload_n (i := 1) B dX1_prepare_60 rfl rfl ?_
      refine la_bipush (v := -4) B dX1_prepare_61 (by decide) ?_
      refine la_iast (i := 32) B (lh_nc_lt (by decide)) rfl rfl hb dX1_prepare_63 ?_
      refine la_aload_n (i := 0) B dX1_prepare_64 rfl rfl ?_
      refine la_get (i := 30) (ci := 1) (j := 7) (C := RX1) (T := TX1) (N := 10) B (lh_nc_lt (by decide)) rfl ix_1 rfl (by decide) wd_285 rfl rfl dX1_prepare_65 ?_
      refine la_iload_n (i := 1) B dX1_prepare_68 rfl rfl ?_
      refine la_aload_n (i := 0) B dX1_prepare_69 rfl rfl ?_
      refine la_get (i := 30) (ci := 1) (j := 0) (C := RX1) (T := TX1) (N := 10) B (lh_nc_lt (by decide)) rfl ix_1 rfl (by decide) wd_276 rfl rfl dX1_prepare_70 ?_
      refine la_get (i := 1) (ci := 2) (j := 0) (C := RX2) (T := TX2) (N := 5) B (lh_nc_lt (by decide)) rfl ix_2 rfl (by decide) wd_215 rfl rfl dX1_prepare_73 ?_
      refine la_aload_n (i := 0) B dX1_prepare_76 rfl rfl ?_
      refine la_get (i := 30) (ci := 1) (j := 0) (C := RX1) (T := TX1) (N := 10) B (lh_nc_lt (by decide)) rfl ix_1 rfl (by decide) wd_276 rfl rfl dX1_prepare_77 ?_
      refine la_get (i := 1) (ci := 2) (j := 4) (C := RX2) (T := TX2) (N := 5) B (lh_nc_lt (by decide)) rfl ix_2 rfl (by decide) wd_228 rfl rfl dX1_prepare_80 ?_
      refine la_get (i := 6) (ci := 7) (j := 1) (C := RX7) (T := TX7) (N := 4) B (lh_nc_lt (by decide)) rfl ix_7 rfl (by decide) wd_197 rfl rfl dX1_prepare_83 ?_
      refine la_iload_n (i := 1) B dX1_prepare_86 rfl rfl ?_
      refine la_iald (i := 24) (v := h 24 (nI i).toNatClampNeg) B (lh_nc_lt (by decide)) rfl hb rfl dX1_prepare_87 ?_
      refine la_aload_n (i := 0) B dX1_prepare_88 rfl rfl ?_
      refine la_get (i := 30) (ci := 1) (j := 0) (C := RX1) (T := TX1) (N := 10) B (lh_nc_lt (by decide)) rfl ix_1 rfl (by decide) wd_276 rfl rfl dX1_prepare_89 ?_
      refine la_get (i := 1) (ci := 2) (j := 4) (C := RX2) (T := TX2) (N := 5) B (lh_nc_lt (by decide)) rfl ix_2 rfl (by decide) wd_228 rfl rfl dX1_prepare_92 ?_
      refine la_get (i := 6) (ci := 7) (j := 2) (C := RX7) (T := TX7) (N := 4) B (lh_nc_lt (by decide)) rfl ix_7 rfl (by decide) wd_200 rfl rfl dX1_prepare_95 ?_
      refine la_iload_n (i := 1) B dX1_prepare_98 rfl rfl ?_
      refine la_iald (i := 25) (v := h 25 (nI i).toNatClampNeg) B (lh_nc_lt (by decide)) rfl hb rfl dX1_prepare_99 ?_
      refine la_iconst (v := 1) B dX1_prepare_100 (by decide) ?_
      refine la_callVi (i := 2) B (ct_X4_lightEnd (lh_up h 32 ((nI i).toNatClampNeg) (((-4)))) (h 24 (nI i).toNatClampNeg) (h 25 (nI i).toNatClampNeg) 1 hl1 hl2) lk_X1_91 (by decide) (lh_nc_lt (by decide)) rfl rfl rfl (by simp [Value.category]) dX1_prepare_101 ?_
      refine la_iast (i := 34) B (lh_nc_lt (by decide)) rfl rfl hb dX1_prepare_104 ?_
      refine la_aload_n (i := 0) B dX1_prepare_105 rfl rfl ?_
      refine la_get (i := 30) (ci := 1) (j := 6) (C := RX1) (T := TX1) (N := 10) B (lh_nc_lt (by decide)) rfl ix_1 rfl (by decide) wd_284 rfl rfl dX1_prepare_106 ?_
      refine la_iload_n (i := 1) B dX1_prepare_109 rfl rfl ?_
      refine la_aload_n (i := 0) B dX1_prepare_110 rfl rfl ?_
      refine la_iload_n (i := 1) B dX1_prepare_111 rfl rfl ?_
      have hf1 : lh_fr h0 (lh_up (lh_up h 32 ((nI i).toNatClampNeg) (((-4)))) 34 ((nI i).toNatClampNeg) ((fX4_lightEnd (lh_up h 32 ((nI i).toNatClampNeg) (((-4)))) (h 24 (nI i).toNatClampNeg) (h 25 (nI i).toNatClampNeg) 1))) := ((hv.up (i := 32) (by decide)).up (i := 34) (by decide))
      refine la_callVi (i := 30) B (ct_X1_sheetsFor (lh_up (lh_up h 32 ((nI i).toNatClampNeg) (((-4)))) 34 ((nI i).toNatClampNeg) ((fX4_lightEnd (lh_up h 32 ((nI i).toNatClampNeg) (((-4)))) (h 24 (nI i).toNatClampNeg) (h 25 (nI i).toNatClampNeg) 1))) (nI i) (I0.fr hf1) hb) lk_X1_97 (by decide) (lh_nc_lt (by decide)) rfl rfl rfl (by simp [Value.category]) dX1_prepare_112 ?_
      refine la_iast (i := 33) B (lh_nc_lt (by decide)) rfl rfl hb dX1_prepare_115 ?_
      refine la_iincp B dX1_prepare_116 rfl (by decide) ?_
      refine la_goto (tgt := 42) B dX1_prepare_119 (by decide) ?_
      refine la_sub (lv2 := [(0, .ref (ad 30)), (1, .int (nI (i + 1)))]) ⟨rfl, (congrArg (fun z => some (Value.int z)) (nI_1 i)), trivial⟩ (by simp [Value.category]) ?_
      exact ih (i + 1) (lh_up (lh_up (lh_up h 32 ((nI i).toNatClampNeg) (((-4)))) 34 ((nI i).toNatClampNeg) ((fX4_lightEnd (lh_up h 32 ((nI i).toNatClampNeg) (((-4)))) (h 24 (nI i).toNatClampNeg) (h 25 (nI i).toNatClampNeg) 1))) 33 ((nI i).toNatClampNeg) ((fX1_sheetsFor (lh_up (lh_up h 32 ((nI i).toNatClampNeg) (((-4)))) 34 ((nI i).toNatClampNeg) ((fX4_lightEnd (lh_up h 32 ((nI i).toNatClampNeg) (((-4)))) (h 24 (nI i).toNatClampNeg) (h 25 (nI i).toNatClampNeg) 1))) (nI i)))) (by omega) (by rw [hh]; simp only [LX1_prep2_h]) (((hv.up (i := 32) (by decide)).up (i := 34) (by decide)).up (i := 33) (by decide))

def LX1_prep1_h  : Nat → Nat → lh_HS → lh_HS
  | 0, i, h => (LX1_prep2_h (lh_N h 6) 0 h)
  | n + 1, i, h => (LX1_prep1_h n (i + 1) (lh_up (gX3_openAt h (nI i)) 36 ((nI i).toNatClampNeg) ((fX3_leftEnd (gX3_openAt h (nI i)) 0))))
set_option maxHeartbeats 4000000 in
set_option maxRecDepth 100000 in
theorem lp_X1_prep1 {l : Launch} {D : va_G} {ad : Nat → Nat} {bs : Nat} {cI cZ : ClassId} {t9 : Nat} {k : Bool} {p : Program} {e : Env} {s : State} {m : MethodId} {args : Array Value} {below : List Frame} {meth : Method} {c : Code}  {h2 : lh_HS} (B : lh_BK p (lh_rm 5) s m args meth c D ad bs cI cZ t9 k "LightHours$Hanging" cX1_prepare 2 none) {h0 : lh_HS} (I0 : lh_I h0) {N : Nat} (hN0 : N = lh_N h0 3) :
    ∀ (n i : Nat) (h : lh_HS), i + n = N → h2 = LX1_prep1_h n i h → lh_fr h0 h → lh_AJ p l e (lh_rm 5) s m args below meth c D ad bs cI cZ k 2 (MQ below (lh_Qv D ad bs cI cZ k h2) args s 0 0 (lh_A bs)) 2 [(0, .ref (ad 30)), (1, .int (nI i))] [] h := by
  intro n
  induction n with
  | zero =>
    intro i h hi hh hv
    have hM := I0.1.2.1.2
    have hN : h 3 0 = nI N := by rw [hv 3 (by decide) (by decide), hN0]; exact I0.1.2.1.1
    have hexit : h 3 0 ≤ nI i := by rw [hN]; exact nI_le (by omega) (by omega)
    refine la_iload_n (i := 1) B dX1_prepare_2 rfl rfl ?_
    refine la_aload_n (i := 0) B dX1_prepare_3 rfl rfl ?_
    refine la_get (i := 30) (ci := 1) (j := 0) (C := RX1) (T := TX1) (N := 10) B (lh_nc_lt (by decide)) rfl ix_1 rfl (by decide) wd_276 rfl rfl dX1_prepare_4 ?_
    refine la_get (i := 1) (ci := 2) (j := 1) (C := RX2) (T := TX2) (N := 5) B (lh_nc_lt (by decide)) rfl ix_2 rfl (by decide) wd_218 rfl rfl dX1_prepare_7 ?_
    refine la_get (i := 3) (ci := 5) (j := 0) (v := .int (h 3 0)) (C := RX5) (T := TX5) (N := 8) B (lh_nc_lt (by decide)) rfl ix_5 rfl (by decide) wd_87 rfl rfl dX1_prepare_10 ?_
    refine la_icmp_ge (tgt := 40) B dX1_prepare_13 (by decide) (fun c13 => ?_) (fun c13 => ?_)
    · refine la_iconst (v := 0) B dX1_prepare_40 (by decide) ?_
      refine la_istore_n (i := 1) B dX1_prepare_41 rfl (by decide) ?_
      refine la_sub (lv2 := [(0, .ref (ad 30)), (1, .int (nI 0))]) ⟨rfl, rfl, trivial⟩ (by simp [Value.category]) ?_
      exact lp_X1_prep2 B I0 (hv.N (by decide) (by decide)) _ 0 h (Nat.zero_add _) (by rw [hh]; simp only [LX1_prep1_h]) hv
    · exact absurd hexit c13
  | succ n ih =>
    intro i h hi hh hv
    have hM := I0.1.2.1.2
    have hN : h 3 0 = nI N := by rw [hv 3 (by decide) (by decide), hN0]; exact I0.1.2.1.1
    have hcont : ¬ h 3 0 ≤ nI i := by rw [hN]; exact nI_ge (by omega) (by omega)
    have hs : lh_ix (nI i) (lh_N h 3) := lh_ix_nI (by rw [hv.N (by decide) (by decide)]; omega)
    have hb : vp_in (nI i) 8 := vp_in_nI (by omega) (by omega)
    refine la_iload_n (i := 1) B dX1_prepare_2 rfl rfl ?_
    refine la_aload_n (i := 0) B dX1_prepare_3 rfl rfl ?_
    refine la_get (i := 30) (ci := 1) (j := 0) (C := RX1) (T := TX1) (N := 10) B (lh_nc_lt (by decide)) rfl ix_1 rfl (by decide) wd_276 rfl rfl dX1_prepare_4 ?_
    refine la_get (i := 1) (ci := 2) (j := 1) (C := RX2) (T := TX2) (N := 5) B (lh_nc_lt (by decide)) rfl ix_2 rfl (by decide) wd_218 rfl rfl dX1_prepare_7 ?_
    refine la_get (i := 3) (ci := 5) (j := 0) (v := .int (h 3 0)) (C := RX5) (T := TX5) (N := 8) B (lh_nc_lt (by decide)) rfl ix_5 rfl (by decide) wd_87 rfl rfl dX1_prepare_10 ?_
    refine la_icmp_ge (tgt := 40) B dX1_prepare_13 (by decide) (fun c13 => ?_) (fun c13 => ?_)
    · exact absurd c13 hcont
    · refine la_aload_n (i := 0) B dX1_prepare_16 rfl rfl ?_
      refine la_get (i := 30) (ci := 1) (j := 9) (C := RX1) (T := TX1) (N := 10) B (lh_nc_lt (by decide)) rfl ix_1 rfl (by decide) wd_287 rfl rfl dX1_prepare_17 ?_
      refine la_iload_n (i := 1) B dX1_prepare_20 rfl rfl ?_
      refine la_aload_n (i := 0) B dX1_prepare_21 rfl rfl ?_
      refine la_get (i := 30) (ci := 1) (j := 1) (C := RX1) (T := TX1) (N := 10) B (lh_nc_lt (by decide)) rfl ix_1 rfl (by decide) wd_277 rfl rfl dX1_prepare_22 ?_
      refine la_iload_n (i := 1) B dX1_prepare_25 rfl rfl ?_
      refine la_callVr (i := 27) B (ct_X3_openAt h (nI i) (I0.fr hv) hs) lk_X1_71 (by decide) (lh_nc_lt (by decide)) rfl rfl rfl (by simp [Value.category]) dX1_prepare_26 ?_
      refine la_iconst (v := 0) B dX1_prepare_29 (by decide) ?_
      refine la_callVi (i := 27) B (ct_X3_leftEnd (gX3_openAt h (nI i)) 0 (lh_open8 (I0.fr hv) hs)) lk_X1_77 (by decide) (lh_nc_lt (by decide)) rfl rfl rfl (by simp [Value.category]) dX1_prepare_30 ?_
      refine la_iast (i := 36) B (lh_nc_lt (by decide)) rfl rfl hb dX1_prepare_33 ?_
      refine la_iincp B dX1_prepare_34 rfl (by decide) ?_
      refine la_goto (tgt := 2) B dX1_prepare_37 (by decide) ?_
      refine la_sub (lv2 := [(0, .ref (ad 30)), (1, .int (nI (i + 1)))]) ⟨rfl, (congrArg (fun z => some (Value.int z)) (nI_1 i)), trivial⟩ (by simp [Value.category]) ?_
      exact ih (i + 1) (lh_up (gX3_openAt h (nI i)) 36 ((nI i).toNatClampNeg) ((fX3_leftEnd (gX3_openAt h (nI i)) 0))) (by omega) (by rw [hh]; simp only [LX1_prep1_h]) ((lh_openfr hv _).up (i := 36) (by decide))

def gX1_prepare (h : lh_HS)  : lh_HS := (LX1_prep1_h (lh_N h 3) 0 h)
set_option maxHeartbeats 4000000 in
set_option maxRecDepth 100000 in
theorem ct_X1_prepare {l : Launch} {D : va_G} {ad : Nat → Nat} {bs : Nat} {cI cZ : ClassId} {t9 : Nat} {k : Bool} (h : lh_HS)  (I : lh_I h) : lh_CTv l D ad bs cI cZ t9 k yX1_prepare cX1_prepare 2 5 [.ref (ad 30)] h (gX1_prepare h ) := by
  refine lh_ofv (lv := [(0, .ref (ad 30))]) (by decide) (Nat.le_of_ble_eq_true rfl) rfl (by simp [Value.category]) ⟨rfl, trivial⟩ ?_
  intro p e s m args below meth c B
  have B : lh_BK p (lh_rm 5) s m args meth c D ad bs cI cZ t9 k "LightHours$Hanging" cX1_prepare 2 none := B
  refine la_iconst (v := 0) B dX1_prepare_0 (by decide) ?_
  refine la_istore_n (i := 1) B dX1_prepare_1 rfl (by decide) ?_
  refine la_sub (lv2 := [(0, .ref (ad 30)), (1, .int (nI 0))]) ⟨rfl, rfl, trivial⟩ (by simp [Value.category]) ?_
  exact lp_X1_prep1 B I rfl _ 0 h (Nat.zero_add _) (by simp only [gX1_prepare]) (lh_fr.rf h)

def LX1_fits (h : lh_HS) (wl : Int32) (sn : Int32) (yr : Int32) : Nat → Nat → Int32
  | 0, i => 1
  | n + 1, i => (if (h 32 (nI i).toNatClampNeg) = sn then (if (h 12 sn.toNatClampNeg) < (if 0 ≤ ((h 25 (nI i).toNatClampNeg) - yr) then ((h 25 (nI i).toNatClampNeg) - yr) else 0 - ((h 25 (nI i).toNatClampNeg) - yr)) then (if (h 32 (nI i).toNatClampNeg) = ((-4)) then (LX1_fits h wl sn yr n (i + 1)) else (if (h 32 (nI i).toNatClampNeg) = (h 13 sn.toNatClampNeg) then (if (if 0 ≤ ((h 25 (nI i).toNatClampNeg) - yr) then ((h 25 (nI i).toNatClampNeg) - yr) else 0 - ((h 25 (nI i).toNatClampNeg) - yr)) = 0 then 0 else (LX1_fits h wl sn yr n (i + 1))) else (LX1_fits h wl sn yr n (i + 1)))) else 0) else (if (h 32 (nI i).toNatClampNeg) = ((-4)) then (LX1_fits h wl sn yr n (i + 1)) else (if (h 32 (nI i).toNatClampNeg) = (h 13 sn.toNatClampNeg) then (if (if 0 ≤ ((h 25 (nI i).toNatClampNeg) - yr) then ((h 25 (nI i).toNatClampNeg) - yr) else 0 - ((h 25 (nI i).toNatClampNeg) - yr)) = 0 then 0 else (LX1_fits h wl sn yr n (i + 1))) else (LX1_fits h wl sn yr n (i + 1)))))
set_option maxHeartbeats 4000000 in
set_option maxRecDepth 100000 in
theorem lp_X1_fits {l : Launch} {D : va_G} {ad : Nat → Nat} {bs : Nat} {cI cZ : ClassId} {t9 : Nat} {k : Bool} {p : Program} {e : Env} {s : State} {m : MethodId} {args : Array Value} {below : List Frame} {meth : Method} {c : Code} (h : lh_HS) (wl : Int32) (sn : Int32) (yr : Int32) {r : Int32} (B : lh_BK p (lh_rm 1) s m args meth c D ad bs cI cZ t9 k "LightHours$Hanging" cX1_fits 6 (some .boolean)) {N : Nat} (hN : wl = nI N) (hM : N ≤ 5) (h8 : vp_in sn 8) :
    ∀ (n i : Nat), i + n = N → r = LX1_fits h wl sn yr n i → lh_AJ p l e (lh_rm 1) s m args below meth c D ad bs cI cZ k 6 (MQ below (lh_Qi D ad bs cI cZ k r h) args s 0 0 (lh_A bs)) 46 [(0, .ref (ad 30)), (1, .int wl), (2, .int sn), (3, .int yr), (4, .int (nI i))] [] h := by
  intro n
  induction n with
  | zero =>
    intro i hi hr
    have hexit : wl ≤ nI i := by rw [hN]; exact nI_le (by omega) (by omega)
    refine la_iload B dX1_fits_46 rfl ?_
    refine la_iload_n (i := 1) B dX1_fits_48 rfl rfl ?_
    refine la_icmp_ge (tgt := 149) B dX1_fits_49 (by decide) (fun c49 => ?_) (fun c49 => ?_)
    · refine la_iconst (v := 1) B dX1_fits_149 (by decide) ?_
      exact la_zreturn B rfl (by rw [hr]; simp only [LX1_fits]) rfl rfl dX1_fits_150
    · exact absurd hexit c49
  | succ n ih =>
    intro i hi hr
    have hcont : ¬ wl ≤ nI i := by rw [hN]; exact nI_ge (by omega) (by omega)
    have hb : vp_in (nI i) 5 := vp_in_nI (by omega) (by omega)
    refine la_iload B dX1_fits_46 rfl ?_
    refine la_iload_n (i := 1) B dX1_fits_48 rfl rfl ?_
    refine la_icmp_ge (tgt := 149) B dX1_fits_49 (by decide) (fun c49 => ?_) (fun c49 => ?_)
    · exact absurd c49 hcont
    · refine la_aload_n (i := 0) B dX1_fits_52 rfl rfl ?_
      refine la_get (i := 30) (ci := 1) (j := 0) (C := RX1) (T := TX1) (N := 10) B (lh_nc_lt (by decide)) rfl ix_1 rfl (by decide) wd_276 rfl rfl dX1_fits_53 ?_
      refine la_get (i := 1) (ci := 2) (j := 4) (C := RX2) (T := TX2) (N := 5) B (lh_nc_lt (by decide)) rfl ix_2 rfl (by decide) wd_228 rfl rfl dX1_fits_56 ?_
      refine la_get (i := 6) (ci := 7) (j := 2) (C := RX7) (T := TX7) (N := 4) B (lh_nc_lt (by decide)) rfl ix_7 rfl (by decide) wd_200 rfl rfl dX1_fits_59 ?_
      refine la_iload B dX1_fits_62 rfl ?_
      refine la_iald (i := 25) (v := h 25 (nI i).toNatClampNeg) B (lh_nc_lt (by decide)) rfl hb rfl dX1_fits_64 ?_
      refine la_iload_n (i := 3) B dX1_fits_65 rfl rfl ?_
      refine la_isub B dX1_fits_66 ?_
      refine la_mabs B wd_586 wd_441 wd_45 wd_442 (by decide) (by decide) dX1_fits_67 ?_
      refine la_istore B dX1_fits_70 (by decide) ?_
      refine la_aload_n (i := 0) B dX1_fits_72 rfl rfl ?_
      refine la_get (i := 30) (ci := 1) (j := 5) (C := RX1) (T := TX1) (N := 10) B (lh_nc_lt (by decide)) rfl ix_1 rfl (by decide) wd_283 rfl rfl dX1_fits_73 ?_
      refine la_iload B dX1_fits_76 rfl ?_
      refine la_iald (i := 32) (v := h 32 (nI i).toNatClampNeg) B (lh_nc_lt (by decide)) rfl hb rfl dX1_fits_78 ?_
      refine la_iload_n (i := 2) B dX1_fits_79 rfl rfl ?_
      refine la_icmp_ne (tgt := 102) B dX1_fits_80 (by decide) (fun c80 => ?_) (fun c80 => ?_)
      · refine la_aload_n (i := 0) B dX1_fits_102 rfl rfl ?_
        refine la_get (i := 30) (ci := 1) (j := 5) (C := RX1) (T := TX1) (N := 10) B (lh_nc_lt (by decide)) rfl ix_1 rfl (by decide) wd_283 rfl rfl dX1_fits_103 ?_
        refine la_iload B dX1_fits_106 rfl ?_
        refine la_iald (i := 32) (v := h 32 (nI i).toNatClampNeg) B (lh_nc_lt (by decide)) rfl hb rfl dX1_fits_108 ?_
        refine la_bipush (v := -4) B dX1_fits_109 (by decide) ?_
        refine la_icmp_eq (tgt := 143) B dX1_fits_111 (by decide) (fun c111 => ?_) (fun c111 => ?_)
        · refine la_iincp B dX1_fits_143 rfl (by decide) ?_
          refine la_goto (tgt := 46) B dX1_fits_146 (by decide) ?_
          refine la_sub (lv2 := [(0, .ref (ad 30)), (1, .int wl), (2, .int sn), (3, .int yr), (4, .int (nI (i + 1)))]) ⟨rfl, rfl, rfl, rfl, (congrArg (fun z => some (Value.int z)) (nI_1 i)), trivial⟩ (by simp [Value.category]) ?_
          exact ih (i + 1) (by omega) (by rw [hr]; simp only [LX1_fits, if_neg c80, if_pos c111])
        · refine la_aload_n (i := 0) B dX1_fits_114 rfl rfl ?_
          refine la_get (i := 30) (ci := 1) (j := 5) (C := RX1) (T := TX1) (N := 10) B (lh_nc_lt (by decide)) rfl ix_1 rfl (by decide) wd_283 rfl rfl dX1_fits_115 ?_
          refine la_iload B dX1_fits_118 rfl ?_
          refine la_iald (i := 32) (v := h 32 (nI i).toNatClampNeg) B (lh_nc_lt (by decide)) rfl hb rfl dX1_fits_120 ?_
          refine la_aload_n (i := 0) B dX1_fits_121 rfl rfl ?_
          refine la_get (i := 30) (ci := 1) (j := 0) (C := RX1) (T := TX1) (N := 10) B (lh_nc_lt (by decide)) rfl ix_1 rfl (by decide) wd_276 rfl rfl dX1_fits_122 ?_
          refine la_get (i := 1) (ci := 2) (j := 1) (C := RX2) (T := TX2) (N := 5) B (lh_nc_lt (by decide)) rfl ix_2 rfl (by decide) wd_218 rfl rfl dX1_fits_125 ?_
          refine la_get (i := 3) (ci := 5) (j := 5) (C := RX5) (T := TX5) (N := 8) B (lh_nc_lt (by decide)) rfl ix_5 rfl (by decide) wd_103 rfl rfl dX1_fits_128 ?_
          refine la_iload_n (i := 2) B dX1_fits_131 rfl rfl ?_
          refine la_iald (i := 13) (v := h 13 sn.toNatClampNeg) B (lh_nc_lt (by decide)) rfl h8 rfl dX1_fits_132 ?_
          refine la_icmp_ne (tgt := 143) B dX1_fits_133 (by decide) (fun c133 => ?_) (fun c133 => ?_)
          · refine la_iincp B dX1_fits_143 rfl (by decide) ?_
            refine la_goto (tgt := 46) B dX1_fits_146 (by decide) ?_
            refine la_sub (lv2 := [(0, .ref (ad 30)), (1, .int wl), (2, .int sn), (3, .int yr), (4, .int (nI (i + 1)))]) ⟨rfl, rfl, rfl, rfl, (congrArg (fun z => some (Value.int z)) (nI_1 i)), trivial⟩ (by simp [Value.category]) ?_
            exact ih (i + 1) (by omega) (by rw [hr]; simp only [LX1_fits, if_neg c80, if_neg c111, if_neg c133])
          · refine la_iload B dX1_fits_136 rfl ?_
            refine la_if_ne (tgt := 143) B dX1_fits_138 (by decide) (fun c138 => ?_) (fun c138 => ?_)
            · refine la_iincp B dX1_fits_143 rfl (by decide) ?_
              refine la_goto (tgt := 46) B dX1_fits_146 (by decide) ?_
              refine la_sub (lv2 := [(0, .ref (ad 30)), (1, .int wl), (2, .int sn), (3, .int yr), (4, .int (nI (i + 1)))]) ⟨rfl, rfl, rfl, rfl, (congrArg (fun z => some (Value.int z)) (nI_1 i)), trivial⟩ (by simp [Value.category]) ?_
              exact ih (i + 1) (by omega) (by rw [hr]; simp only [LX1_fits, if_neg c80, if_neg c111, if_pos c133, if_neg c138])
            · refine la_iconst (v := 0) B dX1_fits_141 (by decide) ?_
              exact la_zreturn B rfl (by rw [hr]; simp only [LX1_fits, if_neg c80, if_neg c111, if_pos c133, if_pos c138]) rfl rfl dX1_fits_142
      · refine la_iload B dX1_fits_83 rfl ?_
        refine la_aload_n (i := 0) B dX1_fits_85 rfl rfl ?_
        refine la_get (i := 30) (ci := 1) (j := 0) (C := RX1) (T := TX1) (N := 10) B (lh_nc_lt (by decide)) rfl ix_1 rfl (by decide) wd_276 rfl rfl dX1_fits_86 ?_
        refine la_get (i := 1) (ci := 2) (j := 1) (C := RX2) (T := TX2) (N := 5) B (lh_nc_lt (by decide)) rfl ix_2 rfl (by decide) wd_218 rfl rfl dX1_fits_89 ?_
        refine la_get (i := 3) (ci := 5) (j := 4) (C := RX5) (T := TX5) (N := 8) B (lh_nc_lt (by decide)) rfl ix_5 rfl (by decide) wd_99 rfl rfl dX1_fits_92 ?_
        refine la_iload_n (i := 2) B dX1_fits_95 rfl rfl ?_
        refine la_iald (i := 12) (v := h 12 sn.toNatClampNeg) B (lh_nc_lt (by decide)) rfl h8 rfl dX1_fits_96 ?_
        refine la_icmp_gt (tgt := 102) B dX1_fits_97 (by decide) (fun c97 => ?_) (fun c97 => ?_)
        · refine la_aload_n (i := 0) B dX1_fits_102 rfl rfl ?_
          refine la_get (i := 30) (ci := 1) (j := 5) (C := RX1) (T := TX1) (N := 10) B (lh_nc_lt (by decide)) rfl ix_1 rfl (by decide) wd_283 rfl rfl dX1_fits_103 ?_
          refine la_iload B dX1_fits_106 rfl ?_
          refine la_iald (i := 32) (v := h 32 (nI i).toNatClampNeg) B (lh_nc_lt (by decide)) rfl hb rfl dX1_fits_108 ?_
          refine la_bipush (v := -4) B dX1_fits_109 (by decide) ?_
          refine la_icmp_eq (tgt := 143) B dX1_fits_111 (by decide) (fun c111 => ?_) (fun c111 => ?_)
          · refine la_iincp B dX1_fits_143 rfl (by decide) ?_
            refine la_goto (tgt := 46) B dX1_fits_146 (by decide) ?_
            refine la_sub (lv2 := [(0, .ref (ad 30)), (1, .int wl), (2, .int sn), (3, .int yr), (4, .int (nI (i + 1)))]) ⟨rfl, rfl, rfl, rfl, (congrArg (fun z => some (Value.int z)) (nI_1 i)), trivial⟩ (by simp [Value.category]) ?_
            exact ih (i + 1) (by omega) (by rw [hr]; simp only [LX1_fits, if_pos c80, if_pos c97, if_pos c111])
          · refine la_aload_n (i := 0) B dX1_fits_114 rfl rfl ?_
            refine la_get (i := 30) (ci := 1) (j := 5) (C := RX1) (T := TX1) (N := 10) B (lh_nc_lt (by decide)) rfl ix_1 rfl (by decide) wd_283 rfl rfl dX1_fits_115 ?_
            refine la_iload B dX1_fits_118 rfl ?_
            refine la_iald (i := 32) (v := h 32 (nI i).toNatClampNeg) B (lh_nc_lt (by decide)) rfl hb rfl dX1_fits_120 ?_
            refine la_aload_n (i := 0) B dX1_fits_121 rfl rfl ?_
            refine la_get (i := 30) (ci := 1) (j := 0) (C := RX1) (T := TX1) (N := 10) B (lh_nc_lt (by decide)) rfl ix_1 rfl (by decide) wd_276 rfl rfl dX1_fits_122 ?_
            refine la_get (i := 1) (ci := 2) (j := 1) (C := RX2) (T := TX2) (N := 5) B (lh_nc_lt (by decide)) rfl ix_2 rfl (by decide) wd_218 rfl rfl dX1_fits_125 ?_
            refine la_get (i := 3) (ci := 5) (j := 5) (C := RX5) (T := TX5) (N := 8) B (lh_nc_lt (by decide)) rfl ix_5 rfl (by decide) wd_103 rfl rfl dX1_fits_128 ?_
            refine la_iload_n (i := 2) B dX1_fits_131 rfl rfl ?_
            refine la_iald (i := 13) (v := h 13 sn.toNatClampNeg) B (lh_nc_lt (by decide)) rfl h8 rfl dX1_fits_132 ?_
            refine la_icmp_ne (tgt := 143) B dX1_fits_133 (by decide) (fun c133 => ?_) (fun c133 => ?_)
            · refine la_iincp B dX1_fits_143 rfl (by decide) ?_
              refine la_goto (tgt := 46) B dX1_fits_146 (by decide) ?_
              refine la_sub (lv2 := [(0, .ref (ad 30)), (1, .int wl), (2, .int sn), (3, .int yr), (4, .int (nI (i + 1)))]) ⟨rfl, rfl, rfl, rfl, (congrArg (fun z => some (Value.int z)) (nI_1 i)), trivial⟩ (by simp [Value.category]) ?_
              exact ih (i + 1) (by omega) (by rw [hr]; simp only [LX1_fits, if_pos c80, if_pos c97, if_neg c111, if_neg c133])
            · refine la_iload B dX1_fits_136 rfl ?_
              refine la_if_ne (tgt := 143) B dX1_fits_138 (by decide) (fun c138 => ?_) (fun c138 => ?_)
              · refine la_iincp B dX1_fits_143 rfl (by decide) ?_
                refine la_goto (tgt := 46) B dX1_fits_146 (by decide) ?_
                refine la_sub (lv2 := [(0, .ref (ad 30)), (1, .int wl), (2, .int sn), (3, .int yr), (4, .int (nI (i + 1)))]) ⟨rfl, rfl, rfl, rfl, (congrArg (fun z => some (Value.int z)) (nI_1 i)), trivial⟩ (by simp [Value.category]) ?_
                exact ih (i + 1) (by omega) (by rw [hr]; simp only [LX1_fits, if_pos c80, if_pos c97, if_neg c111, if_pos c133, if_neg c138])
              · refine la_iconst (v := 0) B dX1_fits_141 (by decide) ?_
                exact la_zreturn B rfl (by rw [hr]; simp only [LX1_fits, if_pos c80, if_pos c97, if_neg c111, if_pos c133, if_pos c138]) rfl rfl dX1_fits_142
        · refine la_iconst (v := 0) B dX1_fits_100 (by decide) ?_
          exact la_zreturn B rfl (by rw [hr]; simp only [LX1_fits, if_pos c80, if_neg c97]) rfl rfl dX1_fits_101

def fX1_fits (h : lh_HS) (wl : Int32) (sn : Int32) : Int32 := (if (((h 33 wl.toNatClampNeg) >>> (sn &&& 31)) &&& 1) = 0 then 0 else (if (h 34 wl.toNatClampNeg) ≤ (h 36 sn.toNatClampNeg) then (LX1_fits h wl sn (h 25 wl.toNatClampNeg) wl.toNatClampNeg 0) else 0))
set_option maxHeartbeats 4000000 in
set_option maxRecDepth 100000 in
theorem ct_X1_fits {l : Launch} {D : va_G} {ad : Nat → Nat} {bs : Nat} {cI cZ : ClassId} {t9 : Nat} {k : Bool} (h : lh_HS) (wl : Int32) (sn : Int32) (hw : vp_in wl 5) (h8 : vp_in sn 8) : lh_CTi l D ad bs cI cZ t9 k yX1_fits cX1_fits 6 (some .boolean) 1 [.ref (ad 30), .int wl, .int sn] h (fX1_fits h wl sn) h := by
  refine lh_ofi (lv := [(0, .ref (ad 30)), (1, .int wl), (2, .int sn)]) (by decide) (Nat.le_of_ble_eq_true rfl) rfl (by simp [Value.category]) ⟨rfl, rfl, rfl, trivial⟩ ?_
  intro p e s m args below meth c B
  have B : lh_BK p (lh_rm 1) s m args meth c D ad bs cI cZ t9 k "LightHours$Hanging" cX1_fits 6 (some .boolean) := B
  obtain ⟨jw, hjw, ejw⟩ := vp_in_of hw (by omega)
  have hN : wl = nI wl.toNatClampNeg := by rw [ejw, nI_clamp (by omega)]
  have hM : wl.toNatClampNeg < 5 := by rw [ejw, nI_clamp (by omega)]; exact hjw
  refine la_aload_n (i := 0) B dX1_fits_0 rfl rfl ?_
  refine la_get (i := 30) (ci := 1) (j := 6) (C := RX1) (T := TX1) (N := 10) B (lh_nc_lt (by decide)) rfl ix_1 rfl (by decide) wd_284 rfl rfl dX1_fits_1 ?_
  refine la_iload_n (i := 1) B dX1_fits_4 rfl rfl ?_
  refine la_iald (i := 33) (v := h 33 wl.toNatClampNeg) B (lh_nc_lt (by decide)) rfl hw rfl dX1_fits_5 ?_
  refine la_iload_n (i := 2) B dX1_fits_6 rfl rfl ?_
  refine la_ishr B dX1_fits_7 ?_
  refine la_iconst (v := 1) B dX1_fits_8 (by decide) ?_
  refine la_iand B dX1_fits_9 ?_
  refine la_if_eq (tgt := 28) B dX1_fits_10 (by decide) (fun c10 => ?_) (fun c10 => ?_)
  · refine la_iconst (v := 0) B dX1_fits_28 (by decide) ?_
    exact la_zreturn B rfl (by simp only [fX1_fits, if_pos c10]) rfl rfl dX1_fits_29
  · refine la_aload_n (i := 0) B dX1_fits_13 rfl rfl ?_
    refine la_get (i := 30) (ci := 1) (j := 7) (C := RX1) (T := TX1) (N := 10) B (lh_nc_lt (by decide)) rfl ix_1 rfl (by decide) wd_285 rfl rfl dX1_fits_14 ?_
    refine la_iload_n (i := 1) B dX1_fits_17 rfl rfl ?_
    refine la_iald (i := 34) (v := h 34 wl.toNatClampNeg) B (lh_nc_lt (by decide)) rfl hw rfl dX1_fits_18 ?_
    refine la_aload_n (i := 0) B dX1_fits_19 rfl rfl ?_
    refine la_get (i := 30) (ci := 1) (j := 9) (C := RX1) (T := TX1) (N := 10) B (lh_nc_lt (by decide)) rfl ix_1 rfl (by decide) wd_287 rfl rfl dX1_fits_20 ?_
    refine la_iload_n (i := 2) B dX1_fits_23 rfl rfl ?_
    refine la_iald (i := 36) (v := h 36 sn.toNatClampNeg) B (lh_nc_lt (by decide)) rfl h8 rfl dX1_fits_24 ?_
    refine la_icmp_le (tgt := 30) B dX1_fits_25 (by decide) (fun c25 => ?_) (fun c25 => ?_)
    · refine la_aload_n (i := 0) B dX1_fits_30 rfl rfl ?_
      refine la_get (i := 30) (ci := 1) (j := 0) (C := RX1) (T := TX1) (N := 10) B (lh_nc_lt (by decide)) rfl ix_1 rfl (by decide) wd_276 rfl rfl dX1_fits_31 ?_
      refine la_get (i := 1) (ci := 2) (j := 4) (C := RX2) (T := TX2) (N := 5) B (lh_nc_lt (by decide)) rfl ix_2 rfl (by decide) wd_228 rfl rfl dX1_fits_34 ?_
      refine la_get (i := 6) (ci := 7) (j := 2) (C := RX7) (T := TX7) (N := 4) B (lh_nc_lt (by decide)) rfl ix_7 rfl (by decide) wd_200 rfl rfl dX1_fits_37 ?_
      refine la_iload_n (i := 1) B dX1_fits_40 rfl rfl ?_
      refine la_iald (i := 25) (v := h 25 wl.toNatClampNeg) B (lh_nc_lt (by decide)) rfl hw rfl dX1_fits_41 ?_
      refine la_istore_n (i := 3) B dX1_fits_42 rfl (by decide) ?_
      refine la_iconst (v := 0) B dX1_fits_43 (by decide) ?_
      refine la_istore B dX1_fits_44 (by decide) ?_
      refine la_sub (lv2 := [(0, .ref (ad 30)), (1, .int wl), (2, .int sn), (3, .int (h 25 wl.toNatClampNeg)), (4, .int (nI 0))]) ⟨rfl, rfl, rfl, rfl, rfl, trivial⟩ (by simp [Value.category]) ?_
      exact lp_X1_fits h wl sn _ B hN (by omega) h8 _ 0 (Nat.zero_add _) (by simp only [fX1_fits, if_neg c10, if_pos c25])
    · refine la_iconst (v := 0) B dX1_fits_28 (by decide) ?_
      exact la_zreturn B rfl (by simp only [fX1_fits, if_neg c10, if_neg c25]) rfl rfl dX1_fits_29

def LX1_countHung (h : lh_HS)  : Nat → Nat → Int32 → Int32
  | 0, i, acc => acc
  | n + 1, i, acc => (if (h 31 (nI i).toNatClampNeg) = ((-4)) then (LX1_countHung h n (i + 1) acc) else (LX1_countHung h n (i + 1) (acc + 1)))
set_option maxHeartbeats 4000000 in
set_option maxRecDepth 100000 in
theorem lp_X1_countHung {l : Launch} {D : va_G} {ad : Nat → Nat} {bs : Nat} {cI cZ : ClassId} {t9 : Nat} {k : Bool} {p : Program} {e : Env} {s : State} {m : MethodId} {args : Array Value} {below : List Frame} {meth : Method} {c : Code} (h : lh_HS)  {r : Int32} (B : lh_BK p (lh_rm 0) s m args meth c D ad bs cI cZ t9 k "LightHours$Hanging" cX1_countHung 3 (some .int)) {N : Nat} (hN : h 6 0 = nI N) (hM : N ≤ 5) :
    ∀ (n i : Nat) (acc : Int32), i + n = N → r = LX1_countHung h n i acc → lh_AJ p l e (lh_rm 0) s m args below meth c D ad bs cI cZ k 3 (MQ below (lh_Qi D ad bs cI cZ k r h) args s 0 0 (lh_A bs)) 4 [(0, .ref (ad 30)), (1, .int acc), (2, .int (nI i))] [] h := by
  intro n
  induction n with
  | zero =>
    intro i acc hi hr
    have hexit : h 6 0 ≤ nI i := by rw [hN]; exact nI_le (by omega) (by omega)
    refine la_iload_n (i := 2) B dX1_countHung_4 rfl rfl ?_
    refine la_aload_n (i := 0) B dX1_countHung_5 rfl rfl ?_
    refine la_get (i := 30) (ci := 1) (j := 0) (C := RX1) (T := TX1) (N := 10) B (lh_nc_lt (by decide)) rfl ix_1 rfl (by decide) wd_276 rfl rfl dX1_countHung_6 ?_
    refine la_get (i := 1) (ci := 2) (j := 4) (C := RX2) (T := TX2) (N := 5) B (lh_nc_lt (by decide)) rfl ix_2 rfl (by decide) wd_228 rfl rfl dX1_countHung_9 ?_
    refine la_get (i := 6) (ci := 7) (j := 0) (v := .int (h 6 0)) (C := RX7) (T := TX7) (N := 4) B (lh_nc_lt (by decide)) rfl ix_7 rfl (by decide) wd_194 rfl rfl dX1_countHung_12 ?_
    refine la_icmp_ge (tgt := 38) B dX1_countHung_15 (by decide) (fun c15 => ?_) (fun c15 => ?_)
    · refine la_iload_n (i := 1) B dX1_countHung_38 rfl rfl ?_
      exact la_ireturn B rfl (by rw [hr]; simp only [LX1_countHung]) rfl dX1_countHung_39
    · exact absurd hexit c15
  | succ n ih =>
    intro i acc hi hr
    have hcont : ¬ h 6 0 ≤ nI i := by rw [hN]; exact nI_ge (by omega) (by omega)
    have hb : vp_in (nI i) 5 := vp_in_nI (by omega) (by omega)
    refine la_iload_n (i := 2) B dX1_countHung_4 rfl rfl ?_
    refine la_aload_n (i := 0) B dX1_countHung_5 rfl rfl ?_
    refine la_get (i := 30) (ci := 1) (j := 0) (C := RX1) (T := TX1) (N := 10) B (lh_nc_lt (by decide)) rfl ix_1 rfl (by decide) wd_276 rfl rfl dX1_countHung_6 ?_
    refine la_get (i := 1) (ci := 2) (j := 4) (C := RX2) (T := TX2) (N := 5) B (lh_nc_lt (by decide)) rfl ix_2 rfl (by decide) wd_228 rfl rfl dX1_countHung_9 ?_
    refine la_get (i := 6) (ci := 7) (j := 0) (v := .int (h 6 0)) (C := RX7) (T := TX7) (N := 4) B (lh_nc_lt (by decide)) rfl ix_7 rfl (by decide) wd_194 rfl rfl dX1_countHung_12 ?_
    refine la_icmp_ge (tgt := 38) B dX1_countHung_15 (by decide) (fun c15 => ?_) (fun c15 => ?_)
    · exact absurd c15 hcont
    · refine la_aload_n (i := 0) B dX1_countHung_18 rfl rfl ?_
      refine la_get (i := 30) (ci := 1) (j := 3) (C := RX1) (T := TX1) (N := 10) B (lh_nc_lt (by decide)) rfl ix_1 rfl (by decide) wd_279 rfl rfl dX1_countHung_19 ?_
      refine la_iload_n (i := 2) B dX1_countHung_22 rfl rfl ?_
      refine la_iald (i := 31) (v := h 31 (nI i).toNatClampNeg) B (lh_nc_lt (by decide)) rfl hb rfl dX1_countHung_23 ?_
      refine la_bipush (v := -4) B dX1_countHung_24 (by decide) ?_
      refine la_icmp_eq (tgt := 32) B dX1_countHung_26 (by decide) (fun c26 => ?_) (fun c26 => ?_)
      · refine la_iincp B dX1_countHung_32 rfl (by decide) ?_
        refine la_goto (tgt := 4) B dX1_countHung_35 (by decide) ?_
        refine la_sub (lv2 := [(0, .ref (ad 30)), (1, .int acc), (2, .int (nI (i + 1)))]) ⟨rfl, rfl, (congrArg (fun z => some (Value.int z)) (nI_1 i)), trivial⟩ (by simp [Value.category]) ?_
        exact ih (i + 1) acc (by omega) (by rw [hr]; simp only [LX1_countHung, if_pos c26])
      · refine la_iincp B dX1_countHung_29 rfl (by decide) ?_
        refine la_iincp B dX1_countHung_32 rfl (by decide) ?_
        refine la_goto (tgt := 4) B dX1_countHung_35 (by decide) ?_
        refine la_sub (lv2 := [(0, .ref (ad 30)), (1, .int ((acc + 1))), (2, .int (nI (i + 1)))]) ⟨rfl, rfl, (congrArg (fun z => some (Value.int z)) (nI_1 i)), trivial⟩ (by simp [Value.category]) ?_
        exact ih (i + 1) (acc + 1) (by omega) (by rw [hr]; simp only [LX1_countHung, if_neg c26])

def fX1_countHung (h : lh_HS)  : Int32 := (LX1_countHung h (lh_N h 6) 0 0)
set_option maxHeartbeats 4000000 in
set_option maxRecDepth 100000 in
theorem ct_X1_countHung {l : Launch} {D : va_G} {ad : Nat → Nat} {bs : Nat} {cI cZ : ClassId} {t9 : Nat} {k : Bool} (h : lh_HS)  (hN : h 6 0 = nI (lh_N h 6)) (hM : lh_N h 6 ≤ 5) : lh_CTi l D ad bs cI cZ t9 k yX1_countHung cX1_countHung 3 (some .int) 0 [.ref (ad 30)] h (fX1_countHung h ) h := by
  refine lh_ofi (lv := [(0, .ref (ad 30))]) (by decide) (Nat.le_of_ble_eq_true rfl) rfl (by simp [Value.category]) ⟨rfl, trivial⟩ ?_
  intro p e s m args below meth c B
  have B : lh_BK p (lh_rm 0) s m args meth c D ad bs cI cZ t9 k "LightHours$Hanging" cX1_countHung 3 (some .int) := B
  refine la_iconst (v := 0) B dX1_countHung_0 (by decide) ?_
  refine la_istore_n (i := 1) B dX1_countHung_1 rfl (by decide) ?_
  refine la_iconst (v := 0) B dX1_countHung_2 (by decide) ?_
  refine la_istore_n (i := 2) B dX1_countHung_3 rfl (by decide) ?_
  refine la_sub (lv2 := [(0, .ref (ad 30)), (1, .int 0), (2, .int (nI 0))]) ⟨rfl, rfl, rfl, trivial⟩ (by simp [Value.category]) ?_
  exact lp_X1_countHung h B hN hM _ 0 0 (Nat.zero_add _) (by simp only [fX1_countHung])

def LX1_lightOn (h : lh_HS) (sn : Int32) : Nat → Nat → Int32 → Int32
  | 0, i, acc => acc
  | n + 1, i, acc => (if (h 31 (nI i).toNatClampNeg) = sn then (LX1_lightOn h sn n (i + 1) (acc + (h 34 (nI i).toNatClampNeg))) else (LX1_lightOn h sn n (i + 1) acc))
set_option maxHeartbeats 4000000 in
set_option maxRecDepth 100000 in
theorem lp_X1_lightOn {l : Launch} {D : va_G} {ad : Nat → Nat} {bs : Nat} {cI cZ : ClassId} {t9 : Nat} {k : Bool} {p : Program} {e : Env} {s : State} {m : MethodId} {args : Array Value} {below : List Frame} {meth : Method} {c : Code} (h : lh_HS) (sn : Int32) {r : Int32} (B : lh_BK p (lh_rm 0) s m args meth c D ad bs cI cZ t9 k "LightHours$Hanging" cX1_lightOn 4 (some .int)) {N : Nat} (hN : h 6 0 = nI N) (hM : N ≤ 5) :
    ∀ (n i : Nat) (acc : Int32), i + n = N → r = LX1_lightOn h sn n i acc → lh_AJ p l e (lh_rm 0) s m args below meth c D ad bs cI cZ k 4 (MQ below (lh_Qi D ad bs cI cZ k r h) args s 0 0 (lh_A bs)) 4 [(0, .ref (ad 30)), (1, .int sn), (2, .int acc), (3, .int (nI i))] [] h := by
  intro n
  induction n with
  | zero =>
    intro i acc hi hr
    have hexit : h 6 0 ≤ nI i := by rw [hN]; exact nI_le (by omega) (by omega)
    refine la_iload_n (i := 3) B dX1_lightOn_4 rfl rfl ?_
    refine la_aload_n (i := 0) B dX1_lightOn_5 rfl rfl ?_
    refine la_get (i := 30) (ci := 1) (j := 0) (C := RX1) (T := TX1) (N := 10) B (lh_nc_lt (by decide)) rfl ix_1 rfl (by decide) wd_276 rfl rfl dX1_lightOn_6 ?_
    refine la_get (i := 1) (ci := 2) (j := 4) (C := RX2) (T := TX2) (N := 5) B (lh_nc_lt (by decide)) rfl ix_2 rfl (by decide) wd_228 rfl rfl dX1_lightOn_9 ?_
    refine la_get (i := 6) (ci := 7) (j := 0) (v := .int (h 6 0)) (C := RX7) (T := TX7) (N := 4) B (lh_nc_lt (by decide)) rfl ix_7 rfl (by decide) wd_194 rfl rfl dX1_lightOn_12 ?_
    refine la_icmp_ge (tgt := 43) B dX1_lightOn_15 (by decide) (fun c15 => ?_) (fun c15 => ?_)
    · refine la_iload_n (i := 2) B dX1_lightOn_43 rfl rfl ?_
      exact la_ireturn B rfl (by rw [hr]; simp only [LX1_lightOn]) rfl dX1_lightOn_44
    · exact absurd hexit c15
  | succ n ih =>
    intro i acc hi hr
    have hcont : ¬ h 6 0 ≤ nI i := by rw [hN]; exact nI_ge (by omega) (by omega)
    have hb : vp_in (nI i) 5 := vp_in_nI (by omega) (by omega)
    refine la_iload_n (i := 3) B dX1_lightOn_4 rfl rfl ?_
    refine la_aload_n (i := 0) B dX1_lightOn_5 rfl rfl ?_
    refine la_get (i := 30) (ci := 1) (j := 0) (C := RX1) (T := TX1) (N := 10) B (lh_nc_lt (by decide)) rfl ix_1 rfl (by decide) wd_276 rfl rfl dX1_lightOn_6 ?_
    refine la_get (i := 1) (ci := 2) (j := 4) (C := RX2) (T := TX2) (N := 5) B (lh_nc_lt (by decide)) rfl ix_2 rfl (by decide) wd_228 rfl rfl dX1_lightOn_9 ?_
    refine la_get (i := 6) (ci := 7) (j := 0) (v := .int (h 6 0)) (C := RX7) (T := TX7) (N := 4) B (lh_nc_lt (by decide)) rfl ix_7 rfl (by decide) wd_194 rfl rfl dX1_lightOn_12 ?_
    refine la_icmp_ge (tgt := 43) B dX1_lightOn_15 (by decide) (fun c15 => ?_) (fun c15 => ?_)
    · exact absurd c15 hcont
    · refine la_aload_n (i := 0) B dX1_lightOn_18 rfl rfl ?_
      refine la_get (i := 30) (ci := 1) (j := 3) (C := RX1) (T := TX1) (N := 10) B (lh_nc_lt (by decide)) rfl ix_1 rfl (by decide) wd_279 rfl rfl dX1_lightOn_19 ?_
      refine la_iload_n (i := 3) B dX1_lightOn_22 rfl rfl ?_
      refine la_iald (i := 31) (v := h 31 (nI i).toNatClampNeg) B (lh_nc_lt (by decide)) rfl hb rfl dX1_lightOn_23 ?_
      refine la_iload_n (i := 1) B dX1_lightOn_24 rfl rfl ?_
      refine la_icmp_ne (tgt := 37) B dX1_lightOn_25 (by decide) (fun c25 => ?_) (fun c25 => ?_)
      · refine la_iincp B dX1_lightOn_37 rfl (by decide) ?_
        refine la_goto (tgt := 4) B dX1_lightOn_40 (by decide) ?_
        refine la_sub (lv2 := [(0, .ref (ad 30)), (1, .int sn), (2, .int acc), (3, .int (nI (i + 1)))]) ⟨rfl, rfl, rfl, (congrArg (fun z => some (Value.int z)) (nI_1 i)), trivial⟩ (by simp [Value.category]) ?_
        exact ih (i + 1) acc (by omega) (by rw [hr]; simp only [LX1_lightOn, if_neg c25])
      · refine la_iload_n (i := 2) B dX1_lightOn_28 rfl rfl ?_
        refine la_aload_n (i := 0) B dX1_lightOn_29 rfl rfl ?_
        refine la_get (i := 30) (ci := 1) (j := 7) (C := RX1) (T := TX1) (N := 10) B (lh_nc_lt (by decide)) rfl ix_1 rfl (by decide) wd_285 rfl rfl dX1_lightOn_30 ?_
        refine la_iload_n (i := 3) B dX1_lightOn_33 rfl rfl ?_
        refine la_iald (i := 34) (v := h 34 (nI i).toNatClampNeg) B (lh_nc_lt (by decide)) rfl hb rfl dX1_lightOn_34 ?_
        refine la_iadd B dX1_lightOn_35 ?_
        refine la_istore_n (i := 2) B dX1_lightOn_36 rfl (by decide) ?_
        refine la_iincp B dX1_lightOn_37 rfl (by decide) ?_
        refine la_goto (tgt := 4) B dX1_lightOn_40 (by decide) ?_
        refine la_sub (lv2 := [(0, .ref (ad 30)), (1, .int sn), (2, .int ((acc + (h 34 (nI i).toNatClampNeg)))), (3, .int (nI (i + 1)))]) ⟨rfl, rfl, rfl, (congrArg (fun z => some (Value.int z)) (nI_1 i)), trivial⟩ (by simp [Value.category]) ?_
        exact ih (i + 1) (acc + (h 34 (nI i).toNatClampNeg)) (by omega) (by rw [hr]; simp only [LX1_lightOn, if_pos c25])

def fX1_lightOn (h : lh_HS) (sn : Int32) : Int32 := (LX1_lightOn h sn (lh_N h 6) 0 0)
set_option maxHeartbeats 4000000 in
set_option maxRecDepth 100000 in
theorem ct_X1_lightOn {l : Launch} {D : va_G} {ad : Nat → Nat} {bs : Nat} {cI cZ : ClassId} {t9 : Nat} {k : Bool} (h : lh_HS) (sn : Int32) (hN : h 6 0 = nI (lh_N h 6)) (hM : lh_N h 6 ≤ 5) : lh_CTi l D ad bs cI cZ t9 k yX1_lightOn cX1_lightOn 4 (some .int) 0 [.ref (ad 30), .int sn] h (fX1_lightOn h sn) h := by
  refine lh_ofi (lv := [(0, .ref (ad 30)), (1, .int sn)]) (by decide) (Nat.le_of_ble_eq_true rfl) rfl (by simp [Value.category]) ⟨rfl, rfl, trivial⟩ ?_
  intro p e s m args below meth c B
  have B : lh_BK p (lh_rm 0) s m args meth c D ad bs cI cZ t9 k "LightHours$Hanging" cX1_lightOn 4 (some .int) := B
  refine la_iconst (v := 0) B dX1_lightOn_0 (by decide) ?_
  refine la_istore_n (i := 2) B dX1_lightOn_1 rfl (by decide) ?_
  refine la_iconst (v := 0) B dX1_lightOn_2 (by decide) ?_
  refine la_istore_n (i := 3) B dX1_lightOn_3 rfl (by decide) ?_
  refine la_sub (lv2 := [(0, .ref (ad 30)), (1, .int sn), (2, .int 0), (3, .int (nI 0))]) ⟨rfl, rfl, rfl, rfl, trivial⟩ (by simp [Value.category]) ?_
  exact lp_X1_lightOn h sn B hN hM _ 0 0 (Nat.zero_add _) (by simp only [fX1_lightOn])
end
