-- ===== PART A: goes FIRST, ahead of the names: the tables' words, and 'selects' of the private methods out of them =====
/-- a private method of a class that the tables say can be made, by its rows of tables_1 -/
def lw_okq (q : MethodName × Nat) : Prop := (q.1.cls ≠ "java/lang/invoke/MethodHandle" ∧ q.1.cls ≠ "java/lang/invoke/VarHandle") ∧ Cond.instantiable q.1.cls q.2 ∈ tables_1 ∧ Cond.privateMethod q.1 ∈ tables_1 ∧ Cond.instanceMethod q.1 ∈ tables_1
theorem lw_p0 : lw_okq (⟨"java/lang/Throwable", "fillInStackTrace", "(I)Ljava/lang/Throwable;"⟩, 6) := ⟨⟨by decide +kernel, by decide +kernel⟩, List.mem_of_getElem? (i := 352) (by decide +kernel), List.mem_of_getElem? (i := 350) (by decide +kernel), List.mem_of_getElem? (i := 351) (by decide +kernel)⟩
theorem lw_p1 : lw_okq (⟨"Daemonsheet", "tellAnew", "(LDaemonsheet$Table;)V"⟩, 7) := ⟨⟨by decide +kernel, by decide +kernel⟩, List.mem_of_getElem? (i := 25) (by decide +kernel), List.mem_of_getElem? (i := 382) (by decide +kernel), List.mem_of_getElem? (i := 383) (by decide +kernel)⟩
theorem lw_p2 : lw_okq (⟨"Daemonsheet$Table", "arrange", "()V"⟩, 9) := ⟨⟨by decide +kernel, by decide +kernel⟩, List.mem_of_getElem? (i := 75) (by decide +kernel), List.mem_of_getElem? (i := 394) (by decide +kernel), List.mem_of_getElem? (i := 395) (by decide +kernel)⟩
theorem lw_p3 : lw_okq (⟨"Daemonsheet$Table", "change", "(LDaemonsheet$Step;)V"⟩, 9) := ⟨⟨by decide +kernel, by decide +kernel⟩, List.mem_of_getElem? (i := 75) (by decide +kernel), List.mem_of_getElem? (i := 408) (by decide +kernel), List.mem_of_getElem? (i := 409) (by decide +kernel)⟩
theorem lw_p4 : lw_okq (⟨"Daemonsheet$Table", "changeReading", "(LDaemonsheet$Step;)V"⟩, 9) := ⟨⟨by decide +kernel, by decide +kernel⟩, List.mem_of_getElem? (i := 75) (by decide +kernel), List.mem_of_getElem? (i := 412) (by decide +kernel), List.mem_of_getElem? (i := 413) (by decide +kernel)⟩
theorem lw_p5 : lw_okq (⟨"Daemonsheet$Table", "soilReaders", "(I)V"⟩, 9) := ⟨⟨by decide +kernel, by decide +kernel⟩, List.mem_of_getElem? (i := 75) (by decide +kernel), List.mem_of_getElem? (i := 416) (by decide +kernel), List.mem_of_getElem? (i := 417) (by decide +kernel)⟩
theorem lw_p6 : lw_okq (⟨"Daemonsheet$Table", "changeCell", "(LDaemonsheet$Step;)V"⟩, 9) := ⟨⟨by decide +kernel, by decide +kernel⟩, List.mem_of_getElem? (i := 75) (by decide +kernel), List.mem_of_getElem? (i := 420) (by decide +kernel), List.mem_of_getElem? (i := 421) (by decide +kernel)⟩
theorem lw_p7 : lw_okq (⟨"Daemonsheet$Table", "setValue", "(LDaemonsheet$Cell;I)V"⟩, 9) := ⟨⟨by decide +kernel, by decide +kernel⟩, List.mem_of_getElem? (i := 75) (by decide +kernel), List.mem_of_getElem? (i := 424) (by decide +kernel), List.mem_of_getElem? (i := 425) (by decide +kernel)⟩
theorem lw_p8 : lw_okq (⟨"Daemonsheet$Table", "changeService", "(LDaemonsheet$Step;)V"⟩, 9) := ⟨⟨by decide +kernel, by decide +kernel⟩, List.mem_of_getElem? (i := 75) (by decide +kernel), List.mem_of_getElem? (i := 428) (by decide +kernel), List.mem_of_getElem? (i := 429) (by decide +kernel)⟩
theorem lw_p9 : lw_okq (⟨"Daemonsheet$Table", "forgetChanges", "()V"⟩, 9) := ⟨⟨by decide +kernel, by decide +kernel⟩, List.mem_of_getElem? (i := 75) (by decide +kernel), List.mem_of_getElem? (i := 436) (by decide +kernel), List.mem_of_getElem? (i := 437) (by decide +kernel)⟩
theorem lw_p10 : lw_okq (⟨"Daemonsheet$Table", "workOutDirtyCells", "()V"⟩, 9) := ⟨⟨by decide +kernel, by decide +kernel⟩, List.mem_of_getElem? (i := 75) (by decide +kernel), List.mem_of_getElem? (i := 440) (by decide +kernel), List.mem_of_getElem? (i := 441) (by decide +kernel)⟩
theorem lw_p11 : lw_okq (⟨"Daemonsheet$Table", "valueNamed", "(II)I"⟩, 9) := ⟨⟨by decide +kernel, by decide +kernel⟩, List.mem_of_getElem? (i := 75) (by decide +kernel), List.mem_of_getElem? (i := 450) (by decide +kernel), List.mem_of_getElem? (i := 451) (by decide +kernel)⟩
theorem lw_p12 : lw_okq (⟨"Daemonsheet$Table", "cellValue", "(II)I"⟩, 9) := ⟨⟨by decide +kernel, by decide +kernel⟩, List.mem_of_getElem? (i := 75) (by decide +kernel), List.mem_of_getElem? (i := 454) (by decide +kernel), List.mem_of_getElem? (i := 455) (by decide +kernel)⟩
theorem lw_p13 : lw_okq (⟨"Daemonsheet$Table", "lookAtServices", "(I)Z"⟩, 9) := ⟨⟨by decide +kernel, by decide +kernel⟩, List.mem_of_getElem? (i := 75) (by decide +kernel), List.mem_of_getElem? (i := 478) (by decide +kernel), List.mem_of_getElem? (i := 479) (by decide +kernel)⟩
theorem lw_p14 : lw_okq (⟨"Daemonsheet$Table", "nextState", "(LDaemonsheet$Service;)I"⟩, 9) := ⟨⟨by decide +kernel, by decide +kernel⟩, List.mem_of_getElem? (i := 75) (by decide +kernel), List.mem_of_getElem? (i := 482) (by decide +kernel), List.mem_of_getElem? (i := 483) (by decide +kernel)⟩
theorem lw_p15 : lw_okq (⟨"Daemonsheet$Table", "isWanted", "(LDaemonsheet$Service;)Z"⟩, 9) := ⟨⟨by decide +kernel, by decide +kernel⟩, List.mem_of_getElem? (i := 75) (by decide +kernel), List.mem_of_getElem? (i := 486) (by decide +kernel), List.mem_of_getElem? (i := 487) (by decide +kernel)⟩
def lw_privs_1 : List (MethodName × Nat) := [(⟨"java/lang/Throwable", "fillInStackTrace", "(I)Ljava/lang/Throwable;"⟩, 6), (⟨"Daemonsheet", "tellAnew", "(LDaemonsheet$Table;)V"⟩, 7), (⟨"Daemonsheet$Table", "arrange", "()V"⟩, 9), (⟨"Daemonsheet$Table", "change", "(LDaemonsheet$Step;)V"⟩, 9), (⟨"Daemonsheet$Table", "changeReading", "(LDaemonsheet$Step;)V"⟩, 9), (⟨"Daemonsheet$Table", "soilReaders", "(I)V"⟩, 9), (⟨"Daemonsheet$Table", "changeCell", "(LDaemonsheet$Step;)V"⟩, 9), (⟨"Daemonsheet$Table", "setValue", "(LDaemonsheet$Cell;I)V"⟩, 9), (⟨"Daemonsheet$Table", "changeService", "(LDaemonsheet$Step;)V"⟩, 9), (⟨"Daemonsheet$Table", "forgetChanges", "()V"⟩, 9), (⟨"Daemonsheet$Table", "workOutDirtyCells", "()V"⟩, 9), (⟨"Daemonsheet$Table", "valueNamed", "(II)I"⟩, 9), (⟨"Daemonsheet$Table", "cellValue", "(II)I"⟩, 9), (⟨"Daemonsheet$Table", "lookAtServices", "(I)Z"⟩, 9), (⟨"Daemonsheet$Table", "nextState", "(LDaemonsheet$Service;)I"⟩, 9), (⟨"Daemonsheet$Table", "isWanted", "(LDaemonsheet$Service;)Z"⟩, 9)]
theorem lw_r1 : ∀ q ∈ lw_privs_1, lw_okq q := List.forall_mem_cons.mpr ⟨lw_p0, List.forall_mem_cons.mpr ⟨lw_p1, List.forall_mem_cons.mpr ⟨lw_p2, List.forall_mem_cons.mpr ⟨lw_p3, List.forall_mem_cons.mpr ⟨lw_p4, List.forall_mem_cons.mpr ⟨lw_p5, List.forall_mem_cons.mpr ⟨lw_p6, List.forall_mem_cons.mpr ⟨lw_p7, List.forall_mem_cons.mpr ⟨lw_p8, List.forall_mem_cons.mpr ⟨lw_p9, List.forall_mem_cons.mpr ⟨lw_p10, List.forall_mem_cons.mpr ⟨lw_p11, List.forall_mem_cons.mpr ⟨lw_p12, List.forall_mem_cons.mpr ⟨lw_p13, List.forall_mem_cons.mpr ⟨lw_p14, List.forall_mem_cons.mpr ⟨lw_p15, fun _ h => absurd h List.not_mem_nil⟩⟩⟩⟩⟩⟩⟩⟩⟩⟩⟩⟩⟩⟩⟩⟩
theorem lw_p16 : lw_okq (⟨"Daemonsheet$Table", "loadRunning", "(LDaemonsheet$Service;)I"⟩, 9) := ⟨⟨by decide +kernel, by decide +kernel⟩, List.mem_of_getElem? (i := 75) (by decide +kernel), List.mem_of_getElem? (i := 502) (by decide +kernel), List.mem_of_getElem? (i := 503) (by decide +kernel)⟩
theorem lw_p17 : lw_okq (⟨"Daemonsheet$Table", "setTold", "(LDaemonsheet$Service;I)V"⟩, 9) := ⟨⟨by decide +kernel, by decide +kernel⟩, List.mem_of_getElem? (i := 75) (by decide +kernel), List.mem_of_getElem? (i := 510) (by decide +kernel), List.mem_of_getElem? (i := 511) (by decide +kernel)⟩
theorem lw_p18 : lw_okq (⟨"Daemonsheet$Table", "cutLowestOfLateChanges", "()V"⟩, 9) := ⟨⟨by decide +kernel, by decide +kernel⟩, List.mem_of_getElem? (i := 75) (by decide +kernel), List.mem_of_getElem? (i := 514) (by decide +kernel), List.mem_of_getElem? (i := 515) (by decide +kernel)⟩
theorem lw_p19 : lw_okq (⟨"Daemonsheet$Table", "isStartDue", "()Z"⟩, 9) := ⟨⟨by decide +kernel, by decide +kernel⟩, List.mem_of_getElem? (i := 75) (by decide +kernel), List.mem_of_getElem? (i := 518) (by decide +kernel), List.mem_of_getElem? (i := 519) (by decide +kernel)⟩
theorem lw_p20 : lw_okq (⟨"Daemonsheet", "tellReadingsOfTick", "(LDaemonsheet$Table;)V"⟩, 7) := ⟨⟨by decide +kernel, by decide +kernel⟩, List.mem_of_getElem? (i := 25) (by decide +kernel), List.mem_of_getElem? (i := 581) (by decide +kernel), List.mem_of_getElem? (i := 582) (by decide +kernel)⟩
theorem lw_p21 : lw_okq (⟨"Daemonsheet$Parser", "passFormula", "(I)V"⟩, 6) := ⟨⟨by decide +kernel, by decide +kernel⟩, List.mem_of_getElem? (i := 49) (by decide +kernel), List.mem_of_getElem? (i := 725) (by decide +kernel), List.mem_of_getElem? (i := 726) (by decide +kernel)⟩
theorem lw_p22 : lw_okq (⟨"Daemonsheet$Parser", "passSum", "(I)V"⟩, 6) := ⟨⟨by decide +kernel, by decide +kernel⟩, List.mem_of_getElem? (i := 49) (by decide +kernel), List.mem_of_getElem? (i := 729) (by decide +kernel), List.mem_of_getElem? (i := 730) (by decide +kernel)⟩
theorem lw_p23 : lw_okq (⟨"Daemonsheet$Parser", "passProduct", "(I)V"⟩, 6) := ⟨⟨by decide +kernel, by decide +kernel⟩, List.mem_of_getElem? (i := 49) (by decide +kernel), List.mem_of_getElem? (i := 733) (by decide +kernel), List.mem_of_getElem? (i := 734) (by decide +kernel)⟩
theorem lw_p24 : lw_okq (⟨"Daemonsheet$Parser", "passPart", "(I)V"⟩, 6) := ⟨⟨by decide +kernel, by decide +kernel⟩, List.mem_of_getElem? (i := 49) (by decide +kernel), List.mem_of_getElem? (i := 737) (by decide +kernel), List.mem_of_getElem? (i := 738) (by decide +kernel)⟩
theorem lw_p25 : lw_okq (⟨"Daemonsheet$Parser", "passNumber", "()V"⟩, 6) := ⟨⟨by decide +kernel, by decide +kernel⟩, List.mem_of_getElem? (i := 49) (by decide +kernel), List.mem_of_getElem? (i := 746) (by decide +kernel), List.mem_of_getElem? (i := 747) (by decide +kernel)⟩
theorem lw_p26 : lw_okq (⟨"Daemonsheet$Parser", "write", "(II)V"⟩, 6) := ⟨⟨by decide +kernel, by decide +kernel⟩, List.mem_of_getElem? (i := 49) (by decide +kernel), List.mem_of_getElem? (i := 750) (by decide +kernel), List.mem_of_getElem? (i := 751) (by decide +kernel)⟩
theorem lw_p27 : lw_okq (⟨"Daemonsheet$Parser", "passBrackets", "(II)V"⟩, 6) := ⟨⟨by decide +kernel, by decide +kernel⟩, List.mem_of_getElem? (i := 49) (by decide +kernel), List.mem_of_getElem? (i := 754) (by decide +kernel), List.mem_of_getElem? (i := 755) (by decide +kernel)⟩
theorem lw_p28 : lw_okq (⟨"Daemonsheet$Parser", "passSign", "(C)V"⟩, 6) := ⟨⟨by decide +kernel, by decide +kernel⟩, List.mem_of_getElem? (i := 49) (by decide +kernel), List.mem_of_getElem? (i := 758) (by decide +kernel), List.mem_of_getElem? (i := 759) (by decide +kernel)⟩
theorem lw_p29 : lw_okq (⟨"Daemonsheet$Parser", "passName", "(III)V"⟩, 6) := ⟨⟨by decide +kernel, by decide +kernel⟩, List.mem_of_getElem? (i := 49) (by decide +kernel), List.mem_of_getElem? (i := 762) (by decide +kernel), List.mem_of_getElem? (i := 763) (by decide +kernel)⟩
theorem lw_p30 : lw_okq (⟨"Daemonsheet$Parser", "figureAt", "(I)I"⟩, 6) := ⟨⟨by decide +kernel, by decide +kernel⟩, List.mem_of_getElem? (i := 49) (by decide +kernel), List.mem_of_getElem? (i := 766) (by decide +kernel), List.mem_of_getElem? (i := 767) (by decide +kernel)⟩
theorem lw_p31 : lw_okq (⟨"Daemonsheet", "keep", "(IIIILDaemonsheet$Formula;)I"⟩, 7) := ⟨⟨by decide +kernel, by decide +kernel⟩, List.mem_of_getElem? (i := 25) (by decide +kernel), List.mem_of_getElem? (i := 809) (by decide +kernel), List.mem_of_getElem? (i := 810) (by decide +kernel)⟩
def lw_privs_2 : List (MethodName × Nat) := [(⟨"Daemonsheet$Table", "loadRunning", "(LDaemonsheet$Service;)I"⟩, 9), (⟨"Daemonsheet$Table", "setTold", "(LDaemonsheet$Service;I)V"⟩, 9), (⟨"Daemonsheet$Table", "cutLowestOfLateChanges", "()V"⟩, 9), (⟨"Daemonsheet$Table", "isStartDue", "()Z"⟩, 9), (⟨"Daemonsheet", "tellReadingsOfTick", "(LDaemonsheet$Table;)V"⟩, 7), (⟨"Daemonsheet$Parser", "passFormula", "(I)V"⟩, 6), (⟨"Daemonsheet$Parser", "passSum", "(I)V"⟩, 6), (⟨"Daemonsheet$Parser", "passProduct", "(I)V"⟩, 6), (⟨"Daemonsheet$Parser", "passPart", "(I)V"⟩, 6), (⟨"Daemonsheet$Parser", "passNumber", "()V"⟩, 6), (⟨"Daemonsheet$Parser", "write", "(II)V"⟩, 6), (⟨"Daemonsheet$Parser", "passBrackets", "(II)V"⟩, 6), (⟨"Daemonsheet$Parser", "passSign", "(C)V"⟩, 6), (⟨"Daemonsheet$Parser", "passName", "(III)V"⟩, 6), (⟨"Daemonsheet$Parser", "figureAt", "(I)I"⟩, 6), (⟨"Daemonsheet", "keep", "(IIIILDaemonsheet$Formula;)I"⟩, 7)]
theorem lw_r2 : ∀ q ∈ lw_privs_2, lw_okq q := List.forall_mem_cons.mpr ⟨lw_p16, List.forall_mem_cons.mpr ⟨lw_p17, List.forall_mem_cons.mpr ⟨lw_p18, List.forall_mem_cons.mpr ⟨lw_p19, List.forall_mem_cons.mpr ⟨lw_p20, List.forall_mem_cons.mpr ⟨lw_p21, List.forall_mem_cons.mpr ⟨lw_p22, List.forall_mem_cons.mpr ⟨lw_p23, List.forall_mem_cons.mpr ⟨lw_p24, List.forall_mem_cons.mpr ⟨lw_p25, List.forall_mem_cons.mpr ⟨lw_p26, List.forall_mem_cons.mpr ⟨lw_p27, List.forall_mem_cons.mpr ⟨lw_p28, List.forall_mem_cons.mpr ⟨lw_p29, List.forall_mem_cons.mpr ⟨lw_p30, List.forall_mem_cons.mpr ⟨lw_p31, fun _ h => absurd h List.not_mem_nil⟩⟩⟩⟩⟩⟩⟩⟩⟩⟩⟩⟩⟩⟩⟩⟩
theorem lw_p32 : lw_okq (⟨"Daemonsheet$Table", "servicesUnder", "(LDaemonsheet$Service;)I"⟩, 9) := ⟨⟨by decide +kernel, by decide +kernel⟩, List.mem_of_getElem? (i := 75) (by decide +kernel), List.mem_of_getElem? (i := 884) (by decide +kernel), List.mem_of_getElem? (i := 885) (by decide +kernel)⟩
def lw_privs_3 : List (MethodName × Nat) := [(⟨"Daemonsheet$Table", "servicesUnder", "(LDaemonsheet$Service;)I"⟩, 9)]
theorem lw_r3 : ∀ q ∈ lw_privs_3, lw_okq q := List.forall_mem_cons.mpr ⟨lw_p32, fun _ h => absurd h List.not_mem_nil⟩
def lw_privs : List (MethodName × Nat) := lw_privs_1 ++ (lw_privs_2 ++ (lw_privs_3))
def lw_tbl : List Cond := k2_sels lw_privs ++ tables_1
theorem lw_privs_ok : ∀ q ∈ lw_privs, lw_okq q := by
  show ∀ q ∈ lw_privs_1 ++ (lw_privs_2 ++ (lw_privs_3)), lw_okq q
  exact List.forall_mem_append.mpr ⟨lw_r1, List.forall_mem_append.mpr ⟨lw_r2, lw_r3⟩⟩

def RX0 : String := "Daemonsheet$Cell"
def TX0 : u_T := fun k => match k with
  | 0 => ("Daemonsheet$Cell", "number", "I", true)
  | 1 => ("Daemonsheet$Cell", "formula", "LDaemonsheet$Formula;", false)
  | 2 => ("Daemonsheet$Cell", "value", "I", false)
  | 3 => ("Daemonsheet$Cell", "depth", "I", false)
  | _ => ("Daemonsheet$Cell", "held", "Z", false)
def tyX0 : Nat → FieldType := fun k => match k with
  | 0 => .int
  | 1 => .object "Daemonsheet$Formula"
  | 2 => .int
  | 3 => .int
  | _ => .boolean
theorem nmX0 : ∀ a, a < 5 → ∀ b, b < 5 → a ≠ b → (TX0 a).2.1 ≠ (TX0 b).2.1 := by decide +kernel
theorem tyX0_ok : ∀ k, k < 5 → parseFieldDescriptor (TX0 k).2.2.1 = some (tyX0 k) := by decide +kernel
abbrev cX0_init : ByteArray := prog_2_method_1_code
def yX0_init : MethodName := ⟨RX0, "<init>", "(ILDaemonsheet$Formula;)V"⟩
def RX1 : String := "Daemonsheet$Formula"
def TX1 : u_T := fun k => match k with
  | 0 => ("Daemonsheet$Formula", "code", "[I", true)
  | _ => ("Daemonsheet$Formula", "reads", "I", true)
def tyX1 : Nat → FieldType := fun k => match k with
  | 0 => .array .int
  | _ => .int
theorem nmX1 : ∀ a, a < 2 → ∀ b, b < 2 → a ≠ b → (TX1 a).2.1 ≠ (TX1 b).2.1 := by decide +kernel
theorem tyX1_ok : ∀ k, k < 2 → parseFieldDescriptor (TX1 k).2.2.1 = some (tyX1 k) := by decide +kernel
abbrev cX1_init : ByteArray := prog_3_method_1_code
def yX1_init : MethodName := ⟨RX1, "<init>", "([II)V"⟩
def RX2 : String := "Daemonsheet$Parser"
def TX2 : u_T := fun k => match k with
  | 0 => ("Daemonsheet$Parser", "text", "LDaemonsheet$Text;", true)
  | 1 => ("Daemonsheet$Parser", "code", "[I", true)
  | 2 => ("Daemonsheet$Parser", "size", "I", false)
  | 3 => ("Daemonsheet$Parser", "reads", "I", false)
  | 4 => ("Daemonsheet$Parser", "place", "I", false)
  | _ => ("Daemonsheet$Parser", "stuck", "Z", false)
def tyX2 : Nat → FieldType := fun k => match k with
  | 0 => .object "Daemonsheet$Text"
  | 1 => .array .int
  | 2 => .int
  | 3 => .int
  | 4 => .int
  | _ => .boolean
theorem nmX2 : ∀ a, a < 6 → ∀ b, b < 6 → a ≠ b → (TX2 a).2.1 ≠ (TX2 b).2.1 := by decide +kernel
theorem tyX2_ok : ∀ k, k < 6 → parseFieldDescriptor (TX2 k).2.2.1 = some (tyX2 k) := by decide +kernel
abbrev cX2_init : ByteArray := prog_4_method_1_code
def yX2_init : MethodName := ⟨RX2, "<init>", "(LDaemonsheet$Text;)V"⟩
abbrev cX2_findFault : ByteArray := prog_4_method_2_code
def yX2_findFault : MethodName := ⟨RX2, "findFault", "()I"⟩
abbrev cX2_makeFormula : ByteArray := prog_4_method_3_code
def yX2_makeFormula : MethodName := ⟨RX2, "makeFormula", "()LDaemonsheet$Formula;"⟩
abbrev cX2_passFormula : ByteArray := prog_4_method_4_code
def yX2_passFormula : MethodName := ⟨RX2, "passFormula", "(I)V"⟩
abbrev cX2_comparisonOf : ByteArray := prog_4_method_5_code
def yX2_comparisonOf : MethodName := ⟨RX2, "comparisonOf", "(C)I"⟩
abbrev cX2_passSum : ByteArray := prog_4_method_6_code
def yX2_passSum : MethodName := ⟨RX2, "passSum", "(I)V"⟩
abbrev cX2_passProduct : ByteArray := prog_4_method_7_code
def yX2_passProduct : MethodName := ⟨RX2, "passProduct", "(I)V"⟩
abbrev cX2_passPart : ByteArray := prog_4_method_8_code
def yX2_passPart : MethodName := ⟨RX2, "passPart", "(I)V"⟩
abbrev cX2_passNumber : ByteArray := prog_4_method_9_code
def yX2_passNumber : MethodName := ⟨RX2, "passNumber", "()V"⟩
abbrev cX2_passName : ByteArray := prog_4_method_10_code
def yX2_passName : MethodName := ⟨RX2, "passName", "(III)V"⟩
abbrev cX2_figureAt : ByteArray := prog_4_method_11_code
def yX2_figureAt : MethodName := ⟨RX2, "figureAt", "(I)I"⟩
abbrev cX2_passBrackets : ByteArray := prog_4_method_12_code
def yX2_passBrackets : MethodName := ⟨RX2, "passBrackets", "(II)V"⟩
abbrev cX2_passSign : ByteArray := prog_4_method_13_code
def yX2_passSign : MethodName := ⟨RX2, "passSign", "(C)V"⟩
abbrev cX2_write : ByteArray := prog_4_method_14_code
def yX2_write : MethodName := ⟨RX2, "write", "(II)V"⟩
def RX3 : String := "Daemonsheet$Reading"
def TX3 : u_T := fun k => match k with
  | 0 => ("Daemonsheet$Reading", "value", "I", false)
  | _ => ("Daemonsheet$Reading", "tick", "I", false)
def tyX3 : Nat → FieldType := fun k => match k with
  | 0 => .int
  | _ => .int
theorem nmX3 : ∀ a, a < 2 → ∀ b, b < 2 → a ≠ b → (TX3 a).2.1 ≠ (TX3 b).2.1 := by decide +kernel
theorem tyX3_ok : ∀ k, k < 2 → parseFieldDescriptor (TX3 k).2.2.1 = some (tyX3 k) := by decide +kernel
abbrev cX3_init : ByteArray := prog_5_method_1_code
def yX3_init : MethodName := ⟨RX3, "<init>", "()V"⟩
abbrev cX3_isFresh : ByteArray := prog_5_method_2_code
def yX3_isFresh : MethodName := ⟨RX3, "isFresh", "(I)Z"⟩
def RX4 : String := "Daemonsheet$Service"
def TX4 : u_T := fun k => match k with
  | 0 => ("Daemonsheet$Service", "number", "I", true)
  | 1 => ("Daemonsheet$Service", "state", "I", false)
  | 2 => ("Daemonsheet$Service", "control", "I", false)
  | 3 => ("Daemonsheet$Service", "limit", "I", false)
  | 4 => ("Daemonsheet$Service", "needs", "I", false)
  | 5 => ("Daemonsheet$Service", "demand", "I", false)
  | 6 => ("Daemonsheet$Service", "delay", "I", false)
  | 7 => ("Daemonsheet$Service", "lie", "I", false)
  | 8 => ("Daemonsheet$Service", "load", "I", false)
  | 9 => ("Daemonsheet$Service", "told", "I", false)
  | 10 => ("Daemonsheet$Service", "starts", "I", false)
  | 11 => ("Daemonsheet$Service", "startTick", "I", false)
  | 12 => ("Daemonsheet$Service", "startDelay", "I", false)
  | _ => ("Daemonsheet$Service", "changedIn", "I", false)
def tyX4 : Nat → FieldType := fun k => match k with
  | 0 => .int
  | 1 => .int
  | 2 => .int
  | 3 => .int
  | 4 => .int
  | 5 => .int
  | 6 => .int
  | 7 => .int
  | 8 => .int
  | 9 => .int
  | 10 => .int
  | 11 => .int
  | 12 => .int
  | _ => .int
theorem nmX4 : ∀ a, a < 14 → ∀ b, b < 14 → a ≠ b → (TX4 a).2.1 ≠ (TX4 b).2.1 := by decide +kernel
theorem tyX4_ok : ∀ k, k < 14 → parseFieldDescriptor (TX4 k).2.2.1 = some (tyX4 k) := by decide +kernel
abbrev cX4_init : ByteArray := prog_6_method_1_code
def yX4_init : MethodName := ⟨RX4, "<init>", "(I)V"⟩
abbrev cX4_clear : ByteArray := prog_6_method_2_code
def yX4_clear : MethodName := ⟨RX4, "clear", "()V"⟩
abbrev cX4_takeSettings : ByteArray := prog_6_method_3_code
def yX4_takeSettings : MethodName := ⟨RX4, "takeSettings", "(LDaemonsheet$Service;)V"⟩
abbrev cX4_isDue : ByteArray := prog_6_method_4_code
def yX4_isDue : MethodName := ⟨RX4, "isDue", "(I)Z"⟩
abbrev cX4_enter : ByteArray := prog_6_method_5_code
def yX4_enter : MethodName := ⟨RX4, "enter", "(II)V"⟩
def RX5 : String := "Daemonsheet$Step"
def TX5 : u_T := fun k => match k with
  | 0 => ("Daemonsheet$Step", "kind", "I", true)
  | 1 => ("Daemonsheet$Step", "first", "I", true)
  | 2 => ("Daemonsheet$Step", "second", "I", true)
  | 3 => ("Daemonsheet$Step", "third", "I", true)
  | 4 => ("Daemonsheet$Step", "formula", "LDaemonsheet$Formula;", true)
  | _ => ("Daemonsheet$Step", "tick", "I", true)
def tyX5 : Nat → FieldType := fun k => match k with
  | 0 => .int
  | 1 => .int
  | 2 => .int
  | 3 => .int
  | 4 => .object "Daemonsheet$Formula"
  | _ => .int
theorem nmX5 : ∀ a, a < 6 → ∀ b, b < 6 → a ≠ b → (TX5 a).2.1 ≠ (TX5 b).2.1 := by decide +kernel
theorem tyX5_ok : ∀ k, k < 6 → parseFieldDescriptor (TX5 k).2.2.1 = some (tyX5 k) := by decide +kernel
abbrev cX5_init : ByteArray := prog_7_method_1_code
def yX5_init : MethodName := ⟨RX5, "<init>", "(IIIILDaemonsheet$Formula;I)V"⟩
def RX6 : String := "Daemonsheet$Table"
def TX6 : u_T := fun k => match k with
  | 0 => ("Daemonsheet$Table", "zero", "LDaemonsheet$Formula;", true)
  | 1 => ("Daemonsheet$Table", "cells", "[LDaemonsheet$Cell;", true)
  | 2 => ("Daemonsheet$Table", "order", "[LDaemonsheet$Cell;", true)
  | 3 => ("Daemonsheet$Table", "readings", "[LDaemonsheet$Reading;", true)
  | 4 => ("Daemonsheet$Table", "services", "[LDaemonsheet$Service;", true)
  | 5 => ("Daemonsheet$Table", "row", "[I", true)
  | 6 => ("Daemonsheet$Table", "dirty", "I", false)
  | 7 => ("Daemonsheet$Table", "now", "I", false)
  | _ => ("Daemonsheet$Table", "work", "I", false)
def tyX6 : Nat → FieldType := fun k => match k with
  | 0 => .object "Daemonsheet$Formula"
  | 1 => .array (.object "Daemonsheet$Cell")
  | 2 => .array (.object "Daemonsheet$Cell")
  | 3 => .array (.object "Daemonsheet$Reading")
  | 4 => .array (.object "Daemonsheet$Service")
  | 5 => .array .int
  | 6 => .int
  | 7 => .int
  | _ => .int
theorem nmX6 : ∀ a, a < 9 → ∀ b, b < 9 → a ≠ b → (TX6 a).2.1 ≠ (TX6 b).2.1 := by decide +kernel
theorem tyX6_ok : ∀ k, k < 9 → parseFieldDescriptor (TX6 k).2.2.1 = some (tyX6 k) := by decide +kernel
abbrev cX6_init : ByteArray := prog_8_method_1_code
def yX6_init : MethodName := ⟨RX6, "<init>", "()V"⟩
abbrev cX6_clear : ByteArray := prog_8_method_2_code
def yX6_clear : MethodName := ⟨RX6, "clear", "()V"⟩
abbrev cX6_takeSettings : ByteArray := prog_8_method_3_code
def yX6_takeSettings : MethodName := ⟨RX6, "takeSettings", "(LDaemonsheet$Table;I)V"⟩
abbrev cX6_tell : ByteArray := prog_8_method_4_code
def yX6_tell : MethodName := ⟨RX6, "tell", "(LDaemonsheet$Step;)I"⟩
abbrev cX6_change : ByteArray := prog_8_method_5_code
def yX6_change : MethodName := ⟨RX6, "change", "(LDaemonsheet$Step;)V"⟩
abbrev cX6_isStartDue : ByteArray := prog_8_method_6_code
def yX6_isStartDue : MethodName := ⟨RX6, "isStartDue", "()Z"⟩
abbrev cX6_changeReading : ByteArray := prog_8_method_7_code
def yX6_changeReading : MethodName := ⟨RX6, "changeReading", "(LDaemonsheet$Step;)V"⟩
abbrev cX6_changeCell : ByteArray := prog_8_method_8_code
def yX6_changeCell : MethodName := ⟨RX6, "changeCell", "(LDaemonsheet$Step;)V"⟩
abbrev cX6_changeService : ByteArray := prog_8_method_9_code
def yX6_changeService : MethodName := ⟨RX6, "changeService", "(LDaemonsheet$Step;)V"⟩
abbrev cX6_settle : ByteArray := prog_8_method_10_code
def yX6_settle : MethodName := ⟨RX6, "settle", "()I"⟩
abbrev cX6_forgetChanges : ByteArray := prog_8_method_11_code
def yX6_forgetChanges : MethodName := ⟨RX6, "forgetChanges", "()V"⟩
abbrev cX6_cutLowestOfLateChanges : ByteArray := prog_8_method_12_code
def yX6_cutLowestOfLateChanges : MethodName := ⟨RX6, "cutLowestOfLateChanges", "()V"⟩
abbrev cX6_workOutDirtyCells : ByteArray := prog_8_method_13_code
def yX6_workOutDirtyCells : MethodName := ⟨RX6, "workOutDirtyCells", "()V"⟩
abbrev cX6_setValue : ByteArray := prog_8_method_14_code
def yX6_setValue : MethodName := ⟨RX6, "setValue", "(LDaemonsheet$Cell;I)V"⟩
abbrev cX6_setTold : ByteArray := prog_8_method_15_code
def yX6_setTold : MethodName := ⟨RX6, "setTold", "(LDaemonsheet$Service;I)V"⟩
abbrev cX6_soilReaders : ByteArray := prog_8_method_16_code
def yX6_soilReaders : MethodName := ⟨RX6, "soilReaders", "(I)V"⟩
abbrev cX6_lookAtServices : ByteArray := prog_8_method_17_code
def yX6_lookAtServices : MethodName := ⟨RX6, "lookAtServices", "(I)Z"⟩
abbrev cX6_nextState : ByteArray := prog_8_method_18_code
def yX6_nextState : MethodName := ⟨RX6, "nextState", "(LDaemonsheet$Service;)I"⟩
abbrev cX6_isWanted : ByteArray := prog_8_method_19_code
def yX6_isWanted : MethodName := ⟨RX6, "isWanted", "(LDaemonsheet$Service;)Z"⟩
abbrev cX6_loadRunning : ByteArray := prog_8_method_20_code
def yX6_loadRunning : MethodName := ⟨RX6, "loadRunning", "(LDaemonsheet$Service;)I"⟩
abbrev cX6_valueOf : ByteArray := prog_8_method_21_code
def yX6_valueOf : MethodName := ⟨RX6, "valueOf", "(LDaemonsheet$Formula;)I"⟩
abbrev cX6_valueNamed : ByteArray := prog_8_method_22_code
def yX6_valueNamed : MethodName := ⟨RX6, "valueNamed", "(II)I"⟩
abbrev cX6_cellValue : ByteArray := prog_8_method_23_code
def yX6_cellValue : MethodName := ⟨RX6, "cellValue", "(II)I"⟩
abbrev cX6_combine : ByteArray := prog_8_method_24_code
def yX6_combine : MethodName := ⟨RX6, "combine", "(IIII)J"⟩
abbrev cX6_arrange : ByteArray := prog_8_method_25_code
def yX6_arrange : MethodName := ⟨RX6, "arrange", "()V"⟩
abbrev cX6_withAllRead : ByteArray := prog_8_method_26_code
def yX6_withAllRead : MethodName := ⟨RX6, "withAllRead", "(I)I"⟩
abbrev cX6_findStale : ByteArray := prog_8_method_27_code
def yX6_findStale : MethodName := ⟨RX6, "findStale", "()I"⟩
abbrev cX6_hangsOnItself : ByteArray := prog_8_method_28_code
def yX6_hangsOnItself : MethodName := ⟨RX6, "hangsOnItself", "(I)Z"⟩
abbrev cX6_servicesUnder : ByteArray := prog_8_method_29_code
def yX6_servicesUnder : MethodName := ⟨RX6, "servicesUnder", "(LDaemonsheet$Service;)I"⟩
def RX7 : String := "Daemonsheet$Text"
def TX7 : u_T := fun k => match k with
  | 0 => ("Daemonsheet$Text", "letters", "[C", true)
  | _ => ("Daemonsheet$Text", "length", "I", false)
def tyX7 : Nat → FieldType := fun k => match k with
  | 0 => .array .char
  | _ => .int
theorem nmX7 : ∀ a, a < 2 → ∀ b, b < 2 → a ≠ b → (TX7 a).2.1 ≠ (TX7 b).2.1 := by decide +kernel
theorem tyX7_ok : ∀ k, k < 2 → parseFieldDescriptor (TX7 k).2.2.1 = some (tyX7 k) := by decide +kernel
abbrev cX7_init : ByteArray := prog_9_method_1_code
def yX7_init : MethodName := ⟨RX7, "<init>", "()V"⟩
abbrev cX7_isFull : ByteArray := prog_9_method_2_code
def yX7_isFull : MethodName := ⟨RX7, "isFull", "()Z"⟩
abbrev cX7_add : ByteArray := prog_9_method_3_code
def yX7_add : MethodName := ⟨RX7, "add", "(C)V"⟩
abbrev cX7_letterAt : ByteArray := prog_9_method_4_code
def yX7_letterAt : MethodName := ⟨RX7, "letterAt", "(I)C"⟩
def RX8 : String := "Daemonsheet"
def TX8 : u_T := fun k => match k with
  | 0 => ("Daemonsheet", "text", "LDaemonsheet$Text;", true)
  | 1 => ("Daemonsheet", "parser", "LDaemonsheet$Parser;", true)
  | 2 => ("Daemonsheet", "table", "LDaemonsheet$Table;", true)
  | 3 => ("Daemonsheet", "spare", "LDaemonsheet$Table;", true)
  | 4 => ("Daemonsheet", "kept", "[LDaemonsheet$Step;", true)
  | 5 => ("Daemonsheet", "keptCount", "I", false)
  | _ => ("Daemonsheet", "oneTick", "LDaemonsheet$Step;", true)
def tyX8 : Nat → FieldType := fun k => match k with
  | 0 => .object "Daemonsheet$Text"
  | 1 => .object "Daemonsheet$Parser"
  | 2 => .object "Daemonsheet$Table"
  | 3 => .object "Daemonsheet$Table"
  | 4 => .array (.object "Daemonsheet$Step")
  | 5 => .int
  | _ => .object "Daemonsheet$Step"
theorem nmX8 : ∀ a, a < 7 → ∀ b, b < 7 → a ≠ b → (TX8 a).2.1 ≠ (TX8 b).2.1 := by decide +kernel
theorem tyX8_ok : ∀ k, k < 7 → parseFieldDescriptor (TX8 k).2.2.1 = some (tyX8 k) := by decide +kernel
abbrev cX8_init : ByteArray := prog_1_method_1_code
def yX8_init : MethodName := ⟨RX8, "<init>", "()V"⟩
abbrev cX8_type : ByteArray := prog_1_method_2_code
def yX8_type : MethodName := ⟨RX8, "type", "(C)I"⟩
abbrev cX8_wipe : ByteArray := prog_1_method_3_code
def yX8_wipe : MethodName := ⟨RX8, "wipe", "()I"⟩
abbrev cX8_fault : ByteArray := prog_1_method_4_code
def yX8_fault : MethodName := ⟨RX8, "fault", "()I"⟩
abbrev cX8_formula : ByteArray := prog_1_method_5_code
def yX8_formula : MethodName := ⟨RX8, "formula", "(I)I"⟩
abbrev cX8_hold : ByteArray := prog_1_method_6_code
def yX8_hold : MethodName := ⟨RX8, "hold", "(II)I"⟩
abbrev cX8_release : ByteArray := prog_1_method_7_code
def yX8_release : MethodName := ⟨RX8, "release", "(I)I"⟩
abbrev cX8_read : ByteArray := prog_1_method_8_code
def yX8_read : MethodName := ⟨RX8, "read", "(II)I"⟩
abbrev cX8_control : ByteArray := prog_1_method_9_code
def yX8_control : MethodName := ⟨RX8, "control", "(II)I"⟩
abbrev cX8_limit : ByteArray := prog_1_method_10_code
def yX8_limit : MethodName := ⟨RX8, "limit", "(II)I"⟩
abbrev cX8_demand : ByteArray := prog_1_method_11_code
def yX8_demand : MethodName := ⟨RX8, "demand", "(III)I"⟩
abbrev cX8_need : ByteArray := prog_1_method_12_code
def yX8_need : MethodName := ⟨RX8, "need", "(IIZ)I"⟩
abbrev cX8_lie : ByteArray := prog_1_method_13_code
def yX8_lie : MethodName := ⟨RX8, "lie", "(II)I"⟩
abbrev cX8_mend : ByteArray := prog_1_method_14_code
def yX8_mend : MethodName := ⟨RX8, "mend", "(I)I"⟩
abbrev cX8_tick : ByteArray := prog_1_method_15_code
def yX8_tick : MethodName := ⟨RX8, "tick", "(I)I"⟩
abbrev cX8_undo : ByteArray := prog_1_method_16_code
def yX8_undo : MethodName := ⟨RX8, "undo", "()I"⟩
abbrev cX8_steps : ByteArray := prog_1_method_17_code
def yX8_steps : MethodName := ⟨RX8, "steps", "()I"⟩
abbrev cX8_now : ByteArray := prog_1_method_18_code
def yX8_now : MethodName := ⟨RX8, "now", "()I"⟩
abbrev cX8_value : ByteArray := prog_1_method_19_code
def yX8_value : MethodName := ⟨RX8, "value", "(I)I"⟩
abbrev cX8_valueAnew : ByteArray := prog_1_method_20_code
def yX8_valueAnew : MethodName := ⟨RX8, "valueAnew", "(I)I"⟩
abbrev cX8_worth : ByteArray := prog_1_method_21_code
def yX8_worth : MethodName := ⟨RX8, "worth", "(I)I"⟩
abbrev cX8_depth : ByteArray := prog_1_method_22_code
def yX8_depth : MethodName := ⟨RX8, "depth", "(I)I"⟩
abbrev cX8_isStale : ByteArray := prog_1_method_23_code
def yX8_isStale : MethodName := ⟨RX8, "isStale", "(I)Z"⟩
abbrev cX8_work : ByteArray := prog_1_method_24_code
def yX8_work : MethodName := ⟨RX8, "work", "()I"⟩
abbrev cX8_state : ByteArray := prog_1_method_25_code
def yX8_state : MethodName := ⟨RX8, "state", "(I)I"⟩
abbrev cX8_load : ByteArray := prog_1_method_26_code
def yX8_load : MethodName := ⟨RX8, "load", "(I)I"⟩
abbrev cX8_told : ByteArray := prog_1_method_27_code
def yX8_told : MethodName := ⟨RX8, "told", "(I)I"⟩
abbrev cX8_starts : ByteArray := prog_1_method_28_code
def yX8_starts : MethodName := ⟨RX8, "starts", "(I)I"⟩
abbrev cX8_trial : ByteArray := prog_1_method_29_code
def yX8_trial : MethodName := ⟨RX8, "trial", "(I)I"⟩
abbrev cX8_isLoop : ByteArray := prog_1_method_30_code
def yX8_isLoop : MethodName := ⟨RX8, "isLoop", "(I)Z"⟩
abbrev cX8_keep : ByteArray := prog_1_method_31_code
def yX8_keep : MethodName := ⟨RX8, "keep", "(IIIILDaemonsheet$Formula;)I"⟩
abbrev cX8_tellAnew : ByteArray := prog_1_method_32_code
def yX8_tellAnew : MethodName := ⟨RX8, "tellAnew", "(LDaemonsheet$Table;)V"⟩
abbrev cX8_tellReadingsOfTick : ByteArray := prog_1_method_33_code
def yX8_tellReadingsOfTick : MethodName := ⟨RX8, "tellReadingsOfTick", "(LDaemonsheet$Table;)V"⟩
abbrev cX8_checkPlace : ByteArray := prog_1_method_34_code
def yX8_checkPlace : MethodName := ⟨RX8, "checkPlace", "(II)V"⟩
abbrev cX8_checkCell : ByteArray := prog_1_method_35_code
def yX8_checkCell : MethodName := ⟨RX8, "checkCell", "(I)V"⟩
abbrev cX8_checkCellOrNone : ByteArray := prog_1_method_36_code
def yX8_checkCellOrNone : MethodName := ⟨RX8, "checkCellOrNone", "(I)V"⟩
abbrev cX8_checkService : ByteArray := prog_1_method_37_code
def yX8_checkService : MethodName := ⟨RX8, "checkService", "(I)V"⟩
abbrev cX8_checkNumber : ByteArray := prog_1_method_38_code
def yX8_checkNumber : MethodName := ⟨RX8, "checkNumber", "(III)V"⟩
abbrev cX8_isFigure : ByteArray := prog_1_method_39_code
def yX8_isFigure : MethodName := ⟨RX8, "isFigure", "(C)Z"⟩
abbrev cX8_bit : ByteArray := prog_1_method_40_code
def yX8_bit : MethodName := ⟨RX8, "bit", "(I)I"⟩
abbrev cX8_has : ByteArray := prog_1_method_41_code
def yX8_has : MethodName := ⟨RX8, "has", "(II)Z"⟩
abbrev cX8_within : ByteArray := prog_1_method_42_code
def yX8_within : MethodName := ⟨RX8, "within", "(J)I"⟩
def RX9 : String := "DaemonsheetModel"
def TX9 : u_T := fun k => match k with
  | _ => ("", "", "", false)
def tyX9 : Nat → FieldType := fun k => match k with
  | _ => .int
theorem nmX9 : ∀ a, a < 0 → ∀ b, b < 0 → a ≠ b → (TX9 a).2.1 ≠ (TX9 b).2.1 := by decide +kernel
theorem tyX9_ok : ∀ k, k < 0 → parseFieldDescriptor (TX9 k).2.2.1 = some (tyX9 k) := by decide +kernel
def RJx145de : String := "java/io/Serializable"
def RJx9f9b0 : String := "java/lang/CharSequence"
def RJ11 : String := "java/lang/Character"
abbrev cJ11_isValidCodePoint_9a6ad : ByteArray := prog_12_method_11_code
def yJ11_isValidCodePoint_9a6ad : MethodName := ⟨RJ11, "isValidCodePoint", "(I)Z"⟩
abbrev cJ11_highSurrogate_5068e : ByteArray := prog_12_method_28_code
def yJ11_highSurrogate_5068e : MethodName := ⟨RJ11, "highSurrogate", "(I)C"⟩
abbrev cJ11_lowSurrogate_5068e : ByteArray := prog_12_method_29_code
def yJ11_lowSurrogate_5068e : MethodName := ⟨RJ11, "lowSurrogate", "(I)C"⟩
def RJx8e188 : String := "java/lang/Cloneable"
def RJxb160c : String := "java/lang/Comparable"
def RJ9 : String := "java/lang/Math"
abbrev cJ9_max_7cf53 : ByteArray := prog_18_method_65_code
def yJ9_max_7cf53 : MethodName := ⟨RJ9, "max", "(II)I"⟩
abbrev cJ9_max_f86c9 : ByteArray := prog_18_method_66_code
def yJ9_max_f86c9 : MethodName := ⟨RJ9, "max", "(JJ)J"⟩
abbrev cJ9_min_7cf53 : ByteArray := prog_18_method_69_code
def yJ9_min_7cf53 : MethodName := ⟨RJ9, "min", "(II)I"⟩
abbrev cJ9_min_f86c9 : ByteArray := prog_18_method_70_code
def yJ9_min_f86c9 : MethodName := ⟨RJ9, "min", "(JJ)J"⟩
def RJ0 : String := "java/lang/String"
abbrev cJ0_length_8abf5 : ByteArray := prog_20_method_54_code
def yJ0_length_8abf5 : MethodName := ⟨RJ0, "length", "()I"⟩
abbrev cJ0_indexOf_0f7a4 : ByteArray := prog_20_method_79_code
def yJ0_indexOf_0f7a4 : MethodName := ⟨RJ0, "indexOf", "(I)I"⟩
abbrev cJ0_indexOf_7cf53 : ByteArray := prog_20_method_80_code
def yJ0_indexOf_7cf53 : MethodName := ⟨RJ0, "indexOf", "(II)I"⟩
abbrev cJ0_coder_7d493 : ByteArray := prog_20_method_152_code
def yJ0_coder_7d493 : MethodName := ⟨RJ0, "coder", "()B"⟩
abbrev cJ0_isLatin1_aae02 : ByteArray := prog_20_method_154_code
def yJ0_isLatin1_aae02 : MethodName := ⟨RJ0, "isLatin1", "()Z"⟩
abbrev cJ0_checkBoundsBeginEnd_23922 : ByteArray := prog_20_method_158_code
def yJ0_checkBoundsBeginEnd_23922 : MethodName := ⟨RJ0, "checkBoundsBeginEnd", "(III)V"⟩
def RJ1 : String := "java/lang/StringLatin1"
abbrev cJ1_canEncode_9a6ad : ByteArray := prog_21_method_4_code
def yJ1_canEncode_9a6ad : MethodName := ⟨RJ1, "canEncode", "(I)Z"⟩
abbrev cJ1_indexOf_4cfef : ByteArray := prog_21_method_22_code
def yJ1_indexOf_4cfef : MethodName := ⟨RJ1, "indexOf", "([BIII)I"⟩
abbrev cJ1_indexOfChar_4cfef : ByteArray := prog_21_method_23_code
def yJ1_indexOfChar_4cfef : MethodName := ⟨RJ1, "indexOfChar", "([BIII)I"⟩
def RJ2 : String := "java/lang/StringUTF16"
abbrev cJ2_getChar_3b067 : ByteArray := prog_22_method_5_code
def yJ2_getChar_3b067 : MethodName := ⟨RJ2, "getChar", "([BI)C"⟩
abbrev cJ2_length_9d52b : ByteArray := prog_22_method_6_code
def yJ2_length_9d52b : MethodName := ⟨RJ2, "length", "([B)I"⟩
abbrev cJ2_indexOf_4cfef : ByteArray := prog_22_method_40_code
def yJ2_indexOf_4cfef : MethodName := ⟨RJ2, "indexOf", "([BIII)I"⟩
abbrev cJ2_indexOfChar_4cfef : ByteArray := prog_22_method_47_code
def yJ2_indexOfChar_4cfef : MethodName := ⟨RJ2, "indexOfChar", "([BIII)I"⟩
abbrev cJ2_indexOfCharUnsafe_4cfef : ByteArray := prog_22_method_48_code
def yJ2_indexOfCharUnsafe_4cfef : MethodName := ⟨RJ2, "indexOfCharUnsafe", "([BIII)I"⟩
abbrev cJ2_indexOfSupplementary_4cfef : ByteArray := prog_22_method_49_code
def yJ2_indexOfSupplementary_4cfef : MethodName := ⟨RJ2, "indexOfSupplementary", "([BIII)I"⟩
abbrev cJ2_checkBoundsBeginEnd_d044e : ByteArray := prog_22_method_93_code
def yJ2_checkBoundsBeginEnd_d044e : MethodName := ⟨RJ2, "checkBoundsBeginEnd", "(II[B)V"⟩
def RJ10 : String := "java/lang/System"
def RJxfd54e : String := "java/lang/constant/Constable"
def RJx3cf43 : String := "java/lang/constant/ConstantDesc"
def RJ7 : String := "java/util/Arrays"
abbrev cJ7_copyOf_59c91 : ByteArray := prog_25_method_123_code
def yJ7_copyOf_59c91 : MethodName := ⟨RJ7, "copyOf", "([II)[I"⟩
def RJ3 : String := "jdk/internal/util/Preconditions"
abbrev cJ3_checkFromToIndex_8c36e : ByteArray := prog_26_method_12_code
def yJ3_checkFromToIndex_8c36e : MethodName := ⟨RJ3, "checkFromToIndex", "(IIILjava/util/function/BiFunction;)I"⟩
def RL : String := "DaemonsheetLaw"
abbrev cL_cell : ByteArray := method_2_code
def yL_cell : MethodName := ⟨RL, "cell", "([II)I"⟩
abbrev cL_type : ByteArray := method_3_code
def yL_type : MethodName := ⟨RL, "type", "(LDaemonsheet;I)I"⟩
abbrev cL_formula : ByteArray := method_4_code
def yL_formula : MethodName := ⟨RL, "formula", "(LDaemonsheet;I)I"⟩
abbrev cL_hold : ByteArray := method_5_code
def yL_hold : MethodName := ⟨RL, "hold", "(LDaemonsheet;II)I"⟩
abbrev cL_release : ByteArray := method_6_code
def yL_release : MethodName := ⟨RL, "release", "(LDaemonsheet;I)I"⟩
abbrev cL_read : ByteArray := method_7_code
def yL_read : MethodName := ⟨RL, "read", "(LDaemonsheet;II)I"⟩
abbrev cL_control : ByteArray := method_8_code
def yL_control : MethodName := ⟨RL, "control", "(LDaemonsheet;II)I"⟩
abbrev cL_limit : ByteArray := method_9_code
def yL_limit : MethodName := ⟨RL, "limit", "(LDaemonsheet;II)I"⟩
abbrev cL_demand : ByteArray := method_10_code
def yL_demand : MethodName := ⟨RL, "demand", "(LDaemonsheet;III)I"⟩
abbrev cL_need : ByteArray := method_11_code
def yL_need : MethodName := ⟨RL, "need", "(LDaemonsheet;IIZ)I"⟩
abbrev cL_lie : ByteArray := method_12_code
def yL_lie : MethodName := ⟨RL, "lie", "(LDaemonsheet;II)I"⟩
abbrev cL_mend : ByteArray := method_13_code
def yL_mend : MethodName := ⟨RL, "mend", "(LDaemonsheet;I)I"⟩
abbrev cL_tick : ByteArray := method_14_code
def yL_tick : MethodName := ⟨RL, "tick", "(LDaemonsheet;I)I"⟩
abbrev cL_undo : ByteArray := method_15_code
def yL_undo : MethodName := ⟨RL, "undo", "(LDaemonsheet;)I"⟩
abbrev cL_value : ByteArray := method_16_code
def yL_value : MethodName := ⟨RL, "value", "(LDaemonsheet;I)I"⟩
abbrev cL_anew : ByteArray := method_17_code
def yL_anew : MethodName := ⟨RL, "anew", "(LDaemonsheet;I)I"⟩
abbrev cL_worth : ByteArray := method_18_code
def yL_worth : MethodName := ⟨RL, "worth", "(LDaemonsheet;I)I"⟩
abbrev cL_depth : ByteArray := method_19_code
def yL_depth : MethodName := ⟨RL, "depth", "(LDaemonsheet;I)I"⟩
abbrev cL_stale : ByteArray := method_20_code
def yL_stale : MethodName := ⟨RL, "stale", "(LDaemonsheet;I)I"⟩
abbrev cL_state : ByteArray := method_21_code
def yL_state : MethodName := ⟨RL, "state", "(LDaemonsheet;I)I"⟩
abbrev cL_load : ByteArray := method_22_code
def yL_load : MethodName := ⟨RL, "load", "(LDaemonsheet;I)I"⟩
abbrev cL_told : ByteArray := method_23_code
def yL_told : MethodName := ⟨RL, "told", "(LDaemonsheet;I)I"⟩
abbrev cL_starts : ByteArray := method_24_code
def yL_starts : MethodName := ⟨RL, "starts", "(LDaemonsheet;I)I"⟩
abbrev cL_trial : ByteArray := method_25_code
def yL_trial : MethodName := ⟨RL, "trial", "(LDaemonsheet;I)I"⟩
abbrev cL_loop : ByteArray := method_26_code
def yL_loop : MethodName := ⟨RL, "loop", "(LDaemonsheet;I)I"⟩
abbrev cL_sign : ByteArray := method_27_code
def yL_sign : MethodName := ⟨RL, "sign", "(I)I"⟩
abbrev cL_types : ByteArray := method_28_code
def yL_types : MethodName := ⟨RL, "types", "(LDaemonsheet;[II)Z"⟩
abbrev cL_isFault : ByteArray := method_29_code
def yL_isFault : MethodName := ⟨RL, "isFault", "(LDaemonsheet;[II)Z"⟩
abbrev cL_says : ByteArray := method_30_code
def yL_says : MethodName := ⟨RL, "says", "(LDaemonsheet;I)Z"⟩
abbrev cL_fits : ByteArray := method_31_code
def yL_fits : MethodName := ⟨RL, "fits", "(LDaemonsheet;I)Z"⟩
abbrev cL_sees : ByteArray := method_32_code
def yL_sees : MethodName := ⟨RL, "sees", "(LDaemonsheet;[I)V"⟩
abbrev cL_areAlike : ByteArray := method_33_code
def yL_areAlike : MethodName := ⟨RL, "areAlike", "([I[I)Z"⟩
abbrev cL_does : ByteArray := method_34_code
def yL_does : MethodName := ⟨RL, "does", "(LDaemonsheet;I)I"⟩
abbrev cL_law : ByteArray := code
def yL_law : MethodName := ⟨RL, "law", "([I)Z"⟩
abbrev vwCl : List vw_C := [(RX0, TX0, 5), (RX1, TX1, 2), (RX2, TX2, 6), (RX3, TX3, 2), (RX4, TX4, 14), (RX5, TX5, 6), (RX6, TX6, 9), (RX7, TX7, 2), (RX8, TX8, 7)]
