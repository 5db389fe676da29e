section
-- ===== PART A: goes FIRST, ahead of the names: the tables' words, and 'selects' of the private methods out of them =====
/-- a private method of a class that the tables say can be made, by its rows of tables_1 -/
def lw_okq (q : MethodName × Nat) : Prop := (q.1.cls ≠ "java/lang/invoke/MethodHandle" ∧ q.1.cls ≠ "java/lang/invoke/VarHandle") ∧ Cond.instantiable q.1.cls q.2 ∈ tables_1 ∧ Cond.privateMethod q.1 ∈ tables_1 ∧ Cond.instanceMethod q.1 ∈ tables_1
theorem lw_p0 : lw_okq (⟨"Daemonsheet$Parser", "passFormula", "(I)V"⟩, 6) := ⟨⟨by decide +kernel, by decide +kernel⟩, List.mem_of_getElem? (i := 50) (by decide +kernel), List.mem_of_getElem? (i := 310) (by decide +kernel), List.mem_of_getElem? (i := 311) (by decide +kernel)⟩
theorem lw_p1 : lw_okq (⟨"Daemonsheet$Parser", "passSum", "(I)V"⟩, 6) := ⟨⟨by decide +kernel, by decide +kernel⟩, List.mem_of_getElem? (i := 50) (by decide +kernel), List.mem_of_getElem? (i := 314) (by decide +kernel), List.mem_of_getElem? (i := 315) (by decide +kernel)⟩
theorem lw_p2 : lw_okq (⟨"Daemonsheet$Parser", "passProduct", "(I)V"⟩, 6) := ⟨⟨by decide +kernel, by decide +kernel⟩, List.mem_of_getElem? (i := 50) (by decide +kernel), List.mem_of_getElem? (i := 318) (by decide +kernel), List.mem_of_getElem? (i := 319) (by decide +kernel)⟩
theorem lw_p3 : lw_okq (⟨"Daemonsheet$Parser", "passPart", "(I)V"⟩, 6) := ⟨⟨by decide +kernel, by decide +kernel⟩, List.mem_of_getElem? (i := 50) (by decide +kernel), List.mem_of_getElem? (i := 322) (by decide +kernel), List.mem_of_getElem? (i := 323) (by decide +kernel)⟩
theorem lw_p4 : lw_okq (⟨"Daemonsheet$Parser", "passNumber", "()V"⟩, 6) := ⟨⟨by decide +kernel, by decide +kernel⟩, List.mem_of_getElem? (i := 50) (by decide +kernel), List.mem_of_getElem? (i := 333) (by decide +kernel), List.mem_of_getElem? (i := 334) (by decide +kernel)⟩
theorem lw_p5 : lw_okq (⟨"Daemonsheet$Parser", "write", "(II)V"⟩, 6) := ⟨⟨by decide +kernel, by decide +kernel⟩, List.mem_of_getElem? (i := 50) (by decide +kernel), List.mem_of_getElem? (i := 337) (by decide +kernel), List.mem_of_getElem? (i := 338) (by decide +kernel)⟩
theorem lw_p6 : lw_okq (⟨"Daemonsheet$Parser", "passBrackets", "(II)V"⟩, 6) := ⟨⟨by decide +kernel, by decide +kernel⟩, List.mem_of_getElem? (i := 50) (by decide +kernel), List.mem_of_getElem? (i := 341) (by decide +kernel), List.mem_of_getElem? (i := 342) (by decide +kernel)⟩
theorem lw_p7 : lw_okq (⟨"Daemonsheet$Parser", "passSign", "(C)V"⟩, 6) := ⟨⟨by decide +kernel, by decide +kernel⟩, List.mem_of_getElem? (i := 50) (by decide +kernel), List.mem_of_getElem? (i := 345) (by decide +kernel), List.mem_of_getElem? (i := 346) (by decide +kernel)⟩
theorem lw_p8 : lw_okq (⟨"Daemonsheet$Parser", "passName", "(III)V"⟩, 6) := ⟨⟨by decide +kernel, by decide +kernel⟩, List.mem_of_getElem? (i := 50) (by decide +kernel), List.mem_of_getElem? (i := 349) (by decide +kernel), List.mem_of_getElem? (i := 350) (by decide +kernel)⟩
theorem lw_p9 : lw_okq (⟨"Daemonsheet$Parser", "figureAt", "(I)I"⟩, 6) := ⟨⟨by decide +kernel, by decide +kernel⟩, List.mem_of_getElem? (i := 50) (by decide +kernel), List.mem_of_getElem? (i := 353) (by decide +kernel), List.mem_of_getElem? (i := 354) (by decide +kernel)⟩
theorem lw_p10 : lw_okq (⟨"java/lang/Throwable", "fillInStackTrace", "(I)Ljava/lang/Throwable;"⟩, 6) := ⟨⟨by decide +kernel, by decide +kernel⟩, List.mem_of_getElem? (i := 510) (by decide +kernel), List.mem_of_getElem? (i := 508) (by decide +kernel), List.mem_of_getElem? (i := 509) (by decide +kernel)⟩
theorem lw_p11 : lw_okq (⟨"Daemonsheet", "keep", "(IIIILDaemonsheet$Formula;)I"⟩, 7) := ⟨⟨by decide +kernel, by decide +kernel⟩, List.mem_of_getElem? (i := 26) (by decide +kernel), List.mem_of_getElem? (i := 625) (by decide +kernel), List.mem_of_getElem? (i := 626) (by decide +kernel)⟩
theorem lw_p12 : lw_okq (⟨"Daemonsheet$Table", "change", "(LDaemonsheet$Step;)V"⟩, 9) := ⟨⟨by decide +kernel, by decide +kernel⟩, List.mem_of_getElem? (i := 76) (by decide +kernel), List.mem_of_getElem? (i := 634) (by decide +kernel), List.mem_of_getElem? (i := 635) (by decide +kernel)⟩
theorem lw_p13 : lw_okq (⟨"Daemonsheet$Table", "changeReading", "(LDaemonsheet$Step;)V"⟩, 9) := ⟨⟨by decide +kernel, by decide +kernel⟩, List.mem_of_getElem? (i := 76) (by decide +kernel), List.mem_of_getElem? (i := 638) (by decide +kernel), List.mem_of_getElem? (i := 639) (by decide +kernel)⟩
theorem lw_p14 : lw_okq (⟨"Daemonsheet$Table", "soilReaders", "(I)V"⟩, 9) := ⟨⟨by decide +kernel, by decide +kernel⟩, List.mem_of_getElem? (i := 76) (by decide +kernel), List.mem_of_getElem? (i := 642) (by decide +kernel), List.mem_of_getElem? (i := 643) (by decide +kernel)⟩
theorem lw_p15 : lw_okq (⟨"Daemonsheet$Table", "changeCell", "(LDaemonsheet$Step;)V"⟩, 9) := ⟨⟨by decide +kernel, by decide +kernel⟩, List.mem_of_getElem? (i := 76) (by decide +kernel), List.mem_of_getElem? (i := 647) (by decide +kernel), List.mem_of_getElem? (i := 648) (by decide +kernel)⟩
def lw_privs_1 : List (MethodName × Nat) := [(⟨"Daemonsheet$Parser", "passFormula", "(I)V"⟩, 6), (⟨"Daemonsheet$Parser", "passSum", "(I)V"⟩, 6), (⟨"Daemonsheet$Parser", "passProduct", "(I)V"⟩, 6), (⟨"Daemonsheet$Parser", "passPart", "(I)V"⟩, 6), (⟨"Daemonsheet$Parser", "passNumber", "()V"⟩, 6), (⟨"Daemonsheet$Parser", "write", "(II)V"⟩, 6), (⟨"Daemonsheet$Parser", "passBrackets", "(II)V"⟩, 6), (⟨"Daemonsheet$Parser", "passSign", "(C)V"⟩, 6), (⟨"Daemonsheet$Parser", "passName", "(III)V"⟩, 6), (⟨"Daemonsheet$Parser", "figureAt", "(I)I"⟩, 6), (⟨"java/lang/Throwable", "fillInStackTrace", "(I)Ljava/lang/Throwable;"⟩, 6), (⟨"Daemonsheet", "keep", "(IIIILDaemonsheet$Formula;)I"⟩, 7), (⟨"Daemonsheet$Table", "change", "(LDaemonsheet$Step;)V"⟩, 9), (⟨"Daemonsheet$Table", "changeReading", "(LDaemonsheet$Step;)V"⟩, 9), (⟨"Daemonsheet$Table", "soilReaders", "(I)V"⟩, 9), (⟨"Daemonsheet$Table", "changeCell", "(LDaemonsheet$Step;)V"⟩, 9)]
theorem lw_r1 : ∀ q ∈ lw_privs_1, lw_okq q := List.forall_mem_cons.mpr ⟨lw_p0, List.forall_mem_cons.mpr ⟨lw_p1, List.forall_mem_cons.mpr ⟨lw_p2, List.forall_mem_cons.mpr ⟨lw_p3, List.forall_mem_cons.mpr ⟨lw_p4, List.forall_mem_cons.mpr ⟨lw_p5, List.forall_mem_cons.mpr ⟨lw_p6, List.forall_mem_cons.mpr ⟨lw_p7, List.forall_mem_cons.mpr ⟨lw_p8, List.forall_mem_cons.mpr ⟨lw_p9, List.forall_mem_cons.mpr ⟨lw_p10, List.forall_mem_cons.mpr ⟨lw_p11, List.forall_mem_cons.mpr ⟨lw_p12, List.forall_mem_cons.mpr ⟨lw_p13, List.forall_mem_cons.mpr ⟨lw_p14, List.forall_mem_cons.mpr ⟨lw_p15, fun _ h => absurd h List.not_mem_nil⟩⟩⟩⟩⟩⟩⟩⟩⟩⟩⟩⟩⟩⟩⟩⟩
theorem lw_p16 : lw_okq (⟨"Daemonsheet$Table", "setValue", "(LDaemonsheet$Cell;I)V"⟩, 9) := ⟨⟨by decide +kernel, by decide +kernel⟩, List.mem_of_getElem? (i := 76) (by decide +kernel), List.mem_of_getElem? (i := 651) (by decide +kernel), List.mem_of_getElem? (i := 652) (by decide +kernel)⟩
theorem lw_p17 : lw_okq (⟨"Daemonsheet$Table", "arrange", "()V"⟩, 9) := ⟨⟨by decide +kernel, by decide +kernel⟩, List.mem_of_getElem? (i := 76) (by decide +kernel), List.mem_of_getElem? (i := 655) (by decide +kernel), List.mem_of_getElem? (i := 656) (by decide +kernel)⟩
theorem lw_p18 : lw_okq (⟨"Daemonsheet$Table", "changeService", "(LDaemonsheet$Step;)V"⟩, 9) := ⟨⟨by decide +kernel, by decide +kernel⟩, List.mem_of_getElem? (i := 76) (by decide +kernel), List.mem_of_getElem? (i := 659) (by decide +kernel), List.mem_of_getElem? (i := 660) (by decide +kernel)⟩
theorem lw_p19 : lw_okq (⟨"Daemonsheet$Table", "forgetChanges", "()V"⟩, 9) := ⟨⟨by decide +kernel, by decide +kernel⟩, List.mem_of_getElem? (i := 76) (by decide +kernel), List.mem_of_getElem? (i := 667) (by decide +kernel), List.mem_of_getElem? (i := 668) (by decide +kernel)⟩
theorem lw_p20 : lw_okq (⟨"Daemonsheet$Table", "workOutDirtyCells", "()V"⟩, 9) := ⟨⟨by decide +kernel, by decide +kernel⟩, List.mem_of_getElem? (i := 76) (by decide +kernel), List.mem_of_getElem? (i := 671) (by decide +kernel), List.mem_of_getElem? (i := 672) (by decide +kernel)⟩
theorem lw_p21 : lw_okq (⟨"Daemonsheet$Table", "valueNamed", "(II)I"⟩, 9) := ⟨⟨by decide +kernel, by decide +kernel⟩, List.mem_of_getElem? (i := 76) (by decide +kernel), List.mem_of_getElem? (i := 681) (by decide +kernel), List.mem_of_getElem? (i := 682) (by decide +kernel)⟩
theorem lw_p22 : lw_okq (⟨"Daemonsheet$Table", "cellValue", "(II)I"⟩, 9) := ⟨⟨by decide +kernel, by decide +kernel⟩, List.mem_of_getElem? (i := 76) (by decide +kernel), List.mem_of_getElem? (i := 685) (by decide +kernel), List.mem_of_getElem? (i := 686) (by decide +kernel)⟩
theorem lw_p23 : lw_okq (⟨"Daemonsheet$Table", "lookAtServices", "(I)Z"⟩, 9) := ⟨⟨by decide +kernel, by decide +kernel⟩, List.mem_of_getElem? (i := 76) (by decide +kernel), List.mem_of_getElem? (i := 705) (by decide +kernel), List.mem_of_getElem? (i := 706) (by decide +kernel)⟩
theorem lw_p24 : lw_okq (⟨"Daemonsheet$Table", "nextState", "(LDaemonsheet$Service;)I"⟩, 9) := ⟨⟨by decide +kernel, by decide +kernel⟩, List.mem_of_getElem? (i := 76) (by decide +kernel), List.mem_of_getElem? (i := 709) (by decide +kernel), List.mem_of_getElem? (i := 710) (by decide +kernel)⟩
theorem lw_p25 : lw_okq (⟨"Daemonsheet$Table", "isWanted", "(LDaemonsheet$Service;)Z"⟩, 9) := ⟨⟨by decide +kernel, by decide +kernel⟩, List.mem_of_getElem? (i := 76) (by decide +kernel), List.mem_of_getElem? (i := 713) (by decide +kernel), List.mem_of_getElem? (i := 714) (by decide +kernel)⟩
theorem lw_p26 : lw_okq (⟨"Daemonsheet$Table", "loadRunning", "(LDaemonsheet$Service;)I"⟩, 9) := ⟨⟨by decide +kernel, by decide +kernel⟩, List.mem_of_getElem? (i := 76) (by decide +kernel), List.mem_of_getElem? (i := 729) (by decide +kernel), List.mem_of_getElem? (i := 730) (by decide +kernel)⟩
theorem lw_p27 : lw_okq (⟨"Daemonsheet$Table", "setTold", "(LDaemonsheet$Service;I)V"⟩, 9) := ⟨⟨by decide +kernel, by decide +kernel⟩, List.mem_of_getElem? (i := 76) (by decide +kernel), List.mem_of_getElem? (i := 737) (by decide +kernel), List.mem_of_getElem? (i := 738) (by decide +kernel)⟩
theorem lw_p28 : lw_okq (⟨"Daemonsheet$Table", "cutLowestOfLateChanges", "()V"⟩, 9) := ⟨⟨by decide +kernel, by decide +kernel⟩, List.mem_of_getElem? (i := 76) (by decide +kernel), List.mem_of_getElem? (i := 741) (by decide +kernel), List.mem_of_getElem? (i := 742) (by decide +kernel)⟩
theorem lw_p29 : lw_okq (⟨"Daemonsheet$Table", "isStartDue", "()Z"⟩, 9) := ⟨⟨by decide +kernel, by decide +kernel⟩, List.mem_of_getElem? (i := 76) (by decide +kernel), List.mem_of_getElem? (i := 745) (by decide +kernel), List.mem_of_getElem? (i := 746) (by decide +kernel)⟩
theorem lw_p30 : lw_okq (⟨"Daemonsheet", "tellAnew", "(LDaemonsheet$Table;)V"⟩, 7) := ⟨⟨by decide +kernel, by decide +kernel⟩, List.mem_of_getElem? (i := 26) (by decide +kernel), List.mem_of_getElem? (i := 841) (by decide +kernel), List.mem_of_getElem? (i := 842) (by decide +kernel)⟩
theorem lw_p31 : lw_okq (⟨"Daemonsheet", "tellReadingsOfTick", "(LDaemonsheet$Table;)V"⟩, 7) := ⟨⟨by decide +kernel, by decide +kernel⟩, List.mem_of_getElem? (i := 26) (by decide +kernel), List.mem_of_getElem? (i := 936) (by decide +kernel), List.mem_of_getElem? (i := 937) (by decide +kernel)⟩
def lw_privs_2 : List (MethodName × Nat) := [(⟨"Daemonsheet$Table", "setValue", "(LDaemonsheet$Cell;I)V"⟩, 9), (⟨"Daemonsheet$Table", "arrange", "()V"⟩, 9), (⟨"Daemonsheet$Table", "changeService", "(LDaemonsheet$Step;)V"⟩, 9), (⟨"Daemonsheet$Table", "forgetChanges", "()V"⟩, 9), (⟨"Daemonsheet$Table", "workOutDirtyCells", "()V"⟩, 9), (⟨"Daemonsheet$Table", "valueNamed", "(II)I"⟩, 9), (⟨"Daemonsheet$Table", "cellValue", "(II)I"⟩, 9), (⟨"Daemonsheet$Table", "lookAtServices", "(I)Z"⟩, 9), (⟨"Daemonsheet$Table", "nextState", "(LDaemonsheet$Service;)I"⟩, 9), (⟨"Daemonsheet$Table", "isWanted", "(LDaemonsheet$Service;)Z"⟩, 9), (⟨"Daemonsheet$Table", "loadRunning", "(LDaemonsheet$Service;)I"⟩, 9), (⟨"Daemonsheet$Table", "setTold", "(LDaemonsheet$Service;I)V"⟩, 9), (⟨"Daemonsheet$Table", "cutLowestOfLateChanges", "()V"⟩, 9), (⟨"Daemonsheet$Table", "isStartDue", "()Z"⟩, 9), (⟨"Daemonsheet", "tellAnew", "(LDaemonsheet$Table;)V"⟩, 7), (⟨"Daemonsheet", "tellReadingsOfTick", "(LDaemonsheet$Table;)V"⟩, 7)]
theorem lw_r2 : ∀ q ∈ lw_privs_2, lw_okq q := List.forall_mem_cons.mpr ⟨lw_p16, List.forall_mem_cons.mpr ⟨lw_p17, List.forall_mem_cons.mpr ⟨lw_p18, List.forall_mem_cons.mpr ⟨lw_p19, List.forall_mem_cons.mpr ⟨lw_p20, List.forall_mem_cons.mpr ⟨lw_p21, List.forall_mem_cons.mpr ⟨lw_p22, List.forall_mem_cons.mpr ⟨lw_p23, List.forall_mem_cons.mpr ⟨lw_p24, List.forall_mem_cons.mpr ⟨lw_p25, List.forall_mem_cons.mpr ⟨lw_p26, List.forall_mem_cons.mpr ⟨lw_p27, List.forall_mem_cons.mpr ⟨lw_p28, List.forall_mem_cons.mpr ⟨lw_p29, List.forall_mem_cons.mpr ⟨lw_p30, List.forall_mem_cons.mpr ⟨lw_p31, fun _ h => absurd h List.not_mem_nil⟩⟩⟩⟩⟩⟩⟩⟩⟩⟩⟩⟩⟩⟩⟩⟩
theorem lw_p32 : lw_okq (⟨"Daemonsheet$Table", "servicesUnder", "(LDaemonsheet$Service;)I"⟩, 9) := ⟨⟨by decide +kernel, by decide +kernel⟩, List.mem_of_getElem? (i := 76) (by decide +kernel), List.mem_of_getElem? (i := 951) (by decide +kernel), List.mem_of_getElem? (i := 952) (by decide +kernel)⟩
theorem lw_p33 : lw_okq (⟨"DaemonsheetModel", "begins", "()V"⟩, 46) := ⟨⟨by decide +kernel, by decide +kernel⟩, List.mem_of_getElem? (i := 956) (by decide +kernel), List.mem_of_getElem? (i := 962) (by decide +kernel), List.mem_of_getElem? (i := 963) (by decide +kernel)⟩
theorem lw_p34 : lw_okq (⟨"DaemonsheetModel", "clears", "()V"⟩, 46) := ⟨⟨by decide +kernel, by decide +kernel⟩, List.mem_of_getElem? (i := 956) (by decide +kernel), List.mem_of_getElem? (i := 966) (by decide +kernel), List.mem_of_getElem? (i := 967) (by decide +kernel)⟩
theorem lw_p35 : lw_okq (⟨"DaemonsheetModel", "goes", "(ZZZ)Z"⟩, 46) := ⟨⟨by decide +kernel, by decide +kernel⟩, List.mem_of_getElem? (i := 956) (by decide +kernel), List.mem_of_getElem? (i := 1131) (by decide +kernel), List.mem_of_getElem? (i := 1132) (by decide +kernel)⟩
theorem lw_p36 : lw_okq (⟨"DaemonsheetModel", "faultOf", "()I"⟩, 46) := ⟨⟨by decide +kernel, by decide +kernel⟩, List.mem_of_getElem? (i := 956) (by decide +kernel), List.mem_of_getElem? (i := 1143) (by decide +kernel), List.mem_of_getElem? (i := 1144) (by decide +kernel)⟩
theorem lw_p37 : lw_okq (⟨"DaemonsheetModel", "takesNumber", "(I)I"⟩, 46) := ⟨⟨by decide +kernel, by decide +kernel⟩, List.mem_of_getElem? (i := 956) (by decide +kernel), List.mem_of_getElem? (i := 1147) (by decide +kernel), List.mem_of_getElem? (i := 1148) (by decide +kernel)⟩
theorem lw_p38 : lw_okq (⟨"DaemonsheetModel", "makes", "(I)V"⟩, 46) := ⟨⟨by decide +kernel, by decide +kernel⟩, List.mem_of_getElem? (i := 956) (by decide +kernel), List.mem_of_getElem? (i := 1151) (by decide +kernel), List.mem_of_getElem? (i := 1152) (by decide +kernel)⟩
theorem lw_p39 : lw_okq (⟨"DaemonsheetModel", "takesName", "(I)I"⟩, 46) := ⟨⟨by decide +kernel, by decide +kernel⟩, List.mem_of_getElem? (i := 956) (by decide +kernel), List.mem_of_getElem? (i := 1155) (by decide +kernel), List.mem_of_getElem? (i := 1156) (by decide +kernel)⟩
theorem lw_p40 : lw_okq (⟨"DaemonsheetModel", "opensOne", "(I)V"⟩, 46) := ⟨⟨by decide +kernel, by decide +kernel⟩, List.mem_of_getElem? (i := 956) (by decide +kernel), List.mem_of_getElem? (i := 1159) (by decide +kernel), List.mem_of_getElem? (i := 1160) (by decide +kernel)⟩
theorem lw_p41 : lw_okq (⟨"DaemonsheetModel", "closes", "(I)V"⟩, 46) := ⟨⟨by decide +kernel, by decide +kernel⟩, List.mem_of_getElem? (i := 956) (by decide +kernel), List.mem_of_getElem? (i := 1166) (by decide +kernel), List.mem_of_getElem? (i := 1167) (by decide +kernel)⟩
theorem lw_p42 : lw_okq (⟨"DaemonsheetModel", "wouldHang", "(I)Z"⟩, 46) := ⟨⟨by decide +kernel, by decide +kernel⟩, List.mem_of_getElem? (i := 956) (by decide +kernel), List.mem_of_getElem? (i := 1180) (by decide +kernel), List.mem_of_getElem? (i := 1181) (by decide +kernel)⟩
theorem lw_p43 : lw_okq (⟨"DaemonsheetModel", "below", "(IZ)I"⟩, 46) := ⟨⟨by decide +kernel, by decide +kernel⟩, List.mem_of_getElem? (i := 956) (by decide +kernel), List.mem_of_getElem? (i := 1187) (by decide +kernel), List.mem_of_getElem? (i := 1188) (by decide +kernel)⟩
theorem lw_p44 : lw_okq (⟨"DaemonsheetModel", "hasRoom", "()Z"⟩, 46) := ⟨⟨by decide +kernel, by decide +kernel⟩, List.mem_of_getElem? (i := 956) (by decide +kernel), List.mem_of_getElem? (i := 1194) (by decide +kernel), List.mem_of_getElem? (i := 1195) (by decide +kernel)⟩
theorem lw_p45 : lw_okq (⟨"DaemonsheetModel", "keeps", "(IIII)I"⟩, 46) := ⟨⟨by decide +kernel, by decide +kernel⟩, List.mem_of_getElem? (i := 956) (by decide +kernel), List.mem_of_getElem? (i := 1198) (by decide +kernel), List.mem_of_getElem? (i := 1199) (by decide +kernel)⟩
theorem lw_p46 : lw_okq (⟨"DaemonsheetModel", "does", "(I)I"⟩, 46) := ⟨⟨by decide +kernel, by decide +kernel⟩, List.mem_of_getElem? (i := 956) (by decide +kernel), List.mem_of_getElem? (i := 1202) (by decide +kernel), List.mem_of_getElem? (i := 1203) (by decide +kernel)⟩
theorem lw_p47 : lw_okq (⟨"DaemonsheetModel", "settles", "()I"⟩, 46) := ⟨⟨by decide +kernel, by decide +kernel⟩, List.mem_of_getElem? (i := 956) (by decide +kernel), List.mem_of_getElem? (i := 1206) (by decide +kernel), List.mem_of_getElem? (i := 1207) (by decide +kernel)⟩
def lw_privs_3 : List (MethodName × Nat) := [(⟨"Daemonsheet$Table", "servicesUnder", "(LDaemonsheet$Service;)I"⟩, 9), (⟨"DaemonsheetModel", "begins", "()V"⟩, 46), (⟨"DaemonsheetModel", "clears", "()V"⟩, 46), (⟨"DaemonsheetModel", "goes", "(ZZZ)Z"⟩, 46), (⟨"DaemonsheetModel", "faultOf", "()I"⟩, 46), (⟨"DaemonsheetModel", "takesNumber", "(I)I"⟩, 46), (⟨"DaemonsheetModel", "makes", "(I)V"⟩, 46), (⟨"DaemonsheetModel", "takesName", "(I)I"⟩, 46), (⟨"DaemonsheetModel", "opensOne", "(I)V"⟩, 46), (⟨"DaemonsheetModel", "closes", "(I)V"⟩, 46), (⟨"DaemonsheetModel", "wouldHang", "(I)Z"⟩, 46), (⟨"DaemonsheetModel", "below", "(IZ)I"⟩, 46), (⟨"DaemonsheetModel", "hasRoom", "()Z"⟩, 46), (⟨"DaemonsheetModel", "keeps", "(IIII)I"⟩, 46), (⟨"DaemonsheetModel", "does", "(I)I"⟩, 46), (⟨"DaemonsheetModel", "settles", "()I"⟩, 46)]
theorem lw_r3 : ∀ q ∈ lw_privs_3, lw_okq q := List.forall_mem_cons.mpr ⟨lw_p32, List.forall_mem_cons.mpr ⟨lw_p33, List.forall_mem_cons.mpr ⟨lw_p34, List.forall_mem_cons.mpr ⟨lw_p35, List.forall_mem_cons.mpr ⟨lw_p36, List.forall_mem_cons.mpr ⟨lw_p37, List.forall_mem_cons.mpr ⟨lw_p38, List.forall_mem_cons.mpr ⟨lw_p39, List.forall_mem_cons.mpr ⟨lw_p40, List.forall_mem_cons.mpr ⟨lw_p41, List.forall_mem_cons.mpr ⟨lw_p42, List.forall_mem_cons.mpr ⟨lw_p43, List.forall_mem_cons.mpr ⟨lw_p44, List.forall_mem_cons.mpr ⟨lw_p45, List.forall_mem_cons.mpr ⟨lw_p46, List.forall_mem_cons.mpr ⟨lw_p47, fun _ h => absurd h List.not_mem_nil⟩⟩⟩⟩⟩⟩⟩⟩⟩⟩⟩⟩⟩⟩⟩⟩
theorem lw_p48 : lw_okq (⟨"DaemonsheetModel", "round", "()I"⟩, 46) := ⟨⟨by decide +kernel, by decide +kernel⟩, List.mem_of_getElem? (i := 956) (by decide +kernel), List.mem_of_getElem? (i := 1210) (by decide +kernel), List.mem_of_getElem? (i := 1211) (by decide +kernel)⟩
theorem lw_p49 : lw_okq (⟨"DaemonsheetModel", "worksOut", "()V"⟩, 46) := ⟨⟨by decide +kernel, by decide +kernel⟩, List.mem_of_getElem? (i := 956) (by decide +kernel), List.mem_of_getElem? (i := 1214) (by decide +kernel), List.mem_of_getElem? (i := 1215) (by decide +kernel)⟩
theorem lw_p50 : lw_okq (⟨"DaemonsheetModel", "nextDirty", "()I"⟩, 46) := ⟨⟨by decide +kernel, by decide +kernel⟩, List.mem_of_getElem? (i := 956) (by decide +kernel), List.mem_of_getElem? (i := 1218) (by decide +kernel), List.mem_of_getElem? (i := 1219) (by decide +kernel)⟩
theorem lw_p51 : lw_okq (⟨"DaemonsheetModel", "worthOf", "(I)I"⟩, 46) := ⟨⟨by decide +kernel, by decide +kernel⟩, List.mem_of_getElem? (i := 956) (by decide +kernel), List.mem_of_getElem? (i := 1222) (by decide +kernel), List.mem_of_getElem? (i := 1223) (by decide +kernel)⟩
theorem lw_p52 : lw_okq (⟨"DaemonsheetModel", "deeds", "(I)V"⟩, 46) := ⟨⟨by decide +kernel, by decide +kernel⟩, List.mem_of_getElem? (i := 956) (by decide +kernel), List.mem_of_getElem? (i := 1226) (by decide +kernel), List.mem_of_getElem? (i := 1227) (by decide +kernel)⟩
theorem lw_p53 : lw_okq (⟨"DaemonsheetModel", "becomes", "(II)V"⟩, 46) := ⟨⟨by decide +kernel, by decide +kernel⟩, List.mem_of_getElem? (i := 956) (by decide +kernel), List.mem_of_getElem? (i := 1235) (by decide +kernel), List.mem_of_getElem? (i := 1236) (by decide +kernel)⟩
theorem lw_p54 : lw_okq (⟨"DaemonsheetModel", "soils", "([II)V"⟩, 46) := ⟨⟨by decide +kernel, by decide +kernel⟩, List.mem_of_getElem? (i := 956) (by decide +kernel), List.mem_of_getElem? (i := 1239) (by decide +kernel), List.mem_of_getElem? (i := 1240) (by decide +kernel)⟩
theorem lw_p55 : lw_okq (⟨"DaemonsheetModel", "changes", "(I)V"⟩, 46) := ⟨⟨by decide +kernel, by decide +kernel⟩, List.mem_of_getElem? (i := 956) (by decide +kernel), List.mem_of_getElem? (i := 1243) (by decide +kernel), List.mem_of_getElem? (i := 1244) (by decide +kernel)⟩
theorem lw_p56 : lw_okq (⟨"DaemonsheetModel", "isWanted", "(I)Z"⟩, 46) := ⟨⟨by decide +kernel, by decide +kernel⟩, List.mem_of_getElem? (i := 956) (by decide +kernel), List.mem_of_getElem? (i := 1247) (by decide +kernel), List.mem_of_getElem? (i := 1248) (by decide +kernel)⟩
theorem lw_p57 : lw_okq (⟨"DaemonsheetModel", "stale", "(I)Z"⟩, 46) := ⟨⟨by decide +kernel, by decide +kernel⟩, List.mem_of_getElem? (i := 956) (by decide +kernel), List.mem_of_getElem? (i := 1251) (by decide +kernel), List.mem_of_getElem? (i := 1252) (by decide +kernel)⟩
theorem lw_p58 : lw_okq (⟨"DaemonsheetModel", "isOld", "(I)Z"⟩, 46) := ⟨⟨by decide +kernel, by decide +kernel⟩, List.mem_of_getElem? (i := 956) (by decide +kernel), List.mem_of_getElem? (i := 1255) (by decide +kernel), List.mem_of_getElem? (i := 1256) (by decide +kernel)⟩
theorem lw_p59 : lw_okq (⟨"DaemonsheetModel", "runs", "(I)V"⟩, 46) := ⟨⟨by decide +kernel, by decide +kernel⟩, List.mem_of_getElem? (i := 956) (by decide +kernel), List.mem_of_getElem? (i := 1259) (by decide +kernel), List.mem_of_getElem? (i := 1260) (by decide +kernel)⟩
theorem lw_p60 : lw_okq (⟨"DaemonsheetModel", "loadOf", "(I)I"⟩, 46) := ⟨⟨by decide +kernel, by decide +kernel⟩, List.mem_of_getElem? (i := 956) (by decide +kernel), List.mem_of_getElem? (i := 1263) (by decide +kernel), List.mem_of_getElem? (i := 1264) (by decide +kernel)⟩
theorem lw_p61 : lw_okq (⟨"DaemonsheetModel", "tells", "(II)V"⟩, 46) := ⟨⟨by decide +kernel, by decide +kernel⟩, List.mem_of_getElem? (i := 956) (by decide +kernel), List.mem_of_getElem? (i := 1267) (by decide +kernel), List.mem_of_getElem? (i := 1268) (by decide +kernel)⟩
theorem lw_p62 : lw_okq (⟨"DaemonsheetModel", "setsCell", "(I)V"⟩, 46) := ⟨⟨by decide +kernel, by decide +kernel⟩, List.mem_of_getElem? (i := 956) (by decide +kernel), List.mem_of_getElem? (i := 1271) (by decide +kernel), List.mem_of_getElem? (i := 1272) (by decide +kernel)⟩
theorem lw_p63 : lw_okq (⟨"DaemonsheetModel", "gives", "(II)V"⟩, 46) := ⟨⟨by decide +kernel, by decide +kernel⟩, List.mem_of_getElem? (i := 956) (by decide +kernel), List.mem_of_getElem? (i := 1275) (by decide +kernel), List.mem_of_getElem? (i := 1276) (by decide +kernel)⟩
def lw_privs_4 : List (MethodName × Nat) := [(⟨"DaemonsheetModel", "round", "()I"⟩, 46), (⟨"DaemonsheetModel", "worksOut", "()V"⟩, 46), (⟨"DaemonsheetModel", "nextDirty", "()I"⟩, 46), (⟨"DaemonsheetModel", "worthOf", "(I)I"⟩, 46), (⟨"DaemonsheetModel", "deeds", "(I)V"⟩, 46), (⟨"DaemonsheetModel", "becomes", "(II)V"⟩, 46), (⟨"DaemonsheetModel", "soils", "([II)V"⟩, 46), (⟨"DaemonsheetModel", "changes", "(I)V"⟩, 46), (⟨"DaemonsheetModel", "isWanted", "(I)Z"⟩, 46), (⟨"DaemonsheetModel", "stale", "(I)Z"⟩, 46), (⟨"DaemonsheetModel", "isOld", "(I)Z"⟩, 46), (⟨"DaemonsheetModel", "runs", "(I)V"⟩, 46), (⟨"DaemonsheetModel", "loadOf", "(I)I"⟩, 46), (⟨"DaemonsheetModel", "tells", "(II)V"⟩, 46), (⟨"DaemonsheetModel", "setsCell", "(I)V"⟩, 46), (⟨"DaemonsheetModel", "gives", "(II)V"⟩, 46)]
theorem lw_r4 : ∀ q ∈ lw_privs_4, lw_okq q := List.forall_mem_cons.mpr ⟨lw_p48, List.forall_mem_cons.mpr ⟨lw_p49, List.forall_mem_cons.mpr ⟨lw_p50, List.forall_mem_cons.mpr ⟨lw_p51, List.forall_mem_cons.mpr ⟨lw_p52, List.forall_mem_cons.mpr ⟨lw_p53, List.forall_mem_cons.mpr ⟨lw_p54, List.forall_mem_cons.mpr ⟨lw_p55, List.forall_mem_cons.mpr ⟨lw_p56, List.forall_mem_cons.mpr ⟨lw_p57, List.forall_mem_cons.mpr ⟨lw_p58, List.forall_mem_cons.mpr ⟨lw_p59, List.forall_mem_cons.mpr ⟨lw_p60, List.forall_mem_cons.mpr ⟨lw_p61, List.forall_mem_cons.mpr ⟨lw_p62, List.forall_mem_cons.mpr ⟨lw_p63, fun _ h => absurd h List.not_mem_nil⟩⟩⟩⟩⟩⟩⟩⟩⟩⟩⟩⟩⟩⟩⟩⟩
theorem lw_p64 : lw_okq (⟨"DaemonsheetModel", "deepens", "()V"⟩, 46) := ⟨⟨by decide +kernel, by decide +kernel⟩, List.mem_of_getElem? (i := 956) (by decide +kernel), List.mem_of_getElem? (i := 1279) (by decide +kernel), List.mem_of_getElem? (i := 1280) (by decide +kernel)⟩
theorem lw_p65 : lw_okq (⟨"DaemonsheetModel", "reads", "(I)V"⟩, 46) := ⟨⟨by decide +kernel, by decide +kernel⟩, List.mem_of_getElem? (i := 956) (by decide +kernel), List.mem_of_getElem? (i := 1283) (by decide +kernel), List.mem_of_getElem? (i := 1284) (by decide +kernel)⟩
theorem lw_p66 : lw_okq (⟨"DaemonsheetModel", "setsService", "(I)V"⟩, 46) := ⟨⟨by decide +kernel, by decide +kernel⟩, List.mem_of_getElem? (i := 956) (by decide +kernel), List.mem_of_getElem? (i := 1287) (by decide +kernel), List.mem_of_getElem? (i := 1288) (by decide +kernel)⟩
theorem lw_p67 : lw_okq (⟨"DaemonsheetModel", "replays", "()V"⟩, 46) := ⟨⟨by decide +kernel, by decide +kernel⟩, List.mem_of_getElem? (i := 956) (by decide +kernel), List.mem_of_getElem? (i := 1338) (by decide +kernel), List.mem_of_getElem? (i := 1339) (by decide +kernel)⟩
theorem lw_p68 : lw_okq (⟨"DaemonsheetModel", "readsAll", "()V"⟩, 46) := ⟨⟨by decide +kernel, by decide +kernel⟩, List.mem_of_getElem? (i := 956) (by decide +kernel), List.mem_of_getElem? (i := 1395) (by decide +kernel), List.mem_of_getElem? (i := 1396) (by decide +kernel)⟩
theorem lw_p69 : lw_okq (⟨"DaemonsheetModel", "hangsOn", "(I)I"⟩, 46) := ⟨⟨by decide +kernel, by decide +kernel⟩, List.mem_of_getElem? (i := 956) (by decide +kernel), List.mem_of_getElem? (i := 1403) (by decide +kernel), List.mem_of_getElem? (i := 1404) (by decide +kernel)⟩
def lw_privs_5 : List (MethodName × Nat) := [(⟨"DaemonsheetModel", "deepens", "()V"⟩, 46), (⟨"DaemonsheetModel", "reads", "(I)V"⟩, 46), (⟨"DaemonsheetModel", "setsService", "(I)V"⟩, 46), (⟨"DaemonsheetModel", "replays", "()V"⟩, 46), (⟨"DaemonsheetModel", "readsAll", "()V"⟩, 46), (⟨"DaemonsheetModel", "hangsOn", "(I)I"⟩, 46)]
theorem lw_r5 : ∀ q ∈ lw_privs_5, lw_okq q := List.forall_mem_cons.mpr ⟨lw_p64, List.forall_mem_cons.mpr ⟨lw_p65, List.forall_mem_cons.mpr ⟨lw_p66, List.forall_mem_cons.mpr ⟨lw_p67, List.forall_mem_cons.mpr ⟨lw_p68, List.forall_mem_cons.mpr ⟨lw_p69, fun _ h => absurd h List.not_mem_nil⟩⟩⟩⟩⟩⟩
def lw_privs : List (MethodName × Nat) := lw_privs_1 ++ (lw_privs_2 ++ (lw_privs_3 ++ (lw_privs_4 ++ (lw_privs_5))))
def lw_tbl : List Cond := k2_sels lw_privs ++ tables_1
theorem lw_privs_ok : ∀ q ∈ lw_privs, lw_okq q := by
  show ∀ q ∈ lw_privs_1 ++ (lw_privs_2 ++ (lw_privs_3 ++ (lw_privs_4 ++ (lw_privs_5)))), lw_okq q
  exact List.forall_mem_append.mpr ⟨lw_r1, List.forall_mem_append.mpr ⟨lw_r2, List.forall_mem_append.mpr ⟨lw_r3, List.forall_mem_append.mpr ⟨lw_r4, lw_r5⟩⟩⟩⟩

def RX0 : String := "Daemonsheet$Cell"
def TX0 : u_T := fun k => match k with
  | 0 => ("Daemonsheet$Cell", "number", "I", true)
  | 1 => ("Daemonsheet$Cell", "formula", "LDaemonsheet$Formula;", false)
  | 2 => ("Daemonsheet$Cell", "value", "I", false)
  | 3 => ("Daemonsheet$Cell", "depth", "I", false)
  | _ => ("Daemonsheet$Cell", "held", "Z", false)
def tyX0 : Nat → FieldType := fun k => match k with
  | 0 => .int
  | 1 => .object "Daemonsheet$Formula"
  | 2 => .int
  | 3 => .int
  | _ => .boolean
theorem nmX0 : ∀ a, a < 5 → ∀ b, b < 5 → a ≠ b → (TX0 a).2.1 ≠ (TX0 b).2.1 := by decide +kernel
theorem tyX0_ok : ∀ k, k < 5 → parseFieldDescriptor (TX0 k).2.2.1 = some (tyX0 k) := by decide +kernel
abbrev cX0_init : ByteArray := prog_2_method_1_code
def yX0_init : MethodName := ⟨RX0, "<init>", "(ILDaemonsheet$Formula;)V"⟩
def RX1 : String := "Daemonsheet$Formula"
def TX1 : u_T := fun k => match k with
  | 0 => ("Daemonsheet$Formula", "code", "[I", true)
  | _ => ("Daemonsheet$Formula", "reads", "I", true)
def tyX1 : Nat → FieldType := fun k => match k with
  | 0 => .array .int
  | _ => .int
theorem nmX1 : ∀ a, a < 2 → ∀ b, b < 2 → a ≠ b → (TX1 a).2.1 ≠ (TX1 b).2.1 := by decide +kernel
theorem tyX1_ok : ∀ k, k < 2 → parseFieldDescriptor (TX1 k).2.2.1 = some (tyX1 k) := by decide +kernel
abbrev cX1_init : ByteArray := prog_3_method_1_code
def yX1_init : MethodName := ⟨RX1, "<init>", "([II)V"⟩
def RX2 : String := "Daemonsheet$Parser"
def TX2 : u_T := fun k => match k with
  | 0 => ("Daemonsheet$Parser", "text", "LDaemonsheet$Text;", true)
  | 1 => ("Daemonsheet$Parser", "code", "[I", true)
  | 2 => ("Daemonsheet$Parser", "size", "I", false)
  | 3 => ("Daemonsheet$Parser", "reads", "I", false)
  | 4 => ("Daemonsheet$Parser", "place", "I", false)
  | _ => ("Daemonsheet$Parser", "stuck", "Z", false)
def tyX2 : Nat → FieldType := fun k => match k with
  | 0 => .object "Daemonsheet$Text"
  | 1 => .array .int
  | 2 => .int
  | 3 => .int
  | 4 => .int
  | _ => .boolean
theorem nmX2 : ∀ a, a < 6 → ∀ b, b < 6 → a ≠ b → (TX2 a).2.1 ≠ (TX2 b).2.1 := by decide +kernel
theorem tyX2_ok : ∀ k, k < 6 → parseFieldDescriptor (TX2 k).2.2.1 = some (tyX2 k) := by decide +kernel
abbrev cX2_init : ByteArray := prog_4_method_1_code
def yX2_init : MethodName := ⟨RX2, "<init>", "(LDaemonsheet$Text;)V"⟩
abbrev cX2_findFault : ByteArray := prog_4_method_2_code
def yX2_findFault : MethodName := ⟨RX2, "findFault", "()I"⟩
abbrev cX2_makeFormula : ByteArray := prog_4_method_3_code
def yX2_makeFormula : MethodName := ⟨RX2, "makeFormula", "()LDaemonsheet$Formula;"⟩
abbrev cX2_passFormula : ByteArray := prog_4_method_4_code
def yX2_passFormula : MethodName := ⟨RX2, "passFormula", "(I)V"⟩
abbrev cX2_comparisonOf : ByteArray := prog_4_method_5_code
def yX2_comparisonOf : MethodName := ⟨RX2, "comparisonOf", "(C)I"⟩
abbrev cX2_passSum : ByteArray := prog_4_method_6_code
def yX2_passSum : MethodName := ⟨RX2, "passSum", "(I)V"⟩
abbrev cX2_passProduct : ByteArray := prog_4_method_7_code
def yX2_passProduct : MethodName := ⟨RX2, "passProduct", "(I)V"⟩
abbrev cX2_passPart : ByteArray := prog_4_method_8_code
def yX2_passPart : MethodName := ⟨RX2, "passPart", "(I)V"⟩
abbrev cX2_passNumber : ByteArray := prog_4_method_9_code
def yX2_passNumber : MethodName := ⟨RX2, "passNumber", "()V"⟩
abbrev cX2_passName : ByteArray := prog_4_method_10_code
def yX2_passName : MethodName := ⟨RX2, "passName", "(III)V"⟩
abbrev cX2_figureAt : ByteArray := prog_4_method_11_code
def yX2_figureAt : MethodName := ⟨RX2, "figureAt", "(I)I"⟩
abbrev cX2_passBrackets : ByteArray := prog_4_method_12_code
def yX2_passBrackets : MethodName := ⟨RX2, "passBrackets", "(II)V"⟩
abbrev cX2_passSign : ByteArray := prog_4_method_13_code
def yX2_passSign : MethodName := ⟨RX2, "passSign", "(C)V"⟩
abbrev cX2_write : ByteArray := prog_4_method_14_code
def yX2_write : MethodName := ⟨RX2, "write", "(II)V"⟩
def RX3 : String := "Daemonsheet$Reading"
def TX3 : u_T := fun k => match k with
  | 0 => ("Daemonsheet$Reading", "value", "I", false)
  | _ => ("Daemonsheet$Reading", "tick", "I", false)
def tyX3 : Nat → FieldType := fun k => match k with
  | 0 => .int
  | _ => .int
theorem nmX3 : ∀ a, a < 2 → ∀ b, b < 2 → a ≠ b → (TX3 a).2.1 ≠ (TX3 b).2.1 := by decide +kernel
theorem tyX3_ok : ∀ k, k < 2 → parseFieldDescriptor (TX3 k).2.2.1 = some (tyX3 k) := by decide +kernel
abbrev cX3_init : ByteArray := prog_5_method_1_code
def yX3_init : MethodName := ⟨RX3, "<init>", "()V"⟩
abbrev cX3_isFresh : ByteArray := prog_5_method_2_code
def yX3_isFresh : MethodName := ⟨RX3, "isFresh", "(I)Z"⟩
def RX4 : String := "Daemonsheet$Service"
def TX4 : u_T := fun k => match k with
  | 0 => ("Daemonsheet$Service", "number", "I", true)
  | 1 => ("Daemonsheet$Service", "state", "I", false)
  | 2 => ("Daemonsheet$Service", "control", "I", false)
  | 3 => ("Daemonsheet$Service", "limit", "I", false)
  | 4 => ("Daemonsheet$Service", "needs", "I", false)
  | 5 => ("Daemonsheet$Service", "demand", "I", false)
  | 6 => ("Daemonsheet$Service", "delay", "I", false)
  | 7 => ("Daemonsheet$Service", "lie", "I", false)
  | 8 => ("Daemonsheet$Service", "load", "I", false)
  | 9 => ("Daemonsheet$Service", "told", "I", false)
  | 10 => ("Daemonsheet$Service", "starts", "I", false)
  | 11 => ("Daemonsheet$Service", "startTick", "I", false)
  | 12 => ("Daemonsheet$Service", "startDelay", "I", false)
  | _ => ("Daemonsheet$Service", "changedIn", "I", false)
def tyX4 : Nat → FieldType := fun k => match k with
  | 0 => .int
  | 1 => .int
  | 2 => .int
  | 3 => .int
  | 4 => .int
  | 5 => .int
  | 6 => .int
  | 7 => .int
  | 8 => .int
  | 9 => .int
  | 10 => .int
  | 11 => .int
  | 12 => .int
  | _ => .int
theorem nmX4 : ∀ a, a < 14 → ∀ b, b < 14 → a ≠ b → (TX4 a).2.1 ≠ (TX4 b).2.1 := by decide +kernel
theorem tyX4_ok : ∀ k, k < 14 → parseFieldDescriptor (TX4 k).2.2.1 = some (tyX4 k) := by decide +kernel
abbrev cX4_init : ByteArray := prog_6_method_1_code
def yX4_init : MethodName := ⟨RX4, "<init>", "(I)V"⟩
abbrev cX4_clear : ByteArray := prog_6_method_2_code
def yX4_clear : MethodName := ⟨RX4, "clear", "()V"⟩
abbrev cX4_takeSettings : ByteArray := prog_6_method_3_code
def yX4_takeSettings : MethodName := ⟨RX4, "takeSettings", "(LDaemonsheet$Service;)V"⟩
abbrev cX4_isDue : ByteArray := prog_6_method_4_code
def yX4_isDue : MethodName := ⟨RX4, "isDue", "(I)Z"⟩
abbrev cX4_enter : ByteArray := prog_6_method_5_code
def yX4_enter : MethodName := ⟨RX4, "enter", "(II)V"⟩
def RX5 : String := "Daemonsheet$Step"
def TX5 : u_T := fun k => match k with
  | 0 => ("Daemonsheet$Step", "kind", "I", true)
  | 1 => ("Daemonsheet$Step", "first", "I", true)
  | 2 => ("Daemonsheet$Step", "second", "I", true)
  | 3 => ("Daemonsheet$Step", "third", "I", true)
  | 4 => ("Daemonsheet$Step", "formula", "LDaemonsheet$Formula;", true)
  | _ => ("Daemonsheet$Step", "tick", "I", true)
def tyX5 : Nat → FieldType := fun k => match k with
  | 0 => .int
  | 1 => .int
  | 2 => .int
  | 3 => .int
  | 4 => .object "Daemonsheet$Formula"
  | _ => .int
theorem nmX5 : ∀ a, a < 6 → ∀ b, b < 6 → a ≠ b → (TX5 a).2.1 ≠ (TX5 b).2.1 := by decide +kernel
theorem tyX5_ok : ∀ k, k < 6 → parseFieldDescriptor (TX5 k).2.2.1 = some (tyX5 k) := by decide +kernel
abbrev cX5_init : ByteArray := prog_7_method_1_code
def yX5_init : MethodName := ⟨RX5, "<init>", "(IIIILDaemonsheet$Formula;I)V"⟩
def RX6 : String := "Daemonsheet$Table"
def TX6 : u_T := fun k => match k with
  | 0 => ("Daemonsheet$Table", "zero", "LDaemonsheet$Formula;", true)
  | 1 => ("Daemonsheet$Table", "cells", "[LDaemonsheet$Cell;", true)
  | 2 => ("Daemonsheet$Table", "order", "[LDaemonsheet$Cell;", true)
  | 3 => ("Daemonsheet$Table", "readings", "[LDaemonsheet$Reading;", true)
  | 4 => ("Daemonsheet$Table", "services", "[LDaemonsheet$Service;", true)
  | 5 => ("Daemonsheet$Table", "row", "[I", true)
  | 6 => ("Daemonsheet$Table", "dirty", "I", false)
  | 7 => ("Daemonsheet$Table", "now", "I", false)
  | _ => ("Daemonsheet$Table", "work", "I", false)
def tyX6 : Nat → FieldType := fun k => match k with
  | 0 => .object "Daemonsheet$Formula"
  | 1 => .array (.object "Daemonsheet$Cell")
  | 2 => .array (.object "Daemonsheet$Cell")
  | 3 => .array (.object "Daemonsheet$Reading")
  | 4 => .array (.object "Daemonsheet$Service")
  | 5 => .array .int
  | 6 => .int
  | 7 => .int
  | _ => .int
theorem nmX6 : ∀ a, a < 9 → ∀ b, b < 9 → a ≠ b → (TX6 a).2.1 ≠ (TX6 b).2.1 := by decide +kernel
theorem tyX6_ok : ∀ k, k < 9 → parseFieldDescriptor (TX6 k).2.2.1 = some (tyX6 k) := by decide +kernel
abbrev cX6_init : ByteArray := prog_8_method_1_code
def yX6_init : MethodName := ⟨RX6, "<init>", "()V"⟩
abbrev cX6_clear : ByteArray := prog_8_method_2_code
def yX6_clear : MethodName := ⟨RX6, "clear", "()V"⟩
abbrev cX6_takeSettings : ByteArray := prog_8_method_3_code
def yX6_takeSettings : MethodName := ⟨RX6, "takeSettings", "(LDaemonsheet$Table;I)V"⟩
abbrev cX6_tell : ByteArray := prog_8_method_4_code
def yX6_tell : MethodName := ⟨RX6, "tell", "(LDaemonsheet$Step;)I"⟩
abbrev cX6_change : ByteArray := prog_8_method_5_code
def yX6_change : MethodName := ⟨RX6, "change", "(LDaemonsheet$Step;)V"⟩
abbrev cX6_isStartDue : ByteArray := prog_8_method_6_code
def yX6_isStartDue : MethodName := ⟨RX6, "isStartDue", "()Z"⟩
abbrev cX6_changeReading : ByteArray := prog_8_method_7_code
def yX6_changeReading : MethodName := ⟨RX6, "changeReading", "(LDaemonsheet$Step;)V"⟩
abbrev cX6_changeCell : ByteArray := prog_8_method_8_code
def yX6_changeCell : MethodName := ⟨RX6, "changeCell", "(LDaemonsheet$Step;)V"⟩
abbrev cX6_changeService : ByteArray := prog_8_method_9_code
def yX6_changeService : MethodName := ⟨RX6, "changeService", "(LDaemonsheet$Step;)V"⟩
abbrev cX6_settle : ByteArray := prog_8_method_10_code
def yX6_settle : MethodName := ⟨RX6, "settle", "()I"⟩
abbrev cX6_forgetChanges : ByteArray := prog_8_method_11_code
def yX6_forgetChanges : MethodName := ⟨RX6, "forgetChanges", "()V"⟩
abbrev cX6_cutLowestOfLateChanges : ByteArray := prog_8_method_12_code
def yX6_cutLowestOfLateChanges : MethodName := ⟨RX6, "cutLowestOfLateChanges", "()V"⟩
abbrev cX6_workOutDirtyCells : ByteArray := prog_8_method_13_code
def yX6_workOutDirtyCells : MethodName := ⟨RX6, "workOutDirtyCells", "()V"⟩
abbrev cX6_setValue : ByteArray := prog_8_method_14_code
def yX6_setValue : MethodName := ⟨RX6, "setValue", "(LDaemonsheet$Cell;I)V"⟩
abbrev cX6_setTold : ByteArray := prog_8_method_15_code
def yX6_setTold : MethodName := ⟨RX6, "setTold", "(LDaemonsheet$Service;I)V"⟩
abbrev cX6_soilReaders : ByteArray := prog_8_method_16_code
def yX6_soilReaders : MethodName := ⟨RX6, "soilReaders", "(I)V"⟩
abbrev cX6_lookAtServices : ByteArray := prog_8_method_17_code
def yX6_lookAtServices : MethodName := ⟨RX6, "lookAtServices", "(I)Z"⟩
abbrev cX6_nextState : ByteArray := prog_8_method_18_code
def yX6_nextState : MethodName := ⟨RX6, "nextState", "(LDaemonsheet$Service;)I"⟩
abbrev cX6_isWanted : ByteArray := prog_8_method_19_code
def yX6_isWanted : MethodName := ⟨RX6, "isWanted", "(LDaemonsheet$Service;)Z"⟩
abbrev cX6_loadRunning : ByteArray := prog_8_method_20_code
def yX6_loadRunning : MethodName := ⟨RX6, "loadRunning", "(LDaemonsheet$Service;)I"⟩
abbrev cX6_valueOf : ByteArray := prog_8_method_21_code
def yX6_valueOf : MethodName := ⟨RX6, "valueOf", "(LDaemonsheet$Formula;)I"⟩
abbrev cX6_valueNamed : ByteArray := prog_8_method_22_code
def yX6_valueNamed : MethodName := ⟨RX6, "valueNamed", "(II)I"⟩
abbrev cX6_cellValue : ByteArray := prog_8_method_23_code
def yX6_cellValue : MethodName := ⟨RX6, "cellValue", "(II)I"⟩
abbrev cX6_combine : ByteArray := prog_8_method_24_code
def yX6_combine : MethodName := ⟨RX6, "combine", "(IIII)J"⟩
abbrev cX6_arrange : ByteArray := prog_8_method_25_code
def yX6_arrange : MethodName := ⟨RX6, "arrange", "()V"⟩
abbrev cX6_withAllRead : ByteArray := prog_8_method_26_code
def yX6_withAllRead : MethodName := ⟨RX6, "withAllRead", "(I)I"⟩
abbrev cX6_findStale : ByteArray := prog_8_method_27_code
def yX6_findStale : MethodName := ⟨RX6, "findStale", "()I"⟩
abbrev cX6_hangsOnItself : ByteArray := prog_8_method_28_code
def yX6_hangsOnItself : MethodName := ⟨RX6, "hangsOnItself", "(I)Z"⟩
abbrev cX6_servicesUnder : ByteArray := prog_8_method_29_code
def yX6_servicesUnder : MethodName := ⟨RX6, "servicesUnder", "(LDaemonsheet$Service;)I"⟩
def RX7 : String := "Daemonsheet$Text"
def TX7 : u_T := fun k => match k with
  | 0 => ("Daemonsheet$Text", "letters", "[C", true)
  | _ => ("Daemonsheet$Text", "length", "I", false)
def tyX7 : Nat → FieldType := fun k => match k with
  | 0 => .array .char
  | _ => .int
theorem nmX7 : ∀ a, a < 2 → ∀ b, b < 2 → a ≠ b → (TX7 a).2.1 ≠ (TX7 b).2.1 := by decide +kernel
theorem tyX7_ok : ∀ k, k < 2 → parseFieldDescriptor (TX7 k).2.2.1 = some (tyX7 k) := by decide +kernel
abbrev cX7_init : ByteArray := prog_9_method_1_code
def yX7_init : MethodName := ⟨RX7, "<init>", "()V"⟩
abbrev cX7_isFull : ByteArray := prog_9_method_2_code
def yX7_isFull : MethodName := ⟨RX7, "isFull", "()Z"⟩
abbrev cX7_add : ByteArray := prog_9_method_3_code
def yX7_add : MethodName := ⟨RX7, "add", "(C)V"⟩
abbrev cX7_letterAt : ByteArray := prog_9_method_4_code
def yX7_letterAt : MethodName := ⟨RX7, "letterAt", "(I)C"⟩
def RX8 : String := "Daemonsheet"
def TX8 : u_T := fun k => match k with
  | 0 => ("Daemonsheet", "text", "LDaemonsheet$Text;", true)
  | 1 => ("Daemonsheet", "parser", "LDaemonsheet$Parser;", true)
  | 2 => ("Daemonsheet", "table", "LDaemonsheet$Table;", true)
  | 3 => ("Daemonsheet", "spare", "LDaemonsheet$Table;", true)
  | 4 => ("Daemonsheet", "kept", "[LDaemonsheet$Step;", true)
  | 5 => ("Daemonsheet", "keptCount", "I", false)
  | _ => ("Daemonsheet", "oneTick", "LDaemonsheet$Step;", true)
def tyX8 : Nat → FieldType := fun k => match k with
  | 0 => .object "Daemonsheet$Text"
  | 1 => .object "Daemonsheet$Parser"
  | 2 => .object "Daemonsheet$Table"
  | 3 => .object "Daemonsheet$Table"
  | 4 => .array (.object "Daemonsheet$Step")
  | 5 => .int
  | _ => .object "Daemonsheet$Step"
theorem nmX8 : ∀ a, a < 7 → ∀ b, b < 7 → a ≠ b → (TX8 a).2.1 ≠ (TX8 b).2.1 := by decide +kernel
theorem tyX8_ok : ∀ k, k < 7 → parseFieldDescriptor (TX8 k).2.2.1 = some (tyX8 k) := by decide +kernel
abbrev cX8_init : ByteArray := prog_1_method_1_code
def yX8_init : MethodName := ⟨RX8, "<init>", "()V"⟩
abbrev cX8_type : ByteArray := prog_1_method_2_code
def yX8_type : MethodName := ⟨RX8, "type", "(C)I"⟩
abbrev cX8_wipe : ByteArray := prog_1_method_3_code
def yX8_wipe : MethodName := ⟨RX8, "wipe", "()I"⟩
abbrev cX8_fault : ByteArray := prog_1_method_4_code
def yX8_fault : MethodName := ⟨RX8, "fault", "()I"⟩
abbrev cX8_formula : ByteArray := prog_1_method_5_code
def yX8_formula : MethodName := ⟨RX8, "formula", "(I)I"⟩
abbrev cX8_hold : ByteArray := prog_1_method_6_code
def yX8_hold : MethodName := ⟨RX8, "hold", "(II)I"⟩
abbrev cX8_release : ByteArray := prog_1_method_7_code
def yX8_release : MethodName := ⟨RX8, "release", "(I)I"⟩
abbrev cX8_read : ByteArray := prog_1_method_8_code
def yX8_read : MethodName := ⟨RX8, "read", "(II)I"⟩
abbrev cX8_control : ByteArray := prog_1_method_9_code
def yX8_control : MethodName := ⟨RX8, "control", "(II)I"⟩
abbrev cX8_limit : ByteArray := prog_1_method_10_code
def yX8_limit : MethodName := ⟨RX8, "limit", "(II)I"⟩
abbrev cX8_demand : ByteArray := prog_1_method_11_code
def yX8_demand : MethodName := ⟨RX8, "demand", "(III)I"⟩
abbrev cX8_need : ByteArray := prog_1_method_12_code
def yX8_need : MethodName := ⟨RX8, "need", "(IIZ)I"⟩
abbrev cX8_lie : ByteArray := prog_1_method_13_code
def yX8_lie : MethodName := ⟨RX8, "lie", "(II)I"⟩
abbrev cX8_mend : ByteArray := prog_1_method_14_code
def yX8_mend : MethodName := ⟨RX8, "mend", "(I)I"⟩
abbrev cX8_tick : ByteArray := prog_1_method_15_code
def yX8_tick : MethodName := ⟨RX8, "tick", "(I)I"⟩
abbrev cX8_undo : ByteArray := prog_1_method_16_code
def yX8_undo : MethodName := ⟨RX8, "undo", "()I"⟩
abbrev cX8_steps : ByteArray := prog_1_method_17_code
def yX8_steps : MethodName := ⟨RX8, "steps", "()I"⟩
abbrev cX8_now : ByteArray := prog_1_method_18_code
def yX8_now : MethodName := ⟨RX8, "now", "()I"⟩
abbrev cX8_value : ByteArray := prog_1_method_19_code
def yX8_value : MethodName := ⟨RX8, "value", "(I)I"⟩
abbrev cX8_valueAnew : ByteArray := prog_1_method_20_code
def yX8_valueAnew : MethodName := ⟨RX8, "valueAnew", "(I)I"⟩
abbrev cX8_worth : ByteArray := prog_1_method_21_code
def yX8_worth : MethodName := ⟨RX8, "worth", "(I)I"⟩
abbrev cX8_depth : ByteArray := prog_1_method_22_code
def yX8_depth : MethodName := ⟨RX8, "depth", "(I)I"⟩
abbrev cX8_isStale : ByteArray := prog_1_method_23_code
def yX8_isStale : MethodName := ⟨RX8, "isStale", "(I)Z"⟩
abbrev cX8_work : ByteArray := prog_1_method_24_code
def yX8_work : MethodName := ⟨RX8, "work", "()I"⟩
abbrev cX8_state : ByteArray := prog_1_method_25_code
def yX8_state : MethodName := ⟨RX8, "state", "(I)I"⟩
abbrev cX8_load : ByteArray := prog_1_method_26_code
def yX8_load : MethodName := ⟨RX8, "load", "(I)I"⟩
abbrev cX8_told : ByteArray := prog_1_method_27_code
def yX8_told : MethodName := ⟨RX8, "told", "(I)I"⟩
abbrev cX8_starts : ByteArray := prog_1_method_28_code
def yX8_starts : MethodName := ⟨RX8, "starts", "(I)I"⟩
abbrev cX8_trial : ByteArray := prog_1_method_29_code
def yX8_trial : MethodName := ⟨RX8, "trial", "(I)I"⟩
abbrev cX8_isLoop : ByteArray := prog_1_method_30_code
def yX8_isLoop : MethodName := ⟨RX8, "isLoop", "(I)Z"⟩
abbrev cX8_keep : ByteArray := prog_1_method_31_code
def yX8_keep : MethodName := ⟨RX8, "keep", "(IIIILDaemonsheet$Formula;)I"⟩
abbrev cX8_tellAnew : ByteArray := prog_1_method_32_code
def yX8_tellAnew : MethodName := ⟨RX8, "tellAnew", "(LDaemonsheet$Table;)V"⟩
abbrev cX8_tellReadingsOfTick : ByteArray := prog_1_method_33_code
def yX8_tellReadingsOfTick : MethodName := ⟨RX8, "tellReadingsOfTick", "(LDaemonsheet$Table;)V"⟩
abbrev cX8_checkPlace : ByteArray := prog_1_method_34_code
def yX8_checkPlace : MethodName := ⟨RX8, "checkPlace", "(II)V"⟩
abbrev cX8_checkCell : ByteArray := prog_1_method_35_code
def yX8_checkCell : MethodName := ⟨RX8, "checkCell", "(I)V"⟩
abbrev cX8_checkCellOrNone : ByteArray := prog_1_method_36_code
def yX8_checkCellOrNone : MethodName := ⟨RX8, "checkCellOrNone", "(I)V"⟩
abbrev cX8_checkService : ByteArray := prog_1_method_37_code
def yX8_checkService : MethodName := ⟨RX8, "checkService", "(I)V"⟩
abbrev cX8_checkNumber : ByteArray := prog_1_method_38_code
def yX8_checkNumber : MethodName := ⟨RX8, "checkNumber", "(III)V"⟩
abbrev cX8_isFigure : ByteArray := prog_1_method_39_code
def yX8_isFigure : MethodName := ⟨RX8, "isFigure", "(C)Z"⟩
abbrev cX8_bit : ByteArray := prog_1_method_40_code
def yX8_bit : MethodName := ⟨RX8, "bit", "(I)I"⟩
abbrev cX8_has : ByteArray := prog_1_method_41_code
def yX8_has : MethodName := ⟨RX8, "has", "(II)Z"⟩
abbrev cX8_within : ByteArray := prog_1_method_42_code
def yX8_within : MethodName := ⟨RX8, "within", "(J)I"⟩
def RX9 : String := "DaemonsheetModel"
def TX9 : u_T := fun k => match k with
  | 0 => ("DaemonsheetModel", "text", "[I", true)
  | 1 => ("DaemonsheetModel", "length", "I", false)
  | 2 => ("DaemonsheetModel", "made", "[I", true)
  | 3 => ("DaemonsheetModel", "madeLength", "I", false)
  | 4 => ("DaemonsheetModel", "open", "[I", true)
  | 5 => ("DaemonsheetModel", "opened", "I", false)
  | 6 => ("DaemonsheetModel", "hasCompared", "[Z", true)
  | 7 => ("DaemonsheetModel", "opens", "[I", true)
  | 8 => ("DaemonsheetModel", "args", "[I", true)
  | 9 => ("DaemonsheetModel", "code", "[I", true)
  | 10 => ("DaemonsheetModel", "codeLength", "[I", true)
  | 11 => ("DaemonsheetModel", "readsCells", "[I", true)
  | 12 => ("DaemonsheetModel", "readsReadings", "[I", true)
  | 13 => ("DaemonsheetModel", "readsLoads", "[I", true)
  | 14 => ("DaemonsheetModel", "depth", "[I", true)
  | 15 => ("DaemonsheetModel", "isHeld", "[Z", true)
  | 16 => ("DaemonsheetModel", "heldAt", "[I", true)
  | 17 => ("DaemonsheetModel", "control", "[I", true)
  | 18 => ("DaemonsheetModel", "limit", "[I", true)
  | 19 => ("DaemonsheetModel", "needs", "[I", true)
  | 20 => ("DaemonsheetModel", "demand", "[I", true)
  | 21 => ("DaemonsheetModel", "delay", "[I", true)
  | 22 => ("DaemonsheetModel", "lie", "[I", true)
  | 23 => ("DaemonsheetModel", "value", "[I", true)
  | 24 => ("DaemonsheetModel", "isDirty", "[Z", true)
  | 25 => ("DaemonsheetModel", "reading", "[I", true)
  | 26 => ("DaemonsheetModel", "toldAt", "[I", true)
  | 27 => ("DaemonsheetModel", "state", "[I", true)
  | 28 => ("DaemonsheetModel", "since", "[I", true)
  | 29 => ("DaemonsheetModel", "waits", "[I", true)
  | 30 => ("DaemonsheetModel", "load", "[I", true)
  | 31 => ("DaemonsheetModel", "told", "[I", true)
  | 32 => ("DaemonsheetModel", "starts", "[I", true)
  | 33 => ("DaemonsheetModel", "work", "I", false)
  | 34 => ("DaemonsheetModel", "now", "I", false)
  | 35 => ("DaemonsheetModel", "kind", "[I", true)
  | 36 => ("DaemonsheetModel", "first", "[I", true)
  | 37 => ("DaemonsheetModel", "second", "[I", true)
  | 38 => ("DaemonsheetModel", "third", "[I", true)
  | 39 => ("DaemonsheetModel", "at", "[I", true)
  | 40 => ("DaemonsheetModel", "stepCode", "[I", true)
  | 41 => ("DaemonsheetModel", "stepLength", "[I", true)
  | 42 => ("DaemonsheetModel", "steps", "I", false)
  | 43 => ("DaemonsheetModel", "stack", "[J", true)
  | 44 => ("DaemonsheetModel", "top", "I", false)
  | _ => ("DaemonsheetModel", "thrown", "I", false)
def tyX9 : Nat → FieldType := fun k => match k with
  | 0 => .array .int
  | 1 => .int
  | 2 => .array .int
  | 3 => .int
  | 4 => .array .int
  | 5 => .int
  | 6 => .array .boolean
  | 7 => .array .int
  | 8 => .array .int
  | 9 => .array .int
  | 10 => .array .int
  | 11 => .array .int
  | 12 => .array .int
  | 13 => .array .int
  | 14 => .array .int
  | 15 => .array .boolean
  | 16 => .array .int
  | 17 => .array .int
  | 18 => .array .int
  | 19 => .array .int
  | 20 => .array .int
  | 21 => .array .int
  | 22 => .array .int
  | 23 => .array .int
  | 24 => .array .boolean
  | 25 => .array .int
  | 26 => .array .int
  | 27 => .array .int
  | 28 => .array .int
  | 29 => .array .int
  | 30 => .array .int
  | 31 => .array .int
  | 32 => .array .int
  | 33 => .int
  | 34 => .int
  | 35 => .array .int
  | 36 => .array .int
  | 37 => .array .int
  | 38 => .array .int
  | 39 => .array .int
  | 40 => .array .int
  | 41 => .array .int
  | 42 => .int
  | 43 => .array .long
  | 44 => .int
  | _ => .int
theorem nmX9 : ∀ a, a < 46 → ∀ b, b < 46 → a ≠ b → (TX9 a).2.1 ≠ (TX9 b).2.1 := by decide +kernel
theorem tyX9_ok : ∀ k, k < 46 → parseFieldDescriptor (TX9 k).2.2.1 = some (tyX9 k) := by decide +kernel
abbrev cX9_init : ByteArray := prog_11_method_1_code
def yX9_init : MethodName := ⟨RX9, "<init>", "()V"⟩
abbrev cX9_thrown : ByteArray := prog_11_method_2_code
def yX9_thrown : MethodName := ⟨RX9, "thrown", "()I"⟩
abbrev cX9_goes : ByteArray := prog_11_method_3_code
def yX9_goes : MethodName := ⟨RX9, "goes", "(ZZZ)Z"⟩
abbrev cX9_isIn : ByteArray := prog_11_method_4_code
def yX9_isIn : MethodName := ⟨RX9, "isIn", "(II)Z"⟩
abbrev cX9_isWithin : ByteArray := prog_11_method_5_code
def yX9_isWithin : MethodName := ⟨RX9, "isWithin", "(III)Z"⟩
abbrev cX9_has : ByteArray := prog_11_method_6_code
def yX9_has : MethodName := ⟨RX9, "has", "(II)Z"⟩
abbrev cX9_isFigure : ByteArray := prog_11_method_7_code
def yX9_isFigure : MethodName := ⟨RX9, "isFigure", "(I)Z"⟩
abbrev cX9_isFunction : ByteArray := prog_11_method_8_code
def yX9_isFunction : MethodName := ⟨RX9, "isFunction", "(I)Z"⟩
abbrev cX9_isName : ByteArray := prog_11_method_9_code
def yX9_isName : MethodName := ⟨RX9, "isName", "(I)Z"⟩
abbrev cX9_deedOf : ByteArray := prog_11_method_10_code
def yX9_deedOf : MethodName := ⟨RX9, "deedOf", "(I)I"⟩
abbrev cX9_rank : ByteArray := prog_11_method_11_code
def yX9_rank : MethodName := ⟨RX9, "rank", "(I)I"⟩
abbrev cX9_type : ByteArray := prog_11_method_12_code
def yX9_type : MethodName := ⟨RX9, "type", "(C)I"⟩
abbrev cX9_wipe : ByteArray := prog_11_method_13_code
def yX9_wipe : MethodName := ⟨RX9, "wipe", "()I"⟩
abbrev cX9_makes : ByteArray := prog_11_method_14_code
def yX9_makes : MethodName := ⟨RX9, "makes", "(I)V"⟩
abbrev cX9_opensOne : ByteArray := prog_11_method_15_code
def yX9_opensOne : MethodName := ⟨RX9, "opensOne", "(I)V"⟩
abbrev cX9_closes : ByteArray := prog_11_method_16_code
def yX9_closes : MethodName := ⟨RX9, "closes", "(I)V"⟩
abbrev cX9_takesName : ByteArray := prog_11_method_17_code
def yX9_takesName : MethodName := ⟨RX9, "takesName", "(I)I"⟩
abbrev cX9_takesNumber : ByteArray := prog_11_method_18_code
def yX9_takesNumber : MethodName := ⟨RX9, "takesNumber", "(I)I"⟩
abbrev cX9_faultOf : ByteArray := prog_11_method_19_code
def yX9_faultOf : MethodName := ⟨RX9, "faultOf", "()I"⟩
abbrev cX9_fault : ByteArray := prog_11_method_20_code
def yX9_fault : MethodName := ⟨RX9, "fault", "()I"⟩
abbrev cX9_kept : ByteArray := prog_11_method_21_code
def yX9_kept : MethodName := ⟨RX9, "kept", "(J)J"⟩
abbrev cX9_deeds : ByteArray := prog_11_method_22_code
def yX9_deeds : MethodName := ⟨RX9, "deeds", "(I)V"⟩
abbrev cX9_worthOf : ByteArray := prog_11_method_23_code
def yX9_worthOf : MethodName := ⟨RX9, "worthOf", "(I)I"⟩
abbrev cX9_soils : ByteArray := prog_11_method_24_code
def yX9_soils : MethodName := ⟨RX9, "soils", "([II)V"⟩
abbrev cX9_becomes : ByteArray := prog_11_method_25_code
def yX9_becomes : MethodName := ⟨RX9, "becomes", "(II)V"⟩
abbrev cX9_tells : ByteArray := prog_11_method_26_code
def yX9_tells : MethodName := ⟨RX9, "tells", "(II)V"⟩
abbrev cX9_nextDirty : ByteArray := prog_11_method_27_code
def yX9_nextDirty : MethodName := ⟨RX9, "nextDirty", "()I"⟩
abbrev cX9_worksOut : ByteArray := prog_11_method_28_code
def yX9_worksOut : MethodName := ⟨RX9, "worksOut", "()V"⟩
abbrev cX9_isOld : ByteArray := prog_11_method_29_code
def yX9_isOld : MethodName := ⟨RX9, "isOld", "(I)Z"⟩
abbrev cX9_below : ByteArray := prog_11_method_30_code
def yX9_below : MethodName := ⟨RX9, "below", "(IZ)I"⟩
abbrev cX9_stale : ByteArray := prog_11_method_31_code
def yX9_stale : MethodName := ⟨RX9, "stale", "(I)Z"⟩
abbrev cX9_isWanted : ByteArray := prog_11_method_32_code
def yX9_isWanted : MethodName := ⟨RX9, "isWanted", "(I)Z"⟩
abbrev cX9_runs : ByteArray := prog_11_method_33_code
def yX9_runs : MethodName := ⟨RX9, "runs", "(I)V"⟩
abbrev cX9_changes : ByteArray := prog_11_method_34_code
def yX9_changes : MethodName := ⟨RX9, "changes", "(I)V"⟩
abbrev cX9_loadOf : ByteArray := prog_11_method_35_code
def yX9_loadOf : MethodName := ⟨RX9, "loadOf", "(I)I"⟩
abbrev cX9_round : ByteArray := prog_11_method_36_code
def yX9_round : MethodName := ⟨RX9, "round", "()I"⟩
abbrev cX9_settles : ByteArray := prog_11_method_37_code
def yX9_settles : MethodName := ⟨RX9, "settles", "()I"⟩
abbrev cX9_clears : ByteArray := prog_11_method_38_code
def yX9_clears : MethodName := ⟨RX9, "clears", "()V"⟩
abbrev cX9_begins : ByteArray := prog_11_method_39_code
def yX9_begins : MethodName := ⟨RX9, "begins", "()V"⟩
abbrev cX9_deepens : ByteArray := prog_11_method_40_code
def yX9_deepens : MethodName := ⟨RX9, "deepens", "()V"⟩
abbrev cX9_gives : ByteArray := prog_11_method_41_code
def yX9_gives : MethodName := ⟨RX9, "gives", "(II)V"⟩
abbrev cX9_setsCell : ByteArray := prog_11_method_42_code
def yX9_setsCell : MethodName := ⟨RX9, "setsCell", "(I)V"⟩
abbrev cX9_reads : ByteArray := prog_11_method_43_code
def yX9_reads : MethodName := ⟨RX9, "reads", "(I)V"⟩
abbrev cX9_setsService : ByteArray := prog_11_method_44_code
def yX9_setsService : MethodName := ⟨RX9, "setsService", "(I)V"⟩
abbrev cX9_does : ByteArray := prog_11_method_45_code
def yX9_does : MethodName := ⟨RX9, "does", "(I)I"⟩
abbrev cX9_keeps : ByteArray := prog_11_method_46_code
def yX9_keeps : MethodName := ⟨RX9, "keeps", "(IIII)I"⟩
abbrev cX9_replays : ByteArray := prog_11_method_47_code
def yX9_replays : MethodName := ⟨RX9, "replays", "()V"⟩
abbrev cX9_hasRoom : ByteArray := prog_11_method_48_code
def yX9_hasRoom : MethodName := ⟨RX9, "hasRoom", "()Z"⟩
abbrev cX9_isCell : ByteArray := prog_11_method_49_code
def yX9_isCell : MethodName := ⟨RX9, "isCell", "(I)Z"⟩
abbrev cX9_isService : ByteArray := prog_11_method_50_code
def yX9_isService : MethodName := ⟨RX9, "isService", "(I)Z"⟩
abbrev cX9_wouldHang : ByteArray := prog_11_method_51_code
def yX9_wouldHang : MethodName := ⟨RX9, "wouldHang", "(I)Z"⟩
abbrev cX9_formula : ByteArray := prog_11_method_52_code
def yX9_formula : MethodName := ⟨RX9, "formula", "(I)I"⟩
abbrev cX9_hold : ByteArray := prog_11_method_53_code
def yX9_hold : MethodName := ⟨RX9, "hold", "(II)I"⟩
abbrev cX9_release : ByteArray := prog_11_method_54_code
def yX9_release : MethodName := ⟨RX9, "release", "(I)I"⟩
abbrev cX9_read : ByteArray := prog_11_method_55_code
def yX9_read : MethodName := ⟨RX9, "read", "(II)I"⟩
abbrev cX9_control : ByteArray := prog_11_method_56_code
def yX9_control : MethodName := ⟨RX9, "control", "(II)I"⟩
abbrev cX9_limit : ByteArray := prog_11_method_57_code
def yX9_limit : MethodName := ⟨RX9, "limit", "(II)I"⟩
abbrev cX9_demand : ByteArray := prog_11_method_58_code
def yX9_demand : MethodName := ⟨RX9, "demand", "(III)I"⟩
abbrev cX9_need : ByteArray := prog_11_method_59_code
def yX9_need : MethodName := ⟨RX9, "need", "(IIZ)I"⟩
abbrev cX9_lie : ByteArray := prog_11_method_60_code
def yX9_lie : MethodName := ⟨RX9, "lie", "(II)I"⟩
abbrev cX9_mend : ByteArray := prog_11_method_61_code
def yX9_mend : MethodName := ⟨RX9, "mend", "(I)I"⟩
abbrev cX9_tick : ByteArray := prog_11_method_62_code
def yX9_tick : MethodName := ⟨RX9, "tick", "(I)I"⟩
abbrev cX9_undo : ByteArray := prog_11_method_63_code
def yX9_undo : MethodName := ⟨RX9, "undo", "()I"⟩
abbrev cX9_steps : ByteArray := prog_11_method_64_code
def yX9_steps : MethodName := ⟨RX9, "steps", "()I"⟩
abbrev cX9_now : ByteArray := prog_11_method_65_code
def yX9_now : MethodName := ⟨RX9, "now", "()I"⟩
abbrev cX9_value : ByteArray := prog_11_method_66_code
def yX9_value : MethodName := ⟨RX9, "value", "(I)I"⟩
abbrev cX9_valueAnew : ByteArray := prog_11_method_67_code
def yX9_valueAnew : MethodName := ⟨RX9, "valueAnew", "(I)I"⟩
abbrev cX9_worth : ByteArray := prog_11_method_68_code
def yX9_worth : MethodName := ⟨RX9, "worth", "(I)I"⟩
abbrev cX9_depth : ByteArray := prog_11_method_69_code
def yX9_depth : MethodName := ⟨RX9, "depth", "(I)I"⟩
abbrev cX9_isStale : ByteArray := prog_11_method_70_code
def yX9_isStale : MethodName := ⟨RX9, "isStale", "(I)Z"⟩
abbrev cX9_work : ByteArray := prog_11_method_71_code
def yX9_work : MethodName := ⟨RX9, "work", "()I"⟩
abbrev cX9_state : ByteArray := prog_11_method_72_code
def yX9_state : MethodName := ⟨RX9, "state", "(I)I"⟩
abbrev cX9_load : ByteArray := prog_11_method_73_code
def yX9_load : MethodName := ⟨RX9, "load", "(I)I"⟩
abbrev cX9_told : ByteArray := prog_11_method_74_code
def yX9_told : MethodName := ⟨RX9, "told", "(I)I"⟩
abbrev cX9_starts : ByteArray := prog_11_method_75_code
def yX9_starts : MethodName := ⟨RX9, "starts", "(I)I"⟩
abbrev cX9_trial : ByteArray := prog_11_method_76_code
def yX9_trial : MethodName := ⟨RX9, "trial", "(I)I"⟩
abbrev cX9_readsAll : ByteArray := prog_11_method_77_code
def yX9_readsAll : MethodName := ⟨RX9, "readsAll", "()V"⟩
abbrev cX9_hangsOn : ByteArray := prog_11_method_78_code
def yX9_hangsOn : MethodName := ⟨RX9, "hangsOn", "(I)I"⟩
abbrev cX9_isLoop : ByteArray := prog_11_method_79_code
def yX9_isLoop : MethodName := ⟨RX9, "isLoop", "(I)Z"⟩
def RJx145de : String := "java/io/Serializable"
def RJx9f9b0 : String := "java/lang/CharSequence"
def RJ11 : String := "java/lang/Character"
abbrev cJ11_isValidCodePoint_9a6ad : ByteArray := prog_12_method_11_code
def yJ11_isValidCodePoint_9a6ad : MethodName := ⟨RJ11, "isValidCodePoint", "(I)Z"⟩
abbrev cJ11_highSurrogate_5068e : ByteArray := prog_12_method_28_code
def yJ11_highSurrogate_5068e : MethodName := ⟨RJ11, "highSurrogate", "(I)C"⟩
abbrev cJ11_lowSurrogate_5068e : ByteArray := prog_12_method_29_code
def yJ11_lowSurrogate_5068e : MethodName := ⟨RJ11, "lowSurrogate", "(I)C"⟩
def RJx8e188 : String := "java/lang/Cloneable"
def RJxb160c : String := "java/lang/Comparable"
def RJ9 : String := "java/lang/Math"
abbrev cJ9_max_7cf53 : ByteArray := prog_18_method_65_code
def yJ9_max_7cf53 : MethodName := ⟨RJ9, "max", "(II)I"⟩
abbrev cJ9_max_f86c9 : ByteArray := prog_18_method_66_code
def yJ9_max_f86c9 : MethodName := ⟨RJ9, "max", "(JJ)J"⟩
abbrev cJ9_min_7cf53 : ByteArray := prog_18_method_69_code
def yJ9_min_7cf53 : MethodName := ⟨RJ9, "min", "(II)I"⟩
abbrev cJ9_min_f86c9 : ByteArray := prog_18_method_70_code
def yJ9_min_f86c9 : MethodName := ⟨RJ9, "min", "(JJ)J"⟩
def RJ0 : String := "java/lang/String"
abbrev cJ0_length_8abf5 : ByteArray := prog_20_method_54_code
def yJ0_length_8abf5 : MethodName := ⟨RJ0, "length", "()I"⟩
abbrev cJ0_indexOf_0f7a4 : ByteArray := prog_20_method_79_code
def yJ0_indexOf_0f7a4 : MethodName := ⟨RJ0, "indexOf", "(I)I"⟩
abbrev cJ0_indexOf_7cf53 : ByteArray := prog_20_method_80_code
def yJ0_indexOf_7cf53 : MethodName := ⟨RJ0, "indexOf", "(II)I"⟩
abbrev cJ0_coder_7d493 : ByteArray := prog_20_method_152_code
def yJ0_coder_7d493 : MethodName := ⟨RJ0, "coder", "()B"⟩
abbrev cJ0_isLatin1_aae02 : ByteArray := prog_20_method_154_code
def yJ0_isLatin1_aae02 : MethodName := ⟨RJ0, "isLatin1", "()Z"⟩
abbrev cJ0_checkBoundsBeginEnd_23922 : ByteArray := prog_20_method_158_code
def yJ0_checkBoundsBeginEnd_23922 : MethodName := ⟨RJ0, "checkBoundsBeginEnd", "(III)V"⟩
def RJ1 : String := "java/lang/StringLatin1"
abbrev cJ1_canEncode_9a6ad : ByteArray := prog_21_method_4_code
def yJ1_canEncode_9a6ad : MethodName := ⟨RJ1, "canEncode", "(I)Z"⟩
abbrev cJ1_indexOf_4cfef : ByteArray := prog_21_method_22_code
def yJ1_indexOf_4cfef : MethodName := ⟨RJ1, "indexOf", "([BIII)I"⟩
abbrev cJ1_indexOfChar_4cfef : ByteArray := prog_21_method_23_code
def yJ1_indexOfChar_4cfef : MethodName := ⟨RJ1, "indexOfChar", "([BIII)I"⟩
def RJ2 : String := "java/lang/StringUTF16"
abbrev cJ2_getChar_3b067 : ByteArray := prog_22_method_5_code
def yJ2_getChar_3b067 : MethodName := ⟨RJ2, "getChar", "([BI)C"⟩
abbrev cJ2_length_9d52b : ByteArray := prog_22_method_6_code
def yJ2_length_9d52b : MethodName := ⟨RJ2, "length", "([B)I"⟩
abbrev cJ2_indexOf_4cfef : ByteArray := prog_22_method_40_code
def yJ2_indexOf_4cfef : MethodName := ⟨RJ2, "indexOf", "([BIII)I"⟩
abbrev cJ2_indexOfChar_4cfef : ByteArray := prog_22_method_47_code
def yJ2_indexOfChar_4cfef : MethodName := ⟨RJ2, "indexOfChar", "([BIII)I"⟩
abbrev cJ2_indexOfCharUnsafe_4cfef : ByteArray := prog_22_method_48_code
def yJ2_indexOfCharUnsafe_4cfef : MethodName := ⟨RJ2, "indexOfCharUnsafe", "([BIII)I"⟩
abbrev cJ2_indexOfSupplementary_4cfef : ByteArray := prog_22_method_49_code
def yJ2_indexOfSupplementary_4cfef : MethodName := ⟨RJ2, "indexOfSupplementary", "([BIII)I"⟩
abbrev cJ2_checkBoundsBeginEnd_d044e : ByteArray := prog_22_method_93_code
def yJ2_checkBoundsBeginEnd_d044e : MethodName := ⟨RJ2, "checkBoundsBeginEnd", "(II[B)V"⟩
def RJ10 : String := "java/lang/System"
def RJxfd54e : String := "java/lang/constant/Constable"
def RJx3cf43 : String := "java/lang/constant/ConstantDesc"
def RJ7 : String := "java/util/Arrays"
abbrev cJ7_copyOf_59c91 : ByteArray := prog_25_method_123_code
def yJ7_copyOf_59c91 : MethodName := ⟨RJ7, "copyOf", "([II)[I"⟩
def RJ3 : String := "jdk/internal/util/Preconditions"
abbrev cJ3_checkFromToIndex_8c36e : ByteArray := prog_26_method_12_code
def yJ3_checkFromToIndex_8c36e : MethodName := ⟨RJ3, "checkFromToIndex", "(IIILjava/util/function/BiFunction;)I"⟩
def RL : String := "DaemonsheetLaw"
abbrev cL_type : ByteArray := method_3_code
def yL_type : MethodName := ⟨RL, "type", "(LDaemonsheet;C[J)I"⟩
abbrev cL_formula : ByteArray := method_4_code
def yL_formula : MethodName := ⟨RL, "formula", "(LDaemonsheet;I[J)I"⟩
abbrev cL_hold : ByteArray := method_5_code
def yL_hold : MethodName := ⟨RL, "hold", "(LDaemonsheet;II[J)I"⟩
abbrev cL_release : ByteArray := method_6_code
def yL_release : MethodName := ⟨RL, "release", "(LDaemonsheet;I[J)I"⟩
abbrev cL_read : ByteArray := method_7_code
def yL_read : MethodName := ⟨RL, "read", "(LDaemonsheet;II[J)I"⟩
abbrev cL_control : ByteArray := method_8_code
def yL_control : MethodName := ⟨RL, "control", "(LDaemonsheet;II[J)I"⟩
abbrev cL_limit : ByteArray := method_9_code
def yL_limit : MethodName := ⟨RL, "limit", "(LDaemonsheet;II[J)I"⟩
abbrev cL_demand : ByteArray := method_10_code
def yL_demand : MethodName := ⟨RL, "demand", "(LDaemonsheet;III[J)I"⟩
abbrev cL_need : ByteArray := method_11_code
def yL_need : MethodName := ⟨RL, "need", "(LDaemonsheet;IIZ[J)I"⟩
abbrev cL_lie : ByteArray := method_12_code
def yL_lie : MethodName := ⟨RL, "lie", "(LDaemonsheet;II[J)I"⟩
abbrev cL_mend : ByteArray := method_13_code
def yL_mend : MethodName := ⟨RL, "mend", "(LDaemonsheet;I[J)I"⟩
abbrev cL_tick : ByteArray := method_14_code
def yL_tick : MethodName := ⟨RL, "tick", "(LDaemonsheet;I[J)I"⟩
abbrev cL_undo : ByteArray := method_15_code
def yL_undo : MethodName := ⟨RL, "undo", "(LDaemonsheet;[J)I"⟩
abbrev cL_value : ByteArray := method_16_code
def yL_value : MethodName := ⟨RL, "value", "(LDaemonsheet;I[J)I"⟩
abbrev cL_valueAnew : ByteArray := method_17_code
def yL_valueAnew : MethodName := ⟨RL, "valueAnew", "(LDaemonsheet;I[J)I"⟩
abbrev cL_worth : ByteArray := method_18_code
def yL_worth : MethodName := ⟨RL, "worth", "(LDaemonsheet;I[J)I"⟩
abbrev cL_depth : ByteArray := method_19_code
def yL_depth : MethodName := ⟨RL, "depth", "(LDaemonsheet;I[J)I"⟩
abbrev cL_isStale : ByteArray := method_20_code
def yL_isStale : MethodName := ⟨RL, "isStale", "(LDaemonsheet;I[J)I"⟩
abbrev cL_state : ByteArray := method_21_code
def yL_state : MethodName := ⟨RL, "state", "(LDaemonsheet;I[J)I"⟩
abbrev cL_load : ByteArray := method_22_code
def yL_load : MethodName := ⟨RL, "load", "(LDaemonsheet;I[J)I"⟩
abbrev cL_told : ByteArray := method_23_code
def yL_told : MethodName := ⟨RL, "told", "(LDaemonsheet;I[J)I"⟩
abbrev cL_starts : ByteArray := method_24_code
def yL_starts : MethodName := ⟨RL, "starts", "(LDaemonsheet;I[J)I"⟩
abbrev cL_trial : ByteArray := method_25_code
def yL_trial : MethodName := ⟨RL, "trial", "(LDaemonsheet;I[J)I"⟩
abbrev cL_isLoop : ByteArray := method_26_code
def yL_isLoop : MethodName := ⟨RL, "isLoop", "(LDaemonsheet;I[J)I"⟩
abbrev cL_law : ByteArray := code
def yL_law : MethodName := ⟨RL, "law", "([I)Z"⟩
abbrev vwCl : List vw_C := [(RX0, TX0, 5), (RX1, TX1, 2), (RX2, TX2, 6), (RX3, TX3, 2), (RX4, TX4, 14), (RX5, TX5, 6), (RX6, TX6, 9), (RX7, TX7, 2), (RX8, TX8, 7), (RX9, TX9, 46)]
end
section
/-! ===== the world as numbers: objects and arrays by the order in which they were made ===== -/
abbrev zM : Type := MethodName × ByteArray × Nat × Option FieldType
abbrev zMem : Type := Nat × (Nat → Nat) × (Nat → Nat) × (Nat → Nat → Int32) × (Nat → Nat → Option Nat) × (Nat → Nat → Int64)
def zN (μ : zMem) : Nat := μ.1
def zK (μ : zMem) : Nat → Nat := μ.2.1
def zL (μ : zMem) : Nat → Nat := μ.2.2.1
def zI (μ : zMem) : Nat → Nat → Int32 := μ.2.2.2.1
def zP (μ : zMem) : Nat → Nat → Option Nat := μ.2.2.2.2.1
def zG (μ : zMem) : Nat → Nat → Int64 := μ.2.2.2.2.2
def zsI (μ : zMem) (a i : Nat) (v : Int32) : zMem := (zN μ, zK μ, zL μ, fun b j => if b = a ∧ j = i then v else zI μ b j, zP μ, zG μ)
def zsP (μ : zMem) (a i : Nat) (v : Option Nat) : zMem := (zN μ, zK μ, zL μ, zI μ, fun b j => if b = a ∧ j = i then v else zP μ b j, zG μ)
def zsG (μ : zMem) (a i : Nat) (v : Int64) : zMem := (zN μ, zK μ, zL μ, zI μ, zP μ, fun b j => if b = a ∧ j = i then v else zG μ b j)
def zal (μ : zMem) (k n : Nat) : zMem := (zN μ + 1, fun b => if b = zN μ then k else zK μ b, fun b => if b = zN μ then n else zL μ b, fun b j => if b = zN μ then 0 else zI μ b j, fun b j => if b = zN μ then none else zP μ b j, fun b j => if b = zN μ then 0 else zG μ b j)
theorem zN_sI (μ : zMem) (a i : Nat) (v : Int32) : zN (zsI μ a i v) = zN μ := rfl
theorem zK_sI (μ : zMem) (a i : Nat) (v : Int32) : zK (zsI μ a i v) = zK μ := rfl
theorem zL_sI (μ : zMem) (a i : Nat) (v : Int32) : zL (zsI μ a i v) = zL μ := rfl
theorem zP_sI (μ : zMem) (a i : Nat) (v : Int32) : zP (zsI μ a i v) = zP μ := rfl
theorem zG_sI (μ : zMem) (a i : Nat) (v : Int32) : zG (zsI μ a i v) = zG μ := rfl
theorem zI_sI (μ : zMem) (a i : Nat) (v : Int32) (b j : Nat) : zI (zsI μ a i v) b j = if b = a ∧ j = i then v else zI μ b j := rfl
theorem zN_sP (μ : zMem) (a i : Nat) (v : Option Nat) : zN (zsP μ a i v) = zN μ := rfl
theorem zK_sP (μ : zMem) (a i : Nat) (v : Option Nat) : zK (zsP μ a i v) = zK μ := rfl
theorem zL_sP (μ : zMem) (a i : Nat) (v : Option Nat) : zL (zsP μ a i v) = zL μ := rfl
theorem zI_sP (μ : zMem) (a i : Nat) (v : Option Nat) : zI (zsP μ a i v) = zI μ := rfl
theorem zG_sP (μ : zMem) (a i : Nat) (v : Option Nat) : zG (zsP μ a i v) = zG μ := rfl
theorem zP_sP (μ : zMem) (a i : Nat) (v : Option Nat) (b j : Nat) : zP (zsP μ a i v) b j = if b = a ∧ j = i then v else zP μ b j := rfl
theorem zN_sG (μ : zMem) (a i : Nat) (v : Int64) : zN (zsG μ a i v) = zN μ := rfl
theorem zK_sG (μ : zMem) (a i : Nat) (v : Int64) : zK (zsG μ a i v) = zK μ := rfl
theorem zL_sG (μ : zMem) (a i : Nat) (v : Int64) : zL (zsG μ a i v) = zL μ := rfl
theorem zI_sG (μ : zMem) (a i : Nat) (v : Int64) : zI (zsG μ a i v) = zI μ := rfl
theorem zP_sG (μ : zMem) (a i : Nat) (v : Int64) : zP (zsG μ a i v) = zP μ := rfl
theorem zG_sG (μ : zMem) (a i : Nat) (v : Int64) (b j : Nat) : zG (zsG μ a i v) b j = if b = a ∧ j = i then v else zG μ b j := rfl
theorem zN_al (μ : zMem) (k n : Nat) : zN (zal μ k n) = zN μ + 1 := rfl
theorem zK_al (μ : zMem) (k n b : Nat) : zK (zal μ k n) b = if b = zN μ then k else zK μ b := rfl
theorem zL_al (μ : zMem) (k n b : Nat) : zL (zal μ k n) b = if b = zN μ then n else zL μ b := rfl
theorem zI_al (μ : zMem) (k n b j : Nat) : zI (zal μ k n) b j = if b = zN μ then 0 else zI μ b j := rfl
theorem zP_al (μ : zMem) (k n b j : Nat) : zP (zal μ k n) b j = if b = zN μ then none else zP μ b j := rfl
theorem zG_al (μ : zMem) (k n b j : Nat) : zG (zal μ k n) b j = if b = zN μ then 0 else zG μ b j := rfl
/-- State, class numbers, array classes -/
abbrev zZ : Type := State × va_G × (Nat → ClassId)
def zty : Nat → FieldType := fun k => match k with
  | 0 => .int
  | 1 => .boolean
  | 2 => .char
  | 3 => .long
  | 4 => .object RX0
  | 5 => .object RX3
  | 6 => .object RX4
  | _ => .object RX5
def ztys (cA : Nat → ClassId) : List (ClassId × FieldType) := (List.range 8).map (fun k => (cA k, zty k))
theorem ztys_at (cA : Nat → ClassId) {k : Nat} (h : k < 8) : (ztys cA)[k]? = some (cA k, zty k) := by simp [ztys, h]
def zfty : Nat → Nat → FieldType := fun c => match c with
  | 0 => tyX0
  | 1 => tyX1
  | 2 => tyX2
  | 3 => tyX3
  | 4 => tyX4
  | 5 => tyX5
  | 6 => tyX6
  | 7 => tyX7
  | 8 => tyX8
  | _ => tyX9
def znf : Nat → Nat := fun c => match c with
  | 0 => 5
  | 1 => 2
  | 2 => 6
  | 3 => 2
  | 4 => 14
  | 5 => 6
  | 6 => 9
  | 7 => 2
  | 8 => 7
  | _ => 46
def zrt : FieldType → Bool := fun t => match t with
  | .object _ => true
  | .array _ => true
  | _ => false
def zfv (ad : Nat → Nat) (ty : FieldType) (i : Int32) (p : Option Nat) : Value := if zrt ty = true then va_rf (p.map ad) else .int i
def zent (cA : Nat → ClassId) (ad : Nat → Nat) (μ : zMem) (a : Nat) : va_E :=
  if zK μ a < 3 then .inl (cA (zK μ a), zL μ a, .inl (zI μ a))
  else if zK μ a = 3 then .inl (cA 3, zL μ a, .inr (.inl (zG μ a)))
  else if zK μ a < 8 then .inl (cA (zK μ a), zL μ a, .inr (.inr (.inr (.inr (fun j => (zP μ a j).map ad)))))
  else .inr (zK μ a - 8, (List.range (znf (zK μ a - 8))).map (fun j => zfv ad (zfty (zK μ a - 8) j) (zI μ a j) (zP μ a j)))
def zws (cA : Nat → ClassId) (ad : Nat → Nat) (μ : zMem) : va_W := (List.range (zN μ)).map (fun a => (ad a, zent cA ad μ a))
theorem zws_at (cA : Nat → ClassId) (ad : Nat → Nat) (μ : zMem) {a : Nat} (h : a < zN μ) : (zws cA ad μ)[a]? = some (ad a, zent cA ad μ a) := by simp [zws, h]
theorem zws_len (cA : Nat → ClassId) (ad : Nat → Nat) (μ : zMem) : (zws cA ad μ).length = zN μ := by simp [zws]
theorem zws_set {cA : Nat → ClassId} {ad : Nat → Nat} {μ μ' : zMem} {a : Nat} {e : va_E} (hn : zN μ' = zN μ) (he : zent cA ad μ' a = e) (ho : ∀ b, b ≠ a → zent cA ad μ' b = zent cA ad μ b) : (zws cA ad μ).set a (ad a, e) = zws cA ad μ' := by
  apply List.ext_getElem?
  intro k
  rw [List.getElem?_set]
  by_cases hk : a = k
  · subst hk
    rw [if_pos rfl, zws_len]
    by_cases h : a < zN μ
    · rw [if_pos h, zws_at _ _ _ (by rw [hn]; exact h), he]
    · rw [if_neg h]
      exact (List.getElem?_eq_none (by rw [zws_len, hn]; omega)).symm
  · rw [if_neg hk]
    by_cases h : k < zN μ
    · rw [zws_at _ _ _ h, zws_at _ _ _ (by rw [hn]; exact h), ho k (fun q => hk q.symm)]
    · rw [List.getElem?_eq_none (by rw [zws_len]; omega), List.getElem?_eq_none (by rw [zws_len, hn]; omega)]
theorem zent_sI_ne (cA : Nat → ClassId) (ad : Nat → Nat) (μ : zMem) (a i : Nat) (v : Int32) (b : Nat) (h : b ≠ a) : zent cA ad (zsI μ a i v) b = zent cA ad μ b := by
  have e : (fun j => zI (zsI μ a i v) b j) = (fun j => zI μ b j) := by funext j; simp [zI_sI, h]
  simp only [zent, zK_sI, zL_sI, zP_sI, zG_sI, zI_sI, h, false_and, if_false]
  have e2 : zI (zsI μ a i v) b = zI μ b := e
  rw [e2]
theorem zent_sP_ne (cA : Nat → ClassId) (ad : Nat → Nat) (μ : zMem) (a i : Nat) (v : Option Nat) (b : Nat) (h : b ≠ a) : zent cA ad (zsP μ a i v) b = zent cA ad μ b := by
  simp only [zent, zK_sP, zL_sP, zP_sP, zG_sP, zI_sP, h, false_and, if_false]
theorem zent_sG_ne (cA : Nat → ClassId) (ad : Nat → Nat) (μ : zMem) (a i : Nat) (v : Int64) (b : Nat) (h : b ≠ a) : zent cA ad (zsG μ a i v) b = zent cA ad μ b := by
  have e : zG (zsG μ a i v) b = zG μ b := by funext j; simp [zG_sG, h]
  simp only [zent, zK_sG, zL_sG, zP_sG, zI_sG, e]
  rfl
theorem zent_i {cA : Nat → ClassId} {ad : Nat → Nat} {μ : zMem} {a k : Nat} (h : zK μ a = k) (hk : k < 3) : zent cA ad μ a = .inl (cA k, zL μ a, .inl (zI μ a)) := by
  subst h
  simp only [zent, hk, if_true]
theorem zent_g {cA : Nat → ClassId} {ad : Nat → Nat} {μ : zMem} {a : Nat} (h : zK μ a = 3) : zent cA ad μ a = .inl (cA 3, zL μ a, .inr (.inl (zG μ a))) := by
  simp only [zent, h, if_true, Nat.lt_irrefl, if_false]
theorem zent_p {cA : Nat → ClassId} {ad : Nat → Nat} {μ : zMem} {a k : Nat} (h : zK μ a = k) (h3 : 3 < k) (hk : k < 8) : zent cA ad μ a = .inl (cA k, zL μ a, .inr (.inr (.inr (.inr (fun j => (zP μ a j).map ad))))) := by
  subst h
  simp only [zent, if_neg (show ¬ zK μ a < 3 by omega), if_neg (show ¬ zK μ a = 3 by omega), if_pos hk]
theorem zent_o {cA : Nat → ClassId} {ad : Nat → Nat} {μ : zMem} {a ci : Nat} (h : zK μ a = ci + 8) : zent cA ad μ a = .inr (ci, (List.range (znf ci)).map (fun j => zfv ad (zfty ci j) (zI μ a j) (zP μ a j))) := by
  simp only [zent, h, if_neg (show ¬ ci + 8 < 3 by omega), if_neg (show ¬ ci + 8 = 3 by omega), if_neg (show ¬ ci + 8 < 8 by omega), Nat.add_sub_cancel]
theorem zfs_set_i {ad : Nat → Nat} {μ : zMem} {a ci k : Nat} {v : Int32} (ht : zrt (zfty ci k) = false) :
    ((List.range (znf ci)).map (fun j => zfv ad (zfty ci j) (zI μ a j) (zP μ a j))).set k (.int v) = (List.range (znf ci)).map (fun j => zfv ad (zfty ci j) (zI (zsI μ a k v) a j) (zP (zsI μ a k v) a j)) := by
  apply List.ext_getElem?
  intro j
  rw [List.getElem?_set]
  by_cases hj : k = j
  · subst hj
    rw [if_pos rfl, List.length_map, List.length_range]
    by_cases h : k < znf ci
    · simp [h, zfv, ht, zI_sI]
    · simp [h]
  · rw [if_neg hj]
    simp only [List.getElem?_map, zI_sI, zP_sI, true_and, if_neg (fun q : j = k => hj q.symm)]
    have hj' : ¬ j = k := fun q => hj q.symm
    by_cases h : j < znf ci
    · simp [h, hj']
    · simp [h]
theorem zfs_set_p {ad : Nat → Nat} {μ : zMem} {a ci k : Nat} {v : Option Nat} (ht : zrt (zfty ci k) = true) :
    ((List.range (znf ci)).map (fun j => zfv ad (zfty ci j) (zI μ a j) (zP μ a j))).set k (va_rf (v.map ad)) = (List.range (znf ci)).map (fun j => zfv ad (zfty ci j) (zI (zsP μ a k v) a j) (zP (zsP μ a k v) a j)) := by
  apply List.ext_getElem?
  intro j
  rw [List.getElem?_set]
  by_cases hj : k = j
  · subst hj
    rw [if_pos rfl, List.length_map, List.length_range]
    by_cases h : k < znf ci
    · simp [h, zfv, ht, zP_sP]
    · simp [h]
  · rw [if_neg hj]
    have hj' : ¬ j = k := fun q => hj q.symm
    by_cases h : j < znf ci
    · simp [h, zI_sP, zP_sP, hj']
    · simp [h]
/-! values -/
def ztv (ad : Nat → Nat) (v : Value) : Value := match v with
  | .ref k => .ref (ad k)
  | w => w
def zok (n : Nat) (v : Value) : Prop := ∀ k, v = .ref k → k < n
theorem ztv_int (ad : Nat → Nat) (x : Int32) : ztv ad (.int x) = .int x := rfl
theorem ztv_long (ad : Nat → Nat) (x : Int64) : ztv ad (.long x) = .long x := rfl
theorem ztv_ref (ad : Nat → Nat) (x : Nat) : ztv ad (.ref x) = .ref (ad x) := rfl
theorem ztv_null (ad : Nat → Nat) : ztv ad .null = .null := rfl
theorem ztv_cat (ad : Nat → Nat) (v : Value) : (ztv ad v).category = v.category := by cases v <;> rfl
theorem ztv_rf (ad : Nat → Nat) (o : Option Nat) : ztv ad (va_rf o) = va_rf (o.map ad) := by cases o <;> rfl
theorem ztv_congr {ad ad' : Nat → Nat} {n : Nat} {v : Value} (h : zok n v) (he : ∀ a, a < n → ad' a = ad a) : ztv ad' v = ztv ad v := by
  cases v with
  | ref k => show Value.ref _ = Value.ref _; rw [he k (h k rfl)]
  | _ => rfl
theorem zok_int (n : Nat) (x : Int32) : zok n (.int x) := fun _ h => by cases h
theorem zok_long (n : Nat) (x : Int64) : zok n (.long x) := fun _ h => by cases h
theorem zok_null (n : Nat) : zok n .null := fun _ h => by cases h
theorem zok_ref {n a : Nat} (h : a < n) : zok n (.ref a) := fun _ q => by cases q; exact h
theorem zok_mono {n m : Nat} {v : Value} (h : zok n v) (hm : n ≤ m) : zok m v := fun k q => Nat.lt_of_lt_of_le (h k q) hm
theorem zok_lt {n a : Nat} (h : zok n (.ref a)) : a < n := h a rfl
def zoks (n : Nat) (st : List Value) : Prop := ∀ v ∈ st, zok n v
theorem zoks_nil (n : Nat) : zoks n [] := fun _ h => nomatch h
theorem zoks_cons {n : Nat} {v : Value} {st : List Value} (h : zok n v) (hs : zoks n st) : zoks n (v :: st) := fun w hw => (List.mem_cons.mp hw).elim (fun e => by rw [e]; exact h) (hs w)
theorem zoks_hd {n : Nat} {v : Value} {st : List Value} (h : zoks n (v :: st)) : zok n v := h v List.mem_cons_self
theorem zoks_tl {n : Nat} {v : Value} {st : List Value} (h : zoks n (v :: st)) : zoks n st := fun w hw => h w (List.mem_cons_of_mem _ hw)
theorem zoks_mono {n m : Nat} {st : List Value} (h : zoks n st) (hm : n ≤ m) : zoks m st := fun v hv => zok_mono (h v hv) hm
theorem ztv_congrs {ad ad' : Nat → Nat} {n : Nat} {st : List Value} (h : zoks n st) (he : ∀ a, a < n → ad' a = ad a) : st.map (ztv ad') = st.map (ztv ad) := List.map_congr_left fun v hv => ztv_congr (h v hv) he
/-! locals: by their places; none: not said -/
def zLo (ad : Nat → Nat) (n : Nat) (L : List (Option Value)) (ls : Array Slot) : Prop := ls.size = L.length ∧ lv_wf ls ∧ ∀ (i : Nat) (v : Value), L[i]? = some (some v) → ls[i]? = some (.val (ztv ad v)) ∧ zok n v
theorem zLo_mono {ad ad' : Nat → Nat} {n m : Nat} {L : List (Option Value)} {ls : Array Slot} (h : zLo ad n L ls) (he : ∀ a, a < n → ad' a = ad a) (hm : n ≤ m) : zLo ad' m L ls :=
  ⟨h.1, h.2.1, fun i v hv => ⟨by rw [ztv_congr (h.2.2 i v hv).2 he]; exact (h.2.2 i v hv).1, zok_mono (h.2.2 i v hv).2 hm⟩⟩
def zst1 (L : List (Option Value)) (i : Nat) (v : Value) : List (Option Value) := match i with
  | 0 => L.set 0 (some v)
  | k + 1 => match L[k]? with
    | some (some (.long _)) => (L.set k none).set (k + 1) (some v)
    | some (some (.double _)) => (L.set k none).set (k + 1) (some v)
    | _ => L.set (k + 1) (some v)
def zst2 (L : List (Option Value)) (i : Nat) (v : Value) : List (Option Value) := (zst1 L i v).set (i + 1) none
theorem zst1_len (L : List (Option Value)) (i : Nat) (v : Value) : (zst1 L i v).length = L.length := by
  unfold zst1
  split
  · simp
  · split <;> simp
theorem zst1_at {L : List (Option Value)} {i j : Nat} {v w : Value} (h : (zst1 L i v)[j]? = some (some w)) : (j = i ∧ w = v) ∨ (j ≠ i ∧ L[j]? = some (some w) ∧ ¬ (j + 1 = i ∧ w.category = 2)) := by
  unfold zst1 at h
  split at h
  · rw [List.getElem?_set] at h
    by_cases hj : 0 = j
    · rw [if_pos hj] at h
      split at h
      · left; exact ⟨hj.symm, by simpa using h.symm⟩
      · cases h
    · rw [if_neg hj] at h
      right; exact ⟨fun q => hj q.symm, h, by omega⟩
  · rename_i k
    by_cases hj : j = k + 1
    · subst hj
      left
      refine ⟨rfl, ?_⟩
      split at h <;> (rw [List.getElem?_set_self'] at h; cases hq : (L[k + 1]?) <;> simp_all)
    · right
      refine ⟨hj, ?_⟩
      split at h
      · rw [List.getElem?_set_ne (by omega)] at h
        by_cases hk : k = j
        · subst hk
          rw [List.getElem?_set_self'] at h
          cases hq : (L[k]?) <;> simp_all
        · rw [List.getElem?_set_ne hk] at h
          exact ⟨h, fun q => hk (by omega)⟩
      · rw [List.getElem?_set_ne (by omega)] at h
        by_cases hk : k = j
        · subst hk
          rw [List.getElem?_set_self'] at h
          cases hq : (L[k]?) <;> simp_all
        · rw [List.getElem?_set_ne hk] at h
          exact ⟨h, fun q => hk (by omega)⟩
      · rename_i h1 h2
        rw [List.getElem?_set_ne (by omega)] at h
        refine ⟨h, fun q => ?_⟩
        obtain ⟨q1, q2⟩ := q
        have : j = k := by omega
        subst this
        cases w with
        | long x => exact h1 x h
        | double x => exact h2 x h
        | _ => cases q2
def zlv (ad : Nat → Nat) (L : List (Option Value)) : List (Nat × Value) := (List.range L.length).filterMap (fun i => match L[i]? with
  | some (some v) => some (i, ztv ad v)
  | _ => none)
theorem zlv_mem {ad : Nat → Nat} {L : List (Option Value)} {i : Nat} {v : Value} (h : L[i]? = some (some v)) : (i, ztv ad v) ∈ zlv ad L := by
  refine List.mem_filterMap.mpr ⟨i, List.mem_range.mpr (List.getElem?_eq_some_iff.mp h).1, ?_⟩
  rw [h]
theorem zlv_mem' {ad : Nat → Nat} {L : List (Option Value)} {q : Nat × Value} (h : q ∈ zlv ad L) : ∃ v, L[q.1]? = some (some v) ∧ q.2 = ztv ad v := by
  obtain ⟨i, hi, h2⟩ := List.mem_filterMap.mp h
  split at h2
  · rename_i v hv
    cases h2
    exact ⟨v, hv, rfl⟩
  · cases h2
theorem zLo_has {ad : Nat → Nat} {n : Nat} {L : List (Option Value)} {ls : Array Slot} (h : zLo ad n L ls) : lv_has ls L.length (zlv ad L) := by
  refine ⟨h.1, h.2.1, fun q hq => ?_⟩
  obtain ⟨v, hv, he⟩ := zlv_mem' hq
  rw [he]
  exact (h.2.2 q.1 v hv).1
theorem zLo_st1 {ad : Nat → Nat} {n i : Nat} {L : List (Option Value)} {ls ls' : Array Slot} {v : Value} (h : zLo ad n L ls) (hv : zok n v)
    (h' : lv_has ls' L.length ((i, ztv ad v) :: (zlv ad L).filter (fun q => !(q.1 == i) && !(q.1 + 1 == i && q.2.category == 2)))) : zLo ad n (zst1 L i v) ls' := by
  refine ⟨by rw [h'.1, zst1_len], h'.2.1, fun j w hw => ?_⟩
  rcases zst1_at hw with ⟨rfl, rfl⟩ | ⟨h1, h2, h3⟩
  · exact ⟨h'.2.2 _ List.mem_cons_self, hv⟩
  · refine ⟨h'.2.2 (j, ztv ad w) (List.mem_cons_of_mem _ (List.mem_filter.mpr ⟨zlv_mem h2, ?_⟩)), (h.2.2 j w h2).2⟩
    simp only [ztv_cat, Bool.and_eq_true, Bool.not_eq_true', beq_eq_false_iff_ne, Bool.and_eq_false_iff, ne_eq]
    refine ⟨h1, ?_⟩
    by_cases hq : j + 1 = i
    · exact Or.inr fun q => h3 ⟨hq, q⟩
    · exact Or.inl hq
theorem zLo_st2 {ad : Nat → Nat} {n i : Nat} {L : List (Option Value)} {ls ls' : Array Slot} {v : Value} (h : zLo ad n L ls) (hv : zok n v)
    (h' : lv_has ls' L.length ((i, ztv ad v) :: (zlv ad L).filter (fun q => !(q.1 == i) && (!(q.1 == i + 1) && !(q.1 + 1 == i && q.2.category == 2))))) : zLo ad n (zst2 L i v) ls' := by
  refine ⟨by rw [h'.1]; simp [zst2, zst1_len], h'.2.1, fun j w hw => ?_⟩
  unfold zst2 at hw
  rw [List.getElem?_set] at hw
  by_cases hj : i + 1 = j
  · rw [if_pos hj] at hw
    split at hw <;> cases hw
  · rw [if_neg hj] at hw
    rcases zst1_at hw with ⟨rfl, rfl⟩ | ⟨h1, h2, h3⟩
    · exact ⟨h'.2.2 _ List.mem_cons_self, hv⟩
    · refine ⟨h'.2.2 (j, ztv ad w) (List.mem_cons_of_mem _ (List.mem_filter.mpr ⟨zlv_mem h2, ?_⟩)), (h.2.2 j w h2).2⟩
      simp only [ztv_cat, Bool.and_eq_true, Bool.not_eq_true', beq_eq_false_iff_ne, Bool.and_eq_false_iff, ne_eq]
      refine ⟨h1, fun q => hj q.symm, ?_⟩
      by_cases hq : j + 1 = i
      · exact Or.inr fun q => h3 ⟨hq, q⟩
      · exact Or.inl hq
/-- fewer are said -/
def zsub : List (Option Value) → List (Option Value) → Prop := fun L L' => L'.length = L.length ∧ ∀ (i : Nat) (v : Value), L'[i]? = some (some v) → L[i]? = some (some v)
theorem zsub_nil : zsub [] [] := ⟨rfl, fun _ _ h => h⟩
theorem zsub_keep {v : Option Value} {L L' : List (Option Value)} (h : zsub L L') : zsub (v :: L) (v :: L') := ⟨by simp [h.1], fun i w hw => by
  cases i with
  | zero => exact hw
  | succ i => exact h.2 i w hw⟩
theorem zsub_drop {v : Option Value} {L L' : List (Option Value)} (h : zsub L L') : zsub (v :: L) (none :: L') := ⟨by simp [h.1], fun i w hw => by
  cases i with
  | zero => cases hw
  | succ i => exact h.2 i w hw⟩
theorem zsub_refl (L : List (Option Value)) : zsub L L := ⟨rfl, fun _ _ h => h⟩
theorem zLo_sub {ad : Nat → Nat} {n : Nat} {L L' : List (Option Value)} {ls : Array Slot} (h : zLo ad n L ls) (hs : zsub L L') : zLo ad n L' ls := ⟨by rw [h.1, hs.1], h.2.1, fun i v hv => h.2.2 i v (hs.2 i v hv)⟩
end
section
/-! ===== the judgement: from here the method comes to its end ===== -/
abbrev zT : Type := Program × Launch × Env × Room × State × MethodId × Array Value × List Frame × Method × Code × zZ × (Nat → Nat) × Nat
def zA (Z : zZ) : Nat → Prop := fun q => Z.1.heap.size ≤ q
def zOK (μ : zMem) : Prop := ∀ a j r, a < zN μ → zP μ a j = some r → r < zN μ
def zH (Z : zZ) (ad : Nat → Nat) (μ : zMem) (H : Heap) : Prop := va_P Z.2.1 vwCl (zws Z.2.2 ad μ) H ∧ va_D (zA Z) (zws Z.2.2 ad μ) ∧ zOK μ
def zB (Z : zZ) (H : Heap) : Prop := Z.1.heap.size ≤ H.size ∧ ∀ q : Nat, q < Z.1.heap.size → H[q]? = Z.1.heap[q]?
def zfr (k : Nat) : Nat := 8 * k + 40
def zlo (k : Nat) : Nat := 100 * k + 500
def zrm (k mc ms : Nat) : Room := { frames := zfr k, cells := mc, slots := ms, locals := zlo k }
/-- the good words of the tables -/
def ztb : List Cond := lw_tbl.filter goodWord
def zws1 (m : zM) : List Cond := .code m.1 m.2.1 m.2.2.1 m.2.2.2 :: ztb
theorem ztb_good : ∀ w ∈ ztb, w ∈ lw_tbl ∧ goodWord w = true := fun _ h => List.mem_filter.mp h
theorem ztb_in {w : Cond} (h : w ∈ lw_tbl) (hg : goodWord w = true) : w ∈ ztb := List.mem_filter.mpr ⟨h, hg⟩
theorem zc1 {w : Cond} (h : w ∈ tables_1_1) : w ∈ lw_tbl := List.mem_append_right _ (List.mem_append_left _ h)
theorem zc2 {w : Cond} (h : w ∈ tables_1_2) : w ∈ lw_tbl := List.mem_append_right _ (List.mem_append_right _ (List.mem_append_left _ h))
theorem zc3 {w : Cond} (h : w ∈ tables_1_3) : w ∈ lw_tbl := List.mem_append_right _ (List.mem_append_right _ (List.mem_append_right _ (List.mem_append_left _ h)))
theorem zc4 {w : Cond} (h : w ∈ tables_1_4) : w ∈ lw_tbl := List.mem_append_right _ (List.mem_append_right _ (List.mem_append_right _ (List.mem_append_right _ (List.mem_append_left _ h))))
theorem zc5 {w : Cond} (h : w ∈ tables_1_5) : w ∈ lw_tbl := List.mem_append_right _ (List.mem_append_right _ (List.mem_append_right _ (List.mem_append_right _ (List.mem_append_right _ (List.mem_append_left _ h)))))
theorem zc6 {w : Cond} (h : w ∈ tables_1_6) : w ∈ lw_tbl := List.mem_append_right _ (List.mem_append_right _ (List.mem_append_right _ (List.mem_append_right _ (List.mem_append_right _ (List.mem_append_right _ h)))))
theorem zsel {w : Cond} (h : w ∈ k2_sels lw_privs) : w ∈ lw_tbl := List.mem_append_left _ h
theorem ztb_pay {m : zM} {m' : zM} (h : Cond.code m'.1 m'.2.1 m'.2.2.1 m'.2.2.2 ∈ ztb) : GoodIn (zws1 m) (zws1 m') := by
  intro w hw
  rcases List.mem_cons.mp hw with rfl | hw
  · exact ⟨List.mem_cons_of_mem _ h, good_of_word (ztb_good _ h).2⟩
  · exact ⟨List.mem_cons_of_mem _ hw, good_of_word (ztb_good _ hw).2⟩
/-- what the start gives: the tables' words, the classes -/
def zSt (l : Launch) (Z : zZ) : Prop := (∀ w ∈ lw_tbl, w.onTables = true → va_Nw w Z.1) ∧ va_K Z.2.1 vwCl (ztys Z.2.2) Z.1 ∧ l.stackTraces = false ∧ (∀ C, (C = RX0 ∨ C = RX3 ∨ C = RX4 ∨ C = RX5) → va_AO C Z.1)
/-- a method's frame: p l e R s m args below meth c Z ad n -/
def zCx (τ : zT) (M : zM) (k mc ms : Nat) : Prop :=
  τ.1.tables.exec = Jvm.exec ∧ τ.2.2.2.2.2.2.2.2.2.1.code = M.2.1 ∧ τ.2.2.2.2.2.2.2.2.2.1.maxLocals = M.2.2.1 ∧ τ.2.2.2.2.2.2.2.2.1.sig.returnType = M.2.2.2 ∧ τ.2.2.2.2.1.vm.findClass M.1.cls = some τ.2.2.2.2.2.1.cls ∧ (∀ w ∈ ztb, w.before τ.2.2.2.2.2.2.1 τ.2.2.2.2.1 = true) ∧ τ.2.2.2.2.2.2.2.2.1.locks = false ∧ τ.2.2.2.2.2.2.2.2.1.name = M.1.name ∧ zSt τ.2.1 τ.2.2.2.2.2.2.2.2.2.2.1 ∧ τ.2.2.2.2.2.2.2.2.2.2.1.1.WarmedH τ.2.2.2.2.1.vm ∧ zB τ.2.2.2.2.2.2.2.2.2.2.1 τ.2.2.2.2.1.heap ∧ zfr k ≤ τ.2.2.2.1.frames ∧ zlo k ≤ τ.2.2.2.1.locals ∧ mc ≤ τ.2.2.2.1.cells ∧ ms ≤ τ.2.2.2.1.slots
def zHS (τ : zT) (ad : Nat → Nat) (μ : zMem) (H : Heap) (locs : List Loc) : Prop := zH τ.2.2.2.2.2.2.2.2.2.2.1 ad μ H ∧ va_S (zA τ.2.2.2.2.2.2.2.2.2.2.1) τ.2.2.2.2.1.heap H locs ∧ (∀ a, a < τ.2.2.2.2.2.2.2.2.2.2.2.2 → ad a = τ.2.2.2.2.2.2.2.2.2.2.2.1 a) ∧ τ.2.2.2.2.2.2.2.2.2.2.2.2 ≤ zN μ
abbrev zW (τ : zT) (H : Heap) (locs : List Loc) (c k : Nat) (F : State → Prop) (g : JFrame) : Prop := W τ.1 τ.2.1 τ.2.2.1 τ.2.2.2.1 τ.2.2.2.2.1 τ.2.2.2.2.2.1 τ.2.2.2.2.2.2.1 τ.2.2.2.2.2.2.2.1 τ.2.2.2.2.2.2.2.2.1 τ.2.2.2.2.2.2.2.2.2.1 H locs c k F g
abbrev zF0 (τ : zT) (pc : Nat) (ls : Array Slot) (st : List Value) : JFrame := F0 τ.2.2.2.2.2.1 pc ls st
def zJ (τ : zT) (F : State → Prop) (pc : Nat) (L : List (Option Value)) (st : List Value) (μ : zMem) (c k : Nat) : Prop :=
  ∀ (ad : Nat → Nat) (H : Heap) (locs : List Loc) (ls : Array Slot), zHS τ ad μ H locs → zLo ad (zN μ) L ls → zoks (zN μ) st → zW τ H locs c k F (zF0 τ pc ls (st.map (ztv ad)))
section ZR
variable {τ : zT} {M : zM} {kk mc ms : Nat} {F : State → Prop} {pc : Nat} {L : List (Option Value)} {st : List Value} {μ : zMem} {c k : Nat}
theorem J_L {L' : List (Option Value)} (hs : zsub L L') (h : zJ τ F pc L' st μ c k) : zJ τ F pc L st μ c k := fun ad H locs ls hw hL hst => h ad H locs ls hw (zLo_sub hL hs) hst
theorem J_st {st' : List Value} (h : zJ τ F pc L st' μ c k) (e : st = st') : zJ τ F pc L st μ c k := e ▸ h
theorem J_mu {μ' : zMem} (e : μ = μ') (h : zJ τ F pc L st μ' c k) : zJ τ F pc L st μ c k := e ▸ h
theorem J_pc {pc' : Nat} (e : pc = pc') (h : zJ τ F pc' L st μ c k) : zJ τ F pc L st μ c k := e ▸ h
theorem J_topi {x : Int32} (h : ∀ y : Int32, y = x → zJ τ F pc L (.int y :: st) μ c k) : zJ τ F pc L (.int x :: st) μ c k := h x rfl
theorem J_topil {x y : Int32} (e : x = y) (h : zJ τ F pc L (.int y :: st) μ c k) : zJ τ F pc L (.int x :: st) μ c k := e ▸ h

theorem J_iconst (hT : zCx τ M kk mc ms) {n : Int} {v : Int32} (hd : decode M.2.1 pc = .ok (.iconst n, 1)) (hv : Int32.ofInt n = v) (h : zJ τ F (pc + 1) L (.int v :: st) μ c k) : zJ τ F pc L (st) μ c k := by
  intro ad H locs ls hw hL hst
  refine lv_iconst hT.1 hT.2.1 hd hv ?_
  exact h ad H locs ls hw hL (zoks_cons (zok_int _ _) hst)

theorem J_bipush (hT : zCx τ M kk mc ms) {n : Int} {v : Int32} (hd : decode M.2.1 pc = .ok (.bipush n, 2)) (hv : (Int8.ofInt n).toInt32 = v) (h : zJ τ F (pc + 2) L (.int v :: st) μ c k) : zJ τ F pc L (st) μ c k := by
  intro ad H locs ls hw hL hst
  refine lv_bipush hT.1 hT.2.1 hd hv ?_
  exact h ad H locs ls hw hL (zoks_cons (zok_int _ _) hst)

theorem J_sipush (hT : zCx τ M kk mc ms) {n : Int} {v : Int32} (hd : decode M.2.1 pc = .ok (.sipush n, 3)) (hv : (Int16.ofInt n).toInt32 = v) (h : zJ τ F (pc + 3) L (.int v :: st) μ c k) : zJ τ F pc L (st) μ c k := by
  intro ad H locs ls hw hL hst
  refine lv_sipush hT.1 hT.2.1 hd hv ?_
  exact h ad H locs ls hw hL (zoks_cons (zok_int _ _) hst)

theorem J_lconst (hT : zCx τ M kk mc ms) {n : Fin 2} {v : Int64} (hd : decode M.2.1 pc = .ok (.lconst n, 1)) (hv : Int64.ofNat (n : Nat) = v) (h : zJ τ F (pc + 1) L (.long v :: st) μ c k) : zJ τ F pc L (st) μ c k := by
  intro ad H locs ls hw hL hst
  refine lv_lconst hT.1 hT.2.1 hd hv ?_
  exact h ad H locs ls hw hL (zoks_cons (zok_long _ _) hst)

theorem J_null (hT : zCx τ M kk mc ms) (hd : decode M.2.1 pc = .ok (.aconst_null, 1)) (h : zJ τ F (pc + 1) L (.null :: st) μ c k) : zJ τ F pc L (st) μ c k := by
  intro ad H locs ls hw hL hst
  refine lv_null hT.1 hT.2.1 hd ?_
  exact h ad H locs ls hw hL (zoks_cons (zok_null _) hst)

theorem J_iadd (hT : zCx τ M kk mc ms) {x y : Int32} (hd : decode M.2.1 pc = .ok (.iadd, 1)) (h : zJ τ F (pc + 1) L (.int (x + y) :: st) μ c k) : zJ τ F pc L (.int y :: .int x :: st) μ c k := by
  intro ad H locs ls hw hL hst
  refine lv_iadd hT.1 hT.2.1 hd ?_
  have hst := zoks_tl hst
  have hst := zoks_tl hst
  exact h ad H locs ls hw hL (zoks_cons (zok_int _ _) hst)

theorem J_isub (hT : zCx τ M kk mc ms) {x y : Int32} (hd : decode M.2.1 pc = .ok (.isub, 1)) (h : zJ τ F (pc + 1) L (.int (x - y) :: st) μ c k) : zJ τ F pc L (.int y :: .int x :: st) μ c k := by
  intro ad H locs ls hw hL hst
  refine lv_isub hT.1 hT.2.1 hd ?_
  have hst := zoks_tl hst
  have hst := zoks_tl hst
  exact h ad H locs ls hw hL (zoks_cons (zok_int _ _) hst)

theorem J_imul (hT : zCx τ M kk mc ms) {x y : Int32} (hd : decode M.2.1 pc = .ok (.imul, 1)) (h : zJ τ F (pc + 1) L (.int (x * y) :: st) μ c k) : zJ τ F pc L (.int y :: .int x :: st) μ c k := by
  intro ad H locs ls hw hL hst
  refine lv_imul hT.1 hT.2.1 hd ?_
  have hst := zoks_tl hst
  have hst := zoks_tl hst
  exact h ad H locs ls hw hL (zoks_cons (zok_int _ _) hst)

theorem J_iand (hT : zCx τ M kk mc ms) {x y : Int32} (hd : decode M.2.1 pc = .ok (.iand, 1)) (h : zJ τ F (pc + 1) L (.int (x &&& y) :: st) μ c k) : zJ τ F pc L (.int y :: .int x :: st) μ c k := by
  intro ad H locs ls hw hL hst
  refine lv_iand hT.1 hT.2.1 hd ?_
  have hst := zoks_tl hst
  have hst := zoks_tl hst
  exact h ad H locs ls hw hL (zoks_cons (zok_int _ _) hst)

theorem J_ior (hT : zCx τ M kk mc ms) {x y : Int32} (hd : decode M.2.1 pc = .ok (.ior, 1)) (h : zJ τ F (pc + 1) L (.int (x ||| y) :: st) μ c k) : zJ τ F pc L (.int y :: .int x :: st) μ c k := by
  intro ad H locs ls hw hL hst
  refine lv_ior hT.1 hT.2.1 hd ?_
  have hst := zoks_tl hst
  have hst := zoks_tl hst
  exact h ad H locs ls hw hL (zoks_cons (zok_int _ _) hst)

theorem J_ixor (hT : zCx τ M kk mc ms) {x y : Int32} (hd : decode M.2.1 pc = .ok (.ixor, 1)) (h : zJ τ F (pc + 1) L (.int (x ^^^ y) :: st) μ c k) : zJ τ F pc L (.int y :: .int x :: st) μ c k := by
  intro ad H locs ls hw hL hst
  refine lv_ixor hT.1 hT.2.1 hd ?_
  have hst := zoks_tl hst
  have hst := zoks_tl hst
  exact h ad H locs ls hw hL (zoks_cons (zok_int _ _) hst)

theorem J_ladd (hT : zCx τ M kk mc ms) {x y : Int64} (hd : decode M.2.1 pc = .ok (.ladd, 1)) (h : zJ τ F (pc + 1) L (.long (x + y) :: st) μ c k) : zJ τ F pc L (.long y :: .long x :: st) μ c k := by
  intro ad H locs ls hw hL hst
  refine lv_ladd hT.1 hT.2.1 hd ?_
  have hst := zoks_tl hst
  have hst := zoks_tl hst
  exact h ad H locs ls hw hL (zoks_cons (zok_long _ _) hst)

theorem J_lsub (hT : zCx τ M kk mc ms) {x y : Int64} (hd : decode M.2.1 pc = .ok (.lsub, 1)) (h : zJ τ F (pc + 1) L (.long (x - y) :: st) μ c k) : zJ τ F pc L (.long y :: .long x :: st) μ c k := by
  intro ad H locs ls hw hL hst
  refine lv_lsub hT.1 hT.2.1 hd ?_
  have hst := zoks_tl hst
  have hst := zoks_tl hst
  exact h ad H locs ls hw hL (zoks_cons (zok_long _ _) hst)

theorem J_lmul (hT : zCx τ M kk mc ms) {x y : Int64} (hd : decode M.2.1 pc = .ok (.lmul, 1)) (h : zJ τ F (pc + 1) L (.long (x * y) :: st) μ c k) : zJ τ F pc L (.long y :: .long x :: st) μ c k := by
  intro ad H locs ls hw hL hst
  refine lv_lmul hT.1 hT.2.1 hd ?_
  have hst := zoks_tl hst
  have hst := zoks_tl hst
  exact h ad H locs ls hw hL (zoks_cons (zok_long _ _) hst)

theorem J_ineg (hT : zCx τ M kk mc ms) {x : Int32} (hd : decode M.2.1 pc = .ok (.ineg, 1)) (h : zJ τ F (pc + 1) L (.int (-x) :: st) μ c k) : zJ τ F pc L (.int x :: st) μ c k := by
  intro ad H locs ls hw hL hst
  refine lv_ineg hT.1 hT.2.1 hd ?_
  have hst := zoks_tl hst
  exact h ad H locs ls hw hL (zoks_cons (zok_int _ _) hst)

theorem J_lneg (hT : zCx τ M kk mc ms) {x : Int64} (hd : decode M.2.1 pc = .ok (.lneg, 1)) (h : zJ τ F (pc + 1) L (.long (-x) :: st) μ c k) : zJ τ F pc L (.long x :: st) μ c k := by
  intro ad H locs ls hw hL hst
  refine lv_lneg hT.1 hT.2.1 hd ?_
  have hst := zoks_tl hst
  exact h ad H locs ls hw hL (zoks_cons (zok_long _ _) hst)

theorem J_i2l (hT : zCx τ M kk mc ms) {x : Int32} (hd : decode M.2.1 pc = .ok (.i2l, 1)) (h : zJ τ F (pc + 1) L (.long x.toInt64 :: st) μ c k) : zJ τ F pc L (.int x :: st) μ c k := by
  intro ad H locs ls hw hL hst
  refine lv_i2l hT.1 hT.2.1 hd rfl ?_
  have hst := zoks_tl hst
  exact h ad H locs ls hw hL (zoks_cons (zok_long _ _) hst)

theorem J_l2i (hT : zCx τ M kk mc ms) {x : Int64} (hd : decode M.2.1 pc = .ok (.l2i, 1)) (h : zJ τ F (pc + 1) L (.int x.toInt32 :: st) μ c k) : zJ τ F pc L (.long x :: st) μ c k := by
  intro ad H locs ls hw hL hst
  refine lv_l2i hT.1 hT.2.1 hd rfl ?_
  have hst := zoks_tl hst
  exact h ad H locs ls hw hL (zoks_cons (zok_int _ _) hst)

theorem J_i2c (hT : zCx τ M kk mc ms) {x : Int32} (hd : decode M.2.1 pc = .ok (.i2c, 1)) (h : zJ τ F (pc + 1) L (.int (x.toUInt32 % 65536).toInt32 :: st) μ c k) : zJ τ F pc L (.int x :: st) μ c k := by
  intro ad H locs ls hw hL hst
  refine lv_i2c hT.1 hT.2.1 hd rfl ?_
  have hst := zoks_tl hst
  exact h ad H locs ls hw hL (zoks_cons (zok_int _ _) hst)

theorem J_lcmp (hT : zCx τ M kk mc ms) {x y : Int64} (hd : decode M.2.1 pc = .ok (.lcmp, 1)) (h : zJ τ F (pc + 1) L (.int (lg_cmp x y) :: st) μ c k) : zJ τ F pc L (.long y :: .long x :: st) μ c k := by
  intro ad H locs ls hw hL hst
  refine W.lcmp hT.1 hT.2.1 hd ?_
  have hst := zoks_tl hst
  have hst := zoks_tl hst
  exact h ad H locs ls hw hL (zoks_cons (zok_int _ _) hst)

theorem J_if_eq (hT : zCx τ M kk mc ms) {x : Int32} {off : Int} {tgt : Nat} (hd : decode M.2.1 pc = .ok (.ifCond .eq off, 3)) (ht : (pc : Int) + off = (tgt : Int)) (h1 : x = 0 → zJ τ F tgt L st μ c k) (h2 : ¬ (x = 0) → zJ τ F (pc + 3) L st μ c k) : zJ τ F pc L (.int x :: st) μ c k := by
  intro ad H locs ls hw hL hst
  exact lv_if_eq hT.1 hT.2.1 hd ht (fun q => h1 q ad H locs ls hw hL (zoks_tl hst)) (fun q => h2 q ad H locs ls hw hL (zoks_tl hst))

theorem J_icmp_eq (hT : zCx τ M kk mc ms) {x y : Int32} {off : Int} {tgt : Nat} (hd : decode M.2.1 pc = .ok (.if_icmp .eq off, 3)) (ht : (pc : Int) + off = (tgt : Int)) (h1 : x = y → zJ τ F tgt L st μ c k) (h2 : ¬ (x = y) → zJ τ F (pc + 3) L st μ c k) : zJ τ F pc L (.int y :: .int x :: st) μ c k := by
  intro ad H locs ls hw hL hst
  exact lv_icmp_eq hT.1 hT.2.1 hd ht (fun q => h1 q ad H locs ls hw hL (zoks_tl (zoks_tl hst))) (fun q => h2 q ad H locs ls hw hL (zoks_tl (zoks_tl hst)))

theorem J_if_ne (hT : zCx τ M kk mc ms) {x : Int32} {off : Int} {tgt : Nat} (hd : decode M.2.1 pc = .ok (.ifCond .ne off, 3)) (ht : (pc : Int) + off = (tgt : Int)) (h1 : ¬ x = 0 → zJ τ F tgt L st μ c k) (h2 : x = 0 → zJ τ F (pc + 3) L st μ c k) : zJ τ F pc L (.int x :: st) μ c k := by
  intro ad H locs ls hw hL hst
  exact lv_if_ne hT.1 hT.2.1 hd ht (fun q => h1 q ad H locs ls hw hL (zoks_tl hst)) (fun q => h2 q ad H locs ls hw hL (zoks_tl hst))

theorem J_icmp_ne (hT : zCx τ M kk mc ms) {x y : Int32} {off : Int} {tgt : Nat} (hd : decode M.2.1 pc = .ok (.if_icmp .ne off, 3)) (ht : (pc : Int) + off = (tgt : Int)) (h1 : ¬ x = y → zJ τ F tgt L st μ c k) (h2 : x = y → zJ τ F (pc + 3) L st μ c k) : zJ τ F pc L (.int y :: .int x :: st) μ c k := by
  intro ad H locs ls hw hL hst
  exact lv_icmp_ne hT.1 hT.2.1 hd ht (fun q => h1 q ad H locs ls hw hL (zoks_tl (zoks_tl hst))) (fun q => h2 q ad H locs ls hw hL (zoks_tl (zoks_tl hst)))

theorem J_if_lt (hT : zCx τ M kk mc ms) {x : Int32} {off : Int} {tgt : Nat} (hd : decode M.2.1 pc = .ok (.ifCond .lt off, 3)) (ht : (pc : Int) + off = (tgt : Int)) (h1 : x < 0 → zJ τ F tgt L st μ c k) (h2 : ¬ (x < 0) → zJ τ F (pc + 3) L st μ c k) : zJ τ F pc L (.int x :: st) μ c k := by
  intro ad H locs ls hw hL hst
  exact lv_if_lt hT.1 hT.2.1 hd ht (fun q => h1 q ad H locs ls hw hL (zoks_tl hst)) (fun q => h2 q ad H locs ls hw hL (zoks_tl hst))

theorem J_icmp_lt (hT : zCx τ M kk mc ms) {x y : Int32} {off : Int} {tgt : Nat} (hd : decode M.2.1 pc = .ok (.if_icmp .lt off, 3)) (ht : (pc : Int) + off = (tgt : Int)) (h1 : x < y → zJ τ F tgt L st μ c k) (h2 : ¬ (x < y) → zJ τ F (pc + 3) L st μ c k) : zJ τ F pc L (.int y :: .int x :: st) μ c k := by
  intro ad H locs ls hw hL hst
  exact lv_icmp_lt hT.1 hT.2.1 hd ht (fun q => h1 q ad H locs ls hw hL (zoks_tl (zoks_tl hst))) (fun q => h2 q ad H locs ls hw hL (zoks_tl (zoks_tl hst)))

theorem J_if_ge (hT : zCx τ M kk mc ms) {x : Int32} {off : Int} {tgt : Nat} (hd : decode M.2.1 pc = .ok (.ifCond .ge off, 3)) (ht : (pc : Int) + off = (tgt : Int)) (h1 : x ≥ 0 → zJ τ F tgt L st μ c k) (h2 : ¬ (x ≥ 0) → zJ τ F (pc + 3) L st μ c k) : zJ τ F pc L (.int x :: st) μ c k := by
  intro ad H locs ls hw hL hst
  exact lv_if_ge hT.1 hT.2.1 hd ht (fun q => h1 q ad H locs ls hw hL (zoks_tl hst)) (fun q => h2 q ad H locs ls hw hL (zoks_tl hst))

theorem J_icmp_ge (hT : zCx τ M kk mc ms) {x y : Int32} {off : Int} {tgt : Nat} (hd : decode M.2.1 pc = .ok (.if_icmp .ge off, 3)) (ht : (pc : Int) + off = (tgt : Int)) (h1 : x ≥ y → zJ τ F tgt L st μ c k) (h2 : ¬ (x ≥ y) → zJ τ F (pc + 3) L st μ c k) : zJ τ F pc L (.int y :: .int x :: st) μ c k := by
  intro ad H locs ls hw hL hst
  exact lv_icmp_ge hT.1 hT.2.1 hd ht (fun q => h1 q ad H locs ls hw hL (zoks_tl (zoks_tl hst))) (fun q => h2 q ad H locs ls hw hL (zoks_tl (zoks_tl hst)))

theorem J_if_gt (hT : zCx τ M kk mc ms) {x : Int32} {off : Int} {tgt : Nat} (hd : decode M.2.1 pc = .ok (.ifCond .gt off, 3)) (ht : (pc : Int) + off = (tgt : Int)) (h1 : x > 0 → zJ τ F tgt L st μ c k) (h2 : ¬ (x > 0) → zJ τ F (pc + 3) L st μ c k) : zJ τ F pc L (.int x :: st) μ c k := by
  intro ad H locs ls hw hL hst
  exact lv_if_gt hT.1 hT.2.1 hd ht (fun q => h1 q ad H locs ls hw hL (zoks_tl hst)) (fun q => h2 q ad H locs ls hw hL (zoks_tl hst))

theorem J_icmp_gt (hT : zCx τ M kk mc ms) {x y : Int32} {off : Int} {tgt : Nat} (hd : decode M.2.1 pc = .ok (.if_icmp .gt off, 3)) (ht : (pc : Int) + off = (tgt : Int)) (h1 : x > y → zJ τ F tgt L st μ c k) (h2 : ¬ (x > y) → zJ τ F (pc + 3) L st μ c k) : zJ τ F pc L (.int y :: .int x :: st) μ c k := by
  intro ad H locs ls hw hL hst
  exact lv_icmp_gt hT.1 hT.2.1 hd ht (fun q => h1 q ad H locs ls hw hL (zoks_tl (zoks_tl hst))) (fun q => h2 q ad H locs ls hw hL (zoks_tl (zoks_tl hst)))

theorem J_if_le (hT : zCx τ M kk mc ms) {x : Int32} {off : Int} {tgt : Nat} (hd : decode M.2.1 pc = .ok (.ifCond .le off, 3)) (ht : (pc : Int) + off = (tgt : Int)) (h1 : x ≤ 0 → zJ τ F tgt L st μ c k) (h2 : ¬ (x ≤ 0) → zJ τ F (pc + 3) L st μ c k) : zJ τ F pc L (.int x :: st) μ c k := by
  intro ad H locs ls hw hL hst
  exact lv_if_le hT.1 hT.2.1 hd ht (fun q => h1 q ad H locs ls hw hL (zoks_tl hst)) (fun q => h2 q ad H locs ls hw hL (zoks_tl hst))

theorem J_icmp_le (hT : zCx τ M kk mc ms) {x y : Int32} {off : Int} {tgt : Nat} (hd : decode M.2.1 pc = .ok (.if_icmp .le off, 3)) (ht : (pc : Int) + off = (tgt : Int)) (h1 : x ≤ y → zJ τ F tgt L st μ c k) (h2 : ¬ (x ≤ y) → zJ τ F (pc + 3) L st μ c k) : zJ τ F pc L (.int y :: .int x :: st) μ c k := by
  intro ad H locs ls hw hL hst
  exact lv_icmp_le hT.1 hT.2.1 hd ht (fun q => h1 q ad H locs ls hw hL (zoks_tl (zoks_tl hst))) (fun q => h2 q ad H locs ls hw hL (zoks_tl (zoks_tl hst)))

theorem J_goto (hT : zCx τ M kk mc ms) {off : Int} {tgt : Nat} (hd : decode M.2.1 pc = .ok (.goto off, 3)) (ht : (pc : Int) + off = (tgt : Int)) (h : zJ τ F tgt L st μ c k) : zJ τ F pc L st μ c k := by
  intro ad H locs ls hw hL hst
  exact lv_goto hT.1 hT.2.1 hd ht (h ad H locs ls hw hL hst)
theorem J_ishl (hT : zCx τ M kk mc ms) {x y : Int32} (hd : decode M.2.1 pc = .ok (.ishl, 1)) (h : zJ τ F (pc + 1) L (.int (x <<< (y &&& 31)) :: st) μ c k) : zJ τ F pc L (.int y :: .int x :: st) μ c k := by
  intro ad H locs ls hw hL hst
  refine lv_ishl hT.1 hT.2.1 hd ?_
  exact h ad H locs ls hw hL (zoks_cons (zok_int _ _) (zoks_tl (zoks_tl hst)))
theorem J_ishr (hT : zCx τ M kk mc ms) {x y : Int32} (hd : decode M.2.1 pc = .ok (.ishr, 1)) (h : zJ τ F (pc + 1) L (.int (x >>> (y &&& 31)) :: st) μ c k) : zJ τ F pc L (.int y :: .int x :: st) μ c k := by
  intro ad H locs ls hw hL hst
  refine lv_ishr hT.1 hT.2.1 hd ?_
  exact h ad H locs ls hw hL (zoks_cons (zok_int _ _) (zoks_tl (zoks_tl hst)))
theorem J_dup (hT : zCx τ M kk mc ms) {v : Value} (hd : decode M.2.1 pc = .ok (.dup, 1)) (hv : v.category = 1) (h : zJ τ F (pc + 1) L (v :: v :: st) μ c k) : zJ τ F pc L (v :: st) μ c k := by
  intro ad H locs ls hw hL hst
  exact lv_dup hT.1 hT.2.1 hd (by rw [ztv_cat]; exact hv) (h ad H locs ls hw hL (zoks_cons (zoks_hd hst) hst))
theorem J_dup2 (hT : zCx τ M kk mc ms) {v w : Value} (hd : decode M.2.1 pc = .ok (.dup2, 1)) (hv : v.category = 1) (hw' : w.category = 1) (h : zJ τ F (pc + 1) L (v :: w :: v :: w :: st) μ c k) : zJ τ F pc L (v :: w :: st) μ c k := by
  intro ad H locs ls hw hL hst
  exact lv_dup2_11 hT.1 hT.2.1 hd (by rw [ztv_cat]; exact hv) (by rw [ztv_cat]; exact hw') (h ad H locs ls hw hL (zoks_cons (zoks_hd hst) (zoks_cons (zoks_hd (zoks_tl hst)) hst)))
theorem J_pop (hT : zCx τ M kk mc ms) {v : Value} (hd : decode M.2.1 pc = .ok (.pop, 1)) (hv : v.category = 1) (h : zJ τ F (pc + 1) L st μ c k) : zJ τ F pc L (v :: st) μ c k := by
  intro ad H locs ls hw hL hst
  exact lv_pop hT.1 hT.2.1 hd (by rw [ztv_cat]; exact hv) (h ad H locs ls hw hL (zoks_tl hst))
theorem J_ifnonnull (hT : zCx τ M kk mc ms) {a : Nat} {off : Int} {tgt : Nat} (hd : decode M.2.1 pc = .ok (.ifnonnull off, 3)) (ht : (pc : Int) + off = (tgt : Int)) (h : zJ τ F tgt L st μ c k) : zJ τ F pc L (.ref a :: st) μ c k := by
  intro ad H locs ls hw hL hst
  exact lv_ifnonnull hT.1 hT.2.1 hd ht (h ad H locs ls hw hL (zoks_tl hst))
theorem J_ifnull (hT : zCx τ M kk mc ms) {a : Nat} {off : Int} (hd : decode M.2.1 pc = .ok (.ifnull off, 3)) (h : zJ τ F (pc + 3) L st μ c k) : zJ τ F pc L (.ref a :: st) μ c k := by
  intro ad H locs ls hw hL hst
  exact lv_ifnull hT.1 hT.2.1 hd (h ad H locs ls hw hL (zoks_tl hst))
theorem J_ifnullN (hT : zCx τ M kk mc ms) {off : Int} {tgt : Nat} (hd : decode M.2.1 pc = .ok (.ifnull off, 3)) (ht : (pc : Int) + off = (tgt : Int)) (h : zJ τ F tgt L st μ c k) : zJ τ F pc L (.null :: st) μ c k := by
  intro ad H locs ls hw hL hst
  exact lv_ifnullN hT.1 hT.2.1 hd ht (h ad H locs ls hw hL (zoks_tl hst))
theorem J_ifnonnullN (hT : zCx τ M kk mc ms) {off : Int} (hd : decode M.2.1 pc = .ok (.ifnonnull off, 3)) (h : zJ τ F (pc + 3) L st μ c k) : zJ τ F pc L (.null :: st) μ c k := by
  intro ad H locs ls hw hL hst
  exact lv_ifnonnullN hT.1 hT.2.1 hd (h ad H locs ls hw hL (zoks_tl hst))
theorem J_tableIn (hT : zCx τ M kk mc ms) {dflt lo hi : Int} {offs : Array Int} {len : Nat} {x : Int32} {off : Int} {tgt : Nat} (hd : decode M.2.1 pc = .ok (.tableswitch dflt lo hi offs, len)) (h1 : ¬ x.toInt < lo) (h2 : ¬ hi < x.toInt) (ho : offs[(x.toInt - lo).toNat]? = some off) (ht : (pc : Int) + off = (tgt : Int)) (h : zJ τ F tgt L st μ c k) : zJ τ F pc L (.int x :: st) μ c k := by
  intro ad H locs ls hw hL hst
  exact lv_tableIn hT.1 hT.2.1 hd h1 h2 ho ht (h ad H locs ls hw hL (zoks_tl hst))
theorem J_tableOut (hT : zCx τ M kk mc ms) {dflt lo hi : Int} {offs : Array Int} {len : Nat} {x : Int32} {tgt : Nat} (hd : decode M.2.1 pc = .ok (.tableswitch dflt lo hi offs, len)) (h1 : x.toInt < lo ∨ hi < x.toInt) (ht : (pc : Int) + dflt = (tgt : Int)) (h : zJ τ F tgt L st μ c k) : zJ τ F pc L (.int x :: st) μ c k := by
  intro ad H locs ls hw hL hst
  exact lv_tableOut hT.1 hT.2.1 hd h1 ht (h ad H locs ls hw hL (zoks_tl hst))
theorem J_lookup (hT : zCx τ M kk mc ms) {dflt : Int} {ps : Array (Int × Int)} {len : Nat} {x : Int32} {off : Int} {tgt : Nat} (hd : decode M.2.1 pc = .ok (.lookupswitch dflt ps, len)) (hp : (ps.toList.zip (ps.toList.drop 1)).all (fun (a, next) => a.1 < next.1) = true) (ho : Op.lookupswitch.offset ps.toList dflt x.toInt = off) (ht : (pc : Int) + off = (tgt : Int)) (h : zJ τ F tgt L st μ c k) : zJ τ F pc L (.int x :: st) μ c k := by
  intro ad H locs ls hw hL hst
  exact lv_lookup hT.1 hT.2.1 hd hp ho ht (h ad H locs ls hw hL (zoks_tl hst))

theorem J_iload_n (hT : zCx τ M kk mc ms) {q : Fin 4} {i : Nat} {x : Int32} (hd : decode M.2.1 pc = .ok (.iload_n q, 1)) (hi : (q : Nat) = i) (hl : L[i]? = some (some (.int x))) (h : zJ τ F (pc + 1) L (.int x :: st) μ c k) : zJ τ F pc L st μ c k := by
  intro ad H locs ls hw hL hst
  exact lv_iload_n hT.1 hT.2.1 hd hi (hL.2.2 i _ hl).1 (h ad H locs ls hw hL (zoks_cons (hL.2.2 i _ hl).2 hst))

theorem J_iload (hT : zCx τ M kk mc ms) {i : Nat} {x : Int32} (hd : decode M.2.1 pc = .ok (.iload i, 2)) (hl : L[i]? = some (some (.int x))) (h : zJ τ F (pc + 2) L (.int x :: st) μ c k) : zJ τ F pc L st μ c k := by
  intro ad H locs ls hw hL hst
  exact lv_iload hT.1 hT.2.1 hd (hL.2.2 i _ hl).1 (h ad H locs ls hw hL (zoks_cons (hL.2.2 i _ hl).2 hst))

theorem J_lload_n (hT : zCx τ M kk mc ms) {q : Fin 4} {i : Nat} {x : Int64} (hd : decode M.2.1 pc = .ok (.lload_n q, 1)) (hi : (q : Nat) = i) (hl : L[i]? = some (some (.long x))) (h : zJ τ F (pc + 1) L (.long x :: st) μ c k) : zJ τ F pc L st μ c k := by
  intro ad H locs ls hw hL hst
  exact lv_lload_n hT.1 hT.2.1 hd hi (hL.2.2 i _ hl).1 (h ad H locs ls hw hL (zoks_cons (hL.2.2 i _ hl).2 hst))

theorem J_lload (hT : zCx τ M kk mc ms) {i : Nat} {x : Int64} (hd : decode M.2.1 pc = .ok (.lload i, 2)) (hl : L[i]? = some (some (.long x))) (h : zJ τ F (pc + 2) L (.long x :: st) μ c k) : zJ τ F pc L st μ c k := by
  intro ad H locs ls hw hL hst
  exact lv_lload hT.1 hT.2.1 hd (hL.2.2 i _ hl).1 (h ad H locs ls hw hL (zoks_cons (hL.2.2 i _ hl).2 hst))

theorem J_aload_n (hT : zCx τ M kk mc ms) {q : Fin 4} {i : Nat} {x : Nat} (hd : decode M.2.1 pc = .ok (.aload_n q, 1)) (hi : (q : Nat) = i) (hl : L[i]? = some (some (.ref x))) (h : zJ τ F (pc + 1) L (.ref x :: st) μ c k) : zJ τ F pc L st μ c k := by
  intro ad H locs ls hw hL hst
  exact lv_aload_n hT.1 hT.2.1 hd hi (hL.2.2 i _ hl).1 (h ad H locs ls hw hL (zoks_cons (hL.2.2 i _ hl).2 hst))

theorem J_aload (hT : zCx τ M kk mc ms) {i : Nat} {x : Nat} (hd : decode M.2.1 pc = .ok (.aload i, 2)) (hl : L[i]? = some (some (.ref x))) (h : zJ τ F (pc + 2) L (.ref x :: st) μ c k) : zJ τ F pc L st μ c k := by
  intro ad H locs ls hw hL hst
  exact lv_aload hT.1 hT.2.1 hd (hL.2.2 i _ hl).1 (h ad H locs ls hw hL (zoks_cons (hL.2.2 i _ hl).2 hst))

theorem J_aload_nN (hT : zCx τ M kk mc ms) {q : Fin 4} {i : Nat} (hd : decode M.2.1 pc = .ok (.aload_n q, 1)) (hi : (q : Nat) = i) (hl : L[i]? = some (some .null)) (h : zJ τ F (pc + 1) L (.null :: st) μ c k) : zJ τ F pc L st μ c k := by
  intro ad H locs ls hw hL hst
  exact lv_aload_nN hT.1 hT.2.1 hd hi (hL.2.2 i _ hl).1 (h ad H locs ls hw hL (zoks_cons (hL.2.2 i _ hl).2 hst))

theorem J_aloadN (hT : zCx τ M kk mc ms) {i : Nat} (hd : decode M.2.1 pc = .ok (.aload i, 2)) (hl : L[i]? = some (some .null)) (h : zJ τ F (pc + 2) L (.null :: st) μ c k) : zJ τ F pc L st μ c k := by
  intro ad H locs ls hw hL hst
  exact lv_aloadN hT.1 hT.2.1 hd (hL.2.2 i _ hl).1 (h ad H locs ls hw hL (zoks_cons (hL.2.2 i _ hl).2 hst))

theorem J_istore_n (hT : zCx τ M kk mc ms) {q : Fin 4} {i : Nat} {x : Int32} (hd : decode M.2.1 pc = .ok (.istore_n q, 1)) (hi : (q : Nat) = i) (hl : (i + 0 < L.length)) (h : zJ τ F (pc + 1) (zst1 L i (.int x)) st μ c k) : zJ τ F pc L (.int x :: st) μ c k := by
  intro ad H locs ls hw hL hst
  exact lv_istore_n (lv := zlv ad L) hT.1 hT.2.1 hd hi (zLo_has hL) hl rfl (fun ls' h' => h ad H locs ls' hw (zLo_st1 (v := .int x) hL (zoks_hd hst) h') (zoks_tl hst))

theorem J_istore (hT : zCx τ M kk mc ms) {i : Nat} {x : Int32} (hd : decode M.2.1 pc = .ok (.istore i, 2)) (hl : (i + 0 < L.length)) (h : zJ τ F (pc + 2) (zst1 L i (.int x)) st μ c k) : zJ τ F pc L (.int x :: st) μ c k := by
  intro ad H locs ls hw hL hst
  exact lv_istore (lv := zlv ad L) hT.1 hT.2.1 hd (zLo_has hL) hl rfl (fun ls' h' => h ad H locs ls' hw (zLo_st1 (v := .int x) hL (zoks_hd hst) h') (zoks_tl hst))

theorem J_lstore_n (hT : zCx τ M kk mc ms) {q : Fin 4} {i : Nat} {x : Int64} (hd : decode M.2.1 pc = .ok (.lstore_n q, 1)) (hi : (q : Nat) = i) (hl : (i + 1 < L.length)) (h : zJ τ F (pc + 1) (zst2 L i (.long x)) st μ c k) : zJ τ F pc L (.long x :: st) μ c k := by
  intro ad H locs ls hw hL hst
  exact lv_lstore_n (lv := zlv ad L) hT.1 hT.2.1 hd hi (zLo_has hL) hl rfl (fun ls' h' => h ad H locs ls' hw (zLo_st2 (v := .long x) hL (zoks_hd hst) h') (zoks_tl hst))

theorem J_lstore (hT : zCx τ M kk mc ms) {i : Nat} {x : Int64} (hd : decode M.2.1 pc = .ok (.lstore i, 2)) (hl : (i + 1 < L.length)) (h : zJ τ F (pc + 2) (zst2 L i (.long x)) st μ c k) : zJ τ F pc L (.long x :: st) μ c k := by
  intro ad H locs ls hw hL hst
  exact lv_lstore (lv := zlv ad L) hT.1 hT.2.1 hd (zLo_has hL) hl rfl (fun ls' h' => h ad H locs ls' hw (zLo_st2 (v := .long x) hL (zoks_hd hst) h') (zoks_tl hst))

theorem J_astore_n (hT : zCx τ M kk mc ms) {q : Fin 4} {i : Nat} {x : Nat} (hd : decode M.2.1 pc = .ok (.astore_n q, 1)) (hi : (q : Nat) = i) (hl : (i + 0 < L.length)) (h : zJ τ F (pc + 1) (zst1 L i (.ref x)) st μ c k) : zJ τ F pc L (.ref x :: st) μ c k := by
  intro ad H locs ls hw hL hst
  exact lv_astore_n (lv := zlv ad L) hT.1 hT.2.1 hd hi (zLo_has hL) hl rfl (fun ls' h' => h ad H locs ls' hw (zLo_st1 (v := .ref x) hL (zoks_hd hst) h') (zoks_tl hst))

theorem J_astore (hT : zCx τ M kk mc ms) {i : Nat} {x : Nat} (hd : decode M.2.1 pc = .ok (.astore i, 2)) (hl : (i + 0 < L.length)) (h : zJ τ F (pc + 2) (zst1 L i (.ref x)) st μ c k) : zJ τ F pc L (.ref x :: st) μ c k := by
  intro ad H locs ls hw hL hst
  exact lv_astore (lv := zlv ad L) hT.1 hT.2.1 hd (zLo_has hL) hl rfl (fun ls' h' => h ad H locs ls' hw (zLo_st1 (v := .ref x) hL (zoks_hd hst) h') (zoks_tl hst))

theorem J_astore_nN (hT : zCx τ M kk mc ms) {q : Fin 4} {i : Nat} (hd : decode M.2.1 pc = .ok (.astore_n q, 1)) (hi : (q : Nat) = i) (hl : (i + 0 < L.length)) (h : zJ τ F (pc + 1) (zst1 L i (.null)) st μ c k) : zJ τ F pc L (.null :: st) μ c k := by
  intro ad H locs ls hw hL hst
  exact lv_astore_nN (lv := zlv ad L) hT.1 hT.2.1 hd hi (zLo_has hL) hl rfl (fun ls' h' => h ad H locs ls' hw (zLo_st1 (v := .null) hL (zoks_hd hst) h') (zoks_tl hst))

theorem J_astoreN (hT : zCx τ M kk mc ms) {i : Nat} (hd : decode M.2.1 pc = .ok (.astore i, 2)) (hl : (i + 0 < L.length)) (h : zJ τ F (pc + 2) (zst1 L i (.null)) st μ c k) : zJ τ F pc L (.null :: st) μ c k := by
  intro ad H locs ls hw hL hst
  exact lv_astoreN (lv := zlv ad L) hT.1 hT.2.1 hd (zLo_has hL) hl rfl (fun ls' h' => h ad H locs ls' hw (zLo_st1 (v := .null) hL (zoks_hd hst) h') (zoks_tl hst))

theorem J_iinc (hT : zCx τ M kk mc ms) {i : Nat} {n : Int} {x v : Int32} (hd : decode M.2.1 pc = .ok (.iinc i n, 3)) (hl : L[i]? = some (some (.int x))) (hv : x + Int32.ofInt n = v) (h : zJ τ F (pc + 3) (zst1 L i (.int v)) st μ c k) : zJ τ F pc L st μ c k := by
  intro ad H locs ls hw hL hst
  obtain ⟨j, hj⟩ := List.getElem?_of_mem (zlv_mem (ad := ad) hl)
  exact lv_iinc (lv := zlv ad L) hT.1 hT.2.1 hd (zLo_has hL) hj hv (List.getElem?_eq_some_iff.mp hl).1 rfl (fun ls' h' => h ad H locs ls' hw (zLo_st1 (v := .int v) hL (zok_int _ _) h') hst)
end ZR
end
section
/-! ===== fields, arrays, making ===== -/
def zRX : Nat → String := fun c => match c with
  | 0 => RX0
  | 1 => RX1
  | 2 => RX2
  | 3 => RX3
  | 4 => RX4
  | 5 => RX5
  | 6 => RX6
  | 7 => RX7
  | 8 => RX8
  | _ => RX9
def zTX : Nat → u_T := fun c => match c with
  | 0 => TX0
  | 1 => TX1
  | 2 => TX2
  | 3 => TX3
  | 4 => TX4
  | 5 => TX5
  | 6 => TX6
  | 7 => TX7
  | 8 => TX8
  | _ => TX9
theorem zcl_at (ci : Nat) (h : ci < 10) : vwCl[ci]? = some (zRX ci, zTX ci, znf ci) := by
  match ci, h with
  | 0, _ => rfl
  | 1, _ => rfl
  | 2, _ => rfl
  | 3, _ => rfl
  | 4, _ => rfl
  | 5, _ => rfl
  | 6, _ => rfl
  | 7, _ => rfl
  | 8, _ => rfl
  | 9, _ => rfl
theorem znm (ci : Nat) (h : ci < 10) : ∀ a, a < znf ci → ∀ b, b < znf ci → a ≠ b → (zTX ci a).2.1 ≠ (zTX ci b).2.1 := by
  match ci, h with
  | 0, _ => exact nmX0
  | 1, _ => exact nmX1
  | 2, _ => exact nmX2
  | 3, _ => exact nmX3
  | 4, _ => exact nmX4
  | 5, _ => exact nmX5
  | 6, _ => exact nmX6
  | 7, _ => exact nmX7
  | 8, _ => exact nmX8
  | 9, _ => exact nmX9
theorem ztyok (ci : Nat) (h : ci < 10) : ∀ k, k < znf ci → parseFieldDescriptor (zTX ci k).2.2.1 = some (zfty ci k) := by
  match ci, h with
  | 0, _ => exact tyX0_ok
  | 1, _ => exact tyX1_ok
  | 2, _ => exact tyX2_ok
  | 3, _ => exact tyX3_ok
  | 4, _ => exact tyX4_ok
  | 5, _ => exact tyX5_ok
  | 6, _ => exact tyX6_ok
  | 7, _ => exact tyX7_ok
  | 8, _ => exact tyX8_ok
  | 9, _ => exact tyX9_ok
set_option maxRecDepth 20000 in
theorem zlay0 : ∀ w ∈ u_ws RX0 TX0 5, w ∈ ztb := by
  intro w hw
  have e : u_ws RX0 TX0 5 = [(Jvm.Cond.laysFinal "Daemonsheet$Cell" "Daemonsheet$Cell" "number" "I"), (Jvm.Cond.lays "Daemonsheet$Cell" "Daemonsheet$Cell" "formula" "LDaemonsheet$Formula;"), (Jvm.Cond.lays "Daemonsheet$Cell" "Daemonsheet$Cell" "value" "I"), (Jvm.Cond.lays "Daemonsheet$Cell" "Daemonsheet$Cell" "depth" "I"), (Jvm.Cond.lays "Daemonsheet$Cell" "Daemonsheet$Cell" "held" "Z")] := by rfl
  rw [e] at hw
  simp only [List.mem_cons, List.not_mem_nil, or_false] at hw
  rcases hw with rfl | rfl | rfl | rfl | rfl
  · exact ztb_in (zc1 (List.mem_of_getElem? (i := 122) rfl)) rfl
  · exact ztb_in (zc1 (List.mem_of_getElem? (i := 124) rfl)) rfl
  · exact ztb_in (zc1 (List.mem_of_getElem? (i := 126) rfl)) rfl
  · exact ztb_in (zc1 (List.mem_of_getElem? (i := 128) rfl)) rfl
  · exact ztb_in (zc1 (List.mem_of_getElem? (i := 130) rfl)) rfl

set_option maxRecDepth 20000 in
theorem zlay1 : ∀ w ∈ u_ws RX1 TX1 2, w ∈ ztb := by
  intro w hw
  have e : u_ws RX1 TX1 2 = [(Jvm.Cond.laysFinal "Daemonsheet$Formula" "Daemonsheet$Formula" "code" "[I"), (Jvm.Cond.laysFinal "Daemonsheet$Formula" "Daemonsheet$Formula" "reads" "I")] := by rfl
  rw [e] at hw
  simp only [List.mem_cons, List.not_mem_nil, or_false] at hw
  rcases hw with rfl | rfl
  · exact ztb_in (zc1 (List.mem_of_getElem? (i := 92) rfl)) rfl
  · exact ztb_in (zc1 (List.mem_of_getElem? (i := 94) rfl)) rfl

set_option maxRecDepth 20000 in
theorem zlay2 : ∀ w ∈ u_ws RX2 TX2 6, w ∈ ztb := by
  intro w hw
  have e : u_ws RX2 TX2 6 = [(Jvm.Cond.laysFinal "Daemonsheet$Parser" "Daemonsheet$Parser" "text" "LDaemonsheet$Text;"), (Jvm.Cond.laysFinal "Daemonsheet$Parser" "Daemonsheet$Parser" "code" "[I"), (Jvm.Cond.lays "Daemonsheet$Parser" "Daemonsheet$Parser" "size" "I"), (Jvm.Cond.lays "Daemonsheet$Parser" "Daemonsheet$Parser" "reads" "I"), (Jvm.Cond.lays "Daemonsheet$Parser" "Daemonsheet$Parser" "place" "I"), (Jvm.Cond.lays "Daemonsheet$Parser" "Daemonsheet$Parser" "stuck" "Z")] := by rfl
  rw [e] at hw
  simp only [List.mem_cons, List.not_mem_nil, or_false] at hw
  rcases hw with rfl | rfl | rfl | rfl | rfl | rfl
  · exact ztb_in (zc1 (List.mem_of_getElem? (i := 61) rfl)) rfl
  · exact ztb_in (zc1 (List.mem_of_getElem? (i := 63) rfl)) rfl
  · exact ztb_in (zc1 (List.mem_of_getElem? (i := 65) rfl)) rfl
  · exact ztb_in (zc1 (List.mem_of_getElem? (i := 67) rfl)) rfl
  · exact ztb_in (zc1 (List.mem_of_getElem? (i := 69) rfl)) rfl
  · exact ztb_in (zc1 (List.mem_of_getElem? (i := 71) rfl)) rfl

set_option maxRecDepth 20000 in
theorem zlay3 : ∀ w ∈ u_ws RX3 TX3 2, w ∈ ztb := by
  intro w hw
  have e : u_ws RX3 TX3 2 = [(Jvm.Cond.lays "Daemonsheet$Reading" "Daemonsheet$Reading" "value" "I"), (Jvm.Cond.lays "Daemonsheet$Reading" "Daemonsheet$Reading" "tick" "I")] := by rfl
  rw [e] at hw
  simp only [List.mem_cons, List.not_mem_nil, or_false] at hw
  rcases hw with rfl | rfl
  · exact ztb_in (zc1 (List.mem_of_getElem? (i := 142) rfl)) rfl
  · exact ztb_in (zc1 (List.mem_of_getElem? (i := 144) rfl)) rfl

set_option maxRecDepth 20000 in
theorem zlay4 : ∀ w ∈ u_ws RX4 TX4 14, w ∈ ztb := by
  intro w hw
  have e : u_ws RX4 TX4 14 = [(Jvm.Cond.laysFinal "Daemonsheet$Service" "Daemonsheet$Service" "number" "I"), (Jvm.Cond.lays "Daemonsheet$Service" "Daemonsheet$Service" "state" "I"), (Jvm.Cond.lays "Daemonsheet$Service" "Daemonsheet$Service" "control" "I"), (Jvm.Cond.lays "Daemonsheet$Service" "Daemonsheet$Service" "limit" "I"), (Jvm.Cond.lays "Daemonsheet$Service" "Daemonsheet$Service" "needs" "I"), (Jvm.Cond.lays "Daemonsheet$Service" "Daemonsheet$Service" "demand" "I"), (Jvm.Cond.lays "Daemonsheet$Service" "Daemonsheet$Service" "delay" "I"), (Jvm.Cond.lays "Daemonsheet$Service" "Daemonsheet$Service" "lie" "I"), (Jvm.Cond.lays "Daemonsheet$Service" "Daemonsheet$Service" "load" "I"), (Jvm.Cond.lays "Daemonsheet$Service" "Daemonsheet$Service" "told" "I"), (Jvm.Cond.lays "Daemonsheet$Service" "Daemonsheet$Service" "starts" "I"), (Jvm.Cond.lays "Daemonsheet$Service" "Daemonsheet$Service" "startTick" "I"), (Jvm.Cond.lays "Daemonsheet$Service" "Daemonsheet$Service" "startDelay" "I"), (Jvm.Cond.lays "Daemonsheet$Service" "Daemonsheet$Service" "changedIn" "I")] := by rfl
  rw [e] at hw
  simp only [List.mem_cons, List.not_mem_nil, or_false] at hw
  rcases hw with rfl | rfl | rfl | rfl | rfl | rfl | rfl | rfl | rfl | rfl | rfl | rfl | rfl | rfl
  · exact ztb_in (zc1 (List.mem_of_getElem? (i := 181) rfl)) rfl
  · exact ztb_in (zc1 (List.mem_of_getElem? (i := 183) rfl)) rfl
  · exact ztb_in (zc1 (List.mem_of_getElem? (i := 185) rfl)) rfl
  · exact ztb_in (zc1 (List.mem_of_getElem? (i := 187) rfl)) rfl
  · exact ztb_in (zc1 (List.mem_of_getElem? (i := 189) rfl)) rfl
  · exact ztb_in (zc1 (List.mem_of_getElem? (i := 191) rfl)) rfl
  · exact ztb_in (zc1 (List.mem_of_getElem? (i := 193) rfl)) rfl
  · exact ztb_in (zc1 (List.mem_of_getElem? (i := 195) rfl)) rfl
  · exact ztb_in (zc1 (List.mem_of_getElem? (i := 197) rfl)) rfl
  · exact ztb_in (zc1 (List.mem_of_getElem? (i := 199) rfl)) rfl
  · exact ztb_in (zc1 (List.mem_of_getElem? (i := 201) rfl)) rfl
  · exact ztb_in (zc1 (List.mem_of_getElem? (i := 203) rfl)) rfl
  · exact ztb_in (zc1 (List.mem_of_getElem? (i := 205) rfl)) rfl
  · exact ztb_in (zc1 (List.mem_of_getElem? (i := 207) rfl)) rfl

set_option maxRecDepth 20000 in
theorem zlay5 : ∀ w ∈ u_ws RX5 TX5 6, w ∈ ztb := by
  intro w hw
  have e : u_ws RX5 TX5 6 = [(Jvm.Cond.laysFinal "Daemonsheet$Step" "Daemonsheet$Step" "kind" "I"), (Jvm.Cond.laysFinal "Daemonsheet$Step" "Daemonsheet$Step" "first" "I"), (Jvm.Cond.laysFinal "Daemonsheet$Step" "Daemonsheet$Step" "second" "I"), (Jvm.Cond.laysFinal "Daemonsheet$Step" "Daemonsheet$Step" "third" "I"), (Jvm.Cond.laysFinal "Daemonsheet$Step" "Daemonsheet$Step" "formula" "LDaemonsheet$Formula;"), (Jvm.Cond.laysFinal "Daemonsheet$Step" "Daemonsheet$Step" "tick" "I")] := by rfl
  rw [e] at hw
  simp only [List.mem_cons, List.not_mem_nil, or_false] at hw
  rcases hw with rfl | rfl | rfl | rfl | rfl | rfl
  · exact ztb_in (zc2 (List.mem_of_getElem? (i := 22) rfl)) rfl
  · exact ztb_in (zc2 (List.mem_of_getElem? (i := 24) rfl)) rfl
  · exact ztb_in (zc2 (List.mem_of_getElem? (i := 26) rfl)) rfl
  · exact ztb_in (zc2 (List.mem_of_getElem? (i := 28) rfl)) rfl
  · exact ztb_in (zc2 (List.mem_of_getElem? (i := 30) rfl)) rfl
  · exact ztb_in (zc2 (List.mem_of_getElem? (i := 32) rfl)) rfl

set_option maxRecDepth 20000 in
theorem zlay6 : ∀ w ∈ u_ws RX6 TX6 9, w ∈ ztb := by
  intro w hw
  have e : u_ws RX6 TX6 9 = [(Jvm.Cond.laysFinal "Daemonsheet$Table" "Daemonsheet$Table" "zero" "LDaemonsheet$Formula;"), (Jvm.Cond.laysFinal "Daemonsheet$Table" "Daemonsheet$Table" "cells" "[LDaemonsheet$Cell;"), (Jvm.Cond.laysFinal "Daemonsheet$Table" "Daemonsheet$Table" "order" "[LDaemonsheet$Cell;"), (Jvm.Cond.laysFinal "Daemonsheet$Table" "Daemonsheet$Table" "readings" "[LDaemonsheet$Reading;"), (Jvm.Cond.laysFinal "Daemonsheet$Table" "Daemonsheet$Table" "services" "[LDaemonsheet$Service;"), (Jvm.Cond.laysFinal "Daemonsheet$Table" "Daemonsheet$Table" "row" "[I"), (Jvm.Cond.lays "Daemonsheet$Table" "Daemonsheet$Table" "dirty" "I"), (Jvm.Cond.lays "Daemonsheet$Table" "Daemonsheet$Table" "now" "I"), (Jvm.Cond.lays "Daemonsheet$Table" "Daemonsheet$Table" "work" "I")] := by rfl
  rw [e] at hw
  simp only [List.mem_cons, List.not_mem_nil, or_false] at hw
  rcases hw with rfl | rfl | rfl | rfl | rfl | rfl | rfl | rfl | rfl
  · exact ztb_in (zc1 (List.mem_of_getElem? (i := 223) rfl)) rfl
  · exact ztb_in (zc1 (List.mem_of_getElem? (i := 225) rfl)) rfl
  · exact ztb_in (zc1 (List.mem_of_getElem? (i := 227) rfl)) rfl
  · exact ztb_in (zc1 (List.mem_of_getElem? (i := 229) rfl)) rfl
  · exact ztb_in (zc1 (List.mem_of_getElem? (i := 231) rfl)) rfl
  · exact ztb_in (zc1 (List.mem_of_getElem? (i := 233) rfl)) rfl
  · exact ztb_in (zc1 (List.mem_of_getElem? (i := 235) rfl)) rfl
  · exact ztb_in (zc1 (List.mem_of_getElem? (i := 237) rfl)) rfl
  · exact ztb_in (zc1 (List.mem_of_getElem? (i := 239) rfl)) rfl

set_option maxRecDepth 20000 in
theorem zlay7 : ∀ w ∈ u_ws RX7 TX7 2, w ∈ ztb := by
  intro w hw
  have e : u_ws RX7 TX7 2 = [(Jvm.Cond.laysFinal "Daemonsheet$Text" "Daemonsheet$Text" "letters" "[C"), (Jvm.Cond.lays "Daemonsheet$Text" "Daemonsheet$Text" "length" "I")] := by rfl
  rw [e] at hw
  simp only [List.mem_cons, List.not_mem_nil, or_false] at hw
  rcases hw with rfl | rfl
  · exact ztb_in (zc1 (List.mem_of_getElem? (i := 43) rfl)) rfl
  · exact ztb_in (zc1 (List.mem_of_getElem? (i := 45) rfl)) rfl

set_option maxRecDepth 20000 in
theorem zlay8 : ∀ w ∈ u_ws RX8 TX8 7, w ∈ ztb := by
  intro w hw
  have e : u_ws RX8 TX8 7 = [(Jvm.Cond.laysFinal "Daemonsheet" "Daemonsheet" "text" "LDaemonsheet$Text;"), (Jvm.Cond.laysFinal "Daemonsheet" "Daemonsheet" "parser" "LDaemonsheet$Parser;"), (Jvm.Cond.laysFinal "Daemonsheet" "Daemonsheet" "table" "LDaemonsheet$Table;"), (Jvm.Cond.laysFinal "Daemonsheet" "Daemonsheet" "spare" "LDaemonsheet$Table;"), (Jvm.Cond.laysFinal "Daemonsheet" "Daemonsheet" "kept" "[LDaemonsheet$Step;"), (Jvm.Cond.lays "Daemonsheet" "Daemonsheet" "keptCount" "I"), (Jvm.Cond.laysFinal "Daemonsheet" "Daemonsheet" "oneTick" "LDaemonsheet$Step;")] := by rfl
  rw [e] at hw
  simp only [List.mem_cons, List.not_mem_nil, or_false] at hw
  rcases hw with rfl | rfl | rfl | rfl | rfl | rfl | rfl
  · exact ztb_in (zc2 (List.mem_of_getElem? (i := 42) rfl)) rfl
  · exact ztb_in (zc2 (List.mem_of_getElem? (i := 44) rfl)) rfl
  · exact ztb_in (zc2 (List.mem_of_getElem? (i := 46) rfl)) rfl
  · exact ztb_in (zc2 (List.mem_of_getElem? (i := 48) rfl)) rfl
  · exact ztb_in (zc2 (List.mem_of_getElem? (i := 50) rfl)) rfl
  · exact ztb_in (zc2 (List.mem_of_getElem? (i := 52) rfl)) rfl
  · exact ztb_in (zc2 (List.mem_of_getElem? (i := 54) rfl)) rfl

set_option maxRecDepth 20000 in
theorem zlay9 : ∀ w ∈ u_ws RX9 TX9 46, w ∈ ztb := by
  intro w hw
  have e : u_ws RX9 TX9 46 = [(Jvm.Cond.laysFinal "DaemonsheetModel" "DaemonsheetModel" "text" "[I"), (Jvm.Cond.lays "DaemonsheetModel" "DaemonsheetModel" "length" "I"), (Jvm.Cond.laysFinal "DaemonsheetModel" "DaemonsheetModel" "made" "[I"), (Jvm.Cond.lays "DaemonsheetModel" "DaemonsheetModel" "madeLength" "I"), (Jvm.Cond.laysFinal "DaemonsheetModel" "DaemonsheetModel" "open" "[I"), (Jvm.Cond.lays "DaemonsheetModel" "DaemonsheetModel" "opened" "I"), (Jvm.Cond.laysFinal "DaemonsheetModel" "DaemonsheetModel" "hasCompared" "[Z"), (Jvm.Cond.laysFinal "DaemonsheetModel" "DaemonsheetModel" "opens" "[I"), (Jvm.Cond.laysFinal "DaemonsheetModel" "DaemonsheetModel" "args" "[I"), (Jvm.Cond.laysFinal "DaemonsheetModel" "DaemonsheetModel" "code" "[I"), (Jvm.Cond.laysFinal "DaemonsheetModel" "DaemonsheetModel" "codeLength" "[I"), (Jvm.Cond.laysFinal "DaemonsheetModel" "DaemonsheetModel" "readsCells" "[I"), (Jvm.Cond.laysFinal "DaemonsheetModel" "DaemonsheetModel" "readsReadings" "[I"), (Jvm.Cond.laysFinal "DaemonsheetModel" "DaemonsheetModel" "readsLoads" "[I"), (Jvm.Cond.laysFinal "DaemonsheetModel" "DaemonsheetModel" "depth" "[I"), (Jvm.Cond.laysFinal "DaemonsheetModel" "DaemonsheetModel" "isHeld" "[Z"), (Jvm.Cond.laysFinal "DaemonsheetModel" "DaemonsheetModel" "heldAt" "[I"), (Jvm.Cond.laysFinal "DaemonsheetModel" "DaemonsheetModel" "control" "[I"), (Jvm.Cond.laysFinal "DaemonsheetModel" "DaemonsheetModel" "limit" "[I"), (Jvm.Cond.laysFinal "DaemonsheetModel" "DaemonsheetModel" "needs" "[I"), (Jvm.Cond.laysFinal "DaemonsheetModel" "DaemonsheetModel" "demand" "[I"), (Jvm.Cond.laysFinal "DaemonsheetModel" "DaemonsheetModel" "delay" "[I"), (Jvm.Cond.laysFinal "DaemonsheetModel" "DaemonsheetModel" "lie" "[I"), (Jvm.Cond.laysFinal "DaemonsheetModel" "DaemonsheetModel" "value" "[I"), (Jvm.Cond.laysFinal "DaemonsheetModel" "DaemonsheetModel" "isDirty" "[Z"), (Jvm.Cond.laysFinal "DaemonsheetModel" "DaemonsheetModel" "reading" "[I"), (Jvm.Cond.laysFinal "DaemonsheetModel" "DaemonsheetModel" "toldAt" "[I"), (Jvm.Cond.laysFinal "DaemonsheetModel" "DaemonsheetModel" "state" "[I"), (Jvm.Cond.laysFinal "DaemonsheetModel" "DaemonsheetModel" "since" "[I"), (Jvm.Cond.laysFinal "DaemonsheetModel" "DaemonsheetModel" "waits" "[I"), (Jvm.Cond.laysFinal "DaemonsheetModel" "DaemonsheetModel" "load" "[I"), (Jvm.Cond.laysFinal "DaemonsheetModel" "DaemonsheetModel" "told" "[I"), (Jvm.Cond.laysFinal "DaemonsheetModel" "DaemonsheetModel" "starts" "[I"), (Jvm.Cond.lays "DaemonsheetModel" "DaemonsheetModel" "work" "I"), (Jvm.Cond.lays "DaemonsheetModel" "DaemonsheetModel" "now" "I"), (Jvm.Cond.laysFinal "DaemonsheetModel" "DaemonsheetModel" "kind" "[I"), (Jvm.Cond.laysFinal "DaemonsheetModel" "DaemonsheetModel" "first" "[I"), (Jvm.Cond.laysFinal "DaemonsheetModel" "DaemonsheetModel" "second" "[I"), (Jvm.Cond.laysFinal "DaemonsheetModel" "DaemonsheetModel" "third" "[I"), (Jvm.Cond.laysFinal "DaemonsheetModel" "DaemonsheetModel" "at" "[I"), (Jvm.Cond.laysFinal "DaemonsheetModel" "DaemonsheetModel" "stepCode" "[I"), (Jvm.Cond.laysFinal "DaemonsheetModel" "DaemonsheetModel" "stepLength" "[I"), (Jvm.Cond.lays "DaemonsheetModel" "DaemonsheetModel" "steps" "I"), (Jvm.Cond.laysFinal "DaemonsheetModel" "DaemonsheetModel" "stack" "[J"), (Jvm.Cond.lays "DaemonsheetModel" "DaemonsheetModel" "top" "I"), (Jvm.Cond.lays "DaemonsheetModel" "DaemonsheetModel" "thrown" "I")] := by rfl
  rw [e] at hw
  simp only [List.mem_cons, List.not_mem_nil, or_false] at hw
  rcases hw with rfl | rfl | rfl | rfl | rfl | rfl | rfl | rfl | rfl | rfl | rfl | rfl | rfl | rfl | rfl | rfl | rfl | rfl | rfl | rfl | rfl | rfl | rfl | rfl | rfl | rfl | rfl | rfl | rfl | rfl | rfl | rfl | rfl | rfl | rfl | rfl | rfl | rfl | rfl | rfl | rfl | rfl | rfl | rfl | rfl | rfl
  · exact ztb_in (zc5 (List.mem_of_getElem? (i := 55) rfl)) rfl
  · exact ztb_in (zc5 (List.mem_of_getElem? (i := 57) rfl)) rfl
  · exact ztb_in (zc5 (List.mem_of_getElem? (i := 59) rfl)) rfl
  · exact ztb_in (zc5 (List.mem_of_getElem? (i := 61) rfl)) rfl
  · exact ztb_in (zc5 (List.mem_of_getElem? (i := 63) rfl)) rfl
  · exact ztb_in (zc5 (List.mem_of_getElem? (i := 65) rfl)) rfl
  · exact ztb_in (zc5 (List.mem_of_getElem? (i := 67) rfl)) rfl
  · exact ztb_in (zc5 (List.mem_of_getElem? (i := 69) rfl)) rfl
  · exact ztb_in (zc5 (List.mem_of_getElem? (i := 71) rfl)) rfl
  · exact ztb_in (zc5 (List.mem_of_getElem? (i := 73) rfl)) rfl
  · exact ztb_in (zc5 (List.mem_of_getElem? (i := 75) rfl)) rfl
  · exact ztb_in (zc5 (List.mem_of_getElem? (i := 77) rfl)) rfl
  · exact ztb_in (zc5 (List.mem_of_getElem? (i := 79) rfl)) rfl
  · exact ztb_in (zc5 (List.mem_of_getElem? (i := 81) rfl)) rfl
  · exact ztb_in (zc5 (List.mem_of_getElem? (i := 83) rfl)) rfl
  · exact ztb_in (zc5 (List.mem_of_getElem? (i := 85) rfl)) rfl
  · exact ztb_in (zc5 (List.mem_of_getElem? (i := 87) rfl)) rfl
  · exact ztb_in (zc5 (List.mem_of_getElem? (i := 89) rfl)) rfl
  · exact ztb_in (zc5 (List.mem_of_getElem? (i := 91) rfl)) rfl
  · exact ztb_in (zc5 (List.mem_of_getElem? (i := 93) rfl)) rfl
  · exact ztb_in (zc5 (List.mem_of_getElem? (i := 95) rfl)) rfl
  · exact ztb_in (zc5 (List.mem_of_getElem? (i := 97) rfl)) rfl
  · exact ztb_in (zc5 (List.mem_of_getElem? (i := 99) rfl)) rfl
  · exact ztb_in (zc5 (List.mem_of_getElem? (i := 101) rfl)) rfl
  · exact ztb_in (zc5 (List.mem_of_getElem? (i := 103) rfl)) rfl
  · exact ztb_in (zc5 (List.mem_of_getElem? (i := 105) rfl)) rfl
  · exact ztb_in (zc5 (List.mem_of_getElem? (i := 107) rfl)) rfl
  · exact ztb_in (zc5 (List.mem_of_getElem? (i := 109) rfl)) rfl
  · exact ztb_in (zc5 (List.mem_of_getElem? (i := 111) rfl)) rfl
  · exact ztb_in (zc5 (List.mem_of_getElem? (i := 113) rfl)) rfl
  · exact ztb_in (zc5 (List.mem_of_getElem? (i := 115) rfl)) rfl
  · exact ztb_in (zc5 (List.mem_of_getElem? (i := 117) rfl)) rfl
  · exact ztb_in (zc5 (List.mem_of_getElem? (i := 119) rfl)) rfl
  · exact ztb_in (zc5 (List.mem_of_getElem? (i := 121) rfl)) rfl
  · exact ztb_in (zc5 (List.mem_of_getElem? (i := 123) rfl)) rfl
  · exact ztb_in (zc5 (List.mem_of_getElem? (i := 125) rfl)) rfl
  · exact ztb_in (zc5 (List.mem_of_getElem? (i := 127) rfl)) rfl
  · exact ztb_in (zc5 (List.mem_of_getElem? (i := 129) rfl)) rfl
  · exact ztb_in (zc5 (List.mem_of_getElem? (i := 131) rfl)) rfl
  · exact ztb_in (zc5 (List.mem_of_getElem? (i := 133) rfl)) rfl
  · exact ztb_in (zc5 (List.mem_of_getElem? (i := 135) rfl)) rfl
  · exact ztb_in (zc5 (List.mem_of_getElem? (i := 137) rfl)) rfl
  · exact ztb_in (zc5 (List.mem_of_getElem? (i := 139) rfl)) rfl
  · exact ztb_in (zc5 (List.mem_of_getElem? (i := 141) rfl)) rfl
  · exact ztb_in (zc5 (List.mem_of_getElem? (i := 143) rfl)) rfl
  · exact ztb_in (zc5 (List.mem_of_getElem? (i := 145) rfl)) rfl

theorem zlays (ci : Nat) (h : ci < 10) : ∀ w ∈ u_ws (zRX ci) (zTX ci) (znf ci), w ∈ ztb := by
  match ci, h with
  | 0, _ => exact zlay0
  | 1, _ => exact zlay1
  | 2, _ => exact zlay2
  | 3, _ => exact zlay3
  | 4, _ => exact zlay4
  | 5, _ => exact zlay5
  | 6, _ => exact zlay6
  | 7, _ => exact zlay7
  | 8, _ => exact zlay8
  | 9, _ => exact zlay9
/-- a field by the constant pool of a class -/
def zFd (own : String) (idx ci kf : Nat) : Prop := ci < 10 ∧ kf < znf ci ∧ (zTX ci kf).1 = zRX ci ∧ (Cond.fieldLink own idx (zRX ci) (zTX ci kf).2.1 (zTX ci kf).2.2.1 ∈ ztb ∨ ∃ host, Cond.fieldLinkNest own idx (zRX ci) (zTX ci kf).2.1 (zTX ci kf).2.2.1 host ∈ lw_tbl)
section ZH
variable {τ : zT} {M : zM} {kk mc ms : Nat} {F : State → Prop} {pc : Nat} {L : List (Option Value)} {st : List Value} {μ : zMem} {c k : Nat}
theorem zCx.K (hT : zCx τ M kk mc ms) : va_K τ.2.2.2.2.2.2.2.2.2.2.1.2.1 vwCl (ztys τ.2.2.2.2.2.2.2.2.2.2.1.2.2) τ.2.2.2.2.1 := by
  obtain ⟨_, _, _, _, _, _, _, _, h, hW, _⟩ := hT
  exact va_K.moved hW.alike h.2.1
theorem zCx.own (hT : zCx τ M kk mc ms) : τ.2.2.2.2.1.vm.findClass M.1.cls = some τ.2.2.2.2.2.1.cls := hT.2.2.2.2.1
theorem zCx.ws (hT : zCx τ M kk mc ms) : ∀ w ∈ ztb, w.before τ.2.2.2.2.2.2.1 τ.2.2.2.2.1 = true := hT.2.2.2.2.2.1
theorem zCx.nestF (hT : zCx τ M kk mc ms) {a : String} {i : Nat} {b n d h : String} (hw : Cond.fieldLinkNest a i b n d h ∈ lw_tbl) : (Cond.fieldLinkNest a i b n d h).before τ.2.2.2.2.2.2.1 τ.2.2.2.2.1 = true := by
  obtain ⟨_, _, _, _, _, _, _, _, hs, hW, _⟩ := hT
  exact va_Nw.use rfl (va_Nw.warmF hW (hs.1 _ hw rfl))
theorem zCx.nestM (hT : zCx τ M kk mc ms) {a : String} {i : Nat} {x : MethodName} {h : String} (hw : Cond.methodLinkNest a i x h ∈ lw_tbl) : va_Nw (.methodLinkNest a i x h) τ.2.2.2.2.1 := by
  obtain ⟨_, _, _, _, _, _, _, _, hs, hW, _⟩ := hT
  exact va_Nw.warmM hW (hs.1 _ hw rfl)
theorem zCx.A (hT : zCx τ M kk mc ms) : ∀ q, τ.2.2.2.2.1.heap.size ≤ q → zA τ.2.2.2.2.2.2.2.2.2.2.1 q := by
  obtain ⟨_, _, _, _, _, _, _, _, _, _, hB, _⟩ := hT
  exact fun q h => Nat.le_trans hB.1 h
theorem zfs_at {ad : Nat → Nat} {a ci kf : Nat} (hk : kf < znf ci) : ((List.range (znf ci)).map (fun j => zfv ad (zfty ci j) (zI μ a j) (zP μ a j)))[kf]? = some (zfv ad (zfty ci kf) (zI μ a kf) (zP μ a kf)) := by simp [hk]
theorem J_get (hT : zCx τ M kk mc ms) {a ci kf idx : Nat} (hf : zFd M.1.cls idx ci kf) (hd : decode M.2.1 pc = .ok (.getfield idx, 3)) (hk : zK μ a = ci + 8) {v : Value} (hv : ∀ ad, zfv ad (zfty ci kf) (zI μ a kf) (zP μ a kf) = ztv ad v) (hvo : zOK μ → a < zN μ → zok (zN μ) v)
    (h : zJ τ F (pc + 3) L (v :: st) μ c k) : zJ τ F pc L (.ref a :: st) μ c k := by
  intro ad H locs ls hw hL hst
  obtain ⟨hc, hkf, h1, hl⟩ := hf
  have ha : a < zN μ := zok_lt (zoks_hd hst)
  have he := zws_at τ.2.2.2.2.2.2.2.2.2.2.1.2.2 ad μ ha
  rw [zent_o hk] at he
  have hP := hw.1.1
  have h2 := h ad H locs ls hw hL (zoks_cons (hvo hw.1.2.2 ha) (zoks_tl hst))
  rcases hl with hl | ⟨host, hl⟩
  · exact va_get hT.1 hT.2.1 hT.ws (zlays ci hc) hT.own hT.K hP a he (zcl_at ci hc) kf hkf (hT.ws _ hl) (fun x hx => by rw [← h1]; exact hx) ((zfs_at hkf).trans (congrArg some (hv ad))) hd h2
  · exact va_getN hT.1 hT.2.1 hT.ws (zlays ci hc) hT.own hT.K hP a he (zcl_at ci hc) kf hkf (hT.nestF hl) (fun x hx => by rw [← h1]; exact hx) ((zfs_at hkf).trans (congrArg some (hv ad))) hd h2
theorem J_getI (hT : zCx τ M kk mc ms) {a ci kf idx : Nat} (hf : zFd M.1.cls idx ci kf) (hr : zrt (zfty ci kf) = false) (hd : decode M.2.1 pc = .ok (.getfield idx, 3)) (hk : zK μ a = ci + 8)
    (h : zJ τ F (pc + 3) L (.int (zI μ a kf) :: st) μ c k) : zJ τ F pc L (.ref a :: st) μ c k :=
  J_get hT hf hd hk (fun ad => by simp [zfv, hr, ztv_int]) (fun _ _ => zok_int _ _) h
theorem J_getP (hT : zCx τ M kk mc ms) {a ci kf idx r : Nat} (hf : zFd M.1.cls idx ci kf) (hr : zrt (zfty ci kf) = true) (hd : decode M.2.1 pc = .ok (.getfield idx, 3)) (hk : zK μ a = ci + 8) (hp : zP μ a kf = some r)
    (h : zJ τ F (pc + 3) L (.ref r :: st) μ c k) : zJ τ F pc L (.ref a :: st) μ c k :=
  J_get hT hf hd hk (fun ad => by simp [zfv, hr, hp, va_rf, ztv_ref]) (fun ho ha => zok_ref (ho a kf r ha hp)) h
theorem J_getN (hT : zCx τ M kk mc ms) {a ci kf idx : Nat} (hf : zFd M.1.cls idx ci kf) (hr : zrt (zfty ci kf) = true) (hd : decode M.2.1 pc = .ok (.getfield idx, 3)) (hk : zK μ a = ci + 8) (hp : zP μ a kf = none)
    (h : zJ τ F (pc + 3) L (.null :: st) μ c k) : zJ τ F pc L (.ref a :: st) μ c k :=
  J_get hT hf hd hk (fun ad => by simp [zfv, hr, hp, va_rf, ztv_null]) (fun ho ha => zok_null _) h
theorem zHS_set {ad : Nat → Nat} {μ' : zMem} {H1 : Heap} {locs locs1 : List Loc} {H : Heap} {W1 : va_W} (hw : zHS τ ad μ H locs) (hn : zN μ' = zN μ) (hok : zOK μ') (e : W1 = zws τ.2.2.2.2.2.2.2.2.2.2.1.2.2 ad μ')
    (h1 : va_P τ.2.2.2.2.2.2.2.2.2.2.1.2.1 vwCl W1 H1) (h2 : va_D (zA τ.2.2.2.2.2.2.2.2.2.2.1) W1) (h3 : va_S (zA τ.2.2.2.2.2.2.2.2.2.2.1) τ.2.2.2.2.1.heap H1 locs1) : zHS τ ad μ' H1 locs1 := by
  subst e
  exact ⟨⟨h1, h2, hok⟩, h3, hw.2.2.1, by rw [hn]; exact hw.2.2.2⟩
theorem J_put (hT : zCx τ M kk mc ms) {a ci kf idx : Nat} (hf : zFd M.1.cls idx ci kf) (hfin : (zTX ci kf).2.2.2 = false ∨ (M.1.name = "<init>" ∧ zRX ci = M.1.cls ∧ Cond.fieldLink M.1.cls idx (zRX ci) (zTX ci kf).2.1 (zTX ci kf).2.2.1 ∈ ztb)) (hd : decode M.2.1 pc = .ok (.putfield idx, 3)) (hk : zK μ a = ci + 8) {v : Value} {μ' : zMem} (hn : zN μ' = zN μ)
    (hnar : ∀ ad, narrow (zfty ci kf) (ztv ad v) = ztv ad v) (hfit : ∀ ad, fits (zfty ci kf) (ztv ad v) = true)
    (he : ∀ cA ad, zent cA ad μ' a = .inr (ci, ((List.range (znf ci)).map (fun j => zfv ad (zfty ci j) (zI μ a j) (zP μ a j))).set kf (ztv ad v))) (ho : ∀ cA ad b, b ≠ a → zent cA ad μ' b = zent cA ad μ b) (hok : zOK μ → a < zN μ → zok (zN μ) v → zOK μ')
    (h : zJ τ F (pc + 3) L st μ' c k) : zJ τ F pc L (v :: .ref a :: st) μ c k := by
  intro ad H locs ls hw hL hst
  obtain ⟨hc, hkf, h1, hl⟩ := hf
  have ha : a < zN μ := zok_lt (zoks_hd (zoks_tl hst))
  have hea := zws_at τ.2.2.2.2.2.2.2.2.2.2.1.2.2 ad μ ha
  rw [zent_o hk] at hea
  have hP := hw.1.1
  have hst' : zoks (zN μ') st := by rw [hn]; exact zoks_tl (zoks_tl hst)
  have hL' : zLo ad (zN μ') L ls := by rw [hn]; exact hL
  have hset := zws_set (cA := τ.2.2.2.2.2.2.2.2.2.2.1.2.2) (ad := ad) (a := a) hn (he _ ad) (fun b hb => ho _ ad b hb)
  have hlen : kf < ((List.range (znf ci)).map (fun j => zfv ad (zfty ci j) (zI μ a j) (zP μ a j))).length := by simp [hkf]
  rcases hfin with hfin | ⟨hi, hdc, hl⟩
  · rcases hl with hl | ⟨host, hl⟩
    · exact va_put hT.1 hT.2.1 hT.ws (zlays ci hc) (zfty ci) (ztyok ci hc) (znm ci hc) hT.own hT.K hP hw.1.2.1 hw.2.1 a hea (zcl_at ci hc) kf hkf (hT.ws _ hl) (fun x hx => by rw [← h1]; exact hx) hfin (ztyok ci hc kf hkf) (hnar ad) (hfit ad) hlen hd (fun H1 locs1 q1 q2 q3 => h ad H1 locs1 ls (zHS_set hw hn (hok hw.1.2.2 ha (zoks_hd hst)) hset q1 q2 q3) hL' hst')
    · exact va_putN hT.1 hT.2.1 hT.ws (zlays ci hc) (zfty ci) (ztyok ci hc) (znm ci hc) hT.own hT.K hP hw.1.2.1 hw.2.1 a hea (zcl_at ci hc) kf hkf (hT.nestF hl) (fun x hx => by rw [← h1]; exact hx) hfin (ztyok ci hc kf hkf) (hnar ad) (hfit ad) hlen hd (fun H1 locs1 q1 q2 q3 => h ad H1 locs1 ls (zHS_set hw hn (hok hw.1.2.2 ha (zoks_hd hst)) hset q1 q2 q3) hL' hst')
  · cases hq : (zTX ci kf).2.2.2 with
    | false => exact va_put hT.1 hT.2.1 hT.ws (zlays ci hc) (zfty ci) (ztyok ci hc) (znm ci hc) hT.own hT.K hP hw.1.2.1 hw.2.1 a hea (zcl_at ci hc) kf hkf (hT.ws _ hl) (fun x hx => by rw [← h1]; exact hx) hq (ztyok ci hc kf hkf) (hnar ad) (hfit ad) hlen hd (fun H1 locs1 q1 q2 q3 => h ad H1 locs1 ls (zHS_set hw hn (hok hw.1.2.2 ha (zoks_hd hst)) hset q1 q2 q3) hL' hst')
    | true => exact va_putF hT.1 hT.2.1 hT.ws (zlays ci hc) (zfty ci) (ztyok ci hc) (znm ci hc) hT.own hT.K hP hw.1.2.1 hw.2.1 a hea (zcl_at ci hc) kf hkf (hT.ws _ hl) (fun x hx => by rw [← h1]; exact hx) hq (hT.2.2.2.2.2.2.2.1.trans hi) (h1.trans hdc) (ztyok ci hc kf hkf) (hnar ad) (hfit ad) hlen hd (fun H1 locs1 q1 q2 q3 => h ad H1 locs1 ls (zHS_set hw hn (hok hw.1.2.2 ha (zoks_hd hst)) hset q1 q2 q3) hL' hst')
theorem zOK_sI {a i : Nat} {v : Int32} (h : zOK μ) : zOK (zsI μ a i v) := h
theorem zOK_sG {a i : Nat} {v : Int64} (h : zOK μ) : zOK (zsG μ a i v) := h
theorem zOK_sP {a i : Nat} {v : Option Nat} (h : zOK μ) (hv : ∀ r, v = some r → r < zN μ) : zOK (zsP μ a i v) := by
  intro b j r hb hp
  rw [zP_sP] at hp
  split at hp
  · exact hv r hp
  · exact h b j r hb hp
theorem zent_o_sI {cA : Nat → ClassId} {ad : Nat → Nat} {a ci kf : Nat} {v : Int32} (hk : zK μ a = ci + 8) (hr : zrt (zfty ci kf) = false) : zent cA ad (zsI μ a kf v) a = .inr (ci, ((List.range (znf ci)).map (fun j => zfv ad (zfty ci j) (zI μ a j) (zP μ a j))).set kf (.int v)) := by
  rw [zent_o (μ := zsI μ a kf v) hk, zfs_set_i hr]
theorem zent_o_sP {cA : Nat → ClassId} {ad : Nat → Nat} {a ci kf : Nat} {v : Option Nat} (hk : zK μ a = ci + 8) (hr : zrt (zfty ci kf) = true) : zent cA ad (zsP μ a kf v) a = .inr (ci, ((List.range (znf ci)).map (fun j => zfv ad (zfty ci j) (zI μ a j) (zP μ a j))).set kf (va_rf (v.map ad))) := by
  rw [zent_o (μ := zsP μ a kf v) hk, zfs_set_p hr]
theorem J_putI (hT : zCx τ M kk mc ms) {a ci kf idx : Nat} {v : Int32} (hf : zFd M.1.cls idx ci kf) (hfin : (zTX ci kf).2.2.2 = false ∨ (M.1.name = "<init>" ∧ zRX ci = M.1.cls ∧ Cond.fieldLink M.1.cls idx (zRX ci) (zTX ci kf).2.1 (zTX ci kf).2.2.1 ∈ ztb)) (hr : zfty ci kf = .int) (hd : decode M.2.1 pc = .ok (.putfield idx, 3)) (hk : zK μ a = ci + 8)
    (h : zJ τ F (pc + 3) L st (zsI μ a kf v) c k) : zJ τ F pc L (.int v :: .ref a :: st) μ c k :=
  J_put (μ' := zsI μ a kf v) hT hf hfin hd hk rfl (fun _ => by rw [hr]; rfl) (fun _ => by rw [hr]; rfl) (fun cA ad => zent_o_sI hk (by rw [hr]; rfl)) (fun cA ad b hb => zent_sI_ne cA ad μ a kf v b hb) (fun ho _ _ => zOK_sI ho) h
theorem J_putZ (hT : zCx τ M kk mc ms) {a ci kf idx : Nat} {v : Int32} (hf : zFd M.1.cls idx ci kf) (hfin : (zTX ci kf).2.2.2 = false ∨ (M.1.name = "<init>" ∧ zRX ci = M.1.cls ∧ Cond.fieldLink M.1.cls idx (zRX ci) (zTX ci kf).2.1 (zTX ci kf).2.2.1 ∈ ztb)) (hr : zfty ci kf = .boolean) (hz : v = 0 ∨ v = 1) (hd : decode M.2.1 pc = .ok (.putfield idx, 3)) (hk : zK μ a = ci + 8)
    (h : zJ τ F (pc + 3) L st (zsI μ a kf v) c k) : zJ τ F pc L (.int v :: .ref a :: st) μ c k :=
  J_put (μ' := zsI μ a kf v) hT hf hfin hd hk rfl (fun _ => by rw [hr]; rcases hz with rfl | rfl <;> rfl) (fun _ => by rw [hr]; rcases hz with rfl | rfl <;> rfl) (fun cA ad => zent_o_sI hk (by rw [hr]; rfl)) (fun cA ad b hb => zent_sI_ne cA ad μ a kf v b hb) (fun ho _ _ => zOK_sI ho) h
theorem J_putP (hT : zCx τ M kk mc ms) {a ci kf idx r : Nat} (hf : zFd M.1.cls idx ci kf) (hfin : (zTX ci kf).2.2.2 = false ∨ (M.1.name = "<init>" ∧ zRX ci = M.1.cls ∧ Cond.fieldLink M.1.cls idx (zRX ci) (zTX ci kf).2.1 (zTX ci kf).2.2.1 ∈ ztb)) (hr : zrt (zfty ci kf) = true) (hd : decode M.2.1 pc = .ok (.putfield idx, 3)) (hk : zK μ a = ci + 8)
    (h : zJ τ F (pc + 3) L st (zsP μ a kf (some r)) c k) : zJ τ F pc L (.ref r :: .ref a :: st) μ c k :=
  J_put (μ' := zsP μ a kf (some r)) hT hf hfin hd hk rfl (fun _ => by cases hq : zfty ci kf <;> first | rfl | (rw [hq] at hr; cases hr)) (fun _ => by cases hq : zfty ci kf <;> first | rfl | (rw [hq] at hr; cases hr)) (fun cA ad => zent_o_sP hk hr) (fun cA ad b hb => zent_sP_ne cA ad μ a kf (some r) b hb) (fun ho _ hv => zOK_sP ho (fun r' e => by cases e; exact zok_lt hv)) h
theorem J_putN (hT : zCx τ M kk mc ms) {a ci kf idx : Nat} (hf : zFd M.1.cls idx ci kf) (hfin : (zTX ci kf).2.2.2 = false ∨ (M.1.name = "<init>" ∧ zRX ci = M.1.cls ∧ Cond.fieldLink M.1.cls idx (zRX ci) (zTX ci kf).2.1 (zTX ci kf).2.2.1 ∈ ztb)) (hr : zrt (zfty ci kf) = true) (hd : decode M.2.1 pc = .ok (.putfield idx, 3)) (hk : zK μ a = ci + 8)
    (h : zJ τ F (pc + 3) L st (zsP μ a kf none) c k) : zJ τ F pc L (.null :: .ref a :: st) μ c k :=
  J_put (μ' := zsP μ a kf none) hT hf hfin hd hk rfl (fun _ => by cases hq : zfty ci kf <;> first | rfl | (rw [hq] at hr; cases hr)) (fun _ => by cases hq : zfty ci kf <;> first | rfl | (rw [hq] at hr; cases hr)) (fun cA ad => zent_o_sP hk hr) (fun cA ad b hb => zent_sP_ne cA ad μ a kf none b hb) (fun ho _ hv => zOK_sP ho (fun r' e => by cases e)) h
end ZH
end
section
/-! ===== fields by the constant pools ===== -/
set_option maxRecDepth 20000 in
theorem fX7_9 : zFd RX7 9 7 0 := ⟨by decide, by decide, rfl, Or.inl (ztb_in (zc1 (List.mem_of_getElem? (i := 39) rfl)) rfl)⟩
set_option maxRecDepth 20000 in
theorem fX7_15 : zFd RX7 15 7 1 := ⟨by decide, by decide, rfl, Or.inl (ztb_in (zc1 (List.mem_of_getElem? (i := 40) rfl)) rfl)⟩
set_option maxRecDepth 20000 in
theorem fX2_37 : zFd RX2 37 7 1 := ⟨by decide, by decide, rfl, Or.inr ⟨"Daemonsheet", (zc1 (List.mem_of_getElem? (i := 41) rfl))⟩⟩
set_option maxRecDepth 20000 in
theorem fX8_84 : zFd RX8 84 7 1 := ⟨by decide, by decide, rfl, Or.inr ⟨"Daemonsheet", (zc1 (List.mem_of_getElem? (i := 42) rfl))⟩⟩
set_option maxRecDepth 20000 in
theorem fX2_29 : zFd RX2 29 2 0 := ⟨by decide, by decide, rfl, Or.inl (ztb_in (zc1 (List.mem_of_getElem? (i := 55) rfl)) rfl)⟩
set_option maxRecDepth 20000 in
theorem fX2_9 : zFd RX2 9 2 1 := ⟨by decide, by decide, rfl, Or.inl (ztb_in (zc1 (List.mem_of_getElem? (i := 56) rfl)) rfl)⟩
set_option maxRecDepth 20000 in
theorem fX2_15 : zFd RX2 15 2 2 := ⟨by decide, by decide, rfl, Or.inl (ztb_in (zc1 (List.mem_of_getElem? (i := 57) rfl)) rfl)⟩
set_option maxRecDepth 20000 in
theorem fX2_19 : zFd RX2 19 2 3 := ⟨by decide, by decide, rfl, Or.inl (ztb_in (zc1 (List.mem_of_getElem? (i := 58) rfl)) rfl)⟩
set_option maxRecDepth 20000 in
theorem fX2_22 : zFd RX2 22 2 4 := ⟨by decide, by decide, rfl, Or.inl (ztb_in (zc1 (List.mem_of_getElem? (i := 59) rfl)) rfl)⟩
set_option maxRecDepth 20000 in
theorem fX2_25 : zFd RX2 25 2 5 := ⟨by decide, by decide, rfl, Or.inl (ztb_in (zc1 (List.mem_of_getElem? (i := 60) rfl)) rfl)⟩
set_option maxRecDepth 20000 in
theorem fX1_7 : zFd RX1 7 1 0 := ⟨by decide, by decide, rfl, Or.inl (ztb_in (zc1 (List.mem_of_getElem? (i := 87) rfl)) rfl)⟩
set_option maxRecDepth 20000 in
theorem fX6_229 : zFd RX6 229 1 0 := ⟨by decide, by decide, rfl, Or.inr ⟨"Daemonsheet", (zc1 (List.mem_of_getElem? (i := 88) rfl))⟩⟩
set_option maxRecDepth 20000 in
theorem fX1_13 : zFd RX1 13 1 1 := ⟨by decide, by decide, rfl, Or.inl (ztb_in (zc1 (List.mem_of_getElem? (i := 89) rfl)) rfl)⟩
set_option maxRecDepth 20000 in
theorem fX8_101 : zFd RX8 101 1 1 := ⟨by decide, by decide, rfl, Or.inr ⟨"Daemonsheet", (zc1 (List.mem_of_getElem? (i := 90) rfl))⟩⟩
set_option maxRecDepth 20000 in
theorem fX6_196 : zFd RX6 196 1 1 := ⟨by decide, by decide, rfl, Or.inr ⟨"Daemonsheet", (zc1 (List.mem_of_getElem? (i := 91) rfl))⟩⟩
set_option maxRecDepth 20000 in
theorem fX0_20 : zFd RX0 20 0 0 := ⟨by decide, by decide, rfl, Or.inl (ztb_in (zc1 (List.mem_of_getElem? (i := 108) rfl)) rfl)⟩
set_option maxRecDepth 20000 in
theorem fX6_130 : zFd RX6 130 0 0 := ⟨by decide, by decide, rfl, Or.inr ⟨"Daemonsheet", (zc1 (List.mem_of_getElem? (i := 109) rfl))⟩⟩
set_option maxRecDepth 20000 in
theorem fX0_23 : zFd RX0 23 0 1 := ⟨by decide, by decide, rfl, Or.inl (ztb_in (zc1 (List.mem_of_getElem? (i := 110) rfl)) rfl)⟩
set_option maxRecDepth 20000 in
theorem fX6_62 : zFd RX6 62 0 1 := ⟨by decide, by decide, rfl, Or.inr ⟨"Daemonsheet", (zc1 (List.mem_of_getElem? (i := 111) rfl))⟩⟩
set_option maxRecDepth 20000 in
theorem fX8_172 : zFd RX8 172 0 1 := ⟨by decide, by decide, rfl, Or.inr ⟨"Daemonsheet", (zc1 (List.mem_of_getElem? (i := 112) rfl))⟩⟩
set_option maxRecDepth 20000 in
theorem fX0_7 : zFd RX0 7 0 2 := ⟨by decide, by decide, rfl, Or.inl (ztb_in (zc1 (List.mem_of_getElem? (i := 113) rfl)) rfl)⟩
set_option maxRecDepth 20000 in
theorem fX6_65 : zFd RX6 65 0 2 := ⟨by decide, by decide, rfl, Or.inr ⟨"Daemonsheet", (zc1 (List.mem_of_getElem? (i := 114) rfl))⟩⟩
set_option maxRecDepth 20000 in
theorem fX8_169 : zFd RX8 169 0 2 := ⟨by decide, by decide, rfl, Or.inr ⟨"Daemonsheet", (zc1 (List.mem_of_getElem? (i := 115) rfl))⟩⟩
set_option maxRecDepth 20000 in
theorem fX0_13 : zFd RX0 13 0 3 := ⟨by decide, by decide, rfl, Or.inl (ztb_in (zc1 (List.mem_of_getElem? (i := 116) rfl)) rfl)⟩
set_option maxRecDepth 20000 in
theorem fX8_180 : zFd RX8 180 0 3 := ⟨by decide, by decide, rfl, Or.inr ⟨"Daemonsheet", (zc1 (List.mem_of_getElem? (i := 117) rfl))⟩⟩
set_option maxRecDepth 20000 in
theorem fX6_246 : zFd RX6 246 0 3 := ⟨by decide, by decide, rfl, Or.inr ⟨"Daemonsheet", (zc1 (List.mem_of_getElem? (i := 118) rfl))⟩⟩
set_option maxRecDepth 20000 in
theorem fX0_16 : zFd RX0 16 0 4 := ⟨by decide, by decide, rfl, Or.inl (ztb_in (zc1 (List.mem_of_getElem? (i := 119) rfl)) rfl)⟩
set_option maxRecDepth 20000 in
theorem fX6_68 : zFd RX6 68 0 4 := ⟨by decide, by decide, rfl, Or.inr ⟨"Daemonsheet", (zc1 (List.mem_of_getElem? (i := 120) rfl))⟩⟩
set_option maxRecDepth 20000 in
theorem fX8_127 : zFd RX8 127 0 4 := ⟨by decide, by decide, rfl, Or.inr ⟨"Daemonsheet", (zc1 (List.mem_of_getElem? (i := 121) rfl))⟩⟩
set_option maxRecDepth 20000 in
theorem fX3_9 : zFd RX3 9 3 0 := ⟨by decide, by decide, rfl, Or.inl (ztb_in (zc1 (List.mem_of_getElem? (i := 138) rfl)) rfl)⟩
set_option maxRecDepth 20000 in
theorem fX6_72 : zFd RX6 72 3 0 := ⟨by decide, by decide, rfl, Or.inr ⟨"Daemonsheet", (zc1 (List.mem_of_getElem? (i := 139) rfl))⟩⟩
set_option maxRecDepth 20000 in
theorem fX3_15 : zFd RX3 15 3 1 := ⟨by decide, by decide, rfl, Or.inl (ztb_in (zc1 (List.mem_of_getElem? (i := 140) rfl)) rfl)⟩
set_option maxRecDepth 20000 in
theorem fX6_73 : zFd RX6 73 3 1 := ⟨by decide, by decide, rfl, Or.inr ⟨"Daemonsheet", (zc1 (List.mem_of_getElem? (i := 141) rfl))⟩⟩
set_option maxRecDepth 20000 in
theorem fX4_51 : zFd RX4 51 4 0 := ⟨by decide, by decide, rfl, Or.inl (ztb_in (zc1 (List.mem_of_getElem? (i := 152) rfl)) rfl)⟩
set_option maxRecDepth 20000 in
theorem fX6_195 : zFd RX6 195 4 0 := ⟨by decide, by decide, rfl, Or.inr ⟨"Daemonsheet", (zc1 (List.mem_of_getElem? (i := 153) rfl))⟩⟩
set_option maxRecDepth 20000 in
theorem fX4_9 : zFd RX4 9 4 1 := ⟨by decide, by decide, rfl, Or.inl (ztb_in (zc1 (List.mem_of_getElem? (i := 154) rfl)) rfl)⟩
set_option maxRecDepth 20000 in
theorem fX6_159 : zFd RX6 159 4 1 := ⟨by decide, by decide, rfl, Or.inr ⟨"Daemonsheet", (zc1 (List.mem_of_getElem? (i := 155) rfl))⟩⟩
set_option maxRecDepth 20000 in
theorem fX8_151 : zFd RX8 151 4 1 := ⟨by decide, by decide, rfl, Or.inr ⟨"Daemonsheet", (zc1 (List.mem_of_getElem? (i := 156) rfl))⟩⟩
set_option maxRecDepth 20000 in
theorem fX4_15 : zFd RX4 15 4 2 := ⟨by decide, by decide, rfl, Or.inl (ztb_in (zc1 (List.mem_of_getElem? (i := 157) rfl)) rfl)⟩
set_option maxRecDepth 20000 in
theorem fX6_138 : zFd RX6 138 4 2 := ⟨by decide, by decide, rfl, Or.inr ⟨"Daemonsheet", (zc1 (List.mem_of_getElem? (i := 158) rfl))⟩⟩
set_option maxRecDepth 20000 in
theorem fX4_18 : zFd RX4 18 4 3 := ⟨by decide, by decide, rfl, Or.inl (ztb_in (zc1 (List.mem_of_getElem? (i := 159) rfl)) rfl)⟩
set_option maxRecDepth 20000 in
theorem fX6_141 : zFd RX6 141 4 3 := ⟨by decide, by decide, rfl, Or.inr ⟨"Daemonsheet", (zc1 (List.mem_of_getElem? (i := 160) rfl))⟩⟩
set_option maxRecDepth 20000 in
theorem fX4_21 : zFd RX4 21 4 4 := ⟨by decide, by decide, rfl, Or.inl (ztb_in (zc1 (List.mem_of_getElem? (i := 161) rfl)) rfl)⟩
set_option maxRecDepth 20000 in
theorem fX6_153 : zFd RX6 153 4 4 := ⟨by decide, by decide, rfl, Or.inr ⟨"Daemonsheet", (zc1 (List.mem_of_getElem? (i := 162) rfl))⟩⟩
set_option maxRecDepth 20000 in
theorem fX4_24 : zFd RX4 24 4 5 := ⟨by decide, by decide, rfl, Or.inl (ztb_in (zc1 (List.mem_of_getElem? (i := 163) rfl)) rfl)⟩
set_option maxRecDepth 20000 in
theorem fX6_144 : zFd RX6 144 4 5 := ⟨by decide, by decide, rfl, Or.inr ⟨"Daemonsheet", (zc1 (List.mem_of_getElem? (i := 164) rfl))⟩⟩
set_option maxRecDepth 20000 in
theorem fX4_27 : zFd RX4 27 4 6 := ⟨by decide, by decide, rfl, Or.inl (ztb_in (zc1 (List.mem_of_getElem? (i := 165) rfl)) rfl)⟩
set_option maxRecDepth 20000 in
theorem fX6_150 : zFd RX6 150 4 6 := ⟨by decide, by decide, rfl, Or.inr ⟨"Daemonsheet", (zc1 (List.mem_of_getElem? (i := 166) rfl))⟩⟩
set_option maxRecDepth 20000 in
theorem fX4_30 : zFd RX4 30 4 7 := ⟨by decide, by decide, rfl, Or.inl (ztb_in (zc1 (List.mem_of_getElem? (i := 167) rfl)) rfl)⟩
set_option maxRecDepth 20000 in
theorem fX6_156 : zFd RX6 156 4 7 := ⟨by decide, by decide, rfl, Or.inr ⟨"Daemonsheet", (zc1 (List.mem_of_getElem? (i := 168) rfl))⟩⟩
set_option maxRecDepth 20000 in
theorem fX4_33 : zFd RX4 33 4 8 := ⟨by decide, by decide, rfl, Or.inl (ztb_in (zc1 (List.mem_of_getElem? (i := 169) rfl)) rfl)⟩
set_option maxRecDepth 20000 in
theorem fX6_177 : zFd RX6 177 4 8 := ⟨by decide, by decide, rfl, Or.inr ⟨"Daemonsheet", (zc1 (List.mem_of_getElem? (i := 170) rfl))⟩⟩
set_option maxRecDepth 20000 in
theorem fX8_189 : zFd RX8 189 4 8 := ⟨by decide, by decide, rfl, Or.inr ⟨"Daemonsheet", (zc1 (List.mem_of_getElem? (i := 171) rfl))⟩⟩
set_option maxRecDepth 20000 in
theorem fX4_36 : zFd RX4 36 4 9 := ⟨by decide, by decide, rfl, Or.inl (ztb_in (zc1 (List.mem_of_getElem? (i := 172) rfl)) rfl)⟩
set_option maxRecDepth 20000 in
theorem fX6_192 : zFd RX6 192 4 9 := ⟨by decide, by decide, rfl, Or.inr ⟨"Daemonsheet", (zc1 (List.mem_of_getElem? (i := 173) rfl))⟩⟩
set_option maxRecDepth 20000 in
theorem fX8_192 : zFd RX8 192 4 9 := ⟨by decide, by decide, rfl, Or.inr ⟨"Daemonsheet", (zc1 (List.mem_of_getElem? (i := 174) rfl))⟩⟩
set_option maxRecDepth 20000 in
theorem fX4_39 : zFd RX4 39 4 10 := ⟨by decide, by decide, rfl, Or.inl (ztb_in (zc1 (List.mem_of_getElem? (i := 175) rfl)) rfl)⟩
set_option maxRecDepth 20000 in
theorem fX8_195 : zFd RX8 195 4 10 := ⟨by decide, by decide, rfl, Or.inr ⟨"Daemonsheet", (zc1 (List.mem_of_getElem? (i := 176) rfl))⟩⟩
set_option maxRecDepth 20000 in
theorem fX4_42 : zFd RX4 42 4 11 := ⟨by decide, by decide, rfl, Or.inl (ztb_in (zc1 (List.mem_of_getElem? (i := 177) rfl)) rfl)⟩
set_option maxRecDepth 20000 in
theorem fX4_45 : zFd RX4 45 4 12 := ⟨by decide, by decide, rfl, Or.inl (ztb_in (zc1 (List.mem_of_getElem? (i := 178) rfl)) rfl)⟩
set_option maxRecDepth 20000 in
theorem fX4_48 : zFd RX4 48 4 13 := ⟨by decide, by decide, rfl, Or.inl (ztb_in (zc1 (List.mem_of_getElem? (i := 179) rfl)) rfl)⟩
set_option maxRecDepth 20000 in
theorem fX6_174 : zFd RX6 174 4 13 := ⟨by decide, by decide, rfl, Or.inr ⟨"Daemonsheet", (zc1 (List.mem_of_getElem? (i := 180) rfl))⟩⟩
set_option maxRecDepth 20000 in
theorem fX6_14 : zFd RX6 14 6 0 := ⟨by decide, by decide, rfl, Or.inl (ztb_in (zc1 (List.mem_of_getElem? (i := 210) rfl)) rfl)⟩
set_option maxRecDepth 20000 in
theorem fX6_22 : zFd RX6 22 6 1 := ⟨by decide, by decide, rfl, Or.inl (ztb_in (zc1 (List.mem_of_getElem? (i := 211) rfl)) rfl)⟩
set_option maxRecDepth 20000 in
theorem fX8_123 : zFd RX8 123 6 1 := ⟨by decide, by decide, rfl, Or.inr ⟨"Daemonsheet", (zc1 (List.mem_of_getElem? (i := 212) rfl))⟩⟩
set_option maxRecDepth 20000 in
theorem fX6_26 : zFd RX6 26 6 2 := ⟨by decide, by decide, rfl, Or.inl (ztb_in (zc1 (List.mem_of_getElem? (i := 213) rfl)) rfl)⟩
set_option maxRecDepth 20000 in
theorem fX6_31 : zFd RX6 31 6 3 := ⟨by decide, by decide, rfl, Or.inl (ztb_in (zc1 (List.mem_of_getElem? (i := 214) rfl)) rfl)⟩
set_option maxRecDepth 20000 in
theorem fX6_37 : zFd RX6 37 6 4 := ⟨by decide, by decide, rfl, Or.inl (ztb_in (zc1 (List.mem_of_getElem? (i := 215) rfl)) rfl)⟩
set_option maxRecDepth 20000 in
theorem fX8_147 : zFd RX8 147 6 4 := ⟨by decide, by decide, rfl, Or.inr ⟨"Daemonsheet", (zc1 (List.mem_of_getElem? (i := 216) rfl))⟩⟩
set_option maxRecDepth 20000 in
theorem fX6_41 : zFd RX6 41 6 5 := ⟨by decide, by decide, rfl, Or.inl (ztb_in (zc1 (List.mem_of_getElem? (i := 217) rfl)) rfl)⟩
set_option maxRecDepth 20000 in
theorem fX6_45 : zFd RX6 45 6 6 := ⟨by decide, by decide, rfl, Or.inl (ztb_in (zc1 (List.mem_of_getElem? (i := 218) rfl)) rfl)⟩
set_option maxRecDepth 20000 in
theorem fX6_49 : zFd RX6 49 6 7 := ⟨by decide, by decide, rfl, Or.inl (ztb_in (zc1 (List.mem_of_getElem? (i := 219) rfl)) rfl)⟩
set_option maxRecDepth 20000 in
theorem fX8_158 : zFd RX8 158 6 7 := ⟨by decide, by decide, rfl, Or.inr ⟨"Daemonsheet", (zc1 (List.mem_of_getElem? (i := 220) rfl))⟩⟩
set_option maxRecDepth 20000 in
theorem fX6_52 : zFd RX6 52 6 8 := ⟨by decide, by decide, rfl, Or.inl (ztb_in (zc1 (List.mem_of_getElem? (i := 221) rfl)) rfl)⟩
set_option maxRecDepth 20000 in
theorem fX8_186 : zFd RX8 186 6 8 := ⟨by decide, by decide, rfl, Or.inr ⟨"Daemonsheet", (zc1 (List.mem_of_getElem? (i := 222) rfl))⟩⟩
set_option maxRecDepth 20000 in
theorem fX5_7 : zFd RX5 7 5 0 := ⟨by decide, by decide, rfl, Or.inl (ztb_in (zc2 (List.mem_of_getElem? (i := 9) rfl)) rfl)⟩
set_option maxRecDepth 20000 in
theorem fX6_91 : zFd RX6 91 5 0 := ⟨by decide, by decide, rfl, Or.inr ⟨"Daemonsheet", (zc2 (List.mem_of_getElem? (i := 10) rfl))⟩⟩
set_option maxRecDepth 20000 in
theorem fX8_227 : zFd RX8 227 5 0 := ⟨by decide, by decide, rfl, Or.inr ⟨"Daemonsheet", (zc2 (List.mem_of_getElem? (i := 11) rfl))⟩⟩
set_option maxRecDepth 20000 in
theorem fX5_13 : zFd RX5 13 5 1 := ⟨by decide, by decide, rfl, Or.inl (ztb_in (zc2 (List.mem_of_getElem? (i := 12) rfl)) rfl)⟩
set_option maxRecDepth 20000 in
theorem fX6_104 : zFd RX6 104 5 1 := ⟨by decide, by decide, rfl, Or.inr ⟨"Daemonsheet", (zc2 (List.mem_of_getElem? (i := 13) rfl))⟩⟩
set_option maxRecDepth 20000 in
theorem fX5_16 : zFd RX5 16 5 2 := ⟨by decide, by decide, rfl, Or.inl (ztb_in (zc2 (List.mem_of_getElem? (i := 14) rfl)) rfl)⟩
set_option maxRecDepth 20000 in
theorem fX6_124 : zFd RX6 124 5 2 := ⟨by decide, by decide, rfl, Or.inr ⟨"Daemonsheet", (zc2 (List.mem_of_getElem? (i := 15) rfl))⟩⟩
set_option maxRecDepth 20000 in
theorem fX5_19 : zFd RX5 19 5 3 := ⟨by decide, by decide, rfl, Or.inl (ztb_in (zc2 (List.mem_of_getElem? (i := 16) rfl)) rfl)⟩
set_option maxRecDepth 20000 in
theorem fX6_147 : zFd RX6 147 5 3 := ⟨by decide, by decide, rfl, Or.inr ⟨"Daemonsheet", (zc2 (List.mem_of_getElem? (i := 17) rfl))⟩⟩
set_option maxRecDepth 20000 in
theorem fX5_22 : zFd RX5 22 5 4 := ⟨by decide, by decide, rfl, Or.inl (ztb_in (zc2 (List.mem_of_getElem? (i := 18) rfl)) rfl)⟩
set_option maxRecDepth 20000 in
theorem fX6_137 : zFd RX6 137 5 4 := ⟨by decide, by decide, rfl, Or.inr ⟨"Daemonsheet", (zc2 (List.mem_of_getElem? (i := 19) rfl))⟩⟩
set_option maxRecDepth 20000 in
theorem fX5_26 : zFd RX5 26 5 5 := ⟨by decide, by decide, rfl, Or.inl (ztb_in (zc2 (List.mem_of_getElem? (i := 20) rfl)) rfl)⟩
set_option maxRecDepth 20000 in
theorem fX8_230 : zFd RX8 230 5 5 := ⟨by decide, by decide, rfl, Or.inr ⟨"Daemonsheet", (zc2 (List.mem_of_getElem? (i := 21) rfl))⟩⟩
set_option maxRecDepth 20000 in
theorem fX8_12 : zFd RX8 12 8 0 := ⟨by decide, by decide, rfl, Or.inl (ztb_in (zc2 (List.mem_of_getElem? (i := 35) rfl)) rfl)⟩
set_option maxRecDepth 20000 in
theorem fX8_21 : zFd RX8 21 8 1 := ⟨by decide, by decide, rfl, Or.inl (ztb_in (zc2 (List.mem_of_getElem? (i := 36) rfl)) rfl)⟩
set_option maxRecDepth 20000 in
theorem fX8_28 : zFd RX8 28 8 2 := ⟨by decide, by decide, rfl, Or.inl (ztb_in (zc2 (List.mem_of_getElem? (i := 37) rfl)) rfl)⟩
set_option maxRecDepth 20000 in
theorem fX8_32 : zFd RX8 32 8 3 := ⟨by decide, by decide, rfl, Or.inl (ztb_in (zc2 (List.mem_of_getElem? (i := 38) rfl)) rfl)⟩
set_option maxRecDepth 20000 in
theorem fX8_37 : zFd RX8 37 8 4 := ⟨by decide, by decide, rfl, Or.inl (ztb_in (zc2 (List.mem_of_getElem? (i := 39) rfl)) rfl)⟩
set_option maxRecDepth 20000 in
theorem fX8_41 : zFd RX8 41 8 5 := ⟨by decide, by decide, rfl, Or.inl (ztb_in (zc2 (List.mem_of_getElem? (i := 40) rfl)) rfl)⟩
set_option maxRecDepth 20000 in
theorem fX8_48 : zFd RX8 48 8 6 := ⟨by decide, by decide, rfl, Or.inl (ztb_in (zc2 (List.mem_of_getElem? (i := 41) rfl)) rfl)⟩
set_option maxRecDepth 20000 in
theorem fX9_7 : zFd RX9 7 9 0 := ⟨by decide, by decide, rfl, Or.inl (ztb_in (zc5 (List.mem_of_getElem? (i := 9) rfl)) rfl)⟩
set_option maxRecDepth 20000 in
theorem fX9_147 : zFd RX9 147 9 1 := ⟨by decide, by decide, rfl, Or.inl (ztb_in (zc5 (List.mem_of_getElem? (i := 10) rfl)) rfl)⟩
set_option maxRecDepth 20000 in
theorem fX9_13 : zFd RX9 13 9 2 := ⟨by decide, by decide, rfl, Or.inl (ztb_in (zc5 (List.mem_of_getElem? (i := 11) rfl)) rfl)⟩
set_option maxRecDepth 20000 in
theorem fX9_154 : zFd RX9 154 9 3 := ⟨by decide, by decide, rfl, Or.inl (ztb_in (zc5 (List.mem_of_getElem? (i := 12) rfl)) rfl)⟩
set_option maxRecDepth 20000 in
theorem fX9_16 : zFd RX9 16 9 4 := ⟨by decide, by decide, rfl, Or.inl (ztb_in (zc5 (List.mem_of_getElem? (i := 13) rfl)) rfl)⟩
set_option maxRecDepth 20000 in
theorem fX9_157 : zFd RX9 157 9 5 := ⟨by decide, by decide, rfl, Or.inl (ztb_in (zc5 (List.mem_of_getElem? (i := 14) rfl)) rfl)⟩
set_option maxRecDepth 20000 in
theorem fX9_19 : zFd RX9 19 9 6 := ⟨by decide, by decide, rfl, Or.inl (ztb_in (zc5 (List.mem_of_getElem? (i := 15) rfl)) rfl)⟩
set_option maxRecDepth 20000 in
theorem fX9_23 : zFd RX9 23 9 7 := ⟨by decide, by decide, rfl, Or.inl (ztb_in (zc5 (List.mem_of_getElem? (i := 16) rfl)) rfl)⟩
set_option maxRecDepth 20000 in
theorem fX9_26 : zFd RX9 26 9 8 := ⟨by decide, by decide, rfl, Or.inl (ztb_in (zc5 (List.mem_of_getElem? (i := 17) rfl)) rfl)⟩
set_option maxRecDepth 20000 in
theorem fX9_29 : zFd RX9 29 9 9 := ⟨by decide, by decide, rfl, Or.inl (ztb_in (zc5 (List.mem_of_getElem? (i := 18) rfl)) rfl)⟩
set_option maxRecDepth 20000 in
theorem fX9_32 : zFd RX9 32 9 10 := ⟨by decide, by decide, rfl, Or.inl (ztb_in (zc5 (List.mem_of_getElem? (i := 19) rfl)) rfl)⟩
set_option maxRecDepth 20000 in
theorem fX9_35 : zFd RX9 35 9 11 := ⟨by decide, by decide, rfl, Or.inl (ztb_in (zc5 (List.mem_of_getElem? (i := 20) rfl)) rfl)⟩
set_option maxRecDepth 20000 in
theorem fX9_38 : zFd RX9 38 9 12 := ⟨by decide, by decide, rfl, Or.inl (ztb_in (zc5 (List.mem_of_getElem? (i := 21) rfl)) rfl)⟩
set_option maxRecDepth 20000 in
theorem fX9_41 : zFd RX9 41 9 13 := ⟨by decide, by decide, rfl, Or.inl (ztb_in (zc5 (List.mem_of_getElem? (i := 22) rfl)) rfl)⟩
set_option maxRecDepth 20000 in
theorem fX9_44 : zFd RX9 44 9 14 := ⟨by decide, by decide, rfl, Or.inl (ztb_in (zc5 (List.mem_of_getElem? (i := 23) rfl)) rfl)⟩
set_option maxRecDepth 20000 in
theorem fX9_47 : zFd RX9 47 9 15 := ⟨by decide, by decide, rfl, Or.inl (ztb_in (zc5 (List.mem_of_getElem? (i := 24) rfl)) rfl)⟩
set_option maxRecDepth 20000 in
theorem fX9_50 : zFd RX9 50 9 16 := ⟨by decide, by decide, rfl, Or.inl (ztb_in (zc5 (List.mem_of_getElem? (i := 25) rfl)) rfl)⟩
set_option maxRecDepth 20000 in
theorem fX9_53 : zFd RX9 53 9 17 := ⟨by decide, by decide, rfl, Or.inl (ztb_in (zc5 (List.mem_of_getElem? (i := 26) rfl)) rfl)⟩
set_option maxRecDepth 20000 in
theorem fX9_56 : zFd RX9 56 9 18 := ⟨by decide, by decide, rfl, Or.inl (ztb_in (zc5 (List.mem_of_getElem? (i := 27) rfl)) rfl)⟩
set_option maxRecDepth 20000 in
theorem fX9_59 : zFd RX9 59 9 19 := ⟨by decide, by decide, rfl, Or.inl (ztb_in (zc5 (List.mem_of_getElem? (i := 28) rfl)) rfl)⟩
set_option maxRecDepth 20000 in
theorem fX9_62 : zFd RX9 62 9 20 := ⟨by decide, by decide, rfl, Or.inl (ztb_in (zc5 (List.mem_of_getElem? (i := 29) rfl)) rfl)⟩
set_option maxRecDepth 20000 in
theorem fX9_65 : zFd RX9 65 9 21 := ⟨by decide, by decide, rfl, Or.inl (ztb_in (zc5 (List.mem_of_getElem? (i := 30) rfl)) rfl)⟩
set_option maxRecDepth 20000 in
theorem fX9_68 : zFd RX9 68 9 22 := ⟨by decide, by decide, rfl, Or.inl (ztb_in (zc5 (List.mem_of_getElem? (i := 31) rfl)) rfl)⟩
set_option maxRecDepth 20000 in
theorem fX9_71 : zFd RX9 71 9 23 := ⟨by decide, by decide, rfl, Or.inl (ztb_in (zc5 (List.mem_of_getElem? (i := 32) rfl)) rfl)⟩
set_option maxRecDepth 20000 in
theorem fX9_74 : zFd RX9 74 9 24 := ⟨by decide, by decide, rfl, Or.inl (ztb_in (zc5 (List.mem_of_getElem? (i := 33) rfl)) rfl)⟩
set_option maxRecDepth 20000 in
theorem fX9_77 : zFd RX9 77 9 25 := ⟨by decide, by decide, rfl, Or.inl (ztb_in (zc5 (List.mem_of_getElem? (i := 34) rfl)) rfl)⟩
set_option maxRecDepth 20000 in
theorem fX9_80 : zFd RX9 80 9 26 := ⟨by decide, by decide, rfl, Or.inl (ztb_in (zc5 (List.mem_of_getElem? (i := 35) rfl)) rfl)⟩
set_option maxRecDepth 20000 in
theorem fX9_83 : zFd RX9 83 9 27 := ⟨by decide, by decide, rfl, Or.inl (ztb_in (zc5 (List.mem_of_getElem? (i := 36) rfl)) rfl)⟩
set_option maxRecDepth 20000 in
theorem fX9_86 : zFd RX9 86 9 28 := ⟨by decide, by decide, rfl, Or.inl (ztb_in (zc5 (List.mem_of_getElem? (i := 37) rfl)) rfl)⟩
set_option maxRecDepth 20000 in
theorem fX9_89 : zFd RX9 89 9 29 := ⟨by decide, by decide, rfl, Or.inl (ztb_in (zc5 (List.mem_of_getElem? (i := 38) rfl)) rfl)⟩
set_option maxRecDepth 20000 in
theorem fX9_92 : zFd RX9 92 9 30 := ⟨by decide, by decide, rfl, Or.inl (ztb_in (zc5 (List.mem_of_getElem? (i := 39) rfl)) rfl)⟩
set_option maxRecDepth 20000 in
theorem fX9_95 : zFd RX9 95 9 31 := ⟨by decide, by decide, rfl, Or.inl (ztb_in (zc5 (List.mem_of_getElem? (i := 40) rfl)) rfl)⟩
set_option maxRecDepth 20000 in
theorem fX9_98 : zFd RX9 98 9 32 := ⟨by decide, by decide, rfl, Or.inl (ztb_in (zc5 (List.mem_of_getElem? (i := 41) rfl)) rfl)⟩
set_option maxRecDepth 20000 in
theorem fX9_208 : zFd RX9 208 9 33 := ⟨by decide, by decide, rfl, Or.inl (ztb_in (zc5 (List.mem_of_getElem? (i := 42) rfl)) rfl)⟩
set_option maxRecDepth 20000 in
theorem fX9_218 : zFd RX9 218 9 34 := ⟨by decide, by decide, rfl, Or.inl (ztb_in (zc5 (List.mem_of_getElem? (i := 43) rfl)) rfl)⟩
set_option maxRecDepth 20000 in
theorem fX9_101 : zFd RX9 101 9 35 := ⟨by decide, by decide, rfl, Or.inl (ztb_in (zc5 (List.mem_of_getElem? (i := 44) rfl)) rfl)⟩
set_option maxRecDepth 20000 in
theorem fX9_104 : zFd RX9 104 9 36 := ⟨by decide, by decide, rfl, Or.inl (ztb_in (zc5 (List.mem_of_getElem? (i := 45) rfl)) rfl)⟩
set_option maxRecDepth 20000 in
theorem fX9_107 : zFd RX9 107 9 37 := ⟨by decide, by decide, rfl, Or.inl (ztb_in (zc5 (List.mem_of_getElem? (i := 46) rfl)) rfl)⟩
set_option maxRecDepth 20000 in
theorem fX9_110 : zFd RX9 110 9 38 := ⟨by decide, by decide, rfl, Or.inl (ztb_in (zc5 (List.mem_of_getElem? (i := 47) rfl)) rfl)⟩
set_option maxRecDepth 20000 in
theorem fX9_113 : zFd RX9 113 9 39 := ⟨by decide, by decide, rfl, Or.inl (ztb_in (zc5 (List.mem_of_getElem? (i := 48) rfl)) rfl)⟩
set_option maxRecDepth 20000 in
theorem fX9_116 : zFd RX9 116 9 40 := ⟨by decide, by decide, rfl, Or.inl (ztb_in (zc5 (List.mem_of_getElem? (i := 49) rfl)) rfl)⟩
set_option maxRecDepth 20000 in
theorem fX9_119 : zFd RX9 119 9 41 := ⟨by decide, by decide, rfl, Or.inl (ztb_in (zc5 (List.mem_of_getElem? (i := 50) rfl)) rfl)⟩
set_option maxRecDepth 20000 in
theorem fX9_277 : zFd RX9 277 9 42 := ⟨by decide, by decide, rfl, Or.inl (ztb_in (zc5 (List.mem_of_getElem? (i := 51) rfl)) rfl)⟩
set_option maxRecDepth 20000 in
theorem fX9_122 : zFd RX9 122 9 43 := ⟨by decide, by decide, rfl, Or.inl (ztb_in (zc5 (List.mem_of_getElem? (i := 52) rfl)) rfl)⟩
set_option maxRecDepth 20000 in
theorem fX9_187 : zFd RX9 187 9 44 := ⟨by decide, by decide, rfl, Or.inl (ztb_in (zc5 (List.mem_of_getElem? (i := 53) rfl)) rfl)⟩
set_option maxRecDepth 20000 in
theorem fX9_129 : zFd RX9 129 9 45 := ⟨by decide, by decide, rfl, Or.inl (ztb_in (zc5 (List.mem_of_getElem? (i := 54) rfl)) rfl)⟩
end
section
/-! ===== arrays, making, returns, calls ===== -/
/-- an index within -/
def zix (i : Int32) (j n : Nat) : Prop := i.toInt = (j : Int) ∧ j < n
theorem zix_nI {j n : Nat} (h : j < n) (hn : n ≤ 2147483648) : zix (nI j) j n := ⟨nI_toInt (by omega), h⟩
theorem zix_in {i : Int32} {j n : Nat} (h : zix i j n) : vp_in i n := vp_in_iff.mpr ⟨by rw [h.1]; omega, by rw [h.1]; have := h.2; omega⟩
theorem zix_at {i : Int32} {j n : Nat} (h : zix i j n) : i.toNatClampNeg = j := by
  have := h.1
  show i.toInt.toNat = j
  omega
section ZA
variable {τ : zT} {M : zM} {kk mc ms : Nat} {F : State → Prop} {pc : Nat} {L : List (Option Value)} {st : List Value} {μ : zMem} {c k : Nat}
theorem zHS.lt {ad : Nat → Nat} {H : Heap} {locs : List Loc} {a : Nat} (_ : zHS τ ad μ H locs) (hst : zoks (zN μ) (.ref a :: st)) : a < zN μ := zok_lt (zoks_hd hst)
theorem J_iald (hT : zCx τ M kk mc ms) {a j : Nat} {i : Int32} (hd : decode M.2.1 pc = .ok (.iaload, 1)) (hk : zK μ a = 0) (hi : zix i j (zL μ a)) (h : zJ τ F (pc + 1) L (.int (zI μ a j) :: st) μ c k) : zJ τ F pc L (.int i :: .ref a :: st) μ c k := by
  intro ad H locs ls hw hL hst
  have ha := zok_lt (zoks_hd (zoks_tl hst))
  have he := zws_at τ.2.2.2.2.2.2.2.2.2.2.1.2.2 ad μ ha
  rw [zent_i hk (by decide)] at he
  have h2 := h ad H locs ls hw hL (zoks_cons (zok_int _ _) (zoks_tl (zoks_tl hst)))
  rw [← zix_at hi] at h2
  exact va_iald hT.1 hT.2.1 hT.K hw.1.1 a 0 he (ztys_at _ (by decide)) (zix_in hi) hd h2
theorem J_zald (hT : zCx τ M kk mc ms) {a j : Nat} {i : Int32} (hd : decode M.2.1 pc = .ok (.baload, 1)) (hk : zK μ a = 1) (hi : zix i j (zL μ a)) (h : zJ τ F (pc + 1) L (.int (zI μ a j) :: st) μ c k) : zJ τ F pc L (.int i :: .ref a :: st) μ c k := by
  intro ad H locs ls hw hL hst
  have ha := zok_lt (zoks_hd (zoks_tl hst))
  have he := zws_at τ.2.2.2.2.2.2.2.2.2.2.1.2.2 ad μ ha
  rw [zent_i hk (by decide)] at he
  have h2 := h ad H locs ls hw hL (zoks_cons (zok_int _ _) (zoks_tl (zoks_tl hst)))
  rw [← zix_at hi] at h2
  exact va_zald hT.1 hT.2.1 hT.K hw.1.1 a 1 he (ztys_at _ (by decide)) (zix_in hi) hd h2
theorem J_cald (hT : zCx τ M kk mc ms) {a j : Nat} {i : Int32} (hd : decode M.2.1 pc = .ok (.caload, 1)) (hk : zK μ a = 2) (hi : zix i j (zL μ a)) (h : zJ τ F (pc + 1) L (.int (zI μ a j) :: st) μ c k) : zJ τ F pc L (.int i :: .ref a :: st) μ c k := by
  intro ad H locs ls hw hL hst
  have ha := zok_lt (zoks_hd (zoks_tl hst))
  have he := zws_at τ.2.2.2.2.2.2.2.2.2.2.1.2.2 ad μ ha
  rw [zent_i hk (by decide)] at he
  have h2 := h ad H locs ls hw hL (zoks_cons (zok_int _ _) (zoks_tl (zoks_tl hst)))
  rw [← zix_at hi] at h2
  exact va_cald hT.1 hT.2.1 hT.K hw.1.1 a 2 he (ztys_at _ (by decide)) (zix_in hi) hd h2
theorem J_lald (hT : zCx τ M kk mc ms) {a j : Nat} {i : Int32} (hd : decode M.2.1 pc = .ok (.laload, 1)) (hk : zK μ a = 3) (hi : zix i j (zL μ a)) (h : zJ τ F (pc + 1) L (.long (zG μ a j) :: st) μ c k) : zJ τ F pc L (.int i :: .ref a :: st) μ c k := by
  intro ad H locs ls hw hL hst
  have ha := zok_lt (zoks_hd (zoks_tl hst))
  have he := zws_at τ.2.2.2.2.2.2.2.2.2.2.1.2.2 ad μ ha
  rw [zent_g hk] at he
  have h2 := h ad H locs ls hw hL (zoks_cons (zok_long _ _) (zoks_tl (zoks_tl hst)))
  rw [← zix_at hi] at h2
  exact va_lald hT.1 hT.2.1 hT.K hw.1.1 a 3 he (ztys_at _ (by decide)) (zix_in hi) hd h2
theorem zty_q {kd : Nat} (h3 : 3 < kd) (h8 : kd < 8) : ∃ C, zty kd = .object C := by
  match kd, h3, h8 with
  | 4, _, _ => exact ⟨_, rfl⟩
  | 5, _, _ => exact ⟨_, rfl⟩
  | 6, _, _ => exact ⟨_, rfl⟩
  | 7, _, _ => exact ⟨_, rfl⟩
theorem J_aald (hT : zCx τ M kk mc ms) {a j kd : Nat} {i : Int32} {v : Value} (hd : decode M.2.1 pc = .ok (.aaload, 1)) (hk : zK μ a = kd) (h3 : 3 < kd) (h8 : kd < 8) (hi : zix i j (zL μ a)) (hv : va_rf (zP μ a j) = v) (h : zJ τ F (pc + 1) L (v :: st) μ c k) : zJ τ F pc L (.int i :: .ref a :: st) μ c k := by
  intro ad H locs ls hw hL hst
  have ha := zok_lt (zoks_hd (zoks_tl hst))
  have he := zws_at τ.2.2.2.2.2.2.2.2.2.2.1.2.2 ad μ ha
  rw [zent_p hk h3 h8] at he
  obtain ⟨C, hC⟩ := zty_q h3 h8
  have ht := ztys_at τ.2.2.2.2.2.2.2.2.2.2.1.2.2 h8
  rw [hC] at ht
  have hvo : zok (zN μ) v := by
    intro r hr
    rw [← hv] at hr
    cases hp : zP μ a j with
    | none => rw [hp] at hr; cases hr
    | some q => rw [hp] at hr; cases hr; exact hw.1.2.2 a j _ ha hp
  have h2 := h ad H locs ls hw hL (zoks_cons hvo (zoks_tl (zoks_tl hst)))
  rw [← hv, List.map_cons, ztv_rf, ← zix_at hi] at h2
  exact va_aldq hT.1 hT.2.1 hT.K hw.1.1 a kd he ht (zix_in hi) hd h2
theorem J_alen (hT : zCx τ M kk mc ms) {a : Nat} {v : Int32} (hd : decode M.2.1 pc = .ok (.arraylength, 1)) (hk : zK μ a < 8) (hv : nI (zL μ a) = v) (h : zJ τ F (pc + 1) L (.int v :: st) μ c k) : zJ τ F pc L (.ref a :: st) μ c k := by
  intro ad H locs ls hw hL hst
  have ha := zok_lt (zoks_hd hst)
  have he := zws_at τ.2.2.2.2.2.2.2.2.2.2.1.2.2 ad μ ha
  have h2 := h ad H locs ls hw hL (zoks_cons (zok_int _ _) (zoks_tl hst))
  by_cases h3 : zK μ a < 3
  · rw [zent_i rfl h3] at he
    exact va_alen hT.1 hT.2.1 hT.K hw.1.1 a _ he (ztys_at _ hk) hv hd h2
  · by_cases h4 : zK μ a = 3
    · rw [zent_g h4] at he
      exact va_alen hT.1 hT.2.1 hT.K hw.1.1 a 3 he (ztys_at _ (by decide)) hv hd h2
    · rw [zent_p rfl (by omega) hk] at he
      exact va_alen hT.1 hT.2.1 hT.K hw.1.1 a _ he (ztys_at _ hk) hv hd h2
theorem J_iast (hT : zCx τ M kk mc ms) {a j : Nat} {i x : Int32} (hd : decode M.2.1 pc = .ok (.iastore, 1)) (hk : zK μ a = 0) (hi : zix i j (zL μ a)) (h : zJ τ F (pc + 1) L st (zsI μ a j x) c k) : zJ τ F pc L (.int x :: .int i :: .ref a :: st) μ c k := by
  intro ad H locs ls hw hL hst
  have ha := zok_lt (zoks_hd (zoks_tl (zoks_tl hst)))
  have he := zws_at τ.2.2.2.2.2.2.2.2.2.2.1.2.2 ad μ ha
  rw [zent_i hk (by decide)] at he
  refine va_iast hT.1 hT.2.1 hT.K hw.1.1 hw.1.2.1 hw.2.1 a 0 he (ztys_at _ (by decide)) (zix_in hi) hd (fun H1 locs1 q1 q2 q3 => ?_)
  refine h ad H1 locs1 ls (zHS_set hw rfl (zOK_sI hw.1.2.2) (zws_set (μ := μ) rfl ?_ (fun b hb => zent_sI_ne _ ad μ a j x b hb)) q1 q2 q3) hL (zoks_tl (zoks_tl (zoks_tl hst)))
  have e2 : zI (zsI μ a j x) a = upd (zI μ a) j x := by funext q; simp [zI_sI, upd]
  rw [zent_i (μ := zsI μ a j x) hk (by decide), zix_at hi, e2, zL_sI]
theorem J_zast (hT : zCx τ M kk mc ms) {a j : Nat} {i x : Int32} (hd : decode M.2.1 pc = .ok (.bastore, 1)) (hk : zK μ a = 1) (hi : zix i j (zL μ a)) (hx : x = 0 ∨ x = 1) (h : zJ τ F (pc + 1) L st (zsI μ a j x) c k) : zJ τ F pc L (.int x :: .int i :: .ref a :: st) μ c k := by
  intro ad H locs ls hw hL hst
  have ha := zok_lt (zoks_hd (zoks_tl (zoks_tl hst)))
  have he := zws_at τ.2.2.2.2.2.2.2.2.2.2.1.2.2 ad μ ha
  rw [zent_i hk (by decide)] at he
  have hn : vp_nar .boolean x = x := by rcases hx with rfl | rfl <;> rfl
  refine va_zast hT.1 hT.2.1 hT.K hw.1.1 hw.1.2.1 hw.2.1 a 1 he (ztys_at _ (by decide)) (zix_in hi) hd (fun H1 locs1 q1 q2 q3 => ?_)
  rw [hn] at q1 q2
  refine h ad H1 locs1 ls (zHS_set hw rfl (zOK_sI hw.1.2.2) (zws_set (μ := μ) rfl ?_ (fun b hb => zent_sI_ne _ ad μ a j x b hb)) q1 q2 q3) hL (zoks_tl (zoks_tl (zoks_tl hst)))
  have e2 : zI (zsI μ a j x) a = upd (zI μ a) j x := by funext q; simp [zI_sI, upd]
  rw [zent_i (μ := zsI μ a j x) hk (by decide), zix_at hi, e2, zL_sI]
theorem J_cast (hT : zCx τ M kk mc ms) {a j : Nat} {i x : Int32} (hd : decode M.2.1 pc = .ok (.castore, 1)) (hk : zK μ a = 2) (hi : zix i j (zL μ a)) (hx : vp_nar .char x = x) (h : zJ τ F (pc + 1) L st (zsI μ a j x) c k) : zJ τ F pc L (.int x :: .int i :: .ref a :: st) μ c k := by
  intro ad H locs ls hw hL hst
  have ha := zok_lt (zoks_hd (zoks_tl (zoks_tl hst)))
  have he := zws_at τ.2.2.2.2.2.2.2.2.2.2.1.2.2 ad μ ha
  rw [zent_i hk (by decide)] at he
  refine va_cast hT.1 hT.2.1 hT.K hw.1.1 hw.1.2.1 hw.2.1 a 2 he (ztys_at _ (by decide)) (zix_in hi) hd (fun H1 locs1 q1 q2 q3 => ?_)
  rw [hx] at q1 q2
  refine h ad H1 locs1 ls (zHS_set hw rfl (zOK_sI hw.1.2.2) (zws_set (μ := μ) rfl ?_ (fun b hb => zent_sI_ne _ ad μ a j x b hb)) q1 q2 q3) hL (zoks_tl (zoks_tl (zoks_tl hst)))
  have e2 : zI (zsI μ a j x) a = upd (zI μ a) j x := by funext q; simp [zI_sI, upd]
  rw [zent_i (μ := zsI μ a j x) hk (by decide), zix_at hi, e2, zL_sI]
theorem J_last (hT : zCx τ M kk mc ms) {a j : Nat} {i : Int32} {x : Int64} (hd : decode M.2.1 pc = .ok (.lastore, 1)) (hk : zK μ a = 3) (hi : zix i j (zL μ a)) (h : zJ τ F (pc + 1) L st (zsG μ a j x) c k) : zJ τ F pc L (.long x :: .int i :: .ref a :: st) μ c k := by
  intro ad H locs ls hw hL hst
  have ha := zok_lt (zoks_hd (zoks_tl (zoks_tl hst)))
  have he := zws_at τ.2.2.2.2.2.2.2.2.2.2.1.2.2 ad μ ha
  rw [zent_g hk] at he
  refine va_last hT.1 hT.2.1 hT.K hw.1.1 hw.1.2.1 hw.2.1 a 3 he (ztys_at _ (by decide)) (zix_in hi) hd (fun H1 locs1 q1 q2 q3 => ?_)
  refine h ad H1 locs1 ls (zHS_set hw rfl (zOK_sG hw.1.2.2) (zws_set (μ := μ) rfl ?_ (fun b hb => zent_sG_ne _ ad μ a j x b hb)) q1 q2 q3) hL (zoks_tl (zoks_tl (zoks_tl hst)))
  have e2 : zG (zsG μ a j x) a = vp_updL (zG μ a) j x := by funext q; simp [zG_sG, vp_updL]
  rw [zent_g (μ := zsG μ a j x) hk, zix_at hi, e2, zL_sG]
/-- a reference into an array of references: kinds 4 to 7 hold Cells, Readings, Services, Steps -/
def zqc : Nat → Nat := fun kd => match kd with
  | 4 => 0
  | 5 => 3
  | 6 => 4
  | _ => 5
theorem zqc_ty {kd : Nat} (h3 : 3 < kd) (h8 : kd < 8) : zty kd = .object (zRX (zqc kd)) ∧ zqc kd < 10 := by
  match kd, h3, h8 with
  | 4, _, _ => exact ⟨rfl, by decide⟩
  | 5, _, _ => exact ⟨rfl, by decide⟩
  | 6, _, _ => exact ⟨rfl, by decide⟩
  | 7, _, _ => exact ⟨rfl, by decide⟩
theorem J_aast (hT : zCx τ M kk mc ms) {a j kd r : Nat} {i : Int32} (hd : decode M.2.1 pc = .ok (.aastore, 1)) (hk : zK μ a = kd) (h3 : 3 < kd) (h8 : kd < 8) (hr : zK μ r = zqc kd + 8) (hi : zix i j (zL μ a)) (h : zJ τ F (pc + 1) L st (zsP μ a j (some r)) c k) : zJ τ F pc L (.ref r :: .int i :: .ref a :: st) μ c k := by
  intro ad H locs ls hw hL hst
  have ha := zok_lt (zoks_hd (zoks_tl (zoks_tl hst)))
  have hrl := zok_lt (zoks_hd hst)
  have he := zws_at τ.2.2.2.2.2.2.2.2.2.2.1.2.2 ad μ ha
  rw [zent_p hk h3 h8] at he
  have her := zws_at τ.2.2.2.2.2.2.2.2.2.2.1.2.2 ad μ hrl
  rw [zent_o hr] at her
  obtain ⟨hC, hc⟩ := zqc_ty h3 h8
  have ht := ztys_at τ.2.2.2.2.2.2.2.2.2.2.1.2.2 h8
  rw [hC] at ht
  refine va_astq hT.1 hT.2.1 hT.K hw.1.1 hw.1.2.1 hw.2.1 a kd r (zqc kd) he ht her (zcl_at _ hc) (zix_in hi) hd (fun H1 locs1 q1 q2 q3 => ?_)
  refine h ad H1 locs1 ls (zHS_set hw rfl (zOK_sP hw.1.2.2 (fun r' e => by cases e; exact hrl)) (zws_set (μ := μ) rfl ?_ (fun b hb => zent_sP_ne _ ad μ a j (some r) b hb)) q1 q2 q3) hL (zoks_tl (zoks_tl (zoks_tl hst)))
  have e2 : (fun q => (zP (zsP μ a j (some r)) a q).map ad) = va_up (fun q => (zP μ a q).map ad) j (some (ad r)) := by
    funext q
    simp only [zP_sP, va_up, true_and]
    by_cases hq : q = j <;> simp [hq]
  rw [zent_p (μ := zsP μ a j (some r)) hk h3 h8, zix_at hi, e2, zL_sP]
/-- behind a making -/
theorem zws_al {cA : Nat → ClassId} {ad : Nat → Nat} {kd n q : Nat} {e : va_E} (hok : zOK μ) (he : zent cA (fun a => if a = zN μ then q else ad a) (zal μ kd n) (zN μ) = e) :
    zws cA ad μ ++ [(q, e)] = zws cA (fun a => if a = zN μ then q else ad a) (zal μ kd n) := by
  have hb : ∀ b, b < zN μ → zent cA (fun a => if a = zN μ then q else ad a) (zal μ kd n) b = zent cA ad μ b := by
    intro b hb
    have hne : ¬ b = zN μ := by omega
    have hp : ∀ j, (zP μ b j).map (fun a => if a = zN μ then q else ad a) = (zP μ b j).map ad := by
      intro j
      cases hz : zP μ b j with
      | none => rfl
      | some r =>
        have := hok b j r hb hz
        simp only [Option.map_some]
        rw [if_neg (by omega)]
    simp only [zent, zK_al, zL_al, zI_al, zP_al, zG_al, if_neg hne, zfv, hp]
    have e1 : zI (zal μ kd n) b = zI μ b := by funext j; simp only [zI_al, if_neg hne]
    have e2 : zG (zal μ kd n) b = zG μ b := by funext j; simp only [zG_al, if_neg hne]
    rw [e1, e2]
  apply List.ext_getElem?
  intro j
  by_cases h1 : j < zN μ
  · rw [List.getElem?_append_left (by rw [zws_len]; exact h1), zws_at _ _ _ h1, zws_at _ _ _ (by rw [zN_al]; omega), hb j h1, if_neg (by omega)]
  · rw [List.getElem?_append_right (by rw [zws_len]; omega), zws_len]
    by_cases h2 : j = zN μ
    · subst h2
      rw [zws_at _ _ _ (by rw [zN_al]; omega), he, if_pos rfl]
      simp
    · rw [List.getElem?_eq_none (by simp; omega), List.getElem?_eq_none (by rw [zws_len, zN_al]; omega)]
theorem zHS_al {ad : Nat → Nat} {kd n q : Nat} {e : va_E} {H H1 : Heap} {locs : List Loc} (hw : zHS τ ad μ H locs) (he : zent τ.2.2.2.2.2.2.2.2.2.2.1.2.2 (fun a => if a = zN μ then q else ad a) (zal μ kd n) (zN μ) = e)
    (h1 : va_P τ.2.2.2.2.2.2.2.2.2.2.1.2.1 vwCl (zws τ.2.2.2.2.2.2.2.2.2.2.1.2.2 ad μ ++ [(q, e)]) H1) (h2 : va_D (zA τ.2.2.2.2.2.2.2.2.2.2.1) (zws τ.2.2.2.2.2.2.2.2.2.2.1.2.2 ad μ ++ [(q, e)])) (h3 : va_S (zA τ.2.2.2.2.2.2.2.2.2.2.1) τ.2.2.2.2.1.heap H1 locs) :
    zHS τ (fun a => if a = zN μ then q else ad a) (zal μ kd n) H1 locs := by
  rw [zws_al hw.1.2.2 he] at h1 h2
  refine ⟨⟨h1, h2, ?_⟩, h3, fun a ha => ?_, by rw [zN_al]; have := hw.2.2.2; omega⟩
  · intro b j r hb hp
    rw [zP_al] at hp
    rw [zN_al] at hb ⊢
    split at hp
    · cases hp
    · have := hw.1.2.2 b j r (by omega) hp
      omega
  · have := hw.2.2.2
    show (if a = zN μ then q else ad a) = _
    rw [if_neg (by omega)]
    exact hw.2.2.1 a ha
theorem J_newI (hT : zCx τ M kk mc ms) {at' : ArrayType} {kd n : Nat} {i : Int32} (hkd : (kd = 0 ∧ at' = .int) ∨ (kd = 1 ∧ at' = .boolean) ∨ (kd = 2 ∧ at' = .char)) (hd : decode M.2.1 pc = .ok (.newarray at', 2)) (hw1 : Cond.arrayClass (zty kd) ∈ ztb) (hi : i = nI n) (hn : n ≤ 100000) (hc : c + 1 ≤ mc) (hs : k + n ≤ ms)
    (h : zJ τ F (pc + 2) L (.ref (zN μ) :: st) (zal μ kd n) (c + 1) (k + n)) : zJ τ F pc L (.int i :: st) μ c k := by
  intro ad H locs ls hw hL hst
  subst hi
  have hC := hT.2.2.2.2.2.2.2.2.2.2.2.2.2
  have hty : newarray.typeOf at' = zty kd := by rcases hkd with ⟨rfl, rfl⟩ | ⟨rfl, rfl⟩ | ⟨rfl, rfl⟩ <;> rfl
  have hk3 : kd < 3 := by rcases hkd with ⟨rfl, rfl⟩ | ⟨rfl, rfl⟩ | ⟨rfl, rfl⟩ <;> decide
  have hdv : defaultValue (zty kd) = .int 0 := by rcases hkd with ⟨rfl, rfl⟩ | ⟨rfl, rfl⟩ | ⟨rfl, rfl⟩ <;> rfl
  have hcb : componentBytes (zty kd) ≤ 4 := by rcases hkd with ⟨rfl, rfl⟩ | ⟨rfl, rfl⟩ | ⟨rfl, rfl⟩ <;> decide
  refine va_newa (N' := n) (a0 := (n, .inl (fun _ => 0))) hT.1 hT.2.1 (by rw [hty]; exact hT.ws _ hw1) hty hT.K hw.1.1 hw.1.2.1 hw.2.1 hT.A (fun cA => by rw [vp_cell_i, hdv]) (nI_pos (by omega)) (nI_clamp (by omega)) (Nat.le_trans (Nat.mul_le_mul (Nat.le_refl n) hcb) (by omega)) (by omega) (by omega) hd (fun q cA H1 q0 q1 q2 q3 => ?_)
  have hcA : cA = τ.2.2.2.2.2.2.2.2.2.2.1.2.2 kd := by
    have g1 := (q0.2 8 (cA, zty kd) (by rw [List.getElem?_append_right (by simp [ztys])]; simp [ztys])).2
    have g2 := (hT.K.2 kd _ (ztys_at _ (by omega))).2
    have u : ∀ (x : ClassId), va_RA τ.2.2.2.2.1 x (zty kd) → τ.2.2.2.2.1.vm.findClass ("[" ++ (zty kd).toString) = some x := by
      intro x hx
      rcases hkd with ⟨rfl, rfl⟩ | ⟨rfl, rfl⟩ | ⟨rfl, rfl⟩ <;> exact hx
    exact Option.some.inj ((u _ g1).symm.trans (u _ g2))
  subst hcA
  have hw2 := zHS_al (kd := kd) (n := n) (q := q) hw (by rw [zent_i (k := kd) (by simp [zK_al]) hk3, show zI (zal μ kd n) (zN μ) = (fun _ => 0) from by funext j; simp [zI_al], show zL (zal μ kd n) (zN μ) = n from by simp [zL_al]]) q1 q2 q3
  have hL2 := zLo_mono (ad' := fun a => if a = zN μ then q else ad a) (m := zN μ + 1) hL (fun a ha => by show (if a = zN μ then q else ad a) = _; rw [if_neg (by omega)]) (by omega)
  have h3 := h _ H1 locs ls hw2 hL2 (zoks_cons (zok_ref (by rw [zN_al]; omega)) (zoks_mono (zoks_tl hst) (by rw [zN_al]; omega)))
  rw [List.map_cons, ztv_ref, if_pos rfl, ztv_congrs (zoks_tl hst) (fun a ha => by show (if a = zN μ then q else ad a) = _; rw [if_neg (by omega)])] at h3
  exact h3
theorem J_newG (hT : zCx τ M kk mc ms) {n : Nat} {i : Int32} (hd : decode M.2.1 pc = .ok (.newarray .long, 2)) (hw1 : Cond.arrayClass .long ∈ ztb) (hi : i = nI n) (hn : n ≤ 100000) (hc : c + 1 ≤ mc) (hs : k + n ≤ ms)
    (h : zJ τ F (pc + 2) L (.ref (zN μ) :: st) (zal μ 3 n) (c + 1) (k + n)) : zJ τ F pc L (.int i :: st) μ c k := by
  intro ad H locs ls hw hL hst
  subst hi
  have hC := hT.2.2.2.2.2.2.2.2.2.2.2.2.2
  refine va_newa (N' := n) (a0 := (n, .inr (.inl (fun _ => 0)))) (atype := .long) (ty := .long) hT.1 hT.2.1 (hT.ws _ hw1) rfl hT.K hw.1.1 hw.1.2.1 hw.2.1 hT.A (fun cA => by rw [vp_cell_l]; rfl) (nI_pos (by omega)) (nI_clamp (by omega)) (by show n * 8 ≤ _; omega) (by omega) (by omega) hd (fun q cA H1 q0 q1 q2 q3 => ?_)
  have hcA : cA = τ.2.2.2.2.2.2.2.2.2.2.1.2.2 3 := by
    have g1 := (q0.2 8 (cA, .long) (by rw [List.getElem?_append_right (by simp [ztys])]; simp [ztys])).2
    have g2 := (hT.K.2 3 _ (ztys_at _ (by omega))).2
    exact Option.some.inj (Eq.trans (Eq.symm g1) g2)
  subst hcA
  have hw2 := zHS_al (kd := 3) (n := n) (q := q) hw (by rw [zent_g (by simp [zK_al]), show zG (zal μ 3 n) (zN μ) = (fun _ => 0) from by funext j; simp [zG_al], show zL (zal μ 3 n) (zN μ) = n from by simp [zL_al]]) q1 q2 q3
  have hL2 := zLo_mono (ad' := fun a => if a = zN μ then q else ad a) (m := zN μ + 1) hL (fun a ha => by show (if a = zN μ then q else ad a) = _; rw [if_neg (by omega)]) (by omega)
  have h3 := h _ H1 locs ls hw2 hL2 (zoks_cons (zok_ref (by rw [zN_al]; omega)) (zoks_mono (zoks_tl hst) (by rw [zN_al]; omega)))
  rw [List.map_cons, ztv_ref, if_pos rfl, ztv_congrs (zoks_tl hst) (fun a ha => by show (if a = zN μ then q else ad a) = _; rw [if_neg (by omega)])] at h3
  exact h3
theorem J_newQ (hT : zCx τ M kk mc ms) {kd n idx : Nat} {i : Int32} (h3 : 3 < kd) (h8 : kd < 8) (hd : decode M.2.1 pc = .ok (.anewarray idx, 3)) (hw1 : Cond.classLink M.1.cls idx (zRX (zqc kd)) ∈ ztb) (hi : i = nI n) (hn : n ≤ 100000) (hc : c + 1 ≤ mc) (hs : k + n ≤ ms)
    (h : zJ τ F (pc + 3) L (.ref (zN μ) :: st) (zal μ kd n) (c + 1) (k + n)) : zJ τ F pc L (.int i :: st) μ c k := by
  intro ad H locs ls hw hL hst
  subst hi
  have hC := hT.2.2.2.2.2.2.2.2.2.2.2.2.2
  obtain ⟨hty, hq10⟩ := zqc_ty h3 h8
  have hAO : va_AO (zRX (zqc kd)) τ.2.2.2.2.1 := by
    obtain ⟨_, _, _, _, _, _, _, _, hz, hW, _⟩ := hT
    refine va_AO.moved hW.alike (hz.2.2.2 _ ?_)
    match kd, h3, h8 with
    | 4, _, _ => exact Or.inl rfl
    | 5, _, _ => exact Or.inr (Or.inl rfl)
    | 6, _, _ => exact Or.inr (Or.inr (Or.inl rfl))
    | 7, _, _ => exact Or.inr (Or.inr (Or.inr rfl))
  refine va_newq (N' := n) hT.1 hT.2.1 hT.own (hT.ws _ hw1) hAO hT.K hw.1.1 hw.1.2.1 hw.2.1 hT.A (nI_pos (by omega)) (nI_clamp (by omega)) (by omega) (by omega) (by omega) hd (fun q cA H1 q0 q1 q2 q3 => ?_)
  have hcA : cA = τ.2.2.2.2.2.2.2.2.2.2.1.2.2 kd := by
    have g1 := (q0.2 8 (cA, .object (zRX (zqc kd))) (by rw [List.getElem?_append_right (by simp [ztys])]; simp [ztys])).2
    have g2 := (hT.K.2 kd _ (ztys_at _ h8)).2
    rw [hty] at g2
    obtain ⟨_, _, _, _, _, e1⟩ := g1
    obtain ⟨_, _, _, _, _, e2⟩ := g2
    exact Option.some.inj (e1.symm.trans e2)
  subst hcA
  have hw2 := zHS_al (kd := kd) (n := n) (q := q) hw (by rw [zent_p (k := kd) (by simp [zK_al]) h3 h8, show (fun j => (zP (zal μ kd n) (zN μ) j).map (fun a => if a = zN μ then q else ad a)) = (fun _ => none) from by funext j; simp [zP_al], show zL (zal μ kd n) (zN μ) = n from by simp [zL_al]]) q1 q2 q3
  have hL2 := zLo_mono (ad' := fun a => if a = zN μ then q else ad a) (m := zN μ + 1) hL (fun a ha => by show (if a = zN μ then q else ad a) = _; rw [if_neg (by omega)]) (by omega)
  have h3 := h _ H1 locs ls hw2 hL2 (zoks_cons (zok_ref (by rw [zN_al]; omega)) (zoks_mono (zoks_tl hst) (by rw [zN_al]; omega)))
  rw [List.map_cons, ztv_ref, if_pos rfl, ztv_congrs (zoks_tl hst) (fun a ha => by show (if a = zN μ then q else ad a) = _; rw [if_neg (by omega)])] at h3
  exact h3
theorem J_new (hT : zCx τ M kk mc ms) {ci idx : Nat} (h10 : ci < 10) (hd : decode M.2.1 pc = .ok (.new idx, 3)) (hw1 : Cond.classLink M.1.cls idx (zRX ci) ∈ ztb) (hw2 : Cond.instantiable (zRX ci) (znf ci) ∈ ztb) (hw3 : Cond.initialized (zRX ci) ∈ ztb) (hdv : ∀ j, j < znf ci → defaultValue (zfty ci j) = zfv id (zfty ci j) 0 none) (hc : c + 1 ≤ mc) (hs : k + znf ci ≤ ms)
    (h : zJ τ F (pc + 3) L (.ref (zN μ) :: st) (zal μ (ci + 8) 0) (c + 1) (k + znf ci)) : zJ τ F pc L st μ c k := by
  intro ad H locs ls hw hL hst
  have hC := hT.2.2.2.2.2.2.2.2.2.2.2.2.2
  refine va_new (fs := (List.range (znf ci)).map (fun j => zfv id (zfty ci j) 0 none)) hT.1 hT.2.1 hT.ws (zlays ci h10) (zfty ci) (ztyok ci h10) hT.own (hT.ws _ hw1) (hT.ws _ hw2) (hT.ws _ hw3) hT.K hw.1.1 hw.1.2.1 hw.2.1 hT.A (zcl_at ci h10) (fun j hj => by rw [hdv j hj]; simp [vp_V, hj]) (by omega) (by omega) hd (fun q H1 q1 q2 q3 => ?_)
  have hw2 := zHS_al (kd := ci + 8) (n := 0) (q := q) hw (by rw [zent_o (ci := ci) (by simp [zK_al])]; simp only [zI_al, zP_al, if_true, zfv, Option.map_none]) q1 q2 q3
  have hL2 := zLo_mono (ad' := fun a => if a = zN μ then q else ad a) (m := zN μ + 1) hL (fun a ha => by show (if a = zN μ then q else ad a) = _; rw [if_neg (by omega)]) (by omega)
  have h3 := h _ H1 locs ls hw2 hL2 (zoks_cons (zok_ref (by rw [zN_al]; omega)) (zoks_mono hst (by rw [zN_al]; omega)))
  rw [List.map_cons, ztv_ref, if_pos rfl, ztv_congrs hst (fun a ha => by show (if a = zN μ then q else ad a) = _; rw [if_neg (by omega)])] at h3
  exact h3
theorem J_objInit (hT : zCx τ M kk mc ms) {a idx : Nat} (hd : decode M.2.1 pc = .ok (.invokespecial idx, 3)) (hw1 : Cond.methodLink M.1.cls idx Lib.objectInit ∈ ztb) (hw2 : Cond.instanceMethod Lib.objectInit ∈ ztb) (hw3 : Cond.code Lib.objectInit ⟨#[0xb1]⟩ 1 none ∈ ztb) (hlen : L.length = M.2.2.1) (hst8 : (st.map fun v => v.category).sum ≤ 8)
    (h : zJ τ F (pc + 3) L st μ c k) : zJ τ F pc L (.ref a :: st) μ c k := by
  intro ad H locs ls hw hL hst
  obtain ⟨_, _, _, _, _, _, _, _, _, _, _, hfr, hlo, _⟩ := id hT
  have hsum : ((st.map (ztv ad)).map fun v => v.category).sum ≤ 8 := by rw [List.map_map]; simpa only [Function.comp_def, ztv_cat] using hst8
  refine W.objInit hT.1 hT.2.1 hT.own (hT.ws _ hw1) (hT.ws _ hw2) (hT.ws _ hw3) rfl (by rw [hT.2.2.1, ← hlen]; exact hL.1) rfl hd (by unfold zfr at hfr; omega) (by unfold zlo at hlo; show 2 * 0 + _ + 12 ≤ _; omega) ?_
  exact h ad H locs ls hw hL (zoks_tl hst)
end ZA
end
section
/-! ===== contracts, bodies, returns, calls ===== -/
def zPc (Z : zZ) (ad : Nat → Nat) (μ : zMem) (a : List Value) : Array Value → State → Prop := fun args U => args = (a.map (ztv ad)).toArray ∧ Z.1.WarmedH U.vm ∧ zH Z ad μ U.heap ∧ zB Z U.heap
def zQc (Z : zZ) (ad : Nat → Nat) (n : Nat) (Q : Option Value → zMem → Prop) : Array Value → State → Outcome → State → Prop := fun _ st o t => ∃ (r : Option Value) (μ' : zMem) (ad' : Nat → Nat), o = .returned (r.map (ztv ad')) ∧ Q r μ' ∧ (∀ v, r = some v → zok (zN μ') v) ∧ (∀ a, a < n → ad' a = ad a) ∧ n ≤ zN μ' ∧ zH Z ad' μ' t.heap ∧ zB Z t.heap ∧ st.heap.size ≤ t.heap.size
/-- a method's contract at these arguments and this world -/
def zCt (l : Launch) (Z : zZ) (m : zM) (k mc ms : Nat) (a : List Value) (μ : zMem) (Q : Option Value → zMem → Prop) : Prop :=
  ∀ ad : Nat → Nat, zoks (zN μ) a → Met l m.1 (zws1 m) (zrm k mc ms) (zPc Z ad μ a) (zQc Z ad (zN μ) Q) mc ms (zA Z)
def zFn (τ : zT) (Q : Option Value → zMem → Prop) (mc ms : Nat) : State → Prop := MQ τ.2.2.2.2.2.2.2.1 (zQc τ.2.2.2.2.2.2.2.2.2.2.1 τ.2.2.2.2.2.2.2.2.2.2.2.1 τ.2.2.2.2.2.2.2.2.2.2.2.2 Q) τ.2.2.2.2.2.2.1 τ.2.2.2.2.1 mc ms (zA τ.2.2.2.2.2.2.2.2.2.2.1)
def zCy (l : Launch) (Z : zZ) (τ : zT) (M : zM) (k mc ms : Nat) : Prop := zCx τ M k mc ms ∧ τ.2.1 = l ∧ τ.2.2.2.2.2.2.2.2.2.2.1 = Z
def zso : Slot → Option Value := fun s => match s with
  | .val v => some v
  | _ => none
def zar (a : List Value) (n : Nat) : List (Option Value) := (lg_sl a ++ List.replicate (n - (lg_sl a).length) Slot.unset).map zso
def zsl (ad : Nat → Nat) : Slot → Slot := fun s => match s with
  | .val v => .val (ztv ad v)
  | w => w
theorem zsl_sl (ad : Nat → Nat) (a : List Value) : lg_sl (a.map (ztv ad)) = (lg_sl a).map (zsl ad) := by
  induction a with
  | nil => rfl
  | cons v a ih =>
    have h1 : lg_sl (v :: a) = (if v.category = 2 then [.val v, .second] else [.val v]) ++ lg_sl a := rfl
    have h2 : lg_sl ((v :: a).map (ztv ad)) = (if (ztv ad v).category = 2 then [.val (ztv ad v), .second] else [.val (ztv ad v)]) ++ lg_sl (a.map (ztv ad)) := rfl
    rw [h1, h2, ih, ztv_cat, List.map_append]
    congr 1
    split <;> rfl
theorem zar_len {a : List Value} {n : Nat} (h : (lg_sl a).length ≤ n) : (zar a n).length = n := by
  simp only [zar, List.length_map, List.length_append, List.length_replicate]
  omega
theorem zLo_entry {ad : Nat → Nat} {a : List Value} {n N : Nat} (h : (lg_sl a).length ≤ n) (ho : zoks N a) : zLo ad N (zar a n) ((lg_sl (a.map (ztv ad)) ++ List.replicate (n - (lg_sl (a.map (ztv ad))).length) Slot.unset).toArray) := by
  have hl : (lg_sl (a.map (ztv ad))).length = (lg_sl a).length := by rw [zsl_sl, List.length_map]
  have he := lv_entry (a.map (ztv ad)) (n := n) (by rw [hl]; exact h)
  refine ⟨by rw [he.1, zar_len h], he.2.1, fun i v hi => ?_⟩
  have hin : ∀ s, s ∈ lg_sl a → ∀ v, s = Slot.val v → v ∈ a := by
    intro s hs v hv
    obtain ⟨w, hw, hs⟩ := List.mem_flatMap.mp hs
    split at hs
    · rcases List.mem_cons.mp hs with e | e
      · rw [hv] at e; cases e; exact hw
      · rw [List.mem_singleton.mp e] at hv; cases hv
    · rw [List.mem_singleton.mp hs] at hv; cases hv; exact hw
  rw [hl, zsl_sl]
  simp only [zar, List.getElem?_map] at hi
  cases hq : (lg_sl a ++ List.replicate (n - (lg_sl a).length) Slot.unset)[i]? with
  | none => rw [hq] at hi; cases hi
  | some s =>
    rw [hq] at hi
    simp only [Option.map_some, Option.some.injEq] at hi
    have hs : s = .val v := by
      cases s <;> simp_all [zso]
    subst hs
    have e : (lg_sl a).map (zsl ad) ++ List.replicate (n - (lg_sl a).length) Slot.unset = (lg_sl a ++ List.replicate (n - (lg_sl a).length) Slot.unset).map (zsl ad) := by
      rw [List.map_append, List.map_replicate]; rfl
    refine ⟨by rw [List.getElem?_toArray, e, List.getElem?_map, hq]; rfl, ?_⟩
    rcases List.mem_append.mp (List.mem_of_getElem? hq) with q | q
    · exact ho v (hin _ q v rfl)
    · cases (List.mem_replicate.mp q).2
theorem zPc_blind (Z : zZ) (ad : Nat → Nat) (μ : zMem) (a : List Value) : FrameBlind (zPc Z ad μ a) := fun _ _ _ _ h => h
/-- a contract out of its body's walk -/
theorem zCt_of {l : Launch} {Z : zZ} (hZ : zSt l Z) {m : zM} {k mc ms : Nat} {a : List Value} {μ : zMem} {Q : Option Value → zMem → Prop} {L : List (Option Value)} (hy : plainName m.1.cls = true) (hlen : (lg_sl a).length ≤ m.2.2.1) (hL : zar a m.2.2.1 = L)
    (body : ∀ τ : zT, zCy l Z τ m k mc ms → zJ τ (zFn τ Q mc ms) 0 L [] μ 0 0) : zCt l Z m k mc ms a μ Q := by
  intro ad ho
  subst hL
  refine Met.ofW (cc := m.2.1) (maxL := m.2.2.1) (ret := m.2.2.2) hy rfl ?_
  intro p e s mm args below meth c s₁ B hml hv
  obtain ⟨rfl, hW, hH, hB⟩ := hv
  have hts := atoms_spec (ws := zws1 m) B.pre
  have hb := body (p, l, e, (headSpec (zws1 m) (zrm k mc ms)).room, s, mm, (a.map (ztv ad)).toArray, below, meth, c, Z, ad, zN μ)
    ⟨⟨B.exec, B.bytes, hml, B.returns, findClass_of_methodNamed B.named, fun w hw => hts w (List.mem_cons_of_mem _ hw), B.notSynchronized, (name_of_methodNamed B.named B.method).1, hZ, hW, hB, Nat.le_refl _, Nat.le_refl _, Nat.le_refl _, Nat.le_refl _⟩, rfl, rfl⟩
    ad s.heap [] _ ⟨hH, va_S.rf, fun _ _ => rfl, Nat.le_refl _⟩ (zLo_entry hlen ho) (zoks_nil _)
  rw [lg_entry_eq]
  exact hb
theorem zCt_mono {l : Launch} {Z : zZ} {m : zM} {k mc ms : Nat} {a : List Value} {μ : zMem} {Q Q' : Option Value → zMem → Prop} (h : zCt l Z m k mc ms a μ Q) (hQ : ∀ r μ', Q r μ' → Q' r μ') : zCt l Z m k mc ms a μ Q' := by
  intro ad ho
  have h1 := h ad ho
  intro p e h2 h3 h4 s m' args below hf happ hP hK
  obtain ⟨t, o, g1, g2, g3, ⟨r, μ', ad', q1, q2, q3⟩, g5⟩ := h1 p e h2 h3 h4 s m' args below hf happ hP hK
  exact ⟨t, o, g1, g2, g3, ⟨r, μ', ad', q1, hQ _ _ q2, q3⟩, g5⟩
/-- a method's own words -/
def zMf (m : zM) (n : Nat) : Prop := Cond.code m.1 m.2.1 m.2.2.1 m.2.2.2 ∈ ztb ∧ Cond.initialized m.1.cls ∈ ztb ∧ (m.1.cls ≠ "java/lang/invoke/MethodHandle" ∧ m.1.cls ≠ "java/lang/invoke/VarHandle" ∧ (parseMethodDescriptor m.1.desc).map (fun d => d.parameters.length) = some n) ∧ m.2.2.1 ≤ 60
section ZC
variable {l : Launch} {Z : zZ} {τ : zT} {M : zM} {kk mc ms : Nat} {F : State → Prop} {pc : Nat} {L : List (Option Value)} {st : List Value} {μ : zMem} {c k : Nat}
theorem zHS.B (hT : zCx τ M kk mc ms) {ad : Nat → Nat} {H : Heap} {locs : List Loc} (hw : zHS τ ad μ H locs) : zB τ.2.2.2.2.2.2.2.2.2.2.1 H := by
  obtain ⟨_, _, _, _, _, _, _, _, _, _, hB, _⟩ := hT
  refine ⟨Nat.le_trans hB.1 hw.2.1.1, fun q hq => ?_⟩
  rw [hw.2.1.2.1 q (Nat.lt_of_lt_of_le hq hB.1) (fun h => by unfold zA at h; omega)]
  exact hB.2 q hq
theorem zend (hT : zCx τ M kk mc ms) {Q : Option Value → zMem → Prop} {ad : Nat → Nat} {H : Heap} {locs : List Loc} (hw : zHS τ ad μ H locs) {r : Option Value} (hq : Q r μ) (hr : ∀ v, r = some v → zok (zN μ) v) (t : State) (ht : t.heap = H) : zQc τ.2.2.2.2.2.2.2.2.2.2.1 τ.2.2.2.2.2.2.2.2.2.2.2.1 τ.2.2.2.2.2.2.2.2.2.2.2.2 Q τ.2.2.2.2.2.2.1 τ.2.2.2.2.1 (.returned (r.map (ztv ad))) t :=
  ⟨r, μ, ad, rfl, hq, hr, hw.2.2.1, hw.2.2.2, by rw [ht]; exact hw.1, by rw [ht]; exact zHS.B hT hw, by rw [ht]; exact hw.2.1.1⟩
theorem J_iret (hT : zCx τ M kk mc ms) {Q : Option Value → zMem → Prop} {v : Int32} {ty : FieldType} (hd : decode M.2.1 pc = .ok (.ireturn, 1)) (hr : M.2.2.2 = some ty) (hn : narrow ty (.int v) = .int v) (hq : Q (some (.int v)) μ) (hc : c ≤ mc) (hk : k ≤ ms) : zJ τ (zFn τ Q mc ms) pc L [.int v] μ c k := by
  intro ad H locs ls hw hL hst
  refine W.widen hc hk ?_
  exact W.zret (v := v) hT.1 hT.2.1 (hT.2.2.2.1.trans hr) hn (fun t ht _ => zend (r := some (.int v)) hT hw hq (fun w e => by cases e; exact zok_int _ _) t ht) hw.2.1.2.2 hd hT.2.2.2.2.2.2.1
theorem J_lret (hT : zCx τ M kk mc ms) {Q : Option Value → zMem → Prop} {v : Int64} (hd : decode M.2.1 pc = .ok (.lreturn, 1)) (hr : M.2.2.2 = some .long) (hq : Q (some (.long v)) μ) (hc : c ≤ mc) (hk : k ≤ ms) : zJ τ (zFn τ Q mc ms) pc L [.long v] μ c k := by
  intro ad H locs ls hw hL hst
  refine W.widen hc hk ?_
  exact W.lret (v := v) hT.1 hT.2.1 (hT.2.2.2.1.trans hr) (fun t ht _ => zend (r := some (.long v)) hT hw hq (fun w e => by cases e; exact zok_long _ _) t ht) hw.2.1.2.2 hd hT.2.2.2.2.2.2.1
theorem J_aret (hT : zCx τ M kk mc ms) {Q : Option Value → zMem → Prop} {a : Nat} {n : String} (hd : decode M.2.1 pc = .ok (.areturn, 1)) (hr : M.2.2.2 = some (.object n)) (hq : Q (some (.ref a)) μ) (hc : c ≤ mc) (hk : k ≤ ms) : zJ τ (zFn τ Q mc ms) pc L [.ref a] μ c k := by
  intro ad H locs ls hw hL hst
  refine W.widen hc hk ?_
  exact W.aret (v := .ref (ad a)) hT.1 hT.2.1 (hT.2.2.2.1.trans hr) (Or.inl ⟨_, rfl⟩) (Or.inr ⟨_, rfl⟩) (fun t ht _ => zend (r := some (.ref a)) hT hw hq (fun w e => by cases e; exact zoks_hd hst) t ht) hw.2.1.2.2 hd hT.2.2.2.2.2.2.1
theorem J_vret (hT : zCx τ M kk mc ms) {Q : Option Value → zMem → Prop} (hd : decode M.2.1 pc = .ok (.return_, 1)) (hr : M.2.2.2 = none) (hq : Q none μ) (hc : c ≤ mc) (hk : k ≤ ms) : zJ τ (zFn τ Q mc ms) pc L [] μ c k := by
  intro ad H locs ls hw hL hst
  refine W.widen hc hk ?_
  exact W.vret hT.1 hT.2.1 (hT.2.2.2.1.trans hr) (fun t ht _ => zend (r := none) hT hw hq (fun w e => by cases e) t ht) hw.2.1.2.2 hd hT.2.2.2.2.2.2.1
/-- behind a call that returned -/
theorem zback (hT : zCx τ M kk mc ms) {Q' : Option Value → zMem → Prop} {mc' ms' : Nat} {ad : Nat → Nat} {H : Heap} {locs : List Loc} {ls : Array Slot} {st0 : List Value} {argsA : Array Value} (hw : zHS τ ad μ H locs) (hL : zLo ad (zN μ) L ls) (hst : zoks (zN μ) st)
    (hr : va_Run τ.1 τ.2.1 τ.2.2.1 τ.2.2.2.1 τ.2.2.2.2.1 τ.2.2.2.2.2.1 τ.2.2.2.2.2.2.1 τ.2.2.2.2.2.2.2.1 τ.2.2.2.2.2.2.2.2.1 τ.2.2.2.2.2.2.2.2.2.1 H locs c k mc' ms' (zF0 τ pc ls st0) (st.map (ztv ad)) (zQc τ.2.2.2.2.2.2.2.2.2.2.1 ad (zN μ) Q' argsA) (zA τ.2.2.2.2.2.2.2.2.2.2.1))
    (h : ∀ (r : Option Value) (μ' : zMem), Q' r μ' → zJ τ F (pc + 3) L (r.toList ++ st) μ' (c + mc') (k + ms')) : zW τ H locs c k F (zF0 τ pc ls st0) := by
  intro T hTh X
  obtain ⟨v, st₀, t, T', L', h0, X', hL', e1, e2, ⟨r, μ', ad', q1, q2, q3, q4, q5, q6, q7, q8⟩, hgo⟩ := hr T hTh X
  cases q1
  obtain ⟨_, _, _, _, _, _, _, _, _, _, hB, _⟩ := id hT
  have hst' : zoks (zN μ') (r.toList ++ st) := by
    intro w hwm
    rcases List.mem_append.mp hwm with g | g
    · exact q3 w (by cases r with
        | none => cases g
        | some x => rw [List.mem_singleton.mp g])
    · exact zok_mono (hst w g) q5
  have hS : va_S (zA τ.2.2.2.2.2.2.2.2.2.2.1) τ.2.2.2.2.1.heap T'.heap (locs ++ L') := by
    refine ⟨Nat.le_trans hw.2.1.1 (by rw [e1, ← h0]; exact q8), fun q g1 g2 => ?_, fun q hq => ?_⟩
    · have hlt : q < τ.2.2.2.2.2.2.2.2.2.2.1.1.heap.size := Nat.not_le.mp g2
      rw [e1, q7.2 q hlt, hB.2 q hlt]
    · rcases List.mem_append.mp hq with g | g
      · exact hw.2.1.2.2 q g
      · exact hL' q g
  have hw' : zHS τ ad' μ' T'.heap (locs ++ L') := ⟨by rw [e1]; exact q6, hS, fun a ha => by rw [q4 a (Nat.lt_of_lt_of_le ha hw.2.2.2)]; exact hw.2.2.1 a ha, Nat.le_trans hw.2.2.2 q5⟩
  have hJ := h r μ' q2 ad' T'.heap (locs ++ L') ls hw' (zLo_mono hL q4 q5) hst'
  obtain ⟨t2, a1, b1⟩ := hJ T' rfl X'
  refine ⟨t2, hgo t2 ?_, b1⟩
  have e3 : (r.map (ztv ad')).toList ++ st.map (ztv ad) = (r.toList ++ st).map (ztv ad') := by
    rw [List.map_append, ztv_congrs hst q4]
    cases r <;> rfl
  rw [e3]
  exact a1
theorem zroom {k' kk : Nat} {R : Room} {mL : Nat} (h : k' < kk) (h1 : zfr kk ≤ R.frames) (h2 : zlo kk ≤ R.locals) (h3 : mL ≤ 60) (mc ms : Nat) : (zrm k' mc ms).frames + 1 ≤ R.frames ∧ 8 + (mL + 11) + (zrm k' mc ms).locals ≤ R.locals := by
  unfold zfr at h1; unfold zlo at h2
  show 8 * k' + 40 + 1 ≤ R.frames ∧ 8 + (mL + 11) + (100 * k' + 500) ≤ R.locals
  omega
theorem zpay {m : zM} {n : Nat} (h : zMf m n) : GoodIn ztb (zws1 m) := by
  intro w hw
  rcases List.mem_cons.mp hw with rfl | hw
  · exact ⟨h.1, good_of_word (ztb_good _ h.1).2⟩
  · exact ⟨hw, good_of_word (ztb_good _ hw).2⟩
theorem zcat8 (ad : Nat → Nat) (st : List Value) : ((st.map (ztv ad)).map fun v => v.category).sum = (st.map fun v => v.category).sum := by
  rw [List.map_map]
  congr 1
  exact List.map_congr_left fun v _ => ztv_cat ad v
theorem J_callS (hY : zCy l Z τ M kk mc ms) {m : zM} {n k' mc' ms' idx : Nat} {as stk : List Value} {Q' : Option Value → zMem → Prop} (hd : decode M.2.1 pc = .ok (.invokestatic idx, 3)) (hm : zMf m n) (hsta : Cond.static m.1 ∈ ztb) (hlink : Cond.methodLink M.1.cls idx m.1 ∈ ztb ∨ ∃ host, Cond.methodLinkNest M.1.cls idx m.1 host ∈ lw_tbl)
    (ct : zCt l Z m k' mc' ms' as μ Q') (hn : as.length = n) (hkk : k' < kk) (hs : stk = as.reverse ++ st) (hL : L.length = M.2.2.1) (h8 : (st.map fun v => v.category).sum ≤ 8) (hc : c + mc' ≤ mc) (hk : k + ms' ≤ ms)
    (h : ∀ (r : Option Value) (μ' : zMem), Q' r μ' → zJ τ F (pc + 3) L (r.toList ++ st) μ' (c + mc') (k + ms')) : zJ τ F pc L stk μ c k := by
  intro ad H locs ls hw hLo hst
  subst hs
  obtain ⟨hT, el, eZ⟩ := hY
  subst el; subst eZ
  obtain ⟨_, _, _, _, _, _, _, _, _, hWm, hB, hfr, hlo, hcc, hss⟩ := id hT
  have hst1 : zoks (zN μ) st := fun v hv => hst v (List.mem_append_right _ hv)
  have hoa : zoks (zN μ) as := fun v hv => hst v (List.mem_append_left _ (List.mem_reverse.mpr hv))
  have hp : PreS τ.2.2.2.2.1 H (zPc τ.2.2.2.2.2.2.2.2.2.2.1 ad μ as) (as.map (ztv ad)) := ⟨zPc_blind _ _ _ _, fun U hU hWU => ⟨rfl, hWm.trans hWU, by rw [hU]; exact hw.1, by rw [hU]; exact zHS.B hT hw⟩⟩
  have hst0 : (as.reverse ++ st).map (ztv ad) = (as.map (ztv ad)).reverse ++ st.map (ztv ad) := by rw [List.map_append, List.map_reverse]
  rcases hlink with hlink | ⟨host, hlink⟩
  · refine zback hT hw hLo hst1 (va_runS (Ts := ztb) ⟨hT.1, hT.2.1, hT.2.2.1, hT.own, hT.ws⟩ (ct ad hoa) ⟨callB_of n hT.ws (zpay hm) rfl rfl rfl (hT.ws _ hm.2.1) (hT.ws _ hlink) hm.2.2.1 (zroom hkk hfr hlo hm.2.2.2 mc' ms'), hT.ws _ hsta⟩ hp rfl (by rw [List.length_map]; exact hn) (hLo.1.trans hL) hst0 (lv_room (by rw [zcat8]; exact h8)) hd ⟨by omega, by omega⟩) h
  · refine zback hT hw hLo hst1 (va_runSN (Ts := ztb) ⟨hT.1, hT.2.1, hT.2.2.1, hT.own, hT.ws⟩ (ct ad hoa) ⟨va_cnB n hT.ws (zpay hm) rfl rfl rfl (hT.nestM hlink) (hT.ws _ hm.2.1) hm.2.2.1 (zroom hkk hfr hlo hm.2.2.2 mc' ms'), hT.ws _ hsta, trivial⟩ hp rfl (by rw [List.length_map]; exact hn) (hLo.1.trans hL) hst0 (lv_room (by rw [zcat8]; exact h8)) hd ⟨by omega, by omega⟩) h
theorem J_callV (hY : zCy l Z τ M kk mc ms) {m : zM} {n k' mc' ms' idx b ci : Nat} {as stk : List Value} {Q' : Option Value → zMem → Prop} (hd : decode M.2.1 pc = .ok (.invokevirtual idx, 3)) (hm : zMf m n) (hins : Cond.instanceMethod m.1 ∈ ztb) (hsel : Cond.selects m.1.cls m.1 m.1 ∈ ztb) (hlink : Cond.methodLink M.1.cls idx m.1 ∈ ztb ∨ ∃ host, Cond.methodLinkNest M.1.cls idx m.1 host ∈ lw_tbl)
    (hci : ci < 10 ∧ zRX ci = m.1.cls) (hb : zK μ b = ci + 8) (ct : zCt l Z m k' mc' ms' (.ref b :: as) μ Q') (hn : as.length = n) (hkk : k' < kk) (hs : stk = as.reverse ++ .ref b :: st) (hL : L.length = M.2.2.1) (h8 : (st.map fun v => v.category).sum ≤ 8) (hc : c + mc' ≤ mc) (hk : k + ms' ≤ ms)
    (h : ∀ (r : Option Value) (μ' : zMem), Q' r μ' → zJ τ F (pc + 3) L (r.toList ++ st) μ' (c + mc') (k + ms')) : zJ τ F pc L stk μ c k := by
  intro ad H locs ls hw hLo hst
  subst hs
  obtain ⟨hT, el, eZ⟩ := hY
  subst el; subst eZ
  obtain ⟨_, _, _, _, _, _, _, _, _, hWm, hB, hfr, hlo, hcc, hss⟩ := id hT
  have hst1 : zoks (zN μ) st := fun v hv => hst v (List.mem_append_right _ (List.mem_cons_of_mem _ hv))
  have hob : zok (zN μ) (.ref b) := hst _ (List.mem_append_right _ List.mem_cons_self)
  have hoa : zoks (zN μ) (.ref b :: as) := zoks_cons hob fun v hv => hst v (List.mem_append_left _ (List.mem_reverse.mpr hv))
  have he := zws_at τ.2.2.2.2.2.2.2.2.2.2.1.2.2 ad μ (zok_lt hob)
  rw [zent_o hb] at he
  obtain ⟨cell, g1, g2, g3⟩ := va_recv hT.K hw.1.1 (zcl_at ci hci.1) he
  have hp : PreV τ.2.2.2.2.1 H m.1.cls (ad b) (zPc τ.2.2.2.2.2.2.2.2.2.2.1 ad μ (.ref b :: as)) (as.map (ztv ad)) := ⟨zPc_blind _ _ _ _, ⟨cell, g1, g2, by rw [← hci.2]; exact g3⟩, fun U hU hWU => ⟨rfl, hWm.trans hWU, by rw [hU]; exact hw.1, by rw [hU]; exact zHS.B hT hw⟩⟩
  have hst0 : (as.reverse ++ .ref b :: st).map (ztv ad) = (as.map (ztv ad)).reverse ++ .ref (ad b) :: st.map (ztv ad) := by rw [List.map_append, List.map_reverse]; rfl
  rcases hlink with hlink | ⟨host, hlink⟩
  · refine zback hT hw hLo hst1 (va_runV (Ts := ztb) (C := m.1.cls) ⟨hT.1, hT.2.1, hT.2.2.1, hT.own, hT.ws⟩ (ct ad hoa) ⟨callB_of n hT.ws (zpay hm) rfl rfl rfl (hT.ws _ hm.2.1) (hT.ws _ hlink) hm.2.2.1 (zroom hkk hfr hlo hm.2.2.2 mc' ms'), hT.ws _ hins, hT.ws _ hsel⟩ hp rfl (by rw [List.length_map]; exact hn) (hLo.1.trans hL) hst0 (lv_room (by rw [zcat8]; exact h8)) hd ⟨by omega, by omega⟩) h
  · refine zback hT hw hLo hst1 (va_runVN (Ts := ztb) (C := m.1.cls) ⟨hT.1, hT.2.1, hT.2.2.1, hT.own, hT.ws⟩ (ct ad hoa) ⟨va_cnB n hT.ws (zpay hm) rfl rfl rfl (hT.nestM hlink) (hT.ws _ hm.2.1) hm.2.2.1 (zroom hkk hfr hlo hm.2.2.2 mc' ms'), hT.ws _ hins, hT.ws _ hsel⟩ hp rfl (by rw [List.length_map]; exact hn) (hLo.1.trans hL) hst0 (lv_room (by rw [zcat8]; exact h8)) hd ⟨by omega, by omega⟩) h
theorem J_callI (hY : zCy l Z τ M kk mc ms) {m : zM} {n k' mc' ms' idx b : Nat} {as stk : List Value} {Q' : Option Value → zMem → Prop} (hd : decode M.2.1 pc = .ok (.invokespecial idx, 3)) (hm : zMf m n) (hret : m.2.2.2 = none) (hini : m.1.name = "<init>") (hins : Cond.instanceMethod m.1 ∈ ztb) (hlink : Cond.methodLink M.1.cls idx m.1 ∈ ztb ∨ ∃ host, Cond.methodLinkNest M.1.cls idx m.1 host ∈ lw_tbl)
    (ct : zCt l Z m k' mc' ms' (.ref b :: as) μ Q') (hn : as.length = n) (hkk : k' < kk) (hs : stk = as.reverse ++ .ref b :: st) (hL : L.length = M.2.2.1) (h8 : (st.map fun v => v.category).sum ≤ 8) (hc : c + mc' ≤ mc) (hk : k + ms' ≤ ms)
    (h : ∀ (r : Option Value) (μ' : zMem), Q' r μ' → zJ τ F (pc + 3) L (r.toList ++ st) μ' (c + mc') (k + ms')) : zJ τ F pc L stk μ c k := by
  intro ad H locs ls hw hLo hst
  subst hs
  obtain ⟨hT, el, eZ⟩ := hY
  subst el; subst eZ
  obtain ⟨_, _, _, _, _, _, _, _, _, hWm, hB, hfr, hlo, hcc, hss⟩ := id hT
  have hst1 : zoks (zN μ) st := fun v hv => hst v (List.mem_append_right _ (List.mem_cons_of_mem _ hv))
  have hob : zok (zN μ) (.ref b) := hst _ (List.mem_append_right _ List.mem_cons_self)
  have hoa : zoks (zN μ) (.ref b :: as) := zoks_cons hob fun v hv => hst v (List.mem_append_left _ (List.mem_reverse.mpr hv))
  have hp : PreS τ.2.2.2.2.1 H (zPc τ.2.2.2.2.2.2.2.2.2.2.1 ad μ (.ref b :: as)) (.ref (ad b) :: as.map (ztv ad)) := ⟨zPc_blind _ _ _ _, fun U hU hWU => ⟨rfl, hWm.trans hWU, by rw [hU]; exact hw.1, by rw [hU]; exact zHS.B hT hw⟩⟩
  have hst0 : (as.reverse ++ .ref b :: st).map (ztv ad) = (as.map (ztv ad)).reverse ++ .ref (ad b) :: st.map (ztv ad) := by rw [List.map_append, List.map_reverse]; rfl
  obtain ⟨y, cb, mL, rt⟩ := m
  dsimp only at hret hini
  subst hret
  rcases hlink with hlink | ⟨host, hlink⟩
  · refine zback hT hw hLo hst1 (va_runI (Ts := ztb) ⟨hT.1, hT.2.1, hT.2.2.1, hT.own, hT.ws⟩ (ct ad hoa) ⟨callB_of n hT.ws (zpay hm) rfl rfl rfl (hT.ws _ hm.2.1) (hT.ws _ hlink) hm.2.2.1 (zroom hkk hfr hlo hm.2.2.2 mc' ms'), hini, hT.ws _ hins⟩ hp rfl (by rw [List.length_map]; exact hn) (hLo.1.trans hL) hst0 (lv_room (by rw [zcat8]; exact h8)) hd ⟨by omega, by omega⟩) h
  · refine zback hT hw hLo hst1 (va_runIN (Ts := ztb) ⟨hT.1, hT.2.1, hT.2.2.1, hT.own, hT.ws⟩ (ct ad hoa) ⟨va_cnB n hT.ws (zpay hm) rfl rfl rfl (hT.nestM hlink) (hT.ws _ hm.2.1) hm.2.2.1 (zroom hkk hfr hlo hm.2.2.2 mc' ms'), hini, hT.ws _ hins⟩ hp rfl (by rw [List.length_map]; exact hn) (hLo.1.trans hL) hst0 (lv_room (by rw [zcat8]; exact h8)) hd ⟨by omega, by omega⟩) h
end ZC
end
section
/-! ===== methods: code, words, links ===== -/
abbrev mX8_init : zM := (yX8_init, cX8_init, 1, none)
set_option maxRecDepth 20000 in
theorem mfX8_init : zMf mX8_init 0 := ⟨ztb_in (zc1 (List.mem_of_getElem? (i := 29) rfl)) rfl, ztb_in (zc1 (List.mem_of_getElem? (i := 1) rfl)) rfl, ⟨by decide +kernel, by decide +kernel, by decide +kernel⟩, by decide⟩
theorem mpX8_init : plainName mX8_init.1.cls = true := by decide +kernel
set_option maxRecDepth 20000 in
theorem miX8_init : Cond.instanceMethod mX8_init.1 ∈ ztb := ztb_in (zc1 (List.mem_of_getElem? (i := 28) rfl)) rfl
abbrev mX7_init : zM := (yX7_init, cX7_init, 1, none)
set_option maxRecDepth 20000 in
theorem mfX7_init : zMf mX7_init 0 := ⟨ztb_in (zc1 (List.mem_of_getElem? (i := 37) rfl)) rfl, ztb_in (zc1 (List.mem_of_getElem? (i := 2) rfl)) rfl, ⟨by decide +kernel, by decide +kernel, by decide +kernel⟩, by decide⟩
theorem mpX7_init : plainName mX7_init.1.cls = true := by decide +kernel
set_option maxRecDepth 20000 in
theorem miX7_init : Cond.instanceMethod mX7_init.1 ∈ ztb := ztb_in (zc1 (List.mem_of_getElem? (i := 36) rfl)) rfl
abbrev mX2_init : zM := (yX2_init, cX2_init, 2, none)
set_option maxRecDepth 20000 in
theorem mfX2_init : zMf mX2_init 1 := ⟨ztb_in (zc1 (List.mem_of_getElem? (i := 53) rfl)) rfl, ztb_in (zc1 (List.mem_of_getElem? (i := 3) rfl)) rfl, ⟨by decide +kernel, by decide +kernel, by decide +kernel⟩, by decide⟩
theorem mpX2_init : plainName mX2_init.1.cls = true := by decide +kernel
set_option maxRecDepth 20000 in
theorem miX2_init : Cond.instanceMethod mX2_init.1 ∈ ztb := ztb_in (zc1 (List.mem_of_getElem? (i := 52) rfl)) rfl
abbrev mX6_init : zM := (yX6_init, cX6_init, 3, none)
set_option maxRecDepth 20000 in
theorem mfX6_init : zMf mX6_init 0 := ⟨ztb_in (zc1 (List.mem_of_getElem? (i := 79) rfl)) rfl, ztb_in (zc1 (List.mem_of_getElem? (i := 4) rfl)) rfl, ⟨by decide +kernel, by decide +kernel, by decide +kernel⟩, by decide⟩
theorem mpX6_init : plainName mX6_init.1.cls = true := by decide +kernel
set_option maxRecDepth 20000 in
theorem miX6_init : Cond.instanceMethod mX6_init.1 ∈ ztb := ztb_in (zc1 (List.mem_of_getElem? (i := 78) rfl)) rfl
abbrev mX1_init : zM := (yX1_init, cX1_init, 3, none)
set_option maxRecDepth 20000 in
theorem mfX1_init : zMf mX1_init 2 := ⟨ztb_in (zc1 (List.mem_of_getElem? (i := 85) rfl)) rfl, ztb_in (zc1 (List.mem_of_getElem? (i := 5) rfl)) rfl, ⟨by decide +kernel, by decide +kernel, by decide +kernel⟩, by decide⟩
theorem mpX1_init : plainName mX1_init.1.cls = true := by decide +kernel
set_option maxRecDepth 20000 in
theorem miX1_init : Cond.instanceMethod mX1_init.1 ∈ ztb := ztb_in (zc1 (List.mem_of_getElem? (i := 84) rfl)) rfl
abbrev mX0_init : zM := (yX0_init, cX0_init, 3, none)
set_option maxRecDepth 20000 in
theorem mfX0_init : zMf mX0_init 2 := ⟨ztb_in (zc1 (List.mem_of_getElem? (i := 106) rfl)) rfl, ztb_in (zc1 (List.mem_of_getElem? (i := 6) rfl)) rfl, ⟨by decide +kernel, by decide +kernel, by decide +kernel⟩, by decide⟩
theorem mpX0_init : plainName mX0_init.1.cls = true := by decide +kernel
set_option maxRecDepth 20000 in
theorem miX0_init : Cond.instanceMethod mX0_init.1 ∈ ztb := ztb_in (zc1 (List.mem_of_getElem? (i := 105) rfl)) rfl
abbrev mX3_init : zM := (yX3_init, cX3_init, 1, none)
set_option maxRecDepth 20000 in
theorem mfX3_init : zMf mX3_init 0 := ⟨ztb_in (zc1 (List.mem_of_getElem? (i := 136) rfl)) rfl, ztb_in (zc1 (List.mem_of_getElem? (i := 7) rfl)) rfl, ⟨by decide +kernel, by decide +kernel, by decide +kernel⟩, by decide⟩
theorem mpX3_init : plainName mX3_init.1.cls = true := by decide +kernel
set_option maxRecDepth 20000 in
theorem miX3_init : Cond.instanceMethod mX3_init.1 ∈ ztb := ztb_in (zc1 (List.mem_of_getElem? (i := 135) rfl)) rfl
abbrev mX4_init : zM := (yX4_init, cX4_init, 2, none)
set_option maxRecDepth 20000 in
theorem mfX4_init : zMf mX4_init 1 := ⟨ztb_in (zc1 (List.mem_of_getElem? (i := 150) rfl)) rfl, ztb_in (zc1 (List.mem_of_getElem? (i := 8) rfl)) rfl, ⟨by decide +kernel, by decide +kernel, by decide +kernel⟩, by decide⟩
theorem mpX4_init : plainName mX4_init.1.cls = true := by decide +kernel
set_option maxRecDepth 20000 in
theorem miX4_init : Cond.instanceMethod mX4_init.1 ∈ ztb := ztb_in (zc1 (List.mem_of_getElem? (i := 149) rfl)) rfl
abbrev mX5_init : zM := (yX5_init, cX5_init, 7, none)
set_option maxRecDepth 20000 in
theorem mfX5_init : zMf mX5_init 6 := ⟨ztb_in (zc2 (List.mem_of_getElem? (i := 7) rfl)) rfl, ztb_in (zc1 (List.mem_of_getElem? (i := 9) rfl)) rfl, ⟨by decide +kernel, by decide +kernel, by decide +kernel⟩, by decide⟩
theorem mpX5_init : plainName mX5_init.1.cls = true := by decide +kernel
set_option maxRecDepth 20000 in
theorem miX5_init : Cond.instanceMethod mX5_init.1 ∈ ztb := ztb_in (zc2 (List.mem_of_getElem? (i := 6) rfl)) rfl
abbrev mX8_wipe : zM := (yX8_wipe, cX8_wipe, 2, (some FieldType.int))
set_option maxRecDepth 20000 in
theorem mfX8_wipe : zMf mX8_wipe 0 := ⟨ztb_in (zc2 (List.mem_of_getElem? (i := 60) rfl)) rfl, ztb_in (zc1 (List.mem_of_getElem? (i := 1) rfl)) rfl, ⟨by decide +kernel, by decide +kernel, by decide +kernel⟩, by decide⟩
theorem mpX8_wipe : plainName mX8_wipe.1.cls = true := by decide +kernel
set_option maxRecDepth 20000 in
theorem miX8_wipe : Cond.instanceMethod mX8_wipe.1 ∈ ztb := ztb_in (zc2 (List.mem_of_getElem? (i := 58) rfl)) rfl
set_option maxRecDepth 20000 in
theorem msX8_wipe : Cond.selects mX8_wipe.1.cls mX8_wipe.1 mX8_wipe.1 ∈ ztb := ztb_in (zc2 (List.mem_of_getElem? (i := 59) rfl)) rfl
abbrev mX8_fault : zM := (yX8_fault, cX8_fault, 1, (some FieldType.int))
set_option maxRecDepth 20000 in
theorem mfX8_fault : zMf mX8_fault 0 := ⟨ztb_in (zc2 (List.mem_of_getElem? (i := 64) rfl)) rfl, ztb_in (zc1 (List.mem_of_getElem? (i := 1) rfl)) rfl, ⟨by decide +kernel, by decide +kernel, by decide +kernel⟩, by decide⟩
theorem mpX8_fault : plainName mX8_fault.1.cls = true := by decide +kernel
set_option maxRecDepth 20000 in
theorem miX8_fault : Cond.instanceMethod mX8_fault.1 ∈ ztb := ztb_in (zc2 (List.mem_of_getElem? (i := 62) rfl)) rfl
set_option maxRecDepth 20000 in
theorem msX8_fault : Cond.selects mX8_fault.1.cls mX8_fault.1 mX8_fault.1 ∈ ztb := ztb_in (zc2 (List.mem_of_getElem? (i := 63) rfl)) rfl
abbrev mX2_findFault : zM := (yX2_findFault, cX2_findFault, 1, (some FieldType.int))
set_option maxRecDepth 20000 in
theorem mfX2_findFault : zMf mX2_findFault 0 := ⟨ztb_in (zc2 (List.mem_of_getElem? (i := 68) rfl)) rfl, ztb_in (zc1 (List.mem_of_getElem? (i := 3) rfl)) rfl, ⟨by decide +kernel, by decide +kernel, by decide +kernel⟩, by decide⟩
theorem mpX2_findFault : plainName mX2_findFault.1.cls = true := by decide +kernel
set_option maxRecDepth 20000 in
theorem miX2_findFault : Cond.instanceMethod mX2_findFault.1 ∈ ztb := ztb_in (zc2 (List.mem_of_getElem? (i := 66) rfl)) rfl
set_option maxRecDepth 20000 in
theorem msX2_findFault : Cond.selects mX2_findFault.1.cls mX2_findFault.1 mX2_findFault.1 ∈ ztb := ztb_in (zc2 (List.mem_of_getElem? (i := 67) rfl)) rfl
abbrev mX2_passFormula : zM := (yX2_passFormula, cX2_passFormula, 3, none)
set_option maxRecDepth 20000 in
theorem mfX2_passFormula : zMf mX2_passFormula 1 := ⟨ztb_in (zc2 (List.mem_of_getElem? (i := 72) rfl)) rfl, ztb_in (zc1 (List.mem_of_getElem? (i := 3) rfl)) rfl, ⟨by decide +kernel, by decide +kernel, by decide +kernel⟩, by decide⟩
theorem mpX2_passFormula : plainName mX2_passFormula.1.cls = true := by decide +kernel
set_option maxRecDepth 20000 in
theorem miX2_passFormula : Cond.instanceMethod mX2_passFormula.1 ∈ ztb := ztb_in (zc2 (List.mem_of_getElem? (i := 71) rfl)) rfl
set_option maxRecDepth 20000 in
theorem msX2_passFormula : Cond.selects mX2_passFormula.1.cls mX2_passFormula.1 mX2_passFormula.1 ∈ ztb := ztb_in (zsel (List.mem_of_getElem? (i := 0) rfl)) rfl
abbrev mX2_passSum : zM := (yX2_passSum, cX2_passSum, 4, none)
set_option maxRecDepth 20000 in
theorem mfX2_passSum : zMf mX2_passSum 1 := ⟨ztb_in (zc2 (List.mem_of_getElem? (i := 76) rfl)) rfl, ztb_in (zc1 (List.mem_of_getElem? (i := 3) rfl)) rfl, ⟨by decide +kernel, by decide +kernel, by decide +kernel⟩, by decide⟩
theorem mpX2_passSum : plainName mX2_passSum.1.cls = true := by decide +kernel
set_option maxRecDepth 20000 in
theorem miX2_passSum : Cond.instanceMethod mX2_passSum.1 ∈ ztb := ztb_in (zc2 (List.mem_of_getElem? (i := 75) rfl)) rfl
set_option maxRecDepth 20000 in
theorem msX2_passSum : Cond.selects mX2_passSum.1.cls mX2_passSum.1 mX2_passSum.1 ∈ ztb := ztb_in (zsel (List.mem_of_getElem? (i := 1) rfl)) rfl
abbrev mX2_passProduct : zM := (yX2_passProduct, cX2_passProduct, 3, none)
set_option maxRecDepth 20000 in
theorem mfX2_passProduct : zMf mX2_passProduct 1 := ⟨ztb_in (zc2 (List.mem_of_getElem? (i := 80) rfl)) rfl, ztb_in (zc1 (List.mem_of_getElem? (i := 3) rfl)) rfl, ⟨by decide +kernel, by decide +kernel, by decide +kernel⟩, by decide⟩
theorem mpX2_passProduct : plainName mX2_passProduct.1.cls = true := by decide +kernel
set_option maxRecDepth 20000 in
theorem miX2_passProduct : Cond.instanceMethod mX2_passProduct.1 ∈ ztb := ztb_in (zc2 (List.mem_of_getElem? (i := 79) rfl)) rfl
set_option maxRecDepth 20000 in
theorem msX2_passProduct : Cond.selects mX2_passProduct.1.cls mX2_passProduct.1 mX2_passProduct.1 ∈ ztb := ztb_in (zsel (List.mem_of_getElem? (i := 2) rfl)) rfl
abbrev mX2_passPart : zM := (yX2_passPart, cX2_passPart, 3, none)
set_option maxRecDepth 20000 in
theorem mfX2_passPart : zMf mX2_passPart 1 := ⟨ztb_in (zc2 (List.mem_of_getElem? (i := 84) rfl)) rfl, ztb_in (zc1 (List.mem_of_getElem? (i := 3) rfl)) rfl, ⟨by decide +kernel, by decide +kernel, by decide +kernel⟩, by decide⟩
theorem mpX2_passPart : plainName mX2_passPart.1.cls = true := by decide +kernel
set_option maxRecDepth 20000 in
theorem miX2_passPart : Cond.instanceMethod mX2_passPart.1 ∈ ztb := ztb_in (zc2 (List.mem_of_getElem? (i := 83) rfl)) rfl
set_option maxRecDepth 20000 in
theorem msX2_passPart : Cond.selects mX2_passPart.1.cls mX2_passPart.1 mX2_passPart.1 ∈ ztb := ztb_in (zsel (List.mem_of_getElem? (i := 3) rfl)) rfl
abbrev mX7_letterAt : zM := (yX7_letterAt, cX7_letterAt, 3, (some FieldType.char))
set_option maxRecDepth 20000 in
theorem mfX7_letterAt : zMf mX7_letterAt 1 := ⟨ztb_in (zc2 (List.mem_of_getElem? (i := 88) rfl)) rfl, ztb_in (zc1 (List.mem_of_getElem? (i := 2) rfl)) rfl, ⟨by decide +kernel, by decide +kernel, by decide +kernel⟩, by decide⟩
theorem mpX7_letterAt : plainName mX7_letterAt.1.cls = true := by decide +kernel
set_option maxRecDepth 20000 in
theorem miX7_letterAt : Cond.instanceMethod mX7_letterAt.1 ∈ ztb := ztb_in (zc2 (List.mem_of_getElem? (i := 86) rfl)) rfl
set_option maxRecDepth 20000 in
theorem msX7_letterAt : Cond.selects mX7_letterAt.1.cls mX7_letterAt.1 mX7_letterAt.1 ∈ ztb := ztb_in (zc2 (List.mem_of_getElem? (i := 87) rfl)) rfl
abbrev mX8_isFigure : zM := (yX8_isFigure, cX8_isFigure, 1, (some FieldType.boolean))
set_option maxRecDepth 20000 in
theorem mfX8_isFigure : zMf mX8_isFigure 1 := ⟨ztb_in (zc2 (List.mem_of_getElem? (i := 91) rfl)) rfl, ztb_in (zc1 (List.mem_of_getElem? (i := 1) rfl)) rfl, ⟨by decide +kernel, by decide +kernel, by decide +kernel⟩, by decide⟩
theorem mpX8_isFigure : plainName mX8_isFigure.1.cls = true := by decide +kernel
set_option maxRecDepth 20000 in
theorem mtX8_isFigure : Cond.static mX8_isFigure.1 ∈ ztb := ztb_in (zc2 (List.mem_of_getElem? (i := 90) rfl)) rfl
abbrev mX2_passNumber : zM := (yX2_passNumber, cX2_passNumber, 3, none)
set_option maxRecDepth 20000 in
theorem mfX2_passNumber : zMf mX2_passNumber 0 := ⟨ztb_in (zc2 (List.mem_of_getElem? (i := 95) rfl)) rfl, ztb_in (zc1 (List.mem_of_getElem? (i := 3) rfl)) rfl, ⟨by decide +kernel, by decide +kernel, by decide +kernel⟩, by decide⟩
theorem mpX2_passNumber : plainName mX2_passNumber.1.cls = true := by decide +kernel
set_option maxRecDepth 20000 in
theorem miX2_passNumber : Cond.instanceMethod mX2_passNumber.1 ∈ ztb := ztb_in (zc2 (List.mem_of_getElem? (i := 94) rfl)) rfl
set_option maxRecDepth 20000 in
theorem msX2_passNumber : Cond.selects mX2_passNumber.1.cls mX2_passNumber.1 mX2_passNumber.1 ∈ ztb := ztb_in (zsel (List.mem_of_getElem? (i := 4) rfl)) rfl
abbrev mX2_write : zM := (yX2_write, cX2_write, 3, none)
set_option maxRecDepth 20000 in
theorem mfX2_write : zMf mX2_write 2 := ⟨ztb_in (zc2 (List.mem_of_getElem? (i := 99) rfl)) rfl, ztb_in (zc1 (List.mem_of_getElem? (i := 3) rfl)) rfl, ⟨by decide +kernel, by decide +kernel, by decide +kernel⟩, by decide⟩
theorem mpX2_write : plainName mX2_write.1.cls = true := by decide +kernel
set_option maxRecDepth 20000 in
theorem miX2_write : Cond.instanceMethod mX2_write.1 ∈ ztb := ztb_in (zc2 (List.mem_of_getElem? (i := 98) rfl)) rfl
set_option maxRecDepth 20000 in
theorem msX2_write : Cond.selects mX2_write.1.cls mX2_write.1 mX2_write.1 ∈ ztb := ztb_in (zsel (List.mem_of_getElem? (i := 5) rfl)) rfl
abbrev mX2_passBrackets : zM := (yX2_passBrackets, cX2_passBrackets, 4, none)
set_option maxRecDepth 20000 in
theorem mfX2_passBrackets : zMf mX2_passBrackets 2 := ⟨ztb_in (zc2 (List.mem_of_getElem? (i := 103) rfl)) rfl, ztb_in (zc1 (List.mem_of_getElem? (i := 3) rfl)) rfl, ⟨by decide +kernel, by decide +kernel, by decide +kernel⟩, by decide⟩
theorem mpX2_passBrackets : plainName mX2_passBrackets.1.cls = true := by decide +kernel
set_option maxRecDepth 20000 in
theorem miX2_passBrackets : Cond.instanceMethod mX2_passBrackets.1 ∈ ztb := ztb_in (zc2 (List.mem_of_getElem? (i := 102) rfl)) rfl
set_option maxRecDepth 20000 in
theorem msX2_passBrackets : Cond.selects mX2_passBrackets.1.cls mX2_passBrackets.1 mX2_passBrackets.1 ∈ ztb := ztb_in (zsel (List.mem_of_getElem? (i := 6) rfl)) rfl
abbrev mX2_passSign : zM := (yX2_passSign, cX2_passSign, 2, none)
set_option maxRecDepth 20000 in
theorem mfX2_passSign : zMf mX2_passSign 1 := ⟨ztb_in (zc2 (List.mem_of_getElem? (i := 107) rfl)) rfl, ztb_in (zc1 (List.mem_of_getElem? (i := 3) rfl)) rfl, ⟨by decide +kernel, by decide +kernel, by decide +kernel⟩, by decide⟩
theorem mpX2_passSign : plainName mX2_passSign.1.cls = true := by decide +kernel
set_option maxRecDepth 20000 in
theorem miX2_passSign : Cond.instanceMethod mX2_passSign.1 ∈ ztb := ztb_in (zc2 (List.mem_of_getElem? (i := 106) rfl)) rfl
set_option maxRecDepth 20000 in
theorem msX2_passSign : Cond.selects mX2_passSign.1.cls mX2_passSign.1 mX2_passSign.1 ∈ ztb := ztb_in (zsel (List.mem_of_getElem? (i := 7) rfl)) rfl
abbrev mX2_passName : zM := (yX2_passName, cX2_passName, 6, none)
set_option maxRecDepth 20000 in
theorem mfX2_passName : zMf mX2_passName 3 := ⟨ztb_in (zc2 (List.mem_of_getElem? (i := 111) rfl)) rfl, ztb_in (zc1 (List.mem_of_getElem? (i := 3) rfl)) rfl, ⟨by decide +kernel, by decide +kernel, by decide +kernel⟩, by decide⟩
theorem mpX2_passName : plainName mX2_passName.1.cls = true := by decide +kernel
set_option maxRecDepth 20000 in
theorem miX2_passName : Cond.instanceMethod mX2_passName.1 ∈ ztb := ztb_in (zc2 (List.mem_of_getElem? (i := 110) rfl)) rfl
set_option maxRecDepth 20000 in
theorem msX2_passName : Cond.selects mX2_passName.1.cls mX2_passName.1 mX2_passName.1 ∈ ztb := ztb_in (zsel (List.mem_of_getElem? (i := 8) rfl)) rfl
abbrev mX2_figureAt : zM := (yX2_figureAt, cX2_figureAt, 3, (some FieldType.int))
set_option maxRecDepth 20000 in
theorem mfX2_figureAt : zMf mX2_figureAt 1 := ⟨ztb_in (zc2 (List.mem_of_getElem? (i := 115) rfl)) rfl, ztb_in (zc1 (List.mem_of_getElem? (i := 3) rfl)) rfl, ⟨by decide +kernel, by decide +kernel, by decide +kernel⟩, by decide⟩
theorem mpX2_figureAt : plainName mX2_figureAt.1.cls = true := by decide +kernel
set_option maxRecDepth 20000 in
theorem miX2_figureAt : Cond.instanceMethod mX2_figureAt.1 ∈ ztb := ztb_in (zc2 (List.mem_of_getElem? (i := 114) rfl)) rfl
set_option maxRecDepth 20000 in
theorem msX2_figureAt : Cond.selects mX2_figureAt.1.cls mX2_figureAt.1 mX2_figureAt.1 ∈ ztb := ztb_in (zsel (List.mem_of_getElem? (i := 9) rfl)) rfl
abbrev mX8_bit : zM := (yX8_bit, cX8_bit, 1, (some FieldType.int))
set_option maxRecDepth 20000 in
theorem mfX8_bit : zMf mX8_bit 1 := ⟨ztb_in (zc2 (List.mem_of_getElem? (i := 118) rfl)) rfl, ztb_in (zc1 (List.mem_of_getElem? (i := 1) rfl)) rfl, ⟨by decide +kernel, by decide +kernel, by decide +kernel⟩, by decide⟩
theorem mpX8_bit : plainName mX8_bit.1.cls = true := by decide +kernel
set_option maxRecDepth 20000 in
theorem mtX8_bit : Cond.static mX8_bit.1 ∈ ztb := ztb_in (zc2 (List.mem_of_getElem? (i := 117) rfl)) rfl
abbrev mX2_comparisonOf : zM := (yX2_comparisonOf, cX2_comparisonOf, 1, (some FieldType.int))
set_option maxRecDepth 20000 in
theorem mfX2_comparisonOf : zMf mX2_comparisonOf 1 := ⟨ztb_in (zc2 (List.mem_of_getElem? (i := 121) rfl)) rfl, ztb_in (zc1 (List.mem_of_getElem? (i := 3) rfl)) rfl, ⟨by decide +kernel, by decide +kernel, by decide +kernel⟩, by decide⟩
theorem mpX2_comparisonOf : plainName mX2_comparisonOf.1.cls = true := by decide +kernel
set_option maxRecDepth 20000 in
theorem mtX2_comparisonOf : Cond.static mX2_comparisonOf.1 ∈ ztb := ztb_in (zc2 (List.mem_of_getElem? (i := 120) rfl)) rfl
abbrev mX8_steps : zM := (yX8_steps, cX8_steps, 1, (some FieldType.int))
set_option maxRecDepth 20000 in
theorem mfX8_steps : zMf mX8_steps 0 := ⟨ztb_in (zc2 (List.mem_of_getElem? (i := 125) rfl)) rfl, ztb_in (zc1 (List.mem_of_getElem? (i := 1) rfl)) rfl, ⟨by decide +kernel, by decide +kernel, by decide +kernel⟩, by decide⟩
theorem mpX8_steps : plainName mX8_steps.1.cls = true := by decide +kernel
set_option maxRecDepth 20000 in
theorem miX8_steps : Cond.instanceMethod mX8_steps.1 ∈ ztb := ztb_in (zc2 (List.mem_of_getElem? (i := 123) rfl)) rfl
set_option maxRecDepth 20000 in
theorem msX8_steps : Cond.selects mX8_steps.1.cls mX8_steps.1 mX8_steps.1 ∈ ztb := ztb_in (zc2 (List.mem_of_getElem? (i := 124) rfl)) rfl
abbrev mX8_now : zM := (yX8_now, cX8_now, 1, (some FieldType.int))
set_option maxRecDepth 20000 in
theorem mfX8_now : zMf mX8_now 0 := ⟨ztb_in (zc2 (List.mem_of_getElem? (i := 129) rfl)) rfl, ztb_in (zc1 (List.mem_of_getElem? (i := 1) rfl)) rfl, ⟨by decide +kernel, by decide +kernel, by decide +kernel⟩, by decide⟩
theorem mpX8_now : plainName mX8_now.1.cls = true := by decide +kernel
set_option maxRecDepth 20000 in
theorem miX8_now : Cond.instanceMethod mX8_now.1 ∈ ztb := ztb_in (zc2 (List.mem_of_getElem? (i := 127) rfl)) rfl
set_option maxRecDepth 20000 in
theorem msX8_now : Cond.selects mX8_now.1.cls mX8_now.1 mX8_now.1 ∈ ztb := ztb_in (zc2 (List.mem_of_getElem? (i := 128) rfl)) rfl
abbrev mX8_work : zM := (yX8_work, cX8_work, 1, (some FieldType.int))
set_option maxRecDepth 20000 in
theorem mfX8_work : zMf mX8_work 0 := ⟨ztb_in (zc2 (List.mem_of_getElem? (i := 133) rfl)) rfl, ztb_in (zc1 (List.mem_of_getElem? (i := 1) rfl)) rfl, ⟨by decide +kernel, by decide +kernel, by decide +kernel⟩, by decide⟩
theorem mpX8_work : plainName mX8_work.1.cls = true := by decide +kernel
set_option maxRecDepth 20000 in
theorem miX8_work : Cond.instanceMethod mX8_work.1 ∈ ztb := ztb_in (zc2 (List.mem_of_getElem? (i := 131) rfl)) rfl
set_option maxRecDepth 20000 in
theorem msX8_work : Cond.selects mX8_work.1.cls mX8_work.1 mX8_work.1 ∈ ztb := ztb_in (zc2 (List.mem_of_getElem? (i := 132) rfl)) rfl
abbrev mX8_type : zM := (yX8_type, cX8_type, 2, (some FieldType.int))
set_option maxRecDepth 20000 in
theorem mfX8_type : zMf mX8_type 1 := ⟨ztb_in (zc2 (List.mem_of_getElem? (i := 142) rfl)) rfl, ztb_in (zc1 (List.mem_of_getElem? (i := 1) rfl)) rfl, ⟨by decide +kernel, by decide +kernel, by decide +kernel⟩, by decide⟩
theorem mpX8_type : plainName mX8_type.1.cls = true := by decide +kernel
set_option maxRecDepth 20000 in
theorem miX8_type : Cond.instanceMethod mX8_type.1 ∈ ztb := ztb_in (zc2 (List.mem_of_getElem? (i := 140) rfl)) rfl
set_option maxRecDepth 20000 in
theorem msX8_type : Cond.selects mX8_type.1.cls mX8_type.1 mX8_type.1 ∈ ztb := ztb_in (zc2 (List.mem_of_getElem? (i := 141) rfl)) rfl
abbrev mX7_isFull : zM := (yX7_isFull, cX7_isFull, 1, (some FieldType.boolean))
set_option maxRecDepth 20000 in
theorem mfX7_isFull : zMf mX7_isFull 0 := ⟨ztb_in (zc3 (List.mem_of_getElem? (i := 62) rfl)) rfl, ztb_in (zc1 (List.mem_of_getElem? (i := 2) rfl)) rfl, ⟨by decide +kernel, by decide +kernel, by decide +kernel⟩, by decide⟩
theorem mpX7_isFull : plainName mX7_isFull.1.cls = true := by decide +kernel
set_option maxRecDepth 20000 in
theorem miX7_isFull : Cond.instanceMethod mX7_isFull.1 ∈ ztb := ztb_in (zc3 (List.mem_of_getElem? (i := 60) rfl)) rfl
set_option maxRecDepth 20000 in
theorem msX7_isFull : Cond.selects mX7_isFull.1.cls mX7_isFull.1 mX7_isFull.1 ∈ ztb := ztb_in (zc3 (List.mem_of_getElem? (i := 61) rfl)) rfl
abbrev mX7_add : zM := (yX7_add, cX7_add, 2, none)
set_option maxRecDepth 20000 in
theorem mfX7_add : zMf mX7_add 1 := ⟨ztb_in (zc3 (List.mem_of_getElem? (i := 82) rfl)) rfl, ztb_in (zc1 (List.mem_of_getElem? (i := 2) rfl)) rfl, ⟨by decide +kernel, by decide +kernel, by decide +kernel⟩, by decide⟩
theorem mpX7_add : plainName mX7_add.1.cls = true := by decide +kernel
set_option maxRecDepth 20000 in
theorem miX7_add : Cond.instanceMethod mX7_add.1 ∈ ztb := ztb_in (zc3 (List.mem_of_getElem? (i := 80) rfl)) rfl
set_option maxRecDepth 20000 in
theorem msX7_add : Cond.selects mX7_add.1.cls mX7_add.1 mX7_add.1 ∈ ztb := ztb_in (zc3 (List.mem_of_getElem? (i := 81) rfl)) rfl
abbrev mX8_formula : zM := (yX8_formula, cX8_formula, 3, (some FieldType.int))
set_option maxRecDepth 20000 in
theorem mfX8_formula : zMf mX8_formula 1 := ⟨ztb_in (zc3 (List.mem_of_getElem? (i := 90) rfl)) rfl, ztb_in (zc1 (List.mem_of_getElem? (i := 1) rfl)) rfl, ⟨by decide +kernel, by decide +kernel, by decide +kernel⟩, by decide⟩
theorem mpX8_formula : plainName mX8_formula.1.cls = true := by decide +kernel
set_option maxRecDepth 20000 in
theorem miX8_formula : Cond.instanceMethod mX8_formula.1 ∈ ztb := ztb_in (zc3 (List.mem_of_getElem? (i := 88) rfl)) rfl
set_option maxRecDepth 20000 in
theorem msX8_formula : Cond.selects mX8_formula.1.cls mX8_formula.1 mX8_formula.1 ∈ ztb := ztb_in (zc3 (List.mem_of_getElem? (i := 89) rfl)) rfl
abbrev mX8_checkCell : zM := (yX8_checkCell, cX8_checkCell, 1, none)
set_option maxRecDepth 20000 in
theorem mfX8_checkCell : zMf mX8_checkCell 1 := ⟨ztb_in (zc3 (List.mem_of_getElem? (i := 93) rfl)) rfl, ztb_in (zc1 (List.mem_of_getElem? (i := 1) rfl)) rfl, ⟨by decide +kernel, by decide +kernel, by decide +kernel⟩, by decide⟩
theorem mpX8_checkCell : plainName mX8_checkCell.1.cls = true := by decide +kernel
set_option maxRecDepth 20000 in
theorem mtX8_checkCell : Cond.static mX8_checkCell.1 ∈ ztb := ztb_in (zc3 (List.mem_of_getElem? (i := 92) rfl)) rfl
abbrev mX8_checkPlace : zM := (yX8_checkPlace, cX8_checkPlace, 2, none)
set_option maxRecDepth 20000 in
theorem mfX8_checkPlace : zMf mX8_checkPlace 2 := ⟨ztb_in (zc3 (List.mem_of_getElem? (i := 96) rfl)) rfl, ztb_in (zc1 (List.mem_of_getElem? (i := 1) rfl)) rfl, ⟨by decide +kernel, by decide +kernel, by decide +kernel⟩, by decide⟩
theorem mpX8_checkPlace : plainName mX8_checkPlace.1.cls = true := by decide +kernel
set_option maxRecDepth 20000 in
theorem mtX8_checkPlace : Cond.static mX8_checkPlace.1 ∈ ztb := ztb_in (zc3 (List.mem_of_getElem? (i := 95) rfl)) rfl
abbrev mX2_makeFormula : zM := (yX2_makeFormula, cX2_makeFormula, 1, (some (FieldType.object "Daemonsheet$Formula")))
set_option maxRecDepth 20000 in
theorem mfX2_makeFormula : zMf mX2_makeFormula 0 := ⟨ztb_in (zc3 (List.mem_of_getElem? (i := 117) rfl)) rfl, ztb_in (zc1 (List.mem_of_getElem? (i := 3) rfl)) rfl, ⟨by decide +kernel, by decide +kernel, by decide +kernel⟩, by decide⟩
theorem mpX2_makeFormula : plainName mX2_makeFormula.1.cls = true := by decide +kernel
set_option maxRecDepth 20000 in
theorem miX2_makeFormula : Cond.instanceMethod mX2_makeFormula.1 ∈ ztb := ztb_in (zc3 (List.mem_of_getElem? (i := 115) rfl)) rfl
set_option maxRecDepth 20000 in
theorem msX2_makeFormula : Cond.selects mX2_makeFormula.1.cls mX2_makeFormula.1 mX2_makeFormula.1 ∈ ztb := ztb_in (zc3 (List.mem_of_getElem? (i := 116) rfl)) rfl
abbrev mX6_withAllRead : zM := (yX6_withAllRead, cX6_withAllRead, 4, (some FieldType.int))
set_option maxRecDepth 20000 in
theorem mfX6_withAllRead : zMf mX6_withAllRead 1 := ⟨ztb_in (zc3 (List.mem_of_getElem? (i := 138) rfl)) rfl, ztb_in (zc1 (List.mem_of_getElem? (i := 4) rfl)) rfl, ⟨by decide +kernel, by decide +kernel, by decide +kernel⟩, by decide⟩
theorem mpX6_withAllRead : plainName mX6_withAllRead.1.cls = true := by decide +kernel
set_option maxRecDepth 20000 in
theorem miX6_withAllRead : Cond.instanceMethod mX6_withAllRead.1 ∈ ztb := ztb_in (zc3 (List.mem_of_getElem? (i := 136) rfl)) rfl
set_option maxRecDepth 20000 in
theorem msX6_withAllRead : Cond.selects mX6_withAllRead.1.cls mX6_withAllRead.1 mX6_withAllRead.1 ∈ ztb := ztb_in (zc3 (List.mem_of_getElem? (i := 137) rfl)) rfl
abbrev mX8_has : zM := (yX8_has, cX8_has, 2, (some FieldType.boolean))
set_option maxRecDepth 20000 in
theorem mfX8_has : zMf mX8_has 2 := ⟨ztb_in (zc3 (List.mem_of_getElem? (i := 141) rfl)) rfl, ztb_in (zc1 (List.mem_of_getElem? (i := 1) rfl)) rfl, ⟨by decide +kernel, by decide +kernel, by decide +kernel⟩, by decide⟩
theorem mpX8_has : plainName mX8_has.1.cls = true := by decide +kernel
set_option maxRecDepth 20000 in
theorem mtX8_has : Cond.static mX8_has.1 ∈ ztb := ztb_in (zc3 (List.mem_of_getElem? (i := 140) rfl)) rfl
abbrev mX8_keep : zM := (yX8_keep, cX8_keep, 7, (some FieldType.int))
set_option maxRecDepth 20000 in
theorem mfX8_keep : zMf mX8_keep 5 := ⟨ztb_in (zc3 (List.mem_of_getElem? (i := 147) rfl)) rfl, ztb_in (zc1 (List.mem_of_getElem? (i := 1) rfl)) rfl, ⟨by decide +kernel, by decide +kernel, by decide +kernel⟩, by decide⟩
theorem mpX8_keep : plainName mX8_keep.1.cls = true := by decide +kernel
set_option maxRecDepth 20000 in
theorem miX8_keep : Cond.instanceMethod mX8_keep.1 ∈ ztb := ztb_in (zc3 (List.mem_of_getElem? (i := 146) rfl)) rfl
set_option maxRecDepth 20000 in
theorem msX8_keep : Cond.selects mX8_keep.1.cls mX8_keep.1 mX8_keep.1 ∈ ztb := ztb_in (zsel (List.mem_of_getElem? (i := 11) rfl)) rfl
abbrev mX6_tell : zM := (yX6_tell, cX6_tell, 4, (some FieldType.int))
set_option maxRecDepth 20000 in
theorem mfX6_tell : zMf mX6_tell 1 := ⟨ztb_in (zc3 (List.mem_of_getElem? (i := 152) rfl)) rfl, ztb_in (zc1 (List.mem_of_getElem? (i := 4) rfl)) rfl, ⟨by decide +kernel, by decide +kernel, by decide +kernel⟩, by decide⟩
theorem mpX6_tell : plainName mX6_tell.1.cls = true := by decide +kernel
set_option maxRecDepth 20000 in
theorem miX6_tell : Cond.instanceMethod mX6_tell.1 ∈ ztb := ztb_in (zc3 (List.mem_of_getElem? (i := 150) rfl)) rfl
set_option maxRecDepth 20000 in
theorem msX6_tell : Cond.selects mX6_tell.1.cls mX6_tell.1 mX6_tell.1 ∈ ztb := ztb_in (zc3 (List.mem_of_getElem? (i := 151) rfl)) rfl
abbrev mX6_change : zM := (yX6_change, cX6_change, 2, none)
set_option maxRecDepth 20000 in
theorem mfX6_change : zMf mX6_change 1 := ⟨ztb_in (zc3 (List.mem_of_getElem? (i := 156) rfl)) rfl, ztb_in (zc1 (List.mem_of_getElem? (i := 4) rfl)) rfl, ⟨by decide +kernel, by decide +kernel, by decide +kernel⟩, by decide⟩
theorem mpX6_change : plainName mX6_change.1.cls = true := by decide +kernel
set_option maxRecDepth 20000 in
theorem miX6_change : Cond.instanceMethod mX6_change.1 ∈ ztb := ztb_in (zc3 (List.mem_of_getElem? (i := 155) rfl)) rfl
set_option maxRecDepth 20000 in
theorem msX6_change : Cond.selects mX6_change.1.cls mX6_change.1 mX6_change.1 ∈ ztb := ztb_in (zsel (List.mem_of_getElem? (i := 12) rfl)) rfl
abbrev mX6_changeReading : zM := (yX6_changeReading, cX6_changeReading, 3, none)
set_option maxRecDepth 20000 in
theorem mfX6_changeReading : zMf mX6_changeReading 1 := ⟨ztb_in (zc3 (List.mem_of_getElem? (i := 160) rfl)) rfl, ztb_in (zc1 (List.mem_of_getElem? (i := 4) rfl)) rfl, ⟨by decide +kernel, by decide +kernel, by decide +kernel⟩, by decide⟩
theorem mpX6_changeReading : plainName mX6_changeReading.1.cls = true := by decide +kernel
set_option maxRecDepth 20000 in
theorem miX6_changeReading : Cond.instanceMethod mX6_changeReading.1 ∈ ztb := ztb_in (zc3 (List.mem_of_getElem? (i := 159) rfl)) rfl
set_option maxRecDepth 20000 in
theorem msX6_changeReading : Cond.selects mX6_changeReading.1.cls mX6_changeReading.1 mX6_changeReading.1 ∈ ztb := ztb_in (zsel (List.mem_of_getElem? (i := 13) rfl)) rfl
abbrev mX6_soilReaders : zM := (yX6_soilReaders, cX6_soilReaders, 6, none)
set_option maxRecDepth 20000 in
theorem mfX6_soilReaders : zMf mX6_soilReaders 1 := ⟨ztb_in (zc3 (List.mem_of_getElem? (i := 164) rfl)) rfl, ztb_in (zc1 (List.mem_of_getElem? (i := 4) rfl)) rfl, ⟨by decide +kernel, by decide +kernel, by decide +kernel⟩, by decide⟩
theorem mpX6_soilReaders : plainName mX6_soilReaders.1.cls = true := by decide +kernel
set_option maxRecDepth 20000 in
theorem miX6_soilReaders : Cond.instanceMethod mX6_soilReaders.1 ∈ ztb := ztb_in (zc3 (List.mem_of_getElem? (i := 163) rfl)) rfl
set_option maxRecDepth 20000 in
theorem msX6_soilReaders : Cond.selects mX6_soilReaders.1.cls mX6_soilReaders.1 mX6_soilReaders.1 ∈ ztb := ztb_in (zsel (List.mem_of_getElem? (i := 14) rfl)) rfl
abbrev mX6_changeCell : zM := (yX6_changeCell, cX6_changeCell, 3, none)
set_option maxRecDepth 20000 in
theorem mfX6_changeCell : zMf mX6_changeCell 1 := ⟨ztb_in (zc3 (List.mem_of_getElem? (i := 169) rfl)) rfl, ztb_in (zc1 (List.mem_of_getElem? (i := 4) rfl)) rfl, ⟨by decide +kernel, by decide +kernel, by decide +kernel⟩, by decide⟩
theorem mpX6_changeCell : plainName mX6_changeCell.1.cls = true := by decide +kernel
set_option maxRecDepth 20000 in
theorem miX6_changeCell : Cond.instanceMethod mX6_changeCell.1 ∈ ztb := ztb_in (zc3 (List.mem_of_getElem? (i := 168) rfl)) rfl
set_option maxRecDepth 20000 in
theorem msX6_changeCell : Cond.selects mX6_changeCell.1.cls mX6_changeCell.1 mX6_changeCell.1 ∈ ztb := ztb_in (zsel (List.mem_of_getElem? (i := 15) rfl)) rfl
abbrev mX6_setValue : zM := (yX6_setValue, cX6_setValue, 3, none)
set_option maxRecDepth 20000 in
theorem mfX6_setValue : zMf mX6_setValue 2 := ⟨ztb_in (zc3 (List.mem_of_getElem? (i := 173) rfl)) rfl, ztb_in (zc1 (List.mem_of_getElem? (i := 4) rfl)) rfl, ⟨by decide +kernel, by decide +kernel, by decide +kernel⟩, by decide⟩
theorem mpX6_setValue : plainName mX6_setValue.1.cls = true := by decide +kernel
set_option maxRecDepth 20000 in
theorem miX6_setValue : Cond.instanceMethod mX6_setValue.1 ∈ ztb := ztb_in (zc3 (List.mem_of_getElem? (i := 172) rfl)) rfl
set_option maxRecDepth 20000 in
theorem msX6_setValue : Cond.selects mX6_setValue.1.cls mX6_setValue.1 mX6_setValue.1 ∈ ztb := ztb_in (zsel (List.mem_of_getElem? (i := 16) rfl)) rfl
abbrev mX6_arrange : zM := (yX6_arrange, cX6_arrange, 10, none)
set_option maxRecDepth 20000 in
theorem mfX6_arrange : zMf mX6_arrange 0 := ⟨ztb_in (zc3 (List.mem_of_getElem? (i := 177) rfl)) rfl, ztb_in (zc1 (List.mem_of_getElem? (i := 4) rfl)) rfl, ⟨by decide +kernel, by decide +kernel, by decide +kernel⟩, by decide⟩
theorem mpX6_arrange : plainName mX6_arrange.1.cls = true := by decide +kernel
set_option maxRecDepth 20000 in
theorem miX6_arrange : Cond.instanceMethod mX6_arrange.1 ∈ ztb := ztb_in (zc3 (List.mem_of_getElem? (i := 176) rfl)) rfl
set_option maxRecDepth 20000 in
theorem msX6_arrange : Cond.selects mX6_arrange.1.cls mX6_arrange.1 mX6_arrange.1 ∈ ztb := ztb_in (zsel (List.mem_of_getElem? (i := 17) rfl)) rfl
abbrev mX6_changeService : zM := (yX6_changeService, cX6_changeService, 4, none)
set_option maxRecDepth 20000 in
theorem mfX6_changeService : zMf mX6_changeService 1 := ⟨ztb_in (zc3 (List.mem_of_getElem? (i := 181) rfl)) rfl, ztb_in (zc1 (List.mem_of_getElem? (i := 4) rfl)) rfl, ⟨by decide +kernel, by decide +kernel, by decide +kernel⟩, by decide⟩
theorem mpX6_changeService : plainName mX6_changeService.1.cls = true := by decide +kernel
set_option maxRecDepth 20000 in
theorem miX6_changeService : Cond.instanceMethod mX6_changeService.1 ∈ ztb := ztb_in (zc3 (List.mem_of_getElem? (i := 180) rfl)) rfl
set_option maxRecDepth 20000 in
theorem msX6_changeService : Cond.selects mX6_changeService.1.cls mX6_changeService.1 mX6_changeService.1 ∈ ztb := ztb_in (zsel (List.mem_of_getElem? (i := 18) rfl)) rfl
abbrev mX6_settle : zM := (yX6_settle, cX6_settle, 4, (some FieldType.int))
set_option maxRecDepth 20000 in
theorem mfX6_settle : zMf mX6_settle 0 := ⟨ztb_in (zc3 (List.mem_of_getElem? (i := 185) rfl)) rfl, ztb_in (zc1 (List.mem_of_getElem? (i := 4) rfl)) rfl, ⟨by decide +kernel, by decide +kernel, by decide +kernel⟩, by decide⟩
theorem mpX6_settle : plainName mX6_settle.1.cls = true := by decide +kernel
set_option maxRecDepth 20000 in
theorem miX6_settle : Cond.instanceMethod mX6_settle.1 ∈ ztb := ztb_in (zc3 (List.mem_of_getElem? (i := 183) rfl)) rfl
set_option maxRecDepth 20000 in
theorem msX6_settle : Cond.selects mX6_settle.1.cls mX6_settle.1 mX6_settle.1 ∈ ztb := ztb_in (zc3 (List.mem_of_getElem? (i := 184) rfl)) rfl
abbrev mX6_forgetChanges : zM := (yX6_forgetChanges, cX6_forgetChanges, 5, none)
set_option maxRecDepth 20000 in
theorem mfX6_forgetChanges : zMf mX6_forgetChanges 0 := ⟨ztb_in (zc3 (List.mem_of_getElem? (i := 189) rfl)) rfl, ztb_in (zc1 (List.mem_of_getElem? (i := 4) rfl)) rfl, ⟨by decide +kernel, by decide +kernel, by decide +kernel⟩, by decide⟩
theorem mpX6_forgetChanges : plainName mX6_forgetChanges.1.cls = true := by decide +kernel
set_option maxRecDepth 20000 in
theorem miX6_forgetChanges : Cond.instanceMethod mX6_forgetChanges.1 ∈ ztb := ztb_in (zc3 (List.mem_of_getElem? (i := 188) rfl)) rfl
set_option maxRecDepth 20000 in
theorem msX6_forgetChanges : Cond.selects mX6_forgetChanges.1.cls mX6_forgetChanges.1 mX6_forgetChanges.1 ∈ ztb := ztb_in (zsel (List.mem_of_getElem? (i := 19) rfl)) rfl
abbrev mX6_workOutDirtyCells : zM := (yX6_workOutDirtyCells, cX6_workOutDirtyCells, 5, none)
set_option maxRecDepth 20000 in
theorem mfX6_workOutDirtyCells : zMf mX6_workOutDirtyCells 0 := ⟨ztb_in (zc3 (List.mem_of_getElem? (i := 193) rfl)) rfl, ztb_in (zc1 (List.mem_of_getElem? (i := 4) rfl)) rfl, ⟨by decide +kernel, by decide +kernel, by decide +kernel⟩, by decide⟩
theorem mpX6_workOutDirtyCells : plainName mX6_workOutDirtyCells.1.cls = true := by decide +kernel
set_option maxRecDepth 20000 in
theorem miX6_workOutDirtyCells : Cond.instanceMethod mX6_workOutDirtyCells.1 ∈ ztb := ztb_in (zc3 (List.mem_of_getElem? (i := 192) rfl)) rfl
set_option maxRecDepth 20000 in
theorem msX6_workOutDirtyCells : Cond.selects mX6_workOutDirtyCells.1.cls mX6_workOutDirtyCells.1 mX6_workOutDirtyCells.1 ∈ ztb := ztb_in (zsel (List.mem_of_getElem? (i := 20) rfl)) rfl
abbrev mX6_valueOf : zM := (yX6_valueOf, cX6_valueOf, 11, (some FieldType.int))
set_option maxRecDepth 20000 in
theorem mfX6_valueOf : zMf mX6_valueOf 1 := ⟨ztb_in (zc3 (List.mem_of_getElem? (i := 197) rfl)) rfl, ztb_in (zc1 (List.mem_of_getElem? (i := 4) rfl)) rfl, ⟨by decide +kernel, by decide +kernel, by decide +kernel⟩, by decide⟩
theorem mpX6_valueOf : plainName mX6_valueOf.1.cls = true := by decide +kernel
set_option maxRecDepth 20000 in
theorem miX6_valueOf : Cond.instanceMethod mX6_valueOf.1 ∈ ztb := ztb_in (zc3 (List.mem_of_getElem? (i := 195) rfl)) rfl
set_option maxRecDepth 20000 in
theorem msX6_valueOf : Cond.selects mX6_valueOf.1.cls mX6_valueOf.1 mX6_valueOf.1 ∈ ztb := ztb_in (zc3 (List.mem_of_getElem? (i := 196) rfl)) rfl
abbrev mX6_valueNamed : zM := (yX6_valueNamed, cX6_valueNamed, 3, (some FieldType.int))
set_option maxRecDepth 20000 in
theorem mfX6_valueNamed : zMf mX6_valueNamed 2 := ⟨ztb_in (zc3 (List.mem_of_getElem? (i := 203) rfl)) rfl, ztb_in (zc1 (List.mem_of_getElem? (i := 4) rfl)) rfl, ⟨by decide +kernel, by decide +kernel, by decide +kernel⟩, by decide⟩
theorem mpX6_valueNamed : plainName mX6_valueNamed.1.cls = true := by decide +kernel
set_option maxRecDepth 20000 in
theorem miX6_valueNamed : Cond.instanceMethod mX6_valueNamed.1 ∈ ztb := ztb_in (zc3 (List.mem_of_getElem? (i := 202) rfl)) rfl
set_option maxRecDepth 20000 in
theorem msX6_valueNamed : Cond.selects mX6_valueNamed.1.cls mX6_valueNamed.1 mX6_valueNamed.1 ∈ ztb := ztb_in (zsel (List.mem_of_getElem? (i := 21) rfl)) rfl
abbrev mX6_cellValue : zM := (yX6_cellValue, cX6_cellValue, 3, (some FieldType.int))
set_option maxRecDepth 20000 in
theorem mfX6_cellValue : zMf mX6_cellValue 2 := ⟨ztb_in (zc3 (List.mem_of_getElem? (i := 207) rfl)) rfl, ztb_in (zc1 (List.mem_of_getElem? (i := 4) rfl)) rfl, ⟨by decide +kernel, by decide +kernel, by decide +kernel⟩, by decide⟩
theorem mpX6_cellValue : plainName mX6_cellValue.1.cls = true := by decide +kernel
set_option maxRecDepth 20000 in
theorem miX6_cellValue : Cond.instanceMethod mX6_cellValue.1 ∈ ztb := ztb_in (zc3 (List.mem_of_getElem? (i := 206) rfl)) rfl
set_option maxRecDepth 20000 in
theorem msX6_cellValue : Cond.selects mX6_cellValue.1.cls mX6_cellValue.1 mX6_cellValue.1 ∈ ztb := ztb_in (zsel (List.mem_of_getElem? (i := 22) rfl)) rfl
abbrev mX6_combine : zM := (yX6_combine, cX6_combine, 4, (some FieldType.long))
set_option maxRecDepth 20000 in
theorem mfX6_combine : zMf mX6_combine 4 := ⟨ztb_in (zc3 (List.mem_of_getElem? (i := 210) rfl)) rfl, ztb_in (zc1 (List.mem_of_getElem? (i := 4) rfl)) rfl, ⟨by decide +kernel, by decide +kernel, by decide +kernel⟩, by decide⟩
theorem mpX6_combine : plainName mX6_combine.1.cls = true := by decide +kernel
set_option maxRecDepth 20000 in
theorem mtX6_combine : Cond.static mX6_combine.1 ∈ ztb := ztb_in (zc3 (List.mem_of_getElem? (i := 209) rfl)) rfl
abbrev mX8_within : zM := (yX8_within, cX8_within, 2, (some FieldType.int))
set_option maxRecDepth 20000 in
theorem mfX8_within : zMf mX8_within 1 := ⟨ztb_in (zc3 (List.mem_of_getElem? (i := 215) rfl)) rfl, ztb_in (zc1 (List.mem_of_getElem? (i := 1) rfl)) rfl, ⟨by decide +kernel, by decide +kernel, by decide +kernel⟩, by decide⟩
theorem mpX8_within : plainName mX8_within.1.cls = true := by decide +kernel
set_option maxRecDepth 20000 in
theorem mtX8_within : Cond.static mX8_within.1 ∈ ztb := ztb_in (zc3 (List.mem_of_getElem? (i := 214) rfl)) rfl
abbrev mX6_lookAtServices : zM := (yX6_lookAtServices, cX6_lookAtServices, 10, (some FieldType.boolean))
set_option maxRecDepth 20000 in
theorem mfX6_lookAtServices : zMf mX6_lookAtServices 1 := ⟨ztb_in (zc3 (List.mem_of_getElem? (i := 227) rfl)) rfl, ztb_in (zc1 (List.mem_of_getElem? (i := 4) rfl)) rfl, ⟨by decide +kernel, by decide +kernel, by decide +kernel⟩, by decide⟩
theorem mpX6_lookAtServices : plainName mX6_lookAtServices.1.cls = true := by decide +kernel
set_option maxRecDepth 20000 in
theorem miX6_lookAtServices : Cond.instanceMethod mX6_lookAtServices.1 ∈ ztb := ztb_in (zc3 (List.mem_of_getElem? (i := 226) rfl)) rfl
set_option maxRecDepth 20000 in
theorem msX6_lookAtServices : Cond.selects mX6_lookAtServices.1.cls mX6_lookAtServices.1 mX6_lookAtServices.1 ∈ ztb := ztb_in (zsel (List.mem_of_getElem? (i := 23) rfl)) rfl
abbrev mX6_nextState : zM := (yX6_nextState, cX6_nextState, 2, (some FieldType.int))
set_option maxRecDepth 20000 in
theorem mfX6_nextState : zMf mX6_nextState 1 := ⟨ztb_in (zc3 (List.mem_of_getElem? (i := 231) rfl)) rfl, ztb_in (zc1 (List.mem_of_getElem? (i := 4) rfl)) rfl, ⟨by decide +kernel, by decide +kernel, by decide +kernel⟩, by decide⟩
theorem mpX6_nextState : plainName mX6_nextState.1.cls = true := by decide +kernel
set_option maxRecDepth 20000 in
theorem miX6_nextState : Cond.instanceMethod mX6_nextState.1 ∈ ztb := ztb_in (zc3 (List.mem_of_getElem? (i := 230) rfl)) rfl
set_option maxRecDepth 20000 in
theorem msX6_nextState : Cond.selects mX6_nextState.1.cls mX6_nextState.1 mX6_nextState.1 ∈ ztb := ztb_in (zsel (List.mem_of_getElem? (i := 24) rfl)) rfl
abbrev mX6_isWanted : zM := (yX6_isWanted, cX6_isWanted, 6, (some FieldType.boolean))
set_option maxRecDepth 20000 in
theorem mfX6_isWanted : zMf mX6_isWanted 1 := ⟨ztb_in (zc3 (List.mem_of_getElem? (i := 235) rfl)) rfl, ztb_in (zc1 (List.mem_of_getElem? (i := 4) rfl)) rfl, ⟨by decide +kernel, by decide +kernel, by decide +kernel⟩, by decide⟩
theorem mpX6_isWanted : plainName mX6_isWanted.1.cls = true := by decide +kernel
set_option maxRecDepth 20000 in
theorem miX6_isWanted : Cond.instanceMethod mX6_isWanted.1 ∈ ztb := ztb_in (zc3 (List.mem_of_getElem? (i := 234) rfl)) rfl
set_option maxRecDepth 20000 in
theorem msX6_isWanted : Cond.selects mX6_isWanted.1.cls mX6_isWanted.1 mX6_isWanted.1 ∈ ztb := ztb_in (zsel (List.mem_of_getElem? (i := 25) rfl)) rfl
abbrev mX6_findStale : zM := (yX6_findStale, cX6_findStale, 6, (some FieldType.int))
set_option maxRecDepth 20000 in
theorem mfX6_findStale : zMf mX6_findStale 0 := ⟨ztb_in (zc3 (List.mem_of_getElem? (i := 239) rfl)) rfl, ztb_in (zc1 (List.mem_of_getElem? (i := 4) rfl)) rfl, ⟨by decide +kernel, by decide +kernel, by decide +kernel⟩, by decide⟩
theorem mpX6_findStale : plainName mX6_findStale.1.cls = true := by decide +kernel
set_option maxRecDepth 20000 in
theorem miX6_findStale : Cond.instanceMethod mX6_findStale.1 ∈ ztb := ztb_in (zc3 (List.mem_of_getElem? (i := 237) rfl)) rfl
set_option maxRecDepth 20000 in
theorem msX6_findStale : Cond.selects mX6_findStale.1.cls mX6_findStale.1 mX6_findStale.1 ∈ ztb := ztb_in (zc3 (List.mem_of_getElem? (i := 238) rfl)) rfl
abbrev mX3_isFresh : zM := (yX3_isFresh, cX3_isFresh, 2, (some FieldType.boolean))
set_option maxRecDepth 20000 in
theorem mfX3_isFresh : zMf mX3_isFresh 1 := ⟨ztb_in (zc4 (List.mem_of_getElem? (i := 3) rfl)) rfl, ztb_in (zc1 (List.mem_of_getElem? (i := 7) rfl)) rfl, ⟨by decide +kernel, by decide +kernel, by decide +kernel⟩, by decide⟩
theorem mpX3_isFresh : plainName mX3_isFresh.1.cls = true := by decide +kernel
set_option maxRecDepth 20000 in
theorem miX3_isFresh : Cond.instanceMethod mX3_isFresh.1 ∈ ztb := ztb_in (zc4 (List.mem_of_getElem? (i := 1) rfl)) rfl
set_option maxRecDepth 20000 in
theorem msX3_isFresh : Cond.selects mX3_isFresh.1.cls mX3_isFresh.1 mX3_isFresh.1 ∈ ztb := ztb_in (zc4 (List.mem_of_getElem? (i := 2) rfl)) rfl
abbrev mX4_isDue : zM := (yX4_isDue, cX4_isDue, 2, (some FieldType.boolean))
set_option maxRecDepth 20000 in
theorem mfX4_isDue : zMf mX4_isDue 1 := ⟨ztb_in (zc4 (List.mem_of_getElem? (i := 7) rfl)) rfl, ztb_in (zc1 (List.mem_of_getElem? (i := 8) rfl)) rfl, ⟨by decide +kernel, by decide +kernel, by decide +kernel⟩, by decide⟩
theorem mpX4_isDue : plainName mX4_isDue.1.cls = true := by decide +kernel
set_option maxRecDepth 20000 in
theorem miX4_isDue : Cond.instanceMethod mX4_isDue.1 ∈ ztb := ztb_in (zc4 (List.mem_of_getElem? (i := 5) rfl)) rfl
set_option maxRecDepth 20000 in
theorem msX4_isDue : Cond.selects mX4_isDue.1.cls mX4_isDue.1 mX4_isDue.1 ∈ ztb := ztb_in (zc4 (List.mem_of_getElem? (i := 6) rfl)) rfl
abbrev mX6_loadRunning : zM := (yX6_loadRunning, cX6_loadRunning, 3, (some FieldType.int))
set_option maxRecDepth 20000 in
theorem mfX6_loadRunning : zMf mX6_loadRunning 1 := ⟨ztb_in (zc4 (List.mem_of_getElem? (i := 11) rfl)) rfl, ztb_in (zc1 (List.mem_of_getElem? (i := 4) rfl)) rfl, ⟨by decide +kernel, by decide +kernel, by decide +kernel⟩, by decide⟩
theorem mpX6_loadRunning : plainName mX6_loadRunning.1.cls = true := by decide +kernel
set_option maxRecDepth 20000 in
theorem miX6_loadRunning : Cond.instanceMethod mX6_loadRunning.1 ∈ ztb := ztb_in (zc4 (List.mem_of_getElem? (i := 10) rfl)) rfl
set_option maxRecDepth 20000 in
theorem msX6_loadRunning : Cond.selects mX6_loadRunning.1.cls mX6_loadRunning.1 mX6_loadRunning.1 ∈ ztb := ztb_in (zsel (List.mem_of_getElem? (i := 26) rfl)) rfl
abbrev mX4_enter : zM := (yX4_enter, cX4_enter, 3, none)
set_option maxRecDepth 20000 in
theorem mfX4_enter : zMf mX4_enter 2 := ⟨ztb_in (zc4 (List.mem_of_getElem? (i := 15) rfl)) rfl, ztb_in (zc1 (List.mem_of_getElem? (i := 8) rfl)) rfl, ⟨by decide +kernel, by decide +kernel, by decide +kernel⟩, by decide⟩
theorem mpX4_enter : plainName mX4_enter.1.cls = true := by decide +kernel
set_option maxRecDepth 20000 in
theorem miX4_enter : Cond.instanceMethod mX4_enter.1 ∈ ztb := ztb_in (zc4 (List.mem_of_getElem? (i := 13) rfl)) rfl
set_option maxRecDepth 20000 in
theorem msX4_enter : Cond.selects mX4_enter.1.cls mX4_enter.1 mX4_enter.1 ∈ ztb := ztb_in (zc4 (List.mem_of_getElem? (i := 14) rfl)) rfl
abbrev mX6_setTold : zM := (yX6_setTold, cX6_setTold, 3, none)
set_option maxRecDepth 20000 in
theorem mfX6_setTold : zMf mX6_setTold 2 := ⟨ztb_in (zc4 (List.mem_of_getElem? (i := 19) rfl)) rfl, ztb_in (zc1 (List.mem_of_getElem? (i := 4) rfl)) rfl, ⟨by decide +kernel, by decide +kernel, by decide +kernel⟩, by decide⟩
theorem mpX6_setTold : plainName mX6_setTold.1.cls = true := by decide +kernel
set_option maxRecDepth 20000 in
theorem miX6_setTold : Cond.instanceMethod mX6_setTold.1 ∈ ztb := ztb_in (zc4 (List.mem_of_getElem? (i := 18) rfl)) rfl
set_option maxRecDepth 20000 in
theorem msX6_setTold : Cond.selects mX6_setTold.1.cls mX6_setTold.1 mX6_setTold.1 ∈ ztb := ztb_in (zsel (List.mem_of_getElem? (i := 27) rfl)) rfl
abbrev mX6_cutLowestOfLateChanges : zM := (yX6_cutLowestOfLateChanges, cX6_cutLowestOfLateChanges, 5, none)
set_option maxRecDepth 20000 in
theorem mfX6_cutLowestOfLateChanges : zMf mX6_cutLowestOfLateChanges 0 := ⟨ztb_in (zc4 (List.mem_of_getElem? (i := 23) rfl)) rfl, ztb_in (zc1 (List.mem_of_getElem? (i := 4) rfl)) rfl, ⟨by decide +kernel, by decide +kernel, by decide +kernel⟩, by decide⟩
theorem mpX6_cutLowestOfLateChanges : plainName mX6_cutLowestOfLateChanges.1.cls = true := by decide +kernel
set_option maxRecDepth 20000 in
theorem miX6_cutLowestOfLateChanges : Cond.instanceMethod mX6_cutLowestOfLateChanges.1 ∈ ztb := ztb_in (zc4 (List.mem_of_getElem? (i := 22) rfl)) rfl
set_option maxRecDepth 20000 in
theorem msX6_cutLowestOfLateChanges : Cond.selects mX6_cutLowestOfLateChanges.1.cls mX6_cutLowestOfLateChanges.1 mX6_cutLowestOfLateChanges.1 ∈ ztb := ztb_in (zsel (List.mem_of_getElem? (i := 28) rfl)) rfl
abbrev mX6_isStartDue : zM := (yX6_isStartDue, cX6_isStartDue, 5, (some FieldType.boolean))
set_option maxRecDepth 20000 in
theorem mfX6_isStartDue : zMf mX6_isStartDue 0 := ⟨ztb_in (zc4 (List.mem_of_getElem? (i := 27) rfl)) rfl, ztb_in (zc1 (List.mem_of_getElem? (i := 4) rfl)) rfl, ⟨by decide +kernel, by decide +kernel, by decide +kernel⟩, by decide⟩
theorem mpX6_isStartDue : plainName mX6_isStartDue.1.cls = true := by decide +kernel
set_option maxRecDepth 20000 in
theorem miX6_isStartDue : Cond.instanceMethod mX6_isStartDue.1 ∈ ztb := ztb_in (zc4 (List.mem_of_getElem? (i := 26) rfl)) rfl
set_option maxRecDepth 20000 in
theorem msX6_isStartDue : Cond.selects mX6_isStartDue.1.cls mX6_isStartDue.1 mX6_isStartDue.1 ∈ ztb := ztb_in (zsel (List.mem_of_getElem? (i := 29) rfl)) rfl
abbrev mX8_hold : zM := (yX8_hold, cX8_hold, 3, (some FieldType.int))
set_option maxRecDepth 20000 in
theorem mfX8_hold : zMf mX8_hold 2 := ⟨ztb_in (zc4 (List.mem_of_getElem? (i := 34) rfl)) rfl, ztb_in (zc1 (List.mem_of_getElem? (i := 1) rfl)) rfl, ⟨by decide +kernel, by decide +kernel, by decide +kernel⟩, by decide⟩
theorem mpX8_hold : plainName mX8_hold.1.cls = true := by decide +kernel
set_option maxRecDepth 20000 in
theorem miX8_hold : Cond.instanceMethod mX8_hold.1 ∈ ztb := ztb_in (zc4 (List.mem_of_getElem? (i := 32) rfl)) rfl
set_option maxRecDepth 20000 in
theorem msX8_hold : Cond.selects mX8_hold.1.cls mX8_hold.1 mX8_hold.1 ∈ ztb := ztb_in (zc4 (List.mem_of_getElem? (i := 33) rfl)) rfl
abbrev mX8_checkNumber : zM := (yX8_checkNumber, cX8_checkNumber, 3, none)
set_option maxRecDepth 20000 in
theorem mfX8_checkNumber : zMf mX8_checkNumber 3 := ⟨ztb_in (zc4 (List.mem_of_getElem? (i := 37) rfl)) rfl, ztb_in (zc1 (List.mem_of_getElem? (i := 1) rfl)) rfl, ⟨by decide +kernel, by decide +kernel, by decide +kernel⟩, by decide⟩
theorem mpX8_checkNumber : plainName mX8_checkNumber.1.cls = true := by decide +kernel
set_option maxRecDepth 20000 in
theorem mtX8_checkNumber : Cond.static mX8_checkNumber.1 ∈ ztb := ztb_in (zc4 (List.mem_of_getElem? (i := 36) rfl)) rfl
abbrev mX8_release : zM := (yX8_release, cX8_release, 2, (some FieldType.int))
set_option maxRecDepth 20000 in
theorem mfX8_release : zMf mX8_release 1 := ⟨ztb_in (zc4 (List.mem_of_getElem? (i := 45) rfl)) rfl, ztb_in (zc1 (List.mem_of_getElem? (i := 1) rfl)) rfl, ⟨by decide +kernel, by decide +kernel, by decide +kernel⟩, by decide⟩
theorem mpX8_release : plainName mX8_release.1.cls = true := by decide +kernel
set_option maxRecDepth 20000 in
theorem miX8_release : Cond.instanceMethod mX8_release.1 ∈ ztb := ztb_in (zc4 (List.mem_of_getElem? (i := 43) rfl)) rfl
set_option maxRecDepth 20000 in
theorem msX8_release : Cond.selects mX8_release.1.cls mX8_release.1 mX8_release.1 ∈ ztb := ztb_in (zc4 (List.mem_of_getElem? (i := 44) rfl)) rfl
abbrev mX8_read : zM := (yX8_read, cX8_read, 3, (some FieldType.int))
set_option maxRecDepth 20000 in
theorem mfX8_read : zMf mX8_read 2 := ⟨ztb_in (zc4 (List.mem_of_getElem? (i := 53) rfl)) rfl, ztb_in (zc1 (List.mem_of_getElem? (i := 1) rfl)) rfl, ⟨by decide +kernel, by decide +kernel, by decide +kernel⟩, by decide⟩
theorem mpX8_read : plainName mX8_read.1.cls = true := by decide +kernel
set_option maxRecDepth 20000 in
theorem miX8_read : Cond.instanceMethod mX8_read.1 ∈ ztb := ztb_in (zc4 (List.mem_of_getElem? (i := 51) rfl)) rfl
set_option maxRecDepth 20000 in
theorem msX8_read : Cond.selects mX8_read.1.cls mX8_read.1 mX8_read.1 ∈ ztb := ztb_in (zc4 (List.mem_of_getElem? (i := 52) rfl)) rfl
abbrev mX8_control : zM := (yX8_control, cX8_control, 3, (some FieldType.int))
set_option maxRecDepth 20000 in
theorem mfX8_control : zMf mX8_control 2 := ⟨ztb_in (zc4 (List.mem_of_getElem? (i := 60) rfl)) rfl, ztb_in (zc1 (List.mem_of_getElem? (i := 1) rfl)) rfl, ⟨by decide +kernel, by decide +kernel, by decide +kernel⟩, by decide⟩
theorem mpX8_control : plainName mX8_control.1.cls = true := by decide +kernel
set_option maxRecDepth 20000 in
theorem miX8_control : Cond.instanceMethod mX8_control.1 ∈ ztb := ztb_in (zc4 (List.mem_of_getElem? (i := 58) rfl)) rfl
set_option maxRecDepth 20000 in
theorem msX8_control : Cond.selects mX8_control.1.cls mX8_control.1 mX8_control.1 ∈ ztb := ztb_in (zc4 (List.mem_of_getElem? (i := 59) rfl)) rfl
abbrev mX8_checkService : zM := (yX8_checkService, cX8_checkService, 1, none)
set_option maxRecDepth 20000 in
theorem mfX8_checkService : zMf mX8_checkService 1 := ⟨ztb_in (zc4 (List.mem_of_getElem? (i := 63) rfl)) rfl, ztb_in (zc1 (List.mem_of_getElem? (i := 1) rfl)) rfl, ⟨by decide +kernel, by decide +kernel, by decide +kernel⟩, by decide⟩
theorem mpX8_checkService : plainName mX8_checkService.1.cls = true := by decide +kernel
set_option maxRecDepth 20000 in
theorem mtX8_checkService : Cond.static mX8_checkService.1 ∈ ztb := ztb_in (zc4 (List.mem_of_getElem? (i := 62) rfl)) rfl
abbrev mX8_checkCellOrNone : zM := (yX8_checkCellOrNone, cX8_checkCellOrNone, 1, none)
set_option maxRecDepth 20000 in
theorem mfX8_checkCellOrNone : zMf mX8_checkCellOrNone 1 := ⟨ztb_in (zc4 (List.mem_of_getElem? (i := 66) rfl)) rfl, ztb_in (zc1 (List.mem_of_getElem? (i := 1) rfl)) rfl, ⟨by decide +kernel, by decide +kernel, by decide +kernel⟩, by decide⟩
theorem mpX8_checkCellOrNone : plainName mX8_checkCellOrNone.1.cls = true := by decide +kernel
set_option maxRecDepth 20000 in
theorem mtX8_checkCellOrNone : Cond.static mX8_checkCellOrNone.1 ∈ ztb := ztb_in (zc4 (List.mem_of_getElem? (i := 65) rfl)) rfl
abbrev mX8_limit : zM := (yX8_limit, cX8_limit, 3, (some FieldType.int))
set_option maxRecDepth 20000 in
theorem mfX8_limit : zMf mX8_limit 2 := ⟨ztb_in (zc4 (List.mem_of_getElem? (i := 73) rfl)) rfl, ztb_in (zc1 (List.mem_of_getElem? (i := 1) rfl)) rfl, ⟨by decide +kernel, by decide +kernel, by decide +kernel⟩, by decide⟩
theorem mpX8_limit : plainName mX8_limit.1.cls = true := by decide +kernel
set_option maxRecDepth 20000 in
theorem miX8_limit : Cond.instanceMethod mX8_limit.1 ∈ ztb := ztb_in (zc4 (List.mem_of_getElem? (i := 71) rfl)) rfl
set_option maxRecDepth 20000 in
theorem msX8_limit : Cond.selects mX8_limit.1.cls mX8_limit.1 mX8_limit.1 ∈ ztb := ztb_in (zc4 (List.mem_of_getElem? (i := 72) rfl)) rfl
abbrev mX8_demand : zM := (yX8_demand, cX8_demand, 4, (some FieldType.int))
set_option maxRecDepth 20000 in
theorem mfX8_demand : zMf mX8_demand 3 := ⟨ztb_in (zc4 (List.mem_of_getElem? (i := 80) rfl)) rfl, ztb_in (zc1 (List.mem_of_getElem? (i := 1) rfl)) rfl, ⟨by decide +kernel, by decide +kernel, by decide +kernel⟩, by decide⟩
theorem mpX8_demand : plainName mX8_demand.1.cls = true := by decide +kernel
set_option maxRecDepth 20000 in
theorem miX8_demand : Cond.instanceMethod mX8_demand.1 ∈ ztb := ztb_in (zc4 (List.mem_of_getElem? (i := 78) rfl)) rfl
set_option maxRecDepth 20000 in
theorem msX8_demand : Cond.selects mX8_demand.1.cls mX8_demand.1 mX8_demand.1 ∈ ztb := ztb_in (zc4 (List.mem_of_getElem? (i := 79) rfl)) rfl
abbrev mX8_need : zM := (yX8_need, cX8_need, 4, (some FieldType.int))
set_option maxRecDepth 20000 in
theorem mfX8_need : zMf mX8_need 3 := ⟨ztb_in (zc4 (List.mem_of_getElem? (i := 87) rfl)) rfl, ztb_in (zc1 (List.mem_of_getElem? (i := 1) rfl)) rfl, ⟨by decide +kernel, by decide +kernel, by decide +kernel⟩, by decide⟩
theorem mpX8_need : plainName mX8_need.1.cls = true := by decide +kernel
set_option maxRecDepth 20000 in
theorem miX8_need : Cond.instanceMethod mX8_need.1 ∈ ztb := ztb_in (zc4 (List.mem_of_getElem? (i := 85) rfl)) rfl
set_option maxRecDepth 20000 in
theorem msX8_need : Cond.selects mX8_need.1.cls mX8_need.1 mX8_need.1 ∈ ztb := ztb_in (zc4 (List.mem_of_getElem? (i := 86) rfl)) rfl
abbrev mX8_lie : zM := (yX8_lie, cX8_lie, 3, (some FieldType.int))
set_option maxRecDepth 20000 in
theorem mfX8_lie : zMf mX8_lie 2 := ⟨ztb_in (zc4 (List.mem_of_getElem? (i := 95) rfl)) rfl, ztb_in (zc1 (List.mem_of_getElem? (i := 1) rfl)) rfl, ⟨by decide +kernel, by decide +kernel, by decide +kernel⟩, by decide⟩
theorem mpX8_lie : plainName mX8_lie.1.cls = true := by decide +kernel
set_option maxRecDepth 20000 in
theorem miX8_lie : Cond.instanceMethod mX8_lie.1 ∈ ztb := ztb_in (zc4 (List.mem_of_getElem? (i := 93) rfl)) rfl
set_option maxRecDepth 20000 in
theorem msX8_lie : Cond.selects mX8_lie.1.cls mX8_lie.1 mX8_lie.1 ∈ ztb := ztb_in (zc4 (List.mem_of_getElem? (i := 94) rfl)) rfl
abbrev mX8_mend : zM := (yX8_mend, cX8_mend, 2, (some FieldType.int))
set_option maxRecDepth 20000 in
theorem mfX8_mend : zMf mX8_mend 1 := ⟨ztb_in (zc4 (List.mem_of_getElem? (i := 102) rfl)) rfl, ztb_in (zc1 (List.mem_of_getElem? (i := 1) rfl)) rfl, ⟨by decide +kernel, by decide +kernel, by decide +kernel⟩, by decide⟩
theorem mpX8_mend : plainName mX8_mend.1.cls = true := by decide +kernel
set_option maxRecDepth 20000 in
theorem miX8_mend : Cond.instanceMethod mX8_mend.1 ∈ ztb := ztb_in (zc4 (List.mem_of_getElem? (i := 100) rfl)) rfl
set_option maxRecDepth 20000 in
theorem msX8_mend : Cond.selects mX8_mend.1.cls mX8_mend.1 mX8_mend.1 ∈ ztb := ztb_in (zc4 (List.mem_of_getElem? (i := 101) rfl)) rfl
abbrev mX8_tick : zM := (yX8_tick, cX8_tick, 2, (some FieldType.int))
set_option maxRecDepth 20000 in
theorem mfX8_tick : zMf mX8_tick 1 := ⟨ztb_in (zc4 (List.mem_of_getElem? (i := 110) rfl)) rfl, ztb_in (zc1 (List.mem_of_getElem? (i := 1) rfl)) rfl, ⟨by decide +kernel, by decide +kernel, by decide +kernel⟩, by decide⟩
theorem mpX8_tick : plainName mX8_tick.1.cls = true := by decide +kernel
set_option maxRecDepth 20000 in
theorem miX8_tick : Cond.instanceMethod mX8_tick.1 ∈ ztb := ztb_in (zc4 (List.mem_of_getElem? (i := 108) rfl)) rfl
set_option maxRecDepth 20000 in
theorem msX8_tick : Cond.selects mX8_tick.1.cls mX8_tick.1 mX8_tick.1 ∈ ztb := ztb_in (zc4 (List.mem_of_getElem? (i := 109) rfl)) rfl
abbrev mX8_undo : zM := (yX8_undo, cX8_undo, 1, (some FieldType.int))
set_option maxRecDepth 20000 in
theorem mfX8_undo : zMf mX8_undo 0 := ⟨ztb_in (zc4 (List.mem_of_getElem? (i := 118) rfl)) rfl, ztb_in (zc1 (List.mem_of_getElem? (i := 1) rfl)) rfl, ⟨by decide +kernel, by decide +kernel, by decide +kernel⟩, by decide⟩
theorem mpX8_undo : plainName mX8_undo.1.cls = true := by decide +kernel
set_option maxRecDepth 20000 in
theorem miX8_undo : Cond.instanceMethod mX8_undo.1 ∈ ztb := ztb_in (zc4 (List.mem_of_getElem? (i := 116) rfl)) rfl
set_option maxRecDepth 20000 in
theorem msX8_undo : Cond.selects mX8_undo.1.cls mX8_undo.1 mX8_undo.1 ∈ ztb := ztb_in (zc4 (List.mem_of_getElem? (i := 117) rfl)) rfl
abbrev mX8_tellAnew : zM := (yX8_tellAnew, cX8_tellAnew, 4, none)
set_option maxRecDepth 20000 in
theorem mfX8_tellAnew : zMf mX8_tellAnew 1 := ⟨ztb_in (zc4 (List.mem_of_getElem? (i := 123) rfl)) rfl, ztb_in (zc1 (List.mem_of_getElem? (i := 1) rfl)) rfl, ⟨by decide +kernel, by decide +kernel, by decide +kernel⟩, by decide⟩
theorem mpX8_tellAnew : plainName mX8_tellAnew.1.cls = true := by decide +kernel
set_option maxRecDepth 20000 in
theorem miX8_tellAnew : Cond.instanceMethod mX8_tellAnew.1 ∈ ztb := ztb_in (zc4 (List.mem_of_getElem? (i := 122) rfl)) rfl
set_option maxRecDepth 20000 in
theorem msX8_tellAnew : Cond.selects mX8_tellAnew.1.cls mX8_tellAnew.1 mX8_tellAnew.1 ∈ ztb := ztb_in (zsel (List.mem_of_getElem? (i := 30) rfl)) rfl
abbrev mX6_clear : zM := (yX6_clear, cX6_clear, 5, none)
set_option maxRecDepth 20000 in
theorem mfX6_clear : zMf mX6_clear 0 := ⟨ztb_in (zc4 (List.mem_of_getElem? (i := 127) rfl)) rfl, ztb_in (zc1 (List.mem_of_getElem? (i := 4) rfl)) rfl, ⟨by decide +kernel, by decide +kernel, by decide +kernel⟩, by decide⟩
theorem mpX6_clear : plainName mX6_clear.1.cls = true := by decide +kernel
set_option maxRecDepth 20000 in
theorem miX6_clear : Cond.instanceMethod mX6_clear.1 ∈ ztb := ztb_in (zc4 (List.mem_of_getElem? (i := 125) rfl)) rfl
set_option maxRecDepth 20000 in
theorem msX6_clear : Cond.selects mX6_clear.1.cls mX6_clear.1 mX6_clear.1 ∈ ztb := ztb_in (zc4 (List.mem_of_getElem? (i := 126) rfl)) rfl
abbrev mX4_clear : zM := (yX4_clear, cX4_clear, 1, none)
set_option maxRecDepth 20000 in
theorem mfX4_clear : zMf mX4_clear 0 := ⟨ztb_in (zc4 (List.mem_of_getElem? (i := 131) rfl)) rfl, ztb_in (zc1 (List.mem_of_getElem? (i := 8) rfl)) rfl, ⟨by decide +kernel, by decide +kernel, by decide +kernel⟩, by decide⟩
theorem mpX4_clear : plainName mX4_clear.1.cls = true := by decide +kernel
set_option maxRecDepth 20000 in
theorem miX4_clear : Cond.instanceMethod mX4_clear.1 ∈ ztb := ztb_in (zc4 (List.mem_of_getElem? (i := 129) rfl)) rfl
set_option maxRecDepth 20000 in
theorem msX4_clear : Cond.selects mX4_clear.1.cls mX4_clear.1 mX4_clear.1 ∈ ztb := ztb_in (zc4 (List.mem_of_getElem? (i := 130) rfl)) rfl
abbrev mX8_value : zM := (yX8_value, cX8_value, 2, (some FieldType.int))
set_option maxRecDepth 20000 in
theorem mfX8_value : zMf mX8_value 1 := ⟨ztb_in (zc4 (List.mem_of_getElem? (i := 138) rfl)) rfl, ztb_in (zc1 (List.mem_of_getElem? (i := 1) rfl)) rfl, ⟨by decide +kernel, by decide +kernel, by decide +kernel⟩, by decide⟩
theorem mpX8_value : plainName mX8_value.1.cls = true := by decide +kernel
set_option maxRecDepth 20000 in
theorem miX8_value : Cond.instanceMethod mX8_value.1 ∈ ztb := ztb_in (zc4 (List.mem_of_getElem? (i := 136) rfl)) rfl
set_option maxRecDepth 20000 in
theorem msX8_value : Cond.selects mX8_value.1.cls mX8_value.1 mX8_value.1 ∈ ztb := ztb_in (zc4 (List.mem_of_getElem? (i := 137) rfl)) rfl
abbrev mX8_valueAnew : zM := (yX8_valueAnew, cX8_valueAnew, 2, (some FieldType.int))
set_option maxRecDepth 20000 in
theorem mfX8_valueAnew : zMf mX8_valueAnew 1 := ⟨ztb_in (zc4 (List.mem_of_getElem? (i := 145) rfl)) rfl, ztb_in (zc1 (List.mem_of_getElem? (i := 1) rfl)) rfl, ⟨by decide +kernel, by decide +kernel, by decide +kernel⟩, by decide⟩
theorem mpX8_valueAnew : plainName mX8_valueAnew.1.cls = true := by decide +kernel
set_option maxRecDepth 20000 in
theorem miX8_valueAnew : Cond.instanceMethod mX8_valueAnew.1 ∈ ztb := ztb_in (zc4 (List.mem_of_getElem? (i := 143) rfl)) rfl
set_option maxRecDepth 20000 in
theorem msX8_valueAnew : Cond.selects mX8_valueAnew.1.cls mX8_valueAnew.1 mX8_valueAnew.1 ∈ ztb := ztb_in (zc4 (List.mem_of_getElem? (i := 144) rfl)) rfl
abbrev mX8_worth : zM := (yX8_worth, cX8_worth, 2, (some FieldType.int))
set_option maxRecDepth 20000 in
theorem mfX8_worth : zMf mX8_worth 1 := ⟨ztb_in (zc4 (List.mem_of_getElem? (i := 152) rfl)) rfl, ztb_in (zc1 (List.mem_of_getElem? (i := 1) rfl)) rfl, ⟨by decide +kernel, by decide +kernel, by decide +kernel⟩, by decide⟩
theorem mpX8_worth : plainName mX8_worth.1.cls = true := by decide +kernel
set_option maxRecDepth 20000 in
theorem miX8_worth : Cond.instanceMethod mX8_worth.1 ∈ ztb := ztb_in (zc4 (List.mem_of_getElem? (i := 150) rfl)) rfl
set_option maxRecDepth 20000 in
theorem msX8_worth : Cond.selects mX8_worth.1.cls mX8_worth.1 mX8_worth.1 ∈ ztb := ztb_in (zc4 (List.mem_of_getElem? (i := 151) rfl)) rfl
abbrev mX8_depth : zM := (yX8_depth, cX8_depth, 2, (some FieldType.int))
set_option maxRecDepth 20000 in
theorem mfX8_depth : zMf mX8_depth 1 := ⟨ztb_in (zc4 (List.mem_of_getElem? (i := 160) rfl)) rfl, ztb_in (zc1 (List.mem_of_getElem? (i := 1) rfl)) rfl, ⟨by decide +kernel, by decide +kernel, by decide +kernel⟩, by decide⟩
theorem mpX8_depth : plainName mX8_depth.1.cls = true := by decide +kernel
set_option maxRecDepth 20000 in
theorem miX8_depth : Cond.instanceMethod mX8_depth.1 ∈ ztb := ztb_in (zc4 (List.mem_of_getElem? (i := 158) rfl)) rfl
set_option maxRecDepth 20000 in
theorem msX8_depth : Cond.selects mX8_depth.1.cls mX8_depth.1 mX8_depth.1 ∈ ztb := ztb_in (zc4 (List.mem_of_getElem? (i := 159) rfl)) rfl
abbrev mX8_isStale : zM := (yX8_isStale, cX8_isStale, 2, (some FieldType.boolean))
set_option maxRecDepth 20000 in
theorem mfX8_isStale : zMf mX8_isStale 1 := ⟨ztb_in (zc4 (List.mem_of_getElem? (i := 167) rfl)) rfl, ztb_in (zc1 (List.mem_of_getElem? (i := 1) rfl)) rfl, ⟨by decide +kernel, by decide +kernel, by decide +kernel⟩, by decide⟩
theorem mpX8_isStale : plainName mX8_isStale.1.cls = true := by decide +kernel
set_option maxRecDepth 20000 in
theorem miX8_isStale : Cond.instanceMethod mX8_isStale.1 ∈ ztb := ztb_in (zc4 (List.mem_of_getElem? (i := 165) rfl)) rfl
set_option maxRecDepth 20000 in
theorem msX8_isStale : Cond.selects mX8_isStale.1.cls mX8_isStale.1 mX8_isStale.1 ∈ ztb := ztb_in (zc4 (List.mem_of_getElem? (i := 166) rfl)) rfl
abbrev mX8_state : zM := (yX8_state, cX8_state, 2, (some FieldType.int))
set_option maxRecDepth 20000 in
theorem mfX8_state : zMf mX8_state 1 := ⟨ztb_in (zc4 (List.mem_of_getElem? (i := 175) rfl)) rfl, ztb_in (zc1 (List.mem_of_getElem? (i := 1) rfl)) rfl, ⟨by decide +kernel, by decide +kernel, by decide +kernel⟩, by decide⟩
theorem mpX8_state : plainName mX8_state.1.cls = true := by decide +kernel
set_option maxRecDepth 20000 in
theorem miX8_state : Cond.instanceMethod mX8_state.1 ∈ ztb := ztb_in (zc4 (List.mem_of_getElem? (i := 173) rfl)) rfl
set_option maxRecDepth 20000 in
theorem msX8_state : Cond.selects mX8_state.1.cls mX8_state.1 mX8_state.1 ∈ ztb := ztb_in (zc4 (List.mem_of_getElem? (i := 174) rfl)) rfl
abbrev mX8_load : zM := (yX8_load, cX8_load, 2, (some FieldType.int))
set_option maxRecDepth 20000 in
theorem mfX8_load : zMf mX8_load 1 := ⟨ztb_in (zc4 (List.mem_of_getElem? (i := 182) rfl)) rfl, ztb_in (zc1 (List.mem_of_getElem? (i := 1) rfl)) rfl, ⟨by decide +kernel, by decide +kernel, by decide +kernel⟩, by decide⟩
theorem mpX8_load : plainName mX8_load.1.cls = true := by decide +kernel
set_option maxRecDepth 20000 in
theorem miX8_load : Cond.instanceMethod mX8_load.1 ∈ ztb := ztb_in (zc4 (List.mem_of_getElem? (i := 180) rfl)) rfl
set_option maxRecDepth 20000 in
theorem msX8_load : Cond.selects mX8_load.1.cls mX8_load.1 mX8_load.1 ∈ ztb := ztb_in (zc4 (List.mem_of_getElem? (i := 181) rfl)) rfl
abbrev mX8_told : zM := (yX8_told, cX8_told, 2, (some FieldType.int))
set_option maxRecDepth 20000 in
theorem mfX8_told : zMf mX8_told 1 := ⟨ztb_in (zc4 (List.mem_of_getElem? (i := 189) rfl)) rfl, ztb_in (zc1 (List.mem_of_getElem? (i := 1) rfl)) rfl, ⟨by decide +kernel, by decide +kernel, by decide +kernel⟩, by decide⟩
theorem mpX8_told : plainName mX8_told.1.cls = true := by decide +kernel
set_option maxRecDepth 20000 in
theorem miX8_told : Cond.instanceMethod mX8_told.1 ∈ ztb := ztb_in (zc4 (List.mem_of_getElem? (i := 187) rfl)) rfl
set_option maxRecDepth 20000 in
theorem msX8_told : Cond.selects mX8_told.1.cls mX8_told.1 mX8_told.1 ∈ ztb := ztb_in (zc4 (List.mem_of_getElem? (i := 188) rfl)) rfl
abbrev mX8_starts : zM := (yX8_starts, cX8_starts, 2, (some FieldType.int))
set_option maxRecDepth 20000 in
theorem mfX8_starts : zMf mX8_starts 1 := ⟨ztb_in (zc4 (List.mem_of_getElem? (i := 196) rfl)) rfl, ztb_in (zc1 (List.mem_of_getElem? (i := 1) rfl)) rfl, ⟨by decide +kernel, by decide +kernel, by decide +kernel⟩, by decide⟩
theorem mpX8_starts : plainName mX8_starts.1.cls = true := by decide +kernel
set_option maxRecDepth 20000 in
theorem miX8_starts : Cond.instanceMethod mX8_starts.1 ∈ ztb := ztb_in (zc4 (List.mem_of_getElem? (i := 194) rfl)) rfl
set_option maxRecDepth 20000 in
theorem msX8_starts : Cond.selects mX8_starts.1.cls mX8_starts.1 mX8_starts.1 ∈ ztb := ztb_in (zc4 (List.mem_of_getElem? (i := 195) rfl)) rfl
abbrev mX8_trial : zM := (yX8_trial, cX8_trial, 3, (some FieldType.int))
set_option maxRecDepth 20000 in
theorem mfX8_trial : zMf mX8_trial 1 := ⟨ztb_in (zc4 (List.mem_of_getElem? (i := 203) rfl)) rfl, ztb_in (zc1 (List.mem_of_getElem? (i := 1) rfl)) rfl, ⟨by decide +kernel, by decide +kernel, by decide +kernel⟩, by decide⟩
theorem mpX8_trial : plainName mX8_trial.1.cls = true := by decide +kernel
set_option maxRecDepth 20000 in
theorem miX8_trial : Cond.instanceMethod mX8_trial.1 ∈ ztb := ztb_in (zc4 (List.mem_of_getElem? (i := 201) rfl)) rfl
set_option maxRecDepth 20000 in
theorem msX8_trial : Cond.selects mX8_trial.1.cls mX8_trial.1 mX8_trial.1 ∈ ztb := ztb_in (zc4 (List.mem_of_getElem? (i := 202) rfl)) rfl
abbrev mX6_takeSettings : zM := (yX6_takeSettings, cX6_takeSettings, 6, none)
set_option maxRecDepth 20000 in
theorem mfX6_takeSettings : zMf mX6_takeSettings 2 := ⟨ztb_in (zc4 (List.mem_of_getElem? (i := 208) rfl)) rfl, ztb_in (zc1 (List.mem_of_getElem? (i := 4) rfl)) rfl, ⟨by decide +kernel, by decide +kernel, by decide +kernel⟩, by decide⟩
theorem mpX6_takeSettings : plainName mX6_takeSettings.1.cls = true := by decide +kernel
set_option maxRecDepth 20000 in
theorem miX6_takeSettings : Cond.instanceMethod mX6_takeSettings.1 ∈ ztb := ztb_in (zc4 (List.mem_of_getElem? (i := 206) rfl)) rfl
set_option maxRecDepth 20000 in
theorem msX6_takeSettings : Cond.selects mX6_takeSettings.1.cls mX6_takeSettings.1 mX6_takeSettings.1 ∈ ztb := ztb_in (zc4 (List.mem_of_getElem? (i := 207) rfl)) rfl
abbrev mX4_takeSettings : zM := (yX4_takeSettings, cX4_takeSettings, 2, none)
set_option maxRecDepth 20000 in
theorem mfX4_takeSettings : zMf mX4_takeSettings 1 := ⟨ztb_in (zc4 (List.mem_of_getElem? (i := 213) rfl)) rfl, ztb_in (zc1 (List.mem_of_getElem? (i := 8) rfl)) rfl, ⟨by decide +kernel, by decide +kernel, by decide +kernel⟩, by decide⟩
theorem mpX4_takeSettings : plainName mX4_takeSettings.1.cls = true := by decide +kernel
set_option maxRecDepth 20000 in
theorem miX4_takeSettings : Cond.instanceMethod mX4_takeSettings.1 ∈ ztb := ztb_in (zc4 (List.mem_of_getElem? (i := 211) rfl)) rfl
set_option maxRecDepth 20000 in
theorem msX4_takeSettings : Cond.selects mX4_takeSettings.1.cls mX4_takeSettings.1 mX4_takeSettings.1 ∈ ztb := ztb_in (zc4 (List.mem_of_getElem? (i := 212) rfl)) rfl
abbrev mX8_tellReadingsOfTick : zM := (yX8_tellReadingsOfTick, cX8_tellReadingsOfTick, 4, none)
set_option maxRecDepth 20000 in
theorem mfX8_tellReadingsOfTick : zMf mX8_tellReadingsOfTick 1 := ⟨ztb_in (zc4 (List.mem_of_getElem? (i := 218) rfl)) rfl, ztb_in (zc1 (List.mem_of_getElem? (i := 1) rfl)) rfl, ⟨by decide +kernel, by decide +kernel, by decide +kernel⟩, by decide⟩
theorem mpX8_tellReadingsOfTick : plainName mX8_tellReadingsOfTick.1.cls = true := by decide +kernel
set_option maxRecDepth 20000 in
theorem miX8_tellReadingsOfTick : Cond.instanceMethod mX8_tellReadingsOfTick.1 ∈ ztb := ztb_in (zc4 (List.mem_of_getElem? (i := 217) rfl)) rfl
set_option maxRecDepth 20000 in
theorem msX8_tellReadingsOfTick : Cond.selects mX8_tellReadingsOfTick.1.cls mX8_tellReadingsOfTick.1 mX8_tellReadingsOfTick.1 ∈ ztb := ztb_in (zsel (List.mem_of_getElem? (i := 31) rfl)) rfl
abbrev mX8_isLoop : zM := (yX8_isLoop, cX8_isLoop, 2, (some FieldType.boolean))
set_option maxRecDepth 20000 in
theorem mfX8_isLoop : zMf mX8_isLoop 1 := ⟨ztb_in (zc4 (List.mem_of_getElem? (i := 225) rfl)) rfl, ztb_in (zc1 (List.mem_of_getElem? (i := 1) rfl)) rfl, ⟨by decide +kernel, by decide +kernel, by decide +kernel⟩, by decide⟩
theorem mpX8_isLoop : plainName mX8_isLoop.1.cls = true := by decide +kernel
set_option maxRecDepth 20000 in
theorem miX8_isLoop : Cond.instanceMethod mX8_isLoop.1 ∈ ztb := ztb_in (zc4 (List.mem_of_getElem? (i := 223) rfl)) rfl
set_option maxRecDepth 20000 in
theorem msX8_isLoop : Cond.selects mX8_isLoop.1.cls mX8_isLoop.1 mX8_isLoop.1 ∈ ztb := ztb_in (zc4 (List.mem_of_getElem? (i := 224) rfl)) rfl
abbrev mX6_hangsOnItself : zM := (yX6_hangsOnItself, cX6_hangsOnItself, 9, (some FieldType.boolean))
set_option maxRecDepth 20000 in
theorem mfX6_hangsOnItself : zMf mX6_hangsOnItself 1 := ⟨ztb_in (zc4 (List.mem_of_getElem? (i := 229) rfl)) rfl, ztb_in (zc1 (List.mem_of_getElem? (i := 4) rfl)) rfl, ⟨by decide +kernel, by decide +kernel, by decide +kernel⟩, by decide⟩
theorem mpX6_hangsOnItself : plainName mX6_hangsOnItself.1.cls = true := by decide +kernel
set_option maxRecDepth 20000 in
theorem miX6_hangsOnItself : Cond.instanceMethod mX6_hangsOnItself.1 ∈ ztb := ztb_in (zc4 (List.mem_of_getElem? (i := 227) rfl)) rfl
set_option maxRecDepth 20000 in
theorem msX6_hangsOnItself : Cond.selects mX6_hangsOnItself.1.cls mX6_hangsOnItself.1 mX6_hangsOnItself.1 ∈ ztb := ztb_in (zc4 (List.mem_of_getElem? (i := 228) rfl)) rfl
abbrev mX6_servicesUnder : zM := (yX6_servicesUnder, cX6_servicesUnder, 3, (some FieldType.int))
set_option maxRecDepth 20000 in
theorem mfX6_servicesUnder : zMf mX6_servicesUnder 1 := ⟨ztb_in (zc4 (List.mem_of_getElem? (i := 233) rfl)) rfl, ztb_in (zc1 (List.mem_of_getElem? (i := 4) rfl)) rfl, ⟨by decide +kernel, by decide +kernel, by decide +kernel⟩, by decide⟩
theorem mpX6_servicesUnder : plainName mX6_servicesUnder.1.cls = true := by decide +kernel
set_option maxRecDepth 20000 in
theorem miX6_servicesUnder : Cond.instanceMethod mX6_servicesUnder.1 ∈ ztb := ztb_in (zc4 (List.mem_of_getElem? (i := 232) rfl)) rfl
set_option maxRecDepth 20000 in
theorem msX6_servicesUnder : Cond.selects mX6_servicesUnder.1.cls mX6_servicesUnder.1 mX6_servicesUnder.1 ∈ ztb := ztb_in (zsel (List.mem_of_getElem? (i := 32) rfl)) rfl
abbrev mX9_init : zM := (yX9_init, cX9_init, 1, none)
set_option maxRecDepth 20000 in
theorem mfX9_init : zMf mX9_init 0 := ⟨ztb_in (zc4 (List.mem_of_getElem? (i := 239) rfl)) rfl, ztb_in (zc1 (List.mem_of_getElem? (i := 10) rfl)) rfl, ⟨by decide +kernel, by decide +kernel, by decide +kernel⟩, by decide⟩
theorem mpX9_init : plainName mX9_init.1.cls = true := by decide +kernel
set_option maxRecDepth 20000 in
theorem miX9_init : Cond.instanceMethod mX9_init.1 ∈ ztb := ztb_in (zc4 (List.mem_of_getElem? (i := 238) rfl)) rfl
abbrev mX9_begins : zM := (yX9_begins, cX9_begins, 2, none)
set_option maxRecDepth 20000 in
theorem mfX9_begins : zMf mX9_begins 0 := ⟨ztb_in (zc5 (List.mem_of_getElem? (i := 4) rfl)) rfl, ztb_in (zc1 (List.mem_of_getElem? (i := 10) rfl)) rfl, ⟨by decide +kernel, by decide +kernel, by decide +kernel⟩, by decide⟩
theorem mpX9_begins : plainName mX9_begins.1.cls = true := by decide +kernel
set_option maxRecDepth 20000 in
theorem miX9_begins : Cond.instanceMethod mX9_begins.1 ∈ ztb := ztb_in (zc5 (List.mem_of_getElem? (i := 3) rfl)) rfl
set_option maxRecDepth 20000 in
theorem msX9_begins : Cond.selects mX9_begins.1.cls mX9_begins.1 mX9_begins.1 ∈ ztb := ztb_in (zsel (List.mem_of_getElem? (i := 33) rfl)) rfl
abbrev mX9_clears : zM := (yX9_clears, cX9_clears, 2, none)
set_option maxRecDepth 20000 in
theorem mfX9_clears : zMf mX9_clears 0 := ⟨ztb_in (zc5 (List.mem_of_getElem? (i := 8) rfl)) rfl, ztb_in (zc1 (List.mem_of_getElem? (i := 10) rfl)) rfl, ⟨by decide +kernel, by decide +kernel, by decide +kernel⟩, by decide⟩
theorem mpX9_clears : plainName mX9_clears.1.cls = true := by decide +kernel
set_option maxRecDepth 20000 in
theorem miX9_clears : Cond.instanceMethod mX9_clears.1 ∈ ztb := ztb_in (zc5 (List.mem_of_getElem? (i := 7) rfl)) rfl
set_option maxRecDepth 20000 in
theorem msX9_clears : Cond.selects mX9_clears.1.cls mX9_clears.1 mX9_clears.1 ∈ ztb := ztb_in (zsel (List.mem_of_getElem? (i := 34) rfl)) rfl
abbrev mX9_thrown : zM := (yX9_thrown, cX9_thrown, 1, (some FieldType.int))
set_option maxRecDepth 20000 in
theorem mfX9_thrown : zMf mX9_thrown 0 := ⟨ztb_in (zc5 (List.mem_of_getElem? (i := 153) rfl)) rfl, ztb_in (zc1 (List.mem_of_getElem? (i := 10) rfl)) rfl, ⟨by decide +kernel, by decide +kernel, by decide +kernel⟩, by decide⟩
theorem mpX9_thrown : plainName mX9_thrown.1.cls = true := by decide +kernel
set_option maxRecDepth 20000 in
theorem miX9_thrown : Cond.instanceMethod mX9_thrown.1 ∈ ztb := ztb_in (zc5 (List.mem_of_getElem? (i := 151) rfl)) rfl
set_option maxRecDepth 20000 in
theorem msX9_thrown : Cond.selects mX9_thrown.1.cls mX9_thrown.1 mX9_thrown.1 ∈ ztb := ztb_in (zc5 (List.mem_of_getElem? (i := 152) rfl)) rfl
abbrev mX9_type : zM := (yX9_type, cX9_type, 3, (some FieldType.int))
set_option maxRecDepth 20000 in
theorem mfX9_type : zMf mX9_type 1 := ⟨ztb_in (zc5 (List.mem_of_getElem? (i := 157) rfl)) rfl, ztb_in (zc1 (List.mem_of_getElem? (i := 10) rfl)) rfl, ⟨by decide +kernel, by decide +kernel, by decide +kernel⟩, by decide⟩
theorem mpX9_type : plainName mX9_type.1.cls = true := by decide +kernel
set_option maxRecDepth 20000 in
theorem miX9_type : Cond.instanceMethod mX9_type.1 ∈ ztb := ztb_in (zc5 (List.mem_of_getElem? (i := 155) rfl)) rfl
set_option maxRecDepth 20000 in
theorem msX9_type : Cond.selects mX9_type.1.cls mX9_type.1 mX9_type.1 ∈ ztb := ztb_in (zc5 (List.mem_of_getElem? (i := 156) rfl)) rfl
abbrev mX9_isFigure : zM := (yX9_isFigure, cX9_isFigure, 1, (some FieldType.boolean))
set_option maxRecDepth 20000 in
theorem mfX9_isFigure : zMf mX9_isFigure 1 := ⟨ztb_in (zc5 (List.mem_of_getElem? (i := 160) rfl)) rfl, ztb_in (zc1 (List.mem_of_getElem? (i := 10) rfl)) rfl, ⟨by decide +kernel, by decide +kernel, by decide +kernel⟩, by decide⟩
theorem mpX9_isFigure : plainName mX9_isFigure.1.cls = true := by decide +kernel
set_option maxRecDepth 20000 in
theorem mtX9_isFigure : Cond.static mX9_isFigure.1 ∈ ztb := ztb_in (zc5 (List.mem_of_getElem? (i := 159) rfl)) rfl
abbrev mX9_isFunction : zM := (yX9_isFunction, cX9_isFunction, 1, (some FieldType.boolean))
set_option maxRecDepth 20000 in
theorem mfX9_isFunction : zMf mX9_isFunction 1 := ⟨ztb_in (zc5 (List.mem_of_getElem? (i := 163) rfl)) rfl, ztb_in (zc1 (List.mem_of_getElem? (i := 10) rfl)) rfl, ⟨by decide +kernel, by decide +kernel, by decide +kernel⟩, by decide⟩
theorem mpX9_isFunction : plainName mX9_isFunction.1.cls = true := by decide +kernel
set_option maxRecDepth 20000 in
theorem mtX9_isFunction : Cond.static mX9_isFunction.1 ∈ ztb := ztb_in (zc5 (List.mem_of_getElem? (i := 162) rfl)) rfl
abbrev mX9_isName : zM := (yX9_isName, cX9_isName, 1, (some FieldType.boolean))
set_option maxRecDepth 20000 in
theorem mfX9_isName : zMf mX9_isName 1 := ⟨ztb_in (zc5 (List.mem_of_getElem? (i := 166) rfl)) rfl, ztb_in (zc1 (List.mem_of_getElem? (i := 10) rfl)) rfl, ⟨by decide +kernel, by decide +kernel, by decide +kernel⟩, by decide⟩
theorem mpX9_isName : plainName mX9_isName.1.cls = true := by decide +kernel
set_option maxRecDepth 20000 in
theorem mtX9_isName : Cond.static mX9_isName.1 ∈ ztb := ztb_in (zc5 (List.mem_of_getElem? (i := 165) rfl)) rfl
abbrev mX9_deedOf : zM := (yX9_deedOf, cX9_deedOf, 1, (some FieldType.int))
set_option maxRecDepth 20000 in
theorem mfX9_deedOf : zMf mX9_deedOf 1 := ⟨ztb_in (zc5 (List.mem_of_getElem? (i := 169) rfl)) rfl, ztb_in (zc1 (List.mem_of_getElem? (i := 10) rfl)) rfl, ⟨by decide +kernel, by decide +kernel, by decide +kernel⟩, by decide⟩
theorem mpX9_deedOf : plainName mX9_deedOf.1.cls = true := by decide +kernel
set_option maxRecDepth 20000 in
theorem mtX9_deedOf : Cond.static mX9_deedOf.1 ∈ ztb := ztb_in (zc5 (List.mem_of_getElem? (i := 168) rfl)) rfl
abbrev mX9_goes : zM := (yX9_goes, cX9_goes, 4, (some FieldType.boolean))
set_option maxRecDepth 20000 in
theorem mfX9_goes : zMf mX9_goes 3 := ⟨ztb_in (zc5 (List.mem_of_getElem? (i := 173) rfl)) rfl, ztb_in (zc1 (List.mem_of_getElem? (i := 10) rfl)) rfl, ⟨by decide +kernel, by decide +kernel, by decide +kernel⟩, by decide⟩
theorem mpX9_goes : plainName mX9_goes.1.cls = true := by decide +kernel
set_option maxRecDepth 20000 in
theorem miX9_goes : Cond.instanceMethod mX9_goes.1 ∈ ztb := ztb_in (zc5 (List.mem_of_getElem? (i := 172) rfl)) rfl
set_option maxRecDepth 20000 in
theorem msX9_goes : Cond.selects mX9_goes.1.cls mX9_goes.1 mX9_goes.1 ∈ ztb := ztb_in (zsel (List.mem_of_getElem? (i := 35) rfl)) rfl
abbrev mX9_wipe : zM := (yX9_wipe, cX9_wipe, 2, (some FieldType.int))
set_option maxRecDepth 20000 in
theorem mfX9_wipe : zMf mX9_wipe 0 := ⟨ztb_in (zc5 (List.mem_of_getElem? (i := 177) rfl)) rfl, ztb_in (zc1 (List.mem_of_getElem? (i := 10) rfl)) rfl, ⟨by decide +kernel, by decide +kernel, by decide +kernel⟩, by decide⟩
theorem mpX9_wipe : plainName mX9_wipe.1.cls = true := by decide +kernel
set_option maxRecDepth 20000 in
theorem miX9_wipe : Cond.instanceMethod mX9_wipe.1 ∈ ztb := ztb_in (zc5 (List.mem_of_getElem? (i := 175) rfl)) rfl
set_option maxRecDepth 20000 in
theorem msX9_wipe : Cond.selects mX9_wipe.1.cls mX9_wipe.1 mX9_wipe.1 ∈ ztb := ztb_in (zc5 (List.mem_of_getElem? (i := 176) rfl)) rfl
abbrev mX9_fault : zM := (yX9_fault, cX9_fault, 1, (some FieldType.int))
set_option maxRecDepth 20000 in
theorem mfX9_fault : zMf mX9_fault 0 := ⟨ztb_in (zc5 (List.mem_of_getElem? (i := 181) rfl)) rfl, ztb_in (zc1 (List.mem_of_getElem? (i := 10) rfl)) rfl, ⟨by decide +kernel, by decide +kernel, by decide +kernel⟩, by decide⟩
theorem mpX9_fault : plainName mX9_fault.1.cls = true := by decide +kernel
set_option maxRecDepth 20000 in
theorem miX9_fault : Cond.instanceMethod mX9_fault.1 ∈ ztb := ztb_in (zc5 (List.mem_of_getElem? (i := 179) rfl)) rfl
set_option maxRecDepth 20000 in
theorem msX9_fault : Cond.selects mX9_fault.1.cls mX9_fault.1 mX9_fault.1 ∈ ztb := ztb_in (zc5 (List.mem_of_getElem? (i := 180) rfl)) rfl
abbrev mX9_faultOf : zM := (yX9_faultOf, cX9_faultOf, 6, (some FieldType.int))
set_option maxRecDepth 20000 in
theorem mfX9_faultOf : zMf mX9_faultOf 0 := ⟨ztb_in (zc5 (List.mem_of_getElem? (i := 185) rfl)) rfl, ztb_in (zc1 (List.mem_of_getElem? (i := 10) rfl)) rfl, ⟨by decide +kernel, by decide +kernel, by decide +kernel⟩, by decide⟩
theorem mpX9_faultOf : plainName mX9_faultOf.1.cls = true := by decide +kernel
set_option maxRecDepth 20000 in
theorem miX9_faultOf : Cond.instanceMethod mX9_faultOf.1 ∈ ztb := ztb_in (zc5 (List.mem_of_getElem? (i := 184) rfl)) rfl
set_option maxRecDepth 20000 in
theorem msX9_faultOf : Cond.selects mX9_faultOf.1.cls mX9_faultOf.1 mX9_faultOf.1 ∈ ztb := ztb_in (zsel (List.mem_of_getElem? (i := 36) rfl)) rfl
abbrev mX9_takesNumber : zM := (yX9_takesNumber, cX9_takesNumber, 4, (some FieldType.int))
set_option maxRecDepth 20000 in
theorem mfX9_takesNumber : zMf mX9_takesNumber 1 := ⟨ztb_in (zc5 (List.mem_of_getElem? (i := 189) rfl)) rfl, ztb_in (zc1 (List.mem_of_getElem? (i := 10) rfl)) rfl, ⟨by decide +kernel, by decide +kernel, by decide +kernel⟩, by decide⟩
theorem mpX9_takesNumber : plainName mX9_takesNumber.1.cls = true := by decide +kernel
set_option maxRecDepth 20000 in
theorem miX9_takesNumber : Cond.instanceMethod mX9_takesNumber.1 ∈ ztb := ztb_in (zc5 (List.mem_of_getElem? (i := 188) rfl)) rfl
set_option maxRecDepth 20000 in
theorem msX9_takesNumber : Cond.selects mX9_takesNumber.1.cls mX9_takesNumber.1 mX9_takesNumber.1 ∈ ztb := ztb_in (zsel (List.mem_of_getElem? (i := 37) rfl)) rfl
abbrev mX9_makes : zM := (yX9_makes, cX9_makes, 2, none)
set_option maxRecDepth 20000 in
theorem mfX9_makes : zMf mX9_makes 1 := ⟨ztb_in (zc5 (List.mem_of_getElem? (i := 193) rfl)) rfl, ztb_in (zc1 (List.mem_of_getElem? (i := 10) rfl)) rfl, ⟨by decide +kernel, by decide +kernel, by decide +kernel⟩, by decide⟩
theorem mpX9_makes : plainName mX9_makes.1.cls = true := by decide +kernel
set_option maxRecDepth 20000 in
theorem miX9_makes : Cond.instanceMethod mX9_makes.1 ∈ ztb := ztb_in (zc5 (List.mem_of_getElem? (i := 192) rfl)) rfl
set_option maxRecDepth 20000 in
theorem msX9_makes : Cond.selects mX9_makes.1.cls mX9_makes.1 mX9_makes.1 ∈ ztb := ztb_in (zsel (List.mem_of_getElem? (i := 38) rfl)) rfl
abbrev mX9_takesName : zM := (yX9_takesName, cX9_takesName, 5, (some FieldType.int))
set_option maxRecDepth 20000 in
theorem mfX9_takesName : zMf mX9_takesName 1 := ⟨ztb_in (zc5 (List.mem_of_getElem? (i := 197) rfl)) rfl, ztb_in (zc1 (List.mem_of_getElem? (i := 10) rfl)) rfl, ⟨by decide +kernel, by decide +kernel, by decide +kernel⟩, by decide⟩
theorem mpX9_takesName : plainName mX9_takesName.1.cls = true := by decide +kernel
set_option maxRecDepth 20000 in
theorem miX9_takesName : Cond.instanceMethod mX9_takesName.1 ∈ ztb := ztb_in (zc5 (List.mem_of_getElem? (i := 196) rfl)) rfl
set_option maxRecDepth 20000 in
theorem msX9_takesName : Cond.selects mX9_takesName.1.cls mX9_takesName.1 mX9_takesName.1 ∈ ztb := ztb_in (zsel (List.mem_of_getElem? (i := 39) rfl)) rfl
abbrev mX9_opensOne : zM := (yX9_opensOne, cX9_opensOne, 2, none)
set_option maxRecDepth 20000 in
theorem mfX9_opensOne : zMf mX9_opensOne 1 := ⟨ztb_in (zc5 (List.mem_of_getElem? (i := 201) rfl)) rfl, ztb_in (zc1 (List.mem_of_getElem? (i := 10) rfl)) rfl, ⟨by decide +kernel, by decide +kernel, by decide +kernel⟩, by decide⟩
theorem mpX9_opensOne : plainName mX9_opensOne.1.cls = true := by decide +kernel
set_option maxRecDepth 20000 in
theorem miX9_opensOne : Cond.instanceMethod mX9_opensOne.1 ∈ ztb := ztb_in (zc5 (List.mem_of_getElem? (i := 200) rfl)) rfl
set_option maxRecDepth 20000 in
theorem msX9_opensOne : Cond.selects mX9_opensOne.1.cls mX9_opensOne.1 mX9_opensOne.1 ∈ ztb := ztb_in (zsel (List.mem_of_getElem? (i := 40) rfl)) rfl
abbrev mX9_rank : zM := (yX9_rank, cX9_rank, 1, (some FieldType.int))
set_option maxRecDepth 20000 in
theorem mfX9_rank : zMf mX9_rank 1 := ⟨ztb_in (zc5 (List.mem_of_getElem? (i := 204) rfl)) rfl, ztb_in (zc1 (List.mem_of_getElem? (i := 10) rfl)) rfl, ⟨by decide +kernel, by decide +kernel, by decide +kernel⟩, by decide⟩
theorem mpX9_rank : plainName mX9_rank.1.cls = true := by decide +kernel
set_option maxRecDepth 20000 in
theorem mtX9_rank : Cond.static mX9_rank.1 ∈ ztb := ztb_in (zc5 (List.mem_of_getElem? (i := 203) rfl)) rfl
abbrev mX9_closes : zM := (yX9_closes, cX9_closes, 2, none)
set_option maxRecDepth 20000 in
theorem mfX9_closes : zMf mX9_closes 1 := ⟨ztb_in (zc5 (List.mem_of_getElem? (i := 208) rfl)) rfl, ztb_in (zc1 (List.mem_of_getElem? (i := 10) rfl)) rfl, ⟨by decide +kernel, by decide +kernel, by decide +kernel⟩, by decide⟩
theorem mpX9_closes : plainName mX9_closes.1.cls = true := by decide +kernel
set_option maxRecDepth 20000 in
theorem miX9_closes : Cond.instanceMethod mX9_closes.1 ∈ ztb := ztb_in (zc5 (List.mem_of_getElem? (i := 207) rfl)) rfl
set_option maxRecDepth 20000 in
theorem msX9_closes : Cond.selects mX9_closes.1.cls mX9_closes.1 mX9_closes.1 ∈ ztb := ztb_in (zsel (List.mem_of_getElem? (i := 41) rfl)) rfl
abbrev mX9_formula : zM := (yX9_formula, cX9_formula, 4, (some FieldType.int))
set_option maxRecDepth 20000 in
theorem mfX9_formula : zMf mX9_formula 1 := ⟨ztb_in (zc5 (List.mem_of_getElem? (i := 212) rfl)) rfl, ztb_in (zc1 (List.mem_of_getElem? (i := 10) rfl)) rfl, ⟨by decide +kernel, by decide +kernel, by decide +kernel⟩, by decide⟩
theorem mpX9_formula : plainName mX9_formula.1.cls = true := by decide +kernel
set_option maxRecDepth 20000 in
theorem miX9_formula : Cond.instanceMethod mX9_formula.1 ∈ ztb := ztb_in (zc5 (List.mem_of_getElem? (i := 210) rfl)) rfl
set_option maxRecDepth 20000 in
theorem msX9_formula : Cond.selects mX9_formula.1.cls mX9_formula.1 mX9_formula.1 ∈ ztb := ztb_in (zc5 (List.mem_of_getElem? (i := 211) rfl)) rfl
abbrev mX9_isCell : zM := (yX9_isCell, cX9_isCell, 1, (some FieldType.boolean))
set_option maxRecDepth 20000 in
theorem mfX9_isCell : zMf mX9_isCell 1 := ⟨ztb_in (zc5 (List.mem_of_getElem? (i := 215) rfl)) rfl, ztb_in (zc1 (List.mem_of_getElem? (i := 10) rfl)) rfl, ⟨by decide +kernel, by decide +kernel, by decide +kernel⟩, by decide⟩
theorem mpX9_isCell : plainName mX9_isCell.1.cls = true := by decide +kernel
set_option maxRecDepth 20000 in
theorem mtX9_isCell : Cond.static mX9_isCell.1 ∈ ztb := ztb_in (zc5 (List.mem_of_getElem? (i := 214) rfl)) rfl
abbrev mX9_isIn : zM := (yX9_isIn, cX9_isIn, 2, (some FieldType.boolean))
set_option maxRecDepth 20000 in
theorem mfX9_isIn : zMf mX9_isIn 2 := ⟨ztb_in (zc5 (List.mem_of_getElem? (i := 218) rfl)) rfl, ztb_in (zc1 (List.mem_of_getElem? (i := 10) rfl)) rfl, ⟨by decide +kernel, by decide +kernel, by decide +kernel⟩, by decide⟩
theorem mpX9_isIn : plainName mX9_isIn.1.cls = true := by decide +kernel
set_option maxRecDepth 20000 in
theorem mtX9_isIn : Cond.static mX9_isIn.1 ∈ ztb := ztb_in (zc5 (List.mem_of_getElem? (i := 217) rfl)) rfl
abbrev mX9_wouldHang : zM := (yX9_wouldHang, cX9_wouldHang, 4, (some FieldType.boolean))
set_option maxRecDepth 20000 in
theorem mfX9_wouldHang : zMf mX9_wouldHang 1 := ⟨ztb_in (zc5 (List.mem_of_getElem? (i := 222) rfl)) rfl, ztb_in (zc1 (List.mem_of_getElem? (i := 10) rfl)) rfl, ⟨by decide +kernel, by decide +kernel, by decide +kernel⟩, by decide⟩
theorem mpX9_wouldHang : plainName mX9_wouldHang.1.cls = true := by decide +kernel
set_option maxRecDepth 20000 in
theorem miX9_wouldHang : Cond.instanceMethod mX9_wouldHang.1 ∈ ztb := ztb_in (zc5 (List.mem_of_getElem? (i := 221) rfl)) rfl
set_option maxRecDepth 20000 in
theorem msX9_wouldHang : Cond.selects mX9_wouldHang.1.cls mX9_wouldHang.1 mX9_wouldHang.1 ∈ ztb := ztb_in (zsel (List.mem_of_getElem? (i := 42) rfl)) rfl
abbrev mX9_isWithin : zM := (yX9_isWithin, cX9_isWithin, 3, (some FieldType.boolean))
set_option maxRecDepth 20000 in
theorem mfX9_isWithin : zMf mX9_isWithin 3 := ⟨ztb_in (zc5 (List.mem_of_getElem? (i := 225) rfl)) rfl, ztb_in (zc1 (List.mem_of_getElem? (i := 10) rfl)) rfl, ⟨by decide +kernel, by decide +kernel, by decide +kernel⟩, by decide⟩
theorem mpX9_isWithin : plainName mX9_isWithin.1.cls = true := by decide +kernel
set_option maxRecDepth 20000 in
theorem mtX9_isWithin : Cond.static mX9_isWithin.1 ∈ ztb := ztb_in (zc5 (List.mem_of_getElem? (i := 224) rfl)) rfl
abbrev mX9_below : zM := (yX9_below, cX9_below, 6, (some FieldType.int))
set_option maxRecDepth 20000 in
theorem mfX9_below : zMf mX9_below 2 := ⟨ztb_in (zc5 (List.mem_of_getElem? (i := 229) rfl)) rfl, ztb_in (zc1 (List.mem_of_getElem? (i := 10) rfl)) rfl, ⟨by decide +kernel, by decide +kernel, by decide +kernel⟩, by decide⟩
theorem mpX9_below : plainName mX9_below.1.cls = true := by decide +kernel
set_option maxRecDepth 20000 in
theorem miX9_below : Cond.instanceMethod mX9_below.1 ∈ ztb := ztb_in (zc5 (List.mem_of_getElem? (i := 228) rfl)) rfl
set_option maxRecDepth 20000 in
theorem msX9_below : Cond.selects mX9_below.1.cls mX9_below.1 mX9_below.1 ∈ ztb := ztb_in (zsel (List.mem_of_getElem? (i := 43) rfl)) rfl
abbrev mX9_has : zM := (yX9_has, cX9_has, 2, (some FieldType.boolean))
set_option maxRecDepth 20000 in
theorem mfX9_has : zMf mX9_has 2 := ⟨ztb_in (zc5 (List.mem_of_getElem? (i := 232) rfl)) rfl, ztb_in (zc1 (List.mem_of_getElem? (i := 10) rfl)) rfl, ⟨by decide +kernel, by decide +kernel, by decide +kernel⟩, by decide⟩
theorem mpX9_has : plainName mX9_has.1.cls = true := by decide +kernel
set_option maxRecDepth 20000 in
theorem mtX9_has : Cond.static mX9_has.1 ∈ ztb := ztb_in (zc5 (List.mem_of_getElem? (i := 231) rfl)) rfl
abbrev mX9_hasRoom : zM := (yX9_hasRoom, cX9_hasRoom, 1, (some FieldType.boolean))
set_option maxRecDepth 20000 in
theorem mfX9_hasRoom : zMf mX9_hasRoom 0 := ⟨ztb_in (zc5 (List.mem_of_getElem? (i := 236) rfl)) rfl, ztb_in (zc1 (List.mem_of_getElem? (i := 10) rfl)) rfl, ⟨by decide +kernel, by decide +kernel, by decide +kernel⟩, by decide⟩
theorem mpX9_hasRoom : plainName mX9_hasRoom.1.cls = true := by decide +kernel
set_option maxRecDepth 20000 in
theorem miX9_hasRoom : Cond.instanceMethod mX9_hasRoom.1 ∈ ztb := ztb_in (zc5 (List.mem_of_getElem? (i := 235) rfl)) rfl
set_option maxRecDepth 20000 in
theorem msX9_hasRoom : Cond.selects mX9_hasRoom.1.cls mX9_hasRoom.1 mX9_hasRoom.1 ∈ ztb := ztb_in (zsel (List.mem_of_getElem? (i := 44) rfl)) rfl
abbrev mX9_keeps : zM := (yX9_keeps, cX9_keeps, 5, (some FieldType.int))
set_option maxRecDepth 20000 in
theorem mfX9_keeps : zMf mX9_keeps 4 := ⟨ztb_in (zc6 (List.mem_of_getElem? (i := 0) rfl)) rfl, ztb_in (zc1 (List.mem_of_getElem? (i := 10) rfl)) rfl, ⟨by decide +kernel, by decide +kernel, by decide +kernel⟩, by decide⟩
theorem mpX9_keeps : plainName mX9_keeps.1.cls = true := by decide +kernel
set_option maxRecDepth 20000 in
theorem miX9_keeps : Cond.instanceMethod mX9_keeps.1 ∈ ztb := ztb_in (zc5 (List.mem_of_getElem? (i := 239) rfl)) rfl
set_option maxRecDepth 20000 in
theorem msX9_keeps : Cond.selects mX9_keeps.1.cls mX9_keeps.1 mX9_keeps.1 ∈ ztb := ztb_in (zsel (List.mem_of_getElem? (i := 45) rfl)) rfl
abbrev mX9_does : zM := (yX9_does, cX9_does, 4, (some FieldType.int))
set_option maxRecDepth 20000 in
theorem mfX9_does : zMf mX9_does 1 := ⟨ztb_in (zc6 (List.mem_of_getElem? (i := 4) rfl)) rfl, ztb_in (zc1 (List.mem_of_getElem? (i := 10) rfl)) rfl, ⟨by decide +kernel, by decide +kernel, by decide +kernel⟩, by decide⟩
theorem mpX9_does : plainName mX9_does.1.cls = true := by decide +kernel
set_option maxRecDepth 20000 in
theorem miX9_does : Cond.instanceMethod mX9_does.1 ∈ ztb := ztb_in (zc6 (List.mem_of_getElem? (i := 3) rfl)) rfl
set_option maxRecDepth 20000 in
theorem msX9_does : Cond.selects mX9_does.1.cls mX9_does.1 mX9_does.1 ∈ ztb := ztb_in (zsel (List.mem_of_getElem? (i := 46) rfl)) rfl
abbrev mX9_settles : zM := (yX9_settles, cX9_settles, 6, (some FieldType.int))
set_option maxRecDepth 20000 in
theorem mfX9_settles : zMf mX9_settles 0 := ⟨ztb_in (zc6 (List.mem_of_getElem? (i := 8) rfl)) rfl, ztb_in (zc1 (List.mem_of_getElem? (i := 10) rfl)) rfl, ⟨by decide +kernel, by decide +kernel, by decide +kernel⟩, by decide⟩
theorem mpX9_settles : plainName mX9_settles.1.cls = true := by decide +kernel
set_option maxRecDepth 20000 in
theorem miX9_settles : Cond.instanceMethod mX9_settles.1 ∈ ztb := ztb_in (zc6 (List.mem_of_getElem? (i := 7) rfl)) rfl
set_option maxRecDepth 20000 in
theorem msX9_settles : Cond.selects mX9_settles.1.cls mX9_settles.1 mX9_settles.1 ∈ ztb := ztb_in (zsel (List.mem_of_getElem? (i := 47) rfl)) rfl
abbrev mX9_round : zM := (yX9_round, cX9_round, 6, (some FieldType.int))
set_option maxRecDepth 20000 in
theorem mfX9_round : zMf mX9_round 0 := ⟨ztb_in (zc6 (List.mem_of_getElem? (i := 12) rfl)) rfl, ztb_in (zc1 (List.mem_of_getElem? (i := 10) rfl)) rfl, ⟨by decide +kernel, by decide +kernel, by decide +kernel⟩, by decide⟩
theorem mpX9_round : plainName mX9_round.1.cls = true := by decide +kernel
set_option maxRecDepth 20000 in
theorem miX9_round : Cond.instanceMethod mX9_round.1 ∈ ztb := ztb_in (zc6 (List.mem_of_getElem? (i := 11) rfl)) rfl
set_option maxRecDepth 20000 in
theorem msX9_round : Cond.selects mX9_round.1.cls mX9_round.1 mX9_round.1 ∈ ztb := ztb_in (zsel (List.mem_of_getElem? (i := 48) rfl)) rfl
abbrev mX9_worksOut : zM := (yX9_worksOut, cX9_worksOut, 2, none)
set_option maxRecDepth 20000 in
theorem mfX9_worksOut : zMf mX9_worksOut 0 := ⟨ztb_in (zc6 (List.mem_of_getElem? (i := 16) rfl)) rfl, ztb_in (zc1 (List.mem_of_getElem? (i := 10) rfl)) rfl, ⟨by decide +kernel, by decide +kernel, by decide +kernel⟩, by decide⟩
theorem mpX9_worksOut : plainName mX9_worksOut.1.cls = true := by decide +kernel
set_option maxRecDepth 20000 in
theorem miX9_worksOut : Cond.instanceMethod mX9_worksOut.1 ∈ ztb := ztb_in (zc6 (List.mem_of_getElem? (i := 15) rfl)) rfl
set_option maxRecDepth 20000 in
theorem msX9_worksOut : Cond.selects mX9_worksOut.1.cls mX9_worksOut.1 mX9_worksOut.1 ∈ ztb := ztb_in (zsel (List.mem_of_getElem? (i := 49) rfl)) rfl
abbrev mX9_nextDirty : zM := (yX9_nextDirty, cX9_nextDirty, 3, (some FieldType.int))
set_option maxRecDepth 20000 in
theorem mfX9_nextDirty : zMf mX9_nextDirty 0 := ⟨ztb_in (zc6 (List.mem_of_getElem? (i := 20) rfl)) rfl, ztb_in (zc1 (List.mem_of_getElem? (i := 10) rfl)) rfl, ⟨by decide +kernel, by decide +kernel, by decide +kernel⟩, by decide⟩
theorem mpX9_nextDirty : plainName mX9_nextDirty.1.cls = true := by decide +kernel
set_option maxRecDepth 20000 in
theorem miX9_nextDirty : Cond.instanceMethod mX9_nextDirty.1 ∈ ztb := ztb_in (zc6 (List.mem_of_getElem? (i := 19) rfl)) rfl
set_option maxRecDepth 20000 in
theorem msX9_nextDirty : Cond.selects mX9_nextDirty.1.cls mX9_nextDirty.1 mX9_nextDirty.1 ∈ ztb := ztb_in (zsel (List.mem_of_getElem? (i := 50) rfl)) rfl
abbrev mX9_worthOf : zM := (yX9_worthOf, cX9_worthOf, 4, (some FieldType.int))
set_option maxRecDepth 20000 in
theorem mfX9_worthOf : zMf mX9_worthOf 1 := ⟨ztb_in (zc6 (List.mem_of_getElem? (i := 24) rfl)) rfl, ztb_in (zc1 (List.mem_of_getElem? (i := 10) rfl)) rfl, ⟨by decide +kernel, by decide +kernel, by decide +kernel⟩, by decide⟩
theorem mpX9_worthOf : plainName mX9_worthOf.1.cls = true := by decide +kernel
set_option maxRecDepth 20000 in
theorem miX9_worthOf : Cond.instanceMethod mX9_worthOf.1 ∈ ztb := ztb_in (zc6 (List.mem_of_getElem? (i := 23) rfl)) rfl
set_option maxRecDepth 20000 in
theorem msX9_worthOf : Cond.selects mX9_worthOf.1.cls mX9_worthOf.1 mX9_worthOf.1 ∈ ztb := ztb_in (zsel (List.mem_of_getElem? (i := 51) rfl)) rfl
abbrev mX9_deeds : zM := (yX9_deeds, cX9_deeds, 8, none)
set_option maxRecDepth 20000 in
theorem mfX9_deeds : zMf mX9_deeds 1 := ⟨ztb_in (zc6 (List.mem_of_getElem? (i := 28) rfl)) rfl, ztb_in (zc1 (List.mem_of_getElem? (i := 10) rfl)) rfl, ⟨by decide +kernel, by decide +kernel, by decide +kernel⟩, by decide⟩
theorem mpX9_deeds : plainName mX9_deeds.1.cls = true := by decide +kernel
set_option maxRecDepth 20000 in
theorem miX9_deeds : Cond.instanceMethod mX9_deeds.1 ∈ ztb := ztb_in (zc6 (List.mem_of_getElem? (i := 27) rfl)) rfl
set_option maxRecDepth 20000 in
theorem msX9_deeds : Cond.selects mX9_deeds.1.cls mX9_deeds.1 mX9_deeds.1 ∈ ztb := ztb_in (zsel (List.mem_of_getElem? (i := 52) rfl)) rfl
abbrev mX9_kept : zM := (yX9_kept, cX9_kept, 2, (some FieldType.long))
set_option maxRecDepth 20000 in
theorem mfX9_kept : zMf mX9_kept 1 := ⟨ztb_in (zc6 (List.mem_of_getElem? (i := 31) rfl)) rfl, ztb_in (zc1 (List.mem_of_getElem? (i := 10) rfl)) rfl, ⟨by decide +kernel, by decide +kernel, by decide +kernel⟩, by decide⟩
theorem mpX9_kept : plainName mX9_kept.1.cls = true := by decide +kernel
set_option maxRecDepth 20000 in
theorem mtX9_kept : Cond.static mX9_kept.1 ∈ ztb := ztb_in (zc6 (List.mem_of_getElem? (i := 30) rfl)) rfl
abbrev mX9_becomes : zM := (yX9_becomes, cX9_becomes, 3, none)
set_option maxRecDepth 20000 in
theorem mfX9_becomes : zMf mX9_becomes 2 := ⟨ztb_in (zc6 (List.mem_of_getElem? (i := 37) rfl)) rfl, ztb_in (zc1 (List.mem_of_getElem? (i := 10) rfl)) rfl, ⟨by decide +kernel, by decide +kernel, by decide +kernel⟩, by decide⟩
theorem mpX9_becomes : plainName mX9_becomes.1.cls = true := by decide +kernel
set_option maxRecDepth 20000 in
theorem miX9_becomes : Cond.instanceMethod mX9_becomes.1 ∈ ztb := ztb_in (zc6 (List.mem_of_getElem? (i := 36) rfl)) rfl
set_option maxRecDepth 20000 in
theorem msX9_becomes : Cond.selects mX9_becomes.1.cls mX9_becomes.1 mX9_becomes.1 ∈ ztb := ztb_in (zsel (List.mem_of_getElem? (i := 53) rfl)) rfl
abbrev mX9_soils : zM := (yX9_soils, cX9_soils, 4, none)
set_option maxRecDepth 20000 in
theorem mfX9_soils : zMf mX9_soils 2 := ⟨ztb_in (zc6 (List.mem_of_getElem? (i := 41) rfl)) rfl, ztb_in (zc1 (List.mem_of_getElem? (i := 10) rfl)) rfl, ⟨by decide +kernel, by decide +kernel, by decide +kernel⟩, by decide⟩
theorem mpX9_soils : plainName mX9_soils.1.cls = true := by decide +kernel
set_option maxRecDepth 20000 in
theorem miX9_soils : Cond.instanceMethod mX9_soils.1 ∈ ztb := ztb_in (zc6 (List.mem_of_getElem? (i := 40) rfl)) rfl
set_option maxRecDepth 20000 in
theorem msX9_soils : Cond.selects mX9_soils.1.cls mX9_soils.1 mX9_soils.1 ∈ ztb := ztb_in (zsel (List.mem_of_getElem? (i := 54) rfl)) rfl
abbrev mX9_changes : zM := (yX9_changes, cX9_changes, 2, none)
set_option maxRecDepth 20000 in
theorem mfX9_changes : zMf mX9_changes 1 := ⟨ztb_in (zc6 (List.mem_of_getElem? (i := 45) rfl)) rfl, ztb_in (zc1 (List.mem_of_getElem? (i := 10) rfl)) rfl, ⟨by decide +kernel, by decide +kernel, by decide +kernel⟩, by decide⟩
theorem mpX9_changes : plainName mX9_changes.1.cls = true := by decide +kernel
set_option maxRecDepth 20000 in
theorem miX9_changes : Cond.instanceMethod mX9_changes.1 ∈ ztb := ztb_in (zc6 (List.mem_of_getElem? (i := 44) rfl)) rfl
set_option maxRecDepth 20000 in
theorem msX9_changes : Cond.selects mX9_changes.1.cls mX9_changes.1 mX9_changes.1 ∈ ztb := ztb_in (zsel (List.mem_of_getElem? (i := 55) rfl)) rfl
abbrev mX9_isWanted : zM := (yX9_isWanted, cX9_isWanted, 4, (some FieldType.boolean))
set_option maxRecDepth 20000 in
theorem mfX9_isWanted : zMf mX9_isWanted 1 := ⟨ztb_in (zc6 (List.mem_of_getElem? (i := 49) rfl)) rfl, ztb_in (zc1 (List.mem_of_getElem? (i := 10) rfl)) rfl, ⟨by decide +kernel, by decide +kernel, by decide +kernel⟩, by decide⟩
theorem mpX9_isWanted : plainName mX9_isWanted.1.cls = true := by decide +kernel
set_option maxRecDepth 20000 in
theorem miX9_isWanted : Cond.instanceMethod mX9_isWanted.1 ∈ ztb := ztb_in (zc6 (List.mem_of_getElem? (i := 48) rfl)) rfl
set_option maxRecDepth 20000 in
theorem msX9_isWanted : Cond.selects mX9_isWanted.1.cls mX9_isWanted.1 mX9_isWanted.1 ∈ ztb := ztb_in (zsel (List.mem_of_getElem? (i := 56) rfl)) rfl
abbrev mX9_stale : zM := (yX9_stale, cX9_stale, 6, (some FieldType.boolean))
set_option maxRecDepth 20000 in
theorem mfX9_stale : zMf mX9_stale 1 := ⟨ztb_in (zc6 (List.mem_of_getElem? (i := 53) rfl)) rfl, ztb_in (zc1 (List.mem_of_getElem? (i := 10) rfl)) rfl, ⟨by decide +kernel, by decide +kernel, by decide +kernel⟩, by decide⟩
theorem mpX9_stale : plainName mX9_stale.1.cls = true := by decide +kernel
set_option maxRecDepth 20000 in
theorem miX9_stale : Cond.instanceMethod mX9_stale.1 ∈ ztb := ztb_in (zc6 (List.mem_of_getElem? (i := 52) rfl)) rfl
set_option maxRecDepth 20000 in
theorem msX9_stale : Cond.selects mX9_stale.1.cls mX9_stale.1 mX9_stale.1 ∈ ztb := ztb_in (zsel (List.mem_of_getElem? (i := 57) rfl)) rfl
abbrev mX9_isOld : zM := (yX9_isOld, cX9_isOld, 2, (some FieldType.boolean))
set_option maxRecDepth 20000 in
theorem mfX9_isOld : zMf mX9_isOld 1 := ⟨ztb_in (zc6 (List.mem_of_getElem? (i := 57) rfl)) rfl, ztb_in (zc1 (List.mem_of_getElem? (i := 10) rfl)) rfl, ⟨by decide +kernel, by decide +kernel, by decide +kernel⟩, by decide⟩
theorem mpX9_isOld : plainName mX9_isOld.1.cls = true := by decide +kernel
set_option maxRecDepth 20000 in
theorem miX9_isOld : Cond.instanceMethod mX9_isOld.1 ∈ ztb := ztb_in (zc6 (List.mem_of_getElem? (i := 56) rfl)) rfl
set_option maxRecDepth 20000 in
theorem msX9_isOld : Cond.selects mX9_isOld.1.cls mX9_isOld.1 mX9_isOld.1 ∈ ztb := ztb_in (zsel (List.mem_of_getElem? (i := 58) rfl)) rfl
abbrev mX9_runs : zM := (yX9_runs, cX9_runs, 2, none)
set_option maxRecDepth 20000 in
theorem mfX9_runs : zMf mX9_runs 1 := ⟨ztb_in (zc6 (List.mem_of_getElem? (i := 61) rfl)) rfl, ztb_in (zc1 (List.mem_of_getElem? (i := 10) rfl)) rfl, ⟨by decide +kernel, by decide +kernel, by decide +kernel⟩, by decide⟩
theorem mpX9_runs : plainName mX9_runs.1.cls = true := by decide +kernel
set_option maxRecDepth 20000 in
theorem miX9_runs : Cond.instanceMethod mX9_runs.1 ∈ ztb := ztb_in (zc6 (List.mem_of_getElem? (i := 60) rfl)) rfl
set_option maxRecDepth 20000 in
theorem msX9_runs : Cond.selects mX9_runs.1.cls mX9_runs.1 mX9_runs.1 ∈ ztb := ztb_in (zsel (List.mem_of_getElem? (i := 59) rfl)) rfl
abbrev mX9_loadOf : zM := (yX9_loadOf, cX9_loadOf, 3, (some FieldType.int))
set_option maxRecDepth 20000 in
theorem mfX9_loadOf : zMf mX9_loadOf 1 := ⟨ztb_in (zc6 (List.mem_of_getElem? (i := 65) rfl)) rfl, ztb_in (zc1 (List.mem_of_getElem? (i := 10) rfl)) rfl, ⟨by decide +kernel, by decide +kernel, by decide +kernel⟩, by decide⟩
theorem mpX9_loadOf : plainName mX9_loadOf.1.cls = true := by decide +kernel
set_option maxRecDepth 20000 in
theorem miX9_loadOf : Cond.instanceMethod mX9_loadOf.1 ∈ ztb := ztb_in (zc6 (List.mem_of_getElem? (i := 64) rfl)) rfl
set_option maxRecDepth 20000 in
theorem msX9_loadOf : Cond.selects mX9_loadOf.1.cls mX9_loadOf.1 mX9_loadOf.1 ∈ ztb := ztb_in (zsel (List.mem_of_getElem? (i := 60) rfl)) rfl
abbrev mX9_tells : zM := (yX9_tells, cX9_tells, 3, none)
set_option maxRecDepth 20000 in
theorem mfX9_tells : zMf mX9_tells 2 := ⟨ztb_in (zc6 (List.mem_of_getElem? (i := 69) rfl)) rfl, ztb_in (zc1 (List.mem_of_getElem? (i := 10) rfl)) rfl, ⟨by decide +kernel, by decide +kernel, by decide +kernel⟩, by decide⟩
theorem mpX9_tells : plainName mX9_tells.1.cls = true := by decide +kernel
set_option maxRecDepth 20000 in
theorem miX9_tells : Cond.instanceMethod mX9_tells.1 ∈ ztb := ztb_in (zc6 (List.mem_of_getElem? (i := 68) rfl)) rfl
set_option maxRecDepth 20000 in
theorem msX9_tells : Cond.selects mX9_tells.1.cls mX9_tells.1 mX9_tells.1 ∈ ztb := ztb_in (zsel (List.mem_of_getElem? (i := 61) rfl)) rfl
abbrev mX9_setsCell : zM := (yX9_setsCell, cX9_setsCell, 3, none)
set_option maxRecDepth 20000 in
theorem mfX9_setsCell : zMf mX9_setsCell 1 := ⟨ztb_in (zc6 (List.mem_of_getElem? (i := 73) rfl)) rfl, ztb_in (zc1 (List.mem_of_getElem? (i := 10) rfl)) rfl, ⟨by decide +kernel, by decide +kernel, by decide +kernel⟩, by decide⟩
theorem mpX9_setsCell : plainName mX9_setsCell.1.cls = true := by decide +kernel
set_option maxRecDepth 20000 in
theorem miX9_setsCell : Cond.instanceMethod mX9_setsCell.1 ∈ ztb := ztb_in (zc6 (List.mem_of_getElem? (i := 72) rfl)) rfl
set_option maxRecDepth 20000 in
theorem msX9_setsCell : Cond.selects mX9_setsCell.1.cls mX9_setsCell.1 mX9_setsCell.1 ∈ ztb := ztb_in (zsel (List.mem_of_getElem? (i := 62) rfl)) rfl
abbrev mX9_gives : zM := (yX9_gives, cX9_gives, 5, none)
set_option maxRecDepth 20000 in
theorem mfX9_gives : zMf mX9_gives 2 := ⟨ztb_in (zc6 (List.mem_of_getElem? (i := 77) rfl)) rfl, ztb_in (zc1 (List.mem_of_getElem? (i := 10) rfl)) rfl, ⟨by decide +kernel, by decide +kernel, by decide +kernel⟩, by decide⟩
theorem mpX9_gives : plainName mX9_gives.1.cls = true := by decide +kernel
set_option maxRecDepth 20000 in
theorem miX9_gives : Cond.instanceMethod mX9_gives.1 ∈ ztb := ztb_in (zc6 (List.mem_of_getElem? (i := 76) rfl)) rfl
set_option maxRecDepth 20000 in
theorem msX9_gives : Cond.selects mX9_gives.1.cls mX9_gives.1 mX9_gives.1 ∈ ztb := ztb_in (zsel (List.mem_of_getElem? (i := 63) rfl)) rfl
abbrev mX9_deepens : zM := (yX9_deepens, cX9_deepens, 5, none)
set_option maxRecDepth 20000 in
theorem mfX9_deepens : zMf mX9_deepens 0 := ⟨ztb_in (zc6 (List.mem_of_getElem? (i := 81) rfl)) rfl, ztb_in (zc1 (List.mem_of_getElem? (i := 10) rfl)) rfl, ⟨by decide +kernel, by decide +kernel, by decide +kernel⟩, by decide⟩
theorem mpX9_deepens : plainName mX9_deepens.1.cls = true := by decide +kernel
set_option maxRecDepth 20000 in
theorem miX9_deepens : Cond.instanceMethod mX9_deepens.1 ∈ ztb := ztb_in (zc6 (List.mem_of_getElem? (i := 80) rfl)) rfl
set_option maxRecDepth 20000 in
theorem msX9_deepens : Cond.selects mX9_deepens.1.cls mX9_deepens.1 mX9_deepens.1 ∈ ztb := ztb_in (zsel (List.mem_of_getElem? (i := 64) rfl)) rfl
abbrev mX9_reads : zM := (yX9_reads, cX9_reads, 3, none)
set_option maxRecDepth 20000 in
theorem mfX9_reads : zMf mX9_reads 1 := ⟨ztb_in (zc6 (List.mem_of_getElem? (i := 85) rfl)) rfl, ztb_in (zc1 (List.mem_of_getElem? (i := 10) rfl)) rfl, ⟨by decide +kernel, by decide +kernel, by decide +kernel⟩, by decide⟩
theorem mpX9_reads : plainName mX9_reads.1.cls = true := by decide +kernel
set_option maxRecDepth 20000 in
theorem miX9_reads : Cond.instanceMethod mX9_reads.1 ∈ ztb := ztb_in (zc6 (List.mem_of_getElem? (i := 84) rfl)) rfl
set_option maxRecDepth 20000 in
theorem msX9_reads : Cond.selects mX9_reads.1.cls mX9_reads.1 mX9_reads.1 ∈ ztb := ztb_in (zsel (List.mem_of_getElem? (i := 65) rfl)) rfl
abbrev mX9_setsService : zM := (yX9_setsService, cX9_setsService, 4, none)
set_option maxRecDepth 20000 in
theorem mfX9_setsService : zMf mX9_setsService 1 := ⟨ztb_in (zc6 (List.mem_of_getElem? (i := 89) rfl)) rfl, ztb_in (zc1 (List.mem_of_getElem? (i := 10) rfl)) rfl, ⟨by decide +kernel, by decide +kernel, by decide +kernel⟩, by decide⟩
theorem mpX9_setsService : plainName mX9_setsService.1.cls = true := by decide +kernel
set_option maxRecDepth 20000 in
theorem miX9_setsService : Cond.instanceMethod mX9_setsService.1 ∈ ztb := ztb_in (zc6 (List.mem_of_getElem? (i := 88) rfl)) rfl
set_option maxRecDepth 20000 in
theorem msX9_setsService : Cond.selects mX9_setsService.1.cls mX9_setsService.1 mX9_setsService.1 ∈ ztb := ztb_in (zsel (List.mem_of_getElem? (i := 66) rfl)) rfl
abbrev mX9_hold : zM := (yX9_hold, cX9_hold, 3, (some FieldType.int))
set_option maxRecDepth 20000 in
theorem mfX9_hold : zMf mX9_hold 2 := ⟨ztb_in (zc6 (List.mem_of_getElem? (i := 93) rfl)) rfl, ztb_in (zc1 (List.mem_of_getElem? (i := 10) rfl)) rfl, ⟨by decide +kernel, by decide +kernel, by decide +kernel⟩, by decide⟩
theorem mpX9_hold : plainName mX9_hold.1.cls = true := by decide +kernel
set_option maxRecDepth 20000 in
theorem miX9_hold : Cond.instanceMethod mX9_hold.1 ∈ ztb := ztb_in (zc6 (List.mem_of_getElem? (i := 91) rfl)) rfl
set_option maxRecDepth 20000 in
theorem msX9_hold : Cond.selects mX9_hold.1.cls mX9_hold.1 mX9_hold.1 ∈ ztb := ztb_in (zc6 (List.mem_of_getElem? (i := 92) rfl)) rfl
abbrev mX9_release : zM := (yX9_release, cX9_release, 2, (some FieldType.int))
set_option maxRecDepth 20000 in
theorem mfX9_release : zMf mX9_release 1 := ⟨ztb_in (zc6 (List.mem_of_getElem? (i := 97) rfl)) rfl, ztb_in (zc1 (List.mem_of_getElem? (i := 10) rfl)) rfl, ⟨by decide +kernel, by decide +kernel, by decide +kernel⟩, by decide⟩
theorem mpX9_release : plainName mX9_release.1.cls = true := by decide +kernel
set_option maxRecDepth 20000 in
theorem miX9_release : Cond.instanceMethod mX9_release.1 ∈ ztb := ztb_in (zc6 (List.mem_of_getElem? (i := 95) rfl)) rfl
set_option maxRecDepth 20000 in
theorem msX9_release : Cond.selects mX9_release.1.cls mX9_release.1 mX9_release.1 ∈ ztb := ztb_in (zc6 (List.mem_of_getElem? (i := 96) rfl)) rfl
abbrev mX9_read : zM := (yX9_read, cX9_read, 3, (some FieldType.int))
set_option maxRecDepth 20000 in
theorem mfX9_read : zMf mX9_read 2 := ⟨ztb_in (zc6 (List.mem_of_getElem? (i := 101) rfl)) rfl, ztb_in (zc1 (List.mem_of_getElem? (i := 10) rfl)) rfl, ⟨by decide +kernel, by decide +kernel, by decide +kernel⟩, by decide⟩
theorem mpX9_read : plainName mX9_read.1.cls = true := by decide +kernel
set_option maxRecDepth 20000 in
theorem miX9_read : Cond.instanceMethod mX9_read.1 ∈ ztb := ztb_in (zc6 (List.mem_of_getElem? (i := 99) rfl)) rfl
set_option maxRecDepth 20000 in
theorem msX9_read : Cond.selects mX9_read.1.cls mX9_read.1 mX9_read.1 ∈ ztb := ztb_in (zc6 (List.mem_of_getElem? (i := 100) rfl)) rfl
abbrev mX9_control : zM := (yX9_control, cX9_control, 3, (some FieldType.int))
set_option maxRecDepth 20000 in
theorem mfX9_control : zMf mX9_control 2 := ⟨ztb_in (zc6 (List.mem_of_getElem? (i := 105) rfl)) rfl, ztb_in (zc1 (List.mem_of_getElem? (i := 10) rfl)) rfl, ⟨by decide +kernel, by decide +kernel, by decide +kernel⟩, by decide⟩
theorem mpX9_control : plainName mX9_control.1.cls = true := by decide +kernel
set_option maxRecDepth 20000 in
theorem miX9_control : Cond.instanceMethod mX9_control.1 ∈ ztb := ztb_in (zc6 (List.mem_of_getElem? (i := 103) rfl)) rfl
set_option maxRecDepth 20000 in
theorem msX9_control : Cond.selects mX9_control.1.cls mX9_control.1 mX9_control.1 ∈ ztb := ztb_in (zc6 (List.mem_of_getElem? (i := 104) rfl)) rfl
abbrev mX9_isService : zM := (yX9_isService, cX9_isService, 1, (some FieldType.boolean))
set_option maxRecDepth 20000 in
theorem mfX9_isService : zMf mX9_isService 1 := ⟨ztb_in (zc6 (List.mem_of_getElem? (i := 108) rfl)) rfl, ztb_in (zc1 (List.mem_of_getElem? (i := 10) rfl)) rfl, ⟨by decide +kernel, by decide +kernel, by decide +kernel⟩, by decide⟩
theorem mpX9_isService : plainName mX9_isService.1.cls = true := by decide +kernel
set_option maxRecDepth 20000 in
theorem mtX9_isService : Cond.static mX9_isService.1 ∈ ztb := ztb_in (zc6 (List.mem_of_getElem? (i := 107) rfl)) rfl
abbrev mX9_limit : zM := (yX9_limit, cX9_limit, 3, (some FieldType.int))
set_option maxRecDepth 20000 in
theorem mfX9_limit : zMf mX9_limit 2 := ⟨ztb_in (zc6 (List.mem_of_getElem? (i := 112) rfl)) rfl, ztb_in (zc1 (List.mem_of_getElem? (i := 10) rfl)) rfl, ⟨by decide +kernel, by decide +kernel, by decide +kernel⟩, by decide⟩
theorem mpX9_limit : plainName mX9_limit.1.cls = true := by decide +kernel
set_option maxRecDepth 20000 in
theorem miX9_limit : Cond.instanceMethod mX9_limit.1 ∈ ztb := ztb_in (zc6 (List.mem_of_getElem? (i := 110) rfl)) rfl
set_option maxRecDepth 20000 in
theorem msX9_limit : Cond.selects mX9_limit.1.cls mX9_limit.1 mX9_limit.1 ∈ ztb := ztb_in (zc6 (List.mem_of_getElem? (i := 111) rfl)) rfl
abbrev mX9_demand : zM := (yX9_demand, cX9_demand, 4, (some FieldType.int))
set_option maxRecDepth 20000 in
theorem mfX9_demand : zMf mX9_demand 3 := ⟨ztb_in (zc6 (List.mem_of_getElem? (i := 116) rfl)) rfl, ztb_in (zc1 (List.mem_of_getElem? (i := 10) rfl)) rfl, ⟨by decide +kernel, by decide +kernel, by decide +kernel⟩, by decide⟩
theorem mpX9_demand : plainName mX9_demand.1.cls = true := by decide +kernel
set_option maxRecDepth 20000 in
theorem miX9_demand : Cond.instanceMethod mX9_demand.1 ∈ ztb := ztb_in (zc6 (List.mem_of_getElem? (i := 114) rfl)) rfl
set_option maxRecDepth 20000 in
theorem msX9_demand : Cond.selects mX9_demand.1.cls mX9_demand.1 mX9_demand.1 ∈ ztb := ztb_in (zc6 (List.mem_of_getElem? (i := 115) rfl)) rfl
abbrev mX9_need : zM := (yX9_need, cX9_need, 4, (some FieldType.int))
set_option maxRecDepth 20000 in
theorem mfX9_need : zMf mX9_need 3 := ⟨ztb_in (zc6 (List.mem_of_getElem? (i := 120) rfl)) rfl, ztb_in (zc1 (List.mem_of_getElem? (i := 10) rfl)) rfl, ⟨by decide +kernel, by decide +kernel, by decide +kernel⟩, by decide⟩
theorem mpX9_need : plainName mX9_need.1.cls = true := by decide +kernel
set_option maxRecDepth 20000 in
theorem miX9_need : Cond.instanceMethod mX9_need.1 ∈ ztb := ztb_in (zc6 (List.mem_of_getElem? (i := 118) rfl)) rfl
set_option maxRecDepth 20000 in
theorem msX9_need : Cond.selects mX9_need.1.cls mX9_need.1 mX9_need.1 ∈ ztb := ztb_in (zc6 (List.mem_of_getElem? (i := 119) rfl)) rfl
abbrev mX9_lie : zM := (yX9_lie, cX9_lie, 3, (some FieldType.int))
set_option maxRecDepth 20000 in
theorem mfX9_lie : zMf mX9_lie 2 := ⟨ztb_in (zc6 (List.mem_of_getElem? (i := 124) rfl)) rfl, ztb_in (zc1 (List.mem_of_getElem? (i := 10) rfl)) rfl, ⟨by decide +kernel, by decide +kernel, by decide +kernel⟩, by decide⟩
theorem mpX9_lie : plainName mX9_lie.1.cls = true := by decide +kernel
set_option maxRecDepth 20000 in
theorem miX9_lie : Cond.instanceMethod mX9_lie.1 ∈ ztb := ztb_in (zc6 (List.mem_of_getElem? (i := 122) rfl)) rfl
set_option maxRecDepth 20000 in
theorem msX9_lie : Cond.selects mX9_lie.1.cls mX9_lie.1 mX9_lie.1 ∈ ztb := ztb_in (zc6 (List.mem_of_getElem? (i := 123) rfl)) rfl
abbrev mX9_mend : zM := (yX9_mend, cX9_mend, 2, (some FieldType.int))
set_option maxRecDepth 20000 in
theorem mfX9_mend : zMf mX9_mend 1 := ⟨ztb_in (zc6 (List.mem_of_getElem? (i := 128) rfl)) rfl, ztb_in (zc1 (List.mem_of_getElem? (i := 10) rfl)) rfl, ⟨by decide +kernel, by decide +kernel, by decide +kernel⟩, by decide⟩
theorem mpX9_mend : plainName mX9_mend.1.cls = true := by decide +kernel
set_option maxRecDepth 20000 in
theorem miX9_mend : Cond.instanceMethod mX9_mend.1 ∈ ztb := ztb_in (zc6 (List.mem_of_getElem? (i := 126) rfl)) rfl
set_option maxRecDepth 20000 in
theorem msX9_mend : Cond.selects mX9_mend.1.cls mX9_mend.1 mX9_mend.1 ∈ ztb := ztb_in (zc6 (List.mem_of_getElem? (i := 127) rfl)) rfl
abbrev mX9_tick : zM := (yX9_tick, cX9_tick, 3, (some FieldType.int))
set_option maxRecDepth 20000 in
theorem mfX9_tick : zMf mX9_tick 1 := ⟨ztb_in (zc6 (List.mem_of_getElem? (i := 132) rfl)) rfl, ztb_in (zc1 (List.mem_of_getElem? (i := 10) rfl)) rfl, ⟨by decide +kernel, by decide +kernel, by decide +kernel⟩, by decide⟩
theorem mpX9_tick : plainName mX9_tick.1.cls = true := by decide +kernel
set_option maxRecDepth 20000 in
theorem miX9_tick : Cond.instanceMethod mX9_tick.1 ∈ ztb := ztb_in (zc6 (List.mem_of_getElem? (i := 130) rfl)) rfl
set_option maxRecDepth 20000 in
theorem msX9_tick : Cond.selects mX9_tick.1.cls mX9_tick.1 mX9_tick.1 ∈ ztb := ztb_in (zc6 (List.mem_of_getElem? (i := 131) rfl)) rfl
abbrev mX9_undo : zM := (yX9_undo, cX9_undo, 1, (some FieldType.int))
set_option maxRecDepth 20000 in
theorem mfX9_undo : zMf mX9_undo 0 := ⟨ztb_in (zc6 (List.mem_of_getElem? (i := 136) rfl)) rfl, ztb_in (zc1 (List.mem_of_getElem? (i := 10) rfl)) rfl, ⟨by decide +kernel, by decide +kernel, by decide +kernel⟩, by decide⟩
theorem mpX9_undo : plainName mX9_undo.1.cls = true := by decide +kernel
set_option maxRecDepth 20000 in
theorem miX9_undo : Cond.instanceMethod mX9_undo.1 ∈ ztb := ztb_in (zc6 (List.mem_of_getElem? (i := 134) rfl)) rfl
set_option maxRecDepth 20000 in
theorem msX9_undo : Cond.selects mX9_undo.1.cls mX9_undo.1 mX9_undo.1 ∈ ztb := ztb_in (zc6 (List.mem_of_getElem? (i := 135) rfl)) rfl
abbrev mX9_replays : zM := (yX9_replays, cX9_replays, 2, none)
set_option maxRecDepth 20000 in
theorem mfX9_replays : zMf mX9_replays 0 := ⟨ztb_in (zc6 (List.mem_of_getElem? (i := 140) rfl)) rfl, ztb_in (zc1 (List.mem_of_getElem? (i := 10) rfl)) rfl, ⟨by decide +kernel, by decide +kernel, by decide +kernel⟩, by decide⟩
theorem mpX9_replays : plainName mX9_replays.1.cls = true := by decide +kernel
set_option maxRecDepth 20000 in
theorem miX9_replays : Cond.instanceMethod mX9_replays.1 ∈ ztb := ztb_in (zc6 (List.mem_of_getElem? (i := 139) rfl)) rfl
set_option maxRecDepth 20000 in
theorem msX9_replays : Cond.selects mX9_replays.1.cls mX9_replays.1 mX9_replays.1 ∈ ztb := ztb_in (zsel (List.mem_of_getElem? (i := 67) rfl)) rfl
abbrev mX9_steps : zM := (yX9_steps, cX9_steps, 1, (some FieldType.int))
set_option maxRecDepth 20000 in
theorem mfX9_steps : zMf mX9_steps 0 := ⟨ztb_in (zc6 (List.mem_of_getElem? (i := 144) rfl)) rfl, ztb_in (zc1 (List.mem_of_getElem? (i := 10) rfl)) rfl, ⟨by decide +kernel, by decide +kernel, by decide +kernel⟩, by decide⟩
theorem mpX9_steps : plainName mX9_steps.1.cls = true := by decide +kernel
set_option maxRecDepth 20000 in
theorem miX9_steps : Cond.instanceMethod mX9_steps.1 ∈ ztb := ztb_in (zc6 (List.mem_of_getElem? (i := 142) rfl)) rfl
set_option maxRecDepth 20000 in
theorem msX9_steps : Cond.selects mX9_steps.1.cls mX9_steps.1 mX9_steps.1 ∈ ztb := ztb_in (zc6 (List.mem_of_getElem? (i := 143) rfl)) rfl
abbrev mX9_now : zM := (yX9_now, cX9_now, 1, (some FieldType.int))
set_option maxRecDepth 20000 in
theorem mfX9_now : zMf mX9_now 0 := ⟨ztb_in (zc6 (List.mem_of_getElem? (i := 148) rfl)) rfl, ztb_in (zc1 (List.mem_of_getElem? (i := 10) rfl)) rfl, ⟨by decide +kernel, by decide +kernel, by decide +kernel⟩, by decide⟩
theorem mpX9_now : plainName mX9_now.1.cls = true := by decide +kernel
set_option maxRecDepth 20000 in
theorem miX9_now : Cond.instanceMethod mX9_now.1 ∈ ztb := ztb_in (zc6 (List.mem_of_getElem? (i := 146) rfl)) rfl
set_option maxRecDepth 20000 in
theorem msX9_now : Cond.selects mX9_now.1.cls mX9_now.1 mX9_now.1 ∈ ztb := ztb_in (zc6 (List.mem_of_getElem? (i := 147) rfl)) rfl
abbrev mX9_value : zM := (yX9_value, cX9_value, 2, (some FieldType.int))
set_option maxRecDepth 20000 in
theorem mfX9_value : zMf mX9_value 1 := ⟨ztb_in (zc6 (List.mem_of_getElem? (i := 152) rfl)) rfl, ztb_in (zc1 (List.mem_of_getElem? (i := 10) rfl)) rfl, ⟨by decide +kernel, by decide +kernel, by decide +kernel⟩, by decide⟩
theorem mpX9_value : plainName mX9_value.1.cls = true := by decide +kernel
set_option maxRecDepth 20000 in
theorem miX9_value : Cond.instanceMethod mX9_value.1 ∈ ztb := ztb_in (zc6 (List.mem_of_getElem? (i := 150) rfl)) rfl
set_option maxRecDepth 20000 in
theorem msX9_value : Cond.selects mX9_value.1.cls mX9_value.1 mX9_value.1 ∈ ztb := ztb_in (zc6 (List.mem_of_getElem? (i := 151) rfl)) rfl
abbrev mX9_valueAnew : zM := (yX9_valueAnew, cX9_valueAnew, 2, (some FieldType.int))
set_option maxRecDepth 20000 in
theorem mfX9_valueAnew : zMf mX9_valueAnew 1 := ⟨ztb_in (zc6 (List.mem_of_getElem? (i := 156) rfl)) rfl, ztb_in (zc1 (List.mem_of_getElem? (i := 10) rfl)) rfl, ⟨by decide +kernel, by decide +kernel, by decide +kernel⟩, by decide⟩
theorem mpX9_valueAnew : plainName mX9_valueAnew.1.cls = true := by decide +kernel
set_option maxRecDepth 20000 in
theorem miX9_valueAnew : Cond.instanceMethod mX9_valueAnew.1 ∈ ztb := ztb_in (zc6 (List.mem_of_getElem? (i := 154) rfl)) rfl
set_option maxRecDepth 20000 in
theorem msX9_valueAnew : Cond.selects mX9_valueAnew.1.cls mX9_valueAnew.1 mX9_valueAnew.1 ∈ ztb := ztb_in (zc6 (List.mem_of_getElem? (i := 155) rfl)) rfl
abbrev mX9_worth : zM := (yX9_worth, cX9_worth, 2, (some FieldType.int))
set_option maxRecDepth 20000 in
theorem mfX9_worth : zMf mX9_worth 1 := ⟨ztb_in (zc6 (List.mem_of_getElem? (i := 161) rfl)) rfl, ztb_in (zc1 (List.mem_of_getElem? (i := 10) rfl)) rfl, ⟨by decide +kernel, by decide +kernel, by decide +kernel⟩, by decide⟩
theorem mpX9_worth : plainName mX9_worth.1.cls = true := by decide +kernel
set_option maxRecDepth 20000 in
theorem miX9_worth : Cond.instanceMethod mX9_worth.1 ∈ ztb := ztb_in (zc6 (List.mem_of_getElem? (i := 159) rfl)) rfl
set_option maxRecDepth 20000 in
theorem msX9_worth : Cond.selects mX9_worth.1.cls mX9_worth.1 mX9_worth.1 ∈ ztb := ztb_in (zc6 (List.mem_of_getElem? (i := 160) rfl)) rfl
abbrev mX9_depth : zM := (yX9_depth, cX9_depth, 2, (some FieldType.int))
set_option maxRecDepth 20000 in
theorem mfX9_depth : zMf mX9_depth 1 := ⟨ztb_in (zc6 (List.mem_of_getElem? (i := 165) rfl)) rfl, ztb_in (zc1 (List.mem_of_getElem? (i := 10) rfl)) rfl, ⟨by decide +kernel, by decide +kernel, by decide +kernel⟩, by decide⟩
theorem mpX9_depth : plainName mX9_depth.1.cls = true := by decide +kernel
set_option maxRecDepth 20000 in
theorem miX9_depth : Cond.instanceMethod mX9_depth.1 ∈ ztb := ztb_in (zc6 (List.mem_of_getElem? (i := 163) rfl)) rfl
set_option maxRecDepth 20000 in
theorem msX9_depth : Cond.selects mX9_depth.1.cls mX9_depth.1 mX9_depth.1 ∈ ztb := ztb_in (zc6 (List.mem_of_getElem? (i := 164) rfl)) rfl
abbrev mX9_isStale : zM := (yX9_isStale, cX9_isStale, 2, (some FieldType.boolean))
set_option maxRecDepth 20000 in
theorem mfX9_isStale : zMf mX9_isStale 1 := ⟨ztb_in (zc6 (List.mem_of_getElem? (i := 169) rfl)) rfl, ztb_in (zc1 (List.mem_of_getElem? (i := 10) rfl)) rfl, ⟨by decide +kernel, by decide +kernel, by decide +kernel⟩, by decide⟩
theorem mpX9_isStale : plainName mX9_isStale.1.cls = true := by decide +kernel
set_option maxRecDepth 20000 in
theorem miX9_isStale : Cond.instanceMethod mX9_isStale.1 ∈ ztb := ztb_in (zc6 (List.mem_of_getElem? (i := 167) rfl)) rfl
set_option maxRecDepth 20000 in
theorem msX9_isStale : Cond.selects mX9_isStale.1.cls mX9_isStale.1 mX9_isStale.1 ∈ ztb := ztb_in (zc6 (List.mem_of_getElem? (i := 168) rfl)) rfl
abbrev mX9_work : zM := (yX9_work, cX9_work, 1, (some FieldType.int))
set_option maxRecDepth 20000 in
theorem mfX9_work : zMf mX9_work 0 := ⟨ztb_in (zc6 (List.mem_of_getElem? (i := 173) rfl)) rfl, ztb_in (zc1 (List.mem_of_getElem? (i := 10) rfl)) rfl, ⟨by decide +kernel, by decide +kernel, by decide +kernel⟩, by decide⟩
theorem mpX9_work : plainName mX9_work.1.cls = true := by decide +kernel
set_option maxRecDepth 20000 in
theorem miX9_work : Cond.instanceMethod mX9_work.1 ∈ ztb := ztb_in (zc6 (List.mem_of_getElem? (i := 171) rfl)) rfl
set_option maxRecDepth 20000 in
theorem msX9_work : Cond.selects mX9_work.1.cls mX9_work.1 mX9_work.1 ∈ ztb := ztb_in (zc6 (List.mem_of_getElem? (i := 172) rfl)) rfl
abbrev mX9_state : zM := (yX9_state, cX9_state, 2, (some FieldType.int))
set_option maxRecDepth 20000 in
theorem mfX9_state : zMf mX9_state 1 := ⟨ztb_in (zc6 (List.mem_of_getElem? (i := 177) rfl)) rfl, ztb_in (zc1 (List.mem_of_getElem? (i := 10) rfl)) rfl, ⟨by decide +kernel, by decide +kernel, by decide +kernel⟩, by decide⟩
theorem mpX9_state : plainName mX9_state.1.cls = true := by decide +kernel
set_option maxRecDepth 20000 in
theorem miX9_state : Cond.instanceMethod mX9_state.1 ∈ ztb := ztb_in (zc6 (List.mem_of_getElem? (i := 175) rfl)) rfl
set_option maxRecDepth 20000 in
theorem msX9_state : Cond.selects mX9_state.1.cls mX9_state.1 mX9_state.1 ∈ ztb := ztb_in (zc6 (List.mem_of_getElem? (i := 176) rfl)) rfl
abbrev mX9_load : zM := (yX9_load, cX9_load, 2, (some FieldType.int))
set_option maxRecDepth 20000 in
theorem mfX9_load : zMf mX9_load 1 := ⟨ztb_in (zc6 (List.mem_of_getElem? (i := 181) rfl)) rfl, ztb_in (zc1 (List.mem_of_getElem? (i := 10) rfl)) rfl, ⟨by decide +kernel, by decide +kernel, by decide +kernel⟩, by decide⟩
theorem mpX9_load : plainName mX9_load.1.cls = true := by decide +kernel
set_option maxRecDepth 20000 in
theorem miX9_load : Cond.instanceMethod mX9_load.1 ∈ ztb := ztb_in (zc6 (List.mem_of_getElem? (i := 179) rfl)) rfl
set_option maxRecDepth 20000 in
theorem msX9_load : Cond.selects mX9_load.1.cls mX9_load.1 mX9_load.1 ∈ ztb := ztb_in (zc6 (List.mem_of_getElem? (i := 180) rfl)) rfl
abbrev mX9_told : zM := (yX9_told, cX9_told, 2, (some FieldType.int))
set_option maxRecDepth 20000 in
theorem mfX9_told : zMf mX9_told 1 := ⟨ztb_in (zc6 (List.mem_of_getElem? (i := 185) rfl)) rfl, ztb_in (zc1 (List.mem_of_getElem? (i := 10) rfl)) rfl, ⟨by decide +kernel, by decide +kernel, by decide +kernel⟩, by decide⟩
theorem mpX9_told : plainName mX9_told.1.cls = true := by decide +kernel
set_option maxRecDepth 20000 in
theorem miX9_told : Cond.instanceMethod mX9_told.1 ∈ ztb := ztb_in (zc6 (List.mem_of_getElem? (i := 183) rfl)) rfl
set_option maxRecDepth 20000 in
theorem msX9_told : Cond.selects mX9_told.1.cls mX9_told.1 mX9_told.1 ∈ ztb := ztb_in (zc6 (List.mem_of_getElem? (i := 184) rfl)) rfl
abbrev mX9_starts : zM := (yX9_starts, cX9_starts, 2, (some FieldType.int))
set_option maxRecDepth 20000 in
theorem mfX9_starts : zMf mX9_starts 1 := ⟨ztb_in (zc6 (List.mem_of_getElem? (i := 189) rfl)) rfl, ztb_in (zc1 (List.mem_of_getElem? (i := 10) rfl)) rfl, ⟨by decide +kernel, by decide +kernel, by decide +kernel⟩, by decide⟩
theorem mpX9_starts : plainName mX9_starts.1.cls = true := by decide +kernel
set_option maxRecDepth 20000 in
theorem miX9_starts : Cond.instanceMethod mX9_starts.1 ∈ ztb := ztb_in (zc6 (List.mem_of_getElem? (i := 187) rfl)) rfl
set_option maxRecDepth 20000 in
theorem msX9_starts : Cond.selects mX9_starts.1.cls mX9_starts.1 mX9_starts.1 ∈ ztb := ztb_in (zc6 (List.mem_of_getElem? (i := 188) rfl)) rfl
abbrev mX9_trial : zM := (yX9_trial, cX9_trial, 4, (some FieldType.int))
set_option maxRecDepth 20000 in
theorem mfX9_trial : zMf mX9_trial 1 := ⟨ztb_in (zc6 (List.mem_of_getElem? (i := 193) rfl)) rfl, ztb_in (zc1 (List.mem_of_getElem? (i := 10) rfl)) rfl, ⟨by decide +kernel, by decide +kernel, by decide +kernel⟩, by decide⟩
theorem mpX9_trial : plainName mX9_trial.1.cls = true := by decide +kernel
set_option maxRecDepth 20000 in
theorem miX9_trial : Cond.instanceMethod mX9_trial.1 ∈ ztb := ztb_in (zc6 (List.mem_of_getElem? (i := 191) rfl)) rfl
set_option maxRecDepth 20000 in
theorem msX9_trial : Cond.selects mX9_trial.1.cls mX9_trial.1 mX9_trial.1 ∈ ztb := ztb_in (zc6 (List.mem_of_getElem? (i := 192) rfl)) rfl
abbrev mX9_readsAll : zM := (yX9_readsAll, cX9_readsAll, 2, none)
set_option maxRecDepth 20000 in
theorem mfX9_readsAll : zMf mX9_readsAll 0 := ⟨ztb_in (zc6 (List.mem_of_getElem? (i := 197) rfl)) rfl, ztb_in (zc1 (List.mem_of_getElem? (i := 10) rfl)) rfl, ⟨by decide +kernel, by decide +kernel, by decide +kernel⟩, by decide⟩
theorem mpX9_readsAll : plainName mX9_readsAll.1.cls = true := by decide +kernel
set_option maxRecDepth 20000 in
theorem miX9_readsAll : Cond.instanceMethod mX9_readsAll.1 ∈ ztb := ztb_in (zc6 (List.mem_of_getElem? (i := 196) rfl)) rfl
set_option maxRecDepth 20000 in
theorem msX9_readsAll : Cond.selects mX9_readsAll.1.cls mX9_readsAll.1 mX9_readsAll.1 ∈ ztb := ztb_in (zsel (List.mem_of_getElem? (i := 68) rfl)) rfl
abbrev mX9_isLoop : zM := (yX9_isLoop, cX9_isLoop, 5, (some FieldType.boolean))
set_option maxRecDepth 20000 in
theorem mfX9_isLoop : zMf mX9_isLoop 1 := ⟨ztb_in (zc6 (List.mem_of_getElem? (i := 201) rfl)) rfl, ztb_in (zc1 (List.mem_of_getElem? (i := 10) rfl)) rfl, ⟨by decide +kernel, by decide +kernel, by decide +kernel⟩, by decide⟩
theorem mpX9_isLoop : plainName mX9_isLoop.1.cls = true := by decide +kernel
set_option maxRecDepth 20000 in
theorem miX9_isLoop : Cond.instanceMethod mX9_isLoop.1 ∈ ztb := ztb_in (zc6 (List.mem_of_getElem? (i := 199) rfl)) rfl
set_option maxRecDepth 20000 in
theorem msX9_isLoop : Cond.selects mX9_isLoop.1.cls mX9_isLoop.1 mX9_isLoop.1 ∈ ztb := ztb_in (zc6 (List.mem_of_getElem? (i := 200) rfl)) rfl
abbrev mX9_hangsOn : zM := (yX9_hangsOn, cX9_hangsOn, 6, (some FieldType.int))
set_option maxRecDepth 20000 in
theorem mfX9_hangsOn : zMf mX9_hangsOn 1 := ⟨ztb_in (zc6 (List.mem_of_getElem? (i := 205) rfl)) rfl, ztb_in (zc1 (List.mem_of_getElem? (i := 10) rfl)) rfl, ⟨by decide +kernel, by decide +kernel, by decide +kernel⟩, by decide⟩
theorem mpX9_hangsOn : plainName mX9_hangsOn.1.cls = true := by decide +kernel
set_option maxRecDepth 20000 in
theorem miX9_hangsOn : Cond.instanceMethod mX9_hangsOn.1 ∈ ztb := ztb_in (zc6 (List.mem_of_getElem? (i := 204) rfl)) rfl
set_option maxRecDepth 20000 in
theorem msX9_hangsOn : Cond.selects mX9_hangsOn.1.cls mX9_hangsOn.1 mX9_hangsOn.1 ∈ ztb := ztb_in (zsel (List.mem_of_getElem? (i := 69) rfl)) rfl
set_option maxRecDepth 20000 in
theorem kL_94 : Cond.methodLink RL 94 mX8_init.1 ∈ ztb ∨ ∃ host, Cond.methodLinkNest RL 94 mX8_init.1 host ∈ lw_tbl := Or.inl (ztb_in (zc1 (List.mem_of_getElem? (i := 27) rfl)) rfl)
set_option maxRecDepth 20000 in
theorem kX8_3 : Cond.methodLink RX8 3 Lib.objectInit ∈ ztb := ztb_in (zc1 (List.mem_of_getElem? (i := 30) rfl)) rfl
set_option maxRecDepth 20000 in
theorem kX8_11 : Cond.methodLink RX8 11 mX7_init.1 ∈ ztb ∨ ∃ host, Cond.methodLinkNest RX8 11 mX7_init.1 host ∈ lw_tbl := Or.inr ⟨"Daemonsheet", (zc1 (List.mem_of_getElem? (i := 35) rfl))⟩
set_option maxRecDepth 20000 in
theorem kX7_3 : Cond.methodLink RX7 3 Lib.objectInit ∈ ztb := ztb_in (zc1 (List.mem_of_getElem? (i := 38) rfl)) rfl
set_option maxRecDepth 20000 in
theorem kX8_18 : Cond.methodLink RX8 18 mX2_init.1 ∈ ztb ∨ ∃ host, Cond.methodLinkNest RX8 18 mX2_init.1 host ∈ lw_tbl := Or.inl (ztb_in (zc1 (List.mem_of_getElem? (i := 51) rfl)) rfl)
set_option maxRecDepth 20000 in
theorem kX2_3 : Cond.methodLink RX2 3 Lib.objectInit ∈ ztb := ztb_in (zc1 (List.mem_of_getElem? (i := 54) rfl)) rfl
set_option maxRecDepth 20000 in
theorem kX8_27 : Cond.methodLink RX8 27 mX6_init.1 ∈ ztb ∨ ∃ host, Cond.methodLinkNest RX8 27 mX6_init.1 host ∈ lw_tbl := Or.inl (ztb_in (zc1 (List.mem_of_getElem? (i := 77) rfl)) rfl)
set_option maxRecDepth 20000 in
theorem kX6_3 : Cond.methodLink RX6 3 Lib.objectInit ∈ ztb := ztb_in (zc1 (List.mem_of_getElem? (i := 80) rfl)) rfl
set_option maxRecDepth 20000 in
theorem kX6_11 : Cond.methodLink RX6 11 mX1_init.1 ∈ ztb ∨ ∃ host, Cond.methodLinkNest RX6 11 mX1_init.1 host ∈ lw_tbl := Or.inl (ztb_in (zc1 (List.mem_of_getElem? (i := 83) rfl)) rfl)
set_option maxRecDepth 20000 in
theorem kX1_1 : Cond.methodLink RX1 1 Lib.objectInit ∈ ztb := ztb_in (zc1 (List.mem_of_getElem? (i := 86) rfl)) rfl
set_option maxRecDepth 20000 in
theorem kX6_55 : Cond.methodLink RX6 55 mX0_init.1 ∈ ztb ∨ ∃ host, Cond.methodLinkNest RX6 55 mX0_init.1 host ∈ lw_tbl := Or.inl (ztb_in (zc1 (List.mem_of_getElem? (i := 104) rfl)) rfl)
set_option maxRecDepth 20000 in
theorem kX0_1 : Cond.methodLink RX0 1 Lib.objectInit ∈ ztb := ztb_in (zc1 (List.mem_of_getElem? (i := 107) rfl)) rfl
set_option maxRecDepth 20000 in
theorem kX6_58 : Cond.methodLink RX6 58 mX3_init.1 ∈ ztb ∨ ∃ host, Cond.methodLinkNest RX6 58 mX3_init.1 host ∈ lw_tbl := Or.inr ⟨"Daemonsheet", (zc1 (List.mem_of_getElem? (i := 134) rfl))⟩
set_option maxRecDepth 20000 in
theorem kX3_3 : Cond.methodLink RX3 3 Lib.objectInit ∈ ztb := ztb_in (zc1 (List.mem_of_getElem? (i := 137) rfl)) rfl
set_option maxRecDepth 20000 in
theorem kX6_59 : Cond.methodLink RX6 59 mX4_init.1 ∈ ztb ∨ ∃ host, Cond.methodLinkNest RX6 59 mX4_init.1 host ∈ lw_tbl := Or.inl (ztb_in (zc1 (List.mem_of_getElem? (i := 148) rfl)) rfl)
set_option maxRecDepth 20000 in
theorem kX4_3 : Cond.methodLink RX4 3 Lib.objectInit ∈ ztb := ztb_in (zc1 (List.mem_of_getElem? (i := 151) rfl)) rfl
set_option maxRecDepth 20000 in
theorem kX8_45 : Cond.methodLink RX8 45 mX5_init.1 ∈ ztb ∨ ∃ host, Cond.methodLinkNest RX8 45 mX5_init.1 host ∈ lw_tbl := Or.inl (ztb_in (zc2 (List.mem_of_getElem? (i := 5) rfl)) rfl)
set_option maxRecDepth 20000 in
theorem kX5_1 : Cond.methodLink RX5 1 Lib.objectInit ∈ ztb := ztb_in (zc2 (List.mem_of_getElem? (i := 8) rfl)) rfl
set_option maxRecDepth 20000 in
theorem kL_107 : Cond.methodLink RL 107 mX8_wipe.1 ∈ ztb ∨ ∃ host, Cond.methodLinkNest RL 107 mX8_wipe.1 host ∈ lw_tbl := Or.inl (ztb_in (zc2 (List.mem_of_getElem? (i := 57) rfl)) rfl)
set_option maxRecDepth 20000 in
theorem kL_111 : Cond.methodLink RL 111 mX8_fault.1 ∈ ztb ∨ ∃ host, Cond.methodLinkNest RL 111 mX8_fault.1 host ∈ lw_tbl := Or.inl (ztb_in (zc2 (List.mem_of_getElem? (i := 61) rfl)) rfl)
set_option maxRecDepth 20000 in
theorem kX8_87 : Cond.methodLink RX8 87 mX2_findFault.1 ∈ ztb ∨ ∃ host, Cond.methodLinkNest RX8 87 mX2_findFault.1 host ∈ lw_tbl := Or.inl (ztb_in (zc2 (List.mem_of_getElem? (i := 65) rfl)) rfl)
set_option maxRecDepth 20000 in
theorem kX2_33 : Cond.methodLink RX2 33 mX2_passFormula.1 ∈ ztb ∨ ∃ host, Cond.methodLinkNest RX2 33 mX2_passFormula.1 host ∈ lw_tbl := Or.inl (ztb_in (zc2 (List.mem_of_getElem? (i := 69) rfl)) rfl)
set_option maxRecDepth 20000 in
theorem kX2_59 : Cond.methodLink RX2 59 mX2_passSum.1 ∈ ztb ∨ ∃ host, Cond.methodLinkNest RX2 59 mX2_passSum.1 host ∈ lw_tbl := Or.inl (ztb_in (zc2 (List.mem_of_getElem? (i := 73) rfl)) rfl)
set_option maxRecDepth 20000 in
theorem kX2_74 : Cond.methodLink RX2 74 mX2_passProduct.1 ∈ ztb ∨ ∃ host, Cond.methodLinkNest RX2 74 mX2_passProduct.1 host ∈ lw_tbl := Or.inl (ztb_in (zc2 (List.mem_of_getElem? (i := 77) rfl)) rfl)
set_option maxRecDepth 20000 in
theorem kX2_77 : Cond.methodLink RX2 77 mX2_passPart.1 ∈ ztb ∨ ∃ host, Cond.methodLinkNest RX2 77 mX2_passPart.1 host ∈ lw_tbl := Or.inl (ztb_in (zc2 (List.mem_of_getElem? (i := 81) rfl)) rfl)
set_option maxRecDepth 20000 in
theorem kX2_62 : Cond.methodLink RX2 62 mX7_letterAt.1 ∈ ztb ∨ ∃ host, Cond.methodLinkNest RX2 62 mX7_letterAt.1 host ∈ lw_tbl := Or.inl (ztb_in (zc2 (List.mem_of_getElem? (i := 85) rfl)) rfl)
set_option maxRecDepth 20000 in
theorem kX2_80 : Cond.methodLink RX2 80 mX8_isFigure.1 ∈ ztb ∨ ∃ host, Cond.methodLinkNest RX2 80 mX8_isFigure.1 host ∈ lw_tbl := Or.inr ⟨"Daemonsheet", (zc2 (List.mem_of_getElem? (i := 89) rfl))⟩
set_option maxRecDepth 20000 in
theorem kX2_84 : Cond.methodLink RX2 84 mX2_passNumber.1 ∈ ztb ∨ ∃ host, Cond.methodLinkNest RX2 84 mX2_passNumber.1 host ∈ lw_tbl := Or.inl (ztb_in (zc2 (List.mem_of_getElem? (i := 92) rfl)) rfl)
set_option maxRecDepth 20000 in
theorem kX2_70 : Cond.methodLink RX2 70 mX2_write.1 ∈ ztb ∨ ∃ host, Cond.methodLinkNest RX2 70 mX2_write.1 host ∈ lw_tbl := Or.inl (ztb_in (zc2 (List.mem_of_getElem? (i := 96) rfl)) rfl)
set_option maxRecDepth 20000 in
theorem kX2_87 : Cond.methodLink RX2 87 mX2_passBrackets.1 ∈ ztb ∨ ∃ host, Cond.methodLinkNest RX2 87 mX2_passBrackets.1 host ∈ lw_tbl := Or.inl (ztb_in (zc2 (List.mem_of_getElem? (i := 100) rfl)) rfl)
set_option maxRecDepth 20000 in
theorem kX2_101 : Cond.methodLink RX2 101 mX2_passSign.1 ∈ ztb ∨ ∃ host, Cond.methodLinkNest RX2 101 mX2_passSign.1 host ∈ lw_tbl := Or.inl (ztb_in (zc2 (List.mem_of_getElem? (i := 104) rfl)) rfl)
set_option maxRecDepth 20000 in
theorem kX2_90 : Cond.methodLink RX2 90 mX2_passName.1 ∈ ztb ∨ ∃ host, Cond.methodLinkNest RX2 90 mX2_passName.1 host ∈ lw_tbl := Or.inl (ztb_in (zc2 (List.mem_of_getElem? (i := 108) rfl)) rfl)
set_option maxRecDepth 20000 in
theorem kX2_94 : Cond.methodLink RX2 94 mX2_figureAt.1 ∈ ztb ∨ ∃ host, Cond.methodLinkNest RX2 94 mX2_figureAt.1 host ∈ lw_tbl := Or.inl (ztb_in (zc2 (List.mem_of_getElem? (i := 112) rfl)) rfl)
set_option maxRecDepth 20000 in
theorem kX2_98 : Cond.methodLink RX2 98 mX8_bit.1 ∈ ztb ∨ ∃ host, Cond.methodLinkNest RX2 98 mX8_bit.1 host ∈ lw_tbl := Or.inr ⟨"Daemonsheet", (zc2 (List.mem_of_getElem? (i := 116) rfl))⟩
set_option maxRecDepth 20000 in
theorem kX2_66 : Cond.methodLink RX2 66 mX2_comparisonOf.1 ∈ ztb ∨ ∃ host, Cond.methodLinkNest RX2 66 mX2_comparisonOf.1 host ∈ lw_tbl := Or.inl (ztb_in (zc2 (List.mem_of_getElem? (i := 119) rfl)) rfl)
set_option maxRecDepth 20000 in
theorem kL_156 : Cond.methodLink RL 156 mX8_steps.1 ∈ ztb ∨ ∃ host, Cond.methodLinkNest RL 156 mX8_steps.1 host ∈ lw_tbl := Or.inl (ztb_in (zc2 (List.mem_of_getElem? (i := 122) rfl)) rfl)
set_option maxRecDepth 20000 in
theorem kL_160 : Cond.methodLink RL 160 mX8_now.1 ∈ ztb ∨ ∃ host, Cond.methodLinkNest RL 160 mX8_now.1 host ∈ lw_tbl := Or.inl (ztb_in (zc2 (List.mem_of_getElem? (i := 126) rfl)) rfl)
set_option maxRecDepth 20000 in
theorem kL_179 : Cond.methodLink RL 179 mX8_work.1 ∈ ztb ∨ ∃ host, Cond.methodLinkNest RL 179 mX8_work.1 host ∈ lw_tbl := Or.inl (ztb_in (zc2 (List.mem_of_getElem? (i := 130) rfl)) rfl)
set_option maxRecDepth 20000 in
theorem kL_7 : Cond.methodLink RL 7 mX8_type.1 ∈ ztb ∨ ∃ host, Cond.methodLinkNest RL 7 mX8_type.1 host ∈ lw_tbl := Or.inl (ztb_in (zc2 (List.mem_of_getElem? (i := 139) rfl)) rfl)
set_option maxRecDepth 20000 in
theorem kX8_52 : Cond.methodLink RX8 52 mX8_isFigure.1 ∈ ztb ∨ ∃ host, Cond.methodLinkNest RX8 52 mX8_isFigure.1 host ∈ lw_tbl := Or.inl (ztb_in (zc2 (List.mem_of_getElem? (i := 143) rfl)) rfl)
set_option maxRecDepth 20000 in
theorem kX8_71 : Cond.methodLink RX8 71 mX7_isFull.1 ∈ ztb ∨ ∃ host, Cond.methodLinkNest RX8 71 mX7_isFull.1 host ∈ lw_tbl := Or.inl (ztb_in (zc3 (List.mem_of_getElem? (i := 59) rfl)) rfl)
set_option maxRecDepth 20000 in
theorem kX8_80 : Cond.methodLink RX8 80 mX7_add.1 ∈ ztb ∨ ∃ host, Cond.methodLinkNest RX8 80 mX7_add.1 host ∈ lw_tbl := Or.inl (ztb_in (zc3 (List.mem_of_getElem? (i := 79) rfl)) rfl)
set_option maxRecDepth 20000 in
theorem kL_17 : Cond.methodLink RL 17 mX8_formula.1 ∈ ztb ∨ ∃ host, Cond.methodLinkNest RL 17 mX8_formula.1 host ∈ lw_tbl := Or.inl (ztb_in (zc3 (List.mem_of_getElem? (i := 87) rfl)) rfl)
set_option maxRecDepth 20000 in
theorem kX8_91 : Cond.methodLink RX8 91 mX8_checkCell.1 ∈ ztb ∨ ∃ host, Cond.methodLinkNest RX8 91 mX8_checkCell.1 host ∈ lw_tbl := Or.inl (ztb_in (zc3 (List.mem_of_getElem? (i := 91) rfl)) rfl)
set_option maxRecDepth 20000 in
theorem kX8_135 : Cond.methodLink RX8 135 mX8_checkPlace.1 ∈ ztb ∨ ∃ host, Cond.methodLinkNest RX8 135 mX8_checkPlace.1 host ∈ lw_tbl := Or.inl (ztb_in (zc3 (List.mem_of_getElem? (i := 94) rfl)) rfl)
set_option maxRecDepth 20000 in
theorem kX8_97 : Cond.methodLink RX8 97 mX2_makeFormula.1 ∈ ztb ∨ ∃ host, Cond.methodLinkNest RX8 97 mX2_makeFormula.1 host ∈ lw_tbl := Or.inl (ztb_in (zc3 (List.mem_of_getElem? (i := 114) rfl)) rfl)
set_option maxRecDepth 20000 in
theorem kX2_56 : Cond.methodLink RX2 56 mX1_init.1 ∈ ztb ∨ ∃ host, Cond.methodLinkNest RX2 56 mX1_init.1 host ∈ lw_tbl := Or.inl (ztb_in (zc3 (List.mem_of_getElem? (i := 134) rfl)) rfl)
set_option maxRecDepth 20000 in
theorem kX8_106 : Cond.methodLink RX8 106 mX6_withAllRead.1 ∈ ztb ∨ ∃ host, Cond.methodLinkNest RX8 106 mX6_withAllRead.1 host ∈ lw_tbl := Or.inl (ztb_in (zc3 (List.mem_of_getElem? (i := 135) rfl)) rfl)
set_option maxRecDepth 20000 in
theorem kX6_184 : Cond.methodLink RX6 184 mX8_has.1 ∈ ztb ∨ ∃ host, Cond.methodLinkNest RX6 184 mX8_has.1 host ∈ lw_tbl := Or.inr ⟨"Daemonsheet", (zc3 (List.mem_of_getElem? (i := 139) rfl))⟩
set_option maxRecDepth 20000 in
theorem kX8_109 : Cond.methodLink RX8 109 mX8_has.1 ∈ ztb ∨ ∃ host, Cond.methodLinkNest RX8 109 mX8_has.1 host ∈ lw_tbl := Or.inl (ztb_in (zc3 (List.mem_of_getElem? (i := 142) rfl)) rfl)
set_option maxRecDepth 20000 in
theorem kX8_115 : Cond.methodLink RX8 115 mX8_keep.1 ∈ ztb ∨ ∃ host, Cond.methodLinkNest RX8 115 mX8_keep.1 host ∈ lw_tbl := Or.inl (ztb_in (zc3 (List.mem_of_getElem? (i := 144) rfl)) rfl)
set_option maxRecDepth 20000 in
theorem kX8_214 : Cond.methodLink RX8 214 mX6_tell.1 ∈ ztb ∨ ∃ host, Cond.methodLinkNest RX8 214 mX6_tell.1 host ∈ lw_tbl := Or.inl (ztb_in (zc3 (List.mem_of_getElem? (i := 149) rfl)) rfl)
set_option maxRecDepth 20000 in
theorem kX6_96 : Cond.methodLink RX6 96 mX6_change.1 ∈ ztb ∨ ∃ host, Cond.methodLinkNest RX6 96 mX6_change.1 host ∈ lw_tbl := Or.inl (ztb_in (zc3 (List.mem_of_getElem? (i := 153) rfl)) rfl)
set_option maxRecDepth 20000 in
theorem kX6_111 : Cond.methodLink RX6 111 mX6_changeReading.1 ∈ ztb ∨ ∃ host, Cond.methodLinkNest RX6 111 mX6_changeReading.1 host ∈ lw_tbl := Or.inl (ztb_in (zc3 (List.mem_of_getElem? (i := 157) rfl)) rfl)
set_option maxRecDepth 20000 in
theorem kX6_127 : Cond.methodLink RX6 127 mX6_soilReaders.1 ∈ ztb ∨ ∃ host, Cond.methodLinkNest RX6 127 mX6_soilReaders.1 host ∈ lw_tbl := Or.inl (ztb_in (zc3 (List.mem_of_getElem? (i := 161) rfl)) rfl)
set_option maxRecDepth 20000 in
theorem kX6_83 : Cond.methodLink RX6 83 mX8_bit.1 ∈ ztb ∨ ∃ host, Cond.methodLinkNest RX6 83 mX8_bit.1 host ∈ lw_tbl := Or.inr ⟨"Daemonsheet", (zc3 (List.mem_of_getElem? (i := 165) rfl))⟩
set_option maxRecDepth 20000 in
theorem kX6_114 : Cond.methodLink RX6 114 mX6_changeCell.1 ∈ ztb ∨ ∃ host, Cond.methodLinkNest RX6 114 mX6_changeCell.1 host ∈ lw_tbl := Or.inl (ztb_in (zc3 (List.mem_of_getElem? (i := 166) rfl)) rfl)
set_option maxRecDepth 20000 in
theorem kX6_133 : Cond.methodLink RX6 133 mX6_setValue.1 ∈ ztb ∨ ∃ host, Cond.methodLinkNest RX6 133 mX6_setValue.1 host ∈ lw_tbl := Or.inl (ztb_in (zc3 (List.mem_of_getElem? (i := 170) rfl)) rfl)
set_option maxRecDepth 20000 in
theorem kX6_79 : Cond.methodLink RX6 79 mX6_arrange.1 ∈ ztb ∨ ∃ host, Cond.methodLinkNest RX6 79 mX6_arrange.1 host ∈ lw_tbl := Or.inl (ztb_in (zc3 (List.mem_of_getElem? (i := 174) rfl)) rfl)
set_option maxRecDepth 20000 in
theorem kX6_117 : Cond.methodLink RX6 117 mX6_changeService.1 ∈ ztb ∨ ∃ host, Cond.methodLinkNest RX6 117 mX6_changeService.1 host ∈ lw_tbl := Or.inl (ztb_in (zc3 (List.mem_of_getElem? (i := 178) rfl)) rfl)
set_option maxRecDepth 20000 in
theorem kX6_100 : Cond.methodLink RX6 100 mX6_settle.1 ∈ ztb ∨ ∃ host, Cond.methodLinkNest RX6 100 mX6_settle.1 host ∈ lw_tbl := Or.inl (ztb_in (zc3 (List.mem_of_getElem? (i := 182) rfl)) rfl)
set_option maxRecDepth 20000 in
theorem kX6_162 : Cond.methodLink RX6 162 mX6_forgetChanges.1 ∈ ztb ∨ ∃ host, Cond.methodLinkNest RX6 162 mX6_forgetChanges.1 host ∈ lw_tbl := Or.inl (ztb_in (zc3 (List.mem_of_getElem? (i := 186) rfl)) rfl)
set_option maxRecDepth 20000 in
theorem kX6_165 : Cond.methodLink RX6 165 mX6_workOutDirtyCells.1 ∈ ztb ∨ ∃ host, Cond.methodLinkNest RX6 165 mX6_workOutDirtyCells.1 host ∈ lw_tbl := Or.inl (ztb_in (zc3 (List.mem_of_getElem? (i := 190) rfl)) rfl)
set_option maxRecDepth 20000 in
theorem kX6_188 : Cond.methodLink RX6 188 mX6_valueOf.1 ∈ ztb ∨ ∃ host, Cond.methodLinkNest RX6 188 mX6_valueOf.1 host ∈ lw_tbl := Or.inl (ztb_in (zc3 (List.mem_of_getElem? (i := 194) rfl)) rfl)
set_option maxRecDepth 20000 in
theorem kX6_235 : Cond.methodLink RX6 235 mX6_valueNamed.1 ∈ ztb ∨ ∃ host, Cond.methodLinkNest RX6 235 mX6_valueNamed.1 host ∈ lw_tbl := Or.inl (ztb_in (zc3 (List.mem_of_getElem? (i := 200) rfl)) rfl)
set_option maxRecDepth 20000 in
theorem kX6_217 : Cond.methodLink RX6 217 mX6_cellValue.1 ∈ ztb ∨ ∃ host, Cond.methodLinkNest RX6 217 mX6_cellValue.1 host ∈ lw_tbl := Or.inl (ztb_in (zc3 (List.mem_of_getElem? (i := 204) rfl)) rfl)
set_option maxRecDepth 20000 in
theorem kX6_238 : Cond.methodLink RX6 238 mX6_combine.1 ∈ ztb ∨ ∃ host, Cond.methodLinkNest RX6 238 mX6_combine.1 host ∈ lw_tbl := Or.inl (ztb_in (zc3 (List.mem_of_getElem? (i := 208) rfl)) rfl)
set_option maxRecDepth 20000 in
theorem kX6_242 : Cond.methodLink RX6 242 mX8_within.1 ∈ ztb ∨ ∃ host, Cond.methodLinkNest RX6 242 mX8_within.1 host ∈ lw_tbl := Or.inr ⟨"Daemonsheet", (zc3 (List.mem_of_getElem? (i := 213) rfl))⟩
set_option maxRecDepth 20000 in
theorem kX6_168 : Cond.methodLink RX6 168 mX6_lookAtServices.1 ∈ ztb ∨ ∃ host, Cond.methodLinkNest RX6 168 mX6_lookAtServices.1 host ∈ lw_tbl := Or.inl (ztb_in (zc3 (List.mem_of_getElem? (i := 224) rfl)) rfl)
set_option maxRecDepth 20000 in
theorem kX6_199 : Cond.methodLink RX6 199 mX6_nextState.1 ∈ ztb ∨ ∃ host, Cond.methodLinkNest RX6 199 mX6_nextState.1 host ∈ lw_tbl := Or.inl (ztb_in (zc3 (List.mem_of_getElem? (i := 228) rfl)) rfl)
set_option maxRecDepth 20000 in
theorem kX6_210 : Cond.methodLink RX6 210 mX6_isWanted.1 ∈ ztb ∨ ∃ host, Cond.methodLinkNest RX6 210 mX6_isWanted.1 host ∈ lw_tbl := Or.inl (ztb_in (zc3 (List.mem_of_getElem? (i := 232) rfl)) rfl)
set_option maxRecDepth 20000 in
theorem kX6_214 : Cond.methodLink RX6 214 mX6_findStale.1 ∈ ztb ∨ ∃ host, Cond.methodLinkNest RX6 214 mX6_findStale.1 host ∈ lw_tbl := Or.inl (ztb_in (zc3 (List.mem_of_getElem? (i := 236) rfl)) rfl)
set_option maxRecDepth 20000 in
theorem kX6_249 : Cond.methodLink RX6 249 mX3_isFresh.1 ∈ ztb ∨ ∃ host, Cond.methodLinkNest RX6 249 mX3_isFresh.1 host ∈ lw_tbl := Or.inl (ztb_in (zc4 (List.mem_of_getElem? (i := 0) rfl)) rfl)
set_option maxRecDepth 20000 in
theorem kX6_120 : Cond.methodLink RX6 120 mX4_isDue.1 ∈ ztb ∨ ∃ host, Cond.methodLinkNest RX6 120 mX4_isDue.1 host ∈ lw_tbl := Or.inl (ztb_in (zc4 (List.mem_of_getElem? (i := 4) rfl)) rfl)
set_option maxRecDepth 20000 in
theorem kX6_203 : Cond.methodLink RX6 203 mX6_loadRunning.1 ∈ ztb ∨ ∃ host, Cond.methodLinkNest RX6 203 mX6_loadRunning.1 host ∈ lw_tbl := Or.inl (ztb_in (zc4 (List.mem_of_getElem? (i := 8) rfl)) rfl)
set_option maxRecDepth 20000 in
theorem kX6_206 : Cond.methodLink RX6 206 mX4_enter.1 ∈ ztb ∨ ∃ host, Cond.methodLinkNest RX6 206 mX4_enter.1 host ∈ lw_tbl := Or.inl (ztb_in (zc4 (List.mem_of_getElem? (i := 12) rfl)) rfl)
set_option maxRecDepth 20000 in
theorem kX6_180 : Cond.methodLink RX6 180 mX6_setTold.1 ∈ ztb ∨ ∃ host, Cond.methodLinkNest RX6 180 mX6_setTold.1 host ∈ lw_tbl := Or.inl (ztb_in (zc4 (List.mem_of_getElem? (i := 16) rfl)) rfl)
set_option maxRecDepth 20000 in
theorem kX6_171 : Cond.methodLink RX6 171 mX6_cutLowestOfLateChanges.1 ∈ ztb ∨ ∃ host, Cond.methodLinkNest RX6 171 mX6_cutLowestOfLateChanges.1 host ∈ lw_tbl := Or.inl (ztb_in (zc4 (List.mem_of_getElem? (i := 20) rfl)) rfl)
set_option maxRecDepth 20000 in
theorem kX6_107 : Cond.methodLink RX6 107 mX6_isStartDue.1 ∈ ztb ∨ ∃ host, Cond.methodLinkNest RX6 107 mX6_isStartDue.1 host ∈ lw_tbl := Or.inl (ztb_in (zc4 (List.mem_of_getElem? (i := 24) rfl)) rfl)
set_option maxRecDepth 20000 in
theorem kL_23 : Cond.methodLink RL 23 mX8_hold.1 ∈ ztb ∨ ∃ host, Cond.methodLinkNest RL 23 mX8_hold.1 host ∈ lw_tbl := Or.inl (ztb_in (zc4 (List.mem_of_getElem? (i := 31) rfl)) rfl)
set_option maxRecDepth 20000 in
theorem kX8_119 : Cond.methodLink RX8 119 mX8_checkNumber.1 ∈ ztb ∨ ∃ host, Cond.methodLinkNest RX8 119 mX8_checkNumber.1 host ∈ lw_tbl := Or.inl (ztb_in (zc4 (List.mem_of_getElem? (i := 35) rfl)) rfl)
set_option maxRecDepth 20000 in
theorem kL_27 : Cond.methodLink RL 27 mX8_release.1 ∈ ztb ∨ ∃ host, Cond.methodLinkNest RL 27 mX8_release.1 host ∈ lw_tbl := Or.inl (ztb_in (zc4 (List.mem_of_getElem? (i := 42) rfl)) rfl)
set_option maxRecDepth 20000 in
theorem kL_30 : Cond.methodLink RL 30 mX8_read.1 ∈ ztb ∨ ∃ host, Cond.methodLinkNest RL 30 mX8_read.1 host ∈ lw_tbl := Or.inl (ztb_in (zc4 (List.mem_of_getElem? (i := 50) rfl)) rfl)
set_option maxRecDepth 20000 in
theorem kL_33 : Cond.methodLink RL 33 mX8_control.1 ∈ ztb ∨ ∃ host, Cond.methodLinkNest RL 33 mX8_control.1 host ∈ lw_tbl := Or.inl (ztb_in (zc4 (List.mem_of_getElem? (i := 57) rfl)) rfl)
set_option maxRecDepth 20000 in
theorem kX8_139 : Cond.methodLink RX8 139 mX8_checkService.1 ∈ ztb ∨ ∃ host, Cond.methodLinkNest RX8 139 mX8_checkService.1 host ∈ lw_tbl := Or.inl (ztb_in (zc4 (List.mem_of_getElem? (i := 61) rfl)) rfl)
set_option maxRecDepth 20000 in
theorem kX8_142 : Cond.methodLink RX8 142 mX8_checkCellOrNone.1 ∈ ztb ∨ ∃ host, Cond.methodLinkNest RX8 142 mX8_checkCellOrNone.1 host ∈ lw_tbl := Or.inl (ztb_in (zc4 (List.mem_of_getElem? (i := 64) rfl)) rfl)
set_option maxRecDepth 20000 in
theorem kL_36 : Cond.methodLink RL 36 mX8_limit.1 ∈ ztb ∨ ∃ host, Cond.methodLinkNest RL 36 mX8_limit.1 host ∈ lw_tbl := Or.inl (ztb_in (zc4 (List.mem_of_getElem? (i := 70) rfl)) rfl)
set_option maxRecDepth 20000 in
theorem kL_39 : Cond.methodLink RL 39 mX8_demand.1 ∈ ztb ∨ ∃ host, Cond.methodLinkNest RL 39 mX8_demand.1 host ∈ lw_tbl := Or.inl (ztb_in (zc4 (List.mem_of_getElem? (i := 77) rfl)) rfl)
set_option maxRecDepth 20000 in
theorem kL_43 : Cond.methodLink RL 43 mX8_need.1 ∈ ztb ∨ ∃ host, Cond.methodLinkNest RL 43 mX8_need.1 host ∈ lw_tbl := Or.inl (ztb_in (zc4 (List.mem_of_getElem? (i := 84) rfl)) rfl)
set_option maxRecDepth 20000 in
theorem kL_47 : Cond.methodLink RL 47 mX8_lie.1 ∈ ztb ∨ ∃ host, Cond.methodLinkNest RL 47 mX8_lie.1 host ∈ lw_tbl := Or.inl (ztb_in (zc4 (List.mem_of_getElem? (i := 92) rfl)) rfl)
set_option maxRecDepth 20000 in
theorem kL_50 : Cond.methodLink RL 50 mX8_mend.1 ∈ ztb ∨ ∃ host, Cond.methodLinkNest RL 50 mX8_mend.1 host ∈ lw_tbl := Or.inl (ztb_in (zc4 (List.mem_of_getElem? (i := 99) rfl)) rfl)
set_option maxRecDepth 20000 in
theorem kL_53 : Cond.methodLink RL 53 mX8_tick.1 ∈ ztb ∨ ∃ host, Cond.methodLinkNest RL 53 mX8_tick.1 host ∈ lw_tbl := Or.inl (ztb_in (zc4 (List.mem_of_getElem? (i := 107) rfl)) rfl)
set_option maxRecDepth 20000 in
theorem kL_56 : Cond.methodLink RL 56 mX8_undo.1 ∈ ztb ∨ ∃ host, Cond.methodLinkNest RL 56 mX8_undo.1 host ∈ lw_tbl := Or.inl (ztb_in (zc4 (List.mem_of_getElem? (i := 115) rfl)) rfl)
set_option maxRecDepth 20000 in
theorem kX8_165 : Cond.methodLink RX8 165 mX8_tellAnew.1 ∈ ztb ∨ ∃ host, Cond.methodLinkNest RX8 165 mX8_tellAnew.1 host ∈ lw_tbl := Or.inl (ztb_in (zc4 (List.mem_of_getElem? (i := 120) rfl)) rfl)
set_option maxRecDepth 20000 in
theorem kX8_224 : Cond.methodLink RX8 224 mX6_clear.1 ∈ ztb ∨ ∃ host, Cond.methodLinkNest RX8 224 mX6_clear.1 host ∈ lw_tbl := Or.inl (ztb_in (zc4 (List.mem_of_getElem? (i := 124) rfl)) rfl)
set_option maxRecDepth 20000 in
theorem kX6_76 : Cond.methodLink RX6 76 mX4_clear.1 ∈ ztb ∨ ∃ host, Cond.methodLinkNest RX6 76 mX4_clear.1 host ∈ lw_tbl := Or.inl (ztb_in (zc4 (List.mem_of_getElem? (i := 128) rfl)) rfl)
set_option maxRecDepth 20000 in
theorem kL_60 : Cond.methodLink RL 60 mX8_value.1 ∈ ztb ∨ ∃ host, Cond.methodLinkNest RL 60 mX8_value.1 host ∈ lw_tbl := Or.inl (ztb_in (zc4 (List.mem_of_getElem? (i := 135) rfl)) rfl)
set_option maxRecDepth 20000 in
theorem kL_63 : Cond.methodLink RL 63 mX8_valueAnew.1 ∈ ztb ∨ ∃ host, Cond.methodLinkNest RL 63 mX8_valueAnew.1 host ∈ lw_tbl := Or.inl (ztb_in (zc4 (List.mem_of_getElem? (i := 142) rfl)) rfl)
set_option maxRecDepth 20000 in
theorem kL_66 : Cond.methodLink RL 66 mX8_worth.1 ∈ ztb ∨ ∃ host, Cond.methodLinkNest RL 66 mX8_worth.1 host ∈ lw_tbl := Or.inl (ztb_in (zc4 (List.mem_of_getElem? (i := 149) rfl)) rfl)
set_option maxRecDepth 20000 in
theorem kX8_176 : Cond.methodLink RX8 176 mX6_valueOf.1 ∈ ztb ∨ ∃ host, Cond.methodLinkNest RX8 176 mX6_valueOf.1 host ∈ lw_tbl := Or.inl (ztb_in (zc4 (List.mem_of_getElem? (i := 153) rfl)) rfl)
set_option maxRecDepth 20000 in
theorem kL_69 : Cond.methodLink RL 69 mX8_depth.1 ∈ ztb ∨ ∃ host, Cond.methodLinkNest RL 69 mX8_depth.1 host ∈ lw_tbl := Or.inl (ztb_in (zc4 (List.mem_of_getElem? (i := 157) rfl)) rfl)
set_option maxRecDepth 20000 in
theorem kL_72 : Cond.methodLink RL 72 mX8_isStale.1 ∈ ztb ∨ ∃ host, Cond.methodLinkNest RL 72 mX8_isStale.1 host ∈ lw_tbl := Or.inl (ztb_in (zc4 (List.mem_of_getElem? (i := 164) rfl)) rfl)
set_option maxRecDepth 20000 in
theorem kX8_183 : Cond.methodLink RX8 183 mX6_findStale.1 ∈ ztb ∨ ∃ host, Cond.methodLinkNest RX8 183 mX6_findStale.1 host ∈ lw_tbl := Or.inl (ztb_in (zc4 (List.mem_of_getElem? (i := 168) rfl)) rfl)
set_option maxRecDepth 20000 in
theorem kL_76 : Cond.methodLink RL 76 mX8_state.1 ∈ ztb ∨ ∃ host, Cond.methodLinkNest RL 76 mX8_state.1 host ∈ lw_tbl := Or.inl (ztb_in (zc4 (List.mem_of_getElem? (i := 172) rfl)) rfl)
set_option maxRecDepth 20000 in
theorem kL_79 : Cond.methodLink RL 79 mX8_load.1 ∈ ztb ∨ ∃ host, Cond.methodLinkNest RL 79 mX8_load.1 host ∈ lw_tbl := Or.inl (ztb_in (zc4 (List.mem_of_getElem? (i := 179) rfl)) rfl)
set_option maxRecDepth 20000 in
theorem kL_82 : Cond.methodLink RL 82 mX8_told.1 ∈ ztb ∨ ∃ host, Cond.methodLinkNest RL 82 mX8_told.1 host ∈ lw_tbl := Or.inl (ztb_in (zc4 (List.mem_of_getElem? (i := 186) rfl)) rfl)
set_option maxRecDepth 20000 in
theorem kL_85 : Cond.methodLink RL 85 mX8_starts.1 ∈ ztb ∨ ∃ host, Cond.methodLinkNest RL 85 mX8_starts.1 host ∈ lw_tbl := Or.inl (ztb_in (zc4 (List.mem_of_getElem? (i := 193) rfl)) rfl)
set_option maxRecDepth 20000 in
theorem kL_88 : Cond.methodLink RL 88 mX8_trial.1 ∈ ztb ∨ ∃ host, Cond.methodLinkNest RL 88 mX8_trial.1 host ∈ lw_tbl := Or.inl (ztb_in (zc4 (List.mem_of_getElem? (i := 200) rfl)) rfl)
set_option maxRecDepth 20000 in
theorem kX8_204 : Cond.methodLink RX8 204 mX6_takeSettings.1 ∈ ztb ∨ ∃ host, Cond.methodLinkNest RX8 204 mX6_takeSettings.1 host ∈ lw_tbl := Or.inl (ztb_in (zc4 (List.mem_of_getElem? (i := 205) rfl)) rfl)
set_option maxRecDepth 20000 in
theorem kX6_82 : Cond.methodLink RX6 82 mX6_clear.1 ∈ ztb ∨ ∃ host, Cond.methodLinkNest RX6 82 mX6_clear.1 host ∈ lw_tbl := Or.inl (ztb_in (zc4 (List.mem_of_getElem? (i := 209) rfl)) rfl)
set_option maxRecDepth 20000 in
theorem kX6_87 : Cond.methodLink RX6 87 mX4_takeSettings.1 ∈ ztb ∨ ∃ host, Cond.methodLinkNest RX6 87 mX4_takeSettings.1 host ∈ lw_tbl := Or.inl (ztb_in (zc4 (List.mem_of_getElem? (i := 210) rfl)) rfl)
set_option maxRecDepth 20000 in
theorem kX8_208 : Cond.methodLink RX8 208 mX6_settle.1 ∈ ztb ∨ ∃ host, Cond.methodLinkNest RX8 208 mX6_settle.1 host ∈ lw_tbl := Or.inl (ztb_in (zc4 (List.mem_of_getElem? (i := 214) rfl)) rfl)
set_option maxRecDepth 20000 in
theorem kX8_211 : Cond.methodLink RX8 211 mX8_tellReadingsOfTick.1 ∈ ztb ∨ ∃ host, Cond.methodLinkNest RX8 211 mX8_tellReadingsOfTick.1 host ∈ lw_tbl := Or.inl (ztb_in (zc4 (List.mem_of_getElem? (i := 215) rfl)) rfl)
set_option maxRecDepth 20000 in
theorem kL_91 : Cond.methodLink RL 91 mX8_isLoop.1 ∈ ztb ∨ ∃ host, Cond.methodLinkNest RL 91 mX8_isLoop.1 host ∈ lw_tbl := Or.inl (ztb_in (zc4 (List.mem_of_getElem? (i := 222) rfl)) rfl)
set_option maxRecDepth 20000 in
theorem kX8_218 : Cond.methodLink RX8 218 mX6_hangsOnItself.1 ∈ ztb ∨ ∃ host, Cond.methodLinkNest RX8 218 mX6_hangsOnItself.1 host ∈ lw_tbl := Or.inl (ztb_in (zc4 (List.mem_of_getElem? (i := 226) rfl)) rfl)
set_option maxRecDepth 20000 in
theorem kX6_252 : Cond.methodLink RX6 252 mX6_servicesUnder.1 ∈ ztb ∨ ∃ host, Cond.methodLinkNest RX6 252 mX6_servicesUnder.1 host ∈ lw_tbl := Or.inl (ztb_in (zc4 (List.mem_of_getElem? (i := 230) rfl)) rfl)
set_option maxRecDepth 20000 in
theorem kX6_255 : Cond.methodLink RX6 255 mX6_withAllRead.1 ∈ ztb ∨ ∃ host, Cond.methodLinkNest RX6 255 mX6_withAllRead.1 host ∈ lw_tbl := Or.inl (ztb_in (zc4 (List.mem_of_getElem? (i := 234) rfl)) rfl)
set_option maxRecDepth 20000 in
theorem kL_97 : Cond.methodLink RL 97 mX9_init.1 ∈ ztb ∨ ∃ host, Cond.methodLinkNest RL 97 mX9_init.1 host ∈ lw_tbl := Or.inl (ztb_in (zc4 (List.mem_of_getElem? (i := 237) rfl)) rfl)
set_option maxRecDepth 20000 in
theorem kX9_1 : Cond.methodLink RX9 1 Lib.objectInit ∈ ztb := ztb_in (zc5 (List.mem_of_getElem? (i := 0) rfl)) rfl
set_option maxRecDepth 20000 in
theorem kX9_126 : Cond.methodLink RX9 126 mX9_begins.1 ∈ ztb ∨ ∃ host, Cond.methodLinkNest RX9 126 mX9_begins.1 host ∈ lw_tbl := Or.inl (ztb_in (zc5 (List.mem_of_getElem? (i := 1) rfl)) rfl)
set_option maxRecDepth 20000 in
theorem kX9_252 : Cond.methodLink RX9 252 mX9_clears.1 ∈ ztb ∨ ∃ host, Cond.methodLinkNest RX9 252 mX9_clears.1 host ∈ lw_tbl := Or.inl (ztb_in (zc5 (List.mem_of_getElem? (i := 5) rfl)) rfl)
set_option maxRecDepth 20000 in
theorem kL_104 : Cond.methodLink RL 104 mX9_thrown.1 ∈ ztb ∨ ∃ host, Cond.methodLinkNest RL 104 mX9_thrown.1 host ∈ lw_tbl := Or.inl (ztb_in (zc5 (List.mem_of_getElem? (i := 150) rfl)) rfl)
set_option maxRecDepth 20000 in
theorem kL_103 : Cond.methodLink RL 103 mX9_type.1 ∈ ztb ∨ ∃ host, Cond.methodLinkNest RL 103 mX9_type.1 host ∈ lw_tbl := Or.inl (ztb_in (zc5 (List.mem_of_getElem? (i := 154) rfl)) rfl)
set_option maxRecDepth 20000 in
theorem kX9_133 : Cond.methodLink RX9 133 mX9_isFigure.1 ∈ ztb ∨ ∃ host, Cond.methodLinkNest RX9 133 mX9_isFigure.1 host ∈ lw_tbl := Or.inl (ztb_in (zc5 (List.mem_of_getElem? (i := 158) rfl)) rfl)
set_option maxRecDepth 20000 in
theorem kX9_137 : Cond.methodLink RX9 137 mX9_isFunction.1 ∈ ztb ∨ ∃ host, Cond.methodLinkNest RX9 137 mX9_isFunction.1 host ∈ lw_tbl := Or.inl (ztb_in (zc5 (List.mem_of_getElem? (i := 161) rfl)) rfl)
set_option maxRecDepth 20000 in
theorem kX9_140 : Cond.methodLink RX9 140 mX9_isName.1 ∈ ztb ∨ ∃ host, Cond.methodLinkNest RX9 140 mX9_isName.1 host ∈ lw_tbl := Or.inl (ztb_in (zc5 (List.mem_of_getElem? (i := 164) rfl)) rfl)
set_option maxRecDepth 20000 in
theorem kX9_143 : Cond.methodLink RX9 143 mX9_deedOf.1 ∈ ztb ∨ ∃ host, Cond.methodLinkNest RX9 143 mX9_deedOf.1 host ∈ lw_tbl := Or.inl (ztb_in (zc5 (List.mem_of_getElem? (i := 167) rfl)) rfl)
set_option maxRecDepth 20000 in
theorem kX9_150 : Cond.methodLink RX9 150 mX9_goes.1 ∈ ztb ∨ ∃ host, Cond.methodLinkNest RX9 150 mX9_goes.1 host ∈ lw_tbl := Or.inl (ztb_in (zc5 (List.mem_of_getElem? (i := 170) rfl)) rfl)
set_option maxRecDepth 20000 in
theorem kL_110 : Cond.methodLink RL 110 mX9_wipe.1 ∈ ztb ∨ ∃ host, Cond.methodLinkNest RL 110 mX9_wipe.1 host ∈ lw_tbl := Or.inl (ztb_in (zc5 (List.mem_of_getElem? (i := 174) rfl)) rfl)
set_option maxRecDepth 20000 in
theorem kL_114 : Cond.methodLink RL 114 mX9_fault.1 ∈ ztb ∨ ∃ host, Cond.methodLinkNest RL 114 mX9_fault.1 host ∈ lw_tbl := Or.inl (ztb_in (zc5 (List.mem_of_getElem? (i := 178) rfl)) rfl)
set_option maxRecDepth 20000 in
theorem kX9_179 : Cond.methodLink RX9 179 mX9_faultOf.1 ∈ ztb ∨ ∃ host, Cond.methodLinkNest RX9 179 mX9_faultOf.1 host ∈ lw_tbl := Or.inl (ztb_in (zc5 (List.mem_of_getElem? (i := 182) rfl)) rfl)
set_option maxRecDepth 20000 in
theorem kX9_167 : Cond.methodLink RX9 167 mX9_takesNumber.1 ∈ ztb ∨ ∃ host, Cond.methodLinkNest RX9 167 mX9_takesNumber.1 host ∈ lw_tbl := Or.inl (ztb_in (zc5 (List.mem_of_getElem? (i := 186) rfl)) rfl)
set_option maxRecDepth 20000 in
theorem kX9_163 : Cond.methodLink RX9 163 mX9_makes.1 ∈ ztb ∨ ∃ host, Cond.methodLinkNest RX9 163 mX9_makes.1 host ∈ lw_tbl := Or.inl (ztb_in (zc5 (List.mem_of_getElem? (i := 190) rfl)) rfl)
set_option maxRecDepth 20000 in
theorem kX9_170 : Cond.methodLink RX9 170 mX9_takesName.1 ∈ ztb ∨ ∃ host, Cond.methodLinkNest RX9 170 mX9_takesName.1 host ∈ lw_tbl := Or.inl (ztb_in (zc5 (List.mem_of_getElem? (i := 194) rfl)) rfl)
set_option maxRecDepth 20000 in
theorem kX9_173 : Cond.methodLink RX9 173 mX9_opensOne.1 ∈ ztb ∨ ∃ host, Cond.methodLinkNest RX9 173 mX9_opensOne.1 host ∈ lw_tbl := Or.inl (ztb_in (zc5 (List.mem_of_getElem? (i := 198) rfl)) rfl)
set_option maxRecDepth 20000 in
theorem kX9_160 : Cond.methodLink RX9 160 mX9_rank.1 ∈ ztb ∨ ∃ host, Cond.methodLinkNest RX9 160 mX9_rank.1 host ∈ lw_tbl := Or.inl (ztb_in (zc5 (List.mem_of_getElem? (i := 202) rfl)) rfl)
set_option maxRecDepth 20000 in
theorem kX9_176 : Cond.methodLink RX9 176 mX9_closes.1 ∈ ztb ∨ ∃ host, Cond.methodLinkNest RX9 176 mX9_closes.1 host ∈ lw_tbl := Or.inl (ztb_in (zc5 (List.mem_of_getElem? (i := 205) rfl)) rfl)
set_option maxRecDepth 20000 in
theorem kL_118 : Cond.methodLink RL 118 mX9_formula.1 ∈ ztb ∨ ∃ host, Cond.methodLinkNest RL 118 mX9_formula.1 host ∈ lw_tbl := Or.inl (ztb_in (zc5 (List.mem_of_getElem? (i := 209) rfl)) rfl)
set_option maxRecDepth 20000 in
theorem kX9_286 : Cond.methodLink RX9 286 mX9_isCell.1 ∈ ztb ∨ ∃ host, Cond.methodLinkNest RX9 286 mX9_isCell.1 host ∈ lw_tbl := Or.inl (ztb_in (zc5 (List.mem_of_getElem? (i := 213) rfl)) rfl)
set_option maxRecDepth 20000 in
theorem kX9_283 : Cond.methodLink RX9 283 mX9_isIn.1 ∈ ztb ∨ ∃ host, Cond.methodLinkNest RX9 283 mX9_isIn.1 host ∈ lw_tbl := Or.inl (ztb_in (zc5 (List.mem_of_getElem? (i := 216) rfl)) rfl)
set_option maxRecDepth 20000 in
theorem kX9_289 : Cond.methodLink RX9 289 mX9_wouldHang.1 ∈ ztb ∨ ∃ host, Cond.methodLinkNest RX9 289 mX9_wouldHang.1 host ∈ lw_tbl := Or.inl (ztb_in (zc5 (List.mem_of_getElem? (i := 219) rfl)) rfl)
set_option maxRecDepth 20000 in
theorem kX9_255 : Cond.methodLink RX9 255 mX9_isWithin.1 ∈ ztb ∨ ∃ host, Cond.methodLinkNest RX9 255 mX9_isWithin.1 host ∈ lw_tbl := Or.inl (ztb_in (zc5 (List.mem_of_getElem? (i := 223) rfl)) rfl)
set_option maxRecDepth 20000 in
theorem kX9_221 : Cond.methodLink RX9 221 mX9_below.1 ∈ ztb ∨ ∃ host, Cond.methodLinkNest RX9 221 mX9_below.1 host ∈ lw_tbl := Or.inl (ztb_in (zc5 (List.mem_of_getElem? (i := 226) rfl)) rfl)
set_option maxRecDepth 20000 in
theorem kX9_197 : Cond.methodLink RX9 197 mX9_has.1 ∈ ztb ∨ ∃ host, Cond.methodLinkNest RX9 197 mX9_has.1 host ∈ lw_tbl := Or.inl (ztb_in (zc5 (List.mem_of_getElem? (i := 230) rfl)) rfl)
set_option maxRecDepth 20000 in
theorem kX9_292 : Cond.methodLink RX9 292 mX9_hasRoom.1 ∈ ztb ∨ ∃ host, Cond.methodLinkNest RX9 292 mX9_hasRoom.1 host ∈ lw_tbl := Or.inl (ztb_in (zc5 (List.mem_of_getElem? (i := 233) rfl)) rfl)
set_option maxRecDepth 20000 in
theorem kX9_296 : Cond.methodLink RX9 296 mX9_keeps.1 ∈ ztb ∨ ∃ host, Cond.methodLinkNest RX9 296 mX9_keeps.1 host ∈ lw_tbl := Or.inl (ztb_in (zc5 (List.mem_of_getElem? (i := 237) rfl)) rfl)
set_option maxRecDepth 20000 in
theorem kX9_280 : Cond.methodLink RX9 280 mX9_does.1 ∈ ztb ∨ ∃ host, Cond.methodLinkNest RX9 280 mX9_does.1 host ∈ lw_tbl := Or.inl (ztb_in (zc6 (List.mem_of_getElem? (i := 1) rfl)) rfl)
set_option maxRecDepth 20000 in
theorem kX9_265 : Cond.methodLink RX9 265 mX9_settles.1 ∈ ztb ∨ ∃ host, Cond.methodLinkNest RX9 265 mX9_settles.1 host ∈ lw_tbl := Or.inl (ztb_in (zc6 (List.mem_of_getElem? (i := 5) rfl)) rfl)
set_option maxRecDepth 20000 in
theorem kX9_249 : Cond.methodLink RX9 249 mX9_round.1 ∈ ztb ∨ ∃ host, Cond.methodLinkNest RX9 249 mX9_round.1 host ∈ lw_tbl := Or.inl (ztb_in (zc6 (List.mem_of_getElem? (i := 9) rfl)) rfl)
set_option maxRecDepth 20000 in
theorem kX9_237 : Cond.methodLink RX9 237 mX9_worksOut.1 ∈ ztb ∨ ∃ host, Cond.methodLinkNest RX9 237 mX9_worksOut.1 host ∈ lw_tbl := Or.inl (ztb_in (zc6 (List.mem_of_getElem? (i := 13) rfl)) rfl)
set_option maxRecDepth 20000 in
theorem kX9_205 : Cond.methodLink RX9 205 mX9_nextDirty.1 ∈ ztb ∨ ∃ host, Cond.methodLinkNest RX9 205 mX9_nextDirty.1 host ∈ lw_tbl := Or.inl (ztb_in (zc6 (List.mem_of_getElem? (i := 17) rfl)) rfl)
set_option maxRecDepth 20000 in
theorem kX9_211 : Cond.methodLink RX9 211 mX9_worthOf.1 ∈ ztb ∨ ∃ host, Cond.methodLinkNest RX9 211 mX9_worthOf.1 host ∈ lw_tbl := Or.inl (ztb_in (zc6 (List.mem_of_getElem? (i := 21) rfl)) rfl)
set_option maxRecDepth 20000 in
theorem kX9_194 : Cond.methodLink RX9 194 mX9_deeds.1 ∈ ztb ∨ ∃ host, Cond.methodLinkNest RX9 194 mX9_deeds.1 host ∈ lw_tbl := Or.inl (ztb_in (zc6 (List.mem_of_getElem? (i := 25) rfl)) rfl)
set_option maxRecDepth 20000 in
theorem kX9_190 : Cond.methodLink RX9 190 mX9_kept.1 ∈ ztb ∨ ∃ host, Cond.methodLinkNest RX9 190 mX9_kept.1 host ∈ lw_tbl := Or.inl (ztb_in (zc6 (List.mem_of_getElem? (i := 29) rfl)) rfl)
set_option maxRecDepth 20000 in
theorem kX9_214 : Cond.methodLink RX9 214 mX9_becomes.1 ∈ ztb ∨ ∃ host, Cond.methodLinkNest RX9 214 mX9_becomes.1 host ∈ lw_tbl := Or.inl (ztb_in (zc6 (List.mem_of_getElem? (i := 34) rfl)) rfl)
set_option maxRecDepth 20000 in
theorem kX9_201 : Cond.methodLink RX9 201 mX9_soils.1 ∈ ztb ∨ ∃ host, Cond.methodLinkNest RX9 201 mX9_soils.1 host ∈ lw_tbl := Or.inl (ztb_in (zc6 (List.mem_of_getElem? (i := 38) rfl)) rfl)
set_option maxRecDepth 20000 in
theorem kX9_240 : Cond.methodLink RX9 240 mX9_changes.1 ∈ ztb ∨ ∃ host, Cond.methodLinkNest RX9 240 mX9_changes.1 host ∈ lw_tbl := Or.inl (ztb_in (zc6 (List.mem_of_getElem? (i := 42) rfl)) rfl)
set_option maxRecDepth 20000 in
theorem kX9_228 : Cond.methodLink RX9 228 mX9_isWanted.1 ∈ ztb ∨ ∃ host, Cond.methodLinkNest RX9 228 mX9_isWanted.1 host ∈ lw_tbl := Or.inl (ztb_in (zc6 (List.mem_of_getElem? (i := 46) rfl)) rfl)
set_option maxRecDepth 20000 in
theorem kX9_231 : Cond.methodLink RX9 231 mX9_stale.1 ∈ ztb ∨ ∃ host, Cond.methodLinkNest RX9 231 mX9_stale.1 host ∈ lw_tbl := Or.inl (ztb_in (zc6 (List.mem_of_getElem? (i := 50) rfl)) rfl)
set_option maxRecDepth 20000 in
theorem kX9_225 : Cond.methodLink RX9 225 mX9_isOld.1 ∈ ztb ∨ ∃ host, Cond.methodLinkNest RX9 225 mX9_isOld.1 host ∈ lw_tbl := Or.inl (ztb_in (zc6 (List.mem_of_getElem? (i := 54) rfl)) rfl)
set_option maxRecDepth 20000 in
theorem kX9_234 : Cond.methodLink RX9 234 mX9_runs.1 ∈ ztb ∨ ∃ host, Cond.methodLinkNest RX9 234 mX9_runs.1 host ∈ lw_tbl := Or.inl (ztb_in (zc6 (List.mem_of_getElem? (i := 58) rfl)) rfl)
set_option maxRecDepth 20000 in
theorem kX9_243 : Cond.methodLink RX9 243 mX9_loadOf.1 ∈ ztb ∨ ∃ host, Cond.methodLinkNest RX9 243 mX9_loadOf.1 host ∈ lw_tbl := Or.inl (ztb_in (zc6 (List.mem_of_getElem? (i := 62) rfl)) rfl)
set_option maxRecDepth 20000 in
theorem kX9_246 : Cond.methodLink RX9 246 mX9_tells.1 ∈ ztb ∨ ∃ host, Cond.methodLinkNest RX9 246 mX9_tells.1 host ∈ lw_tbl := Or.inl (ztb_in (zc6 (List.mem_of_getElem? (i := 66) rfl)) rfl)
set_option maxRecDepth 20000 in
theorem kX9_268 : Cond.methodLink RX9 268 mX9_setsCell.1 ∈ ztb ∨ ∃ host, Cond.methodLinkNest RX9 268 mX9_setsCell.1 host ∈ lw_tbl := Or.inl (ztb_in (zc6 (List.mem_of_getElem? (i := 70) rfl)) rfl)
set_option maxRecDepth 20000 in
theorem kX9_262 : Cond.methodLink RX9 262 mX9_gives.1 ∈ ztb ∨ ∃ host, Cond.methodLinkNest RX9 262 mX9_gives.1 host ∈ lw_tbl := Or.inl (ztb_in (zc6 (List.mem_of_getElem? (i := 74) rfl)) rfl)
set_option maxRecDepth 20000 in
theorem kX9_259 : Cond.methodLink RX9 259 mX9_deepens.1 ∈ ztb ∨ ∃ host, Cond.methodLinkNest RX9 259 mX9_deepens.1 host ∈ lw_tbl := Or.inl (ztb_in (zc6 (List.mem_of_getElem? (i := 78) rfl)) rfl)
set_option maxRecDepth 20000 in
theorem kX9_271 : Cond.methodLink RX9 271 mX9_reads.1 ∈ ztb ∨ ∃ host, Cond.methodLinkNest RX9 271 mX9_reads.1 host ∈ lw_tbl := Or.inl (ztb_in (zc6 (List.mem_of_getElem? (i := 82) rfl)) rfl)
set_option maxRecDepth 20000 in
theorem kX9_274 : Cond.methodLink RX9 274 mX9_setsService.1 ∈ ztb ∨ ∃ host, Cond.methodLinkNest RX9 274 mX9_setsService.1 host ∈ lw_tbl := Or.inl (ztb_in (zc6 (List.mem_of_getElem? (i := 86) rfl)) rfl)
set_option maxRecDepth 20000 in
theorem kL_122 : Cond.methodLink RL 122 mX9_hold.1 ∈ ztb ∨ ∃ host, Cond.methodLinkNest RL 122 mX9_hold.1 host ∈ lw_tbl := Or.inl (ztb_in (zc6 (List.mem_of_getElem? (i := 90) rfl)) rfl)
set_option maxRecDepth 20000 in
theorem kL_125 : Cond.methodLink RL 125 mX9_release.1 ∈ ztb ∨ ∃ host, Cond.methodLinkNest RL 125 mX9_release.1 host ∈ lw_tbl := Or.inl (ztb_in (zc6 (List.mem_of_getElem? (i := 94) rfl)) rfl)
set_option maxRecDepth 20000 in
theorem kL_128 : Cond.methodLink RL 128 mX9_read.1 ∈ ztb ∨ ∃ host, Cond.methodLinkNest RL 128 mX9_read.1 host ∈ lw_tbl := Or.inl (ztb_in (zc6 (List.mem_of_getElem? (i := 98) rfl)) rfl)
set_option maxRecDepth 20000 in
theorem kL_131 : Cond.methodLink RL 131 mX9_control.1 ∈ ztb ∨ ∃ host, Cond.methodLinkNest RL 131 mX9_control.1 host ∈ lw_tbl := Or.inl (ztb_in (zc6 (List.mem_of_getElem? (i := 102) rfl)) rfl)
set_option maxRecDepth 20000 in
theorem kX9_300 : Cond.methodLink RX9 300 mX9_isService.1 ∈ ztb ∨ ∃ host, Cond.methodLinkNest RX9 300 mX9_isService.1 host ∈ lw_tbl := Or.inl (ztb_in (zc6 (List.mem_of_getElem? (i := 106) rfl)) rfl)
set_option maxRecDepth 20000 in
theorem kL_134 : Cond.methodLink RL 134 mX9_limit.1 ∈ ztb ∨ ∃ host, Cond.methodLinkNest RL 134 mX9_limit.1 host ∈ lw_tbl := Or.inl (ztb_in (zc6 (List.mem_of_getElem? (i := 109) rfl)) rfl)
set_option maxRecDepth 20000 in
theorem kL_138 : Cond.methodLink RL 138 mX9_demand.1 ∈ ztb ∨ ∃ host, Cond.methodLinkNest RL 138 mX9_demand.1 host ∈ lw_tbl := Or.inl (ztb_in (zc6 (List.mem_of_getElem? (i := 113) rfl)) rfl)
set_option maxRecDepth 20000 in
theorem kL_142 : Cond.methodLink RL 142 mX9_need.1 ∈ ztb ∨ ∃ host, Cond.methodLinkNest RL 142 mX9_need.1 host ∈ lw_tbl := Or.inl (ztb_in (zc6 (List.mem_of_getElem? (i := 117) rfl)) rfl)
set_option maxRecDepth 20000 in
theorem kL_145 : Cond.methodLink RL 145 mX9_lie.1 ∈ ztb ∨ ∃ host, Cond.methodLinkNest RL 145 mX9_lie.1 host ∈ lw_tbl := Or.inl (ztb_in (zc6 (List.mem_of_getElem? (i := 121) rfl)) rfl)
set_option maxRecDepth 20000 in
theorem kL_148 : Cond.methodLink RL 148 mX9_mend.1 ∈ ztb ∨ ∃ host, Cond.methodLinkNest RL 148 mX9_mend.1 host ∈ lw_tbl := Or.inl (ztb_in (zc6 (List.mem_of_getElem? (i := 125) rfl)) rfl)
set_option maxRecDepth 20000 in
theorem kL_151 : Cond.methodLink RL 151 mX9_tick.1 ∈ ztb ∨ ∃ host, Cond.methodLinkNest RL 151 mX9_tick.1 host ∈ lw_tbl := Or.inl (ztb_in (zc6 (List.mem_of_getElem? (i := 129) rfl)) rfl)
set_option maxRecDepth 20000 in
theorem kL_155 : Cond.methodLink RL 155 mX9_undo.1 ∈ ztb ∨ ∃ host, Cond.methodLinkNest RL 155 mX9_undo.1 host ∈ lw_tbl := Or.inl (ztb_in (zc6 (List.mem_of_getElem? (i := 133) rfl)) rfl)
set_option maxRecDepth 20000 in
theorem kX9_303 : Cond.methodLink RX9 303 mX9_replays.1 ∈ ztb ∨ ∃ host, Cond.methodLinkNest RX9 303 mX9_replays.1 host ∈ lw_tbl := Or.inl (ztb_in (zc6 (List.mem_of_getElem? (i := 137) rfl)) rfl)
set_option maxRecDepth 20000 in
theorem kL_159 : Cond.methodLink RL 159 mX9_steps.1 ∈ ztb ∨ ∃ host, Cond.methodLinkNest RL 159 mX9_steps.1 host ∈ lw_tbl := Or.inl (ztb_in (zc6 (List.mem_of_getElem? (i := 141) rfl)) rfl)
set_option maxRecDepth 20000 in
theorem kL_163 : Cond.methodLink RL 163 mX9_now.1 ∈ ztb ∨ ∃ host, Cond.methodLinkNest RL 163 mX9_now.1 host ∈ lw_tbl := Or.inl (ztb_in (zc6 (List.mem_of_getElem? (i := 145) rfl)) rfl)
set_option maxRecDepth 20000 in
theorem kL_166 : Cond.methodLink RL 166 mX9_value.1 ∈ ztb ∨ ∃ host, Cond.methodLinkNest RL 166 mX9_value.1 host ∈ lw_tbl := Or.inl (ztb_in (zc6 (List.mem_of_getElem? (i := 149) rfl)) rfl)
set_option maxRecDepth 20000 in
theorem kL_169 : Cond.methodLink RL 169 mX9_valueAnew.1 ∈ ztb ∨ ∃ host, Cond.methodLinkNest RL 169 mX9_valueAnew.1 host ∈ lw_tbl := Or.inl (ztb_in (zc6 (List.mem_of_getElem? (i := 153) rfl)) rfl)
set_option maxRecDepth 20000 in
theorem kX9_306 : Cond.methodLink RX9 306 mX9_value.1 ∈ ztb ∨ ∃ host, Cond.methodLinkNest RX9 306 mX9_value.1 host ∈ lw_tbl := Or.inl (ztb_in (zc6 (List.mem_of_getElem? (i := 157) rfl)) rfl)
set_option maxRecDepth 20000 in
theorem kL_172 : Cond.methodLink RL 172 mX9_worth.1 ∈ ztb ∨ ∃ host, Cond.methodLinkNest RL 172 mX9_worth.1 host ∈ lw_tbl := Or.inl (ztb_in (zc6 (List.mem_of_getElem? (i := 158) rfl)) rfl)
set_option maxRecDepth 20000 in
theorem kL_175 : Cond.methodLink RL 175 mX9_depth.1 ∈ ztb ∨ ∃ host, Cond.methodLinkNest RL 175 mX9_depth.1 host ∈ lw_tbl := Or.inl (ztb_in (zc6 (List.mem_of_getElem? (i := 162) rfl)) rfl)
set_option maxRecDepth 20000 in
theorem kL_178 : Cond.methodLink RL 178 mX9_isStale.1 ∈ ztb ∨ ∃ host, Cond.methodLinkNest RL 178 mX9_isStale.1 host ∈ lw_tbl := Or.inl (ztb_in (zc6 (List.mem_of_getElem? (i := 166) rfl)) rfl)
set_option maxRecDepth 20000 in
theorem kL_182 : Cond.methodLink RL 182 mX9_work.1 ∈ ztb ∨ ∃ host, Cond.methodLinkNest RL 182 mX9_work.1 host ∈ lw_tbl := Or.inl (ztb_in (zc6 (List.mem_of_getElem? (i := 170) rfl)) rfl)
set_option maxRecDepth 20000 in
theorem kL_185 : Cond.methodLink RL 185 mX9_state.1 ∈ ztb ∨ ∃ host, Cond.methodLinkNest RL 185 mX9_state.1 host ∈ lw_tbl := Or.inl (ztb_in (zc6 (List.mem_of_getElem? (i := 174) rfl)) rfl)
set_option maxRecDepth 20000 in
theorem kL_188 : Cond.methodLink RL 188 mX9_load.1 ∈ ztb ∨ ∃ host, Cond.methodLinkNest RL 188 mX9_load.1 host ∈ lw_tbl := Or.inl (ztb_in (zc6 (List.mem_of_getElem? (i := 178) rfl)) rfl)
set_option maxRecDepth 20000 in
theorem kL_191 : Cond.methodLink RL 191 mX9_told.1 ∈ ztb ∨ ∃ host, Cond.methodLinkNest RL 191 mX9_told.1 host ∈ lw_tbl := Or.inl (ztb_in (zc6 (List.mem_of_getElem? (i := 182) rfl)) rfl)
set_option maxRecDepth 20000 in
theorem kL_194 : Cond.methodLink RL 194 mX9_starts.1 ∈ ztb ∨ ∃ host, Cond.methodLinkNest RL 194 mX9_starts.1 host ∈ lw_tbl := Or.inl (ztb_in (zc6 (List.mem_of_getElem? (i := 186) rfl)) rfl)
set_option maxRecDepth 20000 in
theorem kL_197 : Cond.methodLink RL 197 mX9_trial.1 ∈ ztb ∨ ∃ host, Cond.methodLinkNest RL 197 mX9_trial.1 host ∈ lw_tbl := Or.inl (ztb_in (zc6 (List.mem_of_getElem? (i := 190) rfl)) rfl)
set_option maxRecDepth 20000 in
theorem kX9_308 : Cond.methodLink RX9 308 mX9_readsAll.1 ∈ ztb ∨ ∃ host, Cond.methodLinkNest RX9 308 mX9_readsAll.1 host ∈ lw_tbl := Or.inl (ztb_in (zc6 (List.mem_of_getElem? (i := 194) rfl)) rfl)
set_option maxRecDepth 20000 in
theorem kL_200 : Cond.methodLink RL 200 mX9_isLoop.1 ∈ ztb ∨ ∃ host, Cond.methodLinkNest RL 200 mX9_isLoop.1 host ∈ lw_tbl := Or.inl (ztb_in (zc6 (List.mem_of_getElem? (i := 198) rfl)) rfl)
set_option maxRecDepth 20000 in
theorem kX9_311 : Cond.methodLink RX9 311 mX9_hangsOn.1 ∈ ztb ∨ ∃ host, Cond.methodLinkNest RX9 311 mX9_hangsOn.1 host ∈ lw_tbl := Or.inl (ztb_in (zc6 (List.mem_of_getElem? (i := 202) rfl)) rfl)
set_option maxRecDepth 20000 in
theorem oi1 : Cond.instanceMethod Lib.objectInit ∈ ztb := ztb_in (zc1 (List.mem_of_getElem? (i := 31) rfl)) rfl
set_option maxRecDepth 20000 in
theorem oi2 : Cond.code Lib.objectInit ⟨#[0xb1]⟩ 1 none ∈ ztb := ztb_in (zc1 (List.mem_of_getElem? (i := 32) rfl)) rfl
set_option maxRecDepth 20000 in
theorem ac_int : Cond.arrayClass .int ∈ ztb := ztb_in (zc1 (List.mem_of_getElem? (i := 74) rfl)) rfl
set_option maxRecDepth 20000 in
theorem ac_boolean : Cond.arrayClass .boolean ∈ ztb := ztb_in (zc5 (List.mem_of_getElem? (i := 148) rfl)) rfl
set_option maxRecDepth 20000 in
theorem ac_char : Cond.arrayClass .char ∈ ztb := ztb_in (zc1 (List.mem_of_getElem? (i := 48) rfl)) rfl
set_option maxRecDepth 20000 in
theorem ac_long : Cond.arrayClass .long ∈ ztb := ztb_in (zc5 (List.mem_of_getElem? (i := 149) rfl)) rfl
set_option maxRecDepth 20000 in
theorem itL : Cond.initialized RL ∈ ztb := ztb_in (zc1 (List.mem_of_getElem? (i := 0) rfl)) rfl
set_option maxRecDepth 20000 in
theorem itX8 : Cond.initialized RX8 ∈ ztb := ztb_in (zc1 (List.mem_of_getElem? (i := 1) rfl)) rfl
set_option maxRecDepth 20000 in
theorem itX7 : Cond.initialized RX7 ∈ ztb := ztb_in (zc1 (List.mem_of_getElem? (i := 2) rfl)) rfl
set_option maxRecDepth 20000 in
theorem itX2 : Cond.initialized RX2 ∈ ztb := ztb_in (zc1 (List.mem_of_getElem? (i := 3) rfl)) rfl
set_option maxRecDepth 20000 in
theorem itX6 : Cond.initialized RX6 ∈ ztb := ztb_in (zc1 (List.mem_of_getElem? (i := 4) rfl)) rfl
set_option maxRecDepth 20000 in
theorem itX1 : Cond.initialized RX1 ∈ ztb := ztb_in (zc1 (List.mem_of_getElem? (i := 5) rfl)) rfl
set_option maxRecDepth 20000 in
theorem itX0 : Cond.initialized RX0 ∈ ztb := ztb_in (zc1 (List.mem_of_getElem? (i := 6) rfl)) rfl
set_option maxRecDepth 20000 in
theorem itX3 : Cond.initialized RX3 ∈ ztb := ztb_in (zc1 (List.mem_of_getElem? (i := 7) rfl)) rfl
set_option maxRecDepth 20000 in
theorem itX4 : Cond.initialized RX4 ∈ ztb := ztb_in (zc1 (List.mem_of_getElem? (i := 8) rfl)) rfl
set_option maxRecDepth 20000 in
theorem itX5 : Cond.initialized RX5 ∈ ztb := ztb_in (zc1 (List.mem_of_getElem? (i := 9) rfl)) rfl
set_option maxRecDepth 20000 in
theorem itX9 : Cond.initialized RX9 ∈ ztb := ztb_in (zc1 (List.mem_of_getElem? (i := 10) rfl)) rfl
set_option maxRecDepth 20000 in
theorem kcL_8 : Cond.classLink RL 8 RX8 ∈ ztb := ztb_in (zc1 (List.mem_of_getElem? (i := 25) rfl)) rfl
set_option maxRecDepth 20000 in
theorem inX8 : Cond.instantiable RX8 7 ∈ ztb := ztb_in (zc1 (List.mem_of_getElem? (i := 26) rfl)) rfl
set_option maxRecDepth 20000 in
theorem kcX8_9 : Cond.classLink RX8 9 RX7 ∈ ztb := ztb_in (zc1 (List.mem_of_getElem? (i := 33) rfl)) rfl
set_option maxRecDepth 20000 in
theorem inX7 : Cond.instantiable RX7 2 ∈ ztb := ztb_in (zc1 (List.mem_of_getElem? (i := 34) rfl)) rfl
set_option maxRecDepth 20000 in
theorem kcX8_16 : Cond.classLink RX8 16 RX2 ∈ ztb := ztb_in (zc1 (List.mem_of_getElem? (i := 49) rfl)) rfl
set_option maxRecDepth 20000 in
theorem inX2 : Cond.instantiable RX2 6 ∈ ztb := ztb_in (zc1 (List.mem_of_getElem? (i := 50) rfl)) rfl
set_option maxRecDepth 20000 in
theorem kcX8_25 : Cond.classLink RX8 25 RX6 ∈ ztb := ztb_in (zc1 (List.mem_of_getElem? (i := 75) rfl)) rfl
set_option maxRecDepth 20000 in
theorem inX6 : Cond.instantiable RX6 9 ∈ ztb := ztb_in (zc1 (List.mem_of_getElem? (i := 76) rfl)) rfl
set_option maxRecDepth 20000 in
theorem kcX6_9 : Cond.classLink RX6 9 RX1 ∈ ztb := ztb_in (zc1 (List.mem_of_getElem? (i := 81) rfl)) rfl
set_option maxRecDepth 20000 in
theorem inX1 : Cond.instantiable RX1 2 ∈ ztb := ztb_in (zc1 (List.mem_of_getElem? (i := 82) rfl)) rfl
set_option maxRecDepth 20000 in
theorem kcX6_20 : Cond.classLink RX6 20 RX0 ∈ ztb := ztb_in (zc1 (List.mem_of_getElem? (i := 97) rfl)) rfl
set_option maxRecDepth 20000 in
theorem kcX6_29 : Cond.classLink RX6 29 RX3 ∈ ztb := ztb_in (zc1 (List.mem_of_getElem? (i := 99) rfl)) rfl
set_option maxRecDepth 20000 in
theorem kcX6_35 : Cond.classLink RX6 35 RX4 ∈ ztb := ztb_in (zc1 (List.mem_of_getElem? (i := 101) rfl)) rfl
set_option maxRecDepth 20000 in
theorem inX0 : Cond.instantiable RX0 5 ∈ ztb := ztb_in (zc1 (List.mem_of_getElem? (i := 103) rfl)) rfl
set_option maxRecDepth 20000 in
theorem inX3 : Cond.instantiable RX3 2 ∈ ztb := ztb_in (zc1 (List.mem_of_getElem? (i := 133) rfl)) rfl
set_option maxRecDepth 20000 in
theorem inX4 : Cond.instantiable RX4 14 ∈ ztb := ztb_in (zc1 (List.mem_of_getElem? (i := 147) rfl)) rfl
set_option maxRecDepth 20000 in
theorem kcX8_35 : Cond.classLink RX8 35 RX5 ∈ ztb := ztb_in (zc2 (List.mem_of_getElem? (i := 2) rfl)) rfl
set_option maxRecDepth 20000 in
theorem inX5 : Cond.instantiable RX5 6 ∈ ztb := ztb_in (zc2 (List.mem_of_getElem? (i := 4) rfl)) rfl
set_option maxRecDepth 20000 in
theorem kcX2_42 : Cond.classLink RX2 42 RX1 ∈ ztb := ztb_in (zc3 (List.mem_of_getElem? (i := 118) rfl)) rfl
set_option maxRecDepth 20000 in
theorem kcL_95 : Cond.classLink RL 95 RX9 ∈ ztb := ztb_in (zc4 (List.mem_of_getElem? (i := 235) rfl)) rfl
set_option maxRecDepth 20000 in
theorem inX9 : Cond.instantiable RX9 46 ∈ ztb := ztb_in (zc4 (List.mem_of_getElem? (i := 236) rfl)) rfl
end
section
/-! ===== memories: shape μ, numbers σ, references π, longs g ===== -/
def zA4 (μ : zMem) (σ : Nat → Nat → Int32) (π : Nat → Nat → Option Nat) (g : Nat → Nat → Int64) : zMem := (zN μ, zK μ, zL μ, σ, π, g)
def zu (σ : Nat → Nat → Int32) (a i : Nat) (v : Int32) : Nat → Nat → Int32 := fun b j => if b = a ∧ j = i then v else σ b j
def zup (π : Nat → Nat → Option Nat) (a i : Nat) (v : Option Nat) : Nat → Nat → Option Nat := fun b j => if b = a ∧ j = i then v else π b j
def zug (g : Nat → Nat → Int64) (a i : Nat) (v : Int64) : Nat → Nat → Int64 := fun b j => if b = a ∧ j = i then v else g b j
theorem zA4_self (μ : zMem) : zA4 μ (zI μ) (zP μ) (zG μ) = μ := rfl
def znl : Option Value → Bool := fun o => match o with
  | some (.long _) => false
  | some (.double _) => false
  | _ => true
theorem zst1_nl {L : List (Option Value)} {k : Nat} {x : Option Value} {v : Value} (h : L[k]? = some x) (hx : znl x = true) : zst1 L (k + 1) v = L.set (k + 1) (some v) := by
  unfold zst1
  dsimp only
  rw [h]
  cases x with
  | none => rfl
  | some w => cases w <;> first | rfl | cases hx
theorem nI_inc (n : Nat) : nI n + Int32.ofInt 1 = nI (n + 1) := nI_1 n
section ZRR
variable {l : Launch} {Z : zZ} {τ : zT} {M : zM} {kk mc ms : Nat} {F : State → Prop} {pc : Nat} {L : List (Option Value)} {st : List Value} {c k : Nat} {μ : zMem} {σ : Nat → Nat → Int32} {π : Nat → Nat → Option Nat} {g : Nat → Nat → Int64}
theorem R_getI (hT : zCx τ M kk mc ms) {a ci kf idx : Nat} (hf : zFd M.1.cls idx ci kf) (hr : zrt (zfty ci kf) = false) (hd : decode M.2.1 pc = .ok (.getfield idx, 3)) (hk : zK μ a = ci + 8)
    (h : zJ τ F (pc + 3) L (.int (σ a kf) :: st) (zA4 μ σ π g) c k) : zJ τ F pc L (.ref a :: st) (zA4 μ σ π g) c k := J_getI hT hf hr hd hk h
theorem R_getP (hT : zCx τ M kk mc ms) {a ci kf idx r : Nat} (hf : zFd M.1.cls idx ci kf) (hr : zrt (zfty ci kf) = true) (hd : decode M.2.1 pc = .ok (.getfield idx, 3)) (hk : zK μ a = ci + 8) (hp : π a kf = some r)
    (h : zJ τ F (pc + 3) L (.ref r :: st) (zA4 μ σ π g) c k) : zJ τ F pc L (.ref a :: st) (zA4 μ σ π g) c k := J_getP hT hf hr hd hk hp h
theorem R_getN (hT : zCx τ M kk mc ms) {a ci kf idx : Nat} (hf : zFd M.1.cls idx ci kf) (hr : zrt (zfty ci kf) = true) (hd : decode M.2.1 pc = .ok (.getfield idx, 3)) (hk : zK μ a = ci + 8) (hp : π a kf = none)
    (h : zJ τ F (pc + 3) L (.null :: st) (zA4 μ σ π g) c k) : zJ τ F pc L (.ref a :: st) (zA4 μ σ π g) c k := J_getN hT hf hr hd hk hp h
theorem R_putI (hT : zCx τ M kk mc ms) {a ci kf idx : Nat} {v : Int32} (hf : zFd M.1.cls idx ci kf) (hfin : (zTX ci kf).2.2.2 = false) (hr : zfty ci kf = .int) (hd : decode M.2.1 pc = .ok (.putfield idx, 3)) (hk : zK μ a = ci + 8)
    (h : zJ τ F (pc + 3) L st (zA4 μ (zu σ a kf v) π g) c k) : zJ τ F pc L (.int v :: .ref a :: st) (zA4 μ σ π g) c k := J_putI hT hf (Or.inl hfin) hr hd hk h
theorem R_putZ (hT : zCx τ M kk mc ms) {a ci kf idx : Nat} {v : Int32} (hf : zFd M.1.cls idx ci kf) (hfin : (zTX ci kf).2.2.2 = false) (hr : zfty ci kf = .boolean) (hz : v = 0 ∨ v = 1) (hd : decode M.2.1 pc = .ok (.putfield idx, 3)) (hk : zK μ a = ci + 8)
    (h : zJ τ F (pc + 3) L st (zA4 μ (zu σ a kf v) π g) c k) : zJ τ F pc L (.int v :: .ref a :: st) (zA4 μ σ π g) c k := J_putZ hT hf (Or.inl hfin) hr hz hd hk h
theorem R_putP (hT : zCx τ M kk mc ms) {a ci kf idx r : Nat} (hf : zFd M.1.cls idx ci kf) (hfin : (zTX ci kf).2.2.2 = false) (hr : zrt (zfty ci kf) = true) (hd : decode M.2.1 pc = .ok (.putfield idx, 3)) (hk : zK μ a = ci + 8)
    (h : zJ τ F (pc + 3) L st (zA4 μ σ (zup π a kf (some r)) g) c k) : zJ τ F pc L (.ref r :: .ref a :: st) (zA4 μ σ π g) c k := J_putP hT hf (Or.inl hfin) hr hd hk h
theorem R_iald (hT : zCx τ M kk mc ms) {a j n : Nat} {i : Int32} (hd : decode M.2.1 pc = .ok (.iaload, 1)) (hk : zK μ a = 0) (hn : zL μ a = n) (hi : zix i j n) (h : zJ τ F (pc + 1) L (.int (σ a j) :: st) (zA4 μ σ π g) c k) : zJ τ F pc L (.int i :: .ref a :: st) (zA4 μ σ π g) c k := J_iald (μ := zA4 μ σ π g) hT hd hk (hn ▸ hi) h
theorem R_zald (hT : zCx τ M kk mc ms) {a j n : Nat} {i : Int32} (hd : decode M.2.1 pc = .ok (.baload, 1)) (hk : zK μ a = 1) (hn : zL μ a = n) (hi : zix i j n) (h : zJ τ F (pc + 1) L (.int (σ a j) :: st) (zA4 μ σ π g) c k) : zJ τ F pc L (.int i :: .ref a :: st) (zA4 μ σ π g) c k := J_zald (μ := zA4 μ σ π g) hT hd hk (hn ▸ hi) h
theorem R_cald (hT : zCx τ M kk mc ms) {a j n : Nat} {i : Int32} (hd : decode M.2.1 pc = .ok (.caload, 1)) (hk : zK μ a = 2) (hn : zL μ a = n) (hi : zix i j n) (h : zJ τ F (pc + 1) L (.int (σ a j) :: st) (zA4 μ σ π g) c k) : zJ τ F pc L (.int i :: .ref a :: st) (zA4 μ σ π g) c k := J_cald (μ := zA4 μ σ π g) hT hd hk (hn ▸ hi) h
theorem R_lald (hT : zCx τ M kk mc ms) {a j n : Nat} {i : Int32} (hd : decode M.2.1 pc = .ok (.laload, 1)) (hk : zK μ a = 3) (hn : zL μ a = n) (hi : zix i j n) (h : zJ τ F (pc + 1) L (.long (g a j) :: st) (zA4 μ σ π g) c k) : zJ τ F pc L (.int i :: .ref a :: st) (zA4 μ σ π g) c k := J_lald (μ := zA4 μ σ π g) hT hd hk (hn ▸ hi) h
theorem R_aald (hT : zCx τ M kk mc ms) {a j n kd : Nat} {i : Int32} {v : Value} (hd : decode M.2.1 pc = .ok (.aaload, 1)) (hk : zK μ a = kd) (h38 : 3 < kd ∧ kd < 8) (hn : zL μ a = n) (hi : zix i j n) (hv : va_rf (π a j) = v) (h : zJ τ F (pc + 1) L (v :: st) (zA4 μ σ π g) c k) : zJ τ F pc L (.int i :: .ref a :: st) (zA4 μ σ π g) c k := J_aald (μ := zA4 μ σ π g) hT hd hk h38.1 h38.2 (hn ▸ hi) hv h
theorem R_aald1 (hT : zCx τ M kk mc ms) {a j n kd r : Nat} {i : Int32} (hd : decode M.2.1 pc = .ok (.aaload, 1)) (hk : zK μ a = kd) (h38 : 3 < kd ∧ kd < 8) (hn : zL μ a = n) (hi : zix i j n) (hv : π a j = some r) (h : zJ τ F (pc + 1) L (.ref r :: st) (zA4 μ σ π g) c k) : zJ τ F pc L (.int i :: .ref a :: st) (zA4 μ σ π g) c k := R_aald hT hd hk h38 hn hi (by rw [hv]; rfl) h
theorem R_alen (hT : zCx τ M kk mc ms) {a n : Nat} (hd : decode M.2.1 pc = .ok (.arraylength, 1)) (hk : zK μ a < 8) (hn : zL μ a = n) (h : zJ τ F (pc + 1) L (.int (nI n) :: st) (zA4 μ σ π g) c k) : zJ τ F pc L (.ref a :: st) (zA4 μ σ π g) c k := J_alen (μ := zA4 μ σ π g) hT hd hk (by rw [← hn]; rfl) h
theorem R_iast (hT : zCx τ M kk mc ms) {a j n : Nat} {i x : Int32} (hd : decode M.2.1 pc = .ok (.iastore, 1)) (hk : zK μ a = 0) (hn : zL μ a = n) (hi : zix i j n) (h : zJ τ F (pc + 1) L st (zA4 μ (zu σ a j x) π g) c k) : zJ τ F pc L (.int x :: .int i :: .ref a :: st) (zA4 μ σ π g) c k := J_iast (μ := zA4 μ σ π g) hT hd hk (hn ▸ hi) h
theorem R_zast (hT : zCx τ M kk mc ms) {a j n : Nat} {i x : Int32} (hd : decode M.2.1 pc = .ok (.bastore, 1)) (hk : zK μ a = 1) (hn : zL μ a = n) (hi : zix i j n) (hx : x = 0 ∨ x = 1) (h : zJ τ F (pc + 1) L st (zA4 μ (zu σ a j x) π g) c k) : zJ τ F pc L (.int x :: .int i :: .ref a :: st) (zA4 μ σ π g) c k := J_zast (μ := zA4 μ σ π g) hT hd hk (hn ▸ hi) hx h
theorem R_cast (hT : zCx τ M kk mc ms) {a j n : Nat} {i x : Int32} (hd : decode M.2.1 pc = .ok (.castore, 1)) (hk : zK μ a = 2) (hn : zL μ a = n) (hi : zix i j n) (hx : vp_nar .char x = x) (h : zJ τ F (pc + 1) L st (zA4 μ (zu σ a j x) π g) c k) : zJ τ F pc L (.int x :: .int i :: .ref a :: st) (zA4 μ σ π g) c k := J_cast (μ := zA4 μ σ π g) hT hd hk (hn ▸ hi) hx h
theorem R_last (hT : zCx τ M kk mc ms) {a j n : Nat} {i : Int32} {x : Int64} (hd : decode M.2.1 pc = .ok (.lastore, 1)) (hk : zK μ a = 3) (hn : zL μ a = n) (hi : zix i j n) (h : zJ τ F (pc + 1) L st (zA4 μ σ π (zug g a j x)) c k) : zJ τ F pc L (.long x :: .int i :: .ref a :: st) (zA4 μ σ π g) c k := J_last (μ := zA4 μ σ π g) hT hd hk (hn ▸ hi) h
theorem R_aast (hT : zCx τ M kk mc ms) {a j kd r n : Nat} {i : Int32} (hd : decode M.2.1 pc = .ok (.aastore, 1)) (hk : zK μ a = kd) (h38 : 3 < kd ∧ kd < 8) (hr : zK μ r = zqc kd + 8) (hn : zL μ a = n) (hi : zix i j n) (h : zJ τ F (pc + 1) L st (zA4 μ σ (zup π a j (some r)) g) c k) : zJ τ F pc L (.ref r :: .int i :: .ref a :: st) (zA4 μ σ π g) c k := J_aast (μ := zA4 μ σ π g) hT hd hk h38.1 h38.2 hr (hn ▸ hi) h
/-- calls whose contract says the answer and the world, nothing made -/
theorem R_callS1 (hY : zCy l Z τ M kk mc ms) {m : zM} {n k' idx : Nat} {as stk : List Value} {v : Value} {μ0 μ1 : zMem} (hd : decode M.2.1 pc = .ok (.invokestatic idx, 3)) (hm : zMf m n) (hsta : Cond.static m.1 ∈ ztb) (hlink : Cond.methodLink M.1.cls idx m.1 ∈ ztb ∨ ∃ host, Cond.methodLinkNest M.1.cls idx m.1 host ∈ lw_tbl)
    (ct : zCt l Z m k' 0 0 as μ0 (fun r μ' => r = some v ∧ μ' = μ1)) (hn : as.length = n) (hkk : k' < kk) (hs : stk = as.reverse ++ st) (hL : L.length = M.2.2.1) (h8 : (st.map fun v => v.category).sum ≤ 8) (hc : c ≤ mc) (hk : k ≤ ms)
    (h : zJ τ F (pc + 3) L (v :: st) μ1 c k) : zJ τ F pc L stk μ0 c k :=
  J_callS hY hd hm hsta hlink ct hn hkk hs hL h8 hc hk (fun r μ' q => by obtain ⟨rfl, rfl⟩ := q; exact h)
theorem R_callS0 (hY : zCy l Z τ M kk mc ms) {m : zM} {n k' idx : Nat} {as stk : List Value} {μ0 μ1 : zMem} (hd : decode M.2.1 pc = .ok (.invokestatic idx, 3)) (hm : zMf m n) (hsta : Cond.static m.1 ∈ ztb) (hlink : Cond.methodLink M.1.cls idx m.1 ∈ ztb ∨ ∃ host, Cond.methodLinkNest M.1.cls idx m.1 host ∈ lw_tbl)
    (ct : zCt l Z m k' 0 0 as μ0 (fun r μ' => r = none ∧ μ' = μ1)) (hn : as.length = n) (hkk : k' < kk) (hs : stk = as.reverse ++ st) (hL : L.length = M.2.2.1) (h8 : (st.map fun v => v.category).sum ≤ 8) (hc : c ≤ mc) (hk : k ≤ ms)
    (h : zJ τ F (pc + 3) L st μ1 c k) : zJ τ F pc L stk μ0 c k :=
  J_callS hY hd hm hsta hlink ct hn hkk hs hL h8 hc hk (fun r μ' q => by obtain ⟨rfl, rfl⟩ := q; exact h)
theorem R_callV1 (hY : zCy l Z τ M kk mc ms) {m : zM} {n k' idx b ci : Nat} {as stk : List Value} {v : Value} {μ0 μ1 : zMem} (hd : decode M.2.1 pc = .ok (.invokevirtual idx, 3)) (hm : zMf m n) (hins : Cond.instanceMethod m.1 ∈ ztb) (hsel : Cond.selects m.1.cls m.1 m.1 ∈ ztb) (hlink : Cond.methodLink M.1.cls idx m.1 ∈ ztb ∨ ∃ host, Cond.methodLinkNest M.1.cls idx m.1 host ∈ lw_tbl)
    (hci : ci < 10 ∧ zRX ci = m.1.cls) (hb : zK μ0 b = ci + 8) (ct : zCt l Z m k' 0 0 (.ref b :: as) μ0 (fun r μ' => r = some v ∧ μ' = μ1)) (hn : as.length = n) (hkk : k' < kk) (hs : stk = as.reverse ++ .ref b :: st) (hL : L.length = M.2.2.1) (h8 : (st.map fun v => v.category).sum ≤ 8) (hc : c ≤ mc) (hk : k ≤ ms)
    (h : zJ τ F (pc + 3) L (v :: st) μ1 c k) : zJ τ F pc L stk μ0 c k :=
  J_callV hY hd hm hins hsel hlink hci hb ct hn hkk hs hL h8 hc hk (fun r μ' q => by obtain ⟨rfl, rfl⟩ := q; exact h)
theorem R_callV0 (hY : zCy l Z τ M kk mc ms) {m : zM} {n k' idx b ci : Nat} {as stk : List Value} {μ0 μ1 : zMem} (hd : decode M.2.1 pc = .ok (.invokevirtual idx, 3)) (hm : zMf m n) (hins : Cond.instanceMethod m.1 ∈ ztb) (hsel : Cond.selects m.1.cls m.1 m.1 ∈ ztb) (hlink : Cond.methodLink M.1.cls idx m.1 ∈ ztb ∨ ∃ host, Cond.methodLinkNest M.1.cls idx m.1 host ∈ lw_tbl)
    (hci : ci < 10 ∧ zRX ci = m.1.cls) (hb : zK μ0 b = ci + 8) (ct : zCt l Z m k' 0 0 (.ref b :: as) μ0 (fun r μ' => r = none ∧ μ' = μ1)) (hn : as.length = n) (hkk : k' < kk) (hs : stk = as.reverse ++ .ref b :: st) (hL : L.length = M.2.2.1) (h8 : (st.map fun v => v.category).sum ≤ 8) (hc : c ≤ mc) (hk : k ≤ ms)
    (h : zJ τ F (pc + 3) L st μ1 c k) : zJ τ F pc L stk μ0 c k :=
  J_callV hY hd hm hins hsel hlink hci hb ct hn hkk hs hL h8 hc hk (fun r μ' q => by obtain ⟨rfl, rfl⟩ := q; exact h)

theorem S_istore0 (hT : zCx τ M kk mc ms) {q : Fin 4} {x : Int32} {x0 : Option Value} (hd : decode M.2.1 pc = .ok (.istore_n q, 1)) (hi : (q : Nat) = 0) (h : zJ τ F (pc + 1) (some (.int x) :: L) st μ c k) : zJ τ F pc (x0 :: L) (.int x :: st) μ c k := by
  exact J_istore_n (i := 0) hT hd hi (by simp) h

theorem S_astore0 (hT : zCx τ M kk mc ms) {q : Fin 4} {x : Nat} {x0 : Option Value} (hd : decode M.2.1 pc = .ok (.astore_n q, 1)) (hi : (q : Nat) = 0) (h : zJ τ F (pc + 1) (some (.ref x) :: L) st μ c k) : zJ τ F pc (x0 :: L) (.ref x :: st) μ c k := by
  exact J_astore_n (i := 0) hT hd hi (by simp) h

theorem S_astoreN0 (hT : zCx τ M kk mc ms) {q : Fin 4} {x0 : Option Value} (hd : decode M.2.1 pc = .ok (.astore_n q, 1)) (hi : (q : Nat) = 0) (h : zJ τ F (pc + 1) (some (.null) :: L) st μ c k) : zJ τ F pc (x0 :: L) (.null :: st) μ c k := by
  exact J_astore_nN (i := 0) hT hd hi (by simp) h

theorem S_iinc0 (hT : zCx τ M kk mc ms) {n : Int} {x v : Int32} (hd : decode M.2.1 pc = .ok (.iinc 0 n, 3)) (hv : x + Int32.ofInt n = v) (h : zJ τ F (pc + 3) (some (.int v) :: L) st μ c k) : zJ τ F pc (some (.int x) :: L) st μ c k := by
  exact J_iinc (i := 0) hT hd rfl hv h

theorem S_lstore0 (hT : zCx τ M kk mc ms) {q : Fin 4} {x : Int64} {x0 x1 : Option Value} (hd : decode M.2.1 pc = .ok (.lstore_n q, 1)) (hi : (q : Nat) = 0) (h : zJ τ F (pc + 1) (some (.long x) :: none :: L) st μ c k) : zJ τ F pc (x0 :: x1 :: L) (.long x :: st) μ c k := by
  refine J_lstore_n (i := 0) hT hd hi (by simp) ?_
  exact h

theorem S_istore1 (hT : zCx τ M kk mc ms) {q : Fin 4} {x : Int32} {x0 x1 : Option Value} (hd : decode M.2.1 pc = .ok (.istore_n q, 1)) (hi : (q : Nat) = 1) (hx : znl x0 = true) (h : zJ τ F (pc + 1) (x0 :: some (.int x) :: L) st μ c k) : zJ τ F pc (x0 :: x1 :: L) (.int x :: st) μ c k := by
  refine J_istore_n (i := 1) hT hd hi (by simp) ?_
  rw [zst1_nl (k := 0) (x := x0) rfl hx]
  exact h

theorem S_astore1 (hT : zCx τ M kk mc ms) {q : Fin 4} {x : Nat} {x0 x1 : Option Value} (hd : decode M.2.1 pc = .ok (.astore_n q, 1)) (hi : (q : Nat) = 1) (hx : znl x0 = true) (h : zJ τ F (pc + 1) (x0 :: some (.ref x) :: L) st μ c k) : zJ τ F pc (x0 :: x1 :: L) (.ref x :: st) μ c k := by
  refine J_astore_n (i := 1) hT hd hi (by simp) ?_
  rw [zst1_nl (k := 0) (x := x0) rfl hx]
  exact h

theorem S_astoreN1 (hT : zCx τ M kk mc ms) {q : Fin 4} {x0 x1 : Option Value} (hd : decode M.2.1 pc = .ok (.astore_n q, 1)) (hi : (q : Nat) = 1) (hx : znl x0 = true) (h : zJ τ F (pc + 1) (x0 :: some (.null) :: L) st μ c k) : zJ τ F pc (x0 :: x1 :: L) (.null :: st) μ c k := by
  refine J_astore_nN (i := 1) hT hd hi (by simp) ?_
  rw [zst1_nl (k := 0) (x := x0) rfl hx]
  exact h

theorem S_iinc1 (hT : zCx τ M kk mc ms) {n : Int} {x v : Int32} {x0 : Option Value} (hd : decode M.2.1 pc = .ok (.iinc 1 n, 3)) (hv : x + Int32.ofInt n = v) (hx : znl x0 = true) (h : zJ τ F (pc + 3) (x0 :: some (.int v) :: L) st μ c k) : zJ τ F pc (x0 :: some (.int x) :: L) st μ c k := by
  refine J_iinc (i := 1) hT hd rfl hv ?_
  rw [zst1_nl (k := 0) (x := x0) rfl hx]
  exact h

theorem S_lstore1 (hT : zCx τ M kk mc ms) {q : Fin 4} {x : Int64} {x0 x1 x2 : Option Value} (hd : decode M.2.1 pc = .ok (.lstore_n q, 1)) (hi : (q : Nat) = 1) (hx : znl x0 = true) (h : zJ τ F (pc + 1) (x0 :: some (.long x) :: none :: L) st μ c k) : zJ τ F pc (x0 :: x1 :: x2 :: L) (.long x :: st) μ c k := by
  refine J_lstore_n (i := 1) hT hd hi (by simp) ?_
  unfold zst2
  rw [zst1_nl (k := 0) (x := x0) rfl hx]
  exact h

theorem S_istore2 (hT : zCx τ M kk mc ms) {q : Fin 4} {x : Int32} {x0 x1 x2 : Option Value} (hd : decode M.2.1 pc = .ok (.istore_n q, 1)) (hi : (q : Nat) = 2) (hx : znl x1 = true) (h : zJ τ F (pc + 1) (x0 :: x1 :: some (.int x) :: L) st μ c k) : zJ τ F pc (x0 :: x1 :: x2 :: L) (.int x :: st) μ c k := by
  refine J_istore_n (i := 2) hT hd hi (by simp) ?_
  rw [zst1_nl (k := 1) (x := x1) rfl hx]
  exact h

theorem S_astore2 (hT : zCx τ M kk mc ms) {q : Fin 4} {x : Nat} {x0 x1 x2 : Option Value} (hd : decode M.2.1 pc = .ok (.astore_n q, 1)) (hi : (q : Nat) = 2) (hx : znl x1 = true) (h : zJ τ F (pc + 1) (x0 :: x1 :: some (.ref x) :: L) st μ c k) : zJ τ F pc (x0 :: x1 :: x2 :: L) (.ref x :: st) μ c k := by
  refine J_astore_n (i := 2) hT hd hi (by simp) ?_
  rw [zst1_nl (k := 1) (x := x1) rfl hx]
  exact h

theorem S_astoreN2 (hT : zCx τ M kk mc ms) {q : Fin 4} {x0 x1 x2 : Option Value} (hd : decode M.2.1 pc = .ok (.astore_n q, 1)) (hi : (q : Nat) = 2) (hx : znl x1 = true) (h : zJ τ F (pc + 1) (x0 :: x1 :: some (.null) :: L) st μ c k) : zJ τ F pc (x0 :: x1 :: x2 :: L) (.null :: st) μ c k := by
  refine J_astore_nN (i := 2) hT hd hi (by simp) ?_
  rw [zst1_nl (k := 1) (x := x1) rfl hx]
  exact h

theorem S_iinc2 (hT : zCx τ M kk mc ms) {n : Int} {x v : Int32} {x0 x1 : Option Value} (hd : decode M.2.1 pc = .ok (.iinc 2 n, 3)) (hv : x + Int32.ofInt n = v) (hx : znl x1 = true) (h : zJ τ F (pc + 3) (x0 :: x1 :: some (.int v) :: L) st μ c k) : zJ τ F pc (x0 :: x1 :: some (.int x) :: L) st μ c k := by
  refine J_iinc (i := 2) hT hd rfl hv ?_
  rw [zst1_nl (k := 1) (x := x1) rfl hx]
  exact h

theorem S_lstore2 (hT : zCx τ M kk mc ms) {q : Fin 4} {x : Int64} {x0 x1 x2 x3 : Option Value} (hd : decode M.2.1 pc = .ok (.lstore_n q, 1)) (hi : (q : Nat) = 2) (hx : znl x1 = true) (h : zJ τ F (pc + 1) (x0 :: x1 :: some (.long x) :: none :: L) st μ c k) : zJ τ F pc (x0 :: x1 :: x2 :: x3 :: L) (.long x :: st) μ c k := by
  refine J_lstore_n (i := 2) hT hd hi (by simp) ?_
  unfold zst2
  rw [zst1_nl (k := 1) (x := x1) rfl hx]
  exact h

theorem S_istore3 (hT : zCx τ M kk mc ms) {q : Fin 4} {x : Int32} {x0 x1 x2 x3 : Option Value} (hd : decode M.2.1 pc = .ok (.istore_n q, 1)) (hi : (q : Nat) = 3) (hx : znl x2 = true) (h : zJ τ F (pc + 1) (x0 :: x1 :: x2 :: some (.int x) :: L) st μ c k) : zJ τ F pc (x0 :: x1 :: x2 :: x3 :: L) (.int x :: st) μ c k := by
  refine J_istore_n (i := 3) hT hd hi (by simp) ?_
  rw [zst1_nl (k := 2) (x := x2) rfl hx]
  exact h

theorem S_astore3 (hT : zCx τ M kk mc ms) {q : Fin 4} {x : Nat} {x0 x1 x2 x3 : Option Value} (hd : decode M.2.1 pc = .ok (.astore_n q, 1)) (hi : (q : Nat) = 3) (hx : znl x2 = true) (h : zJ τ F (pc + 1) (x0 :: x1 :: x2 :: some (.ref x) :: L) st μ c k) : zJ τ F pc (x0 :: x1 :: x2 :: x3 :: L) (.ref x :: st) μ c k := by
  refine J_astore_n (i := 3) hT hd hi (by simp) ?_
  rw [zst1_nl (k := 2) (x := x2) rfl hx]
  exact h

theorem S_astoreN3 (hT : zCx τ M kk mc ms) {q : Fin 4} {x0 x1 x2 x3 : Option Value} (hd : decode M.2.1 pc = .ok (.astore_n q, 1)) (hi : (q : Nat) = 3) (hx : znl x2 = true) (h : zJ τ F (pc + 1) (x0 :: x1 :: x2 :: some (.null) :: L) st μ c k) : zJ τ F pc (x0 :: x1 :: x2 :: x3 :: L) (.null :: st) μ c k := by
  refine J_astore_nN (i := 3) hT hd hi (by simp) ?_
  rw [zst1_nl (k := 2) (x := x2) rfl hx]
  exact h

theorem S_iinc3 (hT : zCx τ M kk mc ms) {n : Int} {x v : Int32} {x0 x1 x2 : Option Value} (hd : decode M.2.1 pc = .ok (.iinc 3 n, 3)) (hv : x + Int32.ofInt n = v) (hx : znl x2 = true) (h : zJ τ F (pc + 3) (x0 :: x1 :: x2 :: some (.int v) :: L) st μ c k) : zJ τ F pc (x0 :: x1 :: x2 :: some (.int x) :: L) st μ c k := by
  refine J_iinc (i := 3) hT hd rfl hv ?_
  rw [zst1_nl (k := 2) (x := x2) rfl hx]
  exact h

theorem S_lstore3 (hT : zCx τ M kk mc ms) {q : Fin 4} {x : Int64} {x0 x1 x2 x3 x4 : Option Value} (hd : decode M.2.1 pc = .ok (.lstore_n q, 1)) (hi : (q : Nat) = 3) (hx : znl x2 = true) (h : zJ τ F (pc + 1) (x0 :: x1 :: x2 :: some (.long x) :: none :: L) st μ c k) : zJ τ F pc (x0 :: x1 :: x2 :: x3 :: x4 :: L) (.long x :: st) μ c k := by
  refine J_lstore_n (i := 3) hT hd hi (by simp) ?_
  unfold zst2
  rw [zst1_nl (k := 2) (x := x2) rfl hx]
  exact h

theorem S_istore4 (hT : zCx τ M kk mc ms) {x : Int32} {x0 x1 x2 x3 x4 : Option Value} (hd : decode M.2.1 pc = .ok (.istore 4, 2)) (hx : znl x3 = true) (h : zJ τ F (pc + 2) (x0 :: x1 :: x2 :: x3 :: some (.int x) :: L) st μ c k) : zJ τ F pc (x0 :: x1 :: x2 :: x3 :: x4 :: L) (.int x :: st) μ c k := by
  refine J_istore (i := 4) hT hd (by simp) ?_
  rw [zst1_nl (k := 3) (x := x3) rfl hx]
  exact h

theorem S_astore4 (hT : zCx τ M kk mc ms) {x : Nat} {x0 x1 x2 x3 x4 : Option Value} (hd : decode M.2.1 pc = .ok (.astore 4, 2)) (hx : znl x3 = true) (h : zJ τ F (pc + 2) (x0 :: x1 :: x2 :: x3 :: some (.ref x) :: L) st μ c k) : zJ τ F pc (x0 :: x1 :: x2 :: x3 :: x4 :: L) (.ref x :: st) μ c k := by
  refine J_astore (i := 4) hT hd (by simp) ?_
  rw [zst1_nl (k := 3) (x := x3) rfl hx]
  exact h

theorem S_astoreN4 (hT : zCx τ M kk mc ms) {x0 x1 x2 x3 x4 : Option Value} (hd : decode M.2.1 pc = .ok (.astore 4, 2)) (hx : znl x3 = true) (h : zJ τ F (pc + 2) (x0 :: x1 :: x2 :: x3 :: some (.null) :: L) st μ c k) : zJ τ F pc (x0 :: x1 :: x2 :: x3 :: x4 :: L) (.null :: st) μ c k := by
  refine J_astoreN (i := 4) hT hd (by simp) ?_
  rw [zst1_nl (k := 3) (x := x3) rfl hx]
  exact h

theorem S_iinc4 (hT : zCx τ M kk mc ms) {n : Int} {x v : Int32} {x0 x1 x2 x3 : Option Value} (hd : decode M.2.1 pc = .ok (.iinc 4 n, 3)) (hv : x + Int32.ofInt n = v) (hx : znl x3 = true) (h : zJ τ F (pc + 3) (x0 :: x1 :: x2 :: x3 :: some (.int v) :: L) st μ c k) : zJ τ F pc (x0 :: x1 :: x2 :: x3 :: some (.int x) :: L) st μ c k := by
  refine J_iinc (i := 4) hT hd rfl hv ?_
  rw [zst1_nl (k := 3) (x := x3) rfl hx]
  exact h

theorem S_lstore4 (hT : zCx τ M kk mc ms) {x : Int64} {x0 x1 x2 x3 x4 x5 : Option Value} (hd : decode M.2.1 pc = .ok (.lstore 4, 2)) (hx : znl x3 = true) (h : zJ τ F (pc + 2) (x0 :: x1 :: x2 :: x3 :: some (.long x) :: none :: L) st μ c k) : zJ τ F pc (x0 :: x1 :: x2 :: x3 :: x4 :: x5 :: L) (.long x :: st) μ c k := by
  refine J_lstore (i := 4) hT hd (by simp) ?_
  unfold zst2
  rw [zst1_nl (k := 3) (x := x3) rfl hx]
  exact h

theorem S_istore5 (hT : zCx τ M kk mc ms) {x : Int32} {x0 x1 x2 x3 x4 x5 : Option Value} (hd : decode M.2.1 pc = .ok (.istore 5, 2)) (hx : znl x4 = true) (h : zJ τ F (pc + 2) (x0 :: x1 :: x2 :: x3 :: x4 :: some (.int x) :: L) st μ c k) : zJ τ F pc (x0 :: x1 :: x2 :: x3 :: x4 :: x5 :: L) (.int x :: st) μ c k := by
  refine J_istore (i := 5) hT hd (by simp) ?_
  rw [zst1_nl (k := 4) (x := x4) rfl hx]
  exact h

theorem S_astore5 (hT : zCx τ M kk mc ms) {x : Nat} {x0 x1 x2 x3 x4 x5 : Option Value} (hd : decode M.2.1 pc = .ok (.astore 5, 2)) (hx : znl x4 = true) (h : zJ τ F (pc + 2) (x0 :: x1 :: x2 :: x3 :: x4 :: some (.ref x) :: L) st μ c k) : zJ τ F pc (x0 :: x1 :: x2 :: x3 :: x4 :: x5 :: L) (.ref x :: st) μ c k := by
  refine J_astore (i := 5) hT hd (by simp) ?_
  rw [zst1_nl (k := 4) (x := x4) rfl hx]
  exact h

theorem S_astoreN5 (hT : zCx τ M kk mc ms) {x0 x1 x2 x3 x4 x5 : Option Value} (hd : decode M.2.1 pc = .ok (.astore 5, 2)) (hx : znl x4 = true) (h : zJ τ F (pc + 2) (x0 :: x1 :: x2 :: x3 :: x4 :: some (.null) :: L) st μ c k) : zJ τ F pc (x0 :: x1 :: x2 :: x3 :: x4 :: x5 :: L) (.null :: st) μ c k := by
  refine J_astoreN (i := 5) hT hd (by simp) ?_
  rw [zst1_nl (k := 4) (x := x4) rfl hx]
  exact h

theorem S_iinc5 (hT : zCx τ M kk mc ms) {n : Int} {x v : Int32} {x0 x1 x2 x3 x4 : Option Value} (hd : decode M.2.1 pc = .ok (.iinc 5 n, 3)) (hv : x + Int32.ofInt n = v) (hx : znl x4 = true) (h : zJ τ F (pc + 3) (x0 :: x1 :: x2 :: x3 :: x4 :: some (.int v) :: L) st μ c k) : zJ τ F pc (x0 :: x1 :: x2 :: x3 :: x4 :: some (.int x) :: L) st μ c k := by
  refine J_iinc (i := 5) hT hd rfl hv ?_
  rw [zst1_nl (k := 4) (x := x4) rfl hx]
  exact h

theorem S_lstore5 (hT : zCx τ M kk mc ms) {x : Int64} {x0 x1 x2 x3 x4 x5 x6 : Option Value} (hd : decode M.2.1 pc = .ok (.lstore 5, 2)) (hx : znl x4 = true) (h : zJ τ F (pc + 2) (x0 :: x1 :: x2 :: x3 :: x4 :: some (.long x) :: none :: L) st μ c k) : zJ τ F pc (x0 :: x1 :: x2 :: x3 :: x4 :: x5 :: x6 :: L) (.long x :: st) μ c k := by
  refine J_lstore (i := 5) hT hd (by simp) ?_
  unfold zst2
  rw [zst1_nl (k := 4) (x := x4) rfl hx]
  exact h

theorem S_istore6 (hT : zCx τ M kk mc ms) {x : Int32} {x0 x1 x2 x3 x4 x5 x6 : Option Value} (hd : decode M.2.1 pc = .ok (.istore 6, 2)) (hx : znl x5 = true) (h : zJ τ F (pc + 2) (x0 :: x1 :: x2 :: x3 :: x4 :: x5 :: some (.int x) :: L) st μ c k) : zJ τ F pc (x0 :: x1 :: x2 :: x3 :: x4 :: x5 :: x6 :: L) (.int x :: st) μ c k := by
  refine J_istore (i := 6) hT hd (by simp) ?_
  rw [zst1_nl (k := 5) (x := x5) rfl hx]
  exact h

theorem S_astore6 (hT : zCx τ M kk mc ms) {x : Nat} {x0 x1 x2 x3 x4 x5 x6 : Option Value} (hd : decode M.2.1 pc = .ok (.astore 6, 2)) (hx : znl x5 = true) (h : zJ τ F (pc + 2) (x0 :: x1 :: x2 :: x3 :: x4 :: x5 :: some (.ref x) :: L) st μ c k) : zJ τ F pc (x0 :: x1 :: x2 :: x3 :: x4 :: x5 :: x6 :: L) (.ref x :: st) μ c k := by
  refine J_astore (i := 6) hT hd (by simp) ?_
  rw [zst1_nl (k := 5) (x := x5) rfl hx]
  exact h

theorem S_astoreN6 (hT : zCx τ M kk mc ms) {x0 x1 x2 x3 x4 x5 x6 : Option Value} (hd : decode M.2.1 pc = .ok (.astore 6, 2)) (hx : znl x5 = true) (h : zJ τ F (pc + 2) (x0 :: x1 :: x2 :: x3 :: x4 :: x5 :: some (.null) :: L) st μ c k) : zJ τ F pc (x0 :: x1 :: x2 :: x3 :: x4 :: x5 :: x6 :: L) (.null :: st) μ c k := by
  refine J_astoreN (i := 6) hT hd (by simp) ?_
  rw [zst1_nl (k := 5) (x := x5) rfl hx]
  exact h

theorem S_iinc6 (hT : zCx τ M kk mc ms) {n : Int} {x v : Int32} {x0 x1 x2 x3 x4 x5 : Option Value} (hd : decode M.2.1 pc = .ok (.iinc 6 n, 3)) (hv : x + Int32.ofInt n = v) (hx : znl x5 = true) (h : zJ τ F (pc + 3) (x0 :: x1 :: x2 :: x3 :: x4 :: x5 :: some (.int v) :: L) st μ c k) : zJ τ F pc (x0 :: x1 :: x2 :: x3 :: x4 :: x5 :: some (.int x) :: L) st μ c k := by
  refine J_iinc (i := 6) hT hd rfl hv ?_
  rw [zst1_nl (k := 5) (x := x5) rfl hx]
  exact h

theorem S_lstore6 (hT : zCx τ M kk mc ms) {x : Int64} {x0 x1 x2 x3 x4 x5 x6 x7 : Option Value} (hd : decode M.2.1 pc = .ok (.lstore 6, 2)) (hx : znl x5 = true) (h : zJ τ F (pc + 2) (x0 :: x1 :: x2 :: x3 :: x4 :: x5 :: some (.long x) :: none :: L) st μ c k) : zJ τ F pc (x0 :: x1 :: x2 :: x3 :: x4 :: x5 :: x6 :: x7 :: L) (.long x :: st) μ c k := by
  refine J_lstore (i := 6) hT hd (by simp) ?_
  unfold zst2
  rw [zst1_nl (k := 5) (x := x5) rfl hx]
  exact h

theorem S_istore7 (hT : zCx τ M kk mc ms) {x : Int32} {x0 x1 x2 x3 x4 x5 x6 x7 : Option Value} (hd : decode M.2.1 pc = .ok (.istore 7, 2)) (hx : znl x6 = true) (h : zJ τ F (pc + 2) (x0 :: x1 :: x2 :: x3 :: x4 :: x5 :: x6 :: some (.int x) :: L) st μ c k) : zJ τ F pc (x0 :: x1 :: x2 :: x3 :: x4 :: x5 :: x6 :: x7 :: L) (.int x :: st) μ c k := by
  refine J_istore (i := 7) hT hd (by simp) ?_
  rw [zst1_nl (k := 6) (x := x6) rfl hx]
  exact h

theorem S_astore7 (hT : zCx τ M kk mc ms) {x : Nat} {x0 x1 x2 x3 x4 x5 x6 x7 : Option Value} (hd : decode M.2.1 pc = .ok (.astore 7, 2)) (hx : znl x6 = true) (h : zJ τ F (pc + 2) (x0 :: x1 :: x2 :: x3 :: x4 :: x5 :: x6 :: some (.ref x) :: L) st μ c k) : zJ τ F pc (x0 :: x1 :: x2 :: x3 :: x4 :: x5 :: x6 :: x7 :: L) (.ref x :: st) μ c k := by
  refine J_astore (i := 7) hT hd (by simp) ?_
  rw [zst1_nl (k := 6) (x := x6) rfl hx]
  exact h

theorem S_astoreN7 (hT : zCx τ M kk mc ms) {x0 x1 x2 x3 x4 x5 x6 x7 : Option Value} (hd : decode M.2.1 pc = .ok (.astore 7, 2)) (hx : znl x6 = true) (h : zJ τ F (pc + 2) (x0 :: x1 :: x2 :: x3 :: x4 :: x5 :: x6 :: some (.null) :: L) st μ c k) : zJ τ F pc (x0 :: x1 :: x2 :: x3 :: x4 :: x5 :: x6 :: x7 :: L) (.null :: st) μ c k := by
  refine J_astoreN (i := 7) hT hd (by simp) ?_
  rw [zst1_nl (k := 6) (x := x6) rfl hx]
  exact h

theorem S_iinc7 (hT : zCx τ M kk mc ms) {n : Int} {x v : Int32} {x0 x1 x2 x3 x4 x5 x6 : Option Value} (hd : decode M.2.1 pc = .ok (.iinc 7 n, 3)) (hv : x + Int32.ofInt n = v) (hx : znl x6 = true) (h : zJ τ F (pc + 3) (x0 :: x1 :: x2 :: x3 :: x4 :: x5 :: x6 :: some (.int v) :: L) st μ c k) : zJ τ F pc (x0 :: x1 :: x2 :: x3 :: x4 :: x5 :: x6 :: some (.int x) :: L) st μ c k := by
  refine J_iinc (i := 7) hT hd rfl hv ?_
  rw [zst1_nl (k := 6) (x := x6) rfl hx]
  exact h

theorem S_lstore7 (hT : zCx τ M kk mc ms) {x : Int64} {x0 x1 x2 x3 x4 x5 x6 x7 x8 : Option Value} (hd : decode M.2.1 pc = .ok (.lstore 7, 2)) (hx : znl x6 = true) (h : zJ τ F (pc + 2) (x0 :: x1 :: x2 :: x3 :: x4 :: x5 :: x6 :: some (.long x) :: none :: L) st μ c k) : zJ τ F pc (x0 :: x1 :: x2 :: x3 :: x4 :: x5 :: x6 :: x7 :: x8 :: L) (.long x :: st) μ c k := by
  refine J_lstore (i := 7) hT hd (by simp) ?_
  unfold zst2
  rw [zst1_nl (k := 6) (x := x6) rfl hx]
  exact h

theorem S_istore8 (hT : zCx τ M kk mc ms) {x : Int32} {x0 x1 x2 x3 x4 x5 x6 x7 x8 : Option Value} (hd : decode M.2.1 pc = .ok (.istore 8, 2)) (hx : znl x7 = true) (h : zJ τ F (pc + 2) (x0 :: x1 :: x2 :: x3 :: x4 :: x5 :: x6 :: x7 :: some (.int x) :: L) st μ c k) : zJ τ F pc (x0 :: x1 :: x2 :: x3 :: x4 :: x5 :: x6 :: x7 :: x8 :: L) (.int x :: st) μ c k := by
  refine J_istore (i := 8) hT hd (by simp) ?_
  rw [zst1_nl (k := 7) (x := x7) rfl hx]
  exact h

theorem S_astore8 (hT : zCx τ M kk mc ms) {x : Nat} {x0 x1 x2 x3 x4 x5 x6 x7 x8 : Option Value} (hd : decode M.2.1 pc = .ok (.astore 8, 2)) (hx : znl x7 = true) (h : zJ τ F (pc + 2) (x0 :: x1 :: x2 :: x3 :: x4 :: x5 :: x6 :: x7 :: some (.ref x) :: L) st μ c k) : zJ τ F pc (x0 :: x1 :: x2 :: x3 :: x4 :: x5 :: x6 :: x7 :: x8 :: L) (.ref x :: st) μ c k := by
  refine J_astore (i := 8) hT hd (by simp) ?_
  rw [zst1_nl (k := 7) (x := x7) rfl hx]
  exact h

theorem S_astoreN8 (hT : zCx τ M kk mc ms) {x0 x1 x2 x3 x4 x5 x6 x7 x8 : Option Value} (hd : decode M.2.1 pc = .ok (.astore 8, 2)) (hx : znl x7 = true) (h : zJ τ F (pc + 2) (x0 :: x1 :: x2 :: x3 :: x4 :: x5 :: x6 :: x7 :: some (.null) :: L) st μ c k) : zJ τ F pc (x0 :: x1 :: x2 :: x3 :: x4 :: x5 :: x6 :: x7 :: x8 :: L) (.null :: st) μ c k := by
  refine J_astoreN (i := 8) hT hd (by simp) ?_
  rw [zst1_nl (k := 7) (x := x7) rfl hx]
  exact h

theorem S_iinc8 (hT : zCx τ M kk mc ms) {n : Int} {x v : Int32} {x0 x1 x2 x3 x4 x5 x6 x7 : Option Value} (hd : decode M.2.1 pc = .ok (.iinc 8 n, 3)) (hv : x + Int32.ofInt n = v) (hx : znl x7 = true) (h : zJ τ F (pc + 3) (x0 :: x1 :: x2 :: x3 :: x4 :: x5 :: x6 :: x7 :: some (.int v) :: L) st μ c k) : zJ τ F pc (x0 :: x1 :: x2 :: x3 :: x4 :: x5 :: x6 :: x7 :: some (.int x) :: L) st μ c k := by
  refine J_iinc (i := 8) hT hd rfl hv ?_
  rw [zst1_nl (k := 7) (x := x7) rfl hx]
  exact h

theorem S_lstore8 (hT : zCx τ M kk mc ms) {x : Int64} {x0 x1 x2 x3 x4 x5 x6 x7 x8 x9 : Option Value} (hd : decode M.2.1 pc = .ok (.lstore 8, 2)) (hx : znl x7 = true) (h : zJ τ F (pc + 2) (x0 :: x1 :: x2 :: x3 :: x4 :: x5 :: x6 :: x7 :: some (.long x) :: none :: L) st μ c k) : zJ τ F pc (x0 :: x1 :: x2 :: x3 :: x4 :: x5 :: x6 :: x7 :: x8 :: x9 :: L) (.long x :: st) μ c k := by
  refine J_lstore (i := 8) hT hd (by simp) ?_
  unfold zst2
  rw [zst1_nl (k := 7) (x := x7) rfl hx]
  exact h

theorem S_istore9 (hT : zCx τ M kk mc ms) {x : Int32} {x0 x1 x2 x3 x4 x5 x6 x7 x8 x9 : Option Value} (hd : decode M.2.1 pc = .ok (.istore 9, 2)) (hx : znl x8 = true) (h : zJ τ F (pc + 2) (x0 :: x1 :: x2 :: x3 :: x4 :: x5 :: x6 :: x7 :: x8 :: some (.int x) :: L) st μ c k) : zJ τ F pc (x0 :: x1 :: x2 :: x3 :: x4 :: x5 :: x6 :: x7 :: x8 :: x9 :: L) (.int x :: st) μ c k := by
  refine J_istore (i := 9) hT hd (by simp) ?_
  rw [zst1_nl (k := 8) (x := x8) rfl hx]
  exact h

theorem S_astore9 (hT : zCx τ M kk mc ms) {x : Nat} {x0 x1 x2 x3 x4 x5 x6 x7 x8 x9 : Option Value} (hd : decode M.2.1 pc = .ok (.astore 9, 2)) (hx : znl x8 = true) (h : zJ τ F (pc + 2) (x0 :: x1 :: x2 :: x3 :: x4 :: x5 :: x6 :: x7 :: x8 :: some (.ref x) :: L) st μ c k) : zJ τ F pc (x0 :: x1 :: x2 :: x3 :: x4 :: x5 :: x6 :: x7 :: x8 :: x9 :: L) (.ref x :: st) μ c k := by
  refine J_astore (i := 9) hT hd (by simp) ?_
  rw [zst1_nl (k := 8) (x := x8) rfl hx]
  exact h

theorem S_astoreN9 (hT : zCx τ M kk mc ms) {x0 x1 x2 x3 x4 x5 x6 x7 x8 x9 : Option Value} (hd : decode M.2.1 pc = .ok (.astore 9, 2)) (hx : znl x8 = true) (h : zJ τ F (pc + 2) (x0 :: x1 :: x2 :: x3 :: x4 :: x5 :: x6 :: x7 :: x8 :: some (.null) :: L) st μ c k) : zJ τ F pc (x0 :: x1 :: x2 :: x3 :: x4 :: x5 :: x6 :: x7 :: x8 :: x9 :: L) (.null :: st) μ c k := by
  refine J_astoreN (i := 9) hT hd (by simp) ?_
  rw [zst1_nl (k := 8) (x := x8) rfl hx]
  exact h

theorem S_iinc9 (hT : zCx τ M kk mc ms) {n : Int} {x v : Int32} {x0 x1 x2 x3 x4 x5 x6 x7 x8 : Option Value} (hd : decode M.2.1 pc = .ok (.iinc 9 n, 3)) (hv : x + Int32.ofInt n = v) (hx : znl x8 = true) (h : zJ τ F (pc + 3) (x0 :: x1 :: x2 :: x3 :: x4 :: x5 :: x6 :: x7 :: x8 :: some (.int v) :: L) st μ c k) : zJ τ F pc (x0 :: x1 :: x2 :: x3 :: x4 :: x5 :: x6 :: x7 :: x8 :: some (.int x) :: L) st μ c k := by
  refine J_iinc (i := 9) hT hd rfl hv ?_
  rw [zst1_nl (k := 8) (x := x8) rfl hx]
  exact h

theorem S_lstore9 (hT : zCx τ M kk mc ms) {x : Int64} {x0 x1 x2 x3 x4 x5 x6 x7 x8 x9 x10 : Option Value} (hd : decode M.2.1 pc = .ok (.lstore 9, 2)) (hx : znl x8 = true) (h : zJ τ F (pc + 2) (x0 :: x1 :: x2 :: x3 :: x4 :: x5 :: x6 :: x7 :: x8 :: some (.long x) :: none :: L) st μ c k) : zJ τ F pc (x0 :: x1 :: x2 :: x3 :: x4 :: x5 :: x6 :: x7 :: x8 :: x9 :: x10 :: L) (.long x :: st) μ c k := by
  refine J_lstore (i := 9) hT hd (by simp) ?_
  unfold zst2
  rw [zst1_nl (k := 8) (x := x8) rfl hx]
  exact h

theorem S_istore10 (hT : zCx τ M kk mc ms) {x : Int32} {x0 x1 x2 x3 x4 x5 x6 x7 x8 x9 x10 : Option Value} (hd : decode M.2.1 pc = .ok (.istore 10, 2)) (hx : znl x9 = true) (h : zJ τ F (pc + 2) (x0 :: x1 :: x2 :: x3 :: x4 :: x5 :: x6 :: x7 :: x8 :: x9 :: some (.int x) :: L) st μ c k) : zJ τ F pc (x0 :: x1 :: x2 :: x3 :: x4 :: x5 :: x6 :: x7 :: x8 :: x9 :: x10 :: L) (.int x :: st) μ c k := by
  refine J_istore (i := 10) hT hd (by simp) ?_
  rw [zst1_nl (k := 9) (x := x9) rfl hx]
  exact h

theorem S_astore10 (hT : zCx τ M kk mc ms) {x : Nat} {x0 x1 x2 x3 x4 x5 x6 x7 x8 x9 x10 : Option Value} (hd : decode M.2.1 pc = .ok (.astore 10, 2)) (hx : znl x9 = true) (h : zJ τ F (pc + 2) (x0 :: x1 :: x2 :: x3 :: x4 :: x5 :: x6 :: x7 :: x8 :: x9 :: some (.ref x) :: L) st μ c k) : zJ τ F pc (x0 :: x1 :: x2 :: x3 :: x4 :: x5 :: x6 :: x7 :: x8 :: x9 :: x10 :: L) (.ref x :: st) μ c k := by
  refine J_astore (i := 10) hT hd (by simp) ?_
  rw [zst1_nl (k := 9) (x := x9) rfl hx]
  exact h

theorem S_astoreN10 (hT : zCx τ M kk mc ms) {x0 x1 x2 x3 x4 x5 x6 x7 x8 x9 x10 : Option Value} (hd : decode M.2.1 pc = .ok (.astore 10, 2)) (hx : znl x9 = true) (h : zJ τ F (pc + 2) (x0 :: x1 :: x2 :: x3 :: x4 :: x5 :: x6 :: x7 :: x8 :: x9 :: some (.null) :: L) st μ c k) : zJ τ F pc (x0 :: x1 :: x2 :: x3 :: x4 :: x5 :: x6 :: x7 :: x8 :: x9 :: x10 :: L) (.null :: st) μ c k := by
  refine J_astoreN (i := 10) hT hd (by simp) ?_
  rw [zst1_nl (k := 9) (x := x9) rfl hx]
  exact h

theorem S_iinc10 (hT : zCx τ M kk mc ms) {n : Int} {x v : Int32} {x0 x1 x2 x3 x4 x5 x6 x7 x8 x9 : Option Value} (hd : decode M.2.1 pc = .ok (.iinc 10 n, 3)) (hv : x + Int32.ofInt n = v) (hx : znl x9 = true) (h : zJ τ F (pc + 3) (x0 :: x1 :: x2 :: x3 :: x4 :: x5 :: x6 :: x7 :: x8 :: x9 :: some (.int v) :: L) st μ c k) : zJ τ F pc (x0 :: x1 :: x2 :: x3 :: x4 :: x5 :: x6 :: x7 :: x8 :: x9 :: some (.int x) :: L) st μ c k := by
  refine J_iinc (i := 10) hT hd rfl hv ?_
  rw [zst1_nl (k := 9) (x := x9) rfl hx]
  exact h

theorem S_lstore10 (hT : zCx τ M kk mc ms) {x : Int64} {x0 x1 x2 x3 x4 x5 x6 x7 x8 x9 x10 x11 : Option Value} (hd : decode M.2.1 pc = .ok (.lstore 10, 2)) (hx : znl x9 = true) (h : zJ τ F (pc + 2) (x0 :: x1 :: x2 :: x3 :: x4 :: x5 :: x6 :: x7 :: x8 :: x9 :: some (.long x) :: none :: L) st μ c k) : zJ τ F pc (x0 :: x1 :: x2 :: x3 :: x4 :: x5 :: x6 :: x7 :: x8 :: x9 :: x10 :: x11 :: L) (.long x :: st) μ c k := by
  refine J_lstore (i := 10) hT hd (by simp) ?_
  unfold zst2
  rw [zst1_nl (k := 9) (x := x9) rfl hx]
  exact h

end ZRR
end
