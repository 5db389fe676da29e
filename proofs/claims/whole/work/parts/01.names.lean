-- ===== PART A: goes FIRST, ahead of the names: the tables' words, and 'selects' of the private methods out of them =====
/-- a private method of a class that the tables say can be made, by its rows of tables_1 -/
def lw_okq (q : MethodName × Nat) : Prop := (q.1.cls ≠ "java/lang/invoke/MethodHandle" ∧ q.1.cls ≠ "java/lang/invoke/VarHandle") ∧ Cond.instantiable q.1.cls q.2 ∈ tables_1 ∧ Cond.privateMethod q.1 ∈ tables_1 ∧ Cond.instanceMethod q.1 ∈ tables_1
theorem lw_p0 : lw_okq (⟨"Daemonsheet$Parser", "passFormula", "(I)V"⟩, 6) := ⟨⟨by decide +kernel, by decide +kernel⟩, List.mem_of_getElem? (i := 50) (by decide +kernel), List.mem_of_getElem? (i := 310) (by decide +kernel), List.mem_of_getElem? (i := 311) (by decide +kernel)⟩
theorem lw_p1 : lw_okq (⟨"Daemonsheet$Parser", "passSum", "(I)V"⟩, 6) := ⟨⟨by decide +kernel, by decide +kernel⟩, List.mem_of_getElem? (i := 50) (by decide +kernel), List.mem_of_getElem? (i := 314) (by decide +kernel), List.mem_of_getElem? (i := 315) (by decide +kernel)⟩
theorem lw_p2 : lw_okq (⟨"Daemonsheet$Parser", "passProduct", "(I)V"⟩, 6) := ⟨⟨by decide +kernel, by decide +kernel⟩, List.mem_of_getElem? (i := 50) (by decide +kernel), List.mem_of_getElem? (i := 318) (by decide +kernel), List.mem_of_getElem? (i := 319) (by decide +kernel)⟩
theorem lw_p3 : lw_okq (⟨"Daemonsheet$Parser", "passPart", "(I)V"⟩, 6) := ⟨⟨by decide +kernel, by decide +kernel⟩, List.mem_of_getElem? (i := 50) (by decide +kernel), List.mem_of_getElem? (i := 322) (by decide +kernel), List.mem_of_getElem? (i := 323) (by decide +kernel)⟩
theorem lw_p4 : lw_okq (⟨"Daemonsheet$Parser", "passNumber", "()V"⟩, 6) := ⟨⟨by decide +kernel, by decide +kernel⟩, List.mem_of_getElem? (i := 50) (by decide +kernel), List.mem_of_getElem? (i := 333) (by decide +kernel), List.mem_of_getElem? (i := 334) (by decide +kernel)⟩
theorem lw_p5 : lw_okq (⟨"Daemonsheet$Parser", "write", "(II)V"⟩, 6) := ⟨⟨by decide +kernel, by decide +kernel⟩, List.mem_of_getElem? (i := 50) (by decide +kernel), List.mem_of_getElem? (i := 337) (by decide +kernel), List.mem_of_getElem? (i := 338) (by decide +kernel)⟩
theorem lw_p6 : lw_okq (⟨"Daemonsheet$Parser", "passBrackets", "(II)V"⟩, 6) := ⟨⟨by decide +kernel, by decide +kernel⟩, List.mem_of_getElem? (i := 50) (by decide +kernel), List.mem_of_getElem? (i := 341) (by decide +kernel), List.mem_of_getElem? (i := 342) (by decide +kernel)⟩
theorem lw_p7 : lw_okq (⟨"Daemonsheet$Parser", "passSign", "(C)V"⟩, 6) := ⟨⟨by decide +kernel, by decide +kernel⟩, List.mem_of_getElem? (i := 50) (by decide +kernel), List.mem_of_getElem? (i := 345) (by decide +kernel), List.mem_of_getElem? (i := 346) (by decide +kernel)⟩
theorem lw_p8 : lw_okq (⟨"Daemonsheet$Parser", "passName", "(III)V"⟩, 6) := ⟨⟨by decide +kernel, by decide +kernel⟩, List.mem_of_getElem? (i := 50) (by decide +kernel), List.mem_of_getElem? (i := 349) (by decide +kernel), List.mem_of_getElem? (i := 350) (by decide +kernel)⟩
theorem lw_p9 : lw_okq (⟨"Daemonsheet$Parser", "figureAt", "(I)I"⟩, 6) := ⟨⟨by decide +kernel, by decide +kernel⟩, List.mem_of_getElem? (i := 50) (by decide +kernel), List.mem_of_getElem? (i := 353) (by decide +kernel), List.mem_of_getElem? (i := 354) (by decide +kernel)⟩
theorem lw_p10 : lw_okq (⟨"java/lang/Throwable", "fillInStackTrace", "(I)Ljava/lang/Throwable;"⟩, 6) := ⟨⟨by decide +kernel, by decide +kernel⟩, List.mem_of_getElem? (i := 510) (by decide +kernel), List.mem_of_getElem? (i := 508) (by decide +kernel), List.mem_of_getElem? (i := 509) (by decide +kernel)⟩
theorem lw_p11 : lw_okq (⟨"Daemonsheet", "keep", "(IIIILDaemonsheet$Formula;)I"⟩, 7) := ⟨⟨by decide +kernel, by decide +kernel⟩, List.mem_of_getElem? (i := 26) (by decide +kernel), List.mem_of_getElem? (i := 625) (by decide +kernel), List.mem_of_getElem? (i := 626) (by decide +kernel)⟩
theorem lw_p12 : lw_okq (⟨"Daemonsheet$Table", "change", "(LDaemonsheet$Step;)V"⟩, 9) := ⟨⟨by decide +kernel, by decide +kernel⟩, List.mem_of_getElem? (i := 76) (by decide +kernel), List.mem_of_getElem? (i := 634) (by decide +kernel), List.mem_of_getElem? (i := 635) (by decide +kernel)⟩
theorem lw_p13 : lw_okq (⟨"Daemonsheet$Table", "changeReading", "(LDaemonsheet$Step;)V"⟩, 9) := ⟨⟨by decide +kernel, by decide +kernel⟩, List.mem_of_getElem? (i := 76) (by decide +kernel), List.mem_of_getElem? (i := 638) (by decide +kernel), List.mem_of_getElem? (i := 639) (by decide +kernel)⟩
theorem lw_p14 : lw_okq (⟨"Daemonsheet$Table", "soilReaders", "(I)V"⟩, 9) := ⟨⟨by decide +kernel, by decide +kernel⟩, List.mem_of_getElem? (i := 76) (by decide +kernel), List.mem_of_getElem? (i := 642) (by decide +kernel), List.mem_of_getElem? (i := 643) (by decide +kernel)⟩
theorem lw_p15 : lw_okq (⟨"Daemonsheet$Table", "changeCell", "(LDaemonsheet$Step;)V"⟩, 9) := ⟨⟨by decide +kernel, by decide +kernel⟩, List.mem_of_getElem? (i := 76) (by decide +kernel), List.mem_of_getElem? (i := 647) (by decide +kernel), List.mem_of_getElem? (i := 648) (by decide +kernel)⟩
def lw_privs_1 : List (MethodName × Nat) := [(⟨"Daemonsheet$Parser", "passFormula", "(I)V"⟩, 6), (⟨"Daemonsheet$Parser", "passSum", "(I)V"⟩, 6), (⟨"Daemonsheet$Parser", "passProduct", "(I)V"⟩, 6), (⟨"Daemonsheet$Parser", "passPart", "(I)V"⟩, 6), (⟨"Daemonsheet$Parser", "passNumber", "()V"⟩, 6), (⟨"Daemonsheet$Parser", "write", "(II)V"⟩, 6), (⟨"Daemonsheet$Parser", "passBrackets", "(II)V"⟩, 6), (⟨"Daemonsheet$Parser", "passSign", "(C)V"⟩, 6), (⟨"Daemonsheet$Parser", "passName", "(III)V"⟩, 6), (⟨"Daemonsheet$Parser", "figureAt", "(I)I"⟩, 6), (⟨"java/lang/Throwable", "fillInStackTrace", "(I)Ljava/lang/Throwable;"⟩, 6), (⟨"Daemonsheet", "keep", "(IIIILDaemonsheet$Formula;)I"⟩, 7), (⟨"Daemonsheet$Table", "change", "(LDaemonsheet$Step;)V"⟩, 9), (⟨"Daemonsheet$Table", "changeReading", "(LDaemonsheet$Step;)V"⟩, 9), (⟨"Daemonsheet$Table", "soilReaders", "(I)V"⟩, 9), (⟨"Daemonsheet$Table", "changeCell", "(LDaemonsheet$Step;)V"⟩, 9)]
theorem lw_r1 : ∀ q ∈ lw_privs_1, lw_okq q := List.forall_mem_cons.mpr ⟨lw_p0, List.forall_mem_cons.mpr ⟨lw_p1, List.forall_mem_cons.mpr ⟨lw_p2, List.forall_mem_cons.mpr ⟨lw_p3, List.forall_mem_cons.mpr ⟨lw_p4, List.forall_mem_cons.mpr ⟨lw_p5, List.forall_mem_cons.mpr ⟨lw_p6, List.forall_mem_cons.mpr ⟨lw_p7, List.forall_mem_cons.mpr ⟨lw_p8, List.forall_mem_cons.mpr ⟨lw_p9, List.forall_mem_cons.mpr ⟨lw_p10, List.forall_mem_cons.mpr ⟨lw_p11, List.forall_mem_cons.mpr ⟨lw_p12, List.forall_mem_cons.mpr ⟨lw_p13, List.forall_mem_cons.mpr ⟨lw_p14, List.forall_mem_cons.mpr ⟨lw_p15, fun _ h => absurd h List.not_mem_nil⟩⟩⟩⟩⟩⟩⟩⟩⟩⟩⟩⟩⟩⟩⟩⟩
theorem lw_p16 : lw_okq (⟨"Daemonsheet$Table", "setValue", "(LDaemonsheet$Cell;I)V"⟩, 9) := ⟨⟨by decide +kernel, by decide +kernel⟩, List.mem_of_getElem? (i := 76) (by decide +kernel), List.mem_of_getElem? (i := 651) (by decide +kernel), List.mem_of_getElem? (i := 652) (by decide +kernel)⟩
theorem lw_p17 : lw_okq (⟨"Daemonsheet$Table", "arrange", "()V"⟩, 9) := ⟨⟨by decide +kernel, by decide +kernel⟩, List.mem_of_getElem? (i := 76) (by decide +kernel), List.mem_of_getElem? (i := 655) (by decide +kernel), List.mem_of_getElem? (i := 656) (by decide +kernel)⟩
theorem lw_p18 : lw_okq (⟨"Daemonsheet$Table", "changeService", "(LDaemonsheet$Step;)V"⟩, 9) := ⟨⟨by decide +kernel, by decide +kernel⟩, List.mem_of_getElem? (i := 76) (by decide +kernel), List.mem_of_getElem? (i := 659) (by decide +kernel), List.mem_of_getElem? (i := 660) (by decide +kernel)⟩
theorem lw_p19 : lw_okq (⟨"Daemonsheet$Table", "forgetChanges", "()V"⟩, 9) := ⟨⟨by decide +kernel, by decide +kernel⟩, List.mem_of_getElem? (i := 76) (by decide +kernel), List.mem_of_getElem? (i := 667) (by decide +kernel), List.mem_of_getElem? (i := 668) (by decide +kernel)⟩
theorem lw_p20 : lw_okq (⟨"Daemonsheet$Table", "workOutDirtyCells", "()V"⟩, 9) := ⟨⟨by decide +kernel, by decide +kernel⟩, List.mem_of_getElem? (i := 76) (by decide +kernel), List.mem_of_getElem? (i := 671) (by decide +kernel), List.mem_of_getElem? (i := 672) (by decide +kernel)⟩
theorem lw_p21 : lw_okq (⟨"Daemonsheet$Table", "valueNamed", "(II)I"⟩, 9) := ⟨⟨by decide +kernel, by decide +kernel⟩, List.mem_of_getElem? (i := 76) (by decide +kernel), List.mem_of_getElem? (i := 681) (by decide +kernel), List.mem_of_getElem? (i := 682) (by decide +kernel)⟩
theorem lw_p22 : lw_okq (⟨"Daemonsheet$Table", "cellValue", "(II)I"⟩, 9) := ⟨⟨by decide +kernel, by decide +kernel⟩, List.mem_of_getElem? (i := 76) (by decide +kernel), List.mem_of_getElem? (i := 685) (by decide +kernel), List.mem_of_getElem? (i := 686) (by decide +kernel)⟩
theorem lw_p23 : lw_okq (⟨"Daemonsheet$Table", "lookAtServices", "(I)Z"⟩, 9) := ⟨⟨by decide +kernel, by decide +kernel⟩, List.mem_of_getElem? (i := 76) (by decide +kernel), List.mem_of_getElem? (i := 705) (by decide +kernel), List.mem_of_getElem? (i := 706) (by decide +kernel)⟩
theorem lw_p24 : lw_okq (⟨"Daemonsheet$Table", "nextState", "(LDaemonsheet$Service;)I"⟩, 9) := ⟨⟨by decide +kernel, by decide +kernel⟩, List.mem_of_getElem? (i := 76) (by decide +kernel), List.mem_of_getElem? (i := 709) (by decide +kernel), List.mem_of_getElem? (i := 710) (by decide +kernel)⟩
theorem lw_p25 : lw_okq (⟨"Daemonsheet$Table", "isWanted", "(LDaemonsheet$Service;)Z"⟩, 9) := ⟨⟨by decide +kernel, by decide +kernel⟩, List.mem_of_getElem? (i := 76) (by decide +kernel), List.mem_of_getElem? (i := 713) (by decide +kernel), List.mem_of_getElem? (i := 714) (by decide +kernel)⟩
theorem lw_p26 : lw_okq (⟨"Daemonsheet$Table", "loadRunning", "(LDaemonsheet$Service;)I"⟩, 9) := ⟨⟨by decide +kernel, by decide +kernel⟩, List.mem_of_getElem? (i := 76) (by decide +kernel), List.mem_of_getElem? (i := 729) (by decide +kernel), List.mem_of_getElem? (i := 730) (by decide +kernel)⟩
theorem lw_p27 : lw_okq (⟨"Daemonsheet$Table", "setTold", "(LDaemonsheet$Service;I)V"⟩, 9) := ⟨⟨by decide +kernel, by decide +kernel⟩, List.mem_of_getElem? (i := 76) (by decide +kernel), List.mem_of_getElem? (i := 737) (by decide +kernel), List.mem_of_getElem? (i := 738) (by decide +kernel)⟩
theorem lw_p28 : lw_okq (⟨"Daemonsheet$Table", "cutLowestOfLateChanges", "()V"⟩, 9) := ⟨⟨by decide +kernel, by decide +kernel⟩, List.mem_of_getElem? (i := 76) (by decide +kernel), List.mem_of_getElem? (i := 741) (by decide +kernel), List.mem_of_getElem? (i := 742) (by decide +kernel)⟩
theorem lw_p29 : lw_okq (⟨"Daemonsheet$Table", "isStartDue", "()Z"⟩, 9) := ⟨⟨by decide +kernel, by decide +kernel⟩, List.mem_of_getElem? (i := 76) (by decide +kernel), List.mem_of_getElem? (i := 745) (by decide +kernel), List.mem_of_getElem? (i := 746) (by decide +kernel)⟩
theorem lw_p30 : lw_okq (⟨"Daemonsheet", "tellAnew", "(LDaemonsheet$Table;)V"⟩, 7) := ⟨⟨by decide +kernel, by decide +kernel⟩, List.mem_of_getElem? (i := 26) (by decide +kernel), List.mem_of_getElem? (i := 841) (by decide +kernel), List.mem_of_getElem? (i := 842) (by decide +kernel)⟩
theorem lw_p31 : lw_okq (⟨"Daemonsheet", "tellReadingsOfTick", "(LDaemonsheet$Table;)V"⟩, 7) := ⟨⟨by decide +kernel, by decide +kernel⟩, List.mem_of_getElem? (i := 26) (by decide +kernel), List.mem_of_getElem? (i := 936) (by decide +kernel), List.mem_of_getElem? (i := 937) (by decide +kernel)⟩
def lw_privs_2 : List (MethodName × Nat) := [(⟨"Daemonsheet$Table", "setValue", "(LDaemonsheet$Cell;I)V"⟩, 9), (⟨"Daemonsheet$Table", "arrange", "()V"⟩, 9), (⟨"Daemonsheet$Table", "changeService", "(LDaemonsheet$Step;)V"⟩, 9), (⟨"Daemonsheet$Table", "forgetChanges", "()V"⟩, 9), (⟨"Daemonsheet$Table", "workOutDirtyCells", "()V"⟩, 9), (⟨"Daemonsheet$Table", "valueNamed", "(II)I"⟩, 9), (⟨"Daemonsheet$Table", "cellValue", "(II)I"⟩, 9), (⟨"Daemonsheet$Table", "lookAtServices", "(I)Z"⟩, 9), (⟨"Daemonsheet$Table", "nextState", "(LDaemonsheet$Service;)I"⟩, 9), (⟨"Daemonsheet$Table", "isWanted", "(LDaemonsheet$Service;)Z"⟩, 9), (⟨"Daemonsheet$Table", "loadRunning", "(LDaemonsheet$Service;)I"⟩, 9), (⟨"Daemonsheet$Table", "setTold", "(LDaemonsheet$Service;I)V"⟩, 9), (⟨"Daemonsheet$Table", "cutLowestOfLateChanges", "()V"⟩, 9), (⟨"Daemonsheet$Table", "isStartDue", "()Z"⟩, 9), (⟨"Daemonsheet", "tellAnew", "(LDaemonsheet$Table;)V"⟩, 7), (⟨"Daemonsheet", "tellReadingsOfTick", "(LDaemonsheet$Table;)V"⟩, 7)]
theorem lw_r2 : ∀ q ∈ lw_privs_2, lw_okq q := List.forall_mem_cons.mpr ⟨lw_p16, List.forall_mem_cons.mpr ⟨lw_p17, List.forall_mem_cons.mpr ⟨lw_p18, List.forall_mem_cons.mpr ⟨lw_p19, List.forall_mem_cons.mpr ⟨lw_p20, List.forall_mem_cons.mpr ⟨lw_p21, List.forall_mem_cons.mpr ⟨lw_p22, List.forall_mem_cons.mpr ⟨lw_p23, List.forall_mem_cons.mpr ⟨lw_p24, List.forall_mem_cons.mpr ⟨lw_p25, List.forall_mem_cons.mpr ⟨lw_p26, List.forall_mem_cons.mpr ⟨lw_p27, List.forall_mem_cons.mpr ⟨lw_p28, List.forall_mem_cons.mpr ⟨lw_p29, List.forall_mem_cons.mpr ⟨lw_p30, List.forall_mem_cons.mpr ⟨lw_p31, fun _ h => absurd h List.not_mem_nil⟩⟩⟩⟩⟩⟩⟩⟩⟩⟩⟩⟩⟩⟩⟩⟩
theorem lw_p32 : lw_okq (⟨"Daemonsheet$Table", "servicesUnder", "(LDaemonsheet$Service;)I"⟩, 9) := ⟨⟨by decide +kernel, by decide +kernel⟩, List.mem_of_getElem? (i := 76) (by decide +kernel), List.mem_of_getElem? (i := 951) (by decide +kernel), List.mem_of_getElem? (i := 952) (by decide +kernel)⟩
theorem lw_p33 : lw_okq (⟨"DaemonsheetModel", "begins", "()V"⟩, 46) := ⟨⟨by decide +kernel, by decide +kernel⟩, List.mem_of_getElem? (i := 956) (by decide +kernel), List.mem_of_getElem? (i := 962) (by decide +kernel), List.mem_of_getElem? (i := 963) (by decide +kernel)⟩
theorem lw_p34 : lw_okq (⟨"DaemonsheetModel", "clears", "()V"⟩, 46) := ⟨⟨by decide +kernel, by decide +kernel⟩, List.mem_of_getElem? (i := 956) (by decide +kernel), List.mem_of_getElem? (i := 966) (by decide +kernel), List.mem_of_getElem? (i := 967) (by decide +kernel)⟩
theorem lw_p35 : lw_okq (⟨"DaemonsheetModel", "goes", "(ZZZ)Z"⟩, 46) := ⟨⟨by decide +kernel, by decide +kernel⟩, List.mem_of_getElem? (i := 956) (by decide +kernel), List.mem_of_getElem? (i := 1131) (by decide +kernel), List.mem_of_getElem? (i := 1132) (by decide +kernel)⟩
theorem lw_p36 : lw_okq (⟨"DaemonsheetModel", "faultOf", "()I"⟩, 46) := ⟨⟨by decide +kernel, by decide +kernel⟩, List.mem_of_getElem? (i := 956) (by decide +kernel), List.mem_of_getElem? (i := 1143) (by decide +kernel), List.mem_of_getElem? (i := 1144) (by decide +kernel)⟩
theorem lw_p37 : lw_okq (⟨"DaemonsheetModel", "takesNumber", "(I)I"⟩, 46) := ⟨⟨by decide +kernel, by decide +kernel⟩, List.mem_of_getElem? (i := 956) (by decide +kernel), List.mem_of_getElem? (i := 1147) (by decide +kernel), List.mem_of_getElem? (i := 1148) (by decide +kernel)⟩
theorem lw_p38 : lw_okq (⟨"DaemonsheetModel", "makes", "(I)V"⟩, 46) := ⟨⟨by decide +kernel, by decide +kernel⟩, List.mem_of_getElem? (i := 956) (by decide +kernel), List.mem_of_getElem? (i := 1151) (by decide +kernel), List.mem_of_getElem? (i := 1152) (by decide +kernel)⟩
theorem lw_p39 : lw_okq (⟨"DaemonsheetModel", "takesName", "(I)I"⟩, 46) := ⟨⟨by decide +kernel, by decide +kernel⟩, List.mem_of_getElem? (i := 956) (by decide +kernel), List.mem_of_getElem? (i := 1155) (by decide +kernel), List.mem_of_getElem? (i := 1156) (by decide +kernel)⟩
theorem lw_p40 : lw_okq (⟨"DaemonsheetModel", "opensOne", "(I)V"⟩, 46) := ⟨⟨by decide +kernel, by decide +kernel⟩, List.mem_of_getElem? (i := 956) (by decide +kernel), List.mem_of_getElem? (i := 1159) (by decide +kernel), List.mem_of_getElem? (i := 1160) (by decide +kernel)⟩
theorem lw_p41 : lw_okq (⟨"DaemonsheetModel", "closes", "(I)V"⟩, 46) := ⟨⟨by decide +kernel, by decide +kernel⟩, List.mem_of_getElem? (i := 956) (by decide +kernel), List.mem_of_getElem? (i := 1166) (by decide +kernel), List.mem_of_getElem? (i := 1167) (by decide +kernel)⟩
theorem lw_p42 : lw_okq (⟨"DaemonsheetModel", "wouldHang", "(I)Z"⟩, 46) := ⟨⟨by decide +kernel, by decide +kernel⟩, List.mem_of_getElem? (i := 956) (by decide +kernel), List.mem_of_getElem? (i := 1180) (by decide +kernel), List.mem_of_getElem? (i := 1181) (by decide +kernel)⟩
theorem lw_p43 : lw_okq (⟨"DaemonsheetModel", "below", "(IZ)I"⟩, 46) := ⟨⟨by decide +kernel, by decide +kernel⟩, List.mem_of_getElem? (i := 956) (by decide +kernel), List.mem_of_getElem? (i := 1187) (by decide +kernel), List.mem_of_getElem? (i := 1188) (by decide +kernel)⟩
theorem lw_p44 : lw_okq (⟨"DaemonsheetModel", "hasRoom", "()Z"⟩, 46) := ⟨⟨by decide +kernel, by decide +kernel⟩, List.mem_of_getElem? (i := 956) (by decide +kernel), List.mem_of_getElem? (i := 1194) (by decide +kernel), List.mem_of_getElem? (i := 1195) (by decide +kernel)⟩
theorem lw_p45 : lw_okq (⟨"DaemonsheetModel", "keeps", "(IIII)I"⟩, 46) := ⟨⟨by decide +kernel, by decide +kernel⟩, List.mem_of_getElem? (i := 956) (by decide +kernel), List.mem_of_getElem? (i := 1198) (by decide +kernel), List.mem_of_getElem? (i := 1199) (by decide +kernel)⟩
theorem lw_p46 : lw_okq (⟨"DaemonsheetModel", "does", "(I)I"⟩, 46) := ⟨⟨by decide +kernel, by decide +kernel⟩, List.mem_of_getElem? (i := 956) (by decide +kernel), List.mem_of_getElem? (i := 1202) (by decide +kernel), List.mem_of_getElem? (i := 1203) (by decide +kernel)⟩
theorem lw_p47 : lw_okq (⟨"DaemonsheetModel", "settles", "()I"⟩, 46) := ⟨⟨by decide +kernel, by decide +kernel⟩, List.mem_of_getElem? (i := 956) (by decide +kernel), List.mem_of_getElem? (i := 1206) (by decide +kernel), List.mem_of_getElem? (i := 1207) (by decide +kernel)⟩
def lw_privs_3 : List (MethodName × Nat) := [(⟨"Daemonsheet$Table", "servicesUnder", "(LDaemonsheet$Service;)I"⟩, 9), (⟨"DaemonsheetModel", "begins", "()V"⟩, 46), (⟨"DaemonsheetModel", "clears", "()V"⟩, 46), (⟨"DaemonsheetModel", "goes", "(ZZZ)Z"⟩, 46), (⟨"DaemonsheetModel", "faultOf", "()I"⟩, 46), (⟨"DaemonsheetModel", "takesNumber", "(I)I"⟩, 46), (⟨"DaemonsheetModel", "makes", "(I)V"⟩, 46), (⟨"DaemonsheetModel", "takesName", "(I)I"⟩, 46), (⟨"DaemonsheetModel", "opensOne", "(I)V"⟩, 46), (⟨"DaemonsheetModel", "closes", "(I)V"⟩, 46), (⟨"DaemonsheetModel", "wouldHang", "(I)Z"⟩, 46), (⟨"DaemonsheetModel", "below", "(IZ)I"⟩, 46), (⟨"DaemonsheetModel", "hasRoom", "()Z"⟩, 46), (⟨"DaemonsheetModel", "keeps", "(IIII)I"⟩, 46), (⟨"DaemonsheetModel", "does", "(I)I"⟩, 46), (⟨"DaemonsheetModel", "settles", "()I"⟩, 46)]
theorem lw_r3 : ∀ q ∈ lw_privs_3, lw_okq q := List.forall_mem_cons.mpr ⟨lw_p32, List.forall_mem_cons.mpr ⟨lw_p33, List.forall_mem_cons.mpr ⟨lw_p34, List.forall_mem_cons.mpr ⟨lw_p35, List.forall_mem_cons.mpr ⟨lw_p36, List.forall_mem_cons.mpr ⟨lw_p37, List.forall_mem_cons.mpr ⟨lw_p38, List.forall_mem_cons.mpr ⟨lw_p39, List.forall_mem_cons.mpr ⟨lw_p40, List.forall_mem_cons.mpr ⟨lw_p41, List.forall_mem_cons.mpr ⟨lw_p42, List.forall_mem_cons.mpr ⟨lw_p43, List.forall_mem_cons.mpr ⟨lw_p44, List.forall_mem_cons.mpr ⟨lw_p45, List.forall_mem_cons.mpr ⟨lw_p46, List.forall_mem_cons.mpr ⟨lw_p47, fun _ h => absurd h List.not_mem_nil⟩⟩⟩⟩⟩⟩⟩⟩⟩⟩⟩⟩⟩⟩⟩⟩
theorem lw_p48 : lw_okq (⟨"DaemonsheetModel", "round", "()I"⟩, 46) := ⟨⟨by decide +kernel, by decide +kernel⟩, List.mem_of_getElem? (i := 956) (by decide +kernel), List.mem_of_getElem? (i := 1210) (by decide +kernel), List.mem_of_getElem? (i := 1211) (by decide +kernel)⟩
theorem lw_p49 : lw_okq (⟨"DaemonsheetModel", "worksOut", "()V"⟩, 46) := ⟨⟨by decide +kernel, by decide +kernel⟩, List.mem_of_getElem? (i := 956) (by decide +kernel), List.mem_of_getElem? (i := 1214) (by decide +kernel), List.mem_of_getElem? (i := 1215) (by decide +kernel)⟩
theorem lw_p50 : lw_okq (⟨"DaemonsheetModel", "nextDirty", "()I"⟩, 46) := ⟨⟨by decide +kernel, by decide +kernel⟩, List.mem_of_getElem? (i := 956) (by decide +kernel), List.mem_of_getElem? (i := 1218) (by decide +kernel), List.mem_of_getElem? (i := 1219) (by decide +kernel)⟩
theorem lw_p51 : lw_okq (⟨"DaemonsheetModel", "worthOf", "(I)I"⟩, 46) := ⟨⟨by decide +kernel, by decide +kernel⟩, List.mem_of_getElem? (i := 956) (by decide +kernel), List.mem_of_getElem? (i := 1222) (by decide +kernel), List.mem_of_getElem? (i := 1223) (by decide +kernel)⟩
theorem lw_p52 : lw_okq (⟨"DaemonsheetModel", "deeds", "(I)V"⟩, 46) := ⟨⟨by decide +kernel, by decide +kernel⟩, List.mem_of_getElem? (i := 956) (by decide +kernel), List.mem_of_getElem? (i := 1226) (by decide +kernel), List.mem_of_getElem? (i := 1227) (by decide +kernel)⟩
theorem lw_p53 : lw_okq (⟨"DaemonsheetModel", "becomes", "(II)V"⟩, 46) := ⟨⟨by decide +kernel, by decide +kernel⟩, List.mem_of_getElem? (i := 956) (by decide +kernel), List.mem_of_getElem? (i := 1235) (by decide +kernel), List.mem_of_getElem? (i := 1236) (by decide +kernel)⟩
theorem lw_p54 : lw_okq (⟨"DaemonsheetModel", "soils", "([II)V"⟩, 46) := ⟨⟨by decide +kernel, by decide +kernel⟩, List.mem_of_getElem? (i := 956) (by decide +kernel), List.mem_of_getElem? (i := 1239) (by decide +kernel), List.mem_of_getElem? (i := 1240) (by decide +kernel)⟩
theorem lw_p55 : lw_okq (⟨"DaemonsheetModel", "changes", "(I)V"⟩, 46) := ⟨⟨by decide +kernel, by decide +kernel⟩, List.mem_of_getElem? (i := 956) (by decide +kernel), List.mem_of_getElem? (i := 1243) (by decide +kernel), List.mem_of_getElem? (i := 1244) (by decide +kernel)⟩
theorem lw_p56 : lw_okq (⟨"DaemonsheetModel", "isWanted", "(I)Z"⟩, 46) := ⟨⟨by decide +kernel, by decide +kernel⟩, List.mem_of_getElem? (i := 956) (by decide +kernel), List.mem_of_getElem? (i := 1247) (by decide +kernel), List.mem_of_getElem? (i := 1248) (by decide +kernel)⟩
theorem lw_p57 : lw_okq (⟨"DaemonsheetModel", "stale", "(I)Z"⟩, 46) := ⟨⟨by decide +kernel, by decide +kernel⟩, List.mem_of_getElem? (i := 956) (by decide +kernel), List.mem_of_getElem? (i := 1251) (by decide +kernel), List.mem_of_getElem? (i := 1252) (by decide +kernel)⟩
theorem lw_p58 : lw_okq (⟨"DaemonsheetModel", "isOld", "(I)Z"⟩, 46) := ⟨⟨by decide +kernel, by decide +kernel⟩, List.mem_of_getElem? (i := 956) (by decide +kernel), List.mem_of_getElem? (i := 1255) (by decide +kernel), List.mem_of_getElem? (i := 1256) (by decide +kernel)⟩
theorem lw_p59 : lw_okq (⟨"DaemonsheetModel", "runs", "(I)V"⟩, 46) := ⟨⟨by decide +kernel, by decide +kernel⟩, List.mem_of_getElem? (i := 956) (by decide +kernel), List.mem_of_getElem? (i := 1259) (by decide +kernel), List.mem_of_getElem? (i := 1260) (by decide +kernel)⟩
theorem lw_p60 : lw_okq (⟨"DaemonsheetModel", "loadOf", "(I)I"⟩, 46) := ⟨⟨by decide +kernel, by decide +kernel⟩, List.mem_of_getElem? (i := 956) (by decide +kernel), List.mem_of_getElem? (i := 1263) (by decide +kernel), List.mem_of_getElem? (i := 1264) (by decide +kernel)⟩
theorem lw_p61 : lw_okq (⟨"DaemonsheetModel", "tells", "(II)V"⟩, 46) := ⟨⟨by decide +kernel, by decide +kernel⟩, List.mem_of_getElem? (i := 956) (by decide +kernel), List.mem_of_getElem? (i := 1267) (by decide +kernel), List.mem_of_getElem? (i := 1268) (by decide +kernel)⟩
theorem lw_p62 : lw_okq (⟨"DaemonsheetModel", "setsCell", "(I)V"⟩, 46) := ⟨⟨by decide +kernel, by decide +kernel⟩, List.mem_of_getElem? (i := 956) (by decide +kernel), List.mem_of_getElem? (i := 1271) (by decide +kernel), List.mem_of_getElem? (i := 1272) (by decide +kernel)⟩
theorem lw_p63 : lw_okq (⟨"DaemonsheetModel", "gives", "(II)V"⟩, 46) := ⟨⟨by decide +kernel, by decide +kernel⟩, List.mem_of_getElem? (i := 956) (by decide +kernel), List.mem_of_getElem? (i := 1275) (by decide +kernel), List.mem_of_getElem? (i := 1276) (by decide +kernel)⟩
def lw_privs_4 : List (MethodName × Nat) := [(⟨"DaemonsheetModel", "round", "()I"⟩, 46), (⟨"DaemonsheetModel", "worksOut", "()V"⟩, 46), (⟨"DaemonsheetModel", "nextDirty", "()I"⟩, 46), (⟨"DaemonsheetModel", "worthOf", "(I)I"⟩, 46), (⟨"DaemonsheetModel", "deeds", "(I)V"⟩, 46), (⟨"DaemonsheetModel", "becomes", "(II)V"⟩, 46), (⟨"DaemonsheetModel", "soils", "([II)V"⟩, 46), (⟨"DaemonsheetModel", "changes", "(I)V"⟩, 46), (⟨"DaemonsheetModel", "isWanted", "(I)Z"⟩, 46), (⟨"DaemonsheetModel", "stale", "(I)Z"⟩, 46), (⟨"DaemonsheetModel", "isOld", "(I)Z"⟩, 46), (⟨"DaemonsheetModel", "runs", "(I)V"⟩, 46), (⟨"DaemonsheetModel", "loadOf", "(I)I"⟩, 46), (⟨"DaemonsheetModel", "tells", "(II)V"⟩, 46), (⟨"DaemonsheetModel", "setsCell", "(I)V"⟩, 46), (⟨"DaemonsheetModel", "gives", "(II)V"⟩, 46)]
theorem lw_r4 : ∀ q ∈ lw_privs_4, lw_okq q := List.forall_mem_cons.mpr ⟨lw_p48, List.forall_mem_cons.mpr ⟨lw_p49, List.forall_mem_cons.mpr ⟨lw_p50, List.forall_mem_cons.mpr ⟨lw_p51, List.forall_mem_cons.mpr ⟨lw_p52, List.forall_mem_cons.mpr ⟨lw_p53, List.forall_mem_cons.mpr ⟨lw_p54, List.forall_mem_cons.mpr ⟨lw_p55, List.forall_mem_cons.mpr ⟨lw_p56, List.forall_mem_cons.mpr ⟨lw_p57, List.forall_mem_cons.mpr ⟨lw_p58, List.forall_mem_cons.mpr ⟨lw_p59, List.forall_mem_cons.mpr ⟨lw_p60, List.forall_mem_cons.mpr ⟨lw_p61, List.forall_mem_cons.mpr ⟨lw_p62, List.forall_mem_cons.mpr ⟨lw_p63, fun _ h => absurd h List.not_mem_nil⟩⟩⟩⟩⟩⟩⟩⟩⟩⟩⟩⟩⟩⟩⟩⟩
theorem lw_p64 : lw_okq (⟨"DaemonsheetModel", "deepens", "()V"⟩, 46) := ⟨⟨by decide +kernel, by decide +kernel⟩, List.mem_of_getElem? (i := 956) (by decide +kernel), List.mem_of_getElem? (i := 1279) (by decide +kernel), List.mem_of_getElem? (i := 1280) (by decide +kernel)⟩
theorem lw_p65 : lw_okq (⟨"DaemonsheetModel", "reads", "(I)V"⟩, 46) := ⟨⟨by decide +kernel, by decide +kernel⟩, List.mem_of_getElem? (i := 956) (by decide +kernel), List.mem_of_getElem? (i := 1283) (by decide +kernel), List.mem_of_getElem? (i := 1284) (by decide +kernel)⟩
theorem lw_p66 : lw_okq (⟨"DaemonsheetModel", "setsService", "(I)V"⟩, 46) := ⟨⟨by decide +kernel, by decide +kernel⟩, List.mem_of_getElem? (i := 956) (by decide +kernel), List.mem_of_getElem? (i := 1287) (by decide +kernel), List.mem_of_getElem? (i := 1288) (by decide +kernel)⟩
theorem lw_p67 : lw_okq (⟨"DaemonsheetModel", "replays", "()V"⟩, 46) := ⟨⟨by decide +kernel, by decide +kernel⟩, List.mem_of_getElem? (i := 956) (by decide +kernel), List.mem_of_getElem? (i := 1338) (by decide +kernel), List.mem_of_getElem? (i := 1339) (by decide +kernel)⟩
theorem lw_p68 : lw_okq (⟨"DaemonsheetModel", "readsAll", "()V"⟩, 46) := ⟨⟨by decide +kernel, by decide +kernel⟩, List.mem_of_getElem? (i := 956) (by decide +kernel), List.mem_of_getElem? (i := 1395) (by decide +kernel), List.mem_of_getElem? (i := 1396) (by decide +kernel)⟩
theorem lw_p69 : lw_okq (⟨"DaemonsheetModel", "hangsOn", "(I)I"⟩, 46) := ⟨⟨by decide +kernel, by decide +kernel⟩, List.mem_of_getElem? (i := 956) (by decide +kernel), List.mem_of_getElem? (i := 1403) (by decide +kernel), List.mem_of_getElem? (i := 1404) (by decide +kernel)⟩
def lw_privs_5 : List (MethodName × Nat) := [(⟨"DaemonsheetModel", "deepens", "()V"⟩, 46), (⟨"DaemonsheetModel", "reads", "(I)V"⟩, 46), (⟨"DaemonsheetModel", "setsService", "(I)V"⟩, 46), (⟨"DaemonsheetModel", "replays", "()V"⟩, 46), (⟨"DaemonsheetModel", "readsAll", "()V"⟩, 46), (⟨"DaemonsheetModel", "hangsOn", "(I)I"⟩, 46)]
theorem lw_r5 : ∀ q ∈ lw_privs_5, lw_okq q := List.forall_mem_cons.mpr ⟨lw_p64, List.forall_mem_cons.mpr ⟨lw_p65, List.forall_mem_cons.mpr ⟨lw_p66, List.forall_mem_cons.mpr ⟨lw_p67, List.forall_mem_cons.mpr ⟨lw_p68, List.forall_mem_cons.mpr ⟨lw_p69, fun _ h => absurd h List.not_mem_nil⟩⟩⟩⟩⟩⟩
def lw_privs : List (MethodName × Nat) := lw_privs_1 ++ (lw_privs_2 ++ (lw_privs_3 ++ (lw_privs_4 ++ (lw_privs_5))))
def lw_tbl : List Cond := k2_sels lw_privs ++ tables_1
theorem lw_privs_ok : ∀ q ∈ lw_privs, lw_okq q := by
  show ∀ q ∈ lw_privs_1 ++ (lw_privs_2 ++ (lw_privs_3 ++ (lw_privs_4 ++ (lw_privs_5)))), lw_okq q
  exact List.forall_mem_append.mpr ⟨lw_r1, List.forall_mem_append.mpr ⟨lw_r2, List.forall_mem_append.mpr ⟨lw_r3, List.forall_mem_append.mpr ⟨lw_r4, lw_r5⟩⟩⟩⟩

def RX0 : String := "Daemonsheet$Cell"
def TX0 : u_T := fun k => match k with
  | 0 => ("Daemonsheet$Cell", "number", "I", true)
  | 1 => ("Daemonsheet$Cell", "formula", "LDaemonsheet$Formula;", false)
  | 2 => ("Daemonsheet$Cell", "value", "I", false)
  | 3 => ("Daemonsheet$Cell", "depth", "I", false)
  | _ => ("Daemonsheet$Cell", "held", "Z", false)
def tyX0 : Nat → FieldType := fun k => match k with
  | 0 => .int
  | 1 => .object "Daemonsheet$Formula"
  | 2 => .int
  | 3 => .int
  | _ => .boolean
theorem nmX0 : ∀ a, a < 5 → ∀ b, b < 5 → a ≠ b → (TX0 a).2.1 ≠ (TX0 b).2.1 := by decide +kernel
theorem tyX0_ok : ∀ k, k < 5 → parseFieldDescriptor (TX0 k).2.2.1 = some (tyX0 k) := by decide +kernel
abbrev cX0_init : ByteArray := prog_2_method_1_code
def yX0_init : MethodName := ⟨RX0, "<init>", "(ILDaemonsheet$Formula;)V"⟩
def RX1 : String := "Daemonsheet$Formula"
def TX1 : u_T := fun k => match k with
  | 0 => ("Daemonsheet$Formula", "code", "[I", true)
  | _ => ("Daemonsheet$Formula", "reads", "I", true)
def tyX1 : Nat → FieldType := fun k => match k with
  | 0 => .array .int
  | _ => .int
theorem nmX1 : ∀ a, a < 2 → ∀ b, b < 2 → a ≠ b → (TX1 a).2.1 ≠ (TX1 b).2.1 := by decide +kernel
theorem tyX1_ok : ∀ k, k < 2 → parseFieldDescriptor (TX1 k).2.2.1 = some (tyX1 k) := by decide +kernel
abbrev cX1_init : ByteArray := prog_3_method_1_code
def yX1_init : MethodName := ⟨RX1, "<init>", "([II)V"⟩
def RX2 : String := "Daemonsheet$Parser"
def TX2 : u_T := fun k => match k with
  | 0 => ("Daemonsheet$Parser", "text", "LDaemonsheet$Text;", true)
  | 1 => ("Daemonsheet$Parser", "code", "[I", true)
  | 2 => ("Daemonsheet$Parser", "size", "I", false)
  | 3 => ("Daemonsheet$Parser", "reads", "I", false)
  | 4 => ("Daemonsheet$Parser", "place", "I", false)
  | _ => ("Daemonsheet$Parser", "stuck", "Z", false)
def tyX2 : Nat → FieldType := fun k => match k with
  | 0 => .object "Daemonsheet$Text"
  | 1 => .array .int
  | 2 => .int
  | 3 => .int
  | 4 => .int
  | _ => .boolean
theorem nmX2 : ∀ a, a < 6 → ∀ b, b < 6 → a ≠ b → (TX2 a).2.1 ≠ (TX2 b).2.1 := by decide +kernel
theorem tyX2_ok : ∀ k, k < 6 → parseFieldDescriptor (TX2 k).2.2.1 = some (tyX2 k) := by decide +kernel
abbrev cX2_init : ByteArray := prog_4_method_1_code
def yX2_init : MethodName := ⟨RX2, "<init>", "(LDaemonsheet$Text;)V"⟩
abbrev cX2_findFault : ByteArray := prog_4_method_2_code
def yX2_findFault : MethodName := ⟨RX2, "findFault", "()I"⟩
abbrev cX2_makeFormula : ByteArray := prog_4_method_3_code
def yX2_makeFormula : MethodName := ⟨RX2, "makeFormula", "()LDaemonsheet$Formula;"⟩
abbrev cX2_passFormula : ByteArray := prog_4_method_4_code
def yX2_passFormula : MethodName := ⟨RX2, "passFormula", "(I)V"⟩
abbrev cX2_comparisonOf : ByteArray := prog_4_method_5_code
def yX2_comparisonOf : MethodName := ⟨RX2, "comparisonOf", "(C)I"⟩
abbrev cX2_passSum : ByteArray := prog_4_method_6_code
def yX2_passSum : MethodName := ⟨RX2, "passSum", "(I)V"⟩
abbrev cX2_passProduct : ByteArray := prog_4_method_7_code
def yX2_passProduct : MethodName := ⟨RX2, "passProduct", "(I)V"⟩
abbrev cX2_passPart : ByteArray := prog_4_method_8_code
def yX2_passPart : MethodName := ⟨RX2, "passPart", "(I)V"⟩
abbrev cX2_passNumber : ByteArray := prog_4_method_9_code
def yX2_passNumber : MethodName := ⟨RX2, "passNumber", "()V"⟩
abbrev cX2_passName : ByteArray := prog_4_method_10_code
def yX2_passName : MethodName := ⟨RX2, "passName", "(III)V"⟩
abbrev cX2_figureAt : ByteArray := prog_4_method_11_code
def yX2_figureAt : MethodName := ⟨RX2, "figureAt", "(I)I"⟩
abbrev cX2_passBrackets : ByteArray := prog_4_method_12_code
def yX2_passBrackets : MethodName := ⟨RX2, "passBrackets", "(II)V"⟩
abbrev cX2_passSign : ByteArray := prog_4_method_13_code
def yX2_passSign : MethodName := ⟨RX2, "passSign", "(C)V"⟩
abbrev cX2_write : ByteArray := prog_4_method_14_code
def yX2_write : MethodName := ⟨RX2, "write", "(II)V"⟩
def RX3 : String := "Daemonsheet$Reading"
def TX3 : u_T := fun k => match k with
  | 0 => ("Daemonsheet$Reading", "value", "I", false)
  | _ => ("Daemonsheet$Reading", "tick", "I", false)
def tyX3 : Nat → FieldType := fun k => match k with
  | 0 => .int
  | _ => .int
theorem nmX3 : ∀ a, a < 2 → ∀ b, b < 2 → a ≠ b → (TX3 a).2.1 ≠ (TX3 b).2.1 := by decide +kernel
theorem tyX3_ok : ∀ k, k < 2 → parseFieldDescriptor (TX3 k).2.2.1 = some (tyX3 k) := by decide +kernel
abbrev cX3_init : ByteArray := prog_5_method_1_code
def yX3_init : MethodName := ⟨RX3, "<init>", "()V"⟩
abbrev cX3_isFresh : ByteArray := prog_5_method_2_code
def yX3_isFresh : MethodName := ⟨RX3, "isFresh", "(I)Z"⟩
def RX4 : String := "Daemonsheet$Service"
def TX4 : u_T := fun k => match k with
  | 0 => ("Daemonsheet$Service", "number", "I", true)
  | 1 => ("Daemonsheet$Service", "state", "I", false)
  | 2 => ("Daemonsheet$Service", "control", "I", false)
  | 3 => ("Daemonsheet$Service", "limit", "I", false)
  | 4 => ("Daemonsheet$Service", "needs", "I", false)
  | 5 => ("Daemonsheet$Service", "demand", "I", false)
  | 6 => ("Daemonsheet$Service", "delay", "I", false)
  | 7 => ("Daemonsheet$Service", "lie", "I", false)
  | 8 => ("Daemonsheet$Service", "load", "I", false)
  | 9 => ("Daemonsheet$Service", "told", "I", false)
  | 10 => ("Daemonsheet$Service", "starts", "I", false)
  | 11 => ("Daemonsheet$Service", "startTick", "I", false)
  | 12 => ("Daemonsheet$Service", "startDelay", "I", false)
  | _ => ("Daemonsheet$Service", "changedIn", "I", false)
def tyX4 : Nat → FieldType := fun k => match k with
  | 0 => .int
  | 1 => .int
  | 2 => .int
  | 3 => .int
  | 4 => .int
  | 5 => .int
  | 6 => .int
  | 7 => .int
  | 8 => .int
  | 9 => .int
  | 10 => .int
  | 11 => .int
  | 12 => .int
  | _ => .int
theorem nmX4 : ∀ a, a < 14 → ∀ b, b < 14 → a ≠ b → (TX4 a).2.1 ≠ (TX4 b).2.1 := by decide +kernel
theorem tyX4_ok : ∀ k, k < 14 → parseFieldDescriptor (TX4 k).2.2.1 = some (tyX4 k) := by decide +kernel
abbrev cX4_init : ByteArray := prog_6_method_1_code
def yX4_init : MethodName := ⟨RX4, "<init>", "(I)V"⟩
abbrev cX4_clear : ByteArray := prog_6_method_2_code
def yX4_clear : MethodName := ⟨RX4, "clear", "()V"⟩
abbrev cX4_takeSettings : ByteArray := prog_6_method_3_code
def yX4_takeSettings : MethodName := ⟨RX4, "takeSettings", "(LDaemonsheet$Service;)V"⟩
abbrev cX4_isDue : ByteArray := prog_6_method_4_code
def yX4_isDue : MethodName := ⟨RX4, "isDue", "(I)Z"⟩
abbrev cX4_enter : ByteArray := prog_6_method_5_code
def yX4_enter : MethodName := ⟨RX4, "enter", "(II)V"⟩
def RX5 : String := "Daemonsheet$Step"
def TX5 : u_T := fun k => match k with
  | 0 => ("Daemonsheet$Step", "kind", "I", true)
  | 1 => ("Daemonsheet$Step", "first", "I", true)
  | 2 => ("Daemonsheet$Step", "second", "I", true)
  | 3 => ("Daemonsheet$Step", "third", "I", true)
  | 4 => ("Daemonsheet$Step", "formula", "LDaemonsheet$Formula;", true)
  | _ => ("Daemonsheet$Step", "tick", "I", true)
def tyX5 : Nat → FieldType := fun k => match k with
  | 0 => .int
  | 1 => .int
  | 2 => .int
  | 3 => .int
  | 4 => .object "Daemonsheet$Formula"
  | _ => .int
theorem nmX5 : ∀ a, a < 6 → ∀ b, b < 6 → a ≠ b → (TX5 a).2.1 ≠ (TX5 b).2.1 := by decide +kernel
theorem tyX5_ok : ∀ k, k < 6 → parseFieldDescriptor (TX5 k).2.2.1 = some (tyX5 k) := by decide +kernel
abbrev cX5_init : ByteArray := prog_7_method_1_code
def yX5_init : MethodName := ⟨RX5, "<init>", "(IIIILDaemonsheet$Formula;I)V"⟩
def RX6 : String := "Daemonsheet$Table"
def TX6 : u_T := fun k => match k with
  | 0 => ("Daemonsheet$Table", "zero", "LDaemonsheet$Formula;", true)
  | 1 => ("Daemonsheet$Table", "cells", "[LDaemonsheet$Cell;", true)
  | 2 => ("Daemonsheet$Table", "order", "[LDaemonsheet$Cell;", true)
  | 3 => ("Daemonsheet$Table", "readings", "[LDaemonsheet$Reading;", true)
  | 4 => ("Daemonsheet$Table", "services", "[LDaemonsheet$Service;", true)
  | 5 => ("Daemonsheet$Table", "row", "[I", true)
  | 6 => ("Daemonsheet$Table", "dirty", "I", false)
  | 7 => ("Daemonsheet$Table", "now", "I", false)
  | _ => ("Daemonsheet$Table", "work", "I", false)
def tyX6 : Nat → FieldType := fun k => match k with
  | 0 => .object "Daemonsheet$Formula"
  | 1 => .array (.object "Daemonsheet$Cell")
  | 2 => .array (.object "Daemonsheet$Cell")
  | 3 => .array (.object "Daemonsheet$Reading")
  | 4 => .array (.object "Daemonsheet$Service")
  | 5 => .array .int
  | 6 => .int
  | 7 => .int
  | _ => .int
theorem nmX6 : ∀ a, a < 9 → ∀ b, b < 9 → a ≠ b → (TX6 a).2.1 ≠ (TX6 b).2.1 := by decide +kernel
theorem tyX6_ok : ∀ k, k < 9 → parseFieldDescriptor (TX6 k).2.2.1 = some (tyX6 k) := by decide +kernel
abbrev cX6_init : ByteArray := prog_8_method_1_code
def yX6_init : MethodName := ⟨RX6, "<init>", "()V"⟩
abbrev cX6_clear : ByteArray := prog_8_method_2_code
def yX6_clear : MethodName := ⟨RX6, "clear", "()V"⟩
abbrev cX6_takeSettings : ByteArray := prog_8_method_3_code
def yX6_takeSettings : MethodName := ⟨RX6, "takeSettings", "(LDaemonsheet$Table;I)V"⟩
abbrev cX6_tell : ByteArray := prog_8_method_4_code
def yX6_tell : MethodName := ⟨RX6, "tell", "(LDaemonsheet$Step;)I"⟩
abbrev cX6_change : ByteArray := prog_8_method_5_code
def yX6_change : MethodName := ⟨RX6, "change", "(LDaemonsheet$Step;)V"⟩
abbrev cX6_isStartDue : ByteArray := prog_8_method_6_code
def yX6_isStartDue : MethodName := ⟨RX6, "isStartDue", "()Z"⟩
abbrev cX6_changeReading : ByteArray := prog_8_method_7_code
def yX6_changeReading : MethodName := ⟨RX6, "changeReading", "(LDaemonsheet$Step;)V"⟩
abbrev cX6_changeCell : ByteArray := prog_8_method_8_code
def yX6_changeCell : MethodName := ⟨RX6, "changeCell", "(LDaemonsheet$Step;)V"⟩
abbrev cX6_changeService : ByteArray := prog_8_method_9_code
def yX6_changeService : MethodName := ⟨RX6, "changeService", "(LDaemonsheet$Step;)V"⟩
abbrev cX6_settle : ByteArray := prog_8_method_10_code
def yX6_settle : MethodName := ⟨RX6, "settle", "()I"⟩
abbrev cX6_forgetChanges : ByteArray := prog_8_method_11_code
def yX6_forgetChanges : MethodName := ⟨RX6, "forgetChanges", "()V"⟩
abbrev cX6_cutLowestOfLateChanges : ByteArray := prog_8_method_12_code
def yX6_cutLowestOfLateChanges : MethodName := ⟨RX6, "cutLowestOfLateChanges", "()V"⟩
abbrev cX6_workOutDirtyCells : ByteArray := prog_8_method_13_code
def yX6_workOutDirtyCells : MethodName := ⟨RX6, "workOutDirtyCells", "()V"⟩
abbrev cX6_setValue : ByteArray := prog_8_method_14_code
def yX6_setValue : MethodName := ⟨RX6, "setValue", "(LDaemonsheet$Cell;I)V"⟩
abbrev cX6_setTold : ByteArray := prog_8_method_15_code
def yX6_setTold : MethodName := ⟨RX6, "setTold", "(LDaemonsheet$Service;I)V"⟩
abbrev cX6_soilReaders : ByteArray := prog_8_method_16_code
def yX6_soilReaders : MethodName := ⟨RX6, "soilReaders", "(I)V"⟩
abbrev cX6_lookAtServices : ByteArray := prog_8_method_17_code
def yX6_lookAtServices : MethodName := ⟨RX6, "lookAtServices", "(I)Z"⟩
abbrev cX6_nextState : ByteArray := prog_8_method_18_code
def yX6_nextState : MethodName := ⟨RX6, "nextState", "(LDaemonsheet$Service;)I"⟩
abbrev cX6_isWanted : ByteArray := prog_8_method_19_code
def yX6_isWanted : MethodName := ⟨RX6, "isWanted", "(LDaemonsheet$Service;)Z"⟩
abbrev cX6_loadRunning : ByteArray := prog_8_method_20_code
def yX6_loadRunning : MethodName := ⟨RX6, "loadRunning", "(LDaemonsheet$Service;)I"⟩
abbrev cX6_valueOf : ByteArray := prog_8_method_21_code
def yX6_valueOf : MethodName := ⟨RX6, "valueOf", "(LDaemonsheet$Formula;)I"⟩
abbrev cX6_valueNamed : ByteArray := prog_8_method_22_code
def yX6_valueNamed : MethodName := ⟨RX6, "valueNamed", "(II)I"⟩
abbrev cX6_cellValue : ByteArray := prog_8_method_23_code
def yX6_cellValue : MethodName := ⟨RX6, "cellValue", "(II)I"⟩
abbrev cX6_combine : ByteArray := prog_8_method_24_code
def yX6_combine : MethodName := ⟨RX6, "combine", "(IIII)J"⟩
abbrev cX6_arrange : ByteArray := prog_8_method_25_code
def yX6_arrange : MethodName := ⟨RX6, "arrange", "()V"⟩
abbrev cX6_withAllRead : ByteArray := prog_8_method_26_code
def yX6_withAllRead : MethodName := ⟨RX6, "withAllRead", "(I)I"⟩
abbrev cX6_findStale : ByteArray := prog_8_method_27_code
def yX6_findStale : MethodName := ⟨RX6, "findStale", "()I"⟩
abbrev cX6_hangsOnItself : ByteArray := prog_8_method_28_code
def yX6_hangsOnItself : MethodName := ⟨RX6, "hangsOnItself", "(I)Z"⟩
abbrev cX6_servicesUnder : ByteArray := prog_8_method_29_code
def yX6_servicesUnder : MethodName := ⟨RX6, "servicesUnder", "(LDaemonsheet$Service;)I"⟩
def RX7 : String := "Daemonsheet$Text"
def TX7 : u_T := fun k => match k with
  | 0 => ("Daemonsheet$Text", "letters", "[C", true)
  | _ => ("Daemonsheet$Text", "length", "I", false)
def tyX7 : Nat → FieldType := fun k => match k with
  | 0 => .array .char
  | _ => .int
theorem nmX7 : ∀ a, a < 2 → ∀ b, b < 2 → a ≠ b → (TX7 a).2.1 ≠ (TX7 b).2.1 := by decide +kernel
theorem tyX7_ok : ∀ k, k < 2 → parseFieldDescriptor (TX7 k).2.2.1 = some (tyX7 k) := by decide +kernel
abbrev cX7_init : ByteArray := prog_9_method_1_code
def yX7_init : MethodName := ⟨RX7, "<init>", "()V"⟩
abbrev cX7_isFull : ByteArray := prog_9_method_2_code
def yX7_isFull : MethodName := ⟨RX7, "isFull", "()Z"⟩
abbrev cX7_add : ByteArray := prog_9_method_3_code
def yX7_add : MethodName := ⟨RX7, "add", "(C)V"⟩
abbrev cX7_letterAt : ByteArray := prog_9_method_4_code
def yX7_letterAt : MethodName := ⟨RX7, "letterAt", "(I)C"⟩
def RX8 : String := "Daemonsheet"
def TX8 : u_T := fun k => match k with
  | 0 => ("Daemonsheet", "text", "LDaemonsheet$Text;", true)
  | 1 => ("Daemonsheet", "parser", "LDaemonsheet$Parser;", true)
  | 2 => ("Daemonsheet", "table", "LDaemonsheet$Table;", true)
  | 3 => ("Daemonsheet", "spare", "LDaemonsheet$Table;", true)
  | 4 => ("Daemonsheet", "kept", "[LDaemonsheet$Step;", true)
  | 5 => ("Daemonsheet", "keptCount", "I", false)
  | _ => ("Daemonsheet", "oneTick", "LDaemonsheet$Step;", true)
def tyX8 : Nat → FieldType := fun k => match k with
  | 0 => .object "Daemonsheet$Text"
  | 1 => .object "Daemonsheet$Parser"
  | 2 => .object "Daemonsheet$Table"
  | 3 => .object "Daemonsheet$Table"
  | 4 => .array (.object "Daemonsheet$Step")
  | 5 => .int
  | _ => .object "Daemonsheet$Step"
theorem nmX8 : ∀ a, a < 7 → ∀ b, b < 7 → a ≠ b → (TX8 a).2.1 ≠ (TX8 b).2.1 := by decide +kernel
theorem tyX8_ok : ∀ k, k < 7 → parseFieldDescriptor (TX8 k).2.2.1 = some (tyX8 k) := by decide +kernel
abbrev cX8_init : ByteArray := prog_1_method_1_code
def yX8_init : MethodName := ⟨RX8, "<init>", "()V"⟩
abbrev cX8_type : ByteArray := prog_1_method_2_code
def yX8_type : MethodName := ⟨RX8, "type", "(C)I"⟩
abbrev cX8_wipe : ByteArray := prog_1_method_3_code
def yX8_wipe : MethodName := ⟨RX8, "wipe", "()I"⟩
abbrev cX8_fault : ByteArray := prog_1_method_4_code
def yX8_fault : MethodName := ⟨RX8, "fault", "()I"⟩
abbrev cX8_formula : ByteArray := prog_1_method_5_code
def yX8_formula : MethodName := ⟨RX8, "formula", "(I)I"⟩
abbrev cX8_hold : ByteArray := prog_1_method_6_code
def yX8_hold : MethodName := ⟨RX8, "hold", "(II)I"⟩
abbrev cX8_release : ByteArray := prog_1_method_7_code
def yX8_release : MethodName := ⟨RX8, "release", "(I)I"⟩
abbrev cX8_read : ByteArray := prog_1_method_8_code
def yX8_read : MethodName := ⟨RX8, "read", "(II)I"⟩
abbrev cX8_control : ByteArray := prog_1_method_9_code
def yX8_control : MethodName := ⟨RX8, "control", "(II)I"⟩
abbrev cX8_limit : ByteArray := prog_1_method_10_code
def yX8_limit : MethodName := ⟨RX8, "limit", "(II)I"⟩
abbrev cX8_demand : ByteArray := prog_1_method_11_code
def yX8_demand : MethodName := ⟨RX8, "demand", "(III)I"⟩
abbrev cX8_need : ByteArray := prog_1_method_12_code
def yX8_need : MethodName := ⟨RX8, "need", "(IIZ)I"⟩
abbrev cX8_lie : ByteArray := prog_1_method_13_code
def yX8_lie : MethodName := ⟨RX8, "lie", "(II)I"⟩
abbrev cX8_mend : ByteArray := prog_1_method_14_code
def yX8_mend : MethodName := ⟨RX8, "mend", "(I)I"⟩
abbrev cX8_tick : ByteArray := prog_1_method_15_code
def yX8_tick : MethodName := ⟨RX8, "tick", "(I)I"⟩
abbrev cX8_undo : ByteArray := prog_1_method_16_code
def yX8_undo : MethodName := ⟨RX8, "undo", "()I"⟩
abbrev cX8_steps : ByteArray := prog_1_method_17_code
def yX8_steps : MethodName := ⟨RX8, "steps", "()I"⟩
abbrev cX8_now : ByteArray := prog_1_method_18_code
def yX8_now : MethodName := ⟨RX8, "now", "()I"⟩
abbrev cX8_value : ByteArray := prog_1_method_19_code
def yX8_value : MethodName := ⟨RX8, "value", "(I)I"⟩
abbrev cX8_valueAnew : ByteArray := prog_1_method_20_code
def yX8_valueAnew : MethodName := ⟨RX8, "valueAnew", "(I)I"⟩
abbrev cX8_worth : ByteArray := prog_1_method_21_code
def yX8_worth : MethodName := ⟨RX8, "worth", "(I)I"⟩
abbrev cX8_depth : ByteArray := prog_1_method_22_code
def yX8_depth : MethodName := ⟨RX8, "depth", "(I)I"⟩
abbrev cX8_isStale : ByteArray := prog_1_method_23_code
def yX8_isStale : MethodName := ⟨RX8, "isStale", "(I)Z"⟩
abbrev cX8_work : ByteArray := prog_1_method_24_code
def yX8_work : MethodName := ⟨RX8, "work", "()I"⟩
abbrev cX8_state : ByteArray := prog_1_method_25_code
def yX8_state : MethodName := ⟨RX8, "state", "(I)I"⟩
abbrev cX8_load : ByteArray := prog_1_method_26_code
def yX8_load : MethodName := ⟨RX8, "load", "(I)I"⟩
abbrev cX8_told : ByteArray := prog_1_method_27_code
def yX8_told : MethodName := ⟨RX8, "told", "(I)I"⟩
abbrev cX8_starts : ByteArray := prog_1_method_28_code
def yX8_starts : MethodName := ⟨RX8, "starts", "(I)I"⟩
abbrev cX8_trial : ByteArray := prog_1_method_29_code
def yX8_trial : MethodName := ⟨RX8, "trial", "(I)I"⟩
abbrev cX8_isLoop : ByteArray := prog_1_method_30_code
def yX8_isLoop : MethodName := ⟨RX8, "isLoop", "(I)Z"⟩
abbrev cX8_keep : ByteArray := prog_1_method_31_code
def yX8_keep : MethodName := ⟨RX8, "keep", "(IIIILDaemonsheet$Formula;)I"⟩
abbrev cX8_tellAnew : ByteArray := prog_1_method_32_code
def yX8_tellAnew : MethodName := ⟨RX8, "tellAnew", "(LDaemonsheet$Table;)V"⟩
abbrev cX8_tellReadingsOfTick : ByteArray := prog_1_method_33_code
def yX8_tellReadingsOfTick : MethodName := ⟨RX8, "tellReadingsOfTick", "(LDaemonsheet$Table;)V"⟩
abbrev cX8_checkPlace : ByteArray := prog_1_method_34_code
def yX8_checkPlace : MethodName := ⟨RX8, "checkPlace", "(II)V"⟩
abbrev cX8_checkCell : ByteArray := prog_1_method_35_code
def yX8_checkCell : MethodName := ⟨RX8, "checkCell", "(I)V"⟩
abbrev cX8_checkCellOrNone : ByteArray := prog_1_method_36_code
def yX8_checkCellOrNone : MethodName := ⟨RX8, "checkCellOrNone", "(I)V"⟩
abbrev cX8_checkService : ByteArray := prog_1_method_37_code
def yX8_checkService : MethodName := ⟨RX8, "checkService", "(I)V"⟩
abbrev cX8_checkNumber : ByteArray := prog_1_method_38_code
def yX8_checkNumber : MethodName := ⟨RX8, "checkNumber", "(III)V"⟩
abbrev cX8_isFigure : ByteArray := prog_1_method_39_code
def yX8_isFigure : MethodName := ⟨RX8, "isFigure", "(C)Z"⟩
abbrev cX8_bit : ByteArray := prog_1_method_40_code
def yX8_bit : MethodName := ⟨RX8, "bit", "(I)I"⟩
abbrev cX8_has : ByteArray := prog_1_method_41_code
def yX8_has : MethodName := ⟨RX8, "has", "(II)Z"⟩
abbrev cX8_within : ByteArray := prog_1_method_42_code
def yX8_within : MethodName := ⟨RX8, "within", "(J)I"⟩
def RX9 : String := "DaemonsheetModel"
def TX9 : u_T := fun k => match k with
  | 0 => ("DaemonsheetModel", "text", "[I", true)
  | 1 => ("DaemonsheetModel", "length", "I", false)
  | 2 => ("DaemonsheetModel", "made", "[I", true)
  | 3 => ("DaemonsheetModel", "madeLength", "I", false)
  | 4 => ("DaemonsheetModel", "open", "[I", true)
  | 5 => ("DaemonsheetModel", "opened", "I", false)
  | 6 => ("DaemonsheetModel", "hasCompared", "[Z", true)
  | 7 => ("DaemonsheetModel", "opens", "[I", true)
  | 8 => ("DaemonsheetModel", "args", "[I", true)
  | 9 => ("DaemonsheetModel", "code", "[I", true)
  | 10 => ("DaemonsheetModel", "codeLength", "[I", true)
  | 11 => ("DaemonsheetModel", "readsCells", "[I", true)
  | 12 => ("DaemonsheetModel", "readsReadings", "[I", true)
  | 13 => ("DaemonsheetModel", "readsLoads", "[I", true)
  | 14 => ("DaemonsheetModel", "depth", "[I", true)
  | 15 => ("DaemonsheetModel", "isHeld", "[Z", true)
  | 16 => ("DaemonsheetModel", "heldAt", "[I", true)
  | 17 => ("DaemonsheetModel", "control", "[I", true)
  | 18 => ("DaemonsheetModel", "limit", "[I", true)
  | 19 => ("DaemonsheetModel", "needs", "[I", true)
  | 20 => ("DaemonsheetModel", "demand", "[I", true)
  | 21 => ("DaemonsheetModel", "delay", "[I", true)
  | 22 => ("DaemonsheetModel", "lie", "[I", true)
  | 23 => ("DaemonsheetModel", "value", "[I", true)
  | 24 => ("DaemonsheetModel", "isDirty", "[Z", true)
  | 25 => ("DaemonsheetModel", "reading", "[I", true)
  | 26 => ("DaemonsheetModel", "toldAt", "[I", true)
  | 27 => ("DaemonsheetModel", "state", "[I", true)
  | 28 => ("DaemonsheetModel", "since", "[I", true)
  | 29 => ("DaemonsheetModel", "waits", "[I", true)
  | 30 => ("DaemonsheetModel", "load", "[I", true)
  | 31 => ("DaemonsheetModel", "told", "[I", true)
  | 32 => ("DaemonsheetModel", "starts", "[I", true)
  | 33 => ("DaemonsheetModel", "work", "I", false)
  | 34 => ("DaemonsheetModel", "now", "I", false)
  | 35 => ("DaemonsheetModel", "kind", "[I", true)
  | 36 => ("DaemonsheetModel", "first", "[I", true)
  | 37 => ("DaemonsheetModel", "second", "[I", true)
  | 38 => ("DaemonsheetModel", "third", "[I", true)
  | 39 => ("DaemonsheetModel", "at", "[I", true)
  | 40 => ("DaemonsheetModel", "stepCode", "[I", true)
  | 41 => ("DaemonsheetModel", "stepLength", "[I", true)
  | 42 => ("DaemonsheetModel", "steps", "I", false)
  | 43 => ("DaemonsheetModel", "stack", "[J", true)
  | 44 => ("DaemonsheetModel", "top", "I", false)
  | _ => ("DaemonsheetModel", "thrown", "I", false)
def tyX9 : Nat → FieldType := fun k => match k with
  | 0 => .array .int
  | 1 => .int
  | 2 => .array .int
  | 3 => .int
  | 4 => .array .int
  | 5 => .int
  | 6 => .array .boolean
  | 7 => .array .int
  | 8 => .array .int
  | 9 => .array .int
  | 10 => .array .int
  | 11 => .array .int
  | 12 => .array .int
  | 13 => .array .int
  | 14 => .array .int
  | 15 => .array .boolean
  | 16 => .array .int
  | 17 => .array .int
  | 18 => .array .int
  | 19 => .array .int
  | 20 => .array .int
  | 21 => .array .int
  | 22 => .array .int
  | 23 => .array .int
  | 24 => .array .boolean
  | 25 => .array .int
  | 26 => .array .int
  | 27 => .array .int
  | 28 => .array .int
  | 29 => .array .int
  | 30 => .array .int
  | 31 => .array .int
  | 32 => .array .int
  | 33 => .int
  | 34 => .int
  | 35 => .array .int
  | 36 => .array .int
  | 37 => .array .int
  | 38 => .array .int
  | 39 => .array .int
  | 40 => .array .int
  | 41 => .array .int
  | 42 => .int
  | 43 => .array .long
  | 44 => .int
  | _ => .int
theorem nmX9 : ∀ a, a < 46 → ∀ b, b < 46 → a ≠ b → (TX9 a).2.1 ≠ (TX9 b).2.1 := by decide +kernel
theorem tyX9_ok : ∀ k, k < 46 → parseFieldDescriptor (TX9 k).2.2.1 = some (tyX9 k) := by decide +kernel
abbrev cX9_init : ByteArray := prog_11_method_1_code
def yX9_init : MethodName := ⟨RX9, "<init>", "()V"⟩
abbrev cX9_thrown : ByteArray := prog_11_method_2_code
def yX9_thrown : MethodName := ⟨RX9, "thrown", "()I"⟩
abbrev cX9_goes : ByteArray := prog_11_method_3_code
def yX9_goes : MethodName := ⟨RX9, "goes", "(ZZZ)Z"⟩
abbrev cX9_isIn : ByteArray := prog_11_method_4_code
def yX9_isIn : MethodName := ⟨RX9, "isIn", "(II)Z"⟩
abbrev cX9_isWithin : ByteArray := prog_11_method_5_code
def yX9_isWithin : MethodName := ⟨RX9, "isWithin", "(III)Z"⟩
abbrev cX9_has : ByteArray := prog_11_method_6_code
def yX9_has : MethodName := ⟨RX9, "has", "(II)Z"⟩
abbrev cX9_isFigure : ByteArray := prog_11_method_7_code
def yX9_isFigure : MethodName := ⟨RX9, "isFigure", "(I)Z"⟩
abbrev cX9_isFunction : ByteArray := prog_11_method_8_code
def yX9_isFunction : MethodName := ⟨RX9, "isFunction", "(I)Z"⟩
abbrev cX9_isName : ByteArray := prog_11_method_9_code
def yX9_isName : MethodName := ⟨RX9, "isName", "(I)Z"⟩
abbrev cX9_deedOf : ByteArray := prog_11_method_10_code
def yX9_deedOf : MethodName := ⟨RX9, "deedOf", "(I)I"⟩
abbrev cX9_rank : ByteArray := prog_11_method_11_code
def yX9_rank : MethodName := ⟨RX9, "rank", "(I)I"⟩
abbrev cX9_type : ByteArray := prog_11_method_12_code
def yX9_type : MethodName := ⟨RX9, "type", "(C)I"⟩
abbrev cX9_wipe : ByteArray := prog_11_method_13_code
def yX9_wipe : MethodName := ⟨RX9, "wipe", "()I"⟩
abbrev cX9_makes : ByteArray := prog_11_method_14_code
def yX9_makes : MethodName := ⟨RX9, "makes", "(I)V"⟩
abbrev cX9_opensOne : ByteArray := prog_11_method_15_code
def yX9_opensOne : MethodName := ⟨RX9, "opensOne", "(I)V"⟩
abbrev cX9_closes : ByteArray := prog_11_method_16_code
def yX9_closes : MethodName := ⟨RX9, "closes", "(I)V"⟩
abbrev cX9_takesName : ByteArray := prog_11_method_17_code
def yX9_takesName : MethodName := ⟨RX9, "takesName", "(I)I"⟩
abbrev cX9_takesNumber : ByteArray := prog_11_method_18_code
def yX9_takesNumber : MethodName := ⟨RX9, "takesNumber", "(I)I"⟩
abbrev cX9_faultOf : ByteArray := prog_11_method_19_code
def yX9_faultOf : MethodName := ⟨RX9, "faultOf", "()I"⟩
abbrev cX9_fault : ByteArray := prog_11_method_20_code
def yX9_fault : MethodName := ⟨RX9, "fault", "()I"⟩
abbrev cX9_kept : ByteArray := prog_11_method_21_code
def yX9_kept : MethodName := ⟨RX9, "kept", "(J)J"⟩
abbrev cX9_deeds : ByteArray := prog_11_method_22_code
def yX9_deeds : MethodName := ⟨RX9, "deeds", "(I)V"⟩
abbrev cX9_worthOf : ByteArray := prog_11_method_23_code
def yX9_worthOf : MethodName := ⟨RX9, "worthOf", "(I)I"⟩
abbrev cX9_soils : ByteArray := prog_11_method_24_code
def yX9_soils : MethodName := ⟨RX9, "soils", "([II)V"⟩
abbrev cX9_becomes : ByteArray := prog_11_method_25_code
def yX9_becomes : MethodName := ⟨RX9, "becomes", "(II)V"⟩
abbrev cX9_tells : ByteArray := prog_11_method_26_code
def yX9_tells : MethodName := ⟨RX9, "tells", "(II)V"⟩
abbrev cX9_nextDirty : ByteArray := prog_11_method_27_code
def yX9_nextDirty : MethodName := ⟨RX9, "nextDirty", "()I"⟩
abbrev cX9_worksOut : ByteArray := prog_11_method_28_code
def yX9_worksOut : MethodName := ⟨RX9, "worksOut", "()V"⟩
abbrev cX9_isOld : ByteArray := prog_11_method_29_code
def yX9_isOld : MethodName := ⟨RX9, "isOld", "(I)Z"⟩
abbrev cX9_below : ByteArray := prog_11_method_30_code
def yX9_below : MethodName := ⟨RX9, "below", "(IZ)I"⟩
abbrev cX9_stale : ByteArray := prog_11_method_31_code
def yX9_stale : MethodName := ⟨RX9, "stale", "(I)Z"⟩
abbrev cX9_isWanted : ByteArray := prog_11_method_32_code
def yX9_isWanted : MethodName := ⟨RX9, "isWanted", "(I)Z"⟩
abbrev cX9_runs : ByteArray := prog_11_method_33_code
def yX9_runs : MethodName := ⟨RX9, "runs", "(I)V"⟩
abbrev cX9_changes : ByteArray := prog_11_method_34_code
def yX9_changes : MethodName := ⟨RX9, "changes", "(I)V"⟩
abbrev cX9_loadOf : ByteArray := prog_11_method_35_code
def yX9_loadOf : MethodName := ⟨RX9, "loadOf", "(I)I"⟩
abbrev cX9_round : ByteArray := prog_11_method_36_code
def yX9_round : MethodName := ⟨RX9, "round", "()I"⟩
abbrev cX9_settles : ByteArray := prog_11_method_37_code
def yX9_settles : MethodName := ⟨RX9, "settles", "()I"⟩
abbrev cX9_clears : ByteArray := prog_11_method_38_code
def yX9_clears : MethodName := ⟨RX9, "clears", "()V"⟩
abbrev cX9_begins : ByteArray := prog_11_method_39_code
def yX9_begins : MethodName := ⟨RX9, "begins", "()V"⟩
abbrev cX9_deepens : ByteArray := prog_11_method_40_code
def yX9_deepens : MethodName := ⟨RX9, "deepens", "()V"⟩
abbrev cX9_gives : ByteArray := prog_11_method_41_code
def yX9_gives : MethodName := ⟨RX9, "gives", "(II)V"⟩
abbrev cX9_setsCell : ByteArray := prog_11_method_42_code
def yX9_setsCell : MethodName := ⟨RX9, "setsCell", "(I)V"⟩
abbrev cX9_reads : ByteArray := prog_11_method_43_code
def yX9_reads : MethodName := ⟨RX9, "reads", "(I)V"⟩
abbrev cX9_setsService : ByteArray := prog_11_method_44_code
def yX9_setsService : MethodName := ⟨RX9, "setsService", "(I)V"⟩
abbrev cX9_does : ByteArray := prog_11_method_45_code
def yX9_does : MethodName := ⟨RX9, "does", "(I)I"⟩
abbrev cX9_keeps : ByteArray := prog_11_method_46_code
def yX9_keeps : MethodName := ⟨RX9, "keeps", "(IIII)I"⟩
abbrev cX9_replays : ByteArray := prog_11_method_47_code
def yX9_replays : MethodName := ⟨RX9, "replays", "()V"⟩
abbrev cX9_hasRoom : ByteArray := prog_11_method_48_code
def yX9_hasRoom : MethodName := ⟨RX9, "hasRoom", "()Z"⟩
abbrev cX9_isCell : ByteArray := prog_11_method_49_code
def yX9_isCell : MethodName := ⟨RX9, "isCell", "(I)Z"⟩
abbrev cX9_isService : ByteArray := prog_11_method_50_code
def yX9_isService : MethodName := ⟨RX9, "isService", "(I)Z"⟩
abbrev cX9_wouldHang : ByteArray := prog_11_method_51_code
def yX9_wouldHang : MethodName := ⟨RX9, "wouldHang", "(I)Z"⟩
abbrev cX9_formula : ByteArray := prog_11_method_52_code
def yX9_formula : MethodName := ⟨RX9, "formula", "(I)I"⟩
abbrev cX9_hold : ByteArray := prog_11_method_53_code
def yX9_hold : MethodName := ⟨RX9, "hold", "(II)I"⟩
abbrev cX9_release : ByteArray := prog_11_method_54_code
def yX9_release : MethodName := ⟨RX9, "release", "(I)I"⟩
abbrev cX9_read : ByteArray := prog_11_method_55_code
def yX9_read : MethodName := ⟨RX9, "read", "(II)I"⟩
abbrev cX9_control : ByteArray := prog_11_method_56_code
def yX9_control : MethodName := ⟨RX9, "control", "(II)I"⟩
abbrev cX9_limit : ByteArray := prog_11_method_57_code
def yX9_limit : MethodName := ⟨RX9, "limit", "(II)I"⟩
abbrev cX9_demand : ByteArray := prog_11_method_58_code
def yX9_demand : MethodName := ⟨RX9, "demand", "(III)I"⟩
abbrev cX9_need : ByteArray := prog_11_method_59_code
def yX9_need : MethodName := ⟨RX9, "need", "(IIZ)I"⟩
abbrev cX9_lie : ByteArray := prog_11_method_60_code
def yX9_lie : MethodName := ⟨RX9, "lie", "(II)I"⟩
abbrev cX9_mend : ByteArray := prog_11_method_61_code
def yX9_mend : MethodName := ⟨RX9, "mend", "(I)I"⟩
abbrev cX9_tick : ByteArray := prog_11_method_62_code
def yX9_tick : MethodName := ⟨RX9, "tick", "(I)I"⟩
abbrev cX9_undo : ByteArray := prog_11_method_63_code
def yX9_undo : MethodName := ⟨RX9, "undo", "()I"⟩
abbrev cX9_steps : ByteArray := prog_11_method_64_code
def yX9_steps : MethodName := ⟨RX9, "steps", "()I"⟩
abbrev cX9_now : ByteArray := prog_11_method_65_code
def yX9_now : MethodName := ⟨RX9, "now", "()I"⟩
abbrev cX9_value : ByteArray := prog_11_method_66_code
def yX9_value : MethodName := ⟨RX9, "value", "(I)I"⟩
abbrev cX9_valueAnew : ByteArray := prog_11_method_67_code
def yX9_valueAnew : MethodName := ⟨RX9, "valueAnew", "(I)I"⟩
abbrev cX9_worth : ByteArray := prog_11_method_68_code
def yX9_worth : MethodName := ⟨RX9, "worth", "(I)I"⟩
abbrev cX9_depth : ByteArray := prog_11_method_69_code
def yX9_depth : MethodName := ⟨RX9, "depth", "(I)I"⟩
abbrev cX9_isStale : ByteArray := prog_11_method_70_code
def yX9_isStale : MethodName := ⟨RX9, "isStale", "(I)Z"⟩
abbrev cX9_work : ByteArray := prog_11_method_71_code
def yX9_work : MethodName := ⟨RX9, "work", "()I"⟩
abbrev cX9_state : ByteArray := prog_11_method_72_code
def yX9_state : MethodName := ⟨RX9, "state", "(I)I"⟩
abbrev cX9_load : ByteArray := prog_11_method_73_code
def yX9_load : MethodName := ⟨RX9, "load", "(I)I"⟩
abbrev cX9_told : ByteArray := prog_11_method_74_code
def yX9_told : MethodName := ⟨RX9, "told", "(I)I"⟩
abbrev cX9_starts : ByteArray := prog_11_method_75_code
def yX9_starts : MethodName := ⟨RX9, "starts", "(I)I"⟩
abbrev cX9_trial : ByteArray := prog_11_method_76_code
def yX9_trial : MethodName := ⟨RX9, "trial", "(I)I"⟩
abbrev cX9_readsAll : ByteArray := prog_11_method_77_code
def yX9_readsAll : MethodName := ⟨RX9, "readsAll", "()V"⟩
abbrev cX9_hangsOn : ByteArray := prog_11_method_78_code
def yX9_hangsOn : MethodName := ⟨RX9, "hangsOn", "(I)I"⟩
abbrev cX9_isLoop : ByteArray := prog_11_method_79_code
def yX9_isLoop : MethodName := ⟨RX9, "isLoop", "(I)Z"⟩
def RJx145de : String := "java/io/Serializable"
def RJx9f9b0 : String := "java/lang/CharSequence"
def RJ11 : String := "java/lang/Character"
abbrev cJ11_isValidCodePoint_9a6ad : ByteArray := prog_12_method_11_code
def yJ11_isValidCodePoint_9a6ad : MethodName := ⟨RJ11, "isValidCodePoint", "(I)Z"⟩
abbrev cJ11_highSurrogate_5068e : ByteArray := prog_12_method_28_code
def yJ11_highSurrogate_5068e : MethodName := ⟨RJ11, "highSurrogate", "(I)C"⟩
abbrev cJ11_lowSurrogate_5068e : ByteArray := prog_12_method_29_code
def yJ11_lowSurrogate_5068e : MethodName := ⟨RJ11, "lowSurrogate", "(I)C"⟩
def RJx8e188 : String := "java/lang/Cloneable"
def RJxb160c : String := "java/lang/Comparable"
def RJ9 : String := "java/lang/Math"
abbrev cJ9_max_7cf53 : ByteArray := prog_18_method_65_code
def yJ9_max_7cf53 : MethodName := ⟨RJ9, "max", "(II)I"⟩
abbrev cJ9_max_f86c9 : ByteArray := prog_18_method_66_code
def yJ9_max_f86c9 : MethodName := ⟨RJ9, "max", "(JJ)J"⟩
abbrev cJ9_min_7cf53 : ByteArray := prog_18_method_69_code
def yJ9_min_7cf53 : MethodName := ⟨RJ9, "min", "(II)I"⟩
abbrev cJ9_min_f86c9 : ByteArray := prog_18_method_70_code
def yJ9_min_f86c9 : MethodName := ⟨RJ9, "min", "(JJ)J"⟩
def RJ0 : String := "java/lang/String"
abbrev cJ0_length_8abf5 : ByteArray := prog_20_method_54_code
def yJ0_length_8abf5 : MethodName := ⟨RJ0, "length", "()I"⟩
abbrev cJ0_indexOf_0f7a4 : ByteArray := prog_20_method_79_code
def yJ0_indexOf_0f7a4 : MethodName := ⟨RJ0, "indexOf", "(I)I"⟩
abbrev cJ0_indexOf_7cf53 : ByteArray := prog_20_method_80_code
def yJ0_indexOf_7cf53 : MethodName := ⟨RJ0, "indexOf", "(II)I"⟩
abbrev cJ0_coder_7d493 : ByteArray := prog_20_method_152_code
def yJ0_coder_7d493 : MethodName := ⟨RJ0, "coder", "()B"⟩
abbrev cJ0_isLatin1_aae02 : ByteArray := prog_20_method_154_code
def yJ0_isLatin1_aae02 : MethodName := ⟨RJ0, "isLatin1", "()Z"⟩
abbrev cJ0_checkBoundsBeginEnd_23922 : ByteArray := prog_20_method_158_code
def yJ0_checkBoundsBeginEnd_23922 : MethodName := ⟨RJ0, "checkBoundsBeginEnd", "(III)V"⟩
def RJ1 : String := "java/lang/StringLatin1"
abbrev cJ1_canEncode_9a6ad : ByteArray := prog_21_method_4_code
def yJ1_canEncode_9a6ad : MethodName := ⟨RJ1, "canEncode", "(I)Z"⟩
abbrev cJ1_indexOf_4cfef : ByteArray := prog_21_method_22_code
def yJ1_indexOf_4cfef : MethodName := ⟨RJ1, "indexOf", "([BIII)I"⟩
abbrev cJ1_indexOfChar_4cfef : ByteArray := prog_21_method_23_code
def yJ1_indexOfChar_4cfef : MethodName := ⟨RJ1, "indexOfChar", "([BIII)I"⟩
def RJ2 : String := "java/lang/StringUTF16"
abbrev cJ2_getChar_3b067 : ByteArray := prog_22_method_5_code
def yJ2_getChar_3b067 : MethodName := ⟨RJ2, "getChar", "([BI)C"⟩
abbrev cJ2_length_9d52b : ByteArray := prog_22_method_6_code
def yJ2_length_9d52b : MethodName := ⟨RJ2, "length", "([B)I"⟩
abbrev cJ2_indexOf_4cfef : ByteArray := prog_22_method_40_code
def yJ2_indexOf_4cfef : MethodName := ⟨RJ2, "indexOf", "([BIII)I"⟩
abbrev cJ2_indexOfChar_4cfef : ByteArray := prog_22_method_47_code
def yJ2_indexOfChar_4cfef : MethodName := ⟨RJ2, "indexOfChar", "([BIII)I"⟩
abbrev cJ2_indexOfCharUnsafe_4cfef : ByteArray := prog_22_method_48_code
def yJ2_indexOfCharUnsafe_4cfef : MethodName := ⟨RJ2, "indexOfCharUnsafe", "([BIII)I"⟩
abbrev cJ2_indexOfSupplementary_4cfef : ByteArray := prog_22_method_49_code
def yJ2_indexOfSupplementary_4cfef : MethodName := ⟨RJ2, "indexOfSupplementary", "([BIII)I"⟩
abbrev cJ2_checkBoundsBeginEnd_d044e : ByteArray := prog_22_method_93_code
def yJ2_checkBoundsBeginEnd_d044e : MethodName := ⟨RJ2, "checkBoundsBeginEnd", "(II[B)V"⟩
def RJ10 : String := "java/lang/System"
def RJxfd54e : String := "java/lang/constant/Constable"
def RJx3cf43 : String := "java/lang/constant/ConstantDesc"
def RJ7 : String := "java/util/Arrays"
abbrev cJ7_copyOf_59c91 : ByteArray := prog_25_method_123_code
def yJ7_copyOf_59c91 : MethodName := ⟨RJ7, "copyOf", "([II)[I"⟩
def RJ3 : String := "jdk/internal/util/Preconditions"
abbrev cJ3_checkFromToIndex_8c36e : ByteArray := prog_26_method_12_code
def yJ3_checkFromToIndex_8c36e : MethodName := ⟨RJ3, "checkFromToIndex", "(IIILjava/util/function/BiFunction;)I"⟩
def RL : String := "DaemonsheetLaw"
abbrev cL_type : ByteArray := method_3_code
def yL_type : MethodName := ⟨RL, "type", "(LDaemonsheet;C[J)I"⟩
abbrev cL_formula : ByteArray := method_4_code
def yL_formula : MethodName := ⟨RL, "formula", "(LDaemonsheet;I[J)I"⟩
abbrev cL_hold : ByteArray := method_5_code
def yL_hold : MethodName := ⟨RL, "hold", "(LDaemonsheet;II[J)I"⟩
abbrev cL_release : ByteArray := method_6_code
def yL_release : MethodName := ⟨RL, "release", "(LDaemonsheet;I[J)I"⟩
abbrev cL_read : ByteArray := method_7_code
def yL_read : MethodName := ⟨RL, "read", "(LDaemonsheet;II[J)I"⟩
abbrev cL_control : ByteArray := method_8_code
def yL_control : MethodName := ⟨RL, "control", "(LDaemonsheet;II[J)I"⟩
abbrev cL_limit : ByteArray := method_9_code
def yL_limit : MethodName := ⟨RL, "limit", "(LDaemonsheet;II[J)I"⟩
abbrev cL_demand : ByteArray := method_10_code
def yL_demand : MethodName := ⟨RL, "demand", "(LDaemonsheet;III[J)I"⟩
abbrev cL_need : ByteArray := method_11_code
def yL_need : MethodName := ⟨RL, "need", "(LDaemonsheet;IIZ[J)I"⟩
abbrev cL_lie : ByteArray := method_12_code
def yL_lie : MethodName := ⟨RL, "lie", "(LDaemonsheet;II[J)I"⟩
abbrev cL_mend : ByteArray := method_13_code
def yL_mend : MethodName := ⟨RL, "mend", "(LDaemonsheet;I[J)I"⟩
abbrev cL_tick : ByteArray := method_14_code
def yL_tick : MethodName := ⟨RL, "tick", "(LDaemonsheet;I[J)I"⟩
abbrev cL_undo : ByteArray := method_15_code
def yL_undo : MethodName := ⟨RL, "undo", "(LDaemonsheet;[J)I"⟩
abbrev cL_value : ByteArray := method_16_code
def yL_value : MethodName := ⟨RL, "value", "(LDaemonsheet;I[J)I"⟩
abbrev cL_valueAnew : ByteArray := method_17_code
def yL_valueAnew : MethodName := ⟨RL, "valueAnew", "(LDaemonsheet;I[J)I"⟩
abbrev cL_worth : ByteArray := method_18_code
def yL_worth : MethodName := ⟨RL, "worth", "(LDaemonsheet;I[J)I"⟩
abbrev cL_depth : ByteArray := method_19_code
def yL_depth : MethodName := ⟨RL, "depth", "(LDaemonsheet;I[J)I"⟩
abbrev cL_isStale : ByteArray := method_20_code
def yL_isStale : MethodName := ⟨RL, "isStale", "(LDaemonsheet;I[J)I"⟩
abbrev cL_state : ByteArray := method_21_code
def yL_state : MethodName := ⟨RL, "state", "(LDaemonsheet;I[J)I"⟩
abbrev cL_load : ByteArray := method_22_code
def yL_load : MethodName := ⟨RL, "load", "(LDaemonsheet;I[J)I"⟩
abbrev cL_told : ByteArray := method_23_code
def yL_told : MethodName := ⟨RL, "told", "(LDaemonsheet;I[J)I"⟩
abbrev cL_starts : ByteArray := method_24_code
def yL_starts : MethodName := ⟨RL, "starts", "(LDaemonsheet;I[J)I"⟩
abbrev cL_trial : ByteArray := method_25_code
def yL_trial : MethodName := ⟨RL, "trial", "(LDaemonsheet;I[J)I"⟩
abbrev cL_isLoop : ByteArray := method_26_code
def yL_isLoop : MethodName := ⟨RL, "isLoop", "(LDaemonsheet;I[J)I"⟩
abbrev cL_law : ByteArray := code
def yL_law : MethodName := ⟨RL, "law", "([I)Z"⟩
abbrev vwCl : List vw_C := [(RX0, TX0, 5), (RX1, TX1, 2), (RX2, TX2, 6), (RX3, TX3, 2), (RX4, TX4, 14), (RX5, TX5, 6), (RX6, TX6, 9), (RX7, TX7, 2), (RX8, TX8, 7), (RX9, TX9, 46)]
