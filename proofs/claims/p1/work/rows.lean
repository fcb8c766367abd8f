section
-- ===== PART A: goes FIRST, ahead of the names: the tables' words, and 'selects' of the private methods out of them =====
/-- a private method of a class that the tables say can be made, by its rows of tables_1 -/
def lw_okq (q : MethodName × Nat) : Prop := (q.1.cls ≠ "java/lang/invoke/MethodHandle" ∧ q.1.cls ≠ "java/lang/invoke/VarHandle") ∧ Cond.instantiable q.1.cls q.2 ∈ tables_1 ∧ Cond.privateMethod q.1 ∈ tables_1 ∧ Cond.instanceMethod q.1 ∈ tables_1
theorem lw_p0 : lw_okq (⟨"LineMonitor$Names", "addAll", "(Ljava/lang/String;[I)V"⟩, 3) := ⟨⟨by decide +kernel, by decide +kernel⟩, List.mem_of_getElem? (i := 48) (by decide +kernel), List.mem_of_getElem? (i := 57) (by decide +kernel), List.mem_of_getElem? (i := 58) (by decide +kernel)⟩
theorem lw_p1 : lw_okq (⟨"LineMonitor$Names", "add", "(JI)V"⟩, 3) := ⟨⟨by decide +kernel, by decide +kernel⟩, List.mem_of_getElem? (i := 48) (by decide +kernel), List.mem_of_getElem? (i := 109) (by decide +kernel), List.mem_of_getElem? (i := 110) (by decide +kernel)⟩
theorem lw_p2 : lw_okq (⟨"LineMonitor", "userAt", "(I)LLineMonitor$User;"⟩, 3) := ⟨⟨by decide +kernel, by decide +kernel⟩, List.mem_of_getElem? (i := 16) (by decide +kernel), List.mem_of_getElem? (i := 409) (by decide +kernel), List.mem_of_getElem? (i := 410) (by decide +kernel)⟩
theorem lw_p3 : lw_okq (⟨"LineMonitor$Reader", "behindBlanks", "(I)I"⟩, 13) := ⟨⟨by decide +kernel, by decide +kernel⟩, List.mem_of_getElem? (i := 137) (by decide +kernel), List.mem_of_getElem? (i := 436) (by decide +kernel), List.mem_of_getElem? (i := 437) (by decide +kernel)⟩
theorem lw_p4 : lw_okq (⟨"LineMonitor$Reader", "look", "(I)I"⟩, 13) := ⟨⟨by decide +kernel, by decide +kernel⟩, List.mem_of_getElem? (i := 137) (by decide +kernel), List.mem_of_getElem? (i := 440) (by decide +kernel), List.mem_of_getElem? (i := 441) (by decide +kernel)⟩
theorem lw_p5 : lw_okq (⟨"LineMonitor$Assembler", "doFirst", "(II)I"⟩, 11) := ⟨⟨by decide +kernel, by decide +kernel⟩, List.mem_of_getElem? (i := 42) (by decide +kernel), List.mem_of_getElem? (i := 444) (by decide +kernel), List.mem_of_getElem? (i := 445) (by decide +kernel)⟩
theorem lw_p6 : lw_okq (⟨"LineMonitor$Assembler", "skipLabels", "()V"⟩, 11) := ⟨⟨by decide +kernel, by decide +kernel⟩, List.mem_of_getElem? (i := 42) (by decide +kernel), List.mem_of_getElem? (i := 448) (by decide +kernel), List.mem_of_getElem? (i := 449) (by decide +kernel)⟩
theorem lw_p7 : lw_okq (⟨"LineMonitor$Reader", "behindWord", "(I)I"⟩, 13) := ⟨⟨by decide +kernel, by decide +kernel⟩, List.mem_of_getElem? (i := 137) (by decide +kernel), List.mem_of_getElem? (i := 456) (by decide +kernel), List.mem_of_getElem? (i := 457) (by decide +kernel)⟩
theorem lw_p8 : lw_okq (⟨"LineMonitor$Reader", "keyOf", "(II)J"⟩, 13) := ⟨⟨by decide +kernel, by decide +kernel⟩, List.mem_of_getElem? (i := 137) (by decide +kernel), List.mem_of_getElem? (i := 466) (by decide +kernel), List.mem_of_getElem? (i := 467) (by decide +kernel)⟩
theorem lw_p9 : lw_okq (⟨"LineMonitor$Reader", "readExpression", "()I"⟩, 13) := ⟨⟨by decide +kernel, by decide +kernel⟩, List.mem_of_getElem? (i := 137) (by decide +kernel), List.mem_of_getElem? (i := 479) (by decide +kernel), List.mem_of_getElem? (i := 480) (by decide +kernel)⟩
theorem lw_p10 : lw_okq (⟨"LineMonitor$Reader", "readTerm", "()I"⟩, 13) := ⟨⟨by decide +kernel, by decide +kernel⟩, List.mem_of_getElem? (i := 137) (by decide +kernel), List.mem_of_getElem? (i := 483) (by decide +kernel), List.mem_of_getElem? (i := 484) (by decide +kernel)⟩
theorem lw_p11 : lw_okq (⟨"LineMonitor$Reader", "readNumber", "(I)I"⟩, 13) := ⟨⟨by decide +kernel, by decide +kernel⟩, List.mem_of_getElem? (i := 137) (by decide +kernel), List.mem_of_getElem? (i := 487) (by decide +kernel), List.mem_of_getElem? (i := 488) (by decide +kernel)⟩
theorem lw_p12 : lw_okq (⟨"LineMonitor$Reader", "readMarksAhead", "()V"⟩, 13) := ⟨⟨by decide +kernel, by decide +kernel⟩, List.mem_of_getElem? (i := 137) (by decide +kernel), List.mem_of_getElem? (i := 496) (by decide +kernel), List.mem_of_getElem? (i := 497) (by decide +kernel)⟩
theorem lw_p13 : lw_okq (⟨"LineMonitor$Reader", "readMarkBehind", "()V"⟩, 13) := ⟨⟨by decide +kernel, by decide +kernel⟩, List.mem_of_getElem? (i := 137) (by decide +kernel), List.mem_of_getElem? (i := 503) (by decide +kernel), List.mem_of_getElem? (i := 504) (by decide +kernel)⟩
theorem lw_p14 : lw_okq (⟨"LineMonitor$Reader", "hasMore", "()Z"⟩, 13) := ⟨⟨by decide +kernel, by decide +kernel⟩, List.mem_of_getElem? (i := 137) (by decide +kernel), List.mem_of_getElem? (i := 507) (by decide +kernel), List.mem_of_getElem? (i := 508) (by decide +kernel)⟩
theorem lw_p15 : lw_okq (⟨"LineMonitor$Assembler", "tellLabels", "()I"⟩, 11) := ⟨⟨by decide +kernel, by decide +kernel⟩, List.mem_of_getElem? (i := 42) (by decide +kernel), List.mem_of_getElem? (i := 511) (by decide +kernel), List.mem_of_getElem? (i := 512) (by decide +kernel)⟩
def lw_privs_1 : List (MethodName × Nat) := [(⟨"LineMonitor$Names", "addAll", "(Ljava/lang/String;[I)V"⟩, 3), (⟨"LineMonitor$Names", "add", "(JI)V"⟩, 3), (⟨"LineMonitor", "userAt", "(I)LLineMonitor$User;"⟩, 3), (⟨"LineMonitor$Reader", "behindBlanks", "(I)I"⟩, 13), (⟨"LineMonitor$Reader", "look", "(I)I"⟩, 13), (⟨"LineMonitor$Assembler", "doFirst", "(II)I"⟩, 11), (⟨"LineMonitor$Assembler", "skipLabels", "()V"⟩, 11), (⟨"LineMonitor$Reader", "behindWord", "(I)I"⟩, 13), (⟨"LineMonitor$Reader", "keyOf", "(II)J"⟩, 13), (⟨"LineMonitor$Reader", "readExpression", "()I"⟩, 13), (⟨"LineMonitor$Reader", "readTerm", "()I"⟩, 13), (⟨"LineMonitor$Reader", "readNumber", "(I)I"⟩, 13), (⟨"LineMonitor$Reader", "readMarksAhead", "()V"⟩, 13), (⟨"LineMonitor$Reader", "readMarkBehind", "()V"⟩, 13), (⟨"LineMonitor$Reader", "hasMore", "()Z"⟩, 13), (⟨"LineMonitor$Assembler", "tellLabels", "()I"⟩, 11)]
theorem lw_r1 : ∀ q ∈ lw_privs_1, lw_okq q := List.forall_mem_cons.mpr ⟨lw_p0, List.forall_mem_cons.mpr ⟨lw_p1, List.forall_mem_cons.mpr ⟨lw_p2, List.forall_mem_cons.mpr ⟨lw_p3, List.forall_mem_cons.mpr ⟨lw_p4, List.forall_mem_cons.mpr ⟨lw_p5, List.forall_mem_cons.mpr ⟨lw_p6, List.forall_mem_cons.mpr ⟨lw_p7, List.forall_mem_cons.mpr ⟨lw_p8, List.forall_mem_cons.mpr ⟨lw_p9, List.forall_mem_cons.mpr ⟨lw_p10, List.forall_mem_cons.mpr ⟨lw_p11, List.forall_mem_cons.mpr ⟨lw_p12, List.forall_mem_cons.mpr ⟨lw_p13, List.forall_mem_cons.mpr ⟨lw_p14, List.forall_mem_cons.mpr ⟨lw_p15, fun _ h => absurd h List.not_mem_nil⟩⟩⟩⟩⟩⟩⟩⟩⟩⟩⟩⟩⟩⟩⟩⟩
theorem lw_p16 : lw_okq (⟨"LineMonitor$Assembler", "doSecond", "()I"⟩, 11) := ⟨⟨by decide +kernel, by decide +kernel⟩, List.mem_of_getElem? (i := 42) (by decide +kernel), List.mem_of_getElem? (i := 519) (by decide +kernel), List.mem_of_getElem? (i := 520) (by decide +kernel)⟩
theorem lw_p17 : lw_okq (⟨"LineMonitor$Assembler", "putMemory", "()I"⟩, 11) := ⟨⟨by decide +kernel, by decide +kernel⟩, List.mem_of_getElem? (i := 42) (by decide +kernel), List.mem_of_getElem? (i := 523) (by decide +kernel), List.mem_of_getElem? (i := 524) (by decide +kernel)⟩
theorem lw_p18 : lw_okq (⟨"LineMonitor$Assembler", "literalFor", "(I)I"⟩, 11) := ⟨⟨by decide +kernel, by decide +kernel⟩, List.mem_of_getElem? (i := 42) (by decide +kernel), List.mem_of_getElem? (i := 527) (by decide +kernel), List.mem_of_getElem? (i := 528) (by decide +kernel)⟩
theorem lw_p19 : lw_okq (⟨"LineMonitor$Assembler", "put", "(II)Z"⟩, 11) := ⟨⟨by decide +kernel, by decide +kernel⟩, List.mem_of_getElem? (i := 42) (by decide +kernel), List.mem_of_getElem? (i := 531) (by decide +kernel), List.mem_of_getElem? (i := 532) (by decide +kernel)⟩
theorem lw_p20 : lw_okq (⟨"LineMonitor$Assembler", "putNext", "(I)I"⟩, 11) := ⟨⟨by decide +kernel, by decide +kernel⟩, List.mem_of_getElem? (i := 42) (by decide +kernel), List.mem_of_getElem? (i := 535) (by decide +kernel), List.mem_of_getElem? (i := 536) (by decide +kernel)⟩
theorem lw_p21 : lw_okq (⟨"LineMonitor$House", "swapIn", "(LLineMonitor$User;)V"⟩, 14) := ⟨⟨by decide +kernel, by decide +kernel⟩, List.mem_of_getElem? (i := 245) (by decide +kernel), List.mem_of_getElem? (i := 585) (by decide +kernel), List.mem_of_getElem? (i := 586) (by decide +kernel)⟩
theorem lw_p22 : lw_okq (⟨"LineMonitor$House", "doRunnersInstruction", "(LLineMonitor$User;)V"⟩, 14) := ⟨⟨by decide +kernel, by decide +kernel⟩, List.mem_of_getElem? (i := 245) (by decide +kernel), List.mem_of_getElem? (i := 605) (by decide +kernel), List.mem_of_getElem? (i := 606) (by decide +kernel)⟩
theorem lw_p23 : lw_okq (⟨"LineMonitor$User", "skip", "()V"⟩, 17) := ⟨⟨by decide +kernel, by decide +kernel⟩, List.mem_of_getElem? (i := 252) (by decide +kernel), List.mem_of_getElem? (i := 613) (by decide +kernel), List.mem_of_getElem? (i := 614) (by decide +kernel)⟩
theorem lw_p24 : lw_okq (⟨"LineMonitor$User", "refer", "(II)V"⟩, 17) := ⟨⟨by decide +kernel, by decide +kernel⟩, List.mem_of_getElem? (i := 252) (by decide +kernel), List.mem_of_getElem? (i := 617) (by decide +kernel), List.mem_of_getElem? (i := 618) (by decide +kernel)⟩
theorem lw_p25 : lw_okq (⟨"LineMonitor$User", "addressIn", "(II)I"⟩, 17) := ⟨⟨by decide +kernel, by decide +kernel⟩, List.mem_of_getElem? (i := 252) (by decide +kernel), List.mem_of_getElem? (i := 621) (by decide +kernel), List.mem_of_getElem? (i := 622) (by decide +kernel)⟩
theorem lw_p26 : lw_okq (⟨"LineMonitor$User", "add", "(I)V"⟩, 17) := ⟨⟨by decide +kernel, by decide +kernel⟩, List.mem_of_getElem? (i := 252) (by decide +kernel), List.mem_of_getElem? (i := 625) (by decide +kernel), List.mem_of_getElem? (i := 626) (by decide +kernel)⟩
theorem lw_p27 : lw_okq (⟨"LineMonitor$User", "useDevice", "(II)V"⟩, 17) := ⟨⟨by decide +kernel, by decide +kernel⟩, List.mem_of_getElem? (i := 252) (by decide +kernel), List.mem_of_getElem? (i := 629) (by decide +kernel), List.mem_of_getElem? (i := 630) (by decide +kernel)⟩
theorem lw_p28 : lw_okq (⟨"LineMonitor$User", "readKey", "(I)V"⟩, 17) := ⟨⟨by decide +kernel, by decide +kernel⟩, List.mem_of_getElem? (i := 252) (by decide +kernel), List.mem_of_getElem? (i := 633) (by decide +kernel), List.mem_of_getElem? (i := 634) (by decide +kernel)⟩
theorem lw_p29 : lw_okq (⟨"LineMonitor$User", "waitAt", "(II)V"⟩, 17) := ⟨⟨by decide +kernel, by decide +kernel⟩, List.mem_of_getElem? (i := 252) (by decide +kernel), List.mem_of_getElem? (i := 645) (by decide +kernel), List.mem_of_getElem? (i := 646) (by decide +kernel)⟩
theorem lw_p30 : lw_okq (⟨"LineMonitor$User", "fallAsleep", "()V"⟩, 17) := ⟨⟨by decide +kernel, by decide +kernel⟩, List.mem_of_getElem? (i := 252) (by decide +kernel), List.mem_of_getElem? (i := 650) (by decide +kernel), List.mem_of_getElem? (i := 651) (by decide +kernel)⟩
theorem lw_p31 : lw_okq (⟨"LineMonitor$User", "moveBlock", "(Z)V"⟩, 17) := ⟨⟨by decide +kernel, by decide +kernel⟩, List.mem_of_getElem? (i := 252) (by decide +kernel), List.mem_of_getElem? (i := 654) (by decide +kernel), List.mem_of_getElem? (i := 655) (by decide +kernel)⟩
def lw_privs_2 : List (MethodName × Nat) := [(⟨"LineMonitor$Assembler", "doSecond", "()I"⟩, 11), (⟨"LineMonitor$Assembler", "putMemory", "()I"⟩, 11), (⟨"LineMonitor$Assembler", "literalFor", "(I)I"⟩, 11), (⟨"LineMonitor$Assembler", "put", "(II)Z"⟩, 11), (⟨"LineMonitor$Assembler", "putNext", "(I)I"⟩, 11), (⟨"LineMonitor$House", "swapIn", "(LLineMonitor$User;)V"⟩, 14), (⟨"LineMonitor$House", "doRunnersInstruction", "(LLineMonitor$User;)V"⟩, 14), (⟨"LineMonitor$User", "skip", "()V"⟩, 17), (⟨"LineMonitor$User", "refer", "(II)V"⟩, 17), (⟨"LineMonitor$User", "addressIn", "(II)I"⟩, 17), (⟨"LineMonitor$User", "add", "(I)V"⟩, 17), (⟨"LineMonitor$User", "useDevice", "(II)V"⟩, 17), (⟨"LineMonitor$User", "readKey", "(I)V"⟩, 17), (⟨"LineMonitor$User", "waitAt", "(II)V"⟩, 17), (⟨"LineMonitor$User", "fallAsleep", "()V"⟩, 17), (⟨"LineMonitor$User", "moveBlock", "(Z)V"⟩, 17)]
theorem lw_r2 : ∀ q ∈ lw_privs_2, lw_okq q := List.forall_mem_cons.mpr ⟨lw_p16, List.forall_mem_cons.mpr ⟨lw_p17, List.forall_mem_cons.mpr ⟨lw_p18, List.forall_mem_cons.mpr ⟨lw_p19, List.forall_mem_cons.mpr ⟨lw_p20, List.forall_mem_cons.mpr ⟨lw_p21, List.forall_mem_cons.mpr ⟨lw_p22, List.forall_mem_cons.mpr ⟨lw_p23, List.forall_mem_cons.mpr ⟨lw_p24, List.forall_mem_cons.mpr ⟨lw_p25, List.forall_mem_cons.mpr ⟨lw_p26, List.forall_mem_cons.mpr ⟨lw_p27, List.forall_mem_cons.mpr ⟨lw_p28, List.forall_mem_cons.mpr ⟨lw_p29, List.forall_mem_cons.mpr ⟨lw_p30, List.forall_mem_cons.mpr ⟨lw_p31, fun _ h => absurd h List.not_mem_nil⟩⟩⟩⟩⟩⟩⟩⟩⟩⟩⟩⟩⟩⟩⟩⟩
theorem lw_p32 : lw_okq (⟨"LineMonitor$User", "operate", "(I)V"⟩, 17) := ⟨⟨by decide +kernel, by decide +kernel⟩, List.mem_of_getElem? (i := 252) (by decide +kernel), List.mem_of_getElem? (i := 658) (by decide +kernel), List.mem_of_getElem? (i := 659) (by decide +kernel)⟩
theorem lw_p33 : lw_okq (⟨"LineMonitor$User", "turn", "(II)V"⟩, 17) := ⟨⟨by decide +kernel, by decide +kernel⟩, List.mem_of_getElem? (i := 252) (by decide +kernel), List.mem_of_getElem? (i := 662) (by decide +kernel), List.mem_of_getElem? (i := 663) (by decide +kernel)⟩
theorem lw_p34 : lw_okq (⟨"LineMonitor$User", "test", "(I)V"⟩, 17) := ⟨⟨by decide +kernel, by decide +kernel⟩, List.mem_of_getElem? (i := 252) (by decide +kernel), List.mem_of_getElem? (i := 666) (by decide +kernel), List.mem_of_getElem? (i := 667) (by decide +kernel)⟩
theorem lw_p35 : lw_okq (⟨"LineMonitor$House", "tick", "()V"⟩, 14) := ⟨⟨by decide +kernel, by decide +kernel⟩, List.mem_of_getElem? (i := 245) (by decide +kernel), List.mem_of_getElem? (i := 670) (by decide +kernel), List.mem_of_getElem? (i := 671) (by decide +kernel)⟩
theorem lw_p36 : lw_okq (⟨"LineMonitor$House", "tickOf", "(LLineMonitor$User;)V"⟩, 14) := ⟨⟨by decide +kernel, by decide +kernel⟩, List.mem_of_getElem? (i := 245) (by decide +kernel), List.mem_of_getElem? (i := 674) (by decide +kernel), List.mem_of_getElem? (i := 675) (by decide +kernel)⟩
theorem lw_p37 : lw_okq (⟨"LineMonitor$House", "tickOfRunner", "(LLineMonitor$User;)V"⟩, 14) := ⟨⟨by decide +kernel, by decide +kernel⟩, List.mem_of_getElem? (i := 245) (by decide +kernel), List.mem_of_getElem? (i := 683) (by decide +kernel), List.mem_of_getElem? (i := 684) (by decide +kernel)⟩
theorem lw_p38 : lw_okq (⟨"LineMonitorModel", "three", "(IIII)V"⟩, 47) := ⟨⟨by decide +kernel, by decide +kernel⟩, List.mem_of_getElem? (i := 739) (by decide +kernel), List.mem_of_getElem? (i := 746) (by decide +kernel), List.mem_of_getElem? (i := 747) (by decide +kernel)⟩
theorem lw_p39 : lw_okq (⟨"LineMonitorModel", "lay", "(I)V"⟩, 47) := ⟨⟨by decide +kernel, by decide +kernel⟩, List.mem_of_getElem? (i := 739) (by decide +kernel), List.mem_of_getElem? (i := 910) (by decide +kernel), List.mem_of_getElem? (i := 911) (by decide +kernel)⟩
theorem lw_p40 : lw_okq (⟨"LineMonitorModel", "isUser", "(I)Z"⟩, 47) := ⟨⟨by decide +kernel, by decide +kernel⟩, List.mem_of_getElem? (i := 739) (by decide +kernel), List.mem_of_getElem? (i := 926) (by decide +kernel), List.mem_of_getElem? (i := 927) (by decide +kernel)⟩
theorem lw_p41 : lw_okq (⟨"LineMonitorModel", "set", "(III)V"⟩, 47) := ⟨⟨by decide +kernel, by decide +kernel⟩, List.mem_of_getElem? (i := 739) (by decide +kernel), List.mem_of_getElem? (i := 930) (by decide +kernel), List.mem_of_getElem? (i := 931) (by decide +kernel)⟩
theorem lw_p42 : lw_okq (⟨"LineMonitorModel", "get", "(II)I"⟩, 47) := ⟨⟨by decide +kernel, by decide +kernel⟩, List.mem_of_getElem? (i := 739) (by decide +kernel), List.mem_of_getElem? (i := 938) (by decide +kernel), List.mem_of_getElem? (i := 939) (by decide +kernel)⟩
theorem lw_p43 : lw_okq (⟨"LineMonitorModel", "isPlace", "(III)Z"⟩, 47) := ⟨⟨by decide +kernel, by decide +kernel⟩, List.mem_of_getElem? (i := 739) (by decide +kernel), List.mem_of_getElem? (i := 946) (by decide +kernel), List.mem_of_getElem? (i := 947) (by decide +kernel)⟩
theorem lw_p44 : lw_okq (⟨"LineMonitorModel", "ready", "(I)V"⟩, 47) := ⟨⟨by decide +kernel, by decide +kernel⟩, List.mem_of_getElem? (i := 739) (by decide +kernel), List.mem_of_getElem? (i := 962) (by decide +kernel), List.mem_of_getElem? (i := 963) (by decide +kernel)⟩
theorem lw_p45 : lw_okq (⟨"LineMonitorModel", "dispatch", "()V"⟩, 47) := ⟨⟨by decide +kernel, by decide +kernel⟩, List.mem_of_getElem? (i := 739) (by decide +kernel), List.mem_of_getElem? (i := 966) (by decide +kernel), List.mem_of_getElem? (i := 967) (by decide +kernel)⟩
theorem lw_p46 : lw_okq (⟨"LineMonitorModel", "step", "()V"⟩, 47) := ⟨⟨by decide +kernel, by decide +kernel⟩, List.mem_of_getElem? (i := 739) (by decide +kernel), List.mem_of_getElem? (i := 978) (by decide +kernel), List.mem_of_getElem? (i := 979) (by decide +kernel)⟩
theorem lw_p47 : lw_okq (⟨"LineMonitorModel", "doInstruction", "(I)V"⟩, 47) := ⟨⟨by decide +kernel, by decide +kernel⟩, List.mem_of_getElem? (i := 739) (by decide +kernel), List.mem_of_getElem? (i := 982) (by decide +kernel), List.mem_of_getElem? (i := 983) (by decide +kernel)⟩
def lw_privs_3 : List (MethodName × Nat) := [(⟨"LineMonitor$User", "operate", "(I)V"⟩, 17), (⟨"LineMonitor$User", "turn", "(II)V"⟩, 17), (⟨"LineMonitor$User", "test", "(I)V"⟩, 17), (⟨"LineMonitor$House", "tick", "()V"⟩, 14), (⟨"LineMonitor$House", "tickOf", "(LLineMonitor$User;)V"⟩, 14), (⟨"LineMonitor$House", "tickOfRunner", "(LLineMonitor$User;)V"⟩, 14), (⟨"LineMonitorModel", "three", "(IIII)V"⟩, 47), (⟨"LineMonitorModel", "lay", "(I)V"⟩, 47), (⟨"LineMonitorModel", "isUser", "(I)Z"⟩, 47), (⟨"LineMonitorModel", "set", "(III)V"⟩, 47), (⟨"LineMonitorModel", "get", "(II)I"⟩, 47), (⟨"LineMonitorModel", "isPlace", "(III)Z"⟩, 47), (⟨"LineMonitorModel", "ready", "(I)V"⟩, 47), (⟨"LineMonitorModel", "dispatch", "()V"⟩, 47), (⟨"LineMonitorModel", "step", "()V"⟩, 47), (⟨"LineMonitorModel", "doInstruction", "(I)V"⟩, 47)]
theorem lw_r3 : ∀ q ∈ lw_privs_3, lw_okq q := List.forall_mem_cons.mpr ⟨lw_p32, List.forall_mem_cons.mpr ⟨lw_p33, List.forall_mem_cons.mpr ⟨lw_p34, List.forall_mem_cons.mpr ⟨lw_p35, List.forall_mem_cons.mpr ⟨lw_p36, List.forall_mem_cons.mpr ⟨lw_p37, List.forall_mem_cons.mpr ⟨lw_p38, List.forall_mem_cons.mpr ⟨lw_p39, List.forall_mem_cons.mpr ⟨lw_p40, List.forall_mem_cons.mpr ⟨lw_p41, List.forall_mem_cons.mpr ⟨lw_p42, List.forall_mem_cons.mpr ⟨lw_p43, List.forall_mem_cons.mpr ⟨lw_p44, List.forall_mem_cons.mpr ⟨lw_p45, List.forall_mem_cons.mpr ⟨lw_p46, List.forall_mem_cons.mpr ⟨lw_p47, fun _ h => absurd h List.not_mem_nil⟩⟩⟩⟩⟩⟩⟩⟩⟩⟩⟩⟩⟩⟩⟩⟩
theorem lw_p48 : lw_okq (⟨"LineMonitorModel", "memory", "(III)V"⟩, 47) := ⟨⟨by decide +kernel, by decide +kernel⟩, List.mem_of_getElem? (i := 739) (by decide +kernel), List.mem_of_getElem? (i := 986) (by decide +kernel), List.mem_of_getElem? (i := 987) (by decide +kernel)⟩
theorem lw_p49 : lw_okq (⟨"LineMonitorModel", "sum", "(II)V"⟩, 47) := ⟨⟨by decide +kernel, by decide +kernel⟩, List.mem_of_getElem? (i := 739) (by decide +kernel), List.mem_of_getElem? (i := 990) (by decide +kernel), List.mem_of_getElem? (i := 991) (by decide +kernel)⟩
theorem lw_p50 : lw_okq (⟨"LineMonitorModel", "skip", "(IZ)V"⟩, 47) := ⟨⟨by decide +kernel, by decide +kernel⟩, List.mem_of_getElem? (i := 739) (by decide +kernel), List.mem_of_getElem? (i := 994) (by decide +kernel), List.mem_of_getElem? (i := 995) (by decide +kernel)⟩
theorem lw_p51 : lw_okq (⟨"LineMonitorModel", "device", "(III)V"⟩, 47) := ⟨⟨by decide +kernel, by decide +kernel⟩, List.mem_of_getElem? (i := 739) (by decide +kernel), List.mem_of_getElem? (i := 998) (by decide +kernel), List.mem_of_getElem? (i := 999) (by decide +kernel)⟩
theorem lw_p52 : lw_okq (⟨"LineMonitorModel", "leave", "(II)V"⟩, 47) := ⟨⟨by decide +kernel, by decide +kernel⟩, List.mem_of_getElem? (i := 739) (by decide +kernel), List.mem_of_getElem? (i := 1002) (by decide +kernel), List.mem_of_getElem? (i := 1003) (by decide +kernel)⟩
theorem lw_p53 : lw_okq (⟨"LineMonitorModel", "transfer", "(IZ)V"⟩, 47) := ⟨⟨by decide +kernel, by decide +kernel⟩, List.mem_of_getElem? (i := 739) (by decide +kernel), List.mem_of_getElem? (i := 1009) (by decide +kernel), List.mem_of_getElem? (i := 1010) (by decide +kernel)⟩
theorem lw_p54 : lw_okq (⟨"LineMonitorModel", "turns", "(II)V"⟩, 47) := ⟨⟨by decide +kernel, by decide +kernel⟩, List.mem_of_getElem? (i := 739) (by decide +kernel), List.mem_of_getElem? (i := 1013) (by decide +kernel), List.mem_of_getElem? (i := 1014) (by decide +kernel)⟩
theorem lw_p55 : lw_okq (⟨"LineMonitorModel", "skips", "(II)V"⟩, 47) := ⟨⟨by decide +kernel, by decide +kernel⟩, List.mem_of_getElem? (i := 739) (by decide +kernel), List.mem_of_getElem? (i := 1017) (by decide +kernel), List.mem_of_getElem? (i := 1018) (by decide +kernel)⟩
theorem lw_p56 : lw_okq (⟨"LineMonitorModel", "tick", "()V"⟩, 47) := ⟨⟨by decide +kernel, by decide +kernel⟩, List.mem_of_getElem? (i := 739) (by decide +kernel), List.mem_of_getElem? (i := 1021) (by decide +kernel), List.mem_of_getElem? (i := 1022) (by decide +kernel)⟩
theorem lw_p57 : lw_okq (⟨"LineMonitorModel", "passes", "(I)Z"⟩, 47) := ⟨⟨by decide +kernel, by decide +kernel⟩, List.mem_of_getElem? (i := 739) (by decide +kernel), List.mem_of_getElem? (i := 1061) (by decide +kernel), List.mem_of_getElem? (i := 1062) (by decide +kernel)⟩
theorem lw_p58 : lw_okq (⟨"LineMonitorModel", "lineIn", "(III)I"⟩, 47) := ⟨⟨by decide +kernel, by decide +kernel⟩, List.mem_of_getElem? (i := 739) (by decide +kernel), List.mem_of_getElem? (i := 1065) (by decide +kernel), List.mem_of_getElem? (i := 1066) (by decide +kernel)⟩
theorem lw_p59 : lw_okq (⟨"LineMonitorModel", "statement", "(III)I"⟩, 47) := ⟨⟨by decide +kernel, by decide +kernel⟩, List.mem_of_getElem? (i := 739) (by decide +kernel), List.mem_of_getElem? (i := 1069) (by decide +kernel), List.mem_of_getElem? (i := 1070) (by decide +kernel)⟩
theorem lw_p60 : lw_okq (⟨"LineMonitorModel", "secondPass", "()I"⟩, 47) := ⟨⟨by decide +kernel, by decide +kernel⟩, List.mem_of_getElem? (i := 739) (by decide +kernel), List.mem_of_getElem? (i := 1073) (by decide +kernel), List.mem_of_getElem? (i := 1074) (by decide +kernel)⟩
theorem lw_p61 : lw_okq (⟨"LineMonitorModel", "blanks", "()V"⟩, 47) := ⟨⟨by decide +kernel, by decide +kernel⟩, List.mem_of_getElem? (i := 739) (by decide +kernel), List.mem_of_getElem? (i := 1077) (by decide +kernel), List.mem_of_getElem? (i := 1078) (by decide +kernel)⟩
theorem lw_p62 : lw_okq (⟨"LineMonitorModel", "isLabel", "()Z"⟩, 47) := ⟨⟨by decide +kernel, by decide +kernel⟩, List.mem_of_getElem? (i := 739) (by decide +kernel), List.mem_of_getElem? (i := 1081) (by decide +kernel), List.mem_of_getElem? (i := 1082) (by decide +kernel)⟩
theorem lw_p63 : lw_okq (⟨"LineMonitorModel", "isName", "(I)Z"⟩, 47) := ⟨⟨by decide +kernel, by decide +kernel⟩, List.mem_of_getElem? (i := 739) (by decide +kernel), List.mem_of_getElem? (i := 1085) (by decide +kernel), List.mem_of_getElem? (i := 1086) (by decide +kernel)⟩
def lw_privs_4 : List (MethodName × Nat) := [(⟨"LineMonitorModel", "memory", "(III)V"⟩, 47), (⟨"LineMonitorModel", "sum", "(II)V"⟩, 47), (⟨"LineMonitorModel", "skip", "(IZ)V"⟩, 47), (⟨"LineMonitorModel", "device", "(III)V"⟩, 47), (⟨"LineMonitorModel", "leave", "(II)V"⟩, 47), (⟨"LineMonitorModel", "transfer", "(IZ)V"⟩, 47), (⟨"LineMonitorModel", "turns", "(II)V"⟩, 47), (⟨"LineMonitorModel", "skips", "(II)V"⟩, 47), (⟨"LineMonitorModel", "tick", "()V"⟩, 47), (⟨"LineMonitorModel", "passes", "(I)Z"⟩, 47), (⟨"LineMonitorModel", "lineIn", "(III)I"⟩, 47), (⟨"LineMonitorModel", "statement", "(III)I"⟩, 47), (⟨"LineMonitorModel", "secondPass", "()I"⟩, 47), (⟨"LineMonitorModel", "blanks", "()V"⟩, 47), (⟨"LineMonitorModel", "isLabel", "()Z"⟩, 47), (⟨"LineMonitorModel", "isName", "(I)Z"⟩, 47)]
theorem lw_r4 : ∀ q ∈ lw_privs_4, lw_okq q := List.forall_mem_cons.mpr ⟨lw_p48, List.forall_mem_cons.mpr ⟨lw_p49, List.forall_mem_cons.mpr ⟨lw_p50, List.forall_mem_cons.mpr ⟨lw_p51, List.forall_mem_cons.mpr ⟨lw_p52, List.forall_mem_cons.mpr ⟨lw_p53, List.forall_mem_cons.mpr ⟨lw_p54, List.forall_mem_cons.mpr ⟨lw_p55, List.forall_mem_cons.mpr ⟨lw_p56, List.forall_mem_cons.mpr ⟨lw_p57, List.forall_mem_cons.mpr ⟨lw_p58, List.forall_mem_cons.mpr ⟨lw_p59, List.forall_mem_cons.mpr ⟨lw_p60, List.forall_mem_cons.mpr ⟨lw_p61, List.forall_mem_cons.mpr ⟨lw_p62, List.forall_mem_cons.mpr ⟨lw_p63, fun _ h => absurd h List.not_mem_nil⟩⟩⟩⟩⟩⟩⟩⟩⟩⟩⟩⟩⟩⟩⟩⟩
theorem lw_p64 : lw_okq (⟨"LineMonitorModel", "look", "(I)I"⟩, 47) := ⟨⟨by decide +kernel, by decide +kernel⟩, List.mem_of_getElem? (i := 739) (by decide +kernel), List.mem_of_getElem? (i := 1089) (by decide +kernel), List.mem_of_getElem? (i := 1090) (by decide +kernel)⟩
theorem lw_p65 : lw_okq (⟨"LineMonitorModel", "wordEnd", "(I)I"⟩, 47) := ⟨⟨by decide +kernel, by decide +kernel⟩, List.mem_of_getElem? (i := 739) (by decide +kernel), List.mem_of_getElem? (i := 1093) (by decide +kernel), List.mem_of_getElem? (i := 1094) (by decide +kernel)⟩
theorem lw_p66 : lw_okq (⟨"LineMonitorModel", "isTelling", "()Z"⟩, 47) := ⟨⟨by decide +kernel, by decide +kernel⟩, List.mem_of_getElem? (i := 739) (by decide +kernel), List.mem_of_getElem? (i := 1100) (by decide +kernel), List.mem_of_getElem? (i := 1101) (by decide +kernel)⟩
theorem lw_p67 : lw_okq (⟨"LineMonitorModel", "expression", "()Z"⟩, 47) := ⟨⟨by decide +kernel, by decide +kernel⟩, List.mem_of_getElem? (i := 739) (by decide +kernel), List.mem_of_getElem? (i := 1104) (by decide +kernel), List.mem_of_getElem? (i := 1105) (by decide +kernel)⟩
theorem lw_p68 : lw_okq (⟨"LineMonitorModel", "term", "(I)Z"⟩, 47) := ⟨⟨by decide +kernel, by decide +kernel⟩, List.mem_of_getElem? (i := 739) (by decide +kernel), List.mem_of_getElem? (i := 1108) (by decide +kernel), List.mem_of_getElem? (i := 1109) (by decide +kernel)⟩
theorem lw_p69 : lw_okq (⟨"LineMonitorModel", "nameAt", "(I)J"⟩, 47) := ⟨⟨by decide +kernel, by decide +kernel⟩, List.mem_of_getElem? (i := 739) (by decide +kernel), List.mem_of_getElem? (i := 1112) (by decide +kernel), List.mem_of_getElem? (i := 1113) (by decide +kernel)⟩
theorem lw_p70 : lw_okq (⟨"LineMonitorModel", "find", "(J)I"⟩, 47) := ⟨⟨by decide +kernel, by decide +kernel⟩, List.mem_of_getElem? (i := 739) (by decide +kernel), List.mem_of_getElem? (i := 1116) (by decide +kernel), List.mem_of_getElem? (i := 1117) (by decide +kernel)⟩
theorem lw_p71 : lw_okq (⟨"LineMonitorModel", "memoryAt", "(I)I"⟩, 47) := ⟨⟨by decide +kernel, by decide +kernel⟩, List.mem_of_getElem? (i := 739) (by decide +kernel), List.mem_of_getElem? (i := 1120) (by decide +kernel), List.mem_of_getElem? (i := 1121) (by decide +kernel)⟩
theorem lw_p72 : lw_okq (⟨"LineMonitorModel", "memoryWord", "(I)I"⟩, 47) := ⟨⟨by decide +kernel, by decide +kernel⟩, List.mem_of_getElem? (i := 739) (by decide +kernel), List.mem_of_getElem? (i := 1124) (by decide +kernel), List.mem_of_getElem? (i := 1125) (by decide +kernel)⟩
theorem lw_p73 : lw_okq (⟨"LineMonitorModel", "isBy", "()Z"⟩, 47) := ⟨⟨by decide +kernel, by decide +kernel⟩, List.mem_of_getElem? (i := 739) (by decide +kernel), List.mem_of_getElem? (i := 1128) (by decide +kernel), List.mem_of_getElem? (i := 1129) (by decide +kernel)⟩
theorem lw_p74 : lw_okq (⟨"LineMonitorModel", "literalFor", "(I)I"⟩, 47) := ⟨⟨by decide +kernel, by decide +kernel⟩, List.mem_of_getElem? (i := 739) (by decide +kernel), List.mem_of_getElem? (i := 1132) (by decide +kernel), List.mem_of_getElem? (i := 1133) (by decide +kernel)⟩
theorem lw_p75 : lw_okq (⟨"LineMonitorModel", "comesTo", "(IIZ)I"⟩, 47) := ⟨⟨by decide +kernel, by decide +kernel⟩, List.mem_of_getElem? (i := 739) (by decide +kernel), List.mem_of_getElem? (i := 1136) (by decide +kernel), List.mem_of_getElem? (i := 1137) (by decide +kernel)⟩
theorem lw_p76 : lw_okq (⟨"LineMonitorModel", "rowWord", "()I"⟩, 47) := ⟨⟨by decide +kernel, by decide +kernel⟩, List.mem_of_getElem? (i := 739) (by decide +kernel), List.mem_of_getElem? (i := 1140) (by decide +kernel), List.mem_of_getElem? (i := 1141) (by decide +kernel)⟩
theorem lw_p77 : lw_okq (⟨"LineMonitorModel", "isRight", "()Z"⟩, 47) := ⟨⟨by decide +kernel, by decide +kernel⟩, List.mem_of_getElem? (i := 739) (by decide +kernel), List.mem_of_getElem? (i := 1144) (by decide +kernel), List.mem_of_getElem? (i := 1145) (by decide +kernel)⟩
theorem lw_p78 : lw_okq (⟨"LineMonitorModel", "ends", "()Z"⟩, 47) := ⟨⟨by decide +kernel, by decide +kernel⟩, List.mem_of_getElem? (i := 739) (by decide +kernel), List.mem_of_getElem? (i := 1148) (by decide +kernel), List.mem_of_getElem? (i := 1149) (by decide +kernel)⟩
theorem lw_p79 : lw_okq (⟨"LineMonitorModel", "isRightMemory", "()Z"⟩, 47) := ⟨⟨by decide +kernel, by decide +kernel⟩, List.mem_of_getElem? (i := 739) (by decide +kernel), List.mem_of_getElem? (i := 1152) (by decide +kernel), List.mem_of_getElem? (i := 1153) (by decide +kernel)⟩
def lw_privs_5 : List (MethodName × Nat) := [(⟨"LineMonitorModel", "look", "(I)I"⟩, 47), (⟨"LineMonitorModel", "wordEnd", "(I)I"⟩, 47), (⟨"LineMonitorModel", "isTelling", "()Z"⟩, 47), (⟨"LineMonitorModel", "expression", "()Z"⟩, 47), (⟨"LineMonitorModel", "term", "(I)Z"⟩, 47), (⟨"LineMonitorModel", "nameAt", "(I)J"⟩, 47), (⟨"LineMonitorModel", "find", "(J)I"⟩, 47), (⟨"LineMonitorModel", "memoryAt", "(I)I"⟩, 47), (⟨"LineMonitorModel", "memoryWord", "(I)I"⟩, 47), (⟨"LineMonitorModel", "isBy", "()Z"⟩, 47), (⟨"LineMonitorModel", "literalFor", "(I)I"⟩, 47), (⟨"LineMonitorModel", "comesTo", "(IIZ)I"⟩, 47), (⟨"LineMonitorModel", "rowWord", "()I"⟩, 47), (⟨"LineMonitorModel", "isRight", "()Z"⟩, 47), (⟨"LineMonitorModel", "ends", "()Z"⟩, 47), (⟨"LineMonitorModel", "isRightMemory", "()Z"⟩, 47)]
theorem lw_r5 : ∀ q ∈ lw_privs_5, lw_okq q := List.forall_mem_cons.mpr ⟨lw_p64, List.forall_mem_cons.mpr ⟨lw_p65, List.forall_mem_cons.mpr ⟨lw_p66, List.forall_mem_cons.mpr ⟨lw_p67, List.forall_mem_cons.mpr ⟨lw_p68, List.forall_mem_cons.mpr ⟨lw_p69, List.forall_mem_cons.mpr ⟨lw_p70, List.forall_mem_cons.mpr ⟨lw_p71, List.forall_mem_cons.mpr ⟨lw_p72, List.forall_mem_cons.mpr ⟨lw_p73, List.forall_mem_cons.mpr ⟨lw_p74, List.forall_mem_cons.mpr ⟨lw_p75, List.forall_mem_cons.mpr ⟨lw_p76, List.forall_mem_cons.mpr ⟨lw_p77, List.forall_mem_cons.mpr ⟨lw_p78, List.forall_mem_cons.mpr ⟨lw_p79, fun _ h => absurd h List.not_mem_nil⟩⟩⟩⟩⟩⟩⟩⟩⟩⟩⟩⟩⟩⟩⟩⟩
theorem lw_p80 : lw_okq (⟨"LineMonitorModel", "isRightRow", "()Z"⟩, 47) := ⟨⟨by decide +kernel, by decide +kernel⟩, List.mem_of_getElem? (i := 739) (by decide +kernel), List.mem_of_getElem? (i := 1156) (by decide +kernel), List.mem_of_getElem? (i := 1157) (by decide +kernel)⟩
theorem lw_p81 : lw_okq (⟨"LineMonitorModel", "firstPass", "()I"⟩, 47) := ⟨⟨by decide +kernel, by decide +kernel⟩, List.mem_of_getElem? (i := 739) (by decide +kernel), List.mem_of_getElem? (i := 1160) (by decide +kernel), List.mem_of_getElem? (i := 1161) (by decide +kernel)⟩
theorem lw_p82 : lw_okq (⟨"LineMonitorModel", "tell", "(JI)I"⟩, 47) := ⟨⟨by decide +kernel, by decide +kernel⟩, List.mem_of_getElem? (i := 739) (by decide +kernel), List.mem_of_getElem? (i := 1164) (by decide +kernel), List.mem_of_getElem? (i := 1165) (by decide +kernel)⟩
def lw_privs_6 : List (MethodName × Nat) := [(⟨"LineMonitorModel", "isRightRow", "()Z"⟩, 47), (⟨"LineMonitorModel", "firstPass", "()I"⟩, 47), (⟨"LineMonitorModel", "tell", "(JI)I"⟩, 47)]
theorem lw_r6 : ∀ q ∈ lw_privs_6, lw_okq q := List.forall_mem_cons.mpr ⟨lw_p80, List.forall_mem_cons.mpr ⟨lw_p81, List.forall_mem_cons.mpr ⟨lw_p82, fun _ h => absurd h List.not_mem_nil⟩⟩⟩
def lw_privs : List (MethodName × Nat) := lw_privs_1 ++ (lw_privs_2 ++ (lw_privs_3 ++ (lw_privs_4 ++ (lw_privs_5 ++ (lw_privs_6)))))
def lw_tbl : List Cond := k2_sels lw_privs ++ tables_1
theorem lw_privs_ok : ∀ q ∈ lw_privs, lw_okq q := by
  show ∀ q ∈ lw_privs_1 ++ (lw_privs_2 ++ (lw_privs_3 ++ (lw_privs_4 ++ (lw_privs_5 ++ (lw_privs_6))))), lw_okq q
  exact List.forall_mem_append.mpr ⟨lw_r1, List.forall_mem_append.mpr ⟨lw_r2, List.forall_mem_append.mpr ⟨lw_r3, List.forall_mem_append.mpr ⟨lw_r4, List.forall_mem_append.mpr ⟨lw_r5, lw_r6⟩⟩⟩⟩⟩

def RX0 : String := "LineMonitor$Assembler"
def TX0 : u_T := fun k => match k with
  | 0 => ("LineMonitor$Assembler", "tape", "LLineMonitor$Tape;", true)
  | 1 => ("LineMonitor$Assembler", "names", "LLineMonitor$Names;", true)
  | 2 => ("LineMonitor$Assembler", "reader", "LLineMonitor$Reader;", true)
  | 3 => ("LineMonitor$Assembler", "words", "[I", true)
  | 4 => ("LineMonitor$Assembler", "isPut", "[Z", true)
  | 5 => ("LineMonitor$Assembler", "places", "[I", true)
  | 6 => ("LineMonitor$Assembler", "placed", "I", false)
  | 7 => ("LineMonitor$Assembler", "literals", "[I", true)
  | 8 => ("LineMonitor$Assembler", "dot", "I", false)
  | 9 => ("LineMonitor$Assembler", "fault", "I", false)
  | _ => ("LineMonitor$Assembler", "faultLine", "I", false)
def tyX0 : Nat → FieldType := fun k => match k with
  | 0 => .object "LineMonitor$Tape"
  | 1 => .object "LineMonitor$Names"
  | 2 => .object "LineMonitor$Reader"
  | 3 => .array .int
  | 4 => .array .boolean
  | 5 => .array .int
  | 6 => .int
  | 7 => .array .int
  | 8 => .int
  | 9 => .int
  | _ => .int
theorem nmX0 : ∀ a, a < 11 → ∀ b, b < 11 → a ≠ b → (TX0 a).2.1 ≠ (TX0 b).2.1 := by decide +kernel
theorem tyX0_ok : ∀ k, k < 11 → parseFieldDescriptor (TX0 k).2.2.1 = some (tyX0 k) := by decide +kernel
abbrev cX0_init : ByteArray := prog_2_method_1_code
def yX0_init : MethodName := ⟨RX0, "<init>", "(LLineMonitor$Tape;)V"⟩
abbrev cX0_begin : ByteArray := prog_2_method_2_code
def yX0_begin : MethodName := ⟨RX0, "begin", "()V"⟩
abbrev cX0_goOver : ByteArray := prog_2_method_3_code
def yX0_goOver : MethodName := ⟨RX0, "goOver", "(Z)V"⟩
abbrev cX0_doFirst : ByteArray := prog_2_method_4_code
def yX0_doFirst : MethodName := ⟨RX0, "doFirst", "(II)I"⟩
abbrev cX0_skipLabels : ByteArray := prog_2_method_5_code
def yX0_skipLabels : MethodName := ⟨RX0, "skipLabels", "()V"⟩
abbrev cX0_tellLabels : ByteArray := prog_2_method_6_code
def yX0_tellLabels : MethodName := ⟨RX0, "tellLabels", "()I"⟩
abbrev cX0_doSecond : ByteArray := prog_2_method_7_code
def yX0_doSecond : MethodName := ⟨RX0, "doSecond", "()I"⟩
abbrev cX0_putMemory : ByteArray := prog_2_method_8_code
def yX0_putMemory : MethodName := ⟨RX0, "putMemory", "()I"⟩
abbrev cX0_literalFor : ByteArray := prog_2_method_9_code
def yX0_literalFor : MethodName := ⟨RX0, "literalFor", "(I)I"⟩
abbrev cX0_putNext : ByteArray := prog_2_method_10_code
def yX0_putNext : MethodName := ⟨RX0, "putNext", "(I)I"⟩
abbrev cX0_put : ByteArray := prog_2_method_11_code
def yX0_put : MethodName := ⟨RX0, "put", "(II)Z"⟩
abbrev cX0_deliver : ByteArray := prog_2_method_12_code
def yX0_deliver : MethodName := ⟨RX0, "deliver", "([I)I"⟩
def RX1 : String := "LineMonitor$House"
def TX1 : u_T := fun k => match k with
  | 0 => ("LineMonitor$House", "users", "[LLineMonitor$User;", true)
  | 1 => ("LineMonitor$House", "fields", "I", true)
  | 2 => ("LineMonitor$House", "quantum", "I", true)
  | 3 => ("LineMonitor$House", "beat", "I", true)
  | 4 => ("LineMonitor$House", "row", "[LLineMonitor$User;", true)
  | 5 => ("LineMonitor$House", "rowSize", "I", false)
  | 6 => ("LineMonitor$House", "inField", "[LLineMonitor$User;", true)
  | 7 => ("LineMonitor$House", "turn", "I", false)
  | 8 => ("LineMonitor$House", "runner", "LLineMonitor$User;", false)
  | 9 => ("LineMonitor$House", "steps", "I", false)
  | 10 => ("LineMonitor$House", "stepsSinceTick", "I", false)
  | 11 => ("LineMonitor$House", "ticks", "I", false)
  | 12 => ("LineMonitor$House", "swaps", "I", false)
  | _ => ("LineMonitor$House", "idle", "I", false)
def tyX1 : Nat → FieldType := fun k => match k with
  | 0 => .array (.object "LineMonitor$User")
  | 1 => .int
  | 2 => .int
  | 3 => .int
  | 4 => .array (.object "LineMonitor$User")
  | 5 => .int
  | 6 => .array (.object "LineMonitor$User")
  | 7 => .int
  | 8 => .object "LineMonitor$User"
  | 9 => .int
  | 10 => .int
  | 11 => .int
  | 12 => .int
  | _ => .int
theorem nmX1 : ∀ a, a < 14 → ∀ b, b < 14 → a ≠ b → (TX1 a).2.1 ≠ (TX1 b).2.1 := by decide +kernel
theorem tyX1_ok : ∀ k, k < 14 → parseFieldDescriptor (TX1 k).2.2.1 = some (tyX1 k) := by decide +kernel
abbrev cX1_init : ByteArray := prog_3_method_1_code
def yX1_init : MethodName := ⟨RX1, "<init>", "(IIII)V"⟩
abbrev cX1_makeReady : ByteArray := prog_3_method_2_code
def yX1_makeReady : MethodName := ⟨RX1, "makeReady", "(LLineMonitor$User;)V"⟩
abbrev cX1_choose : ByteArray := prog_3_method_3_code
def yX1_choose : MethodName := ⟨RX1, "choose", "()V"⟩
abbrev cX1_swapIn : ByteArray := prog_3_method_4_code
def yX1_swapIn : MethodName := ⟨RX1, "swapIn", "(LLineMonitor$User;)V"⟩
abbrev cX1_step : ByteArray := prog_3_method_5_code
def yX1_step : MethodName := ⟨RX1, "step", "()Z"⟩
abbrev cX1_doRunnersInstruction : ByteArray := prog_3_method_6_code
def yX1_doRunnersInstruction : MethodName := ⟨RX1, "doRunnersInstruction", "(LLineMonitor$User;)V"⟩
abbrev cX1_tick : ByteArray := prog_3_method_7_code
def yX1_tick : MethodName := ⟨RX1, "tick", "()V"⟩
abbrev cX1_tickOf : ByteArray := prog_3_method_8_code
def yX1_tickOf : MethodName := ⟨RX1, "tickOf", "(LLineMonitor$User;)V"⟩
abbrev cX1_tickOfRunner : ByteArray := prog_3_method_9_code
def yX1_tickOfRunner : MethodName := ⟨RX1, "tickOfRunner", "(LLineMonitor$User;)V"⟩
abbrev cX1_inRow : ByteArray := prog_3_method_10_code
def yX1_inRow : MethodName := ⟨RX1, "inRow", "(I)I"⟩
abbrev cX1_tell : ByteArray := prog_3_method_11_code
def yX1_tell : MethodName := ⟨RX1, "tell", "(I)I"⟩
def RX2 : String := "LineMonitor$Letters"
def TX2 : u_T := fun k => match k with
  | 0 => ("LineMonitor$Letters", "ring", "[I", true)
  | 1 => ("LineMonitor$Letters", "first", "I", false)
  | _ => ("LineMonitor$Letters", "size", "I", false)
def tyX2 : Nat → FieldType := fun k => match k with
  | 0 => .array .int
  | 1 => .int
  | _ => .int
theorem nmX2 : ∀ a, a < 3 → ∀ b, b < 3 → a ≠ b → (TX2 a).2.1 ≠ (TX2 b).2.1 := by decide +kernel
theorem tyX2_ok : ∀ k, k < 3 → parseFieldDescriptor (TX2 k).2.2.1 = some (tyX2 k) := by decide +kernel
abbrev cX2_init : ByteArray := prog_4_method_1_code
def yX2_init : MethodName := ⟨RX2, "<init>", "()V"⟩
abbrev cX2_add : ByteArray := prog_4_method_2_code
def yX2_add : MethodName := ⟨RX2, "add", "(I)Z"⟩
abbrev cX2_take : ByteArray := prog_4_method_3_code
def yX2_take : MethodName := ⟨RX2, "take", "()I"⟩
abbrev cX2_at : ByteArray := prog_4_method_4_code
def yX2_at : MethodName := ⟨RX2, "at", "(I)I"⟩
def RX3 : String := "LineMonitor$Names"
def TX3 : u_T := fun k => match k with
  | 0 => ("LineMonitor$Names", "keys", "[J", true)
  | 1 => ("LineMonitor$Names", "values", "[I", true)
  | _ => ("LineMonitor$Names", "count", "I", false)
def tyX3 : Nat → FieldType := fun k => match k with
  | 0 => .array .long
  | 1 => .array .int
  | _ => .int
theorem nmX3 : ∀ a, a < 3 → ∀ b, b < 3 → a ≠ b → (TX3 a).2.1 ≠ (TX3 b).2.1 := by decide +kernel
theorem tyX3_ok : ∀ k, k < 3 → parseFieldDescriptor (TX3 k).2.2.1 = some (tyX3 k) := by decide +kernel
abbrev cX3_init : ByteArray := prog_5_method_1_code
def yX3_init : MethodName := ⟨RX3, "<init>", "()V"⟩
abbrev cX3_addAll : ByteArray := prog_5_method_2_code
def yX3_addAll : MethodName := ⟨RX3, "addAll", "(Ljava/lang/String;[I)V"⟩
abbrev cX3_longer : ByteArray := prog_5_method_3_code
def yX3_longer : MethodName := ⟨RX3, "longer", "(JI)J"⟩
abbrev cX3_add : ByteArray := prog_5_method_4_code
def yX3_add : MethodName := ⟨RX3, "add", "(JI)V"⟩
abbrev cX3_forget : ByteArray := prog_5_method_5_code
def yX3_forget : MethodName := ⟨RX3, "forget", "()V"⟩
abbrev cX3_find : ByteArray := prog_5_method_6_code
def yX3_find : MethodName := ⟨RX3, "find", "(J)I"⟩
abbrev cX3_valueOf : ByteArray := prog_5_method_7_code
def yX3_valueOf : MethodName := ⟨RX3, "valueOf", "(J)I"⟩
abbrev cX3_tell : ByteArray := prog_5_method_8_code
def yX3_tell : MethodName := ⟨RX3, "tell", "(JI)I"⟩
def RX4 : String := "LineMonitor$Reader"
def TX4 : u_T := fun k => match k with
  | 0 => ("LineMonitor$Reader", "tape", "LLineMonitor$Tape;", true)
  | 1 => ("LineMonitor$Reader", "names", "LLineMonitor$Names;", true)
  | 2 => ("LineMonitor$Reader", "at", "I", false)
  | 3 => ("LineMonitor$Reader", "end", "I", false)
  | 4 => ("LineMonitor$Reader", "dot", "I", false)
  | 5 => ("LineMonitor$Reader", "kind", "I", false)
  | 6 => ("LineMonitor$Reader", "key", "J", false)
  | 7 => ("LineMonitor$Reader", "operation", "I", false)
  | 8 => ("LineMonitor$Reader", "indirect", "Z", false)
  | 9 => ("LineMonitor$Reader", "literal", "Z", false)
  | 10 => ("LineMonitor$Reader", "value", "I", false)
  | 11 => ("LineMonitor$Reader", "broken", "Z", false)
  | _ => ("LineMonitor$Reader", "unknown", "Z", false)
def tyX4 : Nat → FieldType := fun k => match k with
  | 0 => .object "LineMonitor$Tape"
  | 1 => .object "LineMonitor$Names"
  | 2 => .int
  | 3 => .int
  | 4 => .int
  | 5 => .int
  | 6 => .long
  | 7 => .int
  | 8 => .boolean
  | 9 => .boolean
  | 10 => .int
  | 11 => .boolean
  | _ => .boolean
theorem nmX4 : ∀ a, a < 13 → ∀ b, b < 13 → a ≠ b → (TX4 a).2.1 ≠ (TX4 b).2.1 := by decide +kernel
theorem tyX4_ok : ∀ k, k < 13 → parseFieldDescriptor (TX4 k).2.2.1 = some (tyX4 k) := by decide +kernel
abbrev cX4_init : ByteArray := prog_6_method_1_code
def yX4_init : MethodName := ⟨RX4, "<init>", "(LLineMonitor$Tape;LLineMonitor$Names;)V"⟩
abbrev cX4_look : ByteArray := prog_6_method_2_code
def yX4_look : MethodName := ⟨RX4, "look", "(I)I"⟩
abbrev cX4_isLetter : ByteArray := prog_6_method_3_code
def yX4_isLetter : MethodName := ⟨RX4, "isLetter", "(I)Z"⟩
abbrev cX4_isDigit : ByteArray := prog_6_method_4_code
def yX4_isDigit : MethodName := ⟨RX4, "isDigit", "(I)Z"⟩
abbrev cX4_behindBlanks : ByteArray := prog_6_method_5_code
def yX4_behindBlanks : MethodName := ⟨RX4, "behindBlanks", "(I)I"⟩
abbrev cX4_behindWord : ByteArray := prog_6_method_6_code
def yX4_behindWord : MethodName := ⟨RX4, "behindWord", "(I)I"⟩
abbrev cX4_keyOf : ByteArray := prog_6_method_7_code
def yX4_keyOf : MethodName := ⟨RX4, "keyOf", "(II)J"⟩
abbrev cX4_begin : ByteArray := prog_6_method_8_code
def yX4_begin : MethodName := ⟨RX4, "begin", "(II)V"⟩
abbrev cX4_readLabel : ByteArray := prog_6_method_9_code
def yX4_readLabel : MethodName := ⟨RX4, "readLabel", "()Z"⟩
abbrev cX4_readBody : ByteArray := prog_6_method_10_code
def yX4_readBody : MethodName := ⟨RX4, "readBody", "(I)V"⟩
abbrev cX4_hasMore : ByteArray := prog_6_method_11_code
def yX4_hasMore : MethodName := ⟨RX4, "hasMore", "()Z"⟩
abbrev cX4_readMarksAhead : ByteArray := prog_6_method_12_code
def yX4_readMarksAhead : MethodName := ⟨RX4, "readMarksAhead", "()V"⟩
abbrev cX4_beginsOperand : ByteArray := prog_6_method_13_code
def yX4_beginsOperand : MethodName := ⟨RX4, "beginsOperand", "(I)Z"⟩
abbrev cX4_readMarkBehind : ByteArray := prog_6_method_14_code
def yX4_readMarkBehind : MethodName := ⟨RX4, "readMarkBehind", "()V"⟩
abbrev cX4_readExpression : ByteArray := prog_6_method_15_code
def yX4_readExpression : MethodName := ⟨RX4, "readExpression", "()I"⟩
abbrev cX4_readTerm : ByteArray := prog_6_method_16_code
def yX4_readTerm : MethodName := ⟨RX4, "readTerm", "()I"⟩
abbrev cX4_readNumber : ByteArray := prog_6_method_17_code
def yX4_readNumber : MethodName := ⟨RX4, "readNumber", "(I)I"⟩
def RX5 : String := "LineMonitor$Tape"
def TX5 : u_T := fun k => match k with
  | 0 => ("LineMonitor$Tape", "bytes", "[B", true)
  | _ => ("LineMonitor$Tape", "length", "I", false)
def tyX5 : Nat → FieldType := fun k => match k with
  | 0 => .array .byte
  | _ => .int
theorem nmX5 : ∀ a, a < 2 → ∀ b, b < 2 → a ≠ b → (TX5 a).2.1 ≠ (TX5 b).2.1 := by decide +kernel
theorem tyX5_ok : ∀ k, k < 2 → parseFieldDescriptor (TX5 k).2.2.1 = some (tyX5 k) := by decide +kernel
abbrev cX5_init : ByteArray := prog_7_method_1_code
def yX5_init : MethodName := ⟨RX5, "<init>", "()V"⟩
abbrev cX5_hasRoomFor : ByteArray := prog_7_method_2_code
def yX5_hasRoomFor : MethodName := ⟨RX5, "hasRoomFor", "(I)Z"⟩
abbrev cX5_append : ByteArray := prog_7_method_3_code
def yX5_append : MethodName := ⟨RX5, "append", "(I)V"⟩
abbrev cX5_cut : ByteArray := prog_7_method_4_code
def yX5_cut : MethodName := ⟨RX5, "cut", "(I)Z"⟩
abbrev cX5_at : ByteArray := prog_7_method_5_code
def yX5_at : MethodName := ⟨RX5, "at", "(I)I"⟩
def RX6 : String := "LineMonitor$User"
def TX6 : u_T := fun k => match k with
  | 0 => ("LineMonitor$User", "number", "I", true)
  | 1 => ("LineMonitor$User", "words", "[I", true)
  | 2 => ("LineMonitor$User", "file", "[I", true)
  | 3 => ("LineMonitor$User", "paper", "[I", true)
  | 4 => ("LineMonitor$User", "input", "LLineMonitor$Letters;", true)
  | 5 => ("LineMonitor$User", "output", "LLineMonitor$Letters;", true)
  | 6 => ("LineMonitor$User", "pc", "I", false)
  | 7 => ("LineMonitor$User", "ac", "I", false)
  | 8 => ("LineMonitor$User", "link", "I", false)
  | 9 => ("LineMonitor$User", "switchWord", "I", false)
  | 10 => ("LineMonitor$User", "state", "I", false)
  | 11 => ("LineMonitor$User", "toSleep", "I", false)
  | 12 => ("LineMonitor$User", "toRun", "I", false)
  | 13 => ("LineMonitor$User", "lost", "I", false)
  | 14 => ("LineMonitor$User", "field", "I", false)
  | 15 => ("LineMonitor$User", "printed", "I", false)
  | _ => ("LineMonitor$User", "steps", "I", false)
def tyX6 : Nat → FieldType := fun k => match k with
  | 0 => .int
  | 1 => .array .int
  | 2 => .array .int
  | 3 => .array .int
  | 4 => .object "LineMonitor$Letters"
  | 5 => .object "LineMonitor$Letters"
  | 6 => .int
  | 7 => .int
  | 8 => .int
  | 9 => .int
  | 10 => .int
  | 11 => .int
  | 12 => .int
  | 13 => .int
  | 14 => .int
  | 15 => .int
  | _ => .int
theorem nmX6 : ∀ a, a < 17 → ∀ b, b < 17 → a ≠ b → (TX6 a).2.1 ≠ (TX6 b).2.1 := by decide +kernel
theorem tyX6_ok : ∀ k, k < 17 → parseFieldDescriptor (TX6 k).2.2.1 = some (tyX6 k) := by decide +kernel
abbrev cX6_init : ByteArray := prog_8_method_1_code
def yX6_init : MethodName := ⟨RX6, "<init>", "(I)V"⟩
abbrev cX6_doInstruction : ByteArray := prog_8_method_2_code
def yX6_doInstruction : MethodName := ⟨RX6, "doInstruction", "()V"⟩
abbrev cX6_skip : ByteArray := prog_8_method_3_code
def yX6_skip : MethodName := ⟨RX6, "skip", "()V"⟩
abbrev cX6_add : ByteArray := prog_8_method_4_code
def yX6_add : MethodName := ⟨RX6, "add", "(I)V"⟩
abbrev cX6_refer : ByteArray := prog_8_method_5_code
def yX6_refer : MethodName := ⟨RX6, "refer", "(II)V"⟩
abbrev cX6_addressIn : ByteArray := prog_8_method_6_code
def yX6_addressIn : MethodName := ⟨RX6, "addressIn", "(II)I"⟩
abbrev cX6_operate : ByteArray := prog_8_method_7_code
def yX6_operate : MethodName := ⟨RX6, "operate", "(I)V"⟩
abbrev cX6_turn : ByteArray := prog_8_method_8_code
def yX6_turn : MethodName := ⟨RX6, "turn", "(II)V"⟩
abbrev cX6_test : ByteArray := prog_8_method_9_code
def yX6_test : MethodName := ⟨RX6, "test", "(I)V"⟩
abbrev cX6_useDevice : ByteArray := prog_8_method_10_code
def yX6_useDevice : MethodName := ⟨RX6, "useDevice", "(II)V"⟩
abbrev cX6_readKey : ByteArray := prog_8_method_11_code
def yX6_readKey : MethodName := ⟨RX6, "readKey", "(I)V"⟩
abbrev cX6_waitAt : ByteArray := prog_8_method_12_code
def yX6_waitAt : MethodName := ⟨RX6, "waitAt", "(II)V"⟩
abbrev cX6_fallAsleep : ByteArray := prog_8_method_13_code
def yX6_fallAsleep : MethodName := ⟨RX6, "fallAsleep", "()V"⟩
abbrev cX6_moveBlock : ByteArray := prog_8_method_14_code
def yX6_moveBlock : MethodName := ⟨RX6, "moveBlock", "(Z)V"⟩
abbrev cX6_print : ByteArray := prog_8_method_15_code
def yX6_print : MethodName := ⟨RX6, "print", "()Z"⟩
abbrev cX6_onPaper : ByteArray := prog_8_method_16_code
def yX6_onPaper : MethodName := ⟨RX6, "onPaper", "(I)I"⟩
abbrev cX6_tell : ByteArray := prog_8_method_17_code
def yX6_tell : MethodName := ⟨RX6, "tell", "(I)I"⟩
def RX7 : String := "LineMonitor"
def TX7 : u_T := fun k => match k with
  | 0 => ("LineMonitor", "tape", "LLineMonitor$Tape;", true)
  | 1 => ("LineMonitor", "assembler", "LLineMonitor$Assembler;", true)
  | _ => ("LineMonitor", "home", "LLineMonitor$House;", false)
def tyX7 : Nat → FieldType := fun k => match k with
  | 0 => .object "LineMonitor$Tape"
  | 1 => .object "LineMonitor$Assembler"
  | _ => .object "LineMonitor$House"
theorem nmX7 : ∀ a, a < 3 → ∀ b, b < 3 → a ≠ b → (TX7 a).2.1 ≠ (TX7 b).2.1 := by decide +kernel
theorem tyX7_ok : ∀ k, k < 3 → parseFieldDescriptor (TX7 k).2.2.1 = some (tyX7 k) := by decide +kernel
abbrev cX7_init : ByteArray := prog_1_method_1_code
def yX7_init : MethodName := ⟨RX7, "<init>", "()V"⟩
abbrev cX7_open : ByteArray := prog_1_method_2_code
def yX7_open : MethodName := ⟨RX7, "open", "(IIII)I"⟩
abbrev cX7_feed : ByteArray := prog_1_method_3_code
def yX7_feed : MethodName := ⟨RX7, "feed", "(IIIII)I"⟩
abbrev cX7_end : ByteArray := prog_1_method_4_code
def yX7_end : MethodName := ⟨RX7, "end", "(I)I"⟩
abbrev cX7_assemble : ByteArray := prog_1_method_5_code
def yX7_assemble : MethodName := ⟨RX7, "assemble", "(I)I"⟩
abbrev cX7_fault : ByteArray := prog_1_method_6_code
def yX7_fault : MethodName := ⟨RX7, "fault", "(I)I"⟩
abbrev cX7_poke : ByteArray := prog_1_method_7_code
def yX7_poke : MethodName := ⟨RX7, "poke", "(III)I"⟩
abbrev cX7_peek : ByteArray := prog_1_method_8_code
def yX7_peek : MethodName := ⟨RX7, "peek", "(II)I"⟩
abbrev cX7_store : ByteArray := prog_1_method_9_code
def yX7_store : MethodName := ⟨RX7, "store", "(IIII)I"⟩
abbrev cX7_block : ByteArray := prog_1_method_10_code
def yX7_block : MethodName := ⟨RX7, "block", "(III)I"⟩
abbrev cX7_switches : ByteArray := prog_1_method_11_code
def yX7_switches : MethodName := ⟨RX7, "switches", "(II)I"⟩
abbrev cX7_start : ByteArray := prog_1_method_12_code
def yX7_start : MethodName := ⟨RX7, "start", "(II)I"⟩
abbrev cX7_key : ByteArray := prog_1_method_13_code
def yX7_key : MethodName := ⟨RX7, "key", "(II)I"⟩
abbrev cX7_run : ByteArray := prog_1_method_14_code
def yX7_run : MethodName := ⟨RX7, "run", "(I)I"⟩
abbrev cX7_about : ByteArray := prog_1_method_15_code
def yX7_about : MethodName := ⟨RX7, "about", "(II)I"⟩
abbrev cX7_letter : ByteArray := prog_1_method_16_code
def yX7_letter : MethodName := ⟨RX7, "letter", "(II)I"⟩
abbrev cX7_waiting : ByteArray := prog_1_method_17_code
def yX7_waiting : MethodName := ⟨RX7, "waiting", "(II)I"⟩
abbrev cX7_queued : ByteArray := prog_1_method_18_code
def yX7_queued : MethodName := ⟨RX7, "queued", "(II)I"⟩
abbrev cX7_house : ByteArray := prog_1_method_19_code
def yX7_house : MethodName := ⟨RX7, "house", "(I)I"⟩
abbrev cX7_row : ByteArray := prog_1_method_20_code
def yX7_row : MethodName := ⟨RX7, "row", "(I)I"⟩
abbrev cX7_digest : ByteArray := prog_1_method_21_code
def yX7_digest : MethodName := ⟨RX7, "digest", "()J"⟩
abbrev cX7_digestOf : ByteArray := prog_1_method_22_code
def yX7_digestOf : MethodName := ⟨RX7, "digestOf", "(LLineMonitor$User;J)J"⟩
abbrev cX7_userAt : ByteArray := prog_1_method_23_code
def yX7_userAt : MethodName := ⟨RX7, "userAt", "(I)LLineMonitor$User;"⟩
abbrev cX7_within : ByteArray := prog_1_method_24_code
def yX7_within : MethodName := ⟨RX7, "within", "(III)Z"⟩
abbrev cX7_isWord : ByteArray := prog_1_method_25_code
def yX7_isWord : MethodName := ⟨RX7, "isWord", "(I)Z"⟩
abbrev cX7_isInFile : ByteArray := prog_1_method_26_code
def yX7_isInFile : MethodName := ⟨RX7, "isInFile", "(II)Z"⟩
def RX8 : String := "LineMonitorModel"
def TX8 : u_T := fun k => match k with
  | 0 => ("LineMonitorModel", "users", "I", false)
  | 1 => ("LineMonitorModel", "fields", "I", false)
  | 2 => ("LineMonitorModel", "quantum", "I", false)
  | 3 => ("LineMonitorModel", "beat", "I", false)
  | 4 => ("LineMonitorModel", "steps", "I", false)
  | 5 => ("LineMonitorModel", "ticks", "I", false)
  | 6 => ("LineMonitorModel", "swaps", "I", false)
  | 7 => ("LineMonitorModel", "turn", "I", false)
  | 8 => ("LineMonitorModel", "idle", "I", false)
  | 9 => ("LineMonitorModel", "running", "I", false)
  | 10 => ("LineMonitorModel", "left", "I", false)
  | 11 => ("LineMonitorModel", "row", "[I", true)
  | 12 => ("LineMonitorModel", "rowMany", "I", false)
  | 13 => ("LineMonitorModel", "fieldOf", "[I", true)
  | 14 => ("LineMonitorModel", "words", "[I", true)
  | 15 => ("LineMonitorModel", "files", "[I", true)
  | 16 => ("LineMonitorModel", "ac", "[I", true)
  | 17 => ("LineMonitorModel", "pc", "[I", true)
  | 18 => ("LineMonitorModel", "link", "[I", true)
  | 19 => ("LineMonitorModel", "state", "[I", true)
  | 20 => ("LineMonitorModel", "sleep", "[I", true)
  | 21 => ("LineMonitorModel", "switches", "[I", true)
  | 22 => ("LineMonitorModel", "lost", "[I", true)
  | 23 => ("LineMonitorModel", "did", "[I", true)
  | 24 => ("LineMonitorModel", "input", "[I", true)
  | 25 => ("LineMonitorModel", "inputMany", "[I", true)
  | 26 => ("LineMonitorModel", "output", "[I", true)
  | 27 => ("LineMonitorModel", "outputMany", "[I", true)
  | 28 => ("LineMonitorModel", "paper", "[I", true)
  | 29 => ("LineMonitorModel", "paperMany", "[I", true)
  | 30 => ("LineMonitorModel", "tape", "[I", true)
  | 31 => ("LineMonitorModel", "taped", "I", false)
  | 32 => ("LineMonitorModel", "faultWhy", "I", false)
  | 33 => ("LineMonitorModel", "faultLine", "I", false)
  | 34 => ("LineMonitorModel", "names", "[J", true)
  | 35 => ("LineMonitorModel", "values", "[I", true)
  | 36 => ("LineMonitorModel", "nameMany", "I", false)
  | 37 => ("LineMonitorModel", "known", "I", false)
  | 38 => ("LineMonitorModel", "put", "[I", true)
  | 39 => ("LineMonitorModel", "isLiteral", "[Z", true)
  | 40 => ("LineMonitorModel", "nextLiteral", "[I", true)
  | 41 => ("LineMonitorModel", "putMany", "I", false)
  | 42 => ("LineMonitorModel", "dot", "I", false)
  | 43 => ("LineMonitorModel", "at", "I", false)
  | 44 => ("LineMonitorModel", "stop", "I", false)
  | 45 => ("LineMonitorModel", "value", "I", false)
  | _ => ("LineMonitorModel", "hasValue", "Z", false)
def tyX8 : Nat → FieldType := fun k => match k with
  | 0 => .int
  | 1 => .int
  | 2 => .int
  | 3 => .int
  | 4 => .int
  | 5 => .int
  | 6 => .int
  | 7 => .int
  | 8 => .int
  | 9 => .int
  | 10 => .int
  | 11 => .array .int
  | 12 => .int
  | 13 => .array .int
  | 14 => .array .int
  | 15 => .array .int
  | 16 => .array .int
  | 17 => .array .int
  | 18 => .array .int
  | 19 => .array .int
  | 20 => .array .int
  | 21 => .array .int
  | 22 => .array .int
  | 23 => .array .int
  | 24 => .array .int
  | 25 => .array .int
  | 26 => .array .int
  | 27 => .array .int
  | 28 => .array .int
  | 29 => .array .int
  | 30 => .array .int
  | 31 => .int
  | 32 => .int
  | 33 => .int
  | 34 => .array .long
  | 35 => .array .int
  | 36 => .int
  | 37 => .int
  | 38 => .array .int
  | 39 => .array .boolean
  | 40 => .array .int
  | 41 => .int
  | 42 => .int
  | 43 => .int
  | 44 => .int
  | 45 => .int
  | _ => .boolean
theorem nmX8 : ∀ a, a < 47 → ∀ b, b < 47 → a ≠ b → (TX8 a).2.1 ≠ (TX8 b).2.1 := by decide +kernel
theorem tyX8_ok : ∀ k, k < 47 → parseFieldDescriptor (TX8 k).2.2.1 = some (tyX8 k) := by decide +kernel
abbrev cX8_init : ByteArray := prog_10_method_1_code
def yX8_init : MethodName := ⟨RX8, "<init>", "()V"⟩
abbrev cX8_three : ByteArray := prog_10_method_2_code
def yX8_three : MethodName := ⟨RX8, "three", "(IIII)V"⟩
abbrev cX8_isIn : ByteArray := prog_10_method_3_code
def yX8_isIn : MethodName := ⟨RX8, "isIn", "(III)Z"⟩
abbrev cX8_isUser : ByteArray := prog_10_method_4_code
def yX8_isUser : MethodName := ⟨RX8, "isUser", "(I)Z"⟩
abbrev cX8_get : ByteArray := prog_10_method_5_code
def yX8_get : MethodName := ⟨RX8, "get", "(II)I"⟩
abbrev cX8_set : ByteArray := prog_10_method_6_code
def yX8_set : MethodName := ⟨RX8, "set", "(III)V"⟩
abbrev cX8_sum : ByteArray := prog_10_method_7_code
def yX8_sum : MethodName := ⟨RX8, "sum", "(II)V"⟩
abbrev cX8_skip : ByteArray := prog_10_method_8_code
def yX8_skip : MethodName := ⟨RX8, "skip", "(IZ)V"⟩
abbrev cX8_doInstruction : ByteArray := prog_10_method_9_code
def yX8_doInstruction : MethodName := ⟨RX8, "doInstruction", "(I)V"⟩
abbrev cX8_memory : ByteArray := prog_10_method_10_code
def yX8_memory : MethodName := ⟨RX8, "memory", "(III)V"⟩
abbrev cX8_turns : ByteArray := prog_10_method_11_code
def yX8_turns : MethodName := ⟨RX8, "turns", "(II)V"⟩
abbrev cX8_skips : ByteArray := prog_10_method_12_code
def yX8_skips : MethodName := ⟨RX8, "skips", "(II)V"⟩
abbrev cX8_device : ByteArray := prog_10_method_13_code
def yX8_device : MethodName := ⟨RX8, "device", "(III)V"⟩
abbrev cX8_taken : ByteArray := prog_10_method_14_code
def yX8_taken : MethodName := ⟨RX8, "taken", "([I[II)I"⟩
abbrev cX8_transfer : ByteArray := prog_10_method_15_code
def yX8_transfer : MethodName := ⟨RX8, "transfer", "(IZ)V"⟩
abbrev cX8_leave : ByteArray := prog_10_method_16_code
def yX8_leave : MethodName := ⟨RX8, "leave", "(II)V"⟩
abbrev cX8_ready : ByteArray := prog_10_method_17_code
def yX8_ready : MethodName := ⟨RX8, "ready", "(I)V"⟩
abbrev cX8_tick : ByteArray := prog_10_method_18_code
def yX8_tick : MethodName := ⟨RX8, "tick", "()V"⟩
abbrev cX8_dispatch : ByteArray := prog_10_method_19_code
def yX8_dispatch : MethodName := ⟨RX8, "dispatch", "()V"⟩
abbrev cX8_step : ByteArray := prog_10_method_20_code
def yX8_step : MethodName := ⟨RX8, "step", "()V"⟩
abbrev cX8_open : ByteArray := prog_10_method_21_code
def yX8_open : MethodName := ⟨RX8, "open", "(IIII)I"⟩
abbrev cX8_lay : ByteArray := prog_10_method_22_code
def yX8_lay : MethodName := ⟨RX8, "lay", "(I)V"⟩
abbrev cX8_feed : ByteArray := prog_10_method_23_code
def yX8_feed : MethodName := ⟨RX8, "feed", "(IIIII)I"⟩
abbrev cX8_end : ByteArray := prog_10_method_24_code
def yX8_end : MethodName := ⟨RX8, "end", "(I)I"⟩
abbrev cX8_fault : ByteArray := prog_10_method_25_code
def yX8_fault : MethodName := ⟨RX8, "fault", "(I)I"⟩
abbrev cX8_poke : ByteArray := prog_10_method_26_code
def yX8_poke : MethodName := ⟨RX8, "poke", "(III)I"⟩
abbrev cX8_peek : ByteArray := prog_10_method_27_code
def yX8_peek : MethodName := ⟨RX8, "peek", "(II)I"⟩
abbrev cX8_isPlace : ByteArray := prog_10_method_28_code
def yX8_isPlace : MethodName := ⟨RX8, "isPlace", "(III)Z"⟩
abbrev cX8_store : ByteArray := prog_10_method_29_code
def yX8_store : MethodName := ⟨RX8, "store", "(IIII)I"⟩
abbrev cX8_block : ByteArray := prog_10_method_30_code
def yX8_block : MethodName := ⟨RX8, "block", "(III)I"⟩
abbrev cX8_switches : ByteArray := prog_10_method_31_code
def yX8_switches : MethodName := ⟨RX8, "switches", "(II)I"⟩
abbrev cX8_start : ByteArray := prog_10_method_32_code
def yX8_start : MethodName := ⟨RX8, "start", "(II)I"⟩
abbrev cX8_key : ByteArray := prog_10_method_33_code
def yX8_key : MethodName := ⟨RX8, "key", "(II)I"⟩
abbrev cX8_run : ByteArray := prog_10_method_34_code
def yX8_run : MethodName := ⟨RX8, "run", "(I)I"⟩
abbrev cX8_about : ByteArray := prog_10_method_35_code
def yX8_about : MethodName := ⟨RX8, "about", "(II)I"⟩
abbrev cX8_letter : ByteArray := prog_10_method_36_code
def yX8_letter : MethodName := ⟨RX8, "letter", "(II)I"⟩
abbrev cX8_waiting : ByteArray := prog_10_method_37_code
def yX8_waiting : MethodName := ⟨RX8, "waiting", "(II)I"⟩
abbrev cX8_queued : ByteArray := prog_10_method_38_code
def yX8_queued : MethodName := ⟨RX8, "queued", "(II)I"⟩
abbrev cX8_house : ByteArray := prog_10_method_39_code
def yX8_house : MethodName := ⟨RX8, "house", "(I)I"⟩
abbrev cX8_row : ByteArray := prog_10_method_40_code
def yX8_row : MethodName := ⟨RX8, "row", "(I)I"⟩
abbrev cX8_digest : ByteArray := prog_10_method_41_code
def yX8_digest : MethodName := ⟨RX8, "digest", "()J"⟩
abbrev cX8_isLetter : ByteArray := prog_10_method_42_code
def yX8_isLetter : MethodName := ⟨RX8, "isLetter", "(I)Z"⟩
abbrev cX8_isDigit : ByteArray := prog_10_method_43_code
def yX8_isDigit : MethodName := ⟨RX8, "isDigit", "(I)Z"⟩
abbrev cX8_signOf : ByteArray := prog_10_method_44_code
def yX8_signOf : MethodName := ⟨RX8, "signOf", "(I)I"⟩
abbrev cX8_look : ByteArray := prog_10_method_45_code
def yX8_look : MethodName := ⟨RX8, "look", "(I)I"⟩
abbrev cX8_blanks : ByteArray := prog_10_method_46_code
def yX8_blanks : MethodName := ⟨RX8, "blanks", "()V"⟩
abbrev cX8_wordEnd : ByteArray := prog_10_method_47_code
def yX8_wordEnd : MethodName := ⟨RX8, "wordEnd", "(I)I"⟩
abbrev cX8_isName : ByteArray := prog_10_method_48_code
def yX8_isName : MethodName := ⟨RX8, "isName", "(I)Z"⟩
abbrev cX8_nameAt : ByteArray := prog_10_method_49_code
def yX8_nameAt : MethodName := ⟨RX8, "nameAt", "(I)J"⟩
abbrev cX8_find : ByteArray := prog_10_method_50_code
def yX8_find : MethodName := ⟨RX8, "find", "(J)I"⟩
abbrev cX8_memoryAt : ByteArray := prog_10_method_51_code
def yX8_memoryAt : MethodName := ⟨RX8, "memoryAt", "(I)I"⟩
abbrev cX8_isLabel : ByteArray := prog_10_method_52_code
def yX8_isLabel : MethodName := ⟨RX8, "isLabel", "()Z"⟩
abbrev cX8_isTelling : ByteArray := prog_10_method_53_code
def yX8_isTelling : MethodName := ⟨RX8, "isTelling", "()Z"⟩
abbrev cX8_isBy : ByteArray := prog_10_method_54_code
def yX8_isBy : MethodName := ⟨RX8, "isBy", "()Z"⟩
abbrev cX8_term : ByteArray := prog_10_method_55_code
def yX8_term : MethodName := ⟨RX8, "term", "(I)Z"⟩
abbrev cX8_expression : ByteArray := prog_10_method_56_code
def yX8_expression : MethodName := ⟨RX8, "expression", "()Z"⟩
abbrev cX8_ends : ByteArray := prog_10_method_57_code
def yX8_ends : MethodName := ⟨RX8, "ends", "()Z"⟩
abbrev cX8_isRight : ByteArray := prog_10_method_58_code
def yX8_isRight : MethodName := ⟨RX8, "isRight", "()Z"⟩
abbrev cX8_isRightMemory : ByteArray := prog_10_method_59_code
def yX8_isRightMemory : MethodName := ⟨RX8, "isRightMemory", "()Z"⟩
abbrev cX8_isRightRow : ByteArray := prog_10_method_60_code
def yX8_isRightRow : MethodName := ⟨RX8, "isRightRow", "()Z"⟩
abbrev cX8_tell : ByteArray := prog_10_method_61_code
def yX8_tell : MethodName := ⟨RX8, "tell", "(JI)I"⟩
abbrev cX8_firstPass : ByteArray := prog_10_method_62_code
def yX8_firstPass : MethodName := ⟨RX8, "firstPass", "()I"⟩
abbrev cX8_comesTo : ByteArray := prog_10_method_63_code
def yX8_comesTo : MethodName := ⟨RX8, "comesTo", "(IIZ)I"⟩
abbrev cX8_literalFor : ByteArray := prog_10_method_64_code
def yX8_literalFor : MethodName := ⟨RX8, "literalFor", "(I)I"⟩
abbrev cX8_secondPass : ByteArray := prog_10_method_65_code
def yX8_secondPass : MethodName := ⟨RX8, "secondPass", "()I"⟩
abbrev cX8_memoryWord : ByteArray := prog_10_method_66_code
def yX8_memoryWord : MethodName := ⟨RX8, "memoryWord", "(I)I"⟩
abbrev cX8_rowWord : ByteArray := prog_10_method_67_code
def yX8_rowWord : MethodName := ⟨RX8, "rowWord", "()I"⟩
abbrev cX8_statement : ByteArray := prog_10_method_68_code
def yX8_statement : MethodName := ⟨RX8, "statement", "(III)I"⟩
abbrev cX8_lineIn : ByteArray := prog_10_method_69_code
def yX8_lineIn : MethodName := ⟨RX8, "lineIn", "(III)I"⟩
abbrev cX8_passes : ByteArray := prog_10_method_70_code
def yX8_passes : MethodName := ⟨RX8, "passes", "(I)Z"⟩
abbrev cX8_assemble : ByteArray := prog_10_method_71_code
def yX8_assemble : MethodName := ⟨RX8, "assemble", "(I)I"⟩
def RJ0 : String := "java/lang/String"
abbrev cJ0_length_8abf5 : ByteArray := prog_11_method_54_code
def yJ0_length_8abf5 : MethodName := ⟨RJ0, "length", "()I"⟩
abbrev cJ0_charAt_5068e : ByteArray := prog_11_method_56_code
def yJ0_charAt_5068e : MethodName := ⟨RJ0, "charAt", "(I)C"⟩
abbrev cJ0_coder_7d493 : ByteArray := prog_11_method_152_code
def yJ0_coder_7d493 : MethodName := ⟨RJ0, "coder", "()B"⟩
abbrev cJ0_isLatin1_aae02 : ByteArray := prog_11_method_154_code
def yJ0_isLatin1_aae02 : MethodName := ⟨RJ0, "isLatin1", "()Z"⟩
abbrev cJ0_checkIndex_df160 : ByteArray := prog_11_method_155_code
def yJ0_checkIndex_df160 : MethodName := ⟨RJ0, "checkIndex", "(II)V"⟩
def RJ1 : String := "java/lang/StringLatin1"
abbrev cJ1_charAt_3b067 : ByteArray := prog_12_method_2_code
def yJ1_charAt_3b067 : MethodName := ⟨RJ1, "charAt", "([BI)C"⟩
def RJ2 : String := "java/lang/StringUTF16"
abbrev cJ2_getChar_3b067 : ByteArray := prog_13_method_5_code
def yJ2_getChar_3b067 : MethodName := ⟨RJ2, "getChar", "([BI)C"⟩
abbrev cJ2_length_9d52b : ByteArray := prog_13_method_6_code
def yJ2_length_9d52b : MethodName := ⟨RJ2, "length", "([B)I"⟩
abbrev cJ2_charAt_3b067 : ByteArray := prog_13_method_83_code
def yJ2_charAt_3b067 : MethodName := ⟨RJ2, "charAt", "([BI)C"⟩
abbrev cJ2_checkIndex_2214a : ByteArray := prog_13_method_91_code
def yJ2_checkIndex_2214a : MethodName := ⟨RJ2, "checkIndex", "(I[B)V"⟩
def RJ7 : String := "java/util/Arrays"
abbrev cJ7_fill_53178 : ByteArray := prog_14_method_103_code
def yJ7_fill_53178 : MethodName := ⟨RJ7, "fill", "([II)V"⟩
def RJ3 : String := "jdk/internal/util/Preconditions"
abbrev cJ3_checkIndex_8e157 : ByteArray := prog_15_method_11_code
def yJ3_checkIndex_8e157 : MethodName := ⟨RJ3, "checkIndex", "(IILjava/util/function/BiFunction;)I"⟩
def RL : String := "LineMonitorLaw"
abbrev cL_law : ByteArray := code
def yL_law : MethodName := ⟨RL, "law", "([I)Z"⟩
abbrev vwCl : List vw_C := [(RX0, TX0, 11), (RX1, TX1, 14), (RX2, TX2, 3), (RX3, TX3, 3), (RX4, TX4, 13), (RX5, TX5, 2), (RX6, TX6, 17), (RX7, TX7, 3), (RX8, TX8, 47)]
end
section
def oNL : List String := ["LineMonitor$Assembler", "LineMonitor$House", "LineMonitor$Letters", "LineMonitor$Names", "LineMonitor$Reader", "LineMonitor$Tape", "LineMonitor$User", "LineMonitor", "LineMonitorModel", "LineMonitorLaw", "java/lang/String", "java/lang/StringLatin1", "java/lang/StringUTF16", "java/util/Arrays", "jdk/internal/util/Preconditions"]
def oN (o : Nat) : String := oNL.getD o ""
def mTb_0 : List (Nat × MethodName × ByteArray × Nat × Option FieldType × Nat × Nat × Nat) := [(9, ⟨"LineMonitorLaw", "law", "([I)Z"⟩, code, 4, (some .boolean), 1, 600000, 7302250), (0, ⟨"LineMonitor$Assembler", "<init>", "(LLineMonitor$Tape;)V"⟩, prog_2_method_1_code, 2, none, 1, 8, 12806), (0, ⟨"LineMonitor$Assembler", "begin", "()V"⟩, prog_2_method_2_code, 2, none, 0, 0, 0), (0, ⟨"LineMonitor$Assembler", "goOver", "(Z)V"⟩, prog_2_method_3_code, 8, none, 1, 0, 0), (0, ⟨"LineMonitor$Assembler", "doFirst", "(II)I"⟩, prog_2_method_4_code, 4, (some .int), 2, 0, 0), (0, ⟨"LineMonitor$Assembler", "skipLabels", "()V"⟩, prog_2_method_5_code, 3, none, 0, 0, 0), (0, ⟨"LineMonitor$Assembler", "tellLabels", "()I"⟩, prog_2_method_6_code, 3, (some .int), 0, 0, 0), (0, ⟨"LineMonitor$Assembler", "doSecond", "()I"⟩, prog_2_method_7_code, 1, (some .int), 0, 0, 0), (0, ⟨"LineMonitor$Assembler", "putMemory", "()I"⟩, prog_2_method_8_code, 4, (some .int), 0, 0, 0), (0, ⟨"LineMonitor$Assembler", "literalFor", "(I)I"⟩, prog_2_method_9_code, 6, (some .int), 1, 0, 0), (0, ⟨"LineMonitor$Assembler", "putNext", "(I)I"⟩, prog_2_method_10_code, 3, (some .int), 1, 0, 0), (0, ⟨"LineMonitor$Assembler", "put", "(II)Z"⟩, prog_2_method_11_code, 4, (some .boolean), 2, 0, 0), (0, ⟨"LineMonitor$Assembler", "deliver", "([I)I"⟩, prog_2_method_12_code, 4, (some .int), 1, 0, 0), (1, ⟨"LineMonitor$House", "<init>", "(IIII)V"⟩, prog_3_method_1_code, 6, none, 4, 67, 70096), (1, ⟨"LineMonitor$House", "makeReady", "(LLineMonitor$User;)V"⟩, prog_3_method_2_code, 2, none, 1, 0, 0), (1, ⟨"LineMonitor$House", "choose", "()V"⟩, prog_3_method_3_code, 3, none, 0, 0, 0), (1, ⟨"LineMonitor$House", "swapIn", "(LLineMonitor$User;)V"⟩, prog_3_method_4_code, 3, none, 1, 0, 0), (1, ⟨"LineMonitor$House", "step", "()Z"⟩, prog_3_method_5_code, 2, (some .boolean), 0, 0, 0), (1, ⟨"LineMonitor$House", "doRunnersInstruction", "(LLineMonitor$User;)V"⟩, prog_3_method_6_code, 2, none, 1, 0, 0), (1, ⟨"LineMonitor$House", "tick", "()V"⟩, prog_3_method_7_code, 5, none, 0, 0, 0), (1, ⟨"LineMonitor$House", "tickOf", "(LLineMonitor$User;)V"⟩, prog_3_method_8_code, 2, none, 1, 0, 0), (1, ⟨"LineMonitor$House", "tickOfRunner", "(LLineMonitor$User;)V"⟩, prog_3_method_9_code, 2, none, 1, 0, 0), (1, ⟨"LineMonitor$House", "inRow", "(I)I"⟩, prog_3_method_10_code, 3, (some .int), 1, 0, 0), (1, ⟨"LineMonitor$House", "tell", "(I)I"⟩, prog_3_method_11_code, 2, (some .int), 1, 0, 0), (2, ⟨"LineMonitor$Letters", "<init>", "()V"⟩, prog_4_method_1_code, 1, none, 0, 1, 16), (2, ⟨"LineMonitor$Letters", "add", "(I)Z"⟩, prog_4_method_2_code, 2, (some .boolean), 1, 0, 0), (2, ⟨"LineMonitor$Letters", "take", "()I"⟩, prog_4_method_3_code, 2, (some .int), 0, 0, 0), (2, ⟨"LineMonitor$Letters", "at", "(I)I"⟩, prog_4_method_4_code, 2, (some .int), 1, 0, 0), (3, ⟨"LineMonitor$Names", "<init>", "()V"⟩, prog_5_method_1_code, 1, none, 0, 2, 470), (3, ⟨"LineMonitor$Names", "addAll", "(Ljava/lang/String;[I)V"⟩, prog_5_method_2_code, 8, none, 2, 0, 0)]
def mTb_1 : List (Nat × MethodName × ByteArray × Nat × Option FieldType × Nat × Nat × Nat) := [(3, ⟨"LineMonitor$Names", "longer", "(JI)J"⟩, prog_5_method_3_code, 3, (some .long), 2, 0, 0), (3, ⟨"LineMonitor$Names", "add", "(JI)V"⟩, prog_5_method_4_code, 4, none, 2, 0, 0), (3, ⟨"LineMonitor$Names", "forget", "()V"⟩, prog_5_method_5_code, 1, none, 0, 0, 0), (3, ⟨"LineMonitor$Names", "find", "(J)I"⟩, prog_5_method_6_code, 4, (some .int), 1, 0, 0), (3, ⟨"LineMonitor$Names", "valueOf", "(J)I"⟩, prog_5_method_7_code, 4, (some .int), 1, 0, 0), (3, ⟨"LineMonitor$Names", "tell", "(JI)I"⟩, prog_5_method_8_code, 4, (some .int), 2, 0, 0), (4, ⟨"LineMonitor$Reader", "<init>", "(LLineMonitor$Tape;LLineMonitor$Names;)V"⟩, prog_6_method_1_code, 3, none, 2, 0, 0), (4, ⟨"LineMonitor$Reader", "look", "(I)I"⟩, prog_6_method_2_code, 2, (some .int), 1, 0, 0), (4, ⟨"LineMonitor$Reader", "isLetter", "(I)Z"⟩, prog_6_method_3_code, 1, (some .boolean), 1, 0, 0), (4, ⟨"LineMonitor$Reader", "isDigit", "(I)Z"⟩, prog_6_method_4_code, 1, (some .boolean), 1, 0, 0), (4, ⟨"LineMonitor$Reader", "behindBlanks", "(I)I"⟩, prog_6_method_5_code, 3, (some .int), 1, 0, 0), (4, ⟨"LineMonitor$Reader", "behindWord", "(I)I"⟩, prog_6_method_6_code, 3, (some .int), 1, 0, 0), (4, ⟨"LineMonitor$Reader", "keyOf", "(II)J"⟩, prog_6_method_7_code, 6, (some .long), 2, 0, 0), (4, ⟨"LineMonitor$Reader", "begin", "(II)V"⟩, prog_6_method_8_code, 3, none, 2, 0, 0), (4, ⟨"LineMonitor$Reader", "readLabel", "()Z"⟩, prog_6_method_9_code, 2, (some .boolean), 0, 0, 0), (4, ⟨"LineMonitor$Reader", "readBody", "(I)V"⟩, prog_6_method_10_code, 4, none, 1, 0, 0), (4, ⟨"LineMonitor$Reader", "hasMore", "()Z"⟩, prog_6_method_11_code, 2, (some .boolean), 0, 0, 0), (4, ⟨"LineMonitor$Reader", "readMarksAhead", "()V"⟩, prog_6_method_12_code, 2, none, 0, 0, 0), (4, ⟨"LineMonitor$Reader", "beginsOperand", "(I)Z"⟩, prog_6_method_13_code, 1, (some .boolean), 1, 0, 0), (4, ⟨"LineMonitor$Reader", "readMarkBehind", "()V"⟩, prog_6_method_14_code, 2, none, 0, 0, 0), (4, ⟨"LineMonitor$Reader", "readExpression", "()I"⟩, prog_6_method_15_code, 6, (some .int), 0, 0, 0), (4, ⟨"LineMonitor$Reader", "readTerm", "()I"⟩, prog_6_method_16_code, 6, (some .int), 0, 0, 0), (4, ⟨"LineMonitor$Reader", "readNumber", "(I)I"⟩, prog_6_method_17_code, 5, (some .int), 1, 0, 0), (5, ⟨"LineMonitor$Tape", "<init>", "()V"⟩, prog_7_method_1_code, 1, none, 0, 1, 8000), (5, ⟨"LineMonitor$Tape", "hasRoomFor", "(I)Z"⟩, prog_7_method_2_code, 2, (some .boolean), 1, 0, 0), (5, ⟨"LineMonitor$Tape", "append", "(I)V"⟩, prog_7_method_3_code, 3, none, 1, 0, 0), (5, ⟨"LineMonitor$Tape", "cut", "(I)Z"⟩, prog_7_method_4_code, 2, (some .boolean), 1, 0, 0), (5, ⟨"LineMonitor$Tape", "at", "(I)I"⟩, prog_7_method_5_code, 2, (some .int), 1, 0, 0), (6, ⟨"LineMonitor$User", "<init>", "(I)V"⟩, prog_8_method_1_code, 2, none, 1, 7, 8742), (6, ⟨"LineMonitor$User", "doInstruction", "()V"⟩, prog_8_method_2_code, 3, none, 0, 0, 0)]
def mTb_2 : List (Nat × MethodName × ByteArray × Nat × Option FieldType × Nat × Nat × Nat) := [(6, ⟨"LineMonitor$User", "skip", "()V"⟩, prog_8_method_3_code, 1, none, 0, 0, 0), (6, ⟨"LineMonitor$User", "add", "(I)V"⟩, prog_8_method_4_code, 3, none, 1, 0, 0), (6, ⟨"LineMonitor$User", "refer", "(II)V"⟩, prog_8_method_5_code, 4, none, 2, 0, 0), (6, ⟨"LineMonitor$User", "addressIn", "(II)I"⟩, prog_8_method_6_code, 4, (some .int), 2, 0, 0), (6, ⟨"LineMonitor$User", "operate", "(I)V"⟩, prog_8_method_7_code, 4, none, 1, 0, 0), (6, ⟨"LineMonitor$User", "turn", "(II)V"⟩, prog_8_method_8_code, 5, none, 2, 0, 0), (6, ⟨"LineMonitor$User", "test", "(I)V"⟩, prog_8_method_9_code, 4, none, 1, 0, 0), (6, ⟨"LineMonitor$User", "useDevice", "(II)V"⟩, prog_8_method_10_code, 3, none, 2, 0, 0), (6, ⟨"LineMonitor$User", "readKey", "(I)V"⟩, prog_8_method_11_code, 3, none, 1, 0, 0), (6, ⟨"LineMonitor$User", "waitAt", "(II)V"⟩, prog_8_method_12_code, 3, none, 2, 0, 0), (6, ⟨"LineMonitor$User", "fallAsleep", "()V"⟩, prog_8_method_13_code, 1, none, 0, 0, 0), (6, ⟨"LineMonitor$User", "moveBlock", "(Z)V"⟩, prog_8_method_14_code, 6, none, 1, 0, 0), (6, ⟨"LineMonitor$User", "print", "()Z"⟩, prog_8_method_15_code, 2, (some .boolean), 0, 0, 0), (6, ⟨"LineMonitor$User", "onPaper", "(I)I"⟩, prog_8_method_16_code, 3, (some .int), 1, 0, 0), (6, ⟨"LineMonitor$User", "tell", "(I)I"⟩, prog_8_method_17_code, 2, (some .int), 1, 0, 0), (7, ⟨"LineMonitor", "<init>", "()V"⟩, prog_1_method_1_code, 1, none, 0, 11, 20819), (7, ⟨"LineMonitor", "open", "(IIII)I"⟩, prog_1_method_2_code, 5, (some .int), 4, 68, 70110), (7, ⟨"LineMonitor", "feed", "(IIIII)I"⟩, prog_1_method_3_code, 6, (some .int), 5, 0, 0), (7, ⟨"LineMonitor", "end", "(I)I"⟩, prog_1_method_4_code, 2, (some .int), 1, 0, 0), (7, ⟨"LineMonitor", "assemble", "(I)I"⟩, prog_1_method_5_code, 3, (some .int), 1, 0, 0), (7, ⟨"LineMonitor", "fault", "(I)I"⟩, prog_1_method_6_code, 2, (some .int), 1, 0, 0), (7, ⟨"LineMonitor", "poke", "(III)I"⟩, prog_1_method_7_code, 5, (some .int), 3, 0, 0), (7, ⟨"LineMonitor", "peek", "(II)I"⟩, prog_1_method_8_code, 4, (some .int), 2, 0, 0), (7, ⟨"LineMonitor", "store", "(IIII)I"⟩, prog_1_method_9_code, 6, (some .int), 4, 0, 0), (7, ⟨"LineMonitor", "block", "(III)I"⟩, prog_1_method_10_code, 5, (some .int), 3, 0, 0), (7, ⟨"LineMonitor", "switches", "(II)I"⟩, prog_1_method_11_code, 4, (some .int), 2, 0, 0), (7, ⟨"LineMonitor", "start", "(II)I"⟩, prog_1_method_12_code, 4, (some .int), 2, 0, 0), (7, ⟨"LineMonitor", "key", "(II)I"⟩, prog_1_method_13_code, 4, (some .int), 2, 0, 0), (7, ⟨"LineMonitor", "run", "(I)I"⟩, prog_1_method_14_code, 4, (some .int), 1, 0, 0), (7, ⟨"LineMonitor", "about", "(II)I"⟩, prog_1_method_15_code, 4, (some .int), 2, 0, 0)]
def mTb_3 : List (Nat × MethodName × ByteArray × Nat × Option FieldType × Nat × Nat × Nat) := [(7, ⟨"LineMonitor", "letter", "(II)I"⟩, prog_1_method_16_code, 4, (some .int), 2, 0, 0), (7, ⟨"LineMonitor", "waiting", "(II)I"⟩, prog_1_method_17_code, 4, (some .int), 2, 0, 0), (7, ⟨"LineMonitor", "queued", "(II)I"⟩, prog_1_method_18_code, 4, (some .int), 2, 0, 0), (7, ⟨"LineMonitor", "house", "(I)I"⟩, prog_1_method_19_code, 2, (some .int), 1, 0, 0), (7, ⟨"LineMonitor", "row", "(I)I"⟩, prog_1_method_20_code, 2, (some .int), 1, 0, 0), (7, ⟨"LineMonitor", "digest", "()J"⟩, prog_1_method_21_code, 5, (some .long), 0, 0, 0), (7, ⟨"LineMonitor", "digestOf", "(LLineMonitor$User;J)J"⟩, prog_1_method_22_code, 9, (some .long), 2, 0, 0), (7, ⟨"LineMonitor", "userAt", "(I)LLineMonitor$User;"⟩, prog_1_method_23_code, 2, (some (.object "LineMonitor$User")), 1, 0, 0), (7, ⟨"LineMonitor", "within", "(III)Z"⟩, prog_1_method_24_code, 3, (some .boolean), 3, 0, 0), (7, ⟨"LineMonitor", "isWord", "(I)Z"⟩, prog_1_method_25_code, 1, (some .boolean), 1, 0, 0), (7, ⟨"LineMonitor", "isInFile", "(II)Z"⟩, prog_1_method_26_code, 2, (some .boolean), 2, 0, 0), (8, ⟨"LineMonitorModel", "<init>", "()V"⟩, prog_10_method_1_code, 1, none, 0, 24, 86736), (8, ⟨"LineMonitorModel", "three", "(IIII)V"⟩, prog_10_method_2_code, 5, none, 4, 0, 0), (8, ⟨"LineMonitorModel", "isIn", "(III)Z"⟩, prog_10_method_3_code, 3, (some .boolean), 3, 0, 0), (8, ⟨"LineMonitorModel", "isUser", "(I)Z"⟩, prog_10_method_4_code, 2, (some .boolean), 1, 0, 0), (8, ⟨"LineMonitorModel", "get", "(II)I"⟩, prog_10_method_5_code, 3, (some .int), 2, 0, 0), (8, ⟨"LineMonitorModel", "set", "(III)V"⟩, prog_10_method_6_code, 4, none, 3, 0, 0), (8, ⟨"LineMonitorModel", "sum", "(II)V"⟩, prog_10_method_7_code, 3, none, 2, 0, 0), (8, ⟨"LineMonitorModel", "skip", "(IZ)V"⟩, prog_10_method_8_code, 3, none, 2, 0, 0), (8, ⟨"LineMonitorModel", "doInstruction", "(I)V"⟩, prog_10_method_9_code, 4, none, 1, 0, 0), (8, ⟨"LineMonitorModel", "memory", "(III)V"⟩, prog_10_method_10_code, 5, none, 3, 0, 0), (8, ⟨"LineMonitorModel", "turns", "(II)V"⟩, prog_10_method_11_code, 7, none, 2, 0, 0), (8, ⟨"LineMonitorModel", "skips", "(II)V"⟩, prog_10_method_12_code, 4, none, 2, 0, 0), (8, ⟨"LineMonitorModel", "device", "(III)V"⟩, prog_10_method_13_code, 4, none, 3, 0, 0), (8, ⟨"LineMonitorModel", "taken", "([I[II)I"⟩, prog_10_method_14_code, 5, (some .int), 3, 0, 0), (8, ⟨"LineMonitorModel", "transfer", "(IZ)V"⟩, prog_10_method_15_code, 6, none, 2, 0, 0), (8, ⟨"LineMonitorModel", "leave", "(II)V"⟩, prog_10_method_16_code, 3, none, 2, 0, 0), (8, ⟨"LineMonitorModel", "ready", "(I)V"⟩, prog_10_method_17_code, 2, none, 1, 0, 0), (8, ⟨"LineMonitorModel", "tick", "()V"⟩, prog_10_method_18_code, 2, none, 0, 0, 0), (8, ⟨"LineMonitorModel", "dispatch", "()V"⟩, prog_10_method_19_code, 3, none, 0, 0, 0)]
def mTb_4 : List (Nat × MethodName × ByteArray × Nat × Option FieldType × Nat × Nat × Nat) := [(8, ⟨"LineMonitorModel", "step", "()V"⟩, prog_10_method_20_code, 1, none, 0, 0, 0), (8, ⟨"LineMonitorModel", "open", "(IIII)I"⟩, prog_10_method_21_code, 5, (some .int), 4, 0, 0), (8, ⟨"LineMonitorModel", "lay", "(I)V"⟩, prog_10_method_22_code, 3, none, 1, 0, 0), (8, ⟨"LineMonitorModel", "feed", "(IIIII)I"⟩, prog_10_method_23_code, 6, (some .int), 5, 0, 0), (8, ⟨"LineMonitorModel", "end", "(I)I"⟩, prog_10_method_24_code, 2, (some .int), 1, 0, 0), (8, ⟨"LineMonitorModel", "fault", "(I)I"⟩, prog_10_method_25_code, 2, (some .int), 1, 0, 0), (8, ⟨"LineMonitorModel", "poke", "(III)I"⟩, prog_10_method_26_code, 4, (some .int), 3, 0, 0), (8, ⟨"LineMonitorModel", "peek", "(II)I"⟩, prog_10_method_27_code, 3, (some .int), 2, 0, 0), (8, ⟨"LineMonitorModel", "isPlace", "(III)Z"⟩, prog_10_method_28_code, 4, (some .boolean), 3, 0, 0), (8, ⟨"LineMonitorModel", "store", "(IIII)I"⟩, prog_10_method_29_code, 5, (some .int), 4, 0, 0), (8, ⟨"LineMonitorModel", "block", "(III)I"⟩, prog_10_method_30_code, 4, (some .int), 3, 0, 0), (8, ⟨"LineMonitorModel", "switches", "(II)I"⟩, prog_10_method_31_code, 3, (some .int), 2, 0, 0), (8, ⟨"LineMonitorModel", "start", "(II)I"⟩, prog_10_method_32_code, 3, (some .int), 2, 0, 0), (8, ⟨"LineMonitorModel", "key", "(II)I"⟩, prog_10_method_33_code, 3, (some .int), 2, 0, 0), (8, ⟨"LineMonitorModel", "run", "(I)I"⟩, prog_10_method_34_code, 4, (some .int), 1, 0, 0), (8, ⟨"LineMonitorModel", "about", "(II)I"⟩, prog_10_method_35_code, 3, (some .int), 2, 0, 0), (8, ⟨"LineMonitorModel", "letter", "(II)I"⟩, prog_10_method_36_code, 3, (some .int), 2, 0, 0), (8, ⟨"LineMonitorModel", "waiting", "(II)I"⟩, prog_10_method_37_code, 3, (some .int), 2, 0, 0), (8, ⟨"LineMonitorModel", "queued", "(II)I"⟩, prog_10_method_38_code, 3, (some .int), 2, 0, 0), (8, ⟨"LineMonitorModel", "house", "(I)I"⟩, prog_10_method_39_code, 2, (some .int), 1, 0, 0), (8, ⟨"LineMonitorModel", "row", "(I)I"⟩, prog_10_method_40_code, 2, (some .int), 1, 0, 0), (8, ⟨"LineMonitorModel", "digest", "()J"⟩, prog_10_method_41_code, 5, (some .long), 0, 0, 0), (8, ⟨"LineMonitorModel", "isLetter", "(I)Z"⟩, prog_10_method_42_code, 1, (some .boolean), 1, 0, 0), (8, ⟨"LineMonitorModel", "isDigit", "(I)Z"⟩, prog_10_method_43_code, 1, (some .boolean), 1, 0, 0), (8, ⟨"LineMonitorModel", "signOf", "(I)I"⟩, prog_10_method_44_code, 1, (some .int), 1, 0, 0), (8, ⟨"LineMonitorModel", "look", "(I)I"⟩, prog_10_method_45_code, 2, (some .int), 1, 0, 0), (8, ⟨"LineMonitorModel", "blanks", "()V"⟩, prog_10_method_46_code, 1, none, 0, 0, 0), (8, ⟨"LineMonitorModel", "wordEnd", "(I)I"⟩, prog_10_method_47_code, 3, (some .int), 1, 0, 0), (8, ⟨"LineMonitorModel", "isName", "(I)Z"⟩, prog_10_method_48_code, 2, (some .boolean), 1, 0, 0), (8, ⟨"LineMonitorModel", "nameAt", "(I)J"⟩, prog_10_method_49_code, 6, (some .long), 1, 0, 0)]
def mTb_5 : List (Nat × MethodName × ByteArray × Nat × Option FieldType × Nat × Nat × Nat) := [(8, ⟨"LineMonitorModel", "find", "(J)I"⟩, prog_10_method_50_code, 5, (some .int), 1, 0, 0), (8, ⟨"LineMonitorModel", "memoryAt", "(I)I"⟩, prog_10_method_51_code, 3, (some .int), 1, 0, 0), (8, ⟨"LineMonitorModel", "isLabel", "()Z"⟩, prog_10_method_52_code, 1, (some .boolean), 0, 0, 0), (8, ⟨"LineMonitorModel", "isTelling", "()Z"⟩, prog_10_method_53_code, 1, (some .boolean), 0, 0, 0), (8, ⟨"LineMonitorModel", "isBy", "()Z"⟩, prog_10_method_54_code, 3, (some .boolean), 0, 0, 0), (8, ⟨"LineMonitorModel", "term", "(I)Z"⟩, prog_10_method_55_code, 5, (some .boolean), 1, 0, 0), (8, ⟨"LineMonitorModel", "expression", "()Z"⟩, prog_10_method_56_code, 3, (some .boolean), 0, 0, 0), (8, ⟨"LineMonitorModel", "ends", "()Z"⟩, prog_10_method_57_code, 1, (some .boolean), 0, 0, 0), (8, ⟨"LineMonitorModel", "isRight", "()Z"⟩, prog_10_method_58_code, 1, (some .boolean), 0, 0, 0), (8, ⟨"LineMonitorModel", "isRightMemory", "()Z"⟩, prog_10_method_59_code, 1, (some .boolean), 0, 0, 0), (8, ⟨"LineMonitorModel", "isRightRow", "()Z"⟩, prog_10_method_60_code, 3, (some .boolean), 0, 0, 0), (8, ⟨"LineMonitorModel", "tell", "(JI)I"⟩, prog_10_method_61_code, 4, (some .int), 2, 0, 0), (8, ⟨"LineMonitorModel", "firstPass", "()I"⟩, prog_10_method_62_code, 5, (some .int), 0, 0, 0), (8, ⟨"LineMonitorModel", "comesTo", "(IIZ)I"⟩, prog_10_method_63_code, 4, (some .int), 3, 0, 0), (8, ⟨"LineMonitorModel", "literalFor", "(I)I"⟩, prog_10_method_64_code, 4, (some .int), 1, 0, 0), (8, ⟨"LineMonitorModel", "secondPass", "()I"⟩, prog_10_method_65_code, 2, (some .int), 0, 0, 0), (8, ⟨"LineMonitorModel", "memoryWord", "(I)I"⟩, prog_10_method_66_code, 7, (some .int), 1, 0, 0), (8, ⟨"LineMonitorModel", "rowWord", "()I"⟩, prog_10_method_67_code, 4, (some .int), 0, 0, 0), (8, ⟨"LineMonitorModel", "statement", "(III)I"⟩, prog_10_method_68_code, 4, (some .int), 3, 0, 0), (8, ⟨"LineMonitorModel", "lineIn", "(III)I"⟩, prog_10_method_69_code, 8, (some .int), 3, 0, 0), (8, ⟨"LineMonitorModel", "passes", "(I)Z"⟩, prog_10_method_70_code, 5, (some .boolean), 1, 0, 0), (8, ⟨"LineMonitorModel", "assemble", "(I)I"⟩, prog_10_method_71_code, 4, (some .int), 1, 0, 0), (10, ⟨"java/lang/String", "length", "()I"⟩, prog_11_method_54_code, 1, (some .int), 0, 0, 0), (10, ⟨"java/lang/String", "charAt", "(I)C"⟩, prog_11_method_56_code, 2, (some .char), 1, 0, 0), (10, ⟨"java/lang/String", "coder", "()B"⟩, prog_11_method_152_code, 1, (some .byte), 0, 0, 0), (10, ⟨"java/lang/String", "isLatin1", "()Z"⟩, prog_11_method_154_code, 1, (some .boolean), 0, 0, 0), (10, ⟨"java/lang/String", "checkIndex", "(II)V"⟩, prog_11_method_155_code, 2, none, 2, 0, 0), (11, ⟨"java/lang/StringLatin1", "charAt", "([BI)C"⟩, prog_12_method_2_code, 2, (some .char), 2, 0, 0), (12, ⟨"java/lang/StringUTF16", "getChar", "([BI)C"⟩, prog_13_method_5_code, 2, (some .char), 2, 0, 0), (12, ⟨"java/lang/StringUTF16", "length", "([B)I"⟩, prog_13_method_6_code, 1, (some .int), 1, 0, 0)]
def mTb_6 : List (Nat × MethodName × ByteArray × Nat × Option FieldType × Nat × Nat × Nat) := [(12, ⟨"java/lang/StringUTF16", "charAt", "([BI)C"⟩, prog_13_method_83_code, 2, (some .char), 2, 0, 0), (12, ⟨"java/lang/StringUTF16", "checkIndex", "(I[B)V"⟩, prog_13_method_91_code, 2, none, 2, 0, 0), (13, ⟨"java/util/Arrays", "fill", "([II)V"⟩, prog_14_method_103_code, 4, none, 2, 0, 0), (14, ⟨"jdk/internal/util/Preconditions", "checkIndex", "(IILjava/util/function/BiFunction;)I"⟩, prog_15_method_11_code, 3, (some .int), 3, 0, 0)]
def mTb : List (Nat × MethodName × ByteArray × Nat × Option FieldType × Nat × Nat × Nat) := mTb_0 ++ (mTb_1 ++ (mTb_2 ++ (mTb_3 ++ (mTb_4 ++ (mTb_5 ++ (mTb_6))))))
abbrev mDf : Nat × MethodName × ByteArray × Nat × Option FieldType × Nat × Nat × Nat := (99, ⟨"", "", ""⟩, ⟨#[]⟩, 0, none, 0, 0, 0)
def mRow (y : Nat) := mTb.getD y mDf
def mO (y : Nat) : Nat := (mRow y).1
def mN (y : Nat) : MethodName := (mRow y).2.1
def mB (y : Nat) : ByteArray := (mRow y).2.2.1
def mL (y : Nat) : Nat := (mRow y).2.2.2.1
def mR (y : Nat) : Option FieldType := (mRow y).2.2.2.2.1
def mA (y : Nat) : Nat := (mRow y).2.2.2.2.2.1
def mC (y : Nat) : Nat := (mRow y).2.2.2.2.2.2.1
def mS (y : Nat) : Nat := (mRow y).2.2.2.2.2.2.2
def mMany : Nat := 184
def fL_0 : List (Nat × Nat × Nat × Nat × Nat) := [(5, 9, 5, 0, 112), (4, 28, 5, 0, 113), (5, 13, 5, 1, 114), (4, 23, 5, 1, 115), (0, 67, 5, 1, 116), (7, 46, 5, 1, 117), (3, 11, 3, 0, 207), (3, 15, 3, 1, 208), (3, 61, 3, 2, 209), (4, 9, 4, 0, 225), (4, 15, 4, 1, 226), (4, 52, 4, 2, 227), (4, 19, 4, 3, 228), (4, 66, 4, 4, 229), (0, 102, 4, 5, 230), (4, 92, 4, 5, 231), (0, 111, 4, 6, 232), (4, 62, 4, 6, 233), (0, 135, 4, 7, 234), (4, 89, 4, 7, 235), (0, 138, 4, 8, 236), (4, 72, 4, 8, 237), (0, 129, 4, 9, 238), (4, 76, 4, 9, 239), (0, 105, 4, 10, 240), (4, 69, 4, 10, 241), (0, 95, 4, 11, 242), (4, 79, 4, 11, 243), (0, 108, 4, 12, 244), (4, 82, 4, 12, 245), (0, 32, 0, 0, 274), (0, 12, 0, 1, 275), (0, 41, 0, 2, 276), (0, 18, 0, 3, 277), (0, 22, 0, 4, 278), (0, 26, 0, 5, 279), (0, 45, 0, 6, 280), (0, 29, 0, 7, 281), (0, 64, 0, 8, 282), (0, 58, 0, 9, 283), (7, 74, 0, 9, 284), (0, 61, 0, 10, 285), (7, 77, 0, 10, 286), (7, 10, 7, 0, 310), (7, 21, 7, 1, 311), (7, 25, 7, 2, 312), (2, 9, 2, 0, 346), (2, 19, 2, 1, 347), (2, 15, 2, 2, 348), (6, 80, 2, 2, 349)]
def fL_1 : List (Nat × Nat × Nat × Nat × Nat) := [(6, 31, 6, 0, 357), (1, 102, 6, 0, 358), (6, 9, 6, 1, 359), (7, 64, 6, 1, 360), (6, 15, 6, 2, 361), (7, 87, 6, 2, 362), (6, 18, 6, 3, 363), (6, 24, 6, 4, 364), (7, 106, 6, 4, 365), (6, 28, 6, 5, 366), (7, 132, 6, 5, 367), (6, 35, 6, 6, 368), (7, 96, 6, 6, 369), (6, 58, 6, 7, 370), (6, 61, 6, 8, 371), (6, 74, 6, 9, 372), (7, 90, 6, 9, 373), (1, 42, 6, 10, 374), (6, 77, 6, 10, 375), (7, 93, 6, 10, 376), (1, 99, 6, 11, 377), (6, 103, 6, 11, 378), (1, 49, 6, 12, 379), (6, 115, 6, 12, 380), (7, 115, 6, 13, 381), (6, 109, 6, 13, 382), (1, 52, 6, 14, 383), (6, 112, 6, 14, 384), (6, 106, 6, 15, 385), (6, 38, 6, 16, 386), (1, 24, 1, 0, 422), (7, 150, 1, 0, 423), (1, 30, 1, 1, 424), (1, 33, 1, 2, 425), (1, 36, 1, 3, 426), (1, 11, 1, 4, 427), (1, 39, 1, 5, 428), (1, 17, 1, 6, 429), (1, 20, 1, 7, 430), (1, 45, 1, 8, 431), (1, 68, 1, 9, 432), (1, 71, 1, 10, 433), (1, 83, 1, 11, 434), (1, 59, 1, 12, 435), (1, 65, 1, 13, 436), (8, 108, 8, 0, 839), (8, 172, 8, 1, 840), (8, 166, 8, 2, 841), (8, 184, 8, 3, 842), (8, 175, 8, 4, 843)]
def fL_2 : List (Nat × Nat × Nat × Nat × Nat) := [(8, 159, 8, 5, 844), (8, 169, 8, 6, 845), (8, 7, 8, 7, 846), (8, 181, 8, 8, 847), (8, 13, 8, 9, 848), (8, 153, 8, 10, 849), (8, 16, 8, 11, 850), (8, 156, 8, 12, 851), (8, 20, 8, 13, 852), (8, 24, 8, 14, 853), (8, 27, 8, 15, 854), (8, 30, 8, 16, 855), (8, 33, 8, 17, 856), (8, 36, 8, 18, 857), (8, 39, 8, 19, 858), (8, 42, 8, 20, 859), (8, 45, 8, 21, 860), (8, 48, 8, 22, 861), (8, 51, 8, 23, 862), (8, 54, 8, 24, 863), (8, 57, 8, 25, 864), (8, 60, 8, 26, 865), (8, 63, 8, 27, 866), (8, 66, 8, 28, 867), (8, 69, 8, 29, 868), (8, 72, 8, 30, 869), (8, 193, 8, 31, 870), (8, 199, 8, 32, 871), (8, 202, 8, 33, 872), (8, 75, 8, 34, 873), (8, 79, 8, 35, 874), (8, 96, 8, 36, 875), (8, 103, 8, 37, 876), (8, 82, 8, 38, 877), (8, 85, 8, 39, 878), (8, 89, 8, 40, 879), (8, 299, 8, 41, 880), (8, 254, 8, 42, 881), (8, 231, 8, 43, 882), (8, 228, 8, 44, 883), (8, 261, 8, 45, 884), (8, 257, 8, 46, 885)]
def fL : List (Nat × Nat × Nat × Nat × Nat) := fL_0 ++ (fL_1 ++ (fL_2))
def cL_0 : List (Nat × Nat × Nat × Nat × Nat × Nat × Nat × Nat) := [(9, 9, 1, 75, 100, 101, 84, 0), (7, 1, 3, 0, 103, 0, 0, 0), (7, 9, 4, 53, 108, 109, 85, 0), (5, 1, 3, 0, 111, 0, 0, 0), (7, 18, 1, 1, 126, 127, 86, 0), (0, 3, 3, 0, 129, 0, 0, 0), (0, 11, 1, 28, 132, 133, 87, 0), (3, 3, 3, 0, 135, 0, 0, 0), (3, 24, 0, 29, 139, 141, 87, 0), (3, 51, 0, 172, 143, 144, 88, 145), (10, 335, 0, 174, 147, 148, 88, 149), (3, 57, 0, 173, 153, 154, 88, 155), (10, 492, 0, 175, 157, 158, 88, 159), (10, 495, 2, 177, 161, 162, 89, 0), (11, 9, 2, 176, 164, 165, 88, 0), (10, 1059, 2, 183, 169, 170, 90, 0), (10, 498, 2, 180, 172, 173, 91, 0), (12, 67, 2, 181, 175, 176, 91, 0), (12, 48, 2, 179, 178, 179, 91, 0), (12, 414, 2, 176, 181, 165, 88, 0), (12, 71, 2, 178, 182, 183, 91, 0), (3, 47, 0, 31, 191, 193, 87, 1), (3, 43, 2, 30, 195, 196, 87, 0), (0, 38, 1, 36, 221, 222, 92, 0), (4, 3, 3, 0, 224, 0, 0, 0), (9, 13, 0, 76, 320, 321, 84, 322), (7, 29, 2, 98, 324, 325, 84, 0), (7, 35, 1, 13, 329, 330, 94, 0), (1, 3, 3, 0, 332, 0, 0, 0), (1, 27, 1, 58, 336, 337, 95, 0), (6, 3, 3, 0, 339, 0, 0, 0), (6, 23, 4, 24, 342, 343, 96, 0), (2, 3, 3, 0, 345, 0, 0, 0), (9, 18, 0, 77, 466, 467, 84, 468), (7, 38, 0, 54, 470, 471, 85, 472), (7, 42, 0, 55, 474, 475, 85, 476), (5, 17, 0, 54, 478, 471, 85, 472), (9, 23, 0, 78, 479, 480, 84, 481), (7, 50, 0, 56, 483, 484, 85, 485), (9, 28, 0, 79, 487, 488, 84, 489), (7, 53, 0, 97, 491, 493, 84, 2), (7, 57, 0, 2, 495, 496, 86, 497), (0, 49, 2, 182, 499, 500, 97, 0), (0, 55, 0, 32, 502, 503, 87, 504), (7, 60, 0, 3, 506, 507, 86, 508), (0, 72, 0, 57, 510, 511, 85, 512), (0, 76, 0, 43, 514, 515, 92, 516), (4, 49, 0, 40, 518, 520, 92, 3), (4, 32, 0, 37, 522, 524, 92, 4), (0, 80, 0, 4, 526, 528, 86, 5)]
def cL_1 : List (Nat × Nat × Nat × Nat × Nat × Nat × Nat × Nat) := [(0, 88, 0, 5, 530, 532, 86, 6), (0, 119, 0, 44, 534, 535, 92, 536), (4, 55, 0, 41, 538, 540, 92, 7), (4, 36, 2, 38, 542, 543, 92, 0), (4, 40, 2, 39, 545, 546, 92, 0), (4, 58, 0, 42, 548, 550, 92, 8), (4, 45, 2, 30, 552, 196, 87, 0), (0, 91, 0, 45, 553, 554, 92, 555), (4, 85, 0, 33, 557, 558, 87, 559), (4, 95, 0, 50, 561, 563, 92, 9), (4, 112, 0, 51, 565, 567, 92, 10), (4, 115, 0, 52, 569, 571, 92, 11), (4, 118, 0, 34, 573, 574, 87, 575), (3, 65, 0, 33, 577, 558, 87, 559), (4, 99, 0, 47, 578, 580, 92, 12), (4, 109, 2, 48, 582, 583, 92, 0), (4, 102, 0, 49, 585, 587, 92, 13), (4, 105, 0, 46, 589, 591, 92, 14), (0, 99, 0, 6, 593, 595, 86, 15), (0, 115, 0, 35, 597, 598, 87, 599), (0, 84, 0, 7, 601, 603, 86, 16), (0, 123, 0, 8, 605, 607, 86, 17), (0, 132, 0, 9, 609, 611, 86, 18), (0, 141, 0, 11, 613, 615, 86, 19), (0, 126, 0, 10, 617, 619, 86, 20), (7, 70, 0, 12, 621, 622, 86, 623), (9, 32, 0, 80, 625, 626, 84, 627), (9, 36, 0, 81, 629, 630, 84, 631), (7, 80, 2, 99, 633, 634, 84, 0), (9, 41, 0, 82, 636, 637, 84, 638), (9, 46, 0, 83, 640, 641, 84, 642), (7, 83, 2, 100, 644, 645, 84, 0), (9, 50, 0, 84, 647, 648, 84, 649), (9, 54, 0, 85, 651, 652, 84, 653), (9, 58, 0, 86, 655, 656, 84, 657), (7, 99, 0, 14, 659, 660, 94, 661), (7, 103, 0, 15, 663, 664, 94, 665), (1, 55, 0, 16, 667, 669, 94, 21), (9, 62, 0, 87, 671, 672, 84, 673), (7, 110, 0, 25, 675, 676, 96, 677), (9, 66, 0, 88, 679, 680, 84, 681), (7, 118, 0, 17, 683, 684, 94, 685), (1, 62, 0, 18, 687, 689, 94, 22), (1, 80, 0, 59, 691, 692, 95, 693), (6, 41, 0, 60, 695, 697, 95, 23), (6, 44, 0, 62, 699, 701, 95, 24), (6, 64, 0, 63, 703, 705, 95, 25), (6, 68, 0, 61, 707, 709, 95, 26), (6, 48, 0, 67, 711, 713, 95, 27), (6, 83, 0, 68, 715, 717, 95, 28)]
def cL_2 : List (Nat × Nat × Nat × Nat × Nat × Nat × Nat × Nat) := [(6, 99, 0, 26, 719, 720, 96, 721), (2, 22, 0, 27, 723, 724, 96, 725), (6, 89, 0, 69, 727, 729, 95, 29), (6, 86, 0, 25, 731, 676, 96, 677), (6, 92, 0, 70, 732, 734, 95, 30), (6, 95, 0, 71, 736, 738, 95, 31), (6, 51, 0, 64, 740, 742, 95, 32), (6, 71, 0, 65, 744, 746, 95, 33), (6, 55, 0, 66, 748, 750, 95, 34), (1, 74, 0, 19, 752, 754, 94, 35), (1, 86, 0, 20, 756, 758, 94, 36), (1, 92, 0, 72, 760, 761, 95, 762), (1, 96, 0, 14, 764, 660, 94, 661), (1, 89, 0, 21, 765, 767, 94, 37), (1, 77, 0, 15, 769, 664, 94, 665), (9, 70, 0, 89, 770, 771, 84, 772), (7, 122, 0, 74, 774, 775, 95, 776), (9, 74, 0, 90, 778, 779, 84, 780), (7, 126, 0, 73, 782, 783, 95, 784), (9, 78, 0, 91, 786, 787, 84, 788), (7, 129, 0, 27, 790, 724, 96, 725), (9, 82, 0, 92, 791, 792, 84, 793), (9, 86, 0, 93, 795, 796, 84, 797), (7, 135, 0, 23, 799, 800, 94, 801), (9, 90, 0, 94, 803, 804, 84, 805), (7, 136, 0, 22, 807, 808, 94, 809), (9, 94, 0, 95, 811, 812, 84, 813), (7, 143, 0, 93, 817, 796, 84, 797), (7, 146, 2, 96, 818, 819, 84, 0), (9, 12, 1, 101, 823, 824, 93, 0), (8, 1, 3, 0, 826, 0, 0, 0), (8, 92, 0, 102, 828, 830, 93, 38), (8, 99, 2, 144, 832, 833, 93, 0), (8, 225, 2, 142, 835, 836, 93, 0), (9, 17, 0, 121, 981, 982, 93, 983), (8, 111, 2, 103, 985, 986, 93, 0), (9, 22, 0, 123, 988, 989, 93, 990), (8, 196, 0, 122, 992, 994, 93, 39), (9, 27, 0, 124, 996, 997, 93, 998), (9, 35, 0, 125, 1000, 1001, 93, 1002), (9, 40, 0, 126, 1004, 1005, 93, 1006), (8, 205, 0, 104, 1008, 1010, 93, 40), (8, 133, 0, 106, 1012, 1014, 93, 41), (9, 45, 0, 127, 1016, 1017, 93, 1018), (8, 115, 0, 105, 1020, 1022, 93, 42), (9, 49, 0, 129, 1024, 1025, 93, 1026), (8, 209, 0, 128, 1028, 1030, 93, 43), (9, 53, 0, 130, 1032, 1033, 93, 1034), (9, 57, 0, 131, 1036, 1037, 93, 1038), (9, 61, 0, 132, 1040, 1041, 93, 1042)]
def cL_3 : List (Nat × Nat × Nat × Nat × Nat × Nat × Nat × Nat) := [(8, 162, 0, 117, 1044, 1046, 93, 44), (8, 190, 0, 119, 1048, 1050, 93, 45), (9, 65, 0, 133, 1052, 1053, 93, 1054), (9, 69, 0, 134, 1056, 1057, 93, 1058), (8, 212, 0, 120, 1060, 1062, 93, 46), (8, 178, 0, 109, 1064, 1066, 93, 47), (8, 119, 0, 110, 1068, 1070, 93, 48), (8, 136, 0, 107, 1072, 1074, 93, 49), (8, 139, 0, 108, 1076, 1078, 93, 50), (8, 123, 0, 113, 1080, 1082, 93, 51), (8, 143, 0, 116, 1084, 1086, 93, 52), (8, 146, 2, 114, 1088, 1089, 93, 0), (8, 150, 0, 115, 1091, 1093, 93, 53), (8, 126, 0, 111, 1095, 1097, 93, 54), (8, 130, 0, 112, 1099, 1101, 93, 55), (8, 187, 0, 118, 1103, 1105, 93, 56), (9, 73, 0, 135, 1107, 1108, 93, 1109), (9, 77, 0, 136, 1111, 1112, 93, 1113), (9, 81, 0, 137, 1115, 1116, 93, 1117), (9, 85, 0, 138, 1119, 1120, 93, 1121), (9, 89, 0, 139, 1123, 1124, 93, 1125), (9, 93, 0, 140, 1127, 1128, 93, 1129), (9, 98, 0, 141, 1131, 1132, 93, 1133), (8, 219, 0, 139, 1137, 1124, 93, 1125), (8, 222, 0, 135, 1138, 1108, 93, 1109), (9, 31, 0, 171, 1139, 1140, 93, 1141), (8, 332, 0, 170, 1143, 1145, 93, 57), (8, 329, 0, 169, 1147, 1149, 93, 58), (8, 325, 0, 168, 1151, 1153, 93, 59), (8, 316, 0, 165, 1155, 1157, 93, 60), (8, 267, 0, 146, 1159, 1161, 93, 61), (8, 270, 0, 152, 1163, 1165, 93, 62), (8, 243, 0, 148, 1167, 1169, 93, 63), (8, 237, 0, 145, 1171, 1173, 93, 64), (8, 240, 0, 147, 1175, 1177, 93, 65), (8, 234, 2, 143, 1179, 1180, 93, 0), (8, 280, 0, 153, 1182, 1184, 93, 66), (8, 274, 0, 156, 1186, 1188, 93, 67), (8, 264, 0, 155, 1190, 1192, 93, 68), (8, 246, 0, 149, 1194, 1196, 93, 69), (8, 250, 0, 150, 1198, 1200, 93, 70), (8, 283, 0, 151, 1202, 1204, 93, 71), (8, 306, 0, 166, 1206, 1208, 93, 72), (8, 292, 0, 154, 1210, 1212, 93, 73), (8, 313, 0, 164, 1214, 1216, 93, 74), (8, 302, 0, 163, 1218, 1220, 93, 75), (8, 309, 0, 167, 1222, 1224, 93, 76), (8, 319, 0, 158, 1226, 1228, 93, 77), (8, 277, 0, 157, 1230, 1232, 93, 78), (8, 286, 0, 159, 1234, 1236, 93, 79)]
def cL_4 : List (Nat × Nat × Nat × Nat × Nat × Nat × Nat × Nat) := [(8, 289, 0, 160, 1238, 1240, 93, 80), (8, 322, 0, 162, 1242, 1244, 93, 81), (8, 295, 0, 161, 1246, 1248, 93, 82)]
def cL : List (Nat × Nat × Nat × Nat × Nat × Nat × Nat × Nat) := cL_0 ++ (cL_1 ++ (cL_2 ++ (cL_3 ++ (cL_4))))
def nL_0 : List (Nat × Nat × Nat × Nat × Nat × Nat) := [(9, 7, 7, 98, 99, 84), (7, 7, 5, 106, 107, 85), (7, 16, 0, 124, 125, 86), (0, 9, 3, 130, 131, 87), (0, 36, 4, 219, 220, 92), (7, 33, 1, 327, 328, 94), (1, 9, 6, 333, 335, 95), (6, 21, 2, 340, 341, 96), (9, 10, 8, 821, 822, 93)]
def nL : List (Nat × Nat × Nat × Nat × Nat × Nat) := nL_0
def sL_0 : List (Nat × Nat × Nat × Nat) := [(3, 21, 0, 137), (10, 38, 1, 151), (10, 1053, 2, 167), (12, 44, 3, 185), (12, 59, 4, 187), (12, 63, 5, 189), (3, 30, 6, 199), (3, 35, 7, 202), (3, 40, 8, 205)]
def sL : List (Nat × Nat × Nat × Nat) := sL_0
def kL_0 : List (Nat × Nat × Value × Nat) := [(7, 139, .long 7, 815), (7, 141, .long 31, 816), (8, 23, .int 32768, 827), (8, 106, .long 37, 838), (8, 215, .long 7, 1135), (8, 217, .long 31, 1136)]
def kL : List (Nat × Nat × Value × Nat) := kL_0
def stL : List (String × String × String) := [("LineMonitor$Names", "MEMORY_VALUES", "[I"), ("java/lang/String", "COMPACT_STRINGS", "Z"), ("jdk/internal/util/Preconditions", "SIOOBE_FORMATTER", "Ljava/util/function/BiFunction;"), ("java/lang/StringUTF16", "$assertionsDisabled", "Z"), ("java/lang/StringUTF16", "HI_BYTE_SHIFT", "I"), ("java/lang/StringUTF16", "LO_BYTE_SHIFT", "I"), ("LineMonitor$Names", "OPERATION_VALUES", "[I"), ("LineMonitor$Names", "TEST_VALUES", "[I"), ("LineMonitor$Names", "DEVICE_VALUES", "[I")]
def gL : List (Nat × Nat × String × Nat) := [(3, 19, "AND TAD ISZ DCA JMS JMP ", 136), (3, 28, "CLA CLL CMA CML RAR RAL RTR RTL IAC NOP ", 198), (3, 33, "SMA SZA SPA SNA SNL SZL SKP OSR HLT CIA ", 201), (3, 38, "KSF KRB TSF TLS SLP RDB WRB WHO ", 204)]
def lyP0 : List Nat := [287, 289, 291, 293, 295, 297, 299, 301, 303, 305, 307]
def lyP1 : List Nat := [437, 439, 441, 443, 445, 447, 449, 451, 453, 455, 457, 459, 461, 463]
def lyP2 : List Nat := [350, 352, 354]
def lyP3 : List Nat := [210, 212, 214]
def lyP4 : List Nat := [246, 248, 250, 252, 254, 256, 258, 260, 262, 264, 266, 268, 270]
def lyP5 : List Nat := [118, 120]
def lyP6 : List Nat := [387, 389, 391, 393, 395, 397, 399, 401, 403, 405, 407, 409, 411, 413, 415, 417, 419]
def lyP7 : List Nat := [313, 315, 317]
def lyP8 : List Nat := [886, 888, 890, 892, 894, 896, 898, 900, 902, 904, 906, 908, 910, 912, 914, 916, 918, 920, 922, 924, 926, 928, 930, 932, 934, 936, 938, 940, 942, 944, 946, 948, 950, 952, 954, 956, 958, 960, 962, 964, 966, 968, 970, 972, 974, 976, 978]
def tyOf (ci k : Nat) : FieldType := match ci with
  | 0 => tyX0 k
  | 1 => tyX1 k
  | 2 => tyX2 k
  | 3 => tyX3 k
  | 4 => tyX4 k
  | 5 => tyX5 k
  | 6 => tyX6 k
  | 7 => tyX7 k
  | 8 => tyX8 k
  | _ => .int
def lyP : List (List Nat) := [lyP0, lyP1, lyP2, lyP3, lyP4, lyP5, lyP6, lyP7, lyP8]
def acP : List (FieldType × Nat) := [(.int, 218), (.byte, 123), (.long, 217), (.boolean, 273)]
def mPs : List Nat := [0, 128, 498, 509, 529, 533, 596, 604, 608, 612, 620, 616, 624, 331, 662, 666, 670, 686, 690, 755, 759, 768, 810, 802, 344, 678, 722, 726, 134, 142, 197, 194, 505, 560, 576, 600, 223, 525, 544, 547, 521, 541, 551, 517, 537, 556, 592, 581, 584, 588, 564, 568, 572, 110, 473, 477, 486, 513, 338, 694, 698, 710, 702, 706, 743, 747, 751, 714, 718, 730, 735, 739, 763, 785, 777, 102, 323, 469, 482, 490, 628, 632, 639, 643, 650, 654, 658, 674, 682, 773, 781, 789, 794, 798, 806, 814, 820, 494, 326, 635, 646, 825, 831, 987, 1011, 1023, 1015, 1075, 1079, 1067, 1071, 1098, 1102, 1083, 1090, 1094, 1087, 1047, 1106, 1051, 1063, 984, 995, 991, 999, 1003, 1007, 1019, 1031, 1027, 1035, 1039, 1043, 1055, 1059, 1110, 1114, 1118, 1122, 1126, 1130, 1134, 837, 1181, 834, 1174, 1162, 1178, 1170, 1197, 1201, 1205, 1166, 1185, 1213, 1193, 1189, 1233, 1229, 1237, 1241, 1249, 1245, 1221, 1217, 1158, 1209, 1225, 1154, 1150, 1146, 1142, 146, 156, 150, 160, 166, 163, 184, 180, 174, 177, 501, 171]
set_option maxRecDepth 100000 in
theorem mc_1 : lw_tbl[128]? = some (Cond.code (mN 1) (mB 1) (mL 1) (mR 1)) := rfl
set_option maxRecDepth 100000 in
theorem mc_2 : lw_tbl[498]? = some (Cond.code (mN 2) (mB 2) (mL 2) (mR 2)) := rfl
set_option maxRecDepth 100000 in
theorem mc_3 : lw_tbl[509]? = some (Cond.code (mN 3) (mB 3) (mL 3) (mR 3)) := rfl
set_option maxRecDepth 100000 in
theorem mc_4 : lw_tbl[529]? = some (Cond.code (mN 4) (mB 4) (mL 4) (mR 4)) := rfl
set_option maxRecDepth 100000 in
theorem mc_5 : lw_tbl[533]? = some (Cond.code (mN 5) (mB 5) (mL 5) (mR 5)) := rfl
set_option maxRecDepth 100000 in
theorem mc_6 : lw_tbl[596]? = some (Cond.code (mN 6) (mB 6) (mL 6) (mR 6)) := rfl
set_option maxRecDepth 100000 in
theorem mc_7 : lw_tbl[604]? = some (Cond.code (mN 7) (mB 7) (mL 7) (mR 7)) := rfl
set_option maxRecDepth 100000 in
theorem mc_8 : lw_tbl[608]? = some (Cond.code (mN 8) (mB 8) (mL 8) (mR 8)) := rfl
set_option maxRecDepth 100000 in
theorem mc_9 : lw_tbl[612]? = some (Cond.code (mN 9) (mB 9) (mL 9) (mR 9)) := rfl
set_option maxRecDepth 100000 in
theorem mc_10 : lw_tbl[620]? = some (Cond.code (mN 10) (mB 10) (mL 10) (mR 10)) := rfl
set_option maxRecDepth 100000 in
theorem mc_11 : lw_tbl[616]? = some (Cond.code (mN 11) (mB 11) (mL 11) (mR 11)) := rfl
set_option maxRecDepth 100000 in
theorem mc_12 : lw_tbl[624]? = some (Cond.code (mN 12) (mB 12) (mL 12) (mR 12)) := rfl
set_option maxRecDepth 100000 in
theorem mc_13 : lw_tbl[331]? = some (Cond.code (mN 13) (mB 13) (mL 13) (mR 13)) := rfl
set_option maxRecDepth 100000 in
theorem mc_14 : lw_tbl[662]? = some (Cond.code (mN 14) (mB 14) (mL 14) (mR 14)) := rfl
set_option maxRecDepth 100000 in
theorem mc_15 : lw_tbl[666]? = some (Cond.code (mN 15) (mB 15) (mL 15) (mR 15)) := rfl
set_option maxRecDepth 100000 in
theorem mc_16 : lw_tbl[670]? = some (Cond.code (mN 16) (mB 16) (mL 16) (mR 16)) := rfl
set_option maxRecDepth 100000 in
theorem mc_17 : lw_tbl[686]? = some (Cond.code (mN 17) (mB 17) (mL 17) (mR 17)) := rfl
set_option maxRecDepth 100000 in
theorem mc_18 : lw_tbl[690]? = some (Cond.code (mN 18) (mB 18) (mL 18) (mR 18)) := rfl
set_option maxRecDepth 100000 in
theorem mc_19 : lw_tbl[755]? = some (Cond.code (mN 19) (mB 19) (mL 19) (mR 19)) := rfl
set_option maxRecDepth 100000 in
theorem mc_20 : lw_tbl[759]? = some (Cond.code (mN 20) (mB 20) (mL 20) (mR 20)) := rfl
set_option maxRecDepth 100000 in
theorem mc_21 : lw_tbl[768]? = some (Cond.code (mN 21) (mB 21) (mL 21) (mR 21)) := rfl
set_option maxRecDepth 100000 in
theorem mc_22 : lw_tbl[810]? = some (Cond.code (mN 22) (mB 22) (mL 22) (mR 22)) := rfl
set_option maxRecDepth 100000 in
theorem mc_23 : lw_tbl[802]? = some (Cond.code (mN 23) (mB 23) (mL 23) (mR 23)) := rfl
set_option maxRecDepth 100000 in
theorem mc_24 : lw_tbl[344]? = some (Cond.code (mN 24) (mB 24) (mL 24) (mR 24)) := rfl
set_option maxRecDepth 100000 in
theorem mc_25 : lw_tbl[678]? = some (Cond.code (mN 25) (mB 25) (mL 25) (mR 25)) := rfl
set_option maxRecDepth 100000 in
theorem mc_26 : lw_tbl[722]? = some (Cond.code (mN 26) (mB 26) (mL 26) (mR 26)) := rfl
set_option maxRecDepth 100000 in
theorem mc_27 : lw_tbl[726]? = some (Cond.code (mN 27) (mB 27) (mL 27) (mR 27)) := rfl
set_option maxRecDepth 100000 in
theorem mc_28 : lw_tbl[134]? = some (Cond.code (mN 28) (mB 28) (mL 28) (mR 28)) := rfl
set_option maxRecDepth 100000 in
theorem mc_29 : lw_tbl[142]? = some (Cond.code (mN 29) (mB 29) (mL 29) (mR 29)) := rfl
set_option maxRecDepth 100000 in
theorem mc_30 : lw_tbl[197]? = some (Cond.code (mN 30) (mB 30) (mL 30) (mR 30)) := rfl
set_option maxRecDepth 100000 in
theorem mc_31 : lw_tbl[194]? = some (Cond.code (mN 31) (mB 31) (mL 31) (mR 31)) := rfl
set_option maxRecDepth 100000 in
theorem mc_32 : lw_tbl[505]? = some (Cond.code (mN 32) (mB 32) (mL 32) (mR 32)) := rfl
set_option maxRecDepth 100000 in
theorem mc_33 : lw_tbl[560]? = some (Cond.code (mN 33) (mB 33) (mL 33) (mR 33)) := rfl
set_option maxRecDepth 100000 in
theorem mc_34 : lw_tbl[576]? = some (Cond.code (mN 34) (mB 34) (mL 34) (mR 34)) := rfl
set_option maxRecDepth 100000 in
theorem mc_35 : lw_tbl[600]? = some (Cond.code (mN 35) (mB 35) (mL 35) (mR 35)) := rfl
set_option maxRecDepth 100000 in
theorem mc_36 : lw_tbl[223]? = some (Cond.code (mN 36) (mB 36) (mL 36) (mR 36)) := rfl
set_option maxRecDepth 100000 in
theorem mc_37 : lw_tbl[525]? = some (Cond.code (mN 37) (mB 37) (mL 37) (mR 37)) := rfl
set_option maxRecDepth 100000 in
theorem mc_38 : lw_tbl[544]? = some (Cond.code (mN 38) (mB 38) (mL 38) (mR 38)) := rfl
set_option maxRecDepth 100000 in
theorem mc_39 : lw_tbl[547]? = some (Cond.code (mN 39) (mB 39) (mL 39) (mR 39)) := rfl
set_option maxRecDepth 100000 in
theorem mc_40 : lw_tbl[521]? = some (Cond.code (mN 40) (mB 40) (mL 40) (mR 40)) := rfl
set_option maxRecDepth 100000 in
theorem mc_41 : lw_tbl[541]? = some (Cond.code (mN 41) (mB 41) (mL 41) (mR 41)) := rfl
set_option maxRecDepth 100000 in
theorem mc_42 : lw_tbl[551]? = some (Cond.code (mN 42) (mB 42) (mL 42) (mR 42)) := rfl
set_option maxRecDepth 100000 in
theorem mc_43 : lw_tbl[517]? = some (Cond.code (mN 43) (mB 43) (mL 43) (mR 43)) := rfl
set_option maxRecDepth 100000 in
theorem mc_44 : lw_tbl[537]? = some (Cond.code (mN 44) (mB 44) (mL 44) (mR 44)) := rfl
set_option maxRecDepth 100000 in
theorem mc_45 : lw_tbl[556]? = some (Cond.code (mN 45) (mB 45) (mL 45) (mR 45)) := rfl
set_option maxRecDepth 100000 in
theorem mc_46 : lw_tbl[592]? = some (Cond.code (mN 46) (mB 46) (mL 46) (mR 46)) := rfl
set_option maxRecDepth 100000 in
theorem mc_47 : lw_tbl[581]? = some (Cond.code (mN 47) (mB 47) (mL 47) (mR 47)) := rfl
set_option maxRecDepth 100000 in
theorem mc_48 : lw_tbl[584]? = some (Cond.code (mN 48) (mB 48) (mL 48) (mR 48)) := rfl
set_option maxRecDepth 100000 in
theorem mc_49 : lw_tbl[588]? = some (Cond.code (mN 49) (mB 49) (mL 49) (mR 49)) := rfl
set_option maxRecDepth 100000 in
theorem mc_50 : lw_tbl[564]? = some (Cond.code (mN 50) (mB 50) (mL 50) (mR 50)) := rfl
set_option maxRecDepth 100000 in
theorem mc_51 : lw_tbl[568]? = some (Cond.code (mN 51) (mB 51) (mL 51) (mR 51)) := rfl
set_option maxRecDepth 100000 in
theorem mc_52 : lw_tbl[572]? = some (Cond.code (mN 52) (mB 52) (mL 52) (mR 52)) := rfl
set_option maxRecDepth 100000 in
theorem mc_53 : lw_tbl[110]? = some (Cond.code (mN 53) (mB 53) (mL 53) (mR 53)) := rfl
set_option maxRecDepth 100000 in
theorem mc_54 : lw_tbl[473]? = some (Cond.code (mN 54) (mB 54) (mL 54) (mR 54)) := rfl
set_option maxRecDepth 100000 in
theorem mc_55 : lw_tbl[477]? = some (Cond.code (mN 55) (mB 55) (mL 55) (mR 55)) := rfl
set_option maxRecDepth 100000 in
theorem mc_56 : lw_tbl[486]? = some (Cond.code (mN 56) (mB 56) (mL 56) (mR 56)) := rfl
set_option maxRecDepth 100000 in
theorem mc_57 : lw_tbl[513]? = some (Cond.code (mN 57) (mB 57) (mL 57) (mR 57)) := rfl
set_option maxRecDepth 100000 in
theorem mc_58 : lw_tbl[338]? = some (Cond.code (mN 58) (mB 58) (mL 58) (mR 58)) := rfl
set_option maxRecDepth 100000 in
theorem mc_59 : lw_tbl[694]? = some (Cond.code (mN 59) (mB 59) (mL 59) (mR 59)) := rfl
set_option maxRecDepth 100000 in
theorem mc_60 : lw_tbl[698]? = some (Cond.code (mN 60) (mB 60) (mL 60) (mR 60)) := rfl
set_option maxRecDepth 100000 in
theorem mc_61 : lw_tbl[710]? = some (Cond.code (mN 61) (mB 61) (mL 61) (mR 61)) := rfl
set_option maxRecDepth 100000 in
theorem mc_62 : lw_tbl[702]? = some (Cond.code (mN 62) (mB 62) (mL 62) (mR 62)) := rfl
set_option maxRecDepth 100000 in
theorem mc_63 : lw_tbl[706]? = some (Cond.code (mN 63) (mB 63) (mL 63) (mR 63)) := rfl
set_option maxRecDepth 100000 in
theorem mc_64 : lw_tbl[743]? = some (Cond.code (mN 64) (mB 64) (mL 64) (mR 64)) := rfl
set_option maxRecDepth 100000 in
theorem mc_65 : lw_tbl[747]? = some (Cond.code (mN 65) (mB 65) (mL 65) (mR 65)) := rfl
set_option maxRecDepth 100000 in
theorem mc_66 : lw_tbl[751]? = some (Cond.code (mN 66) (mB 66) (mL 66) (mR 66)) := rfl
set_option maxRecDepth 100000 in
theorem mc_67 : lw_tbl[714]? = some (Cond.code (mN 67) (mB 67) (mL 67) (mR 67)) := rfl
set_option maxRecDepth 100000 in
theorem mc_68 : lw_tbl[718]? = some (Cond.code (mN 68) (mB 68) (mL 68) (mR 68)) := rfl
set_option maxRecDepth 100000 in
theorem mc_69 : lw_tbl[730]? = some (Cond.code (mN 69) (mB 69) (mL 69) (mR 69)) := rfl
set_option maxRecDepth 100000 in
theorem mc_70 : lw_tbl[735]? = some (Cond.code (mN 70) (mB 70) (mL 70) (mR 70)) := rfl
set_option maxRecDepth 100000 in
theorem mc_71 : lw_tbl[739]? = some (Cond.code (mN 71) (mB 71) (mL 71) (mR 71)) := rfl
set_option maxRecDepth 100000 in
theorem mc_72 : lw_tbl[763]? = some (Cond.code (mN 72) (mB 72) (mL 72) (mR 72)) := rfl
set_option maxRecDepth 100000 in
theorem mc_73 : lw_tbl[785]? = some (Cond.code (mN 73) (mB 73) (mL 73) (mR 73)) := rfl
set_option maxRecDepth 100000 in
theorem mc_74 : lw_tbl[777]? = some (Cond.code (mN 74) (mB 74) (mL 74) (mR 74)) := rfl
set_option maxRecDepth 100000 in
theorem mc_75 : lw_tbl[102]? = some (Cond.code (mN 75) (mB 75) (mL 75) (mR 75)) := rfl
set_option maxRecDepth 100000 in
theorem mc_76 : lw_tbl[323]? = some (Cond.code (mN 76) (mB 76) (mL 76) (mR 76)) := rfl
set_option maxRecDepth 100000 in
theorem mc_77 : lw_tbl[469]? = some (Cond.code (mN 77) (mB 77) (mL 77) (mR 77)) := rfl
set_option maxRecDepth 100000 in
theorem mc_78 : lw_tbl[482]? = some (Cond.code (mN 78) (mB 78) (mL 78) (mR 78)) := rfl
set_option maxRecDepth 100000 in
theorem mc_79 : lw_tbl[490]? = some (Cond.code (mN 79) (mB 79) (mL 79) (mR 79)) := rfl
set_option maxRecDepth 100000 in
theorem mc_80 : lw_tbl[628]? = some (Cond.code (mN 80) (mB 80) (mL 80) (mR 80)) := rfl
set_option maxRecDepth 100000 in
theorem mc_81 : lw_tbl[632]? = some (Cond.code (mN 81) (mB 81) (mL 81) (mR 81)) := rfl
set_option maxRecDepth 100000 in
theorem mc_82 : lw_tbl[639]? = some (Cond.code (mN 82) (mB 82) (mL 82) (mR 82)) := rfl
set_option maxRecDepth 100000 in
theorem mc_83 : lw_tbl[643]? = some (Cond.code (mN 83) (mB 83) (mL 83) (mR 83)) := rfl
set_option maxRecDepth 100000 in
theorem mc_84 : lw_tbl[650]? = some (Cond.code (mN 84) (mB 84) (mL 84) (mR 84)) := rfl
set_option maxRecDepth 100000 in
theorem mc_85 : lw_tbl[654]? = some (Cond.code (mN 85) (mB 85) (mL 85) (mR 85)) := rfl
set_option maxRecDepth 100000 in
theorem mc_86 : lw_tbl[658]? = some (Cond.code (mN 86) (mB 86) (mL 86) (mR 86)) := rfl
set_option maxRecDepth 100000 in
theorem mc_87 : lw_tbl[674]? = some (Cond.code (mN 87) (mB 87) (mL 87) (mR 87)) := rfl
set_option maxRecDepth 100000 in
theorem mc_88 : lw_tbl[682]? = some (Cond.code (mN 88) (mB 88) (mL 88) (mR 88)) := rfl
set_option maxRecDepth 100000 in
theorem mc_89 : lw_tbl[773]? = some (Cond.code (mN 89) (mB 89) (mL 89) (mR 89)) := rfl
set_option maxRecDepth 100000 in
theorem mc_90 : lw_tbl[781]? = some (Cond.code (mN 90) (mB 90) (mL 90) (mR 90)) := rfl
set_option maxRecDepth 100000 in
theorem mc_91 : lw_tbl[789]? = some (Cond.code (mN 91) (mB 91) (mL 91) (mR 91)) := rfl
set_option maxRecDepth 100000 in
theorem mc_92 : lw_tbl[794]? = some (Cond.code (mN 92) (mB 92) (mL 92) (mR 92)) := rfl
set_option maxRecDepth 100000 in
theorem mc_93 : lw_tbl[798]? = some (Cond.code (mN 93) (mB 93) (mL 93) (mR 93)) := rfl
set_option maxRecDepth 100000 in
theorem mc_94 : lw_tbl[806]? = some (Cond.code (mN 94) (mB 94) (mL 94) (mR 94)) := rfl
set_option maxRecDepth 100000 in
theorem mc_95 : lw_tbl[814]? = some (Cond.code (mN 95) (mB 95) (mL 95) (mR 95)) := rfl
set_option maxRecDepth 100000 in
theorem mc_96 : lw_tbl[820]? = some (Cond.code (mN 96) (mB 96) (mL 96) (mR 96)) := rfl
set_option maxRecDepth 100000 in
theorem mc_97 : lw_tbl[494]? = some (Cond.code (mN 97) (mB 97) (mL 97) (mR 97)) := rfl
set_option maxRecDepth 100000 in
theorem mc_98 : lw_tbl[326]? = some (Cond.code (mN 98) (mB 98) (mL 98) (mR 98)) := rfl
set_option maxRecDepth 100000 in
theorem mc_99 : lw_tbl[635]? = some (Cond.code (mN 99) (mB 99) (mL 99) (mR 99)) := rfl
set_option maxRecDepth 100000 in
theorem mc_100 : lw_tbl[646]? = some (Cond.code (mN 100) (mB 100) (mL 100) (mR 100)) := rfl
set_option maxRecDepth 100000 in
theorem mc_101 : lw_tbl[825]? = some (Cond.code (mN 101) (mB 101) (mL 101) (mR 101)) := rfl
set_option maxRecDepth 100000 in
theorem mc_102 : lw_tbl[831]? = some (Cond.code (mN 102) (mB 102) (mL 102) (mR 102)) := rfl
set_option maxRecDepth 100000 in
theorem mc_103 : lw_tbl[987]? = some (Cond.code (mN 103) (mB 103) (mL 103) (mR 103)) := rfl
set_option maxRecDepth 100000 in
theorem mc_104 : lw_tbl[1011]? = some (Cond.code (mN 104) (mB 104) (mL 104) (mR 104)) := rfl
set_option maxRecDepth 100000 in
theorem mc_105 : lw_tbl[1023]? = some (Cond.code (mN 105) (mB 105) (mL 105) (mR 105)) := rfl
set_option maxRecDepth 100000 in
theorem mc_106 : lw_tbl[1015]? = some (Cond.code (mN 106) (mB 106) (mL 106) (mR 106)) := rfl
set_option maxRecDepth 100000 in
theorem mc_107 : lw_tbl[1075]? = some (Cond.code (mN 107) (mB 107) (mL 107) (mR 107)) := rfl
set_option maxRecDepth 100000 in
theorem mc_108 : lw_tbl[1079]? = some (Cond.code (mN 108) (mB 108) (mL 108) (mR 108)) := rfl
set_option maxRecDepth 100000 in
theorem mc_109 : lw_tbl[1067]? = some (Cond.code (mN 109) (mB 109) (mL 109) (mR 109)) := rfl
set_option maxRecDepth 100000 in
theorem mc_110 : lw_tbl[1071]? = some (Cond.code (mN 110) (mB 110) (mL 110) (mR 110)) := rfl
set_option maxRecDepth 100000 in
theorem mc_111 : lw_tbl[1098]? = some (Cond.code (mN 111) (mB 111) (mL 111) (mR 111)) := rfl
set_option maxRecDepth 100000 in
theorem mc_112 : lw_tbl[1102]? = some (Cond.code (mN 112) (mB 112) (mL 112) (mR 112)) := rfl
set_option maxRecDepth 100000 in
theorem mc_113 : lw_tbl[1083]? = some (Cond.code (mN 113) (mB 113) (mL 113) (mR 113)) := rfl
set_option maxRecDepth 100000 in
theorem mc_114 : lw_tbl[1090]? = some (Cond.code (mN 114) (mB 114) (mL 114) (mR 114)) := rfl
set_option maxRecDepth 100000 in
theorem mc_115 : lw_tbl[1094]? = some (Cond.code (mN 115) (mB 115) (mL 115) (mR 115)) := rfl
set_option maxRecDepth 100000 in
theorem mc_116 : lw_tbl[1087]? = some (Cond.code (mN 116) (mB 116) (mL 116) (mR 116)) := rfl
set_option maxRecDepth 100000 in
theorem mc_117 : lw_tbl[1047]? = some (Cond.code (mN 117) (mB 117) (mL 117) (mR 117)) := rfl
set_option maxRecDepth 100000 in
theorem mc_118 : lw_tbl[1106]? = some (Cond.code (mN 118) (mB 118) (mL 118) (mR 118)) := rfl
set_option maxRecDepth 100000 in
theorem mc_119 : lw_tbl[1051]? = some (Cond.code (mN 119) (mB 119) (mL 119) (mR 119)) := rfl
set_option maxRecDepth 100000 in
theorem mc_120 : lw_tbl[1063]? = some (Cond.code (mN 120) (mB 120) (mL 120) (mR 120)) := rfl
set_option maxRecDepth 100000 in
theorem mc_121 : lw_tbl[984]? = some (Cond.code (mN 121) (mB 121) (mL 121) (mR 121)) := rfl
set_option maxRecDepth 100000 in
theorem mc_122 : lw_tbl[995]? = some (Cond.code (mN 122) (mB 122) (mL 122) (mR 122)) := rfl
set_option maxRecDepth 100000 in
theorem mc_123 : lw_tbl[991]? = some (Cond.code (mN 123) (mB 123) (mL 123) (mR 123)) := rfl
set_option maxRecDepth 100000 in
theorem mc_124 : lw_tbl[999]? = some (Cond.code (mN 124) (mB 124) (mL 124) (mR 124)) := rfl
set_option maxRecDepth 100000 in
theorem mc_125 : lw_tbl[1003]? = some (Cond.code (mN 125) (mB 125) (mL 125) (mR 125)) := rfl
set_option maxRecDepth 100000 in
theorem mc_126 : lw_tbl[1007]? = some (Cond.code (mN 126) (mB 126) (mL 126) (mR 126)) := rfl
set_option maxRecDepth 100000 in
theorem mc_127 : lw_tbl[1019]? = some (Cond.code (mN 127) (mB 127) (mL 127) (mR 127)) := rfl
set_option maxRecDepth 100000 in
theorem mc_128 : lw_tbl[1031]? = some (Cond.code (mN 128) (mB 128) (mL 128) (mR 128)) := rfl
set_option maxRecDepth 100000 in
theorem mc_129 : lw_tbl[1027]? = some (Cond.code (mN 129) (mB 129) (mL 129) (mR 129)) := rfl
set_option maxRecDepth 100000 in
theorem mc_130 : lw_tbl[1035]? = some (Cond.code (mN 130) (mB 130) (mL 130) (mR 130)) := rfl
set_option maxRecDepth 100000 in
theorem mc_131 : lw_tbl[1039]? = some (Cond.code (mN 131) (mB 131) (mL 131) (mR 131)) := rfl
set_option maxRecDepth 100000 in
theorem mc_132 : lw_tbl[1043]? = some (Cond.code (mN 132) (mB 132) (mL 132) (mR 132)) := rfl
set_option maxRecDepth 100000 in
theorem mc_133 : lw_tbl[1055]? = some (Cond.code (mN 133) (mB 133) (mL 133) (mR 133)) := rfl
set_option maxRecDepth 100000 in
theorem mc_134 : lw_tbl[1059]? = some (Cond.code (mN 134) (mB 134) (mL 134) (mR 134)) := rfl
set_option maxRecDepth 100000 in
theorem mc_135 : lw_tbl[1110]? = some (Cond.code (mN 135) (mB 135) (mL 135) (mR 135)) := rfl
set_option maxRecDepth 100000 in
theorem mc_136 : lw_tbl[1114]? = some (Cond.code (mN 136) (mB 136) (mL 136) (mR 136)) := rfl
set_option maxRecDepth 100000 in
theorem mc_137 : lw_tbl[1118]? = some (Cond.code (mN 137) (mB 137) (mL 137) (mR 137)) := rfl
set_option maxRecDepth 100000 in
theorem mc_138 : lw_tbl[1122]? = some (Cond.code (mN 138) (mB 138) (mL 138) (mR 138)) := rfl
set_option maxRecDepth 100000 in
theorem mc_139 : lw_tbl[1126]? = some (Cond.code (mN 139) (mB 139) (mL 139) (mR 139)) := rfl
set_option maxRecDepth 100000 in
theorem mc_140 : lw_tbl[1130]? = some (Cond.code (mN 140) (mB 140) (mL 140) (mR 140)) := rfl
set_option maxRecDepth 100000 in
theorem mc_141 : lw_tbl[1134]? = some (Cond.code (mN 141) (mB 141) (mL 141) (mR 141)) := rfl
set_option maxRecDepth 100000 in
theorem mc_142 : lw_tbl[837]? = some (Cond.code (mN 142) (mB 142) (mL 142) (mR 142)) := rfl
set_option maxRecDepth 100000 in
theorem mc_143 : lw_tbl[1181]? = some (Cond.code (mN 143) (mB 143) (mL 143) (mR 143)) := rfl
set_option maxRecDepth 100000 in
theorem mc_144 : lw_tbl[834]? = some (Cond.code (mN 144) (mB 144) (mL 144) (mR 144)) := rfl
set_option maxRecDepth 100000 in
theorem mc_145 : lw_tbl[1174]? = some (Cond.code (mN 145) (mB 145) (mL 145) (mR 145)) := rfl
set_option maxRecDepth 100000 in
theorem mc_146 : lw_tbl[1162]? = some (Cond.code (mN 146) (mB 146) (mL 146) (mR 146)) := rfl
set_option maxRecDepth 100000 in
theorem mc_147 : lw_tbl[1178]? = some (Cond.code (mN 147) (mB 147) (mL 147) (mR 147)) := rfl
set_option maxRecDepth 100000 in
theorem mc_148 : lw_tbl[1170]? = some (Cond.code (mN 148) (mB 148) (mL 148) (mR 148)) := rfl
set_option maxRecDepth 100000 in
theorem mc_149 : lw_tbl[1197]? = some (Cond.code (mN 149) (mB 149) (mL 149) (mR 149)) := rfl
set_option maxRecDepth 100000 in
theorem mc_150 : lw_tbl[1201]? = some (Cond.code (mN 150) (mB 150) (mL 150) (mR 150)) := rfl
set_option maxRecDepth 100000 in
theorem mc_151 : lw_tbl[1205]? = some (Cond.code (mN 151) (mB 151) (mL 151) (mR 151)) := rfl
set_option maxRecDepth 100000 in
theorem mc_152 : lw_tbl[1166]? = some (Cond.code (mN 152) (mB 152) (mL 152) (mR 152)) := rfl
set_option maxRecDepth 100000 in
theorem mc_153 : lw_tbl[1185]? = some (Cond.code (mN 153) (mB 153) (mL 153) (mR 153)) := rfl
set_option maxRecDepth 100000 in
theorem mc_154 : lw_tbl[1213]? = some (Cond.code (mN 154) (mB 154) (mL 154) (mR 154)) := rfl
set_option maxRecDepth 100000 in
theorem mc_155 : lw_tbl[1193]? = some (Cond.code (mN 155) (mB 155) (mL 155) (mR 155)) := rfl
set_option maxRecDepth 100000 in
theorem mc_156 : lw_tbl[1189]? = some (Cond.code (mN 156) (mB 156) (mL 156) (mR 156)) := rfl
set_option maxRecDepth 100000 in
theorem mc_157 : lw_tbl[1233]? = some (Cond.code (mN 157) (mB 157) (mL 157) (mR 157)) := rfl
set_option maxRecDepth 100000 in
theorem mc_158 : lw_tbl[1229]? = some (Cond.code (mN 158) (mB 158) (mL 158) (mR 158)) := rfl
set_option maxRecDepth 100000 in
theorem mc_159 : lw_tbl[1237]? = some (Cond.code (mN 159) (mB 159) (mL 159) (mR 159)) := rfl
set_option maxRecDepth 100000 in
theorem mc_160 : lw_tbl[1241]? = some (Cond.code (mN 160) (mB 160) (mL 160) (mR 160)) := rfl
set_option maxRecDepth 100000 in
theorem mc_161 : lw_tbl[1249]? = some (Cond.code (mN 161) (mB 161) (mL 161) (mR 161)) := rfl
set_option maxRecDepth 100000 in
theorem mc_162 : lw_tbl[1245]? = some (Cond.code (mN 162) (mB 162) (mL 162) (mR 162)) := rfl
set_option maxRecDepth 100000 in
theorem mc_163 : lw_tbl[1221]? = some (Cond.code (mN 163) (mB 163) (mL 163) (mR 163)) := rfl
set_option maxRecDepth 100000 in
theorem mc_164 : lw_tbl[1217]? = some (Cond.code (mN 164) (mB 164) (mL 164) (mR 164)) := rfl
set_option maxRecDepth 100000 in
theorem mc_165 : lw_tbl[1158]? = some (Cond.code (mN 165) (mB 165) (mL 165) (mR 165)) := rfl
set_option maxRecDepth 100000 in
theorem mc_166 : lw_tbl[1209]? = some (Cond.code (mN 166) (mB 166) (mL 166) (mR 166)) := rfl
set_option maxRecDepth 100000 in
theorem mc_167 : lw_tbl[1225]? = some (Cond.code (mN 167) (mB 167) (mL 167) (mR 167)) := rfl
set_option maxRecDepth 100000 in
theorem mc_168 : lw_tbl[1154]? = some (Cond.code (mN 168) (mB 168) (mL 168) (mR 168)) := rfl
set_option maxRecDepth 100000 in
theorem mc_169 : lw_tbl[1150]? = some (Cond.code (mN 169) (mB 169) (mL 169) (mR 169)) := rfl
set_option maxRecDepth 100000 in
theorem mc_170 : lw_tbl[1146]? = some (Cond.code (mN 170) (mB 170) (mL 170) (mR 170)) := rfl
set_option maxRecDepth 100000 in
theorem mc_171 : lw_tbl[1142]? = some (Cond.code (mN 171) (mB 171) (mL 171) (mR 171)) := rfl
set_option maxRecDepth 100000 in
theorem mc_172 : lw_tbl[146]? = some (Cond.code (mN 172) (mB 172) (mL 172) (mR 172)) := rfl
set_option maxRecDepth 100000 in
theorem mc_173 : lw_tbl[156]? = some (Cond.code (mN 173) (mB 173) (mL 173) (mR 173)) := rfl
set_option maxRecDepth 100000 in
theorem mc_174 : lw_tbl[150]? = some (Cond.code (mN 174) (mB 174) (mL 174) (mR 174)) := rfl
set_option maxRecDepth 100000 in
theorem mc_175 : lw_tbl[160]? = some (Cond.code (mN 175) (mB 175) (mL 175) (mR 175)) := rfl
set_option maxRecDepth 100000 in
theorem mc_176 : lw_tbl[166]? = some (Cond.code (mN 176) (mB 176) (mL 176) (mR 176)) := rfl
set_option maxRecDepth 100000 in
theorem mc_177 : lw_tbl[163]? = some (Cond.code (mN 177) (mB 177) (mL 177) (mR 177)) := rfl
set_option maxRecDepth 100000 in
theorem mc_178 : lw_tbl[184]? = some (Cond.code (mN 178) (mB 178) (mL 178) (mR 178)) := rfl
set_option maxRecDepth 100000 in
theorem mc_179 : lw_tbl[180]? = some (Cond.code (mN 179) (mB 179) (mL 179) (mR 179)) := rfl
set_option maxRecDepth 100000 in
theorem mc_180 : lw_tbl[174]? = some (Cond.code (mN 180) (mB 180) (mL 180) (mR 180)) := rfl
set_option maxRecDepth 100000 in
theorem mc_181 : lw_tbl[177]? = some (Cond.code (mN 181) (mB 181) (mL 181) (mR 181)) := rfl
set_option maxRecDepth 100000 in
theorem mc_182 : lw_tbl[501]? = some (Cond.code (mN 182) (mB 182) (mL 182) (mR 182)) := rfl
set_option maxRecDepth 100000 in
theorem mc_183 : lw_tbl[171]? = some (Cond.code (mN 183) (mB 183) (mL 183) (mR 183)) := rfl
theorem mc_all : ∀ y : Nat, 0 < y → y < mMany → ∃ i : Nat, lw_tbl[i]? = some (Cond.code (mN y) (mB y) (mL y) (mR y))
  | 0, h, _ => absurd h (by decide)
  | 1, h, _ => ⟨_, mc_1⟩
  | 2, h, _ => ⟨_, mc_2⟩
  | 3, h, _ => ⟨_, mc_3⟩
  | 4, h, _ => ⟨_, mc_4⟩
  | 5, h, _ => ⟨_, mc_5⟩
  | 6, h, _ => ⟨_, mc_6⟩
  | 7, h, _ => ⟨_, mc_7⟩
  | 8, h, _ => ⟨_, mc_8⟩
  | 9, h, _ => ⟨_, mc_9⟩
  | 10, h, _ => ⟨_, mc_10⟩
  | 11, h, _ => ⟨_, mc_11⟩
  | 12, h, _ => ⟨_, mc_12⟩
  | 13, h, _ => ⟨_, mc_13⟩
  | 14, h, _ => ⟨_, mc_14⟩
  | 15, h, _ => ⟨_, mc_15⟩
  | 16, h, _ => ⟨_, mc_16⟩
  | 17, h, _ => ⟨_, mc_17⟩
  | 18, h, _ => ⟨_, mc_18⟩
  | 19, h, _ => ⟨_, mc_19⟩
  | 20, h, _ => ⟨_, mc_20⟩
  | 21, h, _ => ⟨_, mc_21⟩
  | 22, h, _ => ⟨_, mc_22⟩
  | 23, h, _ => ⟨_, mc_23⟩
  | 24, h, _ => ⟨_, mc_24⟩
  | 25, h, _ => ⟨_, mc_25⟩
  | 26, h, _ => ⟨_, mc_26⟩
  | 27, h, _ => ⟨_, mc_27⟩
  | 28, h, _ => ⟨_, mc_28⟩
  | 29, h, _ => ⟨_, mc_29⟩
  | 30, h, _ => ⟨_, mc_30⟩
  | 31, h, _ => ⟨_, mc_31⟩
  | 32, h, _ => ⟨_, mc_32⟩
  | 33, h, _ => ⟨_, mc_33⟩
  | 34, h, _ => ⟨_, mc_34⟩
  | 35, h, _ => ⟨_, mc_35⟩
  | 36, h, _ => ⟨_, mc_36⟩
  | 37, h, _ => ⟨_, mc_37⟩
  | 38, h, _ => ⟨_, mc_38⟩
  | 39, h, _ => ⟨_, mc_39⟩
  | 40, h, _ => ⟨_, mc_40⟩
  | 41, h, _ => ⟨_, mc_41⟩
  | 42, h, _ => ⟨_, mc_42⟩
  | 43, h, _ => ⟨_, mc_43⟩
  | 44, h, _ => ⟨_, mc_44⟩
  | 45, h, _ => ⟨_, mc_45⟩
  | 46, h, _ => ⟨_, mc_46⟩
  | 47, h, _ => ⟨_, mc_47⟩
  | 48, h, _ => ⟨_, mc_48⟩
  | 49, h, _ => ⟨_, mc_49⟩
  | 50, h, _ => ⟨_, mc_50⟩
  | 51, h, _ => ⟨_, mc_51⟩
  | 52, h, _ => ⟨_, mc_52⟩
  | 53, h, _ => ⟨_, mc_53⟩
  | 54, h, _ => ⟨_, mc_54⟩
  | 55, h, _ => ⟨_, mc_55⟩
  | 56, h, _ => ⟨_, mc_56⟩
  | 57, h, _ => ⟨_, mc_57⟩
  | 58, h, _ => ⟨_, mc_58⟩
  | 59, h, _ => ⟨_, mc_59⟩
  | 60, h, _ => ⟨_, mc_60⟩
  | 61, h, _ => ⟨_, mc_61⟩
  | 62, h, _ => ⟨_, mc_62⟩
  | 63, h, _ => ⟨_, mc_63⟩
  | 64, h, _ => ⟨_, mc_64⟩
  | 65, h, _ => ⟨_, mc_65⟩
  | 66, h, _ => ⟨_, mc_66⟩
  | 67, h, _ => ⟨_, mc_67⟩
  | 68, h, _ => ⟨_, mc_68⟩
  | 69, h, _ => ⟨_, mc_69⟩
  | 70, h, _ => ⟨_, mc_70⟩
  | 71, h, _ => ⟨_, mc_71⟩
  | 72, h, _ => ⟨_, mc_72⟩
  | 73, h, _ => ⟨_, mc_73⟩
  | 74, h, _ => ⟨_, mc_74⟩
  | 75, h, _ => ⟨_, mc_75⟩
  | 76, h, _ => ⟨_, mc_76⟩
  | 77, h, _ => ⟨_, mc_77⟩
  | 78, h, _ => ⟨_, mc_78⟩
  | 79, h, _ => ⟨_, mc_79⟩
  | 80, h, _ => ⟨_, mc_80⟩
  | 81, h, _ => ⟨_, mc_81⟩
  | 82, h, _ => ⟨_, mc_82⟩
  | 83, h, _ => ⟨_, mc_83⟩
  | 84, h, _ => ⟨_, mc_84⟩
  | 85, h, _ => ⟨_, mc_85⟩
  | 86, h, _ => ⟨_, mc_86⟩
  | 87, h, _ => ⟨_, mc_87⟩
  | 88, h, _ => ⟨_, mc_88⟩
  | 89, h, _ => ⟨_, mc_89⟩
  | 90, h, _ => ⟨_, mc_90⟩
  | 91, h, _ => ⟨_, mc_91⟩
  | 92, h, _ => ⟨_, mc_92⟩
  | 93, h, _ => ⟨_, mc_93⟩
  | 94, h, _ => ⟨_, mc_94⟩
  | 95, h, _ => ⟨_, mc_95⟩
  | 96, h, _ => ⟨_, mc_96⟩
  | 97, h, _ => ⟨_, mc_97⟩
  | 98, h, _ => ⟨_, mc_98⟩
  | 99, h, _ => ⟨_, mc_99⟩
  | 100, h, _ => ⟨_, mc_100⟩
  | 101, h, _ => ⟨_, mc_101⟩
  | 102, h, _ => ⟨_, mc_102⟩
  | 103, h, _ => ⟨_, mc_103⟩
  | 104, h, _ => ⟨_, mc_104⟩
  | 105, h, _ => ⟨_, mc_105⟩
  | 106, h, _ => ⟨_, mc_106⟩
  | 107, h, _ => ⟨_, mc_107⟩
  | 108, h, _ => ⟨_, mc_108⟩
  | 109, h, _ => ⟨_, mc_109⟩
  | 110, h, _ => ⟨_, mc_110⟩
  | 111, h, _ => ⟨_, mc_111⟩
  | 112, h, _ => ⟨_, mc_112⟩
  | 113, h, _ => ⟨_, mc_113⟩
  | 114, h, _ => ⟨_, mc_114⟩
  | 115, h, _ => ⟨_, mc_115⟩
  | 116, h, _ => ⟨_, mc_116⟩
  | 117, h, _ => ⟨_, mc_117⟩
  | 118, h, _ => ⟨_, mc_118⟩
  | 119, h, _ => ⟨_, mc_119⟩
  | 120, h, _ => ⟨_, mc_120⟩
  | 121, h, _ => ⟨_, mc_121⟩
  | 122, h, _ => ⟨_, mc_122⟩
  | 123, h, _ => ⟨_, mc_123⟩
  | 124, h, _ => ⟨_, mc_124⟩
  | 125, h, _ => ⟨_, mc_125⟩
  | 126, h, _ => ⟨_, mc_126⟩
  | 127, h, _ => ⟨_, mc_127⟩
  | 128, h, _ => ⟨_, mc_128⟩
  | 129, h, _ => ⟨_, mc_129⟩
  | 130, h, _ => ⟨_, mc_130⟩
  | 131, h, _ => ⟨_, mc_131⟩
  | 132, h, _ => ⟨_, mc_132⟩
  | 133, h, _ => ⟨_, mc_133⟩
  | 134, h, _ => ⟨_, mc_134⟩
  | 135, h, _ => ⟨_, mc_135⟩
  | 136, h, _ => ⟨_, mc_136⟩
  | 137, h, _ => ⟨_, mc_137⟩
  | 138, h, _ => ⟨_, mc_138⟩
  | 139, h, _ => ⟨_, mc_139⟩
  | 140, h, _ => ⟨_, mc_140⟩
  | 141, h, _ => ⟨_, mc_141⟩
  | 142, h, _ => ⟨_, mc_142⟩
  | 143, h, _ => ⟨_, mc_143⟩
  | 144, h, _ => ⟨_, mc_144⟩
  | 145, h, _ => ⟨_, mc_145⟩
  | 146, h, _ => ⟨_, mc_146⟩
  | 147, h, _ => ⟨_, mc_147⟩
  | 148, h, _ => ⟨_, mc_148⟩
  | 149, h, _ => ⟨_, mc_149⟩
  | 150, h, _ => ⟨_, mc_150⟩
  | 151, h, _ => ⟨_, mc_151⟩
  | 152, h, _ => ⟨_, mc_152⟩
  | 153, h, _ => ⟨_, mc_153⟩
  | 154, h, _ => ⟨_, mc_154⟩
  | 155, h, _ => ⟨_, mc_155⟩
  | 156, h, _ => ⟨_, mc_156⟩
  | 157, h, _ => ⟨_, mc_157⟩
  | 158, h, _ => ⟨_, mc_158⟩
  | 159, h, _ => ⟨_, mc_159⟩
  | 160, h, _ => ⟨_, mc_160⟩
  | 161, h, _ => ⟨_, mc_161⟩
  | 162, h, _ => ⟨_, mc_162⟩
  | 163, h, _ => ⟨_, mc_163⟩
  | 164, h, _ => ⟨_, mc_164⟩
  | 165, h, _ => ⟨_, mc_165⟩
  | 166, h, _ => ⟨_, mc_166⟩
  | 167, h, _ => ⟨_, mc_167⟩
  | 168, h, _ => ⟨_, mc_168⟩
  | 169, h, _ => ⟨_, mc_169⟩
  | 170, h, _ => ⟨_, mc_170⟩
  | 171, h, _ => ⟨_, mc_171⟩
  | 172, h, _ => ⟨_, mc_172⟩
  | 173, h, _ => ⟨_, mc_173⟩
  | 174, h, _ => ⟨_, mc_174⟩
  | 175, h, _ => ⟨_, mc_175⟩
  | 176, h, _ => ⟨_, mc_176⟩
  | 177, h, _ => ⟨_, mc_177⟩
  | 178, h, _ => ⟨_, mc_178⟩
  | 179, h, _ => ⟨_, mc_179⟩
  | 180, h, _ => ⟨_, mc_180⟩
  | 181, h, _ => ⟨_, mc_181⟩
  | 182, h, _ => ⟨_, mc_182⟩
  | 183, h, _ => ⟨_, mc_183⟩
  | y + 184, _, h => absurd h (by unfold mMany; omega)
set_option maxRecDepth 100000 in
theorem oi_code : lw_tbl[105]? = some (Cond.code Lib.objectInit ⟨#[0xb1]⟩ 1 none) := rfl
end
section
/-! abstract worlds: kinds and lengths, fields by number, rows of ints, of longs, of references, how many cells there are -/
abbrev aw : Type := (Nat → Nat × Nat) × (Nat → Nat → Value) × (Nat → Nat → Int32) × (Nat → Nat → Int64) × (Nat → Nat → Option Nat) × Nat
def kd (w : aw) (a : Nat) : Nat := (w.1 a).1
def ln (w : aw) (a : Nat) : Nat := (w.1 a).2
def fd (w : aw) (g a : Nat) : Value := w.2.1 g a
def ai (w : aw) (a i : Nat) : Int32 := w.2.2.1 a i
def al (w : aw) (a i : Nat) : Int64 := w.2.2.2.1 a i
def ar (w : aw) (a i : Nat) : Option Nat := w.2.2.2.2.1 a i
def zs (w : aw) : Nat := w.2.2.2.2.2
def dfV (g : Nat) : Value := defaultValue (tyOf (g / 64) (g % 64))
def uF (w : aw) (g a : Nat) (v : Value) : aw := (w.1, fun g' a' => if g' = g ∧ a' = a then v else w.2.1 g' a', w.2.2)
def uA (w : aw) (a i : Nat) (x : Int32) : aw := (w.1, w.2.1, fun a' i' => if a' = a ∧ i' = i then x else w.2.2.1 a' i', w.2.2.2)
def uL (w : aw) (a i : Nat) (x : Int64) : aw := (w.1, w.2.1, w.2.2.1, fun a' i' => if a' = a ∧ i' = i then x else w.2.2.2.1 a' i', w.2.2.2.2)
def uR (w : aw) (a i : Nat) (x : Option Nat) : aw := (w.1, w.2.1, w.2.2.1, w.2.2.2.1, fun a' i' => if a' = a ∧ i' = i then x else w.2.2.2.2.1 a' i', w.2.2.2.2.2)
def nw (w : aw) (k n : Nat) : aw := (fun a => if a = zs w then (k, n) else w.1 a, fun g a => if a = zs w ∧ g < 10000 then dfV g else w.2.1 g a, fun a i => if a = zs w then 0 else w.2.2.1 a i, fun a i => if a = zs w then 0 else w.2.2.2.1 a i, fun a i => if a = zs w then none else w.2.2.2.2.1 a i, zs w + 1)
theorem kd_uF (w : aw) (g a : Nat) (v : Value) (q : Nat) : kd (uF w g a v) q = kd w q := rfl
theorem ln_uF (w : aw) (g a : Nat) (v : Value) (q : Nat) : ln (uF w g a v) q = ln w q := rfl
theorem ai_uF (w : aw) (g a : Nat) (v : Value) (q i : Nat) : ai (uF w g a v) q i = ai w q i := rfl
theorem al_uF (w : aw) (g a : Nat) (v : Value) (q i : Nat) : al (uF w g a v) q i = al w q i := rfl
theorem ar_uF (w : aw) (g a : Nat) (v : Value) (q i : Nat) : ar (uF w g a v) q i = ar w q i := rfl
theorem zs_uF (w : aw) (g a : Nat) (v : Value) : zs (uF w g a v) = zs w := rfl
theorem fd_uF (w : aw) (g a : Nat) (v : Value) (g' a' : Nat) : fd (uF w g a v) g' a' = if g' = g ∧ a' = a then v else fd w g' a' := rfl
theorem kd_uA (w : aw) (a i : Nat) (x : Int32) (q : Nat) : kd (uA w a i x) q = kd w q := rfl
theorem ln_uA (w : aw) (a i : Nat) (x : Int32) (q : Nat) : ln (uA w a i x) q = ln w q := rfl
theorem fd_uA (w : aw) (a i : Nat) (x : Int32) (g q : Nat) : fd (uA w a i x) g q = fd w g q := rfl
theorem al_uA (w : aw) (a i : Nat) (x : Int32) (q j : Nat) : al (uA w a i x) q j = al w q j := rfl
theorem ar_uA (w : aw) (a i : Nat) (x : Int32) (q j : Nat) : ar (uA w a i x) q j = ar w q j := rfl
theorem zs_uA (w : aw) (a i : Nat) (x : Int32) : zs (uA w a i x) = zs w := rfl
theorem ai_uA (w : aw) (a i : Nat) (x : Int32) (q j : Nat) : ai (uA w a i x) q j = if q = a ∧ j = i then x else ai w q j := rfl
theorem kd_uL (w : aw) (a i : Nat) (x : Int64) (q : Nat) : kd (uL w a i x) q = kd w q := rfl
theorem ln_uL (w : aw) (a i : Nat) (x : Int64) (q : Nat) : ln (uL w a i x) q = ln w q := rfl
theorem fd_uL (w : aw) (a i : Nat) (x : Int64) (g q : Nat) : fd (uL w a i x) g q = fd w g q := rfl
theorem ai_uL (w : aw) (a i : Nat) (x : Int64) (q j : Nat) : ai (uL w a i x) q j = ai w q j := rfl
theorem ar_uL (w : aw) (a i : Nat) (x : Int64) (q j : Nat) : ar (uL w a i x) q j = ar w q j := rfl
theorem zs_uL (w : aw) (a i : Nat) (x : Int64) : zs (uL w a i x) = zs w := rfl
theorem al_uL (w : aw) (a i : Nat) (x : Int64) (q j : Nat) : al (uL w a i x) q j = if q = a ∧ j = i then x else al w q j := rfl
theorem kd_uR (w : aw) (a i : Nat) (x : Option Nat) (q : Nat) : kd (uR w a i x) q = kd w q := rfl
theorem ln_uR (w : aw) (a i : Nat) (x : Option Nat) (q : Nat) : ln (uR w a i x) q = ln w q := rfl
theorem fd_uR (w : aw) (a i : Nat) (x : Option Nat) (g q : Nat) : fd (uR w a i x) g q = fd w g q := rfl
theorem ai_uR (w : aw) (a i : Nat) (x : Option Nat) (q j : Nat) : ai (uR w a i x) q j = ai w q j := rfl
theorem al_uR (w : aw) (a i : Nat) (x : Option Nat) (q j : Nat) : al (uR w a i x) q j = al w q j := rfl
theorem zs_uR (w : aw) (a i : Nat) (x : Option Nat) : zs (uR w a i x) = zs w := rfl
theorem ar_uR (w : aw) (a i : Nat) (x : Option Nat) (q j : Nat) : ar (uR w a i x) q j = if q = a ∧ j = i then x else ar w q j := rfl
theorem kd_nw (w : aw) (k n q : Nat) : kd (nw w k n) q = if q = zs w then k else kd w q := by
  show ((if q = zs w then (k, n) else w.1 q) : Nat × Nat).1 = _
  split <;> rfl
theorem ln_nw (w : aw) (k n q : Nat) : ln (nw w k n) q = if q = zs w then n else ln w q := by
  show ((if q = zs w then (k, n) else w.1 q) : Nat × Nat).2 = _
  split <;> rfl
theorem fd_nw (w : aw) (k n g q : Nat) : fd (nw w k n) g q = if q = zs w ∧ g < 10000 then dfV g else fd w g q := rfl
theorem ai_nw (w : aw) (k n q i : Nat) : ai (nw w k n) q i = if q = zs w then 0 else ai w q i := rfl
theorem al_nw (w : aw) (k n q i : Nat) : al (nw w k n) q i = if q = zs w then 0 else al w q i := rfl
theorem ar_nw (w : aw) (k n q i : Nat) : ar (nw w k n) q i = if q = zs w then none else ar w q i := rfl
theorem zs_nw (w : aw) (k n : Nat) : zs (nw w k n) = zs w + 1 := rfl
/-! what the heap holds of a world -/
def tyA (t : Nat) : Option FieldType := match t with
  | 20 => some .int
  | 21 => some .byte
  | 22 => some .long
  | 23 => some .boolean
  | 24 => some (.object "LineMonitor$User")
  | 30 => some .int
  | _ => none
def rO (D : va_G) (w : aw) (H : Heap) : Prop := ∀ (q ci : Nat) (r : vw_C), kd w q = ci + 1 → vwCl[ci]? = some r → t_OB q (D.1 ci) r.2.2 (D.2 ci) H (fun j => fd w (64 * ci + j) q)
def isI (k : Nat) : Prop := k = 20 ∨ k = 21 ∨ k = 23 ∨ k = 30
def rI (tA : Nat → ClassId) (w : aw) (H : Heap) : Prop := ∀ q : Nat, isI (kd w q) → H[q]? = some (arrV (tA (kd w q)) (ln w q) (fun j => .int (ai w q j)))
def rJ (tA : Nat → ClassId) (w : aw) (H : Heap) : Prop := ∀ q : Nat, kd w q = 22 → H[q]? = some (arrV (tA 22) (ln w q) (fun j => .long (al w q j)))
def rR (tA : Nat → ClassId) (w : aw) (H : Heap) : Prop := ∀ q : Nat, kd w q = 24 → H[q]? = some (arrV (tA 24) (ln w q) (fun j => va_rf (ar w q j)))
def rW (B : Nat) (w : aw) : Prop := ∀ q : Nat, kd w q ≠ 0 → kd w q < 30 → B ≤ q
def rZ (B : Nat) (w : aw) (U : State) (H : Heap) : Prop := ∀ (j : Nat) (x : String × String × String), stL[j]? = some x → va_Z x.1 x.2.1 x.2.2 (fd w (10000 + j) 0) (fun q => B ≤ q) U H
def rC (D : va_G) (tA : Nat → ClassId) (w : aw) (H : Heap) : Prop := rO D w H ∧ rI tA w H ∧ rJ tA w H ∧ rR tA w H
def rp (D : va_G) (tA : Nat → ClassId) (B : Nat) (w : aw) (U : State) (H : Heap) : Prop := rC D tA w H ∧ rW B w ∧ H.size = zs w ∧ B ≤ zs w ∧ rZ B w U H
def cNest : List (Nat × Nat × Nat) := (cL.filter (fun x => x.2.2.1 == 4)).map (fun x => (x.1, x.2.1, x.2.2.2.1))
def kk (D : va_G) (tA : Nat → ClassId) (U : State) : Prop := va_K D vwCl [] U ∧ (∀ (t : Nat) (ty : FieldType), tyA t = some ty → ArrOfT U (tA t) ty ∧ va_RA U (tA t) ty) ∧ (∀ x ∈ cNest, va_Nw (.methodLinkNest (oN x.1) x.2.1 (mN x.2.2) "LineMonitor") U) ∧ va_AO "LineMonitor$User" U
theorem kk.warm {D : va_G} {tA : Nat → ClassId} {s U : State} (hW : s.WarmedH U.vm) (h : kk D tA s) : kk D tA U :=
  ⟨va_K.moved hW.alike h.1, fun t ty ht => ⟨arrOfT_moved hW.alike (h.2.1 t ty ht).1, (h.2.1 t ty ht).2.moved hW.alike⟩, fun x hx => va_Nw.warmM hW (h.2.2.1 x hx), va_AO.moved hW.alike h.2.2.2⟩
theorem kk.call {D : va_G} {tA : Nat → ClassId} {U : State} {g : JFrame} {mk : MethodId} {a : Array Value} (h : kk D tA U) : kk D tA (U.calling g mk a) :=
  ⟨va_K.moved (u := U) (U := U.calling g mk a) (Vm.Alike.refl U.vm) h.1, fun t ty ht => ⟨arrOfT_moved (u := U) (E := U.calling g mk a) (Vm.Alike.refl U.vm) (h.2.1 t ty ht).1, va_RA.moved (u := U) (U := U.calling g mk a) (Vm.Alike.refl U.vm) (h.2.1 t ty ht).2⟩, fun x hx => va_tabs (A := #[]) (u := U) (U := U.calling g mk a) rfl rfl (h.2.2.1 x hx), va_AO.moved (u := U) (U := U.calling g mk a) (Vm.Alike.refl U.vm) h.2.2.2⟩
end
section
/-! how a world follows the heap -/
theorem isI_ne {k : Nat} (h : isI k) : k ≠ 22 ∧ k ≠ 24 ∧ k ≠ 0 ∧ 19 < k := by
  rcases h with h | h | h | h <;> omega
theorem vwCl_lt {ci : Nat} {r : vw_C} (h : vwCl[ci]? = some r) : ci < 19 ∧ r.2.2 < 64 := by
  have hl := (List.getElem?_eq_some_iff.mp h).1
  have h9 : vwCl.length ≤ 19 := by decide
  refine ⟨by omega, ?_⟩
  have hm := List.mem_of_getElem? h
  have hall : ∀ x ∈ vwCl, x.2.2 < 64 := by decide
  exact hall r hm
theorem rO.lt {D : va_G} {w : aw} {H : Heap} (h : rO D w H) {q ci : Nat} {r : vw_C} (hk : kd w q = ci + 1) (hc : vwCl[ci]? = some r) : q < H.size := by
  obtain ⟨cell, h1, -⟩ := h q ci r hk hc
  exact (Array.getElem?_eq_some_iff.mp h1).1
theorem rZ.kept {B : Nat} {w w' : aw} {U : State} {H H1 : Heap} (h : rZ B w U H) (hf : ∀ j : Nat, fd w' (10000 + j) 0 = fd w (10000 + j) 0) (hq : ∀ a : Nat, a < H.size → ¬ B ≤ a → H1[a]? = H[a]?) : rZ B w' U H1 := by
  intro j x hx
  rw [hf]
  exact (h j x hx).kept hq
theorem rZ.moved {B : Nat} {w : aw} {u U : State} {H : Heap} (hvm : u.vm.Alike U.vm) (h : rZ B w u H) : rZ B w U H := fun j x hx => (h j x hx).moved hvm
theorem rp.moved {D : va_G} {tA : Nat → ClassId} {B : Nat} {w : aw} {u U : State} {H : Heap} (hvm : u.vm.Alike U.vm) (h : rp D tA B w u H) : rp D tA B w U H := ⟨h.1, h.2.1, h.2.2.1, h.2.2.2.1, h.2.2.2.2.moved hvm⟩
/-- a field is set -/
theorem rp.setF {D : va_G} {tA : Nat → ClassId} {B : Nat} {w : aw} {U : State} {H H1 : Heap} {a ci k : Nat} {r : vw_C} {v : Value} (h : rp D tA B w U H) (hk : kd w a = ci + 1) (hc : vwCl[ci]? = some r) (hkN : k < r.2.2)
    (hn : t_OB a (D.1 ci) r.2.2 (D.2 ci) H1 (updV (fun j => fd w (64 * ci + j) a) k v)) (oq : ∀ q : Nat, q ≠ a → H1[q]? = H[q]?) (hz : H1.size = H.size) : rp D tA B (uF w (64 * ci + k) a v) U H1 := by
  obtain ⟨⟨h1, h2, h3, h4⟩, h5, h6, h7, h8⟩ := h
  obtain ⟨l1, l2⟩ := vwCl_lt hc
  have hB : B ≤ a := h5 a (by omega) (by omega)
  refine ⟨⟨?_, ?_, ?_, ?_⟩, h5, by rw [hz]; exact h6, h7, h8.kept (fun j => ?_) (fun x _ hx => oq x (fun e => hx (by rw [e]; exact hB)))⟩
  · intro q ci' r' hq hr
    have hq' : kd w q = ci' + 1 := hq
    obtain ⟨m1, m2⟩ := vwCl_lt hr
    by_cases hqa : q = a
    · subst hqa
      have : ci' = ci := by omega
      subst this
      cases hc.symm.trans hr
      refine hn.to (fun j hj => ?_)
      rw [fd_uF]
      unfold updV
      by_cases hjk : j = k
      · subst hjk; simp
      · rw [if_neg hjk, if_neg (by omega)]
    · refine ((h1 q ci' r' hq' hr).kept (oq q hqa)).to (fun j hj => ?_)
      rw [fd_uF, if_neg (fun e => hqa e.2)]
  · intro q hq
    have hq' : isI (kd w q) := hq
    have := isI_ne hq'
    rw [oq q (fun e => by subst e; omega)]
    exact h2 q hq'
  · intro q hq
    have hq' : kd w q = 22 := hq
    rw [oq q (fun e => by subst e; omega)]
    exact h3 q hq'
  · intro q hq
    have hq' : kd w q = 24 := hq
    rw [oq q (fun e => by subst e; omega)]
    exact h4 q hq'
  · rw [fd_uF, if_neg (by omega)]
/-- a place of a row of ints is set -/
theorem rp.setA {D : va_G} {tA : Nat → ClassId} {B : Nat} {w : aw} {U : State} {H H1 : Heap} {a i : Nat} {x : Int32} (h : rp D tA B w U H) (hk : isI (kd w a)) (h30 : kd w a < 30)
    (hn : H1[a]? = some (arrV (tA (kd w a)) (ln w a) (updV (fun j => .int (ai w a j)) i (.int x)))) (oq : ∀ q : Nat, q ≠ a → H1[q]? = H[q]?) (hz : H1.size = H.size) : rp D tA B (uA w a i x) U H1 := by
  obtain ⟨⟨h1, h2, h3, h4⟩, h5, h6, h7, h8⟩ := h
  have hne := isI_ne hk
  have hB : B ≤ a := h5 a hne.2.2.1 h30
  refine ⟨⟨?_, ?_, ?_, ?_⟩, h5, by rw [hz]; exact h6, h7, h8.kept (fun j => rfl) (fun x _ hx => oq x (fun e => hx (by rw [e]; exact hB)))⟩
  · intro q ci' r' hq hr
    have hq' : kd w q = ci' + 1 := hq
    have := vwCl_lt hr
    exact (h1 q ci' r' hq' hr).kept (oq q (fun e => by subst e; omega))
  · intro q hq
    have hq' : isI (kd w q) := hq
    by_cases hqa : q = a
    · subst hqa
      rw [hn]
      show some (arrV _ _ _) = some (arrV _ _ _)
      congr 2
      funext j
      rw [ai_uA]
      unfold updV
      by_cases hj : j = i
      · subst hj; simp
      · rw [if_neg hj, if_neg (fun e => hj e.2)]
    · rw [oq q hqa, h2 q hq']
      show some (arrV _ _ _) = some (arrV _ _ _)
      congr 2
      funext j
      rw [ai_uA, if_neg (fun e => hqa e.1)]
  · intro q hq
    have hq' : kd w q = 22 := hq
    rw [oq q (fun e => by subst e; omega)]
    exact h3 q hq'
  · intro q hq
    have hq' : kd w q = 24 := hq
    rw [oq q (fun e => by subst e; omega)]
    exact h4 q hq'
/-- a place of a row of longs is set -/
theorem rp.setL {D : va_G} {tA : Nat → ClassId} {B : Nat} {w : aw} {U : State} {H H1 : Heap} {a i : Nat} {x : Int64} (h : rp D tA B w U H) (hk : kd w a = 22)
    (hn : H1[a]? = some (arrV (tA 22) (ln w a) (updV (fun j => .long (al w a j)) i (.long x)))) (oq : ∀ q : Nat, q ≠ a → H1[q]? = H[q]?) (hz : H1.size = H.size) : rp D tA B (uL w a i x) U H1 := by
  obtain ⟨⟨h1, h2, h3, h4⟩, h5, h6, h7, h8⟩ := h
  have hB : B ≤ a := h5 a (by omega) (by omega)
  refine ⟨⟨?_, ?_, ?_, ?_⟩, h5, by rw [hz]; exact h6, h7, h8.kept (fun j => rfl) (fun x _ hx => oq x (fun e => hx (by rw [e]; exact hB)))⟩
  · intro q ci' r' hq hr
    have hq' : kd w q = ci' + 1 := hq
    have := vwCl_lt hr
    exact (h1 q ci' r' hq' hr).kept (oq q (fun e => by subst e; omega))
  · intro q hq
    have hq' : isI (kd w q) := hq
    have := isI_ne hq'
    rw [oq q (fun e => by subst e; omega)]
    exact h2 q hq'
  · intro q hq
    have hq' : kd w q = 22 := hq
    by_cases hqa : q = a
    · subst hqa
      rw [hn]
      show some (arrV _ _ _) = some (arrV _ _ _)
      congr 2
      funext j
      rw [al_uL]
      unfold updV
      by_cases hj : j = i
      · subst hj; simp
      · rw [if_neg hj, if_neg (fun e => hj e.2)]
    · rw [oq q hqa, h3 q hq']
      show some (arrV _ _ _) = some (arrV _ _ _)
      congr 2
      funext j
      rw [al_uL, if_neg (fun e => hqa e.1)]
  · intro q hq
    have hq' : kd w q = 24 := hq
    rw [oq q (fun e => by subst e; omega)]
    exact h4 q hq'
/-- a place of a row of references is set -/
theorem rp.setR {D : va_G} {tA : Nat → ClassId} {B : Nat} {w : aw} {U : State} {H H1 : Heap} {a i : Nat} {x : Option Nat} (h : rp D tA B w U H) (hk : kd w a = 24)
    (hn : H1[a]? = some (arrV (tA 24) (ln w a) (updV (fun j => va_rf (ar w a j)) i (va_rf x)))) (oq : ∀ q : Nat, q ≠ a → H1[q]? = H[q]?) (hz : H1.size = H.size) : rp D tA B (uR w a i x) U H1 := by
  obtain ⟨⟨h1, h2, h3, h4⟩, h5, h6, h7, h8⟩ := h
  have hB : B ≤ a := h5 a (by omega) (by omega)
  refine ⟨⟨?_, ?_, ?_, ?_⟩, h5, by rw [hz]; exact h6, h7, h8.kept (fun j => rfl) (fun x _ hx => oq x (fun e => hx (by rw [e]; exact hB)))⟩
  · intro q ci' r' hq hr
    have hq' : kd w q = ci' + 1 := hq
    have := vwCl_lt hr
    exact (h1 q ci' r' hq' hr).kept (oq q (fun e => by subst e; omega))
  · intro q hq
    have hq' : isI (kd w q) := hq
    have := isI_ne hq'
    rw [oq q (fun e => by subst e; omega)]
    exact h2 q hq'
  · intro q hq
    have hq' : kd w q = 22 := hq
    rw [oq q (fun e => by subst e; omega)]
    exact h3 q hq'
  · intro q hq
    have hq' : kd w q = 24 := hq
    by_cases hqa : q = a
    · subst hqa
      rw [hn]
      show some (arrV _ _ _) = some (arrV _ _ _)
      congr 2
      funext j
      rw [ar_uR]
      unfold updV
      by_cases hj : j = i
      · subst hj; simp
      · rw [if_neg hj, if_neg (fun e => hj e.2)]
    · rw [oq q hqa, h4 q hq']
      show some (arrV _ _ _) = some (arrV _ _ _)
      congr 2
      funext j
      rw [ar_uR, if_neg (fun e => hqa e.1)]
/-- a cell is made -/
theorem rp.born {D : va_G} {tA : Nat → ClassId} {B : Nat} {w : aw} {U : State} {H H1 : Heap} {k n : Nat} (h : rp D tA B w U H) (hz : H1.size = H.size + 1) (oq : ∀ q : Nat, q < H.size → H1[q]? = H[q]?)
    (c1 : ∀ (ci : Nat) (r : vw_C), k = ci + 1 → vwCl[ci]? = some r → t_OB H.size (D.1 ci) r.2.2 (D.2 ci) H1 (fun j => dfV (64 * ci + j)))
    (c2 : isI k → H1[H.size]? = some (arrV (tA k) n (fun _ => .int 0))) (c3 : k = 22 → H1[H.size]? = some (arrV (tA 22) n (fun _ => .long 0))) (c4 : k = 24 → H1[H.size]? = some (arrV (tA 24) n (fun _ => .null))) : rp D tA B (nw w k n) U H1 := by
  obtain ⟨⟨h1, h2, h3, h4⟩, h5, h6, h7, h8⟩ := h
  refine ⟨⟨?_, ?_, ?_, ?_⟩, ?_, by rw [hz, zs_nw, h6], by rw [zs_nw]; omega, h8.kept (fun j => ?_) (fun x hx _ => oq x hx)⟩
  · intro q ci r hq hr
    rw [kd_nw] at hq
    have hv := vwCl_lt hr
    by_cases hqz : q = zs w
    · rw [if_pos hqz] at hq
      rw [hqz, ← h6]
      refine (c1 ci r hq hr).to (fun j hj => ?_)
      rw [fd_nw, if_pos ⟨h6, by omega⟩]
    · rw [if_neg hqz] at hq
      have hl : q < H.size := by
        obtain ⟨cell, g1, -⟩ := h1 q ci r hq hr
        exact (Array.getElem?_eq_some_iff.mp g1).1
      refine ((h1 q ci r hq hr).kept (oq q hl)).to (fun j hj => ?_)
      rw [fd_nw, if_neg (fun e => hqz e.1)]
  · intro q hq
    rw [kd_nw] at hq ⊢
    by_cases hqz : q = zs w
    · rw [if_pos hqz] at hq ⊢
      rw [hqz, ← h6, c2 hq, h6, ln_nw, if_pos rfl]
      congr 2
      funext j
      rw [ai_nw, if_pos rfl]
    · rw [if_neg hqz] at hq ⊢
      have hl : q < H.size := (Array.getElem?_eq_some_iff.mp (h2 q hq)).1
      rw [oq q hl, h2 q hq, ln_nw, if_neg hqz]
      congr 2
      funext j
      rw [ai_nw, if_neg hqz]
  · intro q hq
    rw [kd_nw] at hq
    by_cases hqz : q = zs w
    · rw [if_pos hqz] at hq
      rw [hqz, ← h6, c3 hq, h6, ln_nw, if_pos rfl]
      congr 2
      funext j
      rw [al_nw, if_pos rfl]
    · rw [if_neg hqz] at hq
      have hl : q < H.size := (Array.getElem?_eq_some_iff.mp (h3 q hq)).1
      rw [oq q hl, h3 q hq, ln_nw, if_neg hqz]
      congr 2
      funext j
      rw [al_nw, if_neg hqz]
  · intro q hq
    rw [kd_nw] at hq
    by_cases hqz : q = zs w
    · rw [if_pos hqz] at hq
      rw [hqz, ← h6, c4 hq, h6, ln_nw, if_pos rfl]
      congr 2
      funext j
      rw [ar_nw, if_pos rfl]
      rfl
    · rw [if_neg hqz] at hq
      have hl : q < H.size := (Array.getElem?_eq_some_iff.mp (h4 q hq)).1
      rw [oq q hl, h4 q hq, ln_nw, if_neg hqz]
      congr 2
      funext j
      rw [ar_nw, if_neg hqz]
  · intro q hq hq2
    rw [kd_nw] at hq hq2
    by_cases hqz : q = zs w
    · rw [hqz]; exact h7
    · rw [if_neg hqz] at hq hq2
      exact h5 q hq hq2
  · rw [fd_nw, if_neg (by omega)]
end
section
/-! a calculus over worlds: what must hold at an instruction so that the method ends with Q -/
def nth : List (Option Value) → Nat → Option Value
  | [], _ => none
  | a :: _, 0 => a
  | _ :: r, k + 1 => nth r k
def clr (a : Option Value) : Option Value := match a with
  | some (.long _) => none
  | some (.double _) => none
  | x => x
def st1 : List (Option Value) → Nat → Value → List (Option Value)
  | [], _, _ => []
  | _ :: r, 0, v => some v :: r
  | a :: r, 1, v => clr a :: st1 r 0 v
  | a :: r, k + 2, v => a :: st1 r (k + 1) v
def st2 : List (Option Value) → Nat → Value → List (Option Value)
  | [], _, _ => []
  | [_], _, _ => []
  | _ :: _ :: r, 0, v => some v :: none :: r
  | a :: b :: r, 1, v => clr a :: st2 (b :: r) 0 v
  | a :: b :: r, k + 2, v => a :: st2 (b :: r) (k + 1) v
abbrev wI : Type := Nat → List (Option Value) → List Value → aw → Nat → Nat → Prop
abbrev wQ : Type := Option Value → aw → Prop
abbrev wC : Type := Nat → List Value → aw → wQ → Prop
def n1 (n : Nat) (P : Prop) : Prop := match n with | 1 => P | _ => False
def n2 (n : Nat) (P : Prop) : Prop := match n with | 2 => P | _ => False
def n3 (n : Nat) (P : Prop) : Prop := match n with | 3 => P | _ => False
def p1 (st : List Value) (K : Int32 → List Value → Prop) : Prop := match st with | .int a :: r => K a r | _ => False
def p2 (st : List Value) (K : Int32 → Int32 → List Value → Prop) : Prop := match st with | .int b :: .int a :: r => K a b r | _ => False
def q1 (st : List Value) (K : Int64 → List Value → Prop) : Prop := match st with | .long a :: r => K a r | _ => False
def q2 (st : List Value) (K : Int64 → Int64 → List Value → Prop) : Prop := match st with | .long b :: .long a :: r => K a b r | _ => False
def pr (st : List Value) (K : Nat → List Value → Prop) : Prop := match st with | .ref a :: r => K a r | _ => False
def pir (st : List Value) (K : Nat → Int32 → List Value → Prop) : Prop := match st with | .int i :: .ref a :: r => K a i r | _ => False
def piir (st : List Value) (K : Nat → Int32 → Int32 → List Value → Prop) : Prop := match st with | .int x :: .int i :: .ref a :: r => K a i x r | _ => False
def plir (st : List Value) (K : Nat → Int32 → Int64 → List Value → Prop) : Prop := match st with | .long x :: .int i :: .ref a :: r => K a i x r | _ => False
def prir (st : List Value) (K : Nat → Int32 → Option Nat → List Value → Prop) : Prop := match st with
  | .ref x :: .int i :: .ref a :: r => K a i (some x) r
  | .null :: .int i :: .ref a :: r => K a i none r
  | _ => False
def pvr (st : List Value) (K : Nat → Value → List Value → Prop) : Prop := match st with | v :: .ref a :: r => K a v r | _ => False
def pn (st : List Value) (K : Option Nat → List Value → Prop) : Prop := match st with
  | .ref a :: r => K (some a) r
  | .null :: r => K none r
  | _ => False
def li (a : Option Value) (K : Int32 → Prop) : Prop := match a with | some (.int v) => K v | _ => False
def ll (a : Option Value) (K : Int64 → Prop) : Prop := match a with | some (.long v) => K v | _ => False
def lr (a : Option Value) (K : Value → Prop) : Prop := match a with
  | some (.ref q) => K (.ref q)
  | some .null => K .null
  | _ => False
def br (pc : Nat) (off : Int) (K : Nat → Prop) : Prop := ∃ t : Nat, (pc : Int) + off = (t : Int) ∧ K t
def oc (o : Option (Nat × Nat)) (K : Nat → Nat → Prop) : Prop := match o with | some (a, b) => K a b | none => False
def on {α : Type} (o : Option α) (K : α → Prop) : Prop := match o with | some a => K a | none => False
def ot (o : Option Int) (K : Int → Prop) : Prop := match o with | some a => K a | none => False
def catS (r : List Value) : Nat := (r.map fun v => v.category).sum
def fT (o i : Nat) : Option (Nat × Nat) := (fL.find? (fun x => x.1 == o && x.2.1 == i)).map (fun x => (x.2.2.1, x.2.2.2.1))
def cT (o i : Nat) : Option (Nat × Nat) := (cL.find? (fun x => x.1 == o && x.2.1 == i)).map (fun x => (x.2.2.1, x.2.2.2.1))
def nT (o i : Nat) : Option Nat := (nL.find? (fun x => x.1 == o && x.2.1 == i)).map (fun x => x.2.2.1)
def sT (o i : Nat) : Option Nat := (sL.find? (fun x => x.1 == o && x.2.1 == i)).map (fun x => x.2.2.1)
def kT (o i : Nat) : Option Value := (kL.find? (fun x => x.1 == o && x.2.1 == i)).map (fun x => x.2.2.1)
def clF (ci : Nat) : Nat := match vwCl[ci]? with | some r => r.2.2 | none => 0
def okv (ty : FieldType) (v : Value) : Prop := narrow ty v = v ∧ fits ty v = true
def fin (ci k : Nat) : Bool := match vwCl[ci]? with | some r => (r.2.1 k).2.2.2 | none => true
def spl (n : Nat) (st : List Value) (K : List Value → List Value → Prop) : Prop := if n ≤ st.length then K (st.take n).reverse (st.drop n) else False
def alc (y z cn sn : Nat) (K : Nat → Nat → Prop) : Prop := if mC z = 0 ∧ mS z = 0 then K cn sn else cn + mC z ≤ mC y ∧ sn + mS z ≤ mS y ∧ K (cn + mC z) (sn + mS z)
def rtI (r : Option FieldType) (v : Int32) (P : Prop) : Prop := match r with
  | some .int => P
  | some .boolean => narrow .boolean (.int v) = .int v ∧ P
  | some .char => narrow .char (.int v) = .int v ∧ P
  | some .byte => narrow .byte (.int v) = .int v ∧ P
  | _ => False
def rtR (r : Option FieldType) (P : Prop) : Prop := match r with
  | some (.object _) => P
  | some (.array _) => P
  | _ => False
def aTy (t : ArrayType) : Option (Nat × Nat) := match t with
  | .int => some (20, 4)
  | .byte => some (21, 1)
  | .long => some (22, 8)
  | .boolean => some (23, 1)
  | _ => none
def inR (i : Int32) (n : Nat) : Prop := vp_in i n
def wcall (C : wC) (y z pc : Nat) (As rest : List Value) (L : List (Option Value)) (w : aw) (cn sn : Nat) (I : wI) : Prop :=
  catS rest ≤ 8 ∧ alc y z cn sn (fun c2 s2 => C z As w (fun v w' => I (pc + 3) L (v.toList ++ rest) w' c2 s2))
def wp1 (C : wC) (y : Nat) (Q : wQ) (I : wI) (i : Instr) (n pc : Nat) (L : List (Option Value)) (st : List Value) (w : aw) (cn sn : Nat) : Prop :=
  match i with
  | .iconst v => n1 n (I (pc + 1) L (.int (Int32.ofInt v) :: st) w cn sn)
  | .bipush v => n2 n (I (pc + 2) L (.int (Int8.ofInt v).toInt32 :: st) w cn sn)
  | .sipush v => n3 n (I (pc + 3) L (.int (Int16.ofInt v).toInt32 :: st) w cn sn)
  | .lconst v => n1 n (I (pc + 1) L (.long (Int64.ofNat (v : Nat)) :: st) w cn sn)
  | .aconst_null => n1 n (I (pc + 1) L (.null :: st) w cn sn)
  | .iload_n k => n1 n (li (nth L k) fun v => I (pc + 1) L (.int v :: st) w cn sn)
  | .iload k => n2 n (li (nth L k) fun v => I (pc + 2) L (.int v :: st) w cn sn)
  | .lload_n k => n1 n (ll (nth L k) fun v => I (pc + 1) L (.long v :: st) w cn sn)
  | .lload k => n2 n (ll (nth L k) fun v => I (pc + 2) L (.long v :: st) w cn sn)
  | .aload_n k => n1 n (lr (nth L k) fun v => I (pc + 1) L (v :: st) w cn sn)
  | .aload k => n2 n (lr (nth L k) fun v => I (pc + 2) L (v :: st) w cn sn)
  | .istore_n k => n1 n (p1 st fun v r => (k : Nat) < L.length ∧ I (pc + 1) (st1 L k (.int v)) r w cn sn)
  | .istore k => n2 n (p1 st fun v r => k < L.length ∧ I (pc + 2) (st1 L k (.int v)) r w cn sn)
  | .lstore_n k => n1 n (q1 st fun v r => (k : Nat) + 1 < L.length ∧ I (pc + 1) (st2 L k (.long v)) r w cn sn)
  | .lstore k => n2 n (q1 st fun v r => k + 1 < L.length ∧ I (pc + 2) (st2 L k (.long v)) r w cn sn)
  | .astore_n k => n1 n (pn st fun v r => (k : Nat) < L.length ∧ I (pc + 1) (st1 L k (va_rf v)) r w cn sn)
  | .astore k => n2 n (pn st fun v r => k < L.length ∧ I (pc + 2) (st1 L k (va_rf v)) r w cn sn)
  | .iinc k c => n3 n (li (nth L k) fun v => I (pc + 3) (st1 L k (.int (v + Int32.ofInt c))) st w cn sn)
  | .iadd => n1 n (p2 st fun a b r => I (pc + 1) L (.int (a + b) :: r) w cn sn)
  | .isub => n1 n (p2 st fun a b r => I (pc + 1) L (.int (a - b) :: r) w cn sn)
  | .imul => n1 n (p2 st fun a b r => I (pc + 1) L (.int (a * b) :: r) w cn sn)
  | .iand => n1 n (p2 st fun a b r => I (pc + 1) L (.int (a &&& b) :: r) w cn sn)
  | .ior => n1 n (p2 st fun a b r => I (pc + 1) L (.int (a ||| b) :: r) w cn sn)
  | .ixor => n1 n (p2 st fun a b r => I (pc + 1) L (.int (a ^^^ b) :: r) w cn sn)
  | .ishl => n1 n (p2 st fun a b r => I (pc + 1) L (.int (a <<< (b &&& 31)) :: r) w cn sn)
  | .ishr => n1 n (p2 st fun a b r => I (pc + 1) L (.int (a >>> (b &&& 31)) :: r) w cn sn)
  | .idiv => n1 n (p2 st fun a b r => ¬ b = 0 ∧ I (pc + 1) L (.int (a / b) :: r) w cn sn)
  | .irem => n1 n (p2 st fun a b r => ¬ b = 0 ∧ I (pc + 1) L (.int (a - a / b * b) :: r) w cn sn)
  | .ladd => n1 n (q2 st fun a b r => I (pc + 1) L (.long (a + b) :: r) w cn sn)
  | .lmul => n1 n (q2 st fun a b r => I (pc + 1) L (.long (a * b) :: r) w cn sn)
  | .lor => n1 n (q2 st fun a b r => I (pc + 1) L (.long (a ||| b) :: r) w cn sn)
  | .lshl => n1 n (p1 st fun b r => q1 r fun a r => I (pc + 1) L (.long (a <<< (b.toInt64 &&& 63)) :: r) w cn sn)
  | .lcmp => n1 n (q2 st fun a b r => I (pc + 1) L (.int (lg_cmp a b) :: r) w cn sn)
  | .i2l => n1 n (p1 st fun a r => I (pc + 1) L (.long a.toInt64 :: r) w cn sn)
  | .i2b => n1 n (p1 st fun a r => I (pc + 1) L (.int a.toInt8.toInt32 :: r) w cn sn)
  | .i2c => n1 n (p1 st fun a r => I (pc + 1) L (.int (a.toUInt32 % 65536).toInt32 :: r) w cn sn)
  | .dup => n1 n (match st with | v :: r => v.category = 1 ∧ I (pc + 1) L (v :: v :: r) w cn sn | _ => False)
  | .pop => n1 n (match st with | v :: r => v.category = 1 ∧ I (pc + 1) L r w cn sn | _ => False)
  | .dup2 => n1 n (match st with | a :: b :: r => a.category = 1 ∧ b.category = 1 ∧ I (pc + 1) L (a :: b :: a :: b :: r) w cn sn | _ => False)
  | .goto off => n3 n (br pc off fun t => I t L st w cn sn)
  | .ifCond .eq off => n3 n (p1 st fun x r => br pc off fun t => (x = 0 → I t L r w cn sn) ∧ (¬ x = 0 → I (pc + 3) L r w cn sn))
  | .ifCond .ne off => n3 n (p1 st fun x r => br pc off fun t => (¬ x = 0 → I t L r w cn sn) ∧ (x = 0 → I (pc + 3) L r w cn sn))
  | .ifCond .lt off => n3 n (p1 st fun x r => br pc off fun t => (x < 0 → I t L r w cn sn) ∧ (¬ x < 0 → I (pc + 3) L r w cn sn))
  | .ifCond .ge off => n3 n (p1 st fun x r => br pc off fun t => (0 ≤ x → I t L r w cn sn) ∧ (¬ 0 ≤ x → I (pc + 3) L r w cn sn))
  | .ifCond .gt off => n3 n (p1 st fun x r => br pc off fun t => (0 < x → I t L r w cn sn) ∧ (¬ 0 < x → I (pc + 3) L r w cn sn))
  | .ifCond .le off => n3 n (p1 st fun x r => br pc off fun t => (x ≤ 0 → I t L r w cn sn) ∧ (¬ x ≤ 0 → I (pc + 3) L r w cn sn))
  | .if_icmp .eq off => n3 n (p2 st fun x y r => br pc off fun t => (x = y → I t L r w cn sn) ∧ (¬ x = y → I (pc + 3) L r w cn sn))
  | .if_icmp .ne off => n3 n (p2 st fun x y r => br pc off fun t => (¬ x = y → I t L r w cn sn) ∧ (x = y → I (pc + 3) L r w cn sn))
  | .if_icmp .lt off => n3 n (p2 st fun x y r => br pc off fun t => (x < y → I t L r w cn sn) ∧ (¬ x < y → I (pc + 3) L r w cn sn))
  | .if_icmp .ge off => n3 n (p2 st fun x y r => br pc off fun t => (y ≤ x → I t L r w cn sn) ∧ (¬ y ≤ x → I (pc + 3) L r w cn sn))
  | .if_icmp .gt off => n3 n (p2 st fun x y r => br pc off fun t => (y < x → I t L r w cn sn) ∧ (¬ y < x → I (pc + 3) L r w cn sn))
  | .if_icmp .le off => n3 n (p2 st fun x y r => br pc off fun t => (x ≤ y → I t L r w cn sn) ∧ (¬ x ≤ y → I (pc + 3) L r w cn sn))
  | .ifnull off => n3 n (pn st fun x r => br pc off fun t => (x = none → I t L r w cn sn) ∧ (¬ x = none → I (pc + 3) L r w cn sn))
  | .ifnonnull off => n3 n (pn st fun x r => br pc off fun t => (¬ x = none → I t L r w cn sn) ∧ (x = none → I (pc + 3) L r w cn sn))
  | .tableswitch dflt lo hi offs => p1 st fun x r => (x.toInt < lo ∨ hi < x.toInt → br pc dflt fun t => I t L r w cn sn) ∧ (¬ x.toInt < lo → ¬ hi < x.toInt → ot (offs[(x.toInt - lo).toNat]?) fun off => br pc off fun t => I t L r w cn sn)
  | .ldc k => n2 n (on (kT (mO y) k) fun v => p1 [v] fun x _ => I (pc + 2) L (.int x :: st) w cn sn)
  | .ldc2_w k => n3 n (on (kT (mO y) k) fun v => q1 [v] fun x _ => I (pc + 3) L (.long x :: st) w cn sn)
  | .getfield k => n3 n (pr st fun a r => oc (fT (mO y) k) fun ci f => kd w a = ci + 1 ∧ I (pc + 3) L (fd w (64 * ci + f) a :: r) w cn sn)
  | .putfield k => n3 n (pvr st fun a v r => oc (fT (mO y) k) fun ci f => kd w a = ci + 1 ∧ (fin ci f = true → (mN y).name = "<init>" ∧ ci = mO y) ∧ okv (tyOf ci f) v ∧ I (pc + 3) L r (uF w (64 * ci + f) a v) cn sn)
  | .getstatic k => n3 n (on (sT (mO y) k) fun j => I (pc + 3) L (fd w (10000 + j) 0 :: st) w cn sn)
  | .arraylength => n1 n (pr st fun a r => (tyA (kd w a)).isSome = true ∧ I (pc + 1) L (.int (nI (ln w a)) :: r) w cn sn)
  | .iaload => n1 n (pir st fun a i r => (kd w a = 20 ∨ kd w a = 30) ∧ inR i (ln w a) ∧ I (pc + 1) L (.int (ai w a i.toNatClampNeg) :: r) w cn sn)
  | .baload => n1 n (pir st fun a i r => (kd w a = 21 ∨ kd w a = 23) ∧ inR i (ln w a) ∧ I (pc + 1) L (.int (ai w a i.toNatClampNeg) :: r) w cn sn)
  | .laload => n1 n (pir st fun a i r => kd w a = 22 ∧ inR i (ln w a) ∧ I (pc + 1) L (.long (al w a i.toNatClampNeg) :: r) w cn sn)
  | .aaload => n1 n (pir st fun a i r => kd w a = 24 ∧ inR i (ln w a) ∧ I (pc + 1) L (va_rf (ar w a i.toNatClampNeg) :: r) w cn sn)
  | .iastore => n1 n (piir st fun a i x r => kd w a = 20 ∧ inR i (ln w a) ∧ I (pc + 1) L r (uA w a i.toNatClampNeg x) cn sn)
  | .bastore => n1 n (piir st fun a i x r => inR i (ln w a) ∧ ((kd w a = 21 ∧ I (pc + 1) L r (uA w a i.toNatClampNeg (vp_nar .byte x)) cn sn) ∨ (kd w a = 23 ∧ I (pc + 1) L r (uA w a i.toNatClampNeg (vp_nar .boolean x)) cn sn)))
  | .lastore => n1 n (plir st fun a i x r => kd w a = 22 ∧ inR i (ln w a) ∧ I (pc + 1) L r (uL w a i.toNatClampNeg x) cn sn)
  | .aastore => n1 n (prir st fun a i x r => kd w a = 24 ∧ inR i (ln w a) ∧ (∀ q, x = some q → kd w q = 7) ∧ I (pc + 1) L r (uR w a i.toNatClampNeg x) cn sn)
  | .new k => n3 n (on (nT (mO y) k) fun ci => cn + 1 ≤ mC y ∧ sn + clF ci ≤ mS y ∧ I (pc + 3) L (.ref (zs w) :: st) (nw w (ci + 1) 0) (cn + 1) (sn + clF ci))
  | .newarray t => n2 n (p1 st fun m r => oc (aTy t) fun kn sz => ¬ m < 0 ∧ m.toNatClampNeg * sz ≤ 536870912 ∧ cn + 1 ≤ mC y ∧ sn + m.toNatClampNeg ≤ mS y ∧ I (pc + 2) L (.ref (zs w) :: r) (nw w kn m.toNatClampNeg) (cn + 1) (sn + m.toNatClampNeg))
  | .anewarray k => n3 n (p1 st fun m r => on (nT (mO y) k) fun ci => ci + 1 = 7 ∧ ¬ m < 0 ∧ m.toNatClampNeg * 4 ≤ 536870912 ∧ cn + 1 ≤ mC y ∧ sn + m.toNatClampNeg ≤ mS y ∧ I (pc + 3) L (.ref (zs w) :: r) (nw w 24 m.toNatClampNeg) (cn + 1) (sn + m.toNatClampNeg))
  | .invokevirtual k => n3 n (oc (cT (mO y) k) fun kn z => kn = 0 ∧ spl (mA z) st fun As r => pr r fun b r => kd w b = mO z + 1 ∧ (vwCl[mO z]?).isSome = true ∧ wcall C y z pc (.ref b :: As) r L w cn sn I)
  | .invokestatic k => n3 n (oc (cT (mO y) k) fun kn z => kn = 2 ∧ spl (mA z) st fun As r => wcall C y z pc As r L w cn sn I)
  | .invokespecial k => n3 n (oc (cT (mO y) k) fun kn z => (kn = 3 ∧ pr st fun _ r => catS r ≤ 8 ∧ I (pc + 3) L r w cn sn) ∨ ((kn = 1 ∨ kn = 4) ∧ spl (mA z) st fun As r => pr r fun b r => wcall C y z pc (.ref b :: As) r L w cn sn I))
  | .ireturn => n1 n (match st with | [.int v] => rtI (mR y) v (Q (some (.int v)) w) | _ => False)
  | .lreturn => n1 n (match st with | [.long v] => mR y = some .long ∧ Q (some (.long v)) w | _ => False)
  | .areturn => n1 n (match st with | [.ref v] => rtR (mR y) (Q (some (.ref v)) w) | [.null] => rtR (mR y) (Q (some .null) w) | _ => False)
  | .return_ => n1 n (match st with | [] => mR y = none ∧ Q none w | _ => False)
  | _ => False
def wpF (C : wC) (y : Nat) (Q : wQ) (I : wI) : wI := fun pc L st w cn sn => match decode (mB y) pc with
  | .ok (i, n) => wp1 C y Q I i n pc L st w cn sn
  | _ => False
/-- the least such predicate -/
def wpx (C : wC) (y : Nat) (Q : wQ) : wI := fun pc L st w cn sn => ∀ I : wI, (∀ pc L st w cn sn, wpF C y Q I pc L st w cn sn → I pc L st w cn sn) → I pc L st w cn sn
end
section
/-! the calculus is monotone, so the least predicate is a fixed point -/
theorem mo_and {A A' B B' : Prop} (h1 : A → A') (h2 : B → B') : A ∧ B → A' ∧ B' := fun h => ⟨h1 h.1, h2 h.2⟩
theorem mo_or {A A' B B' : Prop} (h1 : A → A') (h2 : B → B') : A ∨ B → A' ∨ B' := fun h => h.elim (fun h => Or.inl (h1 h)) (fun h => Or.inr (h2 h))
theorem mo_imp {A B B' : Prop} (h2 : B → B') : (A → B) → (A → B') := fun h a => h2 (h a)
theorem mo_n1 {n : Nat} {P P' : Prop} (h : P → P') : n1 n P → n1 n P' := by unfold n1; split <;> first | exact h | exact id
theorem mo_n2 {n : Nat} {P P' : Prop} (h : P → P') : n2 n P → n2 n P' := by unfold n2; split <;> first | exact h | exact id
theorem mo_n3 {n : Nat} {P P' : Prop} (h : P → P') : n3 n P → n3 n P' := by unfold n3; split <;> first | exact h | exact id
theorem mo_p1 {st : List Value} {K K' : Int32 → List Value → Prop} (h : ∀ a r, K a r → K' a r) : p1 st K → p1 st K' := by unfold p1; split <;> first | exact h _ _ | exact id
theorem mo_p2 {st : List Value} {K K' : Int32 → Int32 → List Value → Prop} (h : ∀ a b r, K a b r → K' a b r) : p2 st K → p2 st K' := by unfold p2; split <;> first | exact h _ _ _ | exact id
theorem mo_q1 {st : List Value} {K K' : Int64 → List Value → Prop} (h : ∀ a r, K a r → K' a r) : q1 st K → q1 st K' := by unfold q1; split <;> first | exact h _ _ | exact id
theorem mo_q2 {st : List Value} {K K' : Int64 → Int64 → List Value → Prop} (h : ∀ a b r, K a b r → K' a b r) : q2 st K → q2 st K' := by unfold q2; split <;> first | exact h _ _ _ | exact id
theorem mo_pr {st : List Value} {K K' : Nat → List Value → Prop} (h : ∀ a r, K a r → K' a r) : pr st K → pr st K' := by unfold pr; split <;> first | exact h _ _ | exact id
theorem mo_pir {st : List Value} {K K' : Nat → Int32 → List Value → Prop} (h : ∀ a i r, K a i r → K' a i r) : pir st K → pir st K' := by unfold pir; split <;> first | exact h _ _ _ | exact id
theorem mo_piir {st : List Value} {K K' : Nat → Int32 → Int32 → List Value → Prop} (h : ∀ a i x r, K a i x r → K' a i x r) : piir st K → piir st K' := by unfold piir; split <;> first | exact h _ _ _ _ | exact id
theorem mo_plir {st : List Value} {K K' : Nat → Int32 → Int64 → List Value → Prop} (h : ∀ a i x r, K a i x r → K' a i x r) : plir st K → plir st K' := by unfold plir; split <;> first | exact h _ _ _ _ | exact id
theorem mo_prir {st : List Value} {K K' : Nat → Int32 → Option Nat → List Value → Prop} (h : ∀ a i x r, K a i x r → K' a i x r) : prir st K → prir st K' := by unfold prir; split <;> first | exact h _ _ _ _ | exact id
theorem mo_pvr {st : List Value} {K K' : Nat → Value → List Value → Prop} (h : ∀ a v r, K a v r → K' a v r) : pvr st K → pvr st K' := by unfold pvr; split <;> first | exact h _ _ _ | exact id
theorem mo_pn {st : List Value} {K K' : Option Nat → List Value → Prop} (h : ∀ a r, K a r → K' a r) : pn st K → pn st K' := by unfold pn; split <;> first | exact h _ _ | exact id
theorem mo_li {a : Option Value} {K K' : Int32 → Prop} (h : ∀ v, K v → K' v) : li a K → li a K' := by unfold li; split <;> first | exact h _ | exact id
theorem mo_ll {a : Option Value} {K K' : Int64 → Prop} (h : ∀ v, K v → K' v) : ll a K → ll a K' := by unfold ll; split <;> first | exact h _ | exact id
theorem mo_lr {a : Option Value} {K K' : Value → Prop} (h : ∀ v, K v → K' v) : lr a K → lr a K' := by unfold lr; split <;> first | exact h _ | exact id
theorem mo_br {pc : Nat} {off : Int} {K K' : Nat → Prop} (h : ∀ t, K t → K' t) : br pc off K → br pc off K' := fun ⟨t, e, q⟩ => ⟨t, e, h t q⟩
theorem mo_oc {o : Option (Nat × Nat)} {K K' : Nat → Nat → Prop} (h : ∀ a b, K a b → K' a b) : oc o K → oc o K' := by unfold oc; split <;> first | exact h _ _ | exact id
theorem mo_on {α : Type} {o : Option α} {K K' : α → Prop} (h : ∀ a, K a → K' a) : on o K → on o K' := by unfold on; split <;> first | exact h _ | exact id
theorem mo_ot {o : Option Int} {K K' : Int → Prop} (h : ∀ a, K a → K' a) : ot o K → ot o K' := by unfold ot; split <;> first | exact h _ | exact id
theorem mo_spl {n : Nat} {st : List Value} {K K' : List Value → List Value → Prop} (h : ∀ a r, K a r → K' a r) : spl n st K → spl n st K' := by unfold spl; split <;> first | exact h _ _ | exact id
theorem mo_alc {y z cn sn : Nat} {K K' : Nat → Nat → Prop} (h : ∀ a r, K a r → K' a r) : alc y z cn sn K → alc y z cn sn K' := by
  unfold alc; split
  · exact h _ _
  · exact fun q => ⟨q.1, q.2.1, h _ _ q.2.2⟩
theorem mo_rtI {r : Option FieldType} {v : Int32} {P P' : Prop} (h : P → P') : rtI r v P → rtI r v P' := by unfold rtI; split <;> first | exact h | exact fun q => ⟨q.1, h q.2⟩ | exact id
theorem mo_rtR {r : Option FieldType} {P P' : Prop} (h : P → P') : rtR r P → rtR r P' := by unfold rtR; split <;> first | exact h | exact id
def moC (C : wC) : Prop := ∀ z As w Q Q', (∀ v w, Q v w → Q' v w) → C z As w Q → C z As w Q'
theorem mo_wcall {C : wC} (hC : moC C) {y z pc : Nat} {As rest : List Value} {L : List (Option Value)} {w : aw} {cn sn : Nat} {I I' : wI} (h : ∀ pc L st w cn sn, I pc L st w cn sn → I' pc L st w cn sn) : wcall C y z pc As rest L w cn sn I → wcall C y z pc As rest L w cn sn I' :=
  mo_and id (mo_alc fun _ _ => hC _ _ _ _ _ fun _ _ => h _ _ _ _ _ _)
set_option maxHeartbeats 4000000 in
set_option maxRecDepth 100000 in
theorem mo_wp1 {C : wC} (hC : moC C) {y : Nat} {Q Q' : wQ} {I I' : wI} (hQ : ∀ v w, Q v w → Q' v w) (hI : ∀ pc L st w cn sn, I pc L st w cn sn → I' pc L st w cn sn) {i : Instr} {n pc : Nat} {L : List (Option Value)} {st : List Value} {w : aw} {cn sn : Nat} : wp1 C y Q I i n pc L st w cn sn → wp1 C y Q' I' i n pc L st w cn sn := by
  unfold wp1
  split
  all_goals
    repeat' (first
      | exact id
      | exact hI _ _ _ _ _ _
      | exact hQ _ _
      | exact mo_wcall hC hI
      | refine mo_n1 ?_
      | refine mo_n2 ?_
      | refine mo_n3 ?_
      | refine mo_p1 fun _ _ => ?_
      | refine mo_p2 fun _ _ _ => ?_
      | refine mo_q1 fun _ _ => ?_
      | refine mo_q2 fun _ _ _ => ?_
      | refine mo_pr fun _ _ => ?_
      | refine mo_pir fun _ _ _ => ?_
      | refine mo_piir fun _ _ _ _ => ?_
      | refine mo_plir fun _ _ _ _ => ?_
      | refine mo_prir fun _ _ _ _ => ?_
      | refine mo_pvr fun _ _ _ => ?_
      | refine mo_pn fun _ _ => ?_
      | refine mo_li fun _ => ?_
      | refine mo_ll fun _ => ?_
      | refine mo_lr fun _ => ?_
      | refine mo_br fun _ => ?_
      | refine mo_oc fun _ _ => ?_
      | refine mo_on fun _ => ?_
      | refine mo_ot fun _ => ?_
      | refine mo_spl fun _ _ => ?_
      | refine mo_rtI ?_
      | refine mo_rtR ?_
      | refine mo_and ?_ ?_
      | refine mo_or ?_ ?_
      | refine mo_imp ?_
      | (split))
theorem mo_wpF {C : wC} (hC : moC C) {y : Nat} {Q Q' : wQ} {I I' : wI} (hQ : ∀ v w, Q v w → Q' v w) (hI : ∀ pc L st w cn sn, I pc L st w cn sn → I' pc L st w cn sn) {pc : Nat} {L : List (Option Value)} {st : List Value} {w : aw} {cn sn : Nat} : wpF C y Q I pc L st w cn sn → wpF C y Q' I' pc L st w cn sn := by
  unfold wpF
  split
  · exact mo_wp1 hC hQ hI
  · exact id
theorem wpx_in {C : wC} (hC : moC C) {y : Nat} {Q : wQ} {pc : Nat} {L : List (Option Value)} {st : List Value} {w : aw} {cn sn : Nat} (h : wpF C y Q (wpx C y Q) pc L st w cn sn) : wpx C y Q pc L st w cn sn :=
  fun I hI => hI _ _ _ _ _ _ (mo_wpF hC (fun _ _ => id) (fun _ _ _ _ _ _ q => q I hI) h)
theorem wpx_out {C : wC} (hC : moC C) {y : Nat} {Q : wQ} {pc : Nat} {L : List (Option Value)} {st : List Value} {w : aw} {cn sn : Nat} (h : wpx C y Q pc L st w cn sn) : wpF C y Q (wpx C y Q) pc L st w cn sn :=
  h (wpF C y Q (wpx C y Q)) (fun _ _ _ _ _ _ q => mo_wpF hC (fun _ _ => id) (fun _ _ _ _ _ _ q => wpx_in hC q) q)
theorem mo_wpx {C : wC} (hC : moC C) {y : Nat} {Q Q' : wQ} (hQ : ∀ v w, Q v w → Q' v w) {pc : Nat} {L : List (Option Value)} {st : List Value} {w : aw} {cn sn : Nat} (h : wpx C y Q pc L st w cn sn) : wpx C y Q' pc L st w cn sn :=
  fun I hI => h I (fun _ _ _ _ _ _ q => hI _ _ _ _ _ _ (mo_wpF hC hQ (fun _ _ _ _ _ _ => id) q))
def lo0 (As : List Value) : List (Option Value) := As.flatMap fun v => if v.category = 2 then [some v, none] else [some v]
def loE (n : Nat) (As : List Value) : List (Option Value) := lo0 As ++ List.replicate (n - (lo0 As).length) none
/-- a method's call, at most d deep -/
def wpD : Nat → wC
  | 0, _, _, _, _ => False
  | d + 1, z, As, w, Q => (lo0 As).length ≤ mL z ∧ wpx (wpD d) z Q 0 (loE (mL z) As) [] w 0 0
theorem moD : ∀ d, moC (wpD d)
  | 0 => fun _ _ _ _ _ _ h => h
  | d + 1 => fun _ _ _ _ _ hQ h => ⟨h.1, mo_wpx (moD d) hQ h.2⟩
abbrev wp (d : Nat) (y : Nat) (Q : wQ) : wI := wpx (wpD d) y Q
theorem wp_row {d y : Nat} {Q : wQ} {pc : Nat} {i : Instr} {n : Nat} (hd : decode (mB y) pc = .ok (i, n)) (L : List (Option Value)) (st : List Value) (w : aw) (cn sn : Nat) : wp d y Q pc L st w cn sn = wp1 (wpD d) y Q (wp d y Q) i n pc L st w cn sn := by
  have e : wpF (wpD d) y Q (wp d y Q) pc L st w cn sn = wp1 (wpD d) y Q (wp d y Q) i n pc L st w cn sn := by
    unfold wpF
    rw [hd]
  rw [← e]
  exact propext ⟨wpx_out (moD d), wpx_in (moD d)⟩
end
section
/-! the tables speak the truth -/
def wsG : List Cond := lw_tbl.filter goodWord
theorem inG {i : Nat} {w : Cond} (h : lw_tbl[i]? = some w) (hg : goodWord w = true) : w ∈ wsG := List.mem_filter.mpr ⟨List.mem_of_getElem? h, hg⟩
theorem good_wsG : GoodIn wsG wsG := fun w hw => ⟨hw, good_of_word (List.mem_filter.mp hw).2⟩
theorem hts_wsG {args : Array Value} {s : State} (h : ∀ w ∈ lw_tbl, w.before args s = true) : ∀ w ∈ wsG, w.before args s = true := fun w hw => h w (List.mem_filter.mp hw).1
def clD : vw_C := ("", fun _ => ("", "", "", false), 0)
def clA (ci : Nat) : vw_C := (vwCl[ci]?).getD clD
theorem clA_of {ci : Nat} {r : vw_C} (h : vwCl[ci]? = some r) : clA ci = r := by unfold clA; rw [h]; rfl
def fLb (x : Nat × Nat × Nat × Nat × Nat) : Bool := decide (x.2.2.1 < vwCl.length) && (decide (x.2.2.2.1 < (clA x.2.2.1).2.2) && decide (lw_tbl[x.2.2.2.2]? = some (Cond.fieldLink (oN x.1) x.2.1 ((clA x.2.2.1).2.1 x.2.2.2.1).1 ((clA x.2.2.1).2.1 x.2.2.2.1).2.1 ((clA x.2.2.1).2.1 x.2.2.2.1).2.2.1)))
set_option maxRecDepth 100000 in
theorem fL_ok : fL.all fLb = true := by decide +kernel
theorem fT_ok {o i ci k : Nat} (h : fT o i = some (ci, k)) : ∃ r : vw_C, vwCl[ci]? = some r ∧ k < r.2.2 ∧ Cond.fieldLink (oN o) i (r.2.1 k).1 (r.2.1 k).2.1 (r.2.1 k).2.2.1 ∈ wsG := by
  unfold fT at h
  cases hf : fL.find? (fun x => x.1 == o && x.2.1 == i) with
  | none => rw [hf] at h; cases h
  | some x =>
    rw [hf] at h
    have hp := List.find?_some hf
    have hm := List.mem_of_find?_eq_some hf
    simp only [Bool.and_eq_true, beq_iff_eq] at hp
    obtain ⟨rfl, rfl⟩ := hp
    obtain ⟨a, b, c, d, e⟩ := x
    cases h
    have ok := List.all_eq_true.mp fL_ok _ hm
    unfold fLb at ok
    simp only [Bool.and_eq_true, decide_eq_true_eq] at ok
    obtain ⟨o1, o2, o3⟩ := ok
    refine ⟨clA c, ?_, o2, inG o3 rfl⟩
    rw [List.getElem?_eq_getElem o1]
    unfold clA
    rw [List.getElem?_eq_getElem o1]
    rfl
def lyB (ci k : Nat) : Bool := decide (lw_tbl[(lyP.getD ci []).getD k 0]? = some (u_lay (clA ci).1 (clA ci).2.1 k)) && (goodWord (u_lay (clA ci).1 (clA ci).2.1 k) && decide (parseFieldDescriptor ((clA ci).2.1 k).2.2.1 = some (tyOf ci k)))
set_option maxRecDepth 100000 in
theorem ly_ok0 : (List.range vwCl.length).all (fun ci => (List.range (clA ci).2.2).all (fun k => lyB ci k)) = true := by decide +kernel
theorem lt_of_vw {ci : Nat} {r : vw_C} (h : vwCl[ci]? = some r) : ci < vwCl.length := (List.getElem?_eq_some_iff.mp h).1
theorem ly_ok1 {ci k : Nat} {r : vw_C} (h : vwCl[ci]? = some r) (hk : k < r.2.2) : lyB ci k = true := by
  have h1 := List.all_eq_true.mp ly_ok0 ci (List.mem_range.mpr (lt_of_vw h))
  exact List.all_eq_true.mp h1 k (List.mem_range.mpr (by rw [clA_of h]; exact hk))
theorem ly_in {ci : Nat} {r : vw_C} (h : vwCl[ci]? = some r) : ∀ w ∈ u_ws r.1 r.2.1 r.2.2, w ∈ wsG := by
  intro w hw
  obtain ⟨k, hk, rfl⟩ := List.mem_map.mp hw
  have h1 := ly_ok1 h (List.mem_range.mp hk)
  unfold lyB at h1
  simp only [Bool.and_eq_true, decide_eq_true_eq] at h1
  rw [clA_of h] at h1
  exact inG h1.1 h1.2.1
theorem ly_ty {ci : Nat} {r : vw_C} (h : vwCl[ci]? = some r) : ∀ k, k < r.2.2 → parseFieldDescriptor (r.2.1 k).2.2.1 = some (tyOf ci k) := by
  intro k hk
  have h1 := ly_ok1 h hk
  unfold lyB at h1
  simp only [Bool.and_eq_true, decide_eq_true_eq] at h1
  rw [clA_of h] at h1
  exact h1.2.2
set_option maxRecDepth 100000 in
theorem nm_ok0 : (List.range vwCl.length).all (fun ci => (List.range (clA ci).2.2).all (fun a => (List.range (clA ci).2.2).all (fun b => decide (a = b) || decide (((clA ci).2.1 a).2.1 ≠ ((clA ci).2.1 b).2.1)))) = true := by decide +kernel
theorem nm_ok {ci : Nat} {r : vw_C} (h : vwCl[ci]? = some r) : ∀ a, a < r.2.2 → ∀ b, b < r.2.2 → a ≠ b → (r.2.1 a).2.1 ≠ (r.2.1 b).2.1 := by
  intro a ha b hb hab
  have h1 := List.all_eq_true.mp nm_ok0 ci (List.mem_range.mpr (lt_of_vw h))
  rw [clA_of h] at h1
  have h2 := List.all_eq_true.mp (List.all_eq_true.mp h1 a (List.mem_range.mpr ha)) b (List.mem_range.mpr hb)
  simp only [Bool.or_eq_true, decide_eq_true_eq] at h2
  exact h2.resolve_left hab
def mOb (y : Nat) : Bool := decide (oN (mO y) = (mN y).cls) && (decide ((parseMethodDescriptor (mN y).desc).map (fun d => d.parameters.length) = some (mA y)) && (decide ((mN y).cls ≠ "java/lang/invoke/MethodHandle") && (decide ((mN y).cls ≠ "java/lang/invoke/VarHandle") && (plainName (mN y).cls && decide (mL y ≤ 12)))))
set_option maxRecDepth 100000 in
theorem mO_ok0 : (List.range mMany).all mOb = true := by decide +kernel
theorem mO_ok {y : Nat} (h : y < mMany) : oN (mO y) = (mN y).cls ∧ (parseMethodDescriptor (mN y).desc).map (fun d => d.parameters.length) = some (mA y) ∧ (mN y).cls ≠ "java/lang/invoke/MethodHandle" ∧ (mN y).cls ≠ "java/lang/invoke/VarHandle" ∧ plainName (mN y).cls = true ∧ mL y ≤ 12 := by
  have h1 := List.all_eq_true.mp mO_ok0 y (List.mem_range.mpr h)
  unfold mOb at h1
  simp only [Bool.and_eq_true, decide_eq_true_eq] at h1
  exact h1
def cLb (x : Nat × Nat × Nat × Nat × Nat × Nat × Nat × Nat) : Bool := match x with
  | (o, i, 0, z, a, b, c, d) => decide (0 < z) && (decide (z < mMany) && (decide (lw_tbl[a]? = some (Cond.methodLink (oN o) i (mN z))) && (decide (lw_tbl[b]? = some (Cond.instanceMethod (mN z))) && (decide (lw_tbl[c]? = some (Cond.initialized (mN z).cls)) && decide (lw_tbl[d]? = some (Cond.selects (mN z).cls (mN z) (mN z)))))))
  | (o, i, 1, z, a, b, c, _) => decide (0 < z) && (decide (z < mMany) && (decide (lw_tbl[a]? = some (Cond.methodLink (oN o) i (mN z))) && (decide (lw_tbl[b]? = some (Cond.instanceMethod (mN z))) && (decide (lw_tbl[c]? = some (Cond.initialized (mN z).cls)) && (decide ((mN z).name = "<init>") && decide (mR z = none))))))
  | (o, i, 2, z, a, b, c, _) => decide (0 < z) && (decide (z < mMany) && (decide (lw_tbl[a]? = some (Cond.methodLink (oN o) i (mN z))) && (decide (lw_tbl[b]? = some (Cond.static (mN z))) && decide (lw_tbl[c]? = some (Cond.initialized (mN z).cls)))))
  | (o, i, 3, _, a, _, _, _) => decide (lw_tbl[a]? = some (Cond.methodLink (oN o) i Lib.objectInit))
  | (o, i, 4, z, _, b, c, _) => decide (0 < z) && (decide (z < mMany) && (decide ((o, i, z) ∈ cNest) && (decide (lw_tbl[b]? = some (Cond.instanceMethod (mN z))) && (decide (lw_tbl[c]? = some (Cond.initialized (mN z).cls)) && (decide ((mN z).name = "<init>") && decide (mR z = none))))))
  | _ => false
set_option maxRecDepth 100000 in
theorem cL_ok : cL.all cLb = true := by decide +kernel
theorem cT_in {o i kn z : Nat} (h : cT o i = some (kn, z)) : ∃ a b c d, cLb (o, i, kn, z, a, b, c, d) = true := by
  unfold cT at h
  cases hf : cL.find? (fun x => x.1 == o && x.2.1 == i) with
  | none => rw [hf] at h; cases h
  | some x =>
    rw [hf] at h
    have hp := List.find?_some hf
    have hm := List.mem_of_find?_eq_some hf
    simp only [Bool.and_eq_true, beq_iff_eq] at hp
    obtain ⟨rfl, rfl⟩ := hp
    obtain ⟨a, b, c, d, e⟩ := x
    cases h
    exact ⟨_, _, _, _, List.all_eq_true.mp cL_ok _ hm⟩
theorem cT_0 {o i z : Nat} (h : cT o i = some (0, z)) : 0 < z ∧ z < mMany ∧ Cond.methodLink (oN o) i (mN z) ∈ wsG ∧ Cond.instanceMethod (mN z) ∈ wsG ∧ Cond.initialized (mN z).cls ∈ wsG ∧ Cond.selects (mN z).cls (mN z) (mN z) ∈ wsG := by
  obtain ⟨a, b, c, d, h⟩ := cT_in h
  simp only [cLb, Bool.and_eq_true, decide_eq_true_eq] at h
  exact ⟨h.1, h.2.1, inG h.2.2.1 rfl, inG h.2.2.2.1 rfl, inG h.2.2.2.2.1 rfl, inG h.2.2.2.2.2 rfl⟩
theorem cT_1 {o i z : Nat} (h : cT o i = some (1, z)) : 0 < z ∧ z < mMany ∧ Cond.methodLink (oN o) i (mN z) ∈ wsG ∧ Cond.instanceMethod (mN z) ∈ wsG ∧ Cond.initialized (mN z).cls ∈ wsG ∧ (mN z).name = "<init>" ∧ mR z = none := by
  obtain ⟨a, b, c, d, h⟩ := cT_in h
  simp only [cLb, Bool.and_eq_true, decide_eq_true_eq] at h
  exact ⟨h.1, h.2.1, inG h.2.2.1 rfl, inG h.2.2.2.1 rfl, inG h.2.2.2.2.1 rfl, h.2.2.2.2.2.1, h.2.2.2.2.2.2⟩
theorem cT_2 {o i z : Nat} (h : cT o i = some (2, z)) : 0 < z ∧ z < mMany ∧ Cond.methodLink (oN o) i (mN z) ∈ wsG ∧ Cond.static (mN z) ∈ wsG ∧ Cond.initialized (mN z).cls ∈ wsG := by
  obtain ⟨a, b, c, d, h⟩ := cT_in h
  simp only [cLb, Bool.and_eq_true, decide_eq_true_eq] at h
  exact ⟨h.1, h.2.1, inG h.2.2.1 rfl, inG h.2.2.2.1 rfl, inG h.2.2.2.2 rfl⟩
theorem cT_3 {o i z : Nat} (h : cT o i = some (3, z)) : Cond.methodLink (oN o) i Lib.objectInit ∈ wsG := by
  obtain ⟨a, b, c, d, h⟩ := cT_in h
  simp only [cLb, decide_eq_true_eq] at h
  exact inG h rfl
theorem cT_4 {o i z : Nat} (h : cT o i = some (4, z)) : 0 < z ∧ z < mMany ∧ (o, i, z) ∈ cNest ∧ Cond.instanceMethod (mN z) ∈ wsG ∧ Cond.initialized (mN z).cls ∈ wsG ∧ (mN z).name = "<init>" ∧ mR z = none := by
  obtain ⟨a, b, c, d, h⟩ := cT_in h
  simp only [cLb, Bool.and_eq_true, decide_eq_true_eq] at h
  exact ⟨h.1, h.2.1, h.2.2.1, inG h.2.2.2.1 rfl, inG h.2.2.2.2.1 rfl, h.2.2.2.2.2.1, h.2.2.2.2.2.2⟩
def nLb (x : Nat × Nat × Nat × Nat × Nat × Nat) : Bool := decide (x.2.2.1 < vwCl.length) && (decide (lw_tbl[x.2.2.2.1]? = some (Cond.classLink (oN x.1) x.2.1 (clA x.2.2.1).1)) && (decide (lw_tbl[x.2.2.2.2.1]? = some (Cond.instantiable (clA x.2.2.1).1 (clA x.2.2.1).2.2)) && decide (lw_tbl[x.2.2.2.2.2]? = some (Cond.initialized (clA x.2.2.1).1))))
set_option maxRecDepth 100000 in
theorem nL_ok : nL.all nLb = true := by decide +kernel
theorem nT_ok {o i ci : Nat} (h : nT o i = some ci) : ∃ r : vw_C, vwCl[ci]? = some r ∧ Cond.classLink (oN o) i r.1 ∈ wsG ∧ Cond.instantiable r.1 r.2.2 ∈ wsG ∧ Cond.initialized r.1 ∈ wsG := by
  unfold nT at h
  cases hf : nL.find? (fun x => x.1 == o && x.2.1 == i) with
  | none => rw [hf] at h; cases h
  | some x =>
    rw [hf] at h
    have hp := List.find?_some hf
    have hm := List.mem_of_find?_eq_some hf
    simp only [Bool.and_eq_true, beq_iff_eq] at hp
    obtain ⟨rfl, rfl⟩ := hp
    obtain ⟨a, b, c, d, e⟩ := x
    cases h
    have ok := List.all_eq_true.mp nL_ok _ hm
    unfold nLb at ok
    simp only [Bool.and_eq_true, decide_eq_true_eq] at ok
    obtain ⟨o1, o2, o3, o4⟩ := ok
    refine ⟨clA c, ?_, inG o2 rfl, inG o3 rfl, inG o4 rfl⟩
    rw [List.getElem?_eq_getElem o1]
    unfold clA
    rw [List.getElem?_eq_getElem o1]
    rfl
def sLb (x : Nat × Nat × Nat × Nat) : Bool := decide (x.2.2.1 < stL.length) && decide (lw_tbl[x.2.2.2]? = some (Cond.fieldLink (oN x.1) x.2.1 (stL.getD x.2.2.1 ("", "", "")).1 (stL.getD x.2.2.1 ("", "", "")).2.1 (stL.getD x.2.2.1 ("", "", "")).2.2))
set_option maxRecDepth 100000 in
theorem sL_ok : sL.all sLb = true := by decide +kernel
theorem sT_ok {o i j : Nat} (h : sT o i = some j) : ∃ x, stL[j]? = some x ∧ Cond.fieldLink (oN o) i x.1 x.2.1 x.2.2 ∈ wsG := by
  unfold sT at h
  cases hf : sL.find? (fun x => x.1 == o && x.2.1 == i) with
  | none => rw [hf] at h; cases h
  | some x =>
    rw [hf] at h
    have hp := List.find?_some hf
    have hm := List.mem_of_find?_eq_some hf
    simp only [Bool.and_eq_true, beq_iff_eq] at hp
    obtain ⟨rfl, rfl⟩ := hp
    obtain ⟨a, b, c, d⟩ := x
    cases h
    have ok := List.all_eq_true.mp sL_ok _ hm
    unfold sLb at ok
    simp only [Bool.and_eq_true, decide_eq_true_eq] at ok
    obtain ⟨o1, o2⟩ := ok
    refine ⟨stL.getD c ("", "", ""), ?_, inG o2 rfl⟩
    rw [List.getElem?_eq_getElem o1]
    simp only [List.getD_eq_getElem?_getD, List.getElem?_eq_getElem o1]
    rfl
def kLb (x : Nat × Nat × Value × Nat) : Bool := match x with
  | (o, i, .int v, p) => decide (lw_tbl[p]? = some (Cond.constant (oN o) i v))
  | (o, i, .long v, p) => decide (lw_tbl[p]? = some (Cond.constantLong (oN o) i v))
  | _ => false
set_option maxRecDepth 100000 in
theorem kL_ok : kL.all kLb = true := by decide +kernel
theorem kT_in {o i : Nat} {v : Value} (h : kT o i = some v) : ∃ p, kLb (o, i, v, p) = true := by
  unfold kT at h
  cases hf : kL.find? (fun x => x.1 == o && x.2.1 == i) with
  | none => rw [hf] at h; cases h
  | some x =>
    rw [hf] at h
    have hp := List.find?_some hf
    have hm := List.mem_of_find?_eq_some hf
    simp only [Bool.and_eq_true, beq_iff_eq] at hp
    obtain ⟨rfl, rfl⟩ := hp
    obtain ⟨a, b, c, d⟩ := x
    cases h
    exact ⟨_, List.all_eq_true.mp kL_ok _ hm⟩
theorem kT_int {o i : Nat} {v : Int32} (h : kT o i = some (.int v)) : Cond.constant (oN o) i v ∈ wsG := by
  obtain ⟨p, h⟩ := kT_in h
  simp only [kLb, decide_eq_true_eq] at h
  exact inG h rfl
theorem kT_long {o i : Nat} {v : Int64} (h : kT o i = some (.long v)) : Cond.constantLong (oN o) i v ∈ wsG := by
  obtain ⟨p, h⟩ := kT_in h
  simp only [kLb, decide_eq_true_eq] at h
  exact inG h rfl
def acB (x : FieldType × Nat) : Bool := decide (lw_tbl[x.2]? = some (Cond.arrayClass x.1))
set_option maxRecDepth 100000 in
theorem ac_ok : acP.all acB = true := by decide +kernel
theorem ac_in {ty : FieldType} {p : Nat} (h : (ty, p) ∈ acP) : Cond.arrayClass ty ∈ wsG := by
  have h1 := List.all_eq_true.mp ac_ok _ h
  simp only [acB, decide_eq_true_eq] at h1
  exact inG h1 rfl
set_option maxRecDepth 100000 in
theorem oi_in : Cond.instanceMethod Lib.objectInit ∈ wsG := List.mem_filter.mpr ⟨by decide +kernel, rfl⟩
end
section
/-! the calculus is sound over the machine -/
def lh (ls : Array Slot) (L : List (Option Value)) : Prop := ls.size = L.length ∧ lv_wf ls ∧ ∀ (i : Nat) (v : Value), L[i]? = some (some v) → ls[i]? = some (.val v)
theorem nth_some {L : List (Option Value)} {k : Nat} {v : Value} (h : nth L k = some v) : L[k]? = some (some v) := by
  induction L generalizing k with
  | nil => cases h
  | cons a r ih =>
    cases k with
    | zero => exact congrArg some h
    | succ k => exact ih h
theorem lh.at {ls : Array Slot} {L : List (Option Value)} (h : lh ls L) {k : Nat} {v : Value} (hk : nth L k = some v) : ls[k]? = some (.val v) := h.2.2 k v (nth_some hk)
def lo (L : List (Option Value)) : List (Nat × Value) := (List.range L.length).filterMap (fun i => (L.getD i none).map (fun v => (i, v)))
theorem lo_mem {L : List (Option Value)} {i : Nat} {v : Value} : (i, v) ∈ lo L ↔ L[i]? = some (some v) := by
  unfold lo
  rw [List.mem_filterMap]
  constructor
  · rintro ⟨j, hj, h⟩
    have hl := List.mem_range.mp hj
    rw [List.getD_eq_getElem?_getD, List.getElem?_eq_getElem hl] at h
    cases hv : L[j] with
    | none => rw [hv] at h; cases h
    | some u =>
      rw [hv] at h
      cases h
      rw [List.getElem?_eq_getElem hl, hv]
  · intro h
    have hl := (List.getElem?_eq_some_iff.mp h).1
    refine ⟨i, List.mem_range.mpr hl, ?_⟩
    rw [List.getD_eq_getElem?_getD, h]
    rfl
theorem lh.has {ls : Array Slot} {L : List (Option Value)} (h : lh ls L) : lv_has ls L.length (lo L) := ⟨h.1, h.2.1, fun q hq => h.2.2 q.1 q.2 (lo_mem.mp hq)⟩
theorem st1_len (L : List (Option Value)) (k : Nat) (v : Value) : (st1 L k v).length = L.length := by
  induction L generalizing k with
  | nil => rfl
  | cons a r ih =>
    match k with
    | 0 => rfl
    | 1 => show (st1 r 0 v).length + 1 = _; rw [ih]; rfl
    | k + 2 => show (st1 r (k + 1) v).length + 1 = _; rw [ih]; rfl
theorem st2_len (L : List (Option Value)) (k : Nat) (v : Value) (h : k + 1 < L.length) : (st2 L k v).length = L.length := by
  induction L generalizing k with
  | nil => rfl
  | cons a r ih =>
    match r, k with
    | [], _ => simp at h
    | b :: r, 0 => rfl
    | b :: r, 1 => show (st2 (b :: r) 0 v).length + 1 = _; rw [ih 0 (by simp at h ⊢; omega)]; rfl
    | b :: r, k + 2 => show (st2 (b :: r) (k + 1) v).length + 1 = _; rw [ih (k + 1) (by simp at h ⊢; omega)]; rfl
theorem clr_some {a : Option Value} {u : Value} (h : clr a = some u) : a = some u ∧ u.category = 1 := by
  unfold clr at h
  split at h
  · cases h
  · cases h
  · subst h
    refine ⟨rfl, ?_⟩
    cases u <;> first | rfl | simp_all
theorem st1_get {L : List (Option Value)} {k : Nat} {v : Value} {i : Nat} {u : Value} (h : (st1 L k v)[i]? = some (some u)) : (i = k ∧ u = v) ∨ (i ≠ k ∧ L[i]? = some (some u) ∧ ¬ (i + 1 = k ∧ u.category = 2)) := by
  induction L generalizing k i with
  | nil => simp [st1] at h
  | cons a r ih =>
    match k with
    | 0 =>
      cases i with
      | zero => simp [st1] at h; exact Or.inl ⟨rfl, h.symm⟩
      | succ i => exact Or.inr ⟨by omega, by simpa [st1] using h, by omega⟩
    | 1 =>
      cases i with
      | zero =>
        simp [st1] at h
        obtain ⟨h1, h2⟩ := clr_some h
        exact Or.inr ⟨by omega, by simp [h1], by omega⟩
      | succ i =>
        simp only [st1, List.getElem?_cons_succ] at h
        rcases ih h with ⟨h1, h2⟩ | ⟨h1, h2, h3⟩
        · exact Or.inl ⟨by omega, h2⟩
        · exact Or.inr ⟨by omega, by simpa using h2, by omega⟩
    | k + 2 =>
      cases i with
      | zero => simp [st1] at h; exact Or.inr ⟨by omega, by simp [h], by omega⟩
      | succ i =>
        simp only [st1, List.getElem?_cons_succ] at h
        rcases ih h with ⟨h1, h2⟩ | ⟨h1, h2, h3⟩
        · exact Or.inl ⟨by omega, h2⟩
        · exact Or.inr ⟨by omega, by simpa using h2, by omega⟩
theorem st2_get {L : List (Option Value)} {k : Nat} {v : Value} {i : Nat} {u : Value} (h : (st2 L k v)[i]? = some (some u)) : (i = k ∧ u = v) ∨ (i ≠ k ∧ i ≠ k + 1 ∧ L[i]? = some (some u) ∧ ¬ (i + 1 = k ∧ u.category = 2)) := by
  induction L generalizing k i with
  | nil => simp [st2] at h
  | cons a r ih =>
    match r, k with
    | [], k => simp [st2] at h
    | b :: r, 0 =>
      match i with
      | 0 => simp [st2] at h; exact Or.inl ⟨rfl, h.symm⟩
      | 1 => simp [st2] at h
      | i + 2 => exact Or.inr ⟨by omega, by omega, by simpa [st2] using h, by omega⟩
    | b :: r, 1 =>
      cases i with
      | zero =>
        simp [st2] at h
        obtain ⟨h1, h2⟩ := clr_some h
        exact Or.inr ⟨by omega, by omega, by simp [h1], by omega⟩
      | succ i =>
        simp only [st2, List.getElem?_cons_succ] at h
        rcases ih h with ⟨h1, h2⟩ | ⟨h1, h1', h2, h3⟩
        · exact Or.inl ⟨by omega, h2⟩
        · exact Or.inr ⟨by omega, by omega, by simpa using h2, by omega⟩
    | b :: r, k + 2 =>
      cases i with
      | zero => simp [st2] at h; exact Or.inr ⟨by omega, by omega, by simp [h], by omega⟩
      | succ i =>
        simp only [st2, List.getElem?_cons_succ] at h
        rcases ih h with ⟨h1, h2⟩ | ⟨h1, h1', h2, h3⟩
        · exact Or.inl ⟨by omega, h2⟩
        · exact Or.inr ⟨by omega, by omega, by simpa using h2, by omega⟩
theorem lh.st1 {ls' : Array Slot} {L : List (Option Value)} {k : Nat} {v : Value} (h : lv_has ls' L.length ((k, v) :: (lo L).filter (fun q => !(q.1 == k) && !(q.1 + 1 == k && q.2.category == 2)))) : lh ls' (st1 L k v) := by
  refine ⟨by rw [st1_len]; exact h.1, h.2.1, fun i u hu => ?_⟩
  rcases st1_get hu with ⟨rfl, rfl⟩ | ⟨h1, h2, h3⟩
  · exact h.2.2 _ List.mem_cons_self
  · refine h.2.2 (i, u) (List.mem_cons_of_mem _ (List.mem_filter.mpr ⟨lo_mem.mpr h2, ?_⟩))
    simp only [Bool.and_eq_true, Bool.not_eq_true', beq_eq_false_iff_ne, Bool.and_eq_false_iff]
    refine ⟨h1, ?_⟩
    by_cases hk : i + 1 = k
    · exact Or.inr (fun e => h3 ⟨hk, e⟩)
    · exact Or.inl hk
theorem lh.st2 {ls' : Array Slot} {L : List (Option Value)} {k : Nat} {v : Value} (hk : k + 1 < L.length) (h : lv_has ls' L.length ((k, v) :: (lo L).filter (fun q => !(q.1 == k) && (!(q.1 == k + 1) && !(q.1 + 1 == k && q.2.category == 2))))) : lh ls' (st2 L k v) := by
  refine ⟨by rw [st2_len _ _ _ hk]; exact h.1, h.2.1, fun i u hu => ?_⟩
  rcases st2_get hu with ⟨rfl, rfl⟩ | ⟨h1, h1', h2, h3⟩
  · exact h.2.2 _ List.mem_cons_self
  · refine h.2.2 (i, u) (List.mem_cons_of_mem _ (List.mem_filter.mpr ⟨lo_mem.mpr h2, ?_⟩))
    simp only [Bool.and_eq_true, Bool.not_eq_true', beq_eq_false_iff_ne, Bool.and_eq_false_iff]
    refine ⟨h1, h1', ?_⟩
    by_cases hk : i + 1 = k
    · exact Or.inr (fun e => h3 ⟨hk, e⟩)
    · exact Or.inl hk
theorem e_n1 {n : Nat} {P : Prop} (h : n1 n P) : n = 1 ∧ P := by unfold n1 at h; split at h <;> first | exact ⟨rfl, h⟩ | exact h.elim
theorem e_n2 {n : Nat} {P : Prop} (h : n2 n P) : n = 2 ∧ P := by unfold n2 at h; split at h <;> first | exact ⟨rfl, h⟩ | exact h.elim
theorem e_n3 {n : Nat} {P : Prop} (h : n3 n P) : n = 3 ∧ P := by unfold n3 at h; split at h <;> first | exact ⟨rfl, h⟩ | exact h.elim
theorem e_p1 {st : List Value} {K : Int32 → List Value → Prop} (h : p1 st K) : ∃ a r, st = .int a :: r ∧ K a r := by unfold p1 at h; split at h <;> first | exact ⟨_, _, rfl, h⟩ | exact h.elim
theorem e_p2 {st : List Value} {K : Int32 → Int32 → List Value → Prop} (h : p2 st K) : ∃ a b r, st = .int b :: .int a :: r ∧ K a b r := by unfold p2 at h; split at h <;> first | exact ⟨_, _, _, rfl, h⟩ | exact h.elim
theorem e_q1 {st : List Value} {K : Int64 → List Value → Prop} (h : q1 st K) : ∃ a r, st = .long a :: r ∧ K a r := by unfold q1 at h; split at h <;> first | exact ⟨_, _, rfl, h⟩ | exact h.elim
theorem e_q2 {st : List Value} {K : Int64 → Int64 → List Value → Prop} (h : q2 st K) : ∃ a b r, st = .long b :: .long a :: r ∧ K a b r := by unfold q2 at h; split at h <;> first | exact ⟨_, _, _, rfl, h⟩ | exact h.elim
theorem e_pr {st : List Value} {K : Nat → List Value → Prop} (h : pr st K) : ∃ a r, st = .ref a :: r ∧ K a r := by unfold pr at h; split at h <;> first | exact ⟨_, _, rfl, h⟩ | exact h.elim
theorem e_pir {st : List Value} {K : Nat → Int32 → List Value → Prop} (h : pir st K) : ∃ a i r, st = .int i :: .ref a :: r ∧ K a i r := by unfold pir at h; split at h <;> first | exact ⟨_, _, _, rfl, h⟩ | exact h.elim
theorem e_piir {st : List Value} {K : Nat → Int32 → Int32 → List Value → Prop} (h : piir st K) : ∃ a i x r, st = .int x :: .int i :: .ref a :: r ∧ K a i x r := by unfold piir at h; split at h <;> first | exact ⟨_, _, _, _, rfl, h⟩ | exact h.elim
theorem e_plir {st : List Value} {K : Nat → Int32 → Int64 → List Value → Prop} (h : plir st K) : ∃ a i x r, st = .long x :: .int i :: .ref a :: r ∧ K a i x r := by unfold plir at h; split at h <;> first | exact ⟨_, _, _, _, rfl, h⟩ | exact h.elim
theorem e_prir {st : List Value} {K : Nat → Int32 → Option Nat → List Value → Prop} (h : prir st K) : ∃ a i x r, st = va_rf x :: .int i :: .ref a :: r ∧ K a i x r := by unfold prir at h; split at h <;> first | exact ⟨_, _, some _, _, rfl, h⟩ | exact ⟨_, _, none, _, rfl, h⟩ | exact h.elim
theorem e_pvr {st : List Value} {K : Nat → Value → List Value → Prop} (h : pvr st K) : ∃ a v r, st = v :: .ref a :: r ∧ K a v r := by unfold pvr at h; split at h <;> first | exact ⟨_, _, _, rfl, h⟩ | exact h.elim
theorem e_pn {st : List Value} {K : Option Nat → List Value → Prop} (h : pn st K) : ∃ a r, st = va_rf a :: r ∧ K a r := by unfold pn at h; split at h <;> first | exact ⟨some _, _, rfl, h⟩ | exact ⟨none, _, rfl, h⟩ | exact h.elim
theorem e_li {a : Option Value} {K : Int32 → Prop} (h : li a K) : ∃ v, a = some (.int v) ∧ K v := by unfold li at h; split at h <;> first | exact ⟨_, rfl, h⟩ | exact h.elim
theorem e_ll {a : Option Value} {K : Int64 → Prop} (h : ll a K) : ∃ v, a = some (.long v) ∧ K v := by unfold ll at h; split at h <;> first | exact ⟨_, rfl, h⟩ | exact h.elim
theorem e_lr {a : Option Value} {K : Value → Prop} (h : lr a K) : ∃ x, a = some (va_rf x) ∧ K (va_rf x) := by unfold lr at h; split at h <;> first | exact ⟨some _, rfl, h⟩ | exact ⟨none, rfl, h⟩ | exact h.elim
theorem e_oc {o : Option (Nat × Nat)} {K : Nat → Nat → Prop} (h : oc o K) : ∃ a b, o = some (a, b) ∧ K a b := by unfold oc at h; split at h <;> first | exact ⟨_, _, rfl, h⟩ | exact h.elim
theorem e_on {α : Type} {o : Option α} {K : α → Prop} (h : on o K) : ∃ a, o = some a ∧ K a := by unfold on at h; split at h <;> first | exact ⟨_, rfl, h⟩ | exact h.elim
theorem e_ot {o : Option Int} {K : Int → Prop} (h : ot o K) : ∃ a, o = some a ∧ K a := by unfold ot at h; split at h <;> first | exact ⟨_, rfl, h⟩ | exact h.elim
theorem e_spl {n : Nat} {st : List Value} {K : List Value → List Value → Prop} (h : spl n st K) : ∃ As r, st = As.reverse ++ r ∧ As.length = n ∧ K As r := by
  unfold spl at h
  split at h
  · rename_i hn
    exact ⟨_, _, by rw [List.reverse_reverse, List.take_append_drop], by simp [hn], h⟩
  · exact h.elim
/-- a method's start and end -/
def PreX (D : va_G) (tA : Nat → ClassId) (B : Nat) (As : List Value) (w : aw) : Array Value → State → Prop := fun a U => a = As.toArray ∧ rp D tA B w U U.heap ∧ kk D tA U
def PostX (D : va_G) (tA : Nat → ClassId) (B : Nat) (Q : wQ) : Array Value → State → Outcome → State → Prop := fun _ st o t => (∃ v w', o = .returned v ∧ Q v w' ∧ rp D tA B w' t t.heap) ∧ va_F (fun q => B ≤ q) st t
theorem PreX.blind {D : va_G} {tA : Nat → ClassId} {B : Nat} {As : List Value} {w : aw} : FrameBlind (PreX D tA B As w) := fun a U g mk q =>
  ⟨q.1, rp.moved (u := U) (U := U.calling g mk a) (Vm.Alike.refl U.vm) q.2.1, q.2.2.call⟩
def wM (z : Nat) : List Cond := .code (mN z) (mB z) (mL z) (mR z) :: wsG
def rmD (d z : Nat) : Room := { frames := d, cells := mC z, slots := mS z, locals := 32 * d }
/-- what a call's predicate promises -/
def sndC (l : Launch) (D : va_G) (tA : Nat → ClassId) (B d : Nat) (C : wC) : Prop := ∀ z As w Q, 0 < z → z < mMany → C z As w Q → Met l (mN z) (wM z) (rmD d z) (PreX D tA B As w) (PostX D tA B Q) (mC z) (mS z) (fun q => B ≤ q)
theorem code_in {z : Nat} (h0 : 0 < z) (h : z < mMany) : Cond.code (mN z) (mB z) (mL z) (mR z) ∈ wsG := by
  obtain ⟨i, hi⟩ := mc_all z h0 h
  exact inG hi rfl
theorem wM_good {z : Nat} (h0 : 0 < z) (h : z < mMany) : GoodIn wsG (wM z) := by
  intro w hw
  rcases List.mem_cons.mp hw with rfl | hw
  · exact good_wsG _ (code_in h0 h)
  · exact good_wsG w hw
def cx (p : Program) (R : Room) (s : State) (m : MethodId) (args : Array Value) (meth : Method) (c : Code) (D : va_G) (tA : Nat → ClassId) (B y d : Nat) : Prop :=
  p.tables.exec = Jvm.exec ∧ c.code = mB y ∧ c.maxLocals = mL y ∧ s.vm.findClass (oN (mO y)) = some m.cls ∧ (∀ w ∈ wsG, w.before args s = true) ∧ meth.name = (mN y).name ∧ kk D tA s ∧ (d + 1 ≤ R.frames ∧ 32 * (d + 1) ≤ R.locals ∧ R.cells = mC y ∧ R.slots = mS y) ∧ B ≤ s.heap.size
section Snd
variable {p : Program} {l : Launch} {e : Env} {R : Room} {s : State} {m : MethodId} {args : Array Value} {below : List Frame} {meth : Method} {c : Code} {D : va_G} {tA : Nat → ClassId} {B y d : Nat} {Z : State → Prop} {C : wC} {Q : wQ}
def J (p : Program) (l : Launch) (e : Env) (R : Room) (s : State) (m : MethodId) (args : Array Value) (below : List Frame) (meth : Method) (c : Code) (D : va_G) (tA : Nat → ClassId) (B y : Nat) (Z : State → Prop) : wI := fun pc L st w cn sn =>
  ∀ (H : Heap) (locs : List Loc) (ls : Array Slot), rp D tA B w s H → va_S (fun q => B ≤ q) s.heap H locs → lh ls L → L.length = mL y → cn ≤ mC y → sn ≤ mS y → W p l e R s m args below meth c H locs cn sn Z (F0 m pc ls st)
/-- how a method may end -/
def ends (p : Program) (l : Launch) (e : Env) (R : Room) (s : State) (m : MethodId) (args : Array Value) (below : List Frame) (meth : Method) (c : Code) (D : va_G) (tA : Nat → ClassId) (B y : Nat) (Z : State → Prop) (Q : wQ) : Prop :=
  ∀ (H : Heap) (locs : List Loc) (ls : Array Slot) (w : aw) (pc cn sn : Nat), rp D tA B w s H → va_S (fun q => B ≤ q) s.heap H locs → cn ≤ mC y → sn ≤ mS y →
    (∀ (v : Int32) (ty : FieldType), mR y = some ty → narrow ty (.int v) = .int v → decode (mB y) pc = .ok (.ireturn, 1) → Q (some (.int v)) w → W p l e R s m args below meth c H locs cn sn Z (F0 m pc ls [.int v])) ∧
    (∀ (v : Int64), mR y = some .long → decode (mB y) pc = .ok (.lreturn, 1) → Q (some (.long v)) w → W p l e R s m args below meth c H locs cn sn Z (F0 m pc ls [.long v])) ∧
    (∀ (x : Option Nat) (ty : FieldType), mR y = some ty → ((∃ n, ty = .object n) ∨ ∃ t, ty = .array t) → decode (mB y) pc = .ok (.areturn, 1) → Q (some (va_rf x)) w → W p l e R s m args below meth c H locs cn sn Z (F0 m pc ls [va_rf x])) ∧
    (mR y = none → decode (mB y) pc = .ok (.return_, 1) → Q none w → W p l e R s m args below meth c H locs cn sn Z (F0 m pc ls []))
theorem call_go {pc mc ms cn sn : Nat} {rest st0 : List Value} {L : List (Option Value)} {ls : Array Slot} {H : Heap} {locs : List Loc} {a : Array Value} {Q' : wQ}
    (hr : va_Run p l e R s m args below meth c H locs cn sn mc ms (F0 m pc ls st0) rest (PostX D tA B Q' a) (fun q => B ≤ q)) (hS : va_S (fun q => B ≤ q) s.heap H locs) (hl : lh ls L) (hL : L.length = mL y) (h1 : cn + mc ≤ mC y) (h2 : sn + ms ≤ mS y)
    (k : ∀ v w', Q' v w' → J p l e R s m args below meth c D tA B y Z (pc + 3) L (v.toList ++ rest) w' (cn + mc) (sn + ms)) : W p l e R s m args below meth c H locs cn sn Z (F0 m pc ls st0) := by
  intro T hT X
  obtain ⟨v, st₀, t, T', Lc, h0, X', hLc, e1, e2, ⟨⟨v', w', hv, hq, hrp⟩, hz, hk⟩, st⟩ := hr T hT X
  cases hv
  rw [h0] at hz hk
  have hal : t.vm.Alike s.vm := by rw [← e2]; exact X'.warmed.alike.symm
  have hrp' : rp D tA B w' s T'.heap := by rw [e1]; exact hrp.moved hal
  have hS' : va_S (fun q => B ≤ q) s.heap T'.heap (locs ++ Lc) := by
    refine ⟨Nat.le_trans hS.1 (by rw [e1]; exact hz), fun q h1 h2 => ?_, fun q hq => ?_⟩
    · rw [e1, hk q (Nat.lt_of_lt_of_le h1 hS.1) h2]
      exact hS.2.1 q h1 h2
    · rcases List.mem_append.mp hq with h | h
      · exact hS.2.2 q h
      · exact hLc q h
  obtain ⟨t2, a1, b1⟩ := k v w' hq T'.heap (locs ++ Lc) ls hrp' hS' hl hL h1 h2 T' rfl X'
  exact ⟨t2, st t2 a1, b1⟩
theorem pre_go {As : List Value} {w : aw} {H : Heap} (hr : rp D tA B w s H) (hK : kk D tA s) : PreS s H (PreX D tA B As w) As :=
  ⟨PreX.blind, fun U hU hW => ⟨rfl, by rw [hU]; exact hr.moved hW.alike, hK.warm hW⟩⟩
theorem recv_go {w : aw} {H : Heap} {b ci : Nat} {r : vw_C} (hr : rp D tA B w s H) (hK : kk D tA s) (hk : kd w b = ci + 1) (hc : vwCl[ci]? = some r) : ∃ cellB : Cell, H[b]? = some cellB ∧ cellB.vm.isStatics = false ∧ s.vm.findClass r.1 = some cellB.cls := by
  obtain ⟨cell, h1, h2, h3, -⟩ := hr.1.1 b ci r hk hc
  exact ⟨cell, h1, by rw [h3]; rfl, by rw [h2]; exact (hK.1.1 ci r hc).2.1⟩
theorem callB_go (X : cx p R s m args meth c D tA B y d) {z i : Nat} (h0 : 0 < z) (hz : z < mMany) (hini : Cond.initialized (mN z).cls ∈ wsG) (hl : Cond.methodLink (oN (mO y)) i (mN z) ∈ wsG) : CallB R s args (oN (mO y)) i (mN z) (mB z) (mL z) (mR z) (wM z) (rmD d z) (mC z) (mS z) (mA z) := by
  obtain ⟨hx, hb, hml, hown, hts, hnm, hK, ⟨r1, r2, r3, r4⟩, hB⟩ := X
  obtain ⟨o1, o2, o3, o4, o5, o6⟩ := mO_ok hz
  exact callB_of (mA z) hts (wM_good h0 hz) rfl rfl rfl (hts _ hini) (hts _ hl) ⟨o3, o4, o2⟩ ⟨r1, by show 8 + (mL z + 11) + 32 * d ≤ R.locals; omega⟩
end Snd
end
section
def cnB (ci : Nat) : Bool := decide ((clA ci).1 = oN ci) && (List.range (clA ci).2.2).all (fun k => decide (((clA ci).2.1 k).1 = (clA ci).1))
set_option maxRecDepth 100000 in
theorem cn_ok0 : (List.range vwCl.length).all cnB = true := by decide +kernel
theorem cn_ok {ci : Nat} {r : vw_C} (h : vwCl[ci]? = some r) : r.1 = oN ci ∧ ∀ k, k < r.2.2 → (r.2.1 k).1 = r.1 := by
  have h1 := List.all_eq_true.mp cn_ok0 ci (List.mem_range.mpr (lt_of_vw h))
  unfold cnB at h1
  rw [clA_of h] at h1
  simp only [Bool.and_eq_true, decide_eq_true_eq] at h1
  exact ⟨h1.1, fun k hk => of_decide_eq_true (List.all_eq_true.mp h1.2 k (List.mem_range.mpr hk))⟩
theorem fin_of {ci k : Nat} {r : vw_C} (h : vwCl[ci]? = some r) : fin ci k = (r.2.1 k).2.2.2 := by unfold fin; rw [h]
theorem clF_of {ci : Nat} {r : vw_C} (h : vwCl[ci]? = some r) : clF ci = r.2.2 := by unfold clF; rw [h]
section Stp
variable {p : Program} {l : Launch} {e : Env} {R : Room} {s : State} {m : MethodId} {args : Array Value} {below : List Frame} {meth : Method} {c : Code} {D : va_G} {tA : Nat → ClassId} {B y d : Nat} {Z : State → Prop} {C : wC} {Q : wQ}
variable {k pc n : Nat} {L : List (Option Value)} {st r : List Value} {w : aw} {cn sn a ci f : Nat}
theorem j_getfield (X : cx p R s m args meth c D tA B y d) (hd : decode (mB y) pc = .ok (.getfield k, 3)) (hf : fT (mO y) k = some (ci, f)) (hk : kd w a = ci + 1) (h : J p l e R s m args below meth c D tA B y Z (pc + 3) L (fd w (64 * ci + f) a :: r) w cn sn) : J p l e R s m args below meth c D tA B y Z pc L (.ref a :: r) w cn sn := by
  obtain ⟨hx, hb, hml, hown, hts, hnm, hK, hR, hB⟩ := X
  intro H locs ls hr hS hl hL hcn hsn
  obtain ⟨rr, hc, hfN, hlk⟩ := fT_ok hf
  obtain ⟨cell, q1, q2, q3, q4⟩ := hr.1.1 a ci rr hk hc
  obtain ⟨hSl, hfc, kC, hkC, hkind⟩ := hK.1.1 ci rr hc
  obtain ⟨cf, kf, fi, fl, hi, hsl⟩ := hSl f hfN
  refine W.getf hx hb hown (hts _ hlk) hi (u_facts hfc hkC (u_lays hts (ly_in hc) hfN) hi).1 q1 (by rw [q3]; exact fun h => by cases h) (v := fd w (64 * ci + f) a) ?_ rfl rfl hd (h H locs ls hr hS hl hL hcn hsn)
  rw [hsl]
  exact q4 f hfN
theorem va_apartX {ci : Nat} {rr : vw_C} (hts : ∀ w ∈ wsG, w.before args s = true) (hK : kk D tA s) (hc : vwCl[ci]? = some rr) : ∀ x y, x < rr.2.2 → y < rr.2.2 → x ≠ y → (D.2 ci) x ≠ (D.2 ci) y :=
  va_apart (own := "") hts (ly_in hc) (tyOf ci) (ly_ty hc) (nm_ok hc) hK.1 hc
theorem j_putfield (X : cx p R s m args meth c D tA B y d) {v : Value} (hd : decode (mB y) pc = .ok (.putfield k, 3)) (hf : fT (mO y) k = some (ci, f)) (hk : kd w a = ci + 1) (hfin : fin ci f = true → (mN y).name = "<init>" ∧ ci = mO y) (hv : okv (tyOf ci f) v) (h : J p l e R s m args below meth c D tA B y Z (pc + 3) L r (uF w (64 * ci + f) a v) cn sn) : J p l e R s m args below meth c D tA B y Z pc L (v :: .ref a :: r) w cn sn := by
  obtain ⟨hx, hb, hml, hown, hts, hnm, hK, hR, hB⟩ := X
  intro H locs ls hr hS hl hL hcn hsn
  obtain ⟨rr, hc, hfN, hlk⟩ := fT_ok hf
  have hap := va_apartX hts hK hc
  obtain ⟨cell, q1, q2, q3, q4⟩ := hr.1.1 a ci rr hk hc
  obtain ⟨hSl, hfc, kC, hkC, hkind⟩ := hK.1.1 ci rr hc
  obtain ⟨cf, kf, fi, fl, hi, hsl⟩ := hSl f hfN
  have hlay := hts _ (ly_in hc _ (u_in_lay hfN))
  unfold u_lay at hlay
  have hst := (u_facts hfc hkC (u_lays hts (ly_in hc) hfN) hi).1
  have hBa : B ≤ a := hr.2.1 a (by omega) (by have := vwCl_lt hc; omega)
  cases hfi : (rr.2.1 f).2.2.2 with
  | false =>
    rw [if_neg (by rw [hfi]; decide)] at hlay
    have h6 := u_store hfc hkC hkind hlay hi (ly_ty hc f hfN) hv.1 hv.2
    refine W.putK hx hb (f := fl) ⟨hown, hts _ hlk, ⟨_, _, _, hi⟩, hst⟩ (by rw [q2]; exact h6) q1 q3 (by rw [hsl]; exact k2_hasslot (q4 f hfN)) rfl rfl hd fun H' e1 e2 e3 => ?_
    rw [hsl] at e1 ⊢
    exact h H' _ ls (hr.setF hk hc hfN ⟨_, e1, q2, q3, t_set q4 hap hfN v⟩ e3 e2) (hS.put e2 e3 hBa) hl hL hcn hsn
  | true =>
    rw [if_pos hfi] at hlay
    obtain ⟨hn, hci⟩ := hfin (by rw [fin_of hc]; exact hfi)
    have hdecl : (rr.2.1 f).1 = oN (mO y) := by rw [(cn_ok hc).2 f hfN, (cn_ok hc).1, hci]
    have hcf : m.cls = cf := by
      obtain ⟨_, _, c', _, _, _, -, -, hf', -, -, -, hown2, -⟩ := Cond.laysFinal_spec hlay
      have e1 : c' = cf := by have := hi.symm.trans hf'; simp at this; exact this.1.symm
      rw [hdecl] at hown2
      rw [← e1]; exact Option.some.inj (hown.symm.trans hown2)
    have h6 := u_fits hfc hkC hkind (Or.inr hlay) hi (ly_ty hc f hfN) hv.1 hv.2
    refine W.putFinK hx hb hown (hts _ hlk) hi hst hcf (hnm.trans hn) (by rw [q2]; exact h6) q1 q3 (by rw [hsl]; exact k2_hasslot (q4 f hfN)) rfl rfl hd fun H' e1 e2 e3 => ?_
    rw [hsl] at e1 ⊢
    exact h H' _ ls (hr.setF hk hc hfN ⟨_, e1, q2, q3, t_set q4 hap hfN v⟩ e3 e2) (hS.put e2 e3 hBa) hl hL hcn hsn
theorem j_getstatic (X : cx p R s m args meth c D tA B y d) {j : Nat} (hd : decode (mB y) pc = .ok (.getstatic k, 3)) (hf : sT (mO y) k = some j) (h : J p l e R s m args below meth c D tA B y Z (pc + 3) L (fd w (10000 + j) 0 :: st) w cn sn) : J p l e R s m args below meth c D tA B y Z pc L st w cn sn := by
  obtain ⟨hx, hb, hml, hown, hts, hnm, hK, hR, hB⟩ := X
  intro H locs ls hr hS hl hL hcn hsn
  obtain ⟨x, hx1, hlk⟩ := sT_ok hf
  obtain ⟨cf, kf, fi, f, a, cell, h1, h2, h3, h4, h5, h6, h7, h8⟩ := hr.2.2.2.2 j x hx1
  exact W.gets hx hb hown (hts _ hlk) h1 h2 h3 h4 h5 (fun e => by rw [e] at h6; cases h6) h7 rfl hd (h H locs ls hr hS hl hL hcn hsn)
theorem tyA_some {t : Nat} (h : (tyA t).isSome = true) : isI t ∨ t = 22 ∨ t = 24 := by
  unfold tyA at h
  unfold isI
  split at h <;> simp_all
theorem tyA_isI {t : Nat} (h : isI t) : ∃ ty, tyA t = some ty := by
  rcases h with rfl | rfl | rfl | rfl <;> exact ⟨_, rfl⟩
theorem j_alen (X : cx p R s m args meth c D tA B y d) (hd : decode (mB y) pc = .ok (.arraylength, 1)) (hk : (tyA (kd w a)).isSome = true) (h : J p l e R s m args below meth c D tA B y Z (pc + 1) L (.int (nI (ln w a)) :: r) w cn sn) : J p l e R s m args below meth c D tA B y Z pc L (.ref a :: r) w cn sn := by
  obtain ⟨hx, hb, hml, hown, hts, hnm, hK, hR, hB⟩ := X
  intro H locs ls hr hS hl hL hcn hsn
  have h := h H locs ls hr hS hl hL hcn hsn
  rcases tyA_some hk with hi | hi | hi
  · obtain ⟨ty, ht⟩ := tyA_isI hi
    exact W.alen (n := nI (ln w a)) hx hb (hr.1.2.1 a hi) ((hK.2.1 _ _ ht).1 _ _) (by rw [arrV_size] <;> rfl) rfl rfl hd h
  · exact W.alen (n := nI (ln w a)) hx hb (hr.1.2.2.1 a hi) ((hK.2.1 22 .long rfl).1 _ _) (by rw [arrV_size] <;> rfl) rfl rfl hd h
  · exact W.alen (n := nI (ln w a)) hx hb (hr.1.2.2.2 a hi) ((hK.2.1 24 _ rfl).1 _ _) (by rw [arrV_size] <;> rfl) rfl rfl hd h
theorem in_lt {i : Int32} {n : Nat} (h : inR i n) : i.toNatClampNeg < n := Nat.not_le.mp fun q => h (Or.inr q)
theorem j_iaload (X : cx p R s m args meth c D tA B y d) {i : Int32} (hd : decode (mB y) pc = .ok (.iaload, 1)) (hk : kd w a = 20 ∨ kd w a = 30) (hin : inR i (ln w a)) (h : J p l e R s m args below meth c D tA B y Z (pc + 1) L (.int (ai w a i.toNatClampNeg) :: r) w cn sn) : J p l e R s m args below meth c D tA B y Z pc L (.int i :: .ref a :: r) w cn sn := by
  obtain ⟨hx, hb, hml, hown, hts, hnm, hK, hR, hB⟩ := X
  intro H locs ls hr hS hl hL hcn hsn
  have h := h H locs ls hr hS hl hL hcn hsn
  have hlt := in_lt hin
  have hty : tyA (kd w a) = some .int := by rcases hk with e | e <;> rw [e] <;> rfl
  exact W.iald (v := .int (ai w a i.toNatClampNeg)) hx hb (hr.1.2.1 a (by rcases hk with e | e <;> simp [isI, e])) ((hK.2.1 _ _ hty).1 _ _) (fun q => by cases q) (by rw [arrV_size]; exact hin) (by rw [arrV_read _ _ hlt]) rfl rfl hd h
theorem j_baload (X : cx p R s m args meth c D tA B y d) {i : Int32} (hd : decode (mB y) pc = .ok (.baload, 1)) (hk : kd w a = 21 ∨ kd w a = 23) (hin : inR i (ln w a)) (h : J p l e R s m args below meth c D tA B y Z (pc + 1) L (.int (ai w a i.toNatClampNeg) :: r) w cn sn) : J p l e R s m args below meth c D tA B y Z pc L (.int i :: .ref a :: r) w cn sn := by
  obtain ⟨hx, hb, hml, hown, hts, hnm, hK, hR, hB⟩ := X
  intro H locs ls hr hS hl hL hcn hsn
  have h := h H locs ls hr hS hl hL hcn hsn
  have hlt := in_lt hin
  rcases hk with hk | hk
  · exact W.bald (v := .int (ai w a i.toNatClampNeg)) hx hb (hr.1.2.1 a (by simp [isI, hk])) ((hK.2.1 _ .byte (by rw [hk]; rfl)).1 _ _) (fun q => by cases q) (by rw [arrV_size]; exact hin) (by rw [arrV_read _ _ hlt]) rfl rfl hd h
  · exact W.zald (v := .int (ai w a i.toNatClampNeg)) hx hb (hr.1.2.1 a (by simp [isI, hk])) ((hK.2.1 _ .boolean (by rw [hk]; rfl)).1 _ _) (fun q => by cases q) (by rw [arrV_size]; exact hin) (by rw [arrV_read _ _ hlt]) rfl rfl hd h
theorem j_laload (X : cx p R s m args meth c D tA B y d) {i : Int32} (hd : decode (mB y) pc = .ok (.laload, 1)) (hk : kd w a = 22) (hin : inR i (ln w a)) (h : J p l e R s m args below meth c D tA B y Z (pc + 1) L (.long (al w a i.toNatClampNeg) :: r) w cn sn) : J p l e R s m args below meth c D tA B y Z pc L (.int i :: .ref a :: r) w cn sn := by
  obtain ⟨hx, hb, hml, hown, hts, hnm, hK, hR, hB⟩ := X
  intro H locs ls hr hS hl hL hcn hsn
  exact W.lald (v := .long (al w a i.toNatClampNeg)) hx hb (hr.1.2.2.1 a hk) ((hK.2.1 22 .long rfl).1 _ _) (fun q => by cases q) (by rw [arrV_size]; exact hin) (by rw [arrV_read _ _ (in_lt hin)]) rfl rfl hd (h H locs ls hr hS hl hL hcn hsn)
theorem j_aaload (X : cx p R s m args meth c D tA B y d) {i : Int32} (hd : decode (mB y) pc = .ok (.aaload, 1)) (hk : kd w a = 24) (hin : inR i (ln w a)) (h : J p l e R s m args below meth c D tA B y Z (pc + 1) L (va_rf (ar w a i.toNatClampNeg) :: r) w cn sn) : J p l e R s m args below meth c D tA B y Z pc L (.int i :: .ref a :: r) w cn sn := by
  obtain ⟨hx, hb, hml, hown, hts, hnm, hK, hR, hB⟩ := X
  intro H locs ls hr hS hl hL hcn hsn
  exact W.aald (v := va_rf (ar w a i.toNatClampNeg)) (ty := .object "LineMonitor$User") hx hb (hr.1.2.2.2 a hk) ((hK.2.1 24 _ rfl).1 _ _) rfl (fun q => by cases q) (by rw [arrV_size]; exact hin) (by rw [arrV_read _ _ (in_lt hin)]) rfl rfl hd (h H locs ls hr hS hl hL hcn hsn)
theorem j_iastore (X : cx p R s m args meth c D tA B y d) {i x : Int32} (hd : decode (mB y) pc = .ok (.iastore, 1)) (hk : kd w a = 20) (hin : inR i (ln w a)) (h : J p l e R s m args below meth c D tA B y Z (pc + 1) L r (uA w a i.toNatClampNeg x) cn sn) : J p l e R s m args below meth c D tA B y Z pc L (.int x :: .int i :: .ref a :: r) w cn sn := by
  obtain ⟨hx, hb, hml, hown, hts, hnm, hK, hR, hB⟩ := X
  intro H locs ls hr hS hl hL hcn hsn
  have hI : isI (kd w a) := by simp [isI, hk]
  have hBa : B ≤ a := hr.2.1 a (by omega) (by omega)
  refine W.iast hx hb (hr.1.2.1 a hI) ((hK.2.1 _ .int (by rw [hk]; rfl)).1 _ _) (fun q => by cases q) (by rw [arrV_size]; exact hin) rfl rfl hd fun H1 e z oq => ?_
  exact h H1 _ ls (hr.setA hI (by omega) (by rw [e, arrV_store]) oq z) (hS.put z oq hBa) hl hL hcn hsn
theorem j_bastore (X : cx p R s m args meth c D tA B y d) {i x : Int32} (hd : decode (mB y) pc = .ok (.bastore, 1)) (hk : kd w a = 21) (hin : inR i (ln w a)) (h : J p l e R s m args below meth c D tA B y Z (pc + 1) L r (uA w a i.toNatClampNeg (vp_nar .byte x)) cn sn) : J p l e R s m args below meth c D tA B y Z pc L (.int x :: .int i :: .ref a :: r) w cn sn := by
  obtain ⟨hx, hb, hml, hown, hts, hnm, hK, hR, hB⟩ := X
  intro H locs ls hr hS hl hL hcn hsn
  have hI : isI (kd w a) := by simp [isI, hk]
  have hBa : B ≤ a := hr.2.1 a (by omega) (by omega)
  refine W.bast hx hb (hr.1.2.1 a hI) ((hK.2.1 _ .byte (by rw [hk]; rfl)).1 _ _) (fun q => by cases q) (by rw [arrV_size]; exact hin) rfl rfl hd fun H1 e z oq => ?_
  exact h H1 _ ls (hr.setA hI (by omega) (by rw [e, arrV_store]; rfl) oq z) (hS.put z oq hBa) hl hL hcn hsn
theorem j_zastore (X : cx p R s m args meth c D tA B y d) {i x : Int32} (hd : decode (mB y) pc = .ok (.bastore, 1)) (hk : kd w a = 23) (hin : inR i (ln w a)) (h : J p l e R s m args below meth c D tA B y Z (pc + 1) L r (uA w a i.toNatClampNeg (vp_nar .boolean x)) cn sn) : J p l e R s m args below meth c D tA B y Z pc L (.int x :: .int i :: .ref a :: r) w cn sn := by
  obtain ⟨hx, hb, hml, hown, hts, hnm, hK, hR, hB⟩ := X
  intro H locs ls hr hS hl hL hcn hsn
  have hI : isI (kd w a) := by simp [isI, hk]
  have hBa : B ≤ a := hr.2.1 a (by omega) (by omega)
  refine W.zast hx hb (hr.1.2.1 a hI) ((hK.2.1 _ .boolean (by rw [hk]; rfl)).1 _ _) (fun q => by cases q) (by rw [arrV_size]; exact hin) rfl rfl hd fun H1 e z oq => ?_
  exact h H1 _ ls (hr.setA hI (by omega) (by rw [e, arrV_store]; rfl) oq z) (hS.put z oq hBa) hl hL hcn hsn
theorem j_lastore (X : cx p R s m args meth c D tA B y d) {i : Int32} {x : Int64} (hd : decode (mB y) pc = .ok (.lastore, 1)) (hk : kd w a = 22) (hin : inR i (ln w a)) (h : J p l e R s m args below meth c D tA B y Z (pc + 1) L r (uL w a i.toNatClampNeg x) cn sn) : J p l e R s m args below meth c D tA B y Z pc L (.long x :: .int i :: .ref a :: r) w cn sn := by
  obtain ⟨hx, hb, hml, hown, hts, hnm, hK, hR, hB⟩ := X
  intro H locs ls hr hS hl hL hcn hsn
  have hBa : B ≤ a := hr.2.1 a (by omega) (by omega)
  refine W.last hx hb (hr.1.2.2.1 a hk) ((hK.2.1 22 .long rfl).1 _ _) (fun q => by cases q) (by rw [arrV_size]; exact hin) rfl rfl hd fun H1 e z oq => ?_
  exact h H1 _ ls (hr.setL hk (by rw [e, arrV_store]) oq z) (hS.put z oq hBa) hl hL hcn hsn
theorem j_aastore (X : cx p R s m args meth c D tA B y d) {i : Int32} {x : Option Nat} (hd : decode (mB y) pc = .ok (.aastore, 1)) (hk : kd w a = 24) (hin : inR i (ln w a)) (hxk : ∀ q, x = some q → kd w q = 7) (h : J p l e R s m args below meth c D tA B y Z (pc + 1) L r (uR w a i.toNatClampNeg x) cn sn) : J p l e R s m args below meth c D tA B y Z pc L (va_rf x :: .int i :: .ref a :: r) w cn sn := by
  obtain ⟨hx, hb, hml, hown, hts, hnm, hK, hR, hB⟩ := X
  intro H locs ls hr hS hl hL hcn hsn
  have hBa : B ≤ a := hr.2.1 a (by omega) (by omega)
  cases x with
  | none =>
    refine va_WaastN (C := "LineMonitor$User") hx hb (hr.1.2.2.2 a hk) ((hK.2.1 24 _ rfl).1 _ _) (fun h => by cases h) (by rw [arrV_size]; exact hin) rfl rfl hd fun H1 e z oq => ?_
    exact h H1 _ ls (hr.setR hk (by rw [e, arrV_store]; rfl) oq z) (hS.put z oq hBa) hl hL hcn hsn
  | some q =>
    have hq := hxk q rfl
    have hc : vwCl[7 - 1]? = some (clA (7 - 1)) := rfl
    obtain ⟨cellV, g1, g2, g3, -⟩ := hr.1.1 q (7 - 1) _ (hq.trans (by decide)) hc
    have hcls := (hK.1.1 (7 - 1) _ hc).2
    obtain ⟨kA, comp, k1, k2, k3, -⟩ := (hK.2.1 24 _ rfl).2
    have hcomp : comp = D.1 (7 - 1) := Option.some.inj (k3.symm.trans hcls.1)
    subst hcomp
    obtain ⟨kC, hkC, -⟩ := hcls.2
    refine W.aast hx hb (hr.1.2.2.2 a hk) (fun q h => by cases h) (fun h => by cases h) k1 k2 rfl hkC ⟨fun h0 => hin (Or.inl h0), by rw [arrV_size]; exact in_lt hin⟩ g1 (fun q h => by rw [g3] at h; cases h) (by rw [g2]; exact hkC) (by rw [g2]; exact va_assign hcls) rfl rfl hd fun H1 e z oq => ?_
    exact h H1 _ ls (hr.setR hk (by rw [e, arrV_store]; rfl) oq z) (hS.put z oq hBa) hl hL hcn hsn
end Stp
end
section
section Cls
variable {p : Program} {l : Launch} {e : Env} {R : Room} {s : State} {m : MethodId} {args : Array Value} {below : List Frame} {meth : Method} {c : Code} {D : va_G} {tA : Nat → ClassId} {B y d : Nat} {Z : State → Prop} {C : wC} {Q : wQ}
variable {k pc n : Nat} {L : List (Option Value)} {st r : List Value} {w : aw} {cn sn a ci f : Nat}
theorem S_grow {A : Nat → Prop} {H0 H H1 : Heap} {locs : List Loc} (h : va_S A H0 H locs) (z : H1.size = H.size + 1) (oq : ∀ q : Nat, q < H.size → H1[q]? = H[q]?) : va_S A H0 H1 locs :=
  ⟨by rw [z]; exact Nat.le_succ_of_le h.1, fun q h1 h2 => (oq q (Nat.lt_of_lt_of_le h1 h.1)).trans (h.2.1 q h1 h2), h.2.2⟩
theorem j_new (X : cx p R s m args meth c D tA B y d) (hd : decode (mB y) pc = .ok (.new k, 3)) (hf : nT (mO y) k = some ci) (h1 : cn + 1 ≤ mC y) (h2 : sn + clF ci ≤ mS y) (h : J p l e R s m args below meth c D tA B y Z (pc + 3) L (.ref (zs w) :: st) (nw w (ci + 1) 0) (cn + 1) (sn + clF ci)) : J p l e R s m args below meth c D tA B y Z pc L st w cn sn := by
  obtain ⟨hx, hb, hml, hown, hts, hnm, hK, ⟨r1, r2, r3, r4⟩, hB⟩ := X
  intro H locs ls hr hS hl hL hcn hsn
  obtain ⟨rr, hc, k1, k2, k3⟩ := nT_ok hf
  have hKn := hK.1.1 ci rr hc
  rw [clF_of hc] at h h2
  have hv := vwCl_lt hc
  refine W.newcK hx hb hown (hts _ k1) (hts _ k2) (hts _ k3) rfl hd (by rw [r3]; exact h1) (by rw [r4]; exact h2) hKn.2.1 rfl fun H1 kC hkC e1 z1 o1 => ?_
  have hrn : rp D tA B (nw w (ci + 1) 0) s H1 := by
    refine hr.born z1 o1 (fun ci' r' hci hr' => ?_) (fun hI => ?_) (fun hI => ?_) (fun hI => ?_)
    · have : ci' = ci := by omega
      subst this
      cases hc.symm.trans hr'
      refine (u_born (tyOf ci') hts (ly_in hc) hKn hkC e1 (ly_ty hc)).to (fun j hj => ?_)
      unfold dfV
      rw [show (64 * ci' + j) / 64 = ci' by omega, show (64 * ci' + j) % 64 = j by omega]
    · have := isI_ne hI; omega
    · omega
    · omega
  have hz : H.size = zs w := hr.2.2.1
  rw [← hz] at h
  exact h H1 locs ls hrn (S_grow hS z1 o1) hl hL h1 h2
theorem aTy_ok {t : ArrayType} {kn sz : Nat} (h : aTy t = some (kn, sz)) : ∃ ty, newarray.typeOf t = ty ∧ componentBytes ty = sz ∧ tyA kn = some ty ∧ Cond.arrayClass ty ∈ wsG ∧ ((isI kn ∧ defaultValue ty = .int 0) ∨ (kn = 22 ∧ defaultValue ty = .long 0)) := by
  unfold aTy at h
  split at h
  · cases h; exact ⟨.int, rfl, rfl, rfl, ac_in (p := (acP.lookup .int).getD 0) (by decide +kernel), Or.inl ⟨by simp [isI], rfl⟩⟩
  · cases h; exact ⟨.byte, rfl, rfl, rfl, ac_in (p := (acP.lookup .byte).getD 0) (by decide +kernel), Or.inl ⟨by simp [isI], rfl⟩⟩
  · cases h; exact ⟨.long, rfl, rfl, rfl, ac_in (p := (acP.lookup .long).getD 0) (by decide +kernel), Or.inr ⟨rfl, rfl⟩⟩
  · cases h; exact ⟨.boolean, rfl, rfl, rfl, ac_in (p := (acP.lookup .boolean).getD 0) (by decide +kernel), Or.inl ⟨by simp [isI], rfl⟩⟩
  · cases h
theorem va_RA_nm {U : State} {cA : ClassId} {ty : FieldType} (h : va_RA U cA ty) : U.vm.findClass ("[" ++ ty.toString) = some cA := by
  cases ty with
  | object C => obtain ⟨_, _, _, _, _, h⟩ := h; exact h
  | _ => exact h
theorem j_newarray (X : cx p R s m args meth c D tA B y d) {t : ArrayType} {v : Int32} {kn sz : Nat} (hd : decode (mB y) pc = .ok (.newarray t, 2)) (hf : aTy t = some (kn, sz)) (h0 : ¬ v < 0) (hby : v.toNatClampNeg * sz ≤ 536870912) (h1 : cn + 1 ≤ mC y) (h2 : sn + v.toNatClampNeg ≤ mS y) (h : J p l e R s m args below meth c D tA B y Z (pc + 2) L (.ref (zs w) :: r) (nw w kn v.toNatClampNeg) (cn + 1) (sn + v.toNatClampNeg)) : J p l e R s m args below meth c D tA B y Z pc L (.int v :: r) w cn sn := by
  obtain ⟨hx, hb, hml, hown, hts, hnm, hK, ⟨r1, r2, r3, r4⟩, hB⟩ := X
  intro H locs ls hr hS hl hL hcn hsn
  obtain ⟨ty, k1, k2, k3, k4, k5⟩ := aTy_ok hf
  subst k1
  refine va_newaK hx hb (hts _ k4) rfl hd rfl h0 rfl (by rw [k2]; exact hby) (by rw [r3]; exact h1) (by rw [r4]; exact h2) rfl fun H1 cA e1 z1 o1 hAr hNm => ?_
  have hcA : cA = tA kn := Option.some.inj (hNm.symm.trans (va_RA_nm (hK.2.1 kn _ k3).2))
  subst hcA
  have hrn : rp D tA B (nw w kn v.toNatClampNeg) s H1 := by
    refine hr.born z1 o1 (fun ci' r' hci hr' => ?_) (fun hI => ?_) (fun hI => ?_) (fun hI => ?_)
    · have := vwCl_lt hr'
      rcases k5 with ⟨q, -⟩ | ⟨q, -⟩
      · have := isI_ne q; omega
      · omega
    · rcases k5 with ⟨-, q⟩ | ⟨q, -⟩
      · rw [e1, q]
      · have := isI_ne hI; omega
    · rcases k5 with ⟨q, -⟩ | ⟨-, q⟩
      · have := isI_ne q; omega
      · subst hI; rw [e1, q]
    · rcases k5 with ⟨q, -⟩ | ⟨q, -⟩
      · have := isI_ne q; omega
      · omega
  have hz : H.size = zs w := hr.2.2.1
  rw [← hz] at h
  exact h H1 locs ls hrn (S_grow hS z1 o1) hl hL h1 h2
theorem j_anewarray (X : cx p R s m args meth c D tA B y d) {v : Int32} (hd : decode (mB y) pc = .ok (.anewarray k, 3)) (hf : nT (mO y) k = some ci) (hu : ci + 1 = 7) (h0 : ¬ v < 0) (hby : v.toNatClampNeg * 4 ≤ 536870912) (h1 : cn + 1 ≤ mC y) (h2 : sn + v.toNatClampNeg ≤ mS y) (h : J p l e R s m args below meth c D tA B y Z (pc + 3) L (.ref (zs w) :: r) (nw w 24 v.toNatClampNeg) (cn + 1) (sn + v.toNatClampNeg)) : J p l e R s m args below meth c D tA B y Z pc L (.int v :: r) w cn sn := by
  obtain ⟨hx, hb, hml, hown, hts, hnm, hK, ⟨r1, r2, r3, r4⟩, hB⟩ := X
  intro H locs ls hr hS hl hL hcn hsn
  obtain ⟨rr, hc, k1, -, -⟩ := nT_ok hf
  have hrr : rr.1 = "LineMonitor$User" := by
    rw [(cn_ok hc).1, show ci = 7 - 1 by omega]
    rfl
  rw [hrr] at k1
  refine W.anew hx hb hown (hts _ k1) (va_AO.use hK.2.2.2) rfl hd rfl h0 hby (by rw [r3]; exact h1) (by rw [r4]; exact h2) fun cA kA comp f1 f2 f3 f4 => ?_
  have hcA : cA = tA 24 := Option.some.inj (f1.symm.trans (va_RA_nm (hK.2.1 24 _ rfl).2))
  subst hcA
  generalize hH1 : H.push ({ cls := tA 24, slots := Array.replicate v.toNatClampNeg .null, vm := .none } : Cell) = H1
  have z1 : H1.size = H.size + 1 := by rw [← hH1, Array.size_push]
  have e1 : H1[H.size]? = some (arrV (tA 24) v.toNatClampNeg (fun _ => .null)) := by rw [← hH1, Array.getElem?_push_size, ← arrV_new]
  have o1 : ∀ q : Nat, q < H.size → H1[q]? = H[q]? := fun q hq => by rw [← hH1, Array.getElem?_push, if_neg (Nat.ne_of_lt hq)]
  have hrn : rp D tA B (nw w 24 v.toNatClampNeg) s H1 := by
    refine hr.born z1 o1 (fun ci' r' hci hr' => ?_) (fun hI => ?_) (fun hI => ?_) (fun hI => ?_)
    · have := vwCl_lt hr'; omega
    · have := isI_ne hI; omega
    · omega
    · exact e1
  have hz : H.size = zs w := hr.2.2.1
  rw [← hz] at h
  exact h H1 locs ls hrn (S_grow hS z1 o1) hl hL h1 h2
/-- a call's room -/
theorem alc_le {z : Nat} {K : Nat → Nat → Prop} (hcn : cn ≤ mC y) (hsn : sn ≤ mS y) (h : alc y z cn sn K) : cn + mC z ≤ mC y ∧ sn + mS z ≤ mS y ∧ K (cn + mC z) (sn + mS z) := by
  unfold alc at h
  split at h
  · rename_i hz
    rw [hz.1, hz.2]
    exact ⟨hcn, hsn, h⟩
  · exact h
theorem monitorRoom0 (m : MethodId) (pc : Nat) (ls : Array Slot) (st : List Value) : (F0 m pc ls st).monitorRoom = 0 := rfl
theorem roomS {rest : List Value} (h : catS rest ≤ 8) : 2 * (F0 m pc (#[] : Array Slot) []).monitorRoom + (rest.map fun v => v.category).sum ≤ 8 := by
  rw [monitorRoom0]; simpa [catS] using h
theorem j_invokevirtual (X : cx p R s m args meth c D tA B y d) (hC : sndC l D tA B d C) {z b : Nat} {As : List Value} (hd : decode (mB y) pc = .ok (.invokevirtual k, 3)) (hf : cT (mO y) k = some (0, z)) (hA : As.length = mA z) (hk : kd w b = mO z + 1) (hv : (vwCl[mO z]?).isSome = true) (h : wcall C y z pc (.ref b :: As) r L w cn sn (J p l e R s m args below meth c D tA B y Z)) : J p l e R s m args below meth c D tA B y Z pc L (As.reverse ++ .ref b :: r) w cn sn := by
  obtain ⟨z0, zm, w1, w2, w3, w4⟩ := cT_0 hf
  have CB := callB_go X z0 zm w3 w1
  obtain ⟨hx, hb, hml, hown, hts, hnm, hK, hR, hB⟩ := X
  intro H locs ls hr hS hl hL hcn hsn
  obtain ⟨hcat, h⟩ := h
  obtain ⟨h1, h2, h⟩ := alc_le hcn hsn h
  have hM := hC z (.ref b :: As) w _ z0 zm h
  obtain ⟨rr, hc⟩ := Option.isSome_iff_exists.mp hv
  have hrv := recv_go hr hK hk hc
  rw [(cn_ok hc).1, (mO_ok zm).1] at hrv
  have hrun := va_runV (H := H) (locs := locs) (cells := cn) (slots := sn) (e := e) (below := below) (meth := meth) (g := F0 m pc ls (As.reverse ++ .ref b :: r)) (rest := r) (As := As) (b := b) ⟨hx, hb, hml, hown, hts⟩ hM ⟨CB, hts _ w2, hts _ w4⟩ ⟨(pre_go hr hK).1, hrv, (pre_go hr hK).2⟩ rfl hA (by rw [← hL]; exact hl.1) rfl (roomS (m := m) (pc := pc) hcat) hd ⟨by rw [hR.2.2.1]; exact h1, by rw [hR.2.2.2]; exact h2⟩
  exact call_go hrun hS hl hL h1 h2 (fun v w' hq => hq)
theorem j_invokestatic (X : cx p R s m args meth c D tA B y d) (hC : sndC l D tA B d C) {z : Nat} {As : List Value} (hd : decode (mB y) pc = .ok (.invokestatic k, 3)) (hf : cT (mO y) k = some (2, z)) (hA : As.length = mA z) (h : wcall C y z pc As r L w cn sn (J p l e R s m args below meth c D tA B y Z)) : J p l e R s m args below meth c D tA B y Z pc L (As.reverse ++ r) w cn sn := by
  obtain ⟨z0, zm, w1, w2, w3⟩ := cT_2 hf
  have CB := callB_go X z0 zm w3 w1
  obtain ⟨hx, hb, hml, hown, hts, hnm, hK, hR, hB⟩ := X
  intro H locs ls hr hS hl hL hcn hsn
  obtain ⟨hcat, h⟩ := h
  obtain ⟨h1, h2, h⟩ := alc_le hcn hsn h
  have hM := hC z As w _ z0 zm h
  have hrun := va_runS (H := H) (locs := locs) (cells := cn) (slots := sn) (e := e) (below := below) (meth := meth) (g := F0 m pc ls (As.reverse ++ r)) (rest := r) (As := As) ⟨hx, hb, hml, hown, hts⟩ hM ⟨CB, hts _ w2⟩ (pre_go hr hK) rfl hA (by rw [← hL]; exact hl.1) rfl (roomS (m := m) (pc := pc) hcat) hd ⟨by rw [hR.2.2.1]; exact h1, by rw [hR.2.2.2]; exact h2⟩
  exact call_go hrun hS hl hL h1 h2 (fun v w' hq => hq)
theorem j_invokespecial (X : cx p R s m args meth c D tA B y d) (hC : sndC l D tA B d C) {z b : Nat} {As : List Value} (hd : decode (mB y) pc = .ok (.invokespecial k, 3)) (hf : cT (mO y) k = some (1, z)) (hA : As.length = mA z) (h : wcall C y z pc (.ref b :: As) r L w cn sn (J p l e R s m args below meth c D tA B y Z)) : J p l e R s m args below meth c D tA B y Z pc L (As.reverse ++ .ref b :: r) w cn sn := by
  obtain ⟨z0, zm, w1, w2, w3, w4, w5⟩ := cT_1 hf
  have CB := callB_go X z0 zm w3 w1
  rw [w5] at CB
  obtain ⟨hx, hb, hml, hown, hts, hnm, hK, hR, hB⟩ := X
  intro H locs ls hr hS hl hL hcn hsn
  obtain ⟨hcat, h⟩ := h
  obtain ⟨h1, h2, h⟩ := alc_le hcn hsn h
  have hM := hC z (.ref b :: As) w _ z0 zm h
  have hrun := va_runI (H := H) (locs := locs) (cells := cn) (slots := sn) (e := e) (below := below) (meth := meth) (g := F0 m pc ls (As.reverse ++ .ref b :: r)) (rest := r) (As := As) (b := b) ⟨hx, hb, hml, hown, hts⟩ hM ⟨CB, w4, hts _ w2⟩ (pre_go hr hK) rfl hA (by rw [← hL]; exact hl.1) rfl (roomS (m := m) (pc := pc) hcat) hd ⟨by rw [hR.2.2.1]; exact h1, by rw [hR.2.2.2]; exact h2⟩
  exact call_go hrun hS hl hL h1 h2 (fun v w' hq => hq)
theorem j_invokenest (X : cx p R s m args meth c D tA B y d) (hC : sndC l D tA B d C) {z b : Nat} {As : List Value} (hd : decode (mB y) pc = .ok (.invokespecial k, 3)) (hf : cT (mO y) k = some (4, z)) (hA : As.length = mA z) (h : wcall C y z pc (.ref b :: As) r L w cn sn (J p l e R s m args below meth c D tA B y Z)) : J p l e R s m args below meth c D tA B y Z pc L (As.reverse ++ .ref b :: r) w cn sn := by
  obtain ⟨z0, zm, w1, w2, w3, w4, w5⟩ := cT_4 hf
  obtain ⟨hx, hb, hml, hown, hts, hnm, hK, hR, hB⟩ := X
  obtain ⟨o1, o2, o3, o4, o5, o6⟩ := mO_ok zm
  have hlk : va_Nw (.methodLinkNest (oN (mO y)) k (mN z) "LineMonitor") s := hK.2.2.1 (mO y, k, z) w1
  have CB : va_CN R s args (oN (mO y)) k (mN z) "LineMonitor" (mB z) (mL z) (mR z) (wM z) (rmD d z) (mC z) (mS z) (mA z) :=
    va_cnB (ws' := wsG) (mA z) hts (wM_good z0 zm) rfl rfl rfl hlk (hts _ w3) ⟨o3, o4, o2⟩ ⟨hR.1, by show 8 + (mL z + 11) + 32 * d ≤ R.locals; have := hR.2.1; omega⟩
  rw [w5] at CB
  intro H locs ls hr hS hl hL hcn hsn
  obtain ⟨hcat, h⟩ := h
  obtain ⟨h1, h2, h⟩ := alc_le hcn hsn h
  have hM := hC z (.ref b :: As) w _ z0 zm h
  have hrun := va_runIN (H := H) (locs := locs) (cells := cn) (slots := sn) (e := e) (below := below) (meth := meth) (g := F0 m pc ls (As.reverse ++ .ref b :: r)) (rest := r) (As := As) (b := b) ⟨hx, hb, hml, hown, hts⟩ hM ⟨CB, w4, hts _ w2⟩ (pre_go hr hK) rfl hA (by rw [← hL]; exact hl.1) rfl (roomS (m := m) (pc := pc) hcat) hd ⟨by rw [hR.2.2.1]; exact h1, by rw [hR.2.2.2]; exact h2⟩
  exact call_go hrun hS hl hL h1 h2 (fun v w' hq => hq)
theorem j_objinit (X : cx p R s m args meth c D tA B y d) {z b : Nat} (hd : decode (mB y) pc = .ok (.invokespecial k, 3)) (hf : cT (mO y) k = some (3, z)) (hcat : catS r ≤ 8) (h : J p l e R s m args below meth c D tA B y Z (pc + 3) L r w cn sn) : J p l e R s m args below meth c D tA B y Z pc L (.ref b :: r) w cn sn := by
  have w1 := cT_3 hf
  obtain ⟨hx, hb, hml, hown, hts, hnm, hK, hR, hB⟩ := X
  intro H locs ls hr hS hl hL hcn hsn
  refine W.objInit hx hb hown (hts _ w1) (hts _ oi_in) (hts _ (inG oi_code rfl)) rfl (by rw [hml, ← hL]; exact hl.1) rfl hd (by have := hR.1; omega) ?_ (h H locs ls hr hS hl hL hcn hsn)
  rw [monitorRoom0]
  have := hR.2.1
  have h8 : (r.map fun v => v.category).sum ≤ 8 := hcat
  omega
end Cls
end
section
section Mn
variable {p : Program} {l : Launch} {e : Env} {R : Room} {s : State} {m : MethodId} {args : Array Value} {below : List Frame} {meth : Method} {c : Code} {D : va_G} {tA : Nat → ClassId} {B y d : Nat} {Z : State → Prop} {C : wC} {Q : wQ}
set_option maxHeartbeats 4000000 in
set_option maxRecDepth 100000 in
theorem J_closed (X : cx p R s m args meth c D tA B y d) (hC : sndC l D tA B d C) (hE : ends p l e R s m args below meth c D tA B y Z Q) : ∀ pc L st w cn sn, wpF C y Q (J p l e R s m args below meth c D tA B y Z) pc L st w cn sn → J p l e R s m args below meth c D tA B y Z pc L st w cn sn := by
  have X0 := X
  obtain ⟨hx, hb, hml, hown, hts, hnm, hK, hR, hB⟩ := X
  intro pc L st w cn sn h
  unfold wpF at h
  split at h
  case h_2 => exact h.elim
  rename_i i n hd
  unfold wp1 at h
  split at h
  · replace h := e_n1 h; obtain ⟨rfl, h⟩ := h; intro H locs ls hr hS hl hL hcn hsn; exact lv_iconst hx hb hd rfl (h H locs ls hr hS hl hL hcn hsn)
  · replace h := e_n2 h; obtain ⟨rfl, h⟩ := h; intro H locs ls hr hS hl hL hcn hsn; exact lv_bipush hx hb hd rfl (h H locs ls hr hS hl hL hcn hsn)
  · replace h := e_n3 h; obtain ⟨rfl, h⟩ := h; intro H locs ls hr hS hl hL hcn hsn; exact lv_sipush hx hb hd rfl (h H locs ls hr hS hl hL hcn hsn)
  · replace h := e_n1 h; obtain ⟨rfl, h⟩ := h; intro H locs ls hr hS hl hL hcn hsn; exact lv_lconst hx hb hd rfl (h H locs ls hr hS hl hL hcn hsn)
  · replace h := e_n1 h; obtain ⟨rfl, h⟩ := h; intro H locs ls hr hS hl hL hcn hsn; exact lv_null hx hb hd (h H locs ls hr hS hl hL hcn hsn)
  · replace h := e_n1 h; obtain ⟨rfl, h⟩ := h; replace h := e_li h; obtain ⟨v, hv, h⟩ := h; intro H locs ls hr hS hl hL hcn hsn; exact lv_iload_n hx hb hd rfl (hl.at hv) (h H locs ls hr hS hl hL hcn hsn)
  · replace h := e_n2 h; obtain ⟨rfl, h⟩ := h; replace h := e_li h; obtain ⟨v, hv, h⟩ := h; intro H locs ls hr hS hl hL hcn hsn; exact lv_iload hx hb hd (hl.at hv) (h H locs ls hr hS hl hL hcn hsn)
  · replace h := e_n1 h; obtain ⟨rfl, h⟩ := h; replace h := e_ll h; obtain ⟨v, hv, h⟩ := h; intro H locs ls hr hS hl hL hcn hsn; exact lv_lload_n hx hb hd rfl (hl.at hv) (h H locs ls hr hS hl hL hcn hsn)
  · replace h := e_n2 h; obtain ⟨rfl, h⟩ := h; replace h := e_ll h; obtain ⟨v, hv, h⟩ := h; intro H locs ls hr hS hl hL hcn hsn; exact lv_lload hx hb hd (hl.at hv) (h H locs ls hr hS hl hL hcn hsn)
  · replace h := e_n1 h; obtain ⟨rfl, h⟩ := h; replace h := e_lr h; obtain ⟨v, hv, h⟩ := h; intro H locs ls hr hS hl hL hcn hsn
    cases v with
    | some q => exact lv_aload_n hx hb hd rfl (hl.at hv) (h H locs ls hr hS hl hL hcn hsn)
    | none => exact lv_aload_nN hx hb hd rfl (hl.at hv) (h H locs ls hr hS hl hL hcn hsn)
  · replace h := e_n2 h; obtain ⟨rfl, h⟩ := h; replace h := e_lr h; obtain ⟨v, hv, h⟩ := h; intro H locs ls hr hS hl hL hcn hsn
    cases v with
    | some q => exact lv_aload hx hb hd (hl.at hv) (h H locs ls hr hS hl hL hcn hsn)
    | none => exact lv_aloadN hx hb hd (hl.at hv) (h H locs ls hr hS hl hL hcn hsn)
  · replace h := e_n1 h; obtain ⟨rfl, h⟩ := h; replace h := e_p1 h; obtain ⟨v, r, rfl, hk, h⟩ := h; intro H locs ls hr hS hl hL hcn hsn; exact lv_istore_n hx hb hd rfl hl.has hk rfl (fun ls' h' => h H locs ls' hr hS (lh.st1 h') (by rw [st1_len]; exact hL) hcn hsn)
  · replace h := e_n2 h; obtain ⟨rfl, h⟩ := h; replace h := e_p1 h; obtain ⟨v, r, rfl, hk, h⟩ := h; intro H locs ls hr hS hl hL hcn hsn; exact lv_istore hx hb hd hl.has hk rfl (fun ls' h' => h H locs ls' hr hS (lh.st1 h') (by rw [st1_len]; exact hL) hcn hsn)
  · replace h := e_n1 h; obtain ⟨rfl, h⟩ := h; replace h := e_q1 h; obtain ⟨v, r, rfl, hk, h⟩ := h; intro H locs ls hr hS hl hL hcn hsn; exact lv_lstore_n hx hb hd rfl hl.has hk rfl (fun ls' h' => h H locs ls' hr hS (lh.st2 hk h') (by rw [st2_len _ _ _ hk]; exact hL) hcn hsn)
  · replace h := e_n2 h; obtain ⟨rfl, h⟩ := h; replace h := e_q1 h; obtain ⟨v, r, rfl, hk, h⟩ := h; intro H locs ls hr hS hl hL hcn hsn; exact lv_lstore hx hb hd hl.has hk rfl (fun ls' h' => h H locs ls' hr hS (lh.st2 hk h') (by rw [st2_len _ _ _ hk]; exact hL) hcn hsn)
  · replace h := e_n1 h; obtain ⟨rfl, h⟩ := h; replace h := e_pn h; obtain ⟨v, r, rfl, hk, h⟩ := h; intro H locs ls hr hS hl hL hcn hsn
    cases v with
    | some q => exact lv_astore_n hx hb hd rfl hl.has hk rfl (fun ls' h' => h H locs ls' hr hS (lh.st1 h') (by rw [st1_len]; exact hL) hcn hsn)
    | none => exact lv_astore_nN hx hb hd rfl hl.has hk rfl (fun ls' h' => h H locs ls' hr hS (lh.st1 h') (by rw [st1_len]; exact hL) hcn hsn)
  · replace h := e_n2 h; obtain ⟨rfl, h⟩ := h; replace h := e_pn h; obtain ⟨v, r, rfl, hk, h⟩ := h; intro H locs ls hr hS hl hL hcn hsn
    cases v with
    | some q => exact lv_astore hx hb hd hl.has hk rfl (fun ls' h' => h H locs ls' hr hS (lh.st1 h') (by rw [st1_len]; exact hL) hcn hsn)
    | none => exact lv_astoreN hx hb hd hl.has hk rfl (fun ls' h' => h H locs ls' hr hS (lh.st1 h') (by rw [st1_len]; exact hL) hcn hsn)
  · replace h := e_n3 h; obtain ⟨rfl, h⟩ := h; replace h := e_li h; obtain ⟨v, hv, h⟩ := h; intro H locs ls hr hS hl hL hcn hsn
    have hv' := nth_some hv
    obtain ⟨kk0, hk0⟩ := List.getElem?_of_mem (lo_mem.mpr hv')
    exact lv_iinc hx hb hd hl.has hk0 rfl (List.getElem?_eq_some_iff.mp hv').1 rfl (fun ls' h' => h H locs ls' hr hS (lh.st1 h') (by rw [st1_len]; exact hL) hcn hsn)
  · replace h := e_n1 h; obtain ⟨rfl, h⟩ := h; replace h := e_p2 h; obtain ⟨a, b, r, rfl, h⟩ := h; intro H locs ls hr hS hl hL hcn hsn; exact lv_iadd hx hb hd (h H locs ls hr hS hl hL hcn hsn)
  · replace h := e_n1 h; obtain ⟨rfl, h⟩ := h; replace h := e_p2 h; obtain ⟨a, b, r, rfl, h⟩ := h; intro H locs ls hr hS hl hL hcn hsn; exact lv_isub hx hb hd (h H locs ls hr hS hl hL hcn hsn)
  · replace h := e_n1 h; obtain ⟨rfl, h⟩ := h; replace h := e_p2 h; obtain ⟨a, b, r, rfl, h⟩ := h; intro H locs ls hr hS hl hL hcn hsn; exact lv_imul hx hb hd (h H locs ls hr hS hl hL hcn hsn)
  · replace h := e_n1 h; obtain ⟨rfl, h⟩ := h; replace h := e_p2 h; obtain ⟨a, b, r, rfl, h⟩ := h; intro H locs ls hr hS hl hL hcn hsn; exact lv_iand hx hb hd (h H locs ls hr hS hl hL hcn hsn)
  · replace h := e_n1 h; obtain ⟨rfl, h⟩ := h; replace h := e_p2 h; obtain ⟨a, b, r, rfl, h⟩ := h; intro H locs ls hr hS hl hL hcn hsn; exact lv_ior hx hb hd (h H locs ls hr hS hl hL hcn hsn)
  · replace h := e_n1 h; obtain ⟨rfl, h⟩ := h; replace h := e_p2 h; obtain ⟨a, b, r, rfl, h⟩ := h; intro H locs ls hr hS hl hL hcn hsn; exact lv_ixor hx hb hd (h H locs ls hr hS hl hL hcn hsn)
  · replace h := e_n1 h; obtain ⟨rfl, h⟩ := h; replace h := e_p2 h; obtain ⟨a, b, r, rfl, h⟩ := h; intro H locs ls hr hS hl hL hcn hsn; exact lv_ishl hx hb hd (h H locs ls hr hS hl hL hcn hsn)
  · replace h := e_n1 h; obtain ⟨rfl, h⟩ := h; replace h := e_p2 h; obtain ⟨a, b, r, rfl, h⟩ := h; intro H locs ls hr hS hl hL hcn hsn; exact lv_ishr hx hb hd (h H locs ls hr hS hl hL hcn hsn)
  · replace h := e_n1 h; obtain ⟨rfl, h⟩ := h; replace h := e_p2 h; obtain ⟨a, b, r, rfl, h0, h⟩ := h; intro H locs ls hr hS hl hL hcn hsn; exact lv_idiv hx hb hd h0 (h H locs ls hr hS hl hL hcn hsn)
  · replace h := e_n1 h; obtain ⟨rfl, h⟩ := h; replace h := e_p2 h; obtain ⟨a, b, r, rfl, h0, h⟩ := h; intro H locs ls hr hS hl hL hcn hsn; exact lv_irem hx hb hd h0 (h H locs ls hr hS hl hL hcn hsn)
  · replace h := e_n1 h; obtain ⟨rfl, h⟩ := h; replace h := e_q2 h; obtain ⟨a, b, r, rfl, h⟩ := h; intro H locs ls hr hS hl hL hcn hsn; exact lv_ladd hx hb hd (h H locs ls hr hS hl hL hcn hsn)
  · replace h := e_n1 h; obtain ⟨rfl, h⟩ := h; replace h := e_q2 h; obtain ⟨a, b, r, rfl, h⟩ := h; intro H locs ls hr hS hl hL hcn hsn; exact lv_lmul hx hb hd (h H locs ls hr hS hl hL hcn hsn)
  · replace h := e_n1 h; obtain ⟨rfl, h⟩ := h; replace h := e_q2 h; obtain ⟨a, b, r, rfl, h⟩ := h; intro H locs ls hr hS hl hL hcn hsn; exact lv_lor hx hb hd (h H locs ls hr hS hl hL hcn hsn)
  · replace h := e_n1 h; obtain ⟨rfl, h⟩ := h; replace h := e_p1 h; obtain ⟨b, r, rfl, h⟩ := h; replace h := e_q1 h; obtain ⟨a, r, rfl, h⟩ := h; intro H locs ls hr hS hl hL hcn hsn; exact lv_lshl hx hb hd rfl (h H locs ls hr hS hl hL hcn hsn)
  · replace h := e_n1 h; obtain ⟨rfl, h⟩ := h; replace h := e_q2 h; obtain ⟨a, b, r, rfl, h⟩ := h; intro H locs ls hr hS hl hL hcn hsn; exact W.lcmp hx hb hd (h H locs ls hr hS hl hL hcn hsn)
  · replace h := e_n1 h; obtain ⟨rfl, h⟩ := h; replace h := e_p1 h; obtain ⟨a, r, rfl, h⟩ := h; intro H locs ls hr hS hl hL hcn hsn; exact lv_i2l hx hb hd rfl (h H locs ls hr hS hl hL hcn hsn)
  · replace h := e_n1 h; obtain ⟨rfl, h⟩ := h; replace h := e_p1 h; obtain ⟨a, r, rfl, h⟩ := h; intro H locs ls hr hS hl hL hcn hsn; exact lv_i2b hx hb hd rfl (h H locs ls hr hS hl hL hcn hsn)
  · replace h := e_n1 h; obtain ⟨rfl, h⟩ := h; replace h := e_p1 h; obtain ⟨a, r, rfl, h⟩ := h; intro H locs ls hr hS hl hL hcn hsn; exact lv_i2c hx hb hd rfl (h H locs ls hr hS hl hL hcn hsn)
  · replace h := e_n1 h; obtain ⟨rfl, h⟩ := h; split at h
    · obtain ⟨h0, h⟩ := h; intro H locs ls hr hS hl hL hcn hsn; exact lv_dup hx hb hd h0 (h H locs ls hr hS hl hL hcn hsn)
    · exact h.elim
  · replace h := e_n1 h; obtain ⟨rfl, h⟩ := h; split at h
    · obtain ⟨h0, h⟩ := h; intro H locs ls hr hS hl hL hcn hsn; exact lv_pop hx hb hd h0 (h H locs ls hr hS hl hL hcn hsn)
    · exact h.elim
  · replace h := e_n1 h; obtain ⟨rfl, h⟩ := h; split at h
    · obtain ⟨h0, h1, h⟩ := h; intro H locs ls hr hS hl hL hcn hsn; exact lv_dup2_11 hx hb hd h0 h1 (h H locs ls hr hS hl hL hcn hsn)
    · exact h.elim
  · replace h := e_n3 h; obtain ⟨rfl, h⟩ := h; obtain ⟨t, ht, h⟩ := h; intro H locs ls hr hS hl hL hcn hsn; exact lv_goto hx hb hd ht (h H locs ls hr hS hl hL hcn hsn)
  · replace h := e_n3 h; obtain ⟨rfl, h⟩ := h; replace h := e_p1 h; obtain ⟨x, r, rfl, t, ht, h1, h2⟩ := h; intro H locs ls hr hS hl hL hcn hsn; exact lv_if_eq hx hb hd ht (fun q => h1 q H locs ls hr hS hl hL hcn hsn) (fun q => h2 q H locs ls hr hS hl hL hcn hsn)
  · replace h := e_n3 h; obtain ⟨rfl, h⟩ := h; replace h := e_p1 h; obtain ⟨x, r, rfl, t, ht, h1, h2⟩ := h; intro H locs ls hr hS hl hL hcn hsn; exact lv_if_ne hx hb hd ht (fun q => h1 q H locs ls hr hS hl hL hcn hsn) (fun q => h2 q H locs ls hr hS hl hL hcn hsn)
  · replace h := e_n3 h; obtain ⟨rfl, h⟩ := h; replace h := e_p1 h; obtain ⟨x, r, rfl, t, ht, h1, h2⟩ := h; intro H locs ls hr hS hl hL hcn hsn; exact lv_if_lt hx hb hd ht (fun q => h1 q H locs ls hr hS hl hL hcn hsn) (fun q => h2 q H locs ls hr hS hl hL hcn hsn)
  · replace h := e_n3 h; obtain ⟨rfl, h⟩ := h; replace h := e_p1 h; obtain ⟨x, r, rfl, t, ht, h1, h2⟩ := h; intro H locs ls hr hS hl hL hcn hsn; exact lv_if_ge hx hb hd ht (fun q => h1 q H locs ls hr hS hl hL hcn hsn) (fun q => h2 q H locs ls hr hS hl hL hcn hsn)
  · replace h := e_n3 h; obtain ⟨rfl, h⟩ := h; replace h := e_p1 h; obtain ⟨x, r, rfl, t, ht, h1, h2⟩ := h; intro H locs ls hr hS hl hL hcn hsn; exact lv_if_gt hx hb hd ht (fun q => h1 q H locs ls hr hS hl hL hcn hsn) (fun q => h2 q H locs ls hr hS hl hL hcn hsn)
  · replace h := e_n3 h; obtain ⟨rfl, h⟩ := h; replace h := e_p1 h; obtain ⟨x, r, rfl, t, ht, h1, h2⟩ := h; intro H locs ls hr hS hl hL hcn hsn; exact lv_if_le hx hb hd ht (fun q => h1 q H locs ls hr hS hl hL hcn hsn) (fun q => h2 q H locs ls hr hS hl hL hcn hsn)
  · replace h := e_n3 h; obtain ⟨rfl, h⟩ := h; replace h := e_p2 h; obtain ⟨x, v, r, rfl, t, ht, h1, h2⟩ := h; intro H locs ls hr hS hl hL hcn hsn; exact lv_icmp_eq hx hb hd ht (fun q => h1 q H locs ls hr hS hl hL hcn hsn) (fun q => h2 q H locs ls hr hS hl hL hcn hsn)
  · replace h := e_n3 h; obtain ⟨rfl, h⟩ := h; replace h := e_p2 h; obtain ⟨x, v, r, rfl, t, ht, h1, h2⟩ := h; intro H locs ls hr hS hl hL hcn hsn; exact lv_icmp_ne hx hb hd ht (fun q => h1 q H locs ls hr hS hl hL hcn hsn) (fun q => h2 q H locs ls hr hS hl hL hcn hsn)
  · replace h := e_n3 h; obtain ⟨rfl, h⟩ := h; replace h := e_p2 h; obtain ⟨x, v, r, rfl, t, ht, h1, h2⟩ := h; intro H locs ls hr hS hl hL hcn hsn; exact lv_icmp_lt hx hb hd ht (fun q => h1 q H locs ls hr hS hl hL hcn hsn) (fun q => h2 q H locs ls hr hS hl hL hcn hsn)
  · replace h := e_n3 h; obtain ⟨rfl, h⟩ := h; replace h := e_p2 h; obtain ⟨x, v, r, rfl, t, ht, h1, h2⟩ := h; intro H locs ls hr hS hl hL hcn hsn; exact lv_icmp_ge hx hb hd ht (fun q => h1 q H locs ls hr hS hl hL hcn hsn) (fun q => h2 q H locs ls hr hS hl hL hcn hsn)
  · replace h := e_n3 h; obtain ⟨rfl, h⟩ := h; replace h := e_p2 h; obtain ⟨x, v, r, rfl, t, ht, h1, h2⟩ := h; intro H locs ls hr hS hl hL hcn hsn; exact lv_icmp_gt hx hb hd ht (fun q => h1 q H locs ls hr hS hl hL hcn hsn) (fun q => h2 q H locs ls hr hS hl hL hcn hsn)
  · replace h := e_n3 h; obtain ⟨rfl, h⟩ := h; replace h := e_p2 h; obtain ⟨x, v, r, rfl, t, ht, h1, h2⟩ := h; intro H locs ls hr hS hl hL hcn hsn; exact lv_icmp_le hx hb hd ht (fun q => h1 q H locs ls hr hS hl hL hcn hsn) (fun q => h2 q H locs ls hr hS hl hL hcn hsn)
  · replace h := e_n3 h; obtain ⟨rfl, h⟩ := h; replace h := e_pn h; obtain ⟨x, r, rfl, t, ht, h1, h2⟩ := h; intro H locs ls hr hS hl hL hcn hsn
    cases x with
    | some q => exact lv_ifnull hx hb hd (h2 (by simp) H locs ls hr hS hl hL hcn hsn)
    | none => exact lv_ifnullN hx hb hd ht (h1 rfl H locs ls hr hS hl hL hcn hsn)
  · replace h := e_n3 h; obtain ⟨rfl, h⟩ := h; replace h := e_pn h; obtain ⟨x, r, rfl, t, ht, h1, h2⟩ := h; intro H locs ls hr hS hl hL hcn hsn
    cases x with
    | some q => exact lv_ifnonnull hx hb hd ht (h1 (by simp) H locs ls hr hS hl hL hcn hsn)
    | none => exact lv_ifnonnullN hx hb hd (h2 rfl H locs ls hr hS hl hL hcn hsn)
  · replace h := e_p1 h; obtain ⟨x, r, rfl, h1, h2⟩ := h; intro H locs ls hr hS hl hL hcn hsn
    rename_i dflt lo hi offs
    by_cases hq : x.toInt < lo ∨ hi < x.toInt
    · obtain ⟨t, ht, h⟩ := h1 hq
      exact lv_tableOut hx hb hd hq ht (h H locs ls hr hS hl hL hcn hsn)
    · obtain ⟨off, ho, t, ht, h⟩ := e_ot (h2 (fun z => hq (Or.inl z)) (fun z => hq (Or.inr z)))
      exact lv_tableIn hx hb hd (fun z => hq (Or.inl z)) (fun z => hq (Or.inr z)) ho ht (h H locs ls hr hS hl hL hcn hsn)
  · replace h := e_n2 h; obtain ⟨rfl, h⟩ := h; replace h := e_on h; obtain ⟨v, hv, h⟩ := h; replace h := e_p1 h; obtain ⟨x, r, he, h⟩ := h; cases he; intro H locs ls hr hS hl hL hcn hsn; exact lv_ldc hx hb hown (hts _ (kT_int hv)) hd (h H locs ls hr hS hl hL hcn hsn)
  · replace h := e_n3 h; obtain ⟨rfl, h⟩ := h; replace h := e_on h; obtain ⟨v, hv, h⟩ := h; replace h := e_q1 h; obtain ⟨x, r, he, h⟩ := h; cases he; intro H locs ls hr hS hl hL hcn hsn; exact lv_ldc2 hx hb hown (hts _ (kT_long hv)) hd (h H locs ls hr hS hl hL hcn hsn)
  · replace h := e_n3 h; obtain ⟨rfl, h⟩ := h; replace h := e_pr h; obtain ⟨a, r, rfl, h⟩ := h; replace h := e_oc h; obtain ⟨ci, f, hf, hk, h⟩ := h; exact j_getfield X0 hd hf hk h
  · replace h := e_n3 h; obtain ⟨rfl, h⟩ := h; replace h := e_pvr h; obtain ⟨a, v, r, rfl, h⟩ := h; replace h := e_oc h; obtain ⟨ci, f, hf, hk, hfi, hv, h⟩ := h; exact j_putfield X0 hd hf hk hfi hv h
  · replace h := e_n3 h; obtain ⟨rfl, h⟩ := h; replace h := e_on h; obtain ⟨j, hf, h⟩ := h; exact j_getstatic X0 hd hf h
  · replace h := e_n1 h; obtain ⟨rfl, h⟩ := h; replace h := e_pr h; obtain ⟨a, r, rfl, hk, h⟩ := h; exact j_alen X0 hd hk h
  · replace h := e_n1 h; obtain ⟨rfl, h⟩ := h; replace h := e_pir h; obtain ⟨a, i, r, rfl, hk, hin, h⟩ := h; exact j_iaload X0 hd hk hin h
  · replace h := e_n1 h; obtain ⟨rfl, h⟩ := h; replace h := e_pir h; obtain ⟨a, i, r, rfl, hk, hin, h⟩ := h; exact j_baload X0 hd hk hin h
  · replace h := e_n1 h; obtain ⟨rfl, h⟩ := h; replace h := e_pir h; obtain ⟨a, i, r, rfl, hk, hin, h⟩ := h; exact j_laload X0 hd hk hin h
  · replace h := e_n1 h; obtain ⟨rfl, h⟩ := h; replace h := e_pir h; obtain ⟨a, i, r, rfl, hk, hin, h⟩ := h; exact j_aaload X0 hd hk hin h
  · replace h := e_n1 h; obtain ⟨rfl, h⟩ := h; replace h := e_piir h; obtain ⟨a, i, x, r, rfl, hk, hin, h⟩ := h; exact j_iastore X0 hd hk hin h
  · replace h := e_n1 h; obtain ⟨rfl, h⟩ := h; replace h := e_piir h; obtain ⟨a, i, x, r, rfl, hin, h⟩ := h
    rcases h with ⟨hk, h⟩ | ⟨hk, h⟩
    · exact j_bastore X0 hd hk hin h
    · exact j_zastore X0 hd hk hin h
  · replace h := e_n1 h; obtain ⟨rfl, h⟩ := h; replace h := e_plir h; obtain ⟨a, i, x, r, rfl, hk, hin, h⟩ := h; exact j_lastore X0 hd hk hin h
  · replace h := e_n1 h; obtain ⟨rfl, h⟩ := h; replace h := e_prir h; obtain ⟨a, i, x, r, rfl, hk, hin, hq, h⟩ := h; exact j_aastore X0 hd hk hin hq h
  · replace h := e_n3 h; obtain ⟨rfl, h⟩ := h; replace h := e_on h; obtain ⟨ci, hf, h1, h2, h⟩ := h; exact j_new X0 hd hf h1 h2 h
  · replace h := e_n2 h; obtain ⟨rfl, h⟩ := h; replace h := e_p1 h; obtain ⟨v, r, rfl, h⟩ := h; replace h := e_oc h; obtain ⟨kn, sz, hf, h0, hby, h1, h2, h⟩ := h; exact j_newarray X0 hd hf h0 hby h1 h2 h
  · replace h := e_n3 h; obtain ⟨rfl, h⟩ := h; replace h := e_p1 h; obtain ⟨v, r, rfl, h⟩ := h; replace h := e_on h; obtain ⟨ci, hf, hu, h0, hby, h1, h2, h⟩ := h; exact j_anewarray X0 hd hf hu h0 hby h1 h2 h
  · replace h := e_n3 h; obtain ⟨rfl, h⟩ := h; replace h := e_oc h; obtain ⟨kn, z, hf, rfl, h⟩ := h; replace h := e_spl h; obtain ⟨As, r, rfl, hA, h⟩ := h; replace h := e_pr h; obtain ⟨b, r, rfl, hk, hv, h⟩ := h; exact j_invokevirtual X0 hC hd hf hA hk hv h
  · replace h := e_n3 h; obtain ⟨rfl, h⟩ := h; replace h := e_oc h; obtain ⟨kn, z, hf, rfl, h⟩ := h; replace h := e_spl h; obtain ⟨As, r, rfl, hA, h⟩ := h; exact j_invokestatic X0 hC hd hf hA h
  · replace h := e_n3 h; obtain ⟨rfl, h⟩ := h; replace h := e_oc h; obtain ⟨kn, z, hf, h⟩ := h
    rcases h with ⟨rfl, h⟩ | ⟨hk, h⟩
    · replace h := e_pr h; obtain ⟨b, r, rfl, hcat, h⟩ := h
      exact j_objinit X0 hd hf hcat h
    · replace h := e_spl h; obtain ⟨As, r, rfl, hA, h⟩ := h
      replace h := e_pr h; obtain ⟨b, r, rfl, h⟩ := h
      rcases hk with rfl | rfl
      · exact j_invokespecial X0 hC hd hf hA h
      · exact j_invokenest X0 hC hd hf hA h
  · replace h := e_n1 h; obtain ⟨rfl, h⟩ := h; split at h
    · intro H locs ls hr hS hl hL hcn hsn
      unfold rtI at h
      split at h
      · rename_i hm; exact (hE H locs ls w pc cn sn hr hS hcn hsn).1 _ _ hm rfl hd h
      · rename_i hm; exact (hE H locs ls w pc cn sn hr hS hcn hsn).1 _ _ hm h.1 hd h.2
      · rename_i hm; exact (hE H locs ls w pc cn sn hr hS hcn hsn).1 _ _ hm h.1 hd h.2
      · rename_i hm; exact (hE H locs ls w pc cn sn hr hS hcn hsn).1 _ _ hm h.1 hd h.2
      · exact h.elim
    · exact h.elim
  · replace h := e_n1 h; obtain ⟨rfl, h⟩ := h; split at h
    · intro H locs ls hr hS hl hL hcn hsn
      exact (hE H locs ls w pc cn sn hr hS hcn hsn).2.1 _ h.1 hd h.2
    · exact h.elim
  · replace h := e_n1 h; obtain ⟨rfl, h⟩ := h; split at h
    · intro H locs ls hr hS hl hL hcn hsn
      unfold rtR at h
      split at h
      · rename_i hm; exact (hE H locs ls w pc cn sn hr hS hcn hsn).2.2.1 (some _) _ hm (Or.inl ⟨_, rfl⟩) hd h
      · rename_i hm; exact (hE H locs ls w pc cn sn hr hS hcn hsn).2.2.1 (some _) _ hm (Or.inr ⟨_, rfl⟩) hd h
      · exact h.elim
    · intro H locs ls hr hS hl hL hcn hsn
      unfold rtR at h
      split at h
      · rename_i hm; exact (hE H locs ls w pc cn sn hr hS hcn hsn).2.2.1 none _ hm (Or.inl ⟨_, rfl⟩) hd h
      · rename_i hm; exact (hE H locs ls w pc cn sn hr hS hcn hsn).2.2.1 none _ hm (Or.inr ⟨_, rfl⟩) hd h
      · exact h.elim
    · exact h.elim
  · replace h := e_n1 h; obtain ⟨rfl, h⟩ := h; split at h
    · intro H locs ls hr hS hl hL hcn hsn
      exact (hE H locs ls w pc cn sn hr hS hcn hsn).2.2.2 h.1 hd h.2
    · exact h.elim
  · exact h.elim
end Mn
end
section
/-! the calculus gives contracts -/
theorem lo0_len (As : List Value) : (lo0 As).length = (lg_sl As).length := by
  induction As with
  | nil => rfl
  | cons v r ih =>
    unfold lo0 lg_sl at ih ⊢
    rw [List.flatMap_cons, List.flatMap_cons, List.length_append, List.length_append, ih]
    split <;> rfl
theorem lo0_get : ∀ (As : List Value) (i : Nat) (v : Value), (lo0 As)[i]? = some (some v) → (lg_sl As)[i]? = some (.val v) := by
  intro As
  induction As with
  | nil => intro i v h; simp [lo0] at h
  | cons u r ih =>
    intro i v h
    unfold lo0 at h
    unfold lg_sl
    rw [List.flatMap_cons] at h ⊢
    split at h
    · rename_i hc
      rw [if_pos hc]
      match i, h with
      | 0, h => simp at h; simp [h]
      | 1, h => simp at h
      | i + 2, h => simp at h ⊢; exact ih i v h
    · rename_i hc
      rw [if_neg hc]
      match i, h with
      | 0, h => simp at h; simp [h]
      | i + 1, h => simp at h ⊢; exact ih i v h
theorem lh_entry {As : List Value} {n : Nat} (h : (lo0 As).length ≤ n) : lh ((lg_sl As ++ List.replicate (n - (lg_sl As).length) Slot.unset).toArray) (loE n As) := by
  have e := lv_entry As (n := n) (by rw [← lo0_len]; exact h)
  refine ⟨?_, e.2.1, fun i v hv => ?_⟩
  · rw [e.1]; unfold loE; rw [List.length_append, List.length_replicate]; omega
  · unfold loE at hv
    by_cases hi : i < (lo0 As).length
    · rw [List.getElem?_append_left hi] at hv
      have h1 := lo0_get As i v hv
      rw [List.getElem?_toArray, List.getElem?_append_left (by rw [← lo0_len]; exact hi)]
      exact h1
    · rw [List.getElem?_append_right (by omega)] at hv
      have := List.mem_of_getElem? hv
      simp at this
theorem loE_len {As : List Value} {n : Nat} (h : (lo0 As).length ≤ n) : (loE n As).length = n := by
  unfold loE; rw [List.length_append, List.length_replicate]; omega
section Mt
variable {p : Program} {l : Launch} {e : Env} {s : State} {m : MethodId} {args : Array Value} {below : List Frame} {meth : Method} {c : Code} {D : va_G} {tA : Nat → ClassId} {B y d : Nat} {Q : wQ}
theorem ends_met {R : Room} (hx : p.tables.exec = Jvm.exec) (hb : c.code = mB y) (hr : meth.sig.returnType = mR y) (hlocks : meth.locks = false) : ends p l e R s m args below meth c D tA B y (MQ below (PostX D tA B Q) args s (mC y) (mS y) (fun q => B ≤ q)) Q := by
  intro H locs ls w pc cn sn hrp hS hcn hsn
  have post : ∀ (v : Option Value), Q v w → ∀ t : State, t.heap = H → s.WarmedH t.vm → PostX D tA B Q args s (.returned v) t := fun v hq t ht hW =>
    ⟨⟨v, w, rfl, hq, by rw [ht]; exact hrp.moved hW.alike⟩, hS.F ht⟩
  refine ⟨fun v ty hm hn hd hq => ?_, fun v hm hd hq => ?_, fun x ty hm hty hd hq => ?_, fun hm hd hq => ?_⟩
  · exact W.widen hcn hsn (W.zret hx hb (hr.trans hm) hn (post _ hq) hS.2.2 hd)
  · exact W.widen hcn hsn (W.lret hx hb (hr.trans hm) (post _ hq) hS.2.2 hd)
  · refine W.widen hcn hsn (W.aret hx hb (hr.trans hm) hty ?_ (post _ hq) hS.2.2 hd)
    cases x with
    | none => exact Or.inl rfl
    | some a => exact Or.inr ⟨a, rfl⟩
  · exact W.widen hcn hsn (W.vret hx hb (hr.trans hm) (post _ hq) hS.2.2 hd)
end Mt
theorem snd_step {l : Launch} {D : va_G} {tA : Nat → ClassId} {B d : Nat} (hC : sndC l D tA B d (wpD d)) : sndC l D tA B (d + 1) (wpD (d + 1)) := by
  intro z As w Q z0 zm h
  obtain ⟨hlen, h⟩ := h
  obtain ⟨o1, o2, o3, o4, o5, o6⟩ := mO_ok zm
  refine Met.ofW (cc := mB z) (maxL := mL z) (ret := mR z) o5 rfl ?_
  intro p e s m args below meth c s₁ Bd hml hv
  obtain ⟨rfl, hrp, hK⟩ := hv
  have hx := Bd.exec
  have hb := Bd.bytes
  have hr := Bd.returns
  have hts := atoms_spec (ws := wM z) Bd.pre
  have hown : s.vm.findClass (mN z).cls = some m.cls := findClass_of_methodNamed Bd.named
  have hlocks := Bd.notSynchronized
  have hnm : meth.name = (mN z).name := (name_of_methodNamed Bd.named Bd.method).1
  have X : cx p (rmD (d + 1) z) s m As.toArray meth c D tA B z d := ⟨hx, hb, hml, by rw [o1]; exact hown, fun w hw => hts w (List.mem_cons_of_mem _ hw), hnm, hK, ⟨Nat.le_refl _, Nat.le_refl _, rfl, rfl⟩, by have := hrp.2.2.1; have := hrp.2.2.2.1; omega⟩
  rw [lg_entry_eq]
  exact h _ (J_closed X hC (ends_met hx hb hr hlocks)) s.heap [] _ hrp va_S.rf (lh_entry hlen) (loE_len hlen) (Nat.zero_le _) (Nat.zero_le _)
theorem snd_all (l : Launch) (D : va_G) (tA : Nat → ClassId) (B : Nat) : ∀ d, sndC l D tA B d (wpD d)
  | 0 => fun _ _ _ _ _ _ h => h.elim
  | d + 1 => snd_step (snd_all l D tA B d)
end
section
/-! one instruction, as an equation -/
section Rw
variable {d y : Nat} {Q : wQ} {pc : Nat} {L L' : List (Option Value)} {st : List Value} {w : aw} {cn sn : Nat}
theorem w_iconst {n : Int} {x : Int32} (hd : decode (mB y) pc = .ok (.iconst n, 1)) (hv : Int32.ofInt n = x) : wp d y Q pc L st w cn sn = wp d y Q (pc + 1) L (.int x :: st) w cn sn := by rw [wp_row hd, ← hv]; rfl
theorem w_bipush {n : Int} {x : Int32} (hd : decode (mB y) pc = .ok (.bipush n, 2)) (hv : (Int8.ofInt n).toInt32 = x) : wp d y Q pc L st w cn sn = wp d y Q (pc + 2) L (.int x :: st) w cn sn := by rw [wp_row hd, ← hv]; rfl
theorem w_sipush {n : Int} {x : Int32} (hd : decode (mB y) pc = .ok (.sipush n, 3)) (hv : (Int16.ofInt n).toInt32 = x) : wp d y Q pc L st w cn sn = wp d y Q (pc + 3) L (.int x :: st) w cn sn := by rw [wp_row hd, ← hv]; rfl
theorem w_lconst {n : Fin 2} {x : Int64} (hd : decode (mB y) pc = .ok (.lconst n, 1)) (hv : Int64.ofNat (n : Nat) = x) : wp d y Q pc L st w cn sn = wp d y Q (pc + 1) L (.long x :: st) w cn sn := by rw [wp_row hd, ← hv]; rfl
theorem w_null (hd : decode (mB y) pc = .ok (.aconst_null, 1)) : wp d y Q pc L st w cn sn = wp d y Q (pc + 1) L (.null :: st) w cn sn := by rw [wp_row hd]; rfl
theorem w_ldc {k : Nat} {x : Int32} (hd : decode (mB y) pc = .ok (.ldc k, 2)) (hk : kT (mO y) k = some (.int x)) : wp d y Q pc L st w cn sn = wp d y Q (pc + 2) L (.int x :: st) w cn sn := by rw [wp_row hd]; show n2 2 (on (kT (mO y) k) _) = _; rw [hk]; rfl
theorem w_ldc2 {k : Nat} {x : Int64} (hd : decode (mB y) pc = .ok (.ldc2_w k, 3)) (hk : kT (mO y) k = some (.long x)) : wp d y Q pc L st w cn sn = wp d y Q (pc + 3) L (.long x :: st) w cn sn := by rw [wp_row hd]; show n3 3 (on (kT (mO y) k) _) = _; rw [hk]; rfl
theorem w_iload_n {k : Fin 4} {v : Int32} (hd : decode (mB y) pc = .ok (.iload_n k, 1)) (hn : nth L k = some (.int v)) : wp d y Q pc L st w cn sn = wp d y Q (pc + 1) L (.int v :: st) w cn sn := by rw [wp_row hd]; show n1 1 (li (nth L k) _) = _; rw [hn]; rfl
theorem w_iload {k : Nat} {v : Int32} (hd : decode (mB y) pc = .ok (.iload k, 2)) (hn : nth L k = some (.int v)) : wp d y Q pc L st w cn sn = wp d y Q (pc + 2) L (.int v :: st) w cn sn := by rw [wp_row hd]; show n2 2 (li (nth L k) _) = _; rw [hn]; rfl
theorem w_lload_n {k : Fin 4} {v : Int64} (hd : decode (mB y) pc = .ok (.lload_n k, 1)) (hn : nth L k = some (.long v)) : wp d y Q pc L st w cn sn = wp d y Q (pc + 1) L (.long v :: st) w cn sn := by rw [wp_row hd]; show n1 1 (ll (nth L k) _) = _; rw [hn]; rfl
theorem w_lload {k : Nat} {v : Int64} (hd : decode (mB y) pc = .ok (.lload k, 2)) (hn : nth L k = some (.long v)) : wp d y Q pc L st w cn sn = wp d y Q (pc + 2) L (.long v :: st) w cn sn := by rw [wp_row hd]; show n2 2 (ll (nth L k) _) = _; rw [hn]; rfl
theorem w_aload_n {k : Fin 4} {v : Nat} (hd : decode (mB y) pc = .ok (.aload_n k, 1)) (hn : nth L k = some (.ref v)) : wp d y Q pc L st w cn sn = wp d y Q (pc + 1) L (.ref v :: st) w cn sn := by rw [wp_row hd]; dsimp only [wp1]; rw [hn]; rfl
theorem w_aload {k : Nat} {v : Nat} (hd : decode (mB y) pc = .ok (.aload k, 2)) (hn : nth L k = some (.ref v)) : wp d y Q pc L st w cn sn = wp d y Q (pc + 2) L (.ref v :: st) w cn sn := by rw [wp_row hd]; dsimp only [wp1]; rw [hn]; rfl
theorem w_aload_nN {k : Fin 4} (hd : decode (mB y) pc = .ok (.aload_n k, 1)) (hn : nth L k = some .null) : wp d y Q pc L st w cn sn = wp d y Q (pc + 1) L (.null :: st) w cn sn := by rw [wp_row hd]; dsimp only [wp1]; rw [hn]; rfl
theorem w_aloadN {k : Nat} (hd : decode (mB y) pc = .ok (.aload k, 2)) (hn : nth L k = some .null) : wp d y Q pc L st w cn sn = wp d y Q (pc + 2) L (.null :: st) w cn sn := by rw [wp_row hd]; dsimp only [wp1]; rw [hn]; rfl
theorem tr_and {A B : Prop} (h : A) : (A ∧ B) = B := propext ⟨fun q => q.2, fun q => ⟨h, q⟩⟩
theorem w_istore_n {k : Fin 4} {v : Int32} (hd : decode (mB y) pc = .ok (.istore_n k, 1)) (hk : (k : Nat) < L.length) (hs : st1 L k (.int v) = L') : wp d y Q pc L (.int v :: st) w cn sn = wp d y Q (pc + 1) L' st w cn sn := by rw [wp_row hd, ← hs]; exact tr_and hk
theorem w_istore {k : Nat} {v : Int32} (hd : decode (mB y) pc = .ok (.istore k, 2)) (hk : k < L.length) (hs : st1 L k (.int v) = L') : wp d y Q pc L (.int v :: st) w cn sn = wp d y Q (pc + 2) L' st w cn sn := by rw [wp_row hd, ← hs]; exact tr_and hk
theorem w_lstore_n {k : Fin 4} {v : Int64} (hd : decode (mB y) pc = .ok (.lstore_n k, 1)) (hk : (k : Nat) + 1 < L.length) (hs : st2 L k (.long v) = L') : wp d y Q pc L (.long v :: st) w cn sn = wp d y Q (pc + 1) L' st w cn sn := by rw [wp_row hd, ← hs]; exact tr_and hk
theorem w_lstore {k : Nat} {v : Int64} (hd : decode (mB y) pc = .ok (.lstore k, 2)) (hk : k + 1 < L.length) (hs : st2 L k (.long v) = L') : wp d y Q pc L (.long v :: st) w cn sn = wp d y Q (pc + 2) L' st w cn sn := by rw [wp_row hd, ← hs]; exact tr_and hk
theorem w_astore_n {k : Fin 4} {v : Nat} (hd : decode (mB y) pc = .ok (.astore_n k, 1)) (hk : (k : Nat) < L.length) (hs : st1 L k (.ref v) = L') : wp d y Q pc L (.ref v :: st) w cn sn = wp d y Q (pc + 1) L' st w cn sn := by rw [wp_row hd, ← hs]; exact tr_and hk
theorem w_astore {k : Nat} {v : Nat} (hd : decode (mB y) pc = .ok (.astore k, 2)) (hk : k < L.length) (hs : st1 L k (.ref v) = L') : wp d y Q pc L (.ref v :: st) w cn sn = wp d y Q (pc + 2) L' st w cn sn := by rw [wp_row hd, ← hs]; exact tr_and hk
theorem w_astore_nN {k : Fin 4} (hd : decode (mB y) pc = .ok (.astore_n k, 1)) (hk : (k : Nat) < L.length) (hs : st1 L k .null = L') : wp d y Q pc L (.null :: st) w cn sn = wp d y Q (pc + 1) L' st w cn sn := by rw [wp_row hd, ← hs]; exact tr_and hk
theorem w_astoreN {k : Nat} (hd : decode (mB y) pc = .ok (.astore k, 2)) (hk : k < L.length) (hs : st1 L k .null = L') : wp d y Q pc L (.null :: st) w cn sn = wp d y Q (pc + 2) L' st w cn sn := by rw [wp_row hd, ← hs]; exact tr_and hk
theorem w_iinc {k : Nat} {n : Int} {v x : Int32} (hd : decode (mB y) pc = .ok (.iinc k n, 3)) (hn : nth L k = some (.int v)) (hx : Int32.ofInt n = x) (hs : st1 L k (.int (v + x)) = L') : wp d y Q pc L st w cn sn = wp d y Q (pc + 3) L' st w cn sn := by rw [wp_row hd, ← hs, ← hx]; show n3 3 (li (nth L k) _) = _; rw [hn]; rfl
theorem w_br {P : Prop} {off : Int} {t : Nat} {K : Nat → Prop} (ht : (pc : Int) + off = (t : Int)) (h : K t = P) : br pc off K = P := by
  rw [← h]
  refine propext ⟨fun ⟨t', e, q⟩ => ?_, fun q => ⟨t, ht, q⟩⟩
  have : t' = t := by omega
  rw [← this]; exact q
theorem w_goto {off : Int} {t : Nat} (hd : decode (mB y) pc = .ok (.goto off, 3)) (ht : (pc : Int) + off = (t : Int)) : wp d y Q pc L st w cn sn = wp d y Q t L st w cn sn := by rw [wp_row hd]; exact w_br ht rfl
theorem w_ifeq {x : Int32} {off : Int} {t : Nat} (hd : decode (mB y) pc = .ok (.ifCond .eq off, 3)) (ht : (pc : Int) + off = (t : Int)) : wp d y Q pc L (.int x :: st) w cn sn = ((x = 0 → wp d y Q t L st w cn sn) ∧ (¬ x = 0 → wp d y Q (pc + 3) L st w cn sn)) := by rw [wp_row hd]; exact w_br ht rfl
theorem w_ifne {x : Int32} {off : Int} {t : Nat} (hd : decode (mB y) pc = .ok (.ifCond .ne off, 3)) (ht : (pc : Int) + off = (t : Int)) : wp d y Q pc L (.int x :: st) w cn sn = ((¬ x = 0 → wp d y Q t L st w cn sn) ∧ (x = 0 → wp d y Q (pc + 3) L st w cn sn)) := by rw [wp_row hd]; exact w_br ht rfl
theorem w_iflt {x : Int32} {off : Int} {t : Nat} (hd : decode (mB y) pc = .ok (.ifCond .lt off, 3)) (ht : (pc : Int) + off = (t : Int)) : wp d y Q pc L (.int x :: st) w cn sn = ((x < 0 → wp d y Q t L st w cn sn) ∧ (¬ x < 0 → wp d y Q (pc + 3) L st w cn sn)) := by rw [wp_row hd]; exact w_br ht rfl
theorem w_ifge {x : Int32} {off : Int} {t : Nat} (hd : decode (mB y) pc = .ok (.ifCond .ge off, 3)) (ht : (pc : Int) + off = (t : Int)) : wp d y Q pc L (.int x :: st) w cn sn = ((0 ≤ x → wp d y Q t L st w cn sn) ∧ (¬ 0 ≤ x → wp d y Q (pc + 3) L st w cn sn)) := by rw [wp_row hd]; exact w_br ht rfl
theorem w_ifgt {x : Int32} {off : Int} {t : Nat} (hd : decode (mB y) pc = .ok (.ifCond .gt off, 3)) (ht : (pc : Int) + off = (t : Int)) : wp d y Q pc L (.int x :: st) w cn sn = ((0 < x → wp d y Q t L st w cn sn) ∧ (¬ 0 < x → wp d y Q (pc + 3) L st w cn sn)) := by rw [wp_row hd]; exact w_br ht rfl
theorem w_ifle {x : Int32} {off : Int} {t : Nat} (hd : decode (mB y) pc = .ok (.ifCond .le off, 3)) (ht : (pc : Int) + off = (t : Int)) : wp d y Q pc L (.int x :: st) w cn sn = ((x ≤ 0 → wp d y Q t L st w cn sn) ∧ (¬ x ≤ 0 → wp d y Q (pc + 3) L st w cn sn)) := by rw [wp_row hd]; exact w_br ht rfl
theorem w_iceq {a b : Int32} {off : Int} {t : Nat} (hd : decode (mB y) pc = .ok (.if_icmp .eq off, 3)) (ht : (pc : Int) + off = (t : Int)) : wp d y Q pc L (.int b :: .int a :: st) w cn sn = ((a = b → wp d y Q t L st w cn sn) ∧ (¬ a = b → wp d y Q (pc + 3) L st w cn sn)) := by rw [wp_row hd]; exact w_br ht rfl
theorem w_icne {a b : Int32} {off : Int} {t : Nat} (hd : decode (mB y) pc = .ok (.if_icmp .ne off, 3)) (ht : (pc : Int) + off = (t : Int)) : wp d y Q pc L (.int b :: .int a :: st) w cn sn = ((¬ a = b → wp d y Q t L st w cn sn) ∧ (a = b → wp d y Q (pc + 3) L st w cn sn)) := by rw [wp_row hd]; exact w_br ht rfl
theorem w_iclt {a b : Int32} {off : Int} {t : Nat} (hd : decode (mB y) pc = .ok (.if_icmp .lt off, 3)) (ht : (pc : Int) + off = (t : Int)) : wp d y Q pc L (.int b :: .int a :: st) w cn sn = ((a < b → wp d y Q t L st w cn sn) ∧ (¬ a < b → wp d y Q (pc + 3) L st w cn sn)) := by rw [wp_row hd]; exact w_br ht rfl
theorem w_icge {a b : Int32} {off : Int} {t : Nat} (hd : decode (mB y) pc = .ok (.if_icmp .ge off, 3)) (ht : (pc : Int) + off = (t : Int)) : wp d y Q pc L (.int b :: .int a :: st) w cn sn = ((b ≤ a → wp d y Q t L st w cn sn) ∧ (¬ b ≤ a → wp d y Q (pc + 3) L st w cn sn)) := by rw [wp_row hd]; exact w_br ht rfl
theorem w_icgt {a b : Int32} {off : Int} {t : Nat} (hd : decode (mB y) pc = .ok (.if_icmp .gt off, 3)) (ht : (pc : Int) + off = (t : Int)) : wp d y Q pc L (.int b :: .int a :: st) w cn sn = ((b < a → wp d y Q t L st w cn sn) ∧ (¬ b < a → wp d y Q (pc + 3) L st w cn sn)) := by rw [wp_row hd]; exact w_br ht rfl
theorem w_icle {a b : Int32} {off : Int} {t : Nat} (hd : decode (mB y) pc = .ok (.if_icmp .le off, 3)) (ht : (pc : Int) + off = (t : Int)) : wp d y Q pc L (.int b :: .int a :: st) w cn sn = ((a ≤ b → wp d y Q t L st w cn sn) ∧ (¬ a ≤ b → wp d y Q (pc + 3) L st w cn sn)) := by rw [wp_row hd]; exact w_br ht rfl
theorem w_ifnull {q : Nat} {off : Int} {t : Nat} (hd : decode (mB y) pc = .ok (.ifnull off, 3)) (ht : (pc : Int) + off = (t : Int)) : wp d y Q pc L (.ref q :: st) w cn sn = wp d y Q (pc + 3) L st w cn sn := by
  rw [wp_row hd]; dsimp only [wp1, n3, pn]; refine w_br (t := t) ht ?_; first | simp | exact propext ⟨fun h => h.2 (by simp), fun h => ⟨fun e => by cases e, fun _ => h⟩⟩
theorem w_ifnullN {off : Int} {t : Nat} (hd : decode (mB y) pc = .ok (.ifnull off, 3)) (ht : (pc : Int) + off = (t : Int)) : wp d y Q pc L (.null :: st) w cn sn = wp d y Q t L st w cn sn := by
  rw [wp_row hd]; dsimp only [wp1, n3, pn]; refine w_br (t := t) ht ?_; first | simp | exact propext ⟨fun h => h.1 rfl, fun h => ⟨fun _ => h, fun e => absurd rfl e⟩⟩
theorem w_ifnn {q : Nat} {off : Int} {t : Nat} (hd : decode (mB y) pc = .ok (.ifnonnull off, 3)) (ht : (pc : Int) + off = (t : Int)) : wp d y Q pc L (.ref q :: st) w cn sn = wp d y Q t L st w cn sn := by
  rw [wp_row hd]; dsimp only [wp1, n3, pn]; refine w_br (t := t) ht ?_; first | simp | exact propext ⟨fun h => h.1 (by simp), fun h => ⟨fun _ => h, fun e => by cases e⟩⟩
theorem w_ifnnN {off : Int} {t : Nat} (hd : decode (mB y) pc = .ok (.ifnonnull off, 3)) (ht : (pc : Int) + off = (t : Int)) : wp d y Q pc L (.null :: st) w cn sn = wp d y Q (pc + 3) L st w cn sn := by
  rw [wp_row hd]; dsimp only [wp1, n3, pn]; refine w_br (t := t) ht ?_; first | simp | exact propext ⟨fun h => h.2 rfl, fun h => ⟨fun e => absurd rfl e, fun _ => h⟩⟩
theorem w_table {x : Int32} {dflt lo hi : Int} {offs : Array Int} {n : Nat} {ts : List Nat} {td : Nat} (hd : decode (mB y) pc = .ok (.tableswitch dflt lo hi offs, n)) (h1 : (pc : Int) + dflt = (td : Int)) (h2 : hi - lo + 1 = ts.length) (h3 : offs.toList.map (fun o => (pc : Int) + o) = ts.map Int.ofNat) :
    wp d y Q pc L (.int x :: st) w cn sn = ((x.toInt < lo ∨ hi < x.toInt → wp d y Q td L st w cn sn) ∧ ∀ (i t : Nat), ts[i]? = some t → x.toInt = lo + i → wp d y Q t L st w cn sn) := by
  have hl : offs.toList.length = ts.length := by have := congrArg List.length h3; simpa using this
  have key : ∀ (i t : Nat), ts[i]? = some t → ∃ o, offs[i]? = some o ∧ (pc : Int) + o = (t : Int) := by
    intro i t ht
    have h4 : (offs.toList.map (fun o => (pc : Int) + o))[i]? = (ts.map Int.ofNat)[i]? := by rw [h3]
    rw [List.getElem?_map, List.getElem?_map, ht] at h4
    cases ho : offs.toList[i]? with
    | none => rw [ho] at h4; cases h4
    | some o =>
      rw [ho] at h4
      refine ⟨o, ?_, ?_⟩
      · rw [← Array.getElem?_toList]; exact ho
      · exact Option.some.inj h4
  rw [wp_row hd]
  dsimp only [wp1, p1]
  refine propext ⟨fun h => ?_, fun h => ?_⟩
  · obtain ⟨k1, k2⟩ := h
    refine ⟨fun q => ?_, fun i t hi' hx => ?_⟩
    · obtain ⟨t, e, k⟩ := k1 q
      have : t = td := by omega
      rw [← this]; exact k
    · have hlt : i < ts.length := (List.getElem?_eq_some_iff.mp hi').1
      obtain ⟨o, ho, e⟩ := key i t hi'
      obtain ⟨o', ho', t', e', k⟩ := e_ot (k2 (by omega) (by omega))
      rw [show (x.toInt - lo).toNat = i by omega, ho] at ho'
      cases ho'
      have : t' = t := by omega
      rw [← this]; exact k
  · refine ⟨fun q => ⟨td, h1, h.1 q⟩, fun q1 q2 => ?_⟩
    have hlt : (x.toInt - lo).toNat < ts.length := by omega
    obtain ⟨o, ho, e⟩ := key _ _ (List.getElem?_eq_getElem hlt)
    rw [ho]
    exact ⟨_, e, h.2 _ _ (List.getElem?_eq_getElem hlt) (by omega)⟩
theorem w_getfield {k ci f a : Nat} (hd : decode (mB y) pc = .ok (.getfield k, 3)) (hf : fT (mO y) k = some (ci, f)) : wp d y Q pc L (.ref a :: st) w cn sn = (kd w a = ci + 1 ∧ wp d y Q (pc + 3) L (fd w (64 * ci + f) a :: st) w cn sn) := by
  rw [wp_row hd]; dsimp only [wp1, n3, pr]; rw [hf]; rfl
theorem w_putfield {k ci f a : Nat} {v : Value} (hd : decode (mB y) pc = .ok (.putfield k, 3)) (hf : fT (mO y) k = some (ci, f)) (hn : fin ci f = true → (mN y).name = "<init>" ∧ ci = mO y) (hv : okv (tyOf ci f) v) : wp d y Q pc L (v :: .ref a :: st) w cn sn = (kd w a = ci + 1 ∧ wp d y Q (pc + 3) L st (uF w (64 * ci + f) a v) cn sn) := by
  rw [wp_row hd]; dsimp only [wp1, n3, pvr]; rw [hf]; dsimp only [oc]
  exact propext ⟨fun h => ⟨h.1, h.2.2.2⟩, fun h => ⟨h.1, hn, hv, h.2⟩⟩
theorem w_putfieldC {k ci f a : Nat} {v : Value} (hd : decode (mB y) pc = .ok (.putfield k, 3)) (hf : fT (mO y) k = some (ci, f)) (hn : fin ci f = true → (mN y).name = "<init>" ∧ ci = mO y) : wp d y Q pc L (v :: .ref a :: st) w cn sn = (kd w a = ci + 1 ∧ okv (tyOf ci f) v ∧ wp d y Q (pc + 3) L st (uF w (64 * ci + f) a v) cn sn) := by
  rw [wp_row hd]; dsimp only [wp1, n3, pvr]; rw [hf]; dsimp only [oc]
  exact propext ⟨fun h => ⟨h.1, h.2.2⟩, fun h => ⟨h.1, hn, h.2⟩⟩
theorem w_getstatic {k j : Nat} (hd : decode (mB y) pc = .ok (.getstatic k, 3)) (hf : sT (mO y) k = some j) : wp d y Q pc L st w cn sn = wp d y Q (pc + 3) L (fd w (10000 + j) 0 :: st) w cn sn := by
  rw [wp_row hd]; dsimp only [wp1, n3]; rw [hf]; rfl
theorem w_new {k ci c s : Nat} (hd : decode (mB y) pc = .ok (.new k, 3)) (hf : nT (mO y) k = some ci) (hc : mC y = c) (hs : mS y = s) {n : Nat} (hn : clF ci = n) : wp d y Q pc L st w cn sn = (cn + 1 ≤ c ∧ sn + n ≤ s ∧ wp d y Q (pc + 3) L (.ref (zs w) :: st) (nw w (ci + 1) 0) (cn + 1) (sn + n)) := by
  rw [wp_row hd, ← hc, ← hs, ← hn]; dsimp only [wp1, n3]; rw [hf]; rfl
theorem w_newarray {t : ArrayType} {kn sz c s : Nat} {v : Int32} (hd : decode (mB y) pc = .ok (.newarray t, 2)) (hf : aTy t = some (kn, sz)) (hc : mC y = c) (hs : mS y = s) : wp d y Q pc L (.int v :: st) w cn sn = (¬ v < 0 ∧ v.toNatClampNeg * sz ≤ 536870912 ∧ cn + 1 ≤ c ∧ sn + v.toNatClampNeg ≤ s ∧ wp d y Q (pc + 2) L (.ref (zs w) :: st) (nw w kn v.toNatClampNeg) (cn + 1) (sn + v.toNatClampNeg)) := by
  rw [wp_row hd, ← hc, ← hs]; dsimp only [wp1, n2, p1]; rw [hf]; rfl
theorem w_anewarray {k ci c s : Nat} {v : Int32} (hd : decode (mB y) pc = .ok (.anewarray k, 3)) (hf : nT (mO y) k = some ci) (hu : ci + 1 = 7) (hc : mC y = c) (hs : mS y = s) : wp d y Q pc L (.int v :: st) w cn sn = (¬ v < 0 ∧ v.toNatClampNeg * 4 ≤ 536870912 ∧ cn + 1 ≤ c ∧ sn + v.toNatClampNeg ≤ s ∧ wp d y Q (pc + 3) L (.ref (zs w) :: st) (nw w 24 v.toNatClampNeg) (cn + 1) (sn + v.toNatClampNeg)) := by
  rw [wp_row hd, ← hc, ← hs]; dsimp only [wp1, n3, p1]; rw [hf]; exact tr_and hu
theorem spl_eq {n : Nat} {As r : List Value} {K : List Value → List Value → Prop} (hA : As.length = n) : spl n (As.reverse ++ r) K = K As r := by
  unfold spl
  rw [if_pos (by simp [hA])]
  have h1 : (As.reverse ++ r).take n = As.reverse := by rw [← hA, ← List.length_reverse, List.take_left']; rfl
  have h2 : (As.reverse ++ r).drop n = r := by rw [← hA, ← List.length_reverse, List.drop_left']; rfl
  rw [h1, h2, List.reverse_reverse]
theorem alc_0 {z : Nat} {K : Nat → Nat → Prop} (h : mC z = 0 ∧ mS z = 0) : alc y z cn sn K = K cn sn := by unfold alc; rw [if_pos h]
theorem w_virtual {k z kz : Nat} {b : Nat} {As r' : List Value} (hd : decode (mB y) pc = .ok (.invokevirtual k, 3)) (hf : cT (mO y) k = some (0, z)) (hA : As.length = mA z) (hv : (vwCl[mO z]?).isSome = true) (hk : mO z + 1 = kz) (h0 : mC z = 0 ∧ mS z = 0) (hst : st = As.reverse ++ .ref b :: r') : wp d y Q pc L st w cn sn = (kd w b = kz ∧ catS r' ≤ 8 ∧ wpD d z (.ref b :: As) w (fun v w' => wp d y Q (pc + 3) L (v.toList ++ r') w' cn sn)) := by
  rw [wp_row hd, hst]; dsimp only [wp1, n3]; rw [hf]; dsimp only [oc]
  rw [spl_eq hA, tr_and rfl, ← hk]
  dsimp only [pr, wcall]
  rw [alc_0 h0, tr_and hv]
  rfl
theorem w_static {k z : Nat} {As r' : List Value} (hd : decode (mB y) pc = .ok (.invokestatic k, 3)) (hf : cT (mO y) k = some (2, z)) (hA : As.length = mA z) (h0 : mC z = 0 ∧ mS z = 0) (hst : st = As.reverse ++ r') : wp d y Q pc L st w cn sn = (catS r' ≤ 8 ∧ wpD d z As w (fun v w' => wp d y Q (pc + 3) L (v.toList ++ r') w' cn sn)) := by
  rw [wp_row hd, hst]; dsimp only [wp1, n3]; rw [hf]; dsimp only [oc]
  rw [spl_eq hA, tr_and rfl]
  dsimp only [wcall]
  rw [alc_0 h0]
  rfl
theorem w_objinit {k z b : Nat} (hd : decode (mB y) pc = .ok (.invokespecial k, 3)) (hf : cT (mO y) k = some (3, z)) : wp d y Q pc L (.ref b :: st) w cn sn = (catS st ≤ 8 ∧ wp d y Q (pc + 3) L st w cn sn) := by
  rw [wp_row hd]; dsimp only [wp1, n3]; rw [hf]; dsimp only [oc]
  refine propext ⟨fun h => ?_, fun h => Or.inl ⟨rfl, h⟩⟩
  rcases h with ⟨-, h⟩ | ⟨h, -⟩
  · exact h
  · omega
theorem w_special {k z kn : Nat} {b : Nat} {As r' : List Value} (hd : decode (mB y) pc = .ok (.invokespecial k, 3)) (hf : cT (mO y) k = some (kn, z)) (hkn : kn = 1 ∨ kn = 4) (hA : As.length = mA z) (hst : st = As.reverse ++ .ref b :: r') : wp d y Q pc L st w cn sn = (catS r' ≤ 8 ∧ alc y z cn sn (fun c2 s2 => wpD d z (.ref b :: As) w (fun v w' => wp d y Q (pc + 3) L (v.toList ++ r') w' c2 s2))) := by
  rw [wp_row hd, hst]; dsimp only [wp1, n3]; rw [hf]; dsimp only [oc]
  have e : spl (mA z) (As.reverse ++ .ref b :: r') (fun As r => pr r fun b r => wcall (wpD d) y z pc (.ref b :: As) r L w cn sn (wp d y Q)) = wcall (wpD d) y z pc (.ref b :: As) r' L w cn sn (wp d y Q) := spl_eq hA
  refine propext ⟨fun h => ?_, fun h => Or.inr ⟨hkn, by rw [e]; exact h⟩⟩
  rcases h with ⟨h, -⟩ | ⟨-, h⟩
  · omega
  · rw [e] at h; exact h
theorem w_ireturn {v : Int32} (hd : decode (mB y) pc = .ok (.ireturn, 1)) (hr : mR y = some .int) : wp d y Q pc L [.int v] w cn sn = Q (some (.int v)) w := by
  rw [wp_row hd]; dsimp only [wp1, n1]; rw [hr]; rfl
theorem w_zreturn {v : Int32} (hd : decode (mB y) pc = .ok (.ireturn, 1)) (hr : mR y = some .boolean) : wp d y Q pc L [.int v] w cn sn = (narrow .boolean (.int v) = .int v ∧ Q (some (.int v)) w) := by
  rw [wp_row hd]; dsimp only [wp1, n1]; rw [hr]; rfl
theorem w_creturn {v : Int32} (hd : decode (mB y) pc = .ok (.ireturn, 1)) (hr : mR y = some .char) : wp d y Q pc L [.int v] w cn sn = (narrow .char (.int v) = .int v ∧ Q (some (.int v)) w) := by
  rw [wp_row hd]; dsimp only [wp1, n1]; rw [hr]; rfl
theorem w_breturn {v : Int32} (hd : decode (mB y) pc = .ok (.ireturn, 1)) (hr : mR y = some .byte) : wp d y Q pc L [.int v] w cn sn = (narrow .byte (.int v) = .int v ∧ Q (some (.int v)) w) := by
  rw [wp_row hd]; dsimp only [wp1, n1]; rw [hr]; rfl
theorem w_lreturn {v : Int64} (hd : decode (mB y) pc = .ok (.lreturn, 1)) (hr : mR y = some .long) : wp d y Q pc L [.long v] w cn sn = Q (some (.long v)) w := by
  rw [wp_row hd]; exact tr_and hr
theorem w_areturn {v : Nat} {C : String} (hd : decode (mB y) pc = .ok (.areturn, 1)) (hr : mR y = some (.object C)) : wp d y Q pc L [.ref v] w cn sn = Q (some (.ref v)) w := by
  rw [wp_row hd]; dsimp only [wp1, n1]; rw [hr]; rfl
theorem w_areturnN {C : String} (hd : decode (mB y) pc = .ok (.areturn, 1)) (hr : mR y = some (.object C)) : wp d y Q pc L [.null] w cn sn = Q (some .null) w := by
  rw [wp_row hd]; dsimp only [wp1, n1]; rw [hr]; rfl
theorem w_return (hd : decode (mB y) pc = .ok (.return_, 1)) (hr : mR y = none) : wp d y Q pc L [] w cn sn = Q none w := by
  rw [wp_row hd]; exact tr_and hr
theorem ok_int {x : Int32} : okv .int (.int x) := ⟨rfl, rfl⟩
theorem ok_long {x : Int64} : okv .long (.long x) := ⟨rfl, rfl⟩
theorem ok_ref {C : String} {q : Nat} : okv (.object C) (.ref q) := ⟨rfl, rfl⟩
theorem ok_null {C : String} : okv (.object C) .null := ⟨rfl, rfl⟩
theorem ok_arr {t : FieldType} {q : Nat} : okv (.array t) (.ref q) := ⟨rfl, rfl⟩
theorem ok_z0 : okv .boolean (.int 0) := ⟨rfl, rfl⟩
theorem ok_z1 : okv .boolean (.int 1) := ⟨rfl, rfl⟩
end Rw
end
section
theorem d_24_0 : decode (mB 24) 0 = .ok (.aload_n 0, 1) := by decide +kernel
theorem s_24_0 {d : Nat} {Q : wQ} {L : List (Option Value)} {st : List Value} {w : aw} {cn sn : Nat} {v : Nat} : wp d 24 Q 0 (some (.ref v) :: L) st w cn sn = wp d 24 Q 1 (some (.ref v) :: L) (.ref v :: st) w cn sn := w_aload_n d_24_0 rfl
theorem d_24_1 : decode (mB 24) 1 = .ok (.invokespecial 3, 3) := by decide +kernel
theorem s_24_1 {d : Nat} {Q : wQ} {L : List (Option Value)} {st : List Value} {w : aw} {cn sn : Nat} {b : Nat} : wp d 24 Q 1 L (.ref b :: st) w cn sn = (catS st ≤ 8 ∧ wp d 24 Q 4 L st w cn sn) := w_objinit d_24_1 (by decide +kernel : cT (mO 24) 3 = some (3, 0))
theorem d_24_4 : decode (mB 24) 4 = .ok (.aload_n 0, 1) := by decide +kernel
theorem s_24_4 {d : Nat} {Q : wQ} {L : List (Option Value)} {st : List Value} {w : aw} {cn sn : Nat} {v : Nat} : wp d 24 Q 4 (some (.ref v) :: L) st w cn sn = wp d 24 Q 5 (some (.ref v) :: L) (.ref v :: st) w cn sn := w_aload_n d_24_4 rfl
theorem d_24_5 : decode (mB 24) 5 = .ok (.bipush 16, 2) := by decide +kernel
theorem s_24_5 {d : Nat} {Q : wQ} {L : List (Option Value)} {st : List Value} {w : aw} {cn sn : Nat}  : wp d 24 Q 5 L st w cn sn = wp d 24 Q 7 L (.int 16 :: st) w cn sn := w_bipush d_24_5 (by decide)
theorem d_24_7 : decode (mB 24) 7 = .ok (.newarray .int, 2) := by decide +kernel
theorem s_24_7 {d : Nat} {Q : wQ} {L : List (Option Value)} {st : List Value} {w : aw} {cn sn : Nat} {v : Int32} : wp d 24 Q 7 L (.int v :: st) w cn sn = (¬ v < 0 ∧ v.toNatClampNeg * 4 ≤ 536870912 ∧ cn + 1 ≤ 1 ∧ sn + v.toNatClampNeg ≤ 16 ∧ wp d 24 Q 9 L (.ref (zs w) :: st) (nw w 20 v.toNatClampNeg) (cn + 1) (sn + v.toNatClampNeg)) := w_newarray d_24_7 rfl (by decide +kernel) (by decide +kernel)
theorem d_24_9 : decode (mB 24) 9 = .ok (.putfield 9, 3) := by decide +kernel
theorem s_24_9 {d : Nat} {Q : wQ} {L : List (Option Value)} {st : List Value} {w : aw} {cn sn : Nat} {x : Nat} {a : Nat} : wp d 24 Q 9 L (.ref x :: .ref a :: st) w cn sn = (kd w a = 3 ∧ wp d 24 Q 12 L st (uF w 128 a (.ref x)) cn sn) := w_putfield d_24_9 (by decide +kernel : fT (mO 24) 9 = some (2, 0)) (by decide +kernel) ok_arr
theorem d_24_12 : decode (mB 24) 12 = .ok (.return_, 1) := by decide +kernel
theorem s_24_12 {d : Nat} {Q : wQ} {L : List (Option Value)} {w : aw} {cn sn : Nat}  : wp d 24 Q 12 L [] w cn sn = Q none w := w_return d_24_12 rfl
theorem d_25_0 : decode (mB 25) 0 = .ok (.aload_n 0, 1) := by decide +kernel
theorem s_25_0 {d : Nat} {Q : wQ} {L : List (Option Value)} {st : List Value} {w : aw} {cn sn : Nat} {v : Nat} : wp d 25 Q 0 (some (.ref v) :: L) st w cn sn = wp d 25 Q 1 (some (.ref v) :: L) (.ref v :: st) w cn sn := w_aload_n d_25_0 rfl
theorem d_25_1 : decode (mB 25) 1 = .ok (.getfield 15, 3) := by decide +kernel
theorem s_25_1 {d : Nat} {Q : wQ} {L : List (Option Value)} {st : List Value} {w : aw} {cn sn : Nat} {a : Nat} : wp d 25 Q 1 L (.ref a :: st) w cn sn = (kd w a = 3 ∧ wp d 25 Q 4 L (fd w 130 a :: st) w cn sn) := w_getfield d_25_1 (by decide +kernel : fT (mO 25) 15 = some (2, 2))
theorem d_25_4 : decode (mB 25) 4 = .ok (.bipush 16, 2) := by decide +kernel
theorem s_25_4 {d : Nat} {Q : wQ} {L : List (Option Value)} {st : List Value} {w : aw} {cn sn : Nat}  : wp d 25 Q 4 L st w cn sn = wp d 25 Q 6 L (.int 16 :: st) w cn sn := w_bipush d_25_4 (by decide)
theorem d_25_6 : decode (mB 25) 6 = .ok (.if_icmp .lt 5, 3) := by decide +kernel
theorem s_25_6 {d : Nat} {Q : wQ} {L : List (Option Value)} {st : List Value} {w : aw} {cn sn : Nat} {a b : Int32} : wp d 25 Q 6 L (.int b :: .int a :: st) w cn sn = ((a < b → wp d 25 Q 11 L st w cn sn) ∧ (¬ a < b → wp d 25 Q 9 L st w cn sn)) := w_iclt d_25_6 (by decide)
theorem d_25_9 : decode (mB 25) 9 = .ok (.iconst 0, 1) := by decide +kernel
theorem s_25_9 {d : Nat} {Q : wQ} {L : List (Option Value)} {st : List Value} {w : aw} {cn sn : Nat}  : wp d 25 Q 9 L st w cn sn = wp d 25 Q 10 L (.int 0 :: st) w cn sn := w_iconst d_25_9 (by decide)
theorem d_25_10 : decode (mB 25) 10 = .ok (.ireturn, 1) := by decide +kernel
theorem s_25_10 {d : Nat} {Q : wQ} {L : List (Option Value)} {w : aw} {cn sn : Nat} {v : Int32} : wp d 25 Q 10 L [.int v] w cn sn = (narrow .boolean (.int v) = .int v ∧ Q (some (.int v)) w) := w_zreturn d_25_10 rfl
theorem d_25_11 : decode (mB 25) 11 = .ok (.aload_n 0, 1) := by decide +kernel
theorem s_25_11 {d : Nat} {Q : wQ} {L : List (Option Value)} {st : List Value} {w : aw} {cn sn : Nat} {v : Nat} : wp d 25 Q 11 (some (.ref v) :: L) st w cn sn = wp d 25 Q 12 (some (.ref v) :: L) (.ref v :: st) w cn sn := w_aload_n d_25_11 rfl
theorem d_25_12 : decode (mB 25) 12 = .ok (.getfield 9, 3) := by decide +kernel
theorem s_25_12 {d : Nat} {Q : wQ} {L : List (Option Value)} {st : List Value} {w : aw} {cn sn : Nat} {a : Nat} : wp d 25 Q 12 L (.ref a :: st) w cn sn = (kd w a = 3 ∧ wp d 25 Q 15 L (fd w 128 a :: st) w cn sn) := w_getfield d_25_12 (by decide +kernel : fT (mO 25) 9 = some (2, 0))
theorem d_25_15 : decode (mB 25) 15 = .ok (.aload_n 0, 1) := by decide +kernel
theorem s_25_15 {d : Nat} {Q : wQ} {L : List (Option Value)} {st : List Value} {w : aw} {cn sn : Nat} {v : Nat} : wp d 25 Q 15 (some (.ref v) :: L) st w cn sn = wp d 25 Q 16 (some (.ref v) :: L) (.ref v :: st) w cn sn := w_aload_n d_25_15 rfl
theorem d_25_16 : decode (mB 25) 16 = .ok (.getfield 19, 3) := by decide +kernel
theorem s_25_16 {d : Nat} {Q : wQ} {L : List (Option Value)} {st : List Value} {w : aw} {cn sn : Nat} {a : Nat} : wp d 25 Q 16 L (.ref a :: st) w cn sn = (kd w a = 3 ∧ wp d 25 Q 19 L (fd w 129 a :: st) w cn sn) := w_getfield d_25_16 (by decide +kernel : fT (mO 25) 19 = some (2, 1))
theorem d_25_19 : decode (mB 25) 19 = .ok (.aload_n 0, 1) := by decide +kernel
theorem s_25_19 {d : Nat} {Q : wQ} {L : List (Option Value)} {st : List Value} {w : aw} {cn sn : Nat} {v : Nat} : wp d 25 Q 19 (some (.ref v) :: L) st w cn sn = wp d 25 Q 20 (some (.ref v) :: L) (.ref v :: st) w cn sn := w_aload_n d_25_19 rfl
theorem d_25_20 : decode (mB 25) 20 = .ok (.getfield 15, 3) := by decide +kernel
theorem s_25_20 {d : Nat} {Q : wQ} {L : List (Option Value)} {st : List Value} {w : aw} {cn sn : Nat} {a : Nat} : wp d 25 Q 20 L (.ref a :: st) w cn sn = (kd w a = 3 ∧ wp d 25 Q 23 L (fd w 130 a :: st) w cn sn) := w_getfield d_25_20 (by decide +kernel : fT (mO 25) 15 = some (2, 2))
theorem d_25_23 : decode (mB 25) 23 = .ok (.iadd, 1) := by decide +kernel
theorem s_25_23 {d : Nat} {Q : wQ} {L : List (Option Value)} {st : List Value} {w : aw} {cn sn : Nat} {a b : Int32} : wp d 25 Q 23 L (.int b :: .int a :: st) w cn sn = wp d 25 Q 24 L (.int (a + b) :: st) w cn sn := wp_row d_25_23 _ _ _ _ _
theorem d_25_24 : decode (mB 25) 24 = .ok (.bipush 16, 2) := by decide +kernel
theorem s_25_24 {d : Nat} {Q : wQ} {L : List (Option Value)} {st : List Value} {w : aw} {cn sn : Nat}  : wp d 25 Q 24 L st w cn sn = wp d 25 Q 26 L (.int 16 :: st) w cn sn := w_bipush d_25_24 (by decide)
theorem d_25_26 : decode (mB 25) 26 = .ok (.irem, 1) := by decide +kernel
theorem s_25_26 {d : Nat} {Q : wQ} {L : List (Option Value)} {st : List Value} {w : aw} {cn sn : Nat} {a b : Int32} : wp d 25 Q 26 L (.int b :: .int a :: st) w cn sn = (¬ b = 0 ∧ wp d 25 Q 27 L (.int (a - a / b * b) :: st) w cn sn) := wp_row d_25_26 _ _ _ _ _
theorem d_25_27 : decode (mB 25) 27 = .ok (.iload_n 1, 1) := by decide +kernel
theorem s_25_27 {d : Nat} {Q : wQ} {L : List (Option Value)} {st : List Value} {w : aw} {cn sn : Nat} {a0 : Option Value} {v : Int32} : wp d 25 Q 27 (a0 :: some (.int v) :: L) st w cn sn = wp d 25 Q 28 (a0 :: some (.int v) :: L) (.int v :: st) w cn sn := w_iload_n d_25_27 rfl
theorem d_25_28 : decode (mB 25) 28 = .ok (.iastore, 1) := by decide +kernel
theorem s_25_28 {d : Nat} {Q : wQ} {L : List (Option Value)} {st : List Value} {w : aw} {cn sn : Nat} {a : Nat} {i x : Int32} : wp d 25 Q 28 L (.int x :: .int i :: .ref a :: st) w cn sn = (kd w a = 20 ∧ inR i (ln w a) ∧ wp d 25 Q 29 L st (uA w a i.toNatClampNeg x) cn sn) := wp_row d_25_28 _ _ _ _ _
theorem d_25_29 : decode (mB 25) 29 = .ok (.aload_n 0, 1) := by decide +kernel
theorem s_25_29 {d : Nat} {Q : wQ} {L : List (Option Value)} {st : List Value} {w : aw} {cn sn : Nat} {v : Nat} : wp d 25 Q 29 (some (.ref v) :: L) st w cn sn = wp d 25 Q 30 (some (.ref v) :: L) (.ref v :: st) w cn sn := w_aload_n d_25_29 rfl
theorem d_25_30 : decode (mB 25) 30 = .ok (.dup, 1) := by decide +kernel
theorem s_25_30 {d : Nat} {Q : wQ} {L : List (Option Value)} {st : List Value} {w : aw} {cn sn : Nat} {v : Value} : wp d 25 Q 30 L (v :: st) w cn sn = (v.category = 1 ∧ wp d 25 Q 31 L (v :: v :: st) w cn sn) := wp_row d_25_30 _ _ _ _ _
theorem d_25_31 : decode (mB 25) 31 = .ok (.getfield 15, 3) := by decide +kernel
theorem s_25_31 {d : Nat} {Q : wQ} {L : List (Option Value)} {st : List Value} {w : aw} {cn sn : Nat} {a : Nat} : wp d 25 Q 31 L (.ref a :: st) w cn sn = (kd w a = 3 ∧ wp d 25 Q 34 L (fd w 130 a :: st) w cn sn) := w_getfield d_25_31 (by decide +kernel : fT (mO 25) 15 = some (2, 2))
theorem d_25_34 : decode (mB 25) 34 = .ok (.iconst 1, 1) := by decide +kernel
theorem s_25_34 {d : Nat} {Q : wQ} {L : List (Option Value)} {st : List Value} {w : aw} {cn sn : Nat}  : wp d 25 Q 34 L st w cn sn = wp d 25 Q 35 L (.int 1 :: st) w cn sn := w_iconst d_25_34 (by decide)
theorem d_25_35 : decode (mB 25) 35 = .ok (.iadd, 1) := by decide +kernel
theorem s_25_35 {d : Nat} {Q : wQ} {L : List (Option Value)} {st : List Value} {w : aw} {cn sn : Nat} {a b : Int32} : wp d 25 Q 35 L (.int b :: .int a :: st) w cn sn = wp d 25 Q 36 L (.int (a + b) :: st) w cn sn := wp_row d_25_35 _ _ _ _ _
theorem d_25_36 : decode (mB 25) 36 = .ok (.putfield 15, 3) := by decide +kernel
theorem s_25_36 {d : Nat} {Q : wQ} {L : List (Option Value)} {st : List Value} {w : aw} {cn sn : Nat} {x : Int32} {a : Nat} : wp d 25 Q 36 L (.int x :: .ref a :: st) w cn sn = (kd w a = 3 ∧ wp d 25 Q 39 L st (uF w 130 a (.int x)) cn sn) := w_putfield d_25_36 (by decide +kernel : fT (mO 25) 15 = some (2, 2)) (by decide +kernel) ok_int
theorem d_25_39 : decode (mB 25) 39 = .ok (.iconst 1, 1) := by decide +kernel
theorem s_25_39 {d : Nat} {Q : wQ} {L : List (Option Value)} {st : List Value} {w : aw} {cn sn : Nat}  : wp d 25 Q 39 L st w cn sn = wp d 25 Q 40 L (.int 1 :: st) w cn sn := w_iconst d_25_39 (by decide)
theorem d_25_40 : decode (mB 25) 40 = .ok (.ireturn, 1) := by decide +kernel
theorem s_25_40 {d : Nat} {Q : wQ} {L : List (Option Value)} {w : aw} {cn sn : Nat} {v : Int32} : wp d 25 Q 40 L [.int v] w cn sn = (narrow .boolean (.int v) = .int v ∧ Q (some (.int v)) w) := w_zreturn d_25_40 rfl
theorem d_26_0 : decode (mB 26) 0 = .ok (.aload_n 0, 1) := by decide +kernel
theorem s_26_0 {d : Nat} {Q : wQ} {L : List (Option Value)} {st : List Value} {w : aw} {cn sn : Nat} {v : Nat} : wp d 26 Q 0 (some (.ref v) :: L) st w cn sn = wp d 26 Q 1 (some (.ref v) :: L) (.ref v :: st) w cn sn := w_aload_n d_26_0 rfl
theorem d_26_1 : decode (mB 26) 1 = .ok (.iconst 0, 1) := by decide +kernel
theorem s_26_1 {d : Nat} {Q : wQ} {L : List (Option Value)} {st : List Value} {w : aw} {cn sn : Nat}  : wp d 26 Q 1 L st w cn sn = wp d 26 Q 2 L (.int 0 :: st) w cn sn := w_iconst d_26_1 (by decide)
theorem d_26_2 : decode (mB 26) 2 = .ok (.invokevirtual 22, 3) := by decide +kernel
theorem s_26_2 {d : Nat} {Q : wQ} {L : List (Option Value)} {st : List Value} {w : aw} {cn sn : Nat} {v0 : Value} {b : Nat} : wp d 26 Q 2 L (v0 :: .ref b :: st) w cn sn = (kd w b = 3 ∧ catS st ≤ 8 ∧ wpD d 27 [.ref b, v0] w (fun v w' => wp d 26 Q 5 L (v.toList ++ st) w' cn sn)) := w_virtual (As := [v0]) d_26_2 (by decide +kernel : cT (mO 26) 22 = some (0, 27)) rfl (by decide +kernel) rfl (by decide +kernel) rfl
theorem d_26_5 : decode (mB 26) 5 = .ok (.istore_n 1, 1) := by decide +kernel
theorem s_26_5 {d : Nat} {Q : wQ} {L : List (Option Value)} {st : List Value} {w : aw} {cn sn : Nat} {a0 a1 : Option Value} {v : Int32} : wp d 26 Q 5 (a0 :: a1 :: L) (.int v :: st) w cn sn = wp d 26 Q 6 (clr a0 :: some (.int v) :: L) st w cn sn := w_istore_n d_26_5 (by simp) rfl
theorem d_26_6 : decode (mB 26) 6 = .ok (.iload_n 1, 1) := by decide +kernel
theorem s_26_6 {d : Nat} {Q : wQ} {L : List (Option Value)} {st : List Value} {w : aw} {cn sn : Nat} {a0 : Option Value} {v : Int32} : wp d 26 Q 6 (a0 :: some (.int v) :: L) st w cn sn = wp d 26 Q 7 (a0 :: some (.int v) :: L) (.int v :: st) w cn sn := w_iload_n d_26_6 rfl
theorem d_26_7 : decode (mB 26) 7 = .ok (.ifCond .lt 26, 3) := by decide +kernel
theorem s_26_7 {d : Nat} {Q : wQ} {L : List (Option Value)} {st : List Value} {w : aw} {cn sn : Nat} {x : Int32} : wp d 26 Q 7 L (.int x :: st) w cn sn = ((x < 0 → wp d 26 Q 33 L st w cn sn) ∧ (¬ x < 0 → wp d 26 Q 10 L st w cn sn)) := w_iflt d_26_7 (by decide)
theorem d_26_10 : decode (mB 26) 10 = .ok (.aload_n 0, 1) := by decide +kernel
theorem s_26_10 {d : Nat} {Q : wQ} {L : List (Option Value)} {st : List Value} {w : aw} {cn sn : Nat} {v : Nat} : wp d 26 Q 10 (some (.ref v) :: L) st w cn sn = wp d 26 Q 11 (some (.ref v) :: L) (.ref v :: st) w cn sn := w_aload_n d_26_10 rfl
theorem d_26_11 : decode (mB 26) 11 = .ok (.aload_n 0, 1) := by decide +kernel
theorem s_26_11 {d : Nat} {Q : wQ} {L : List (Option Value)} {st : List Value} {w : aw} {cn sn : Nat} {v : Nat} : wp d 26 Q 11 (some (.ref v) :: L) st w cn sn = wp d 26 Q 12 (some (.ref v) :: L) (.ref v :: st) w cn sn := w_aload_n d_26_11 rfl
theorem d_26_12 : decode (mB 26) 12 = .ok (.getfield 19, 3) := by decide +kernel
theorem s_26_12 {d : Nat} {Q : wQ} {L : List (Option Value)} {st : List Value} {w : aw} {cn sn : Nat} {a : Nat} : wp d 26 Q 12 L (.ref a :: st) w cn sn = (kd w a = 3 ∧ wp d 26 Q 15 L (fd w 129 a :: st) w cn sn) := w_getfield d_26_12 (by decide +kernel : fT (mO 26) 19 = some (2, 1))
theorem d_26_15 : decode (mB 26) 15 = .ok (.iconst 1, 1) := by decide +kernel
theorem s_26_15 {d : Nat} {Q : wQ} {L : List (Option Value)} {st : List Value} {w : aw} {cn sn : Nat}  : wp d 26 Q 15 L st w cn sn = wp d 26 Q 16 L (.int 1 :: st) w cn sn := w_iconst d_26_15 (by decide)
theorem d_26_16 : decode (mB 26) 16 = .ok (.iadd, 1) := by decide +kernel
theorem s_26_16 {d : Nat} {Q : wQ} {L : List (Option Value)} {st : List Value} {w : aw} {cn sn : Nat} {a b : Int32} : wp d 26 Q 16 L (.int b :: .int a :: st) w cn sn = wp d 26 Q 17 L (.int (a + b) :: st) w cn sn := wp_row d_26_16 _ _ _ _ _
theorem d_26_17 : decode (mB 26) 17 = .ok (.bipush 16, 2) := by decide +kernel
theorem s_26_17 {d : Nat} {Q : wQ} {L : List (Option Value)} {st : List Value} {w : aw} {cn sn : Nat}  : wp d 26 Q 17 L st w cn sn = wp d 26 Q 19 L (.int 16 :: st) w cn sn := w_bipush d_26_17 (by decide)
theorem d_26_19 : decode (mB 26) 19 = .ok (.irem, 1) := by decide +kernel
theorem s_26_19 {d : Nat} {Q : wQ} {L : List (Option Value)} {st : List Value} {w : aw} {cn sn : Nat} {a b : Int32} : wp d 26 Q 19 L (.int b :: .int a :: st) w cn sn = (¬ b = 0 ∧ wp d 26 Q 20 L (.int (a - a / b * b) :: st) w cn sn) := wp_row d_26_19 _ _ _ _ _
theorem d_26_20 : decode (mB 26) 20 = .ok (.putfield 19, 3) := by decide +kernel
theorem s_26_20 {d : Nat} {Q : wQ} {L : List (Option Value)} {st : List Value} {w : aw} {cn sn : Nat} {x : Int32} {a : Nat} : wp d 26 Q 20 L (.int x :: .ref a :: st) w cn sn = (kd w a = 3 ∧ wp d 26 Q 23 L st (uF w 129 a (.int x)) cn sn) := w_putfield d_26_20 (by decide +kernel : fT (mO 26) 19 = some (2, 1)) (by decide +kernel) ok_int
theorem d_26_23 : decode (mB 26) 23 = .ok (.aload_n 0, 1) := by decide +kernel
theorem s_26_23 {d : Nat} {Q : wQ} {L : List (Option Value)} {st : List Value} {w : aw} {cn sn : Nat} {v : Nat} : wp d 26 Q 23 (some (.ref v) :: L) st w cn sn = wp d 26 Q 24 (some (.ref v) :: L) (.ref v :: st) w cn sn := w_aload_n d_26_23 rfl
theorem d_26_24 : decode (mB 26) 24 = .ok (.dup, 1) := by decide +kernel
theorem s_26_24 {d : Nat} {Q : wQ} {L : List (Option Value)} {st : List Value} {w : aw} {cn sn : Nat} {v : Value} : wp d 26 Q 24 L (v :: st) w cn sn = (v.category = 1 ∧ wp d 26 Q 25 L (v :: v :: st) w cn sn) := wp_row d_26_24 _ _ _ _ _
theorem d_26_25 : decode (mB 26) 25 = .ok (.getfield 15, 3) := by decide +kernel
theorem s_26_25 {d : Nat} {Q : wQ} {L : List (Option Value)} {st : List Value} {w : aw} {cn sn : Nat} {a : Nat} : wp d 26 Q 25 L (.ref a :: st) w cn sn = (kd w a = 3 ∧ wp d 26 Q 28 L (fd w 130 a :: st) w cn sn) := w_getfield d_26_25 (by decide +kernel : fT (mO 26) 15 = some (2, 2))
theorem d_26_28 : decode (mB 26) 28 = .ok (.iconst 1, 1) := by decide +kernel
theorem s_26_28 {d : Nat} {Q : wQ} {L : List (Option Value)} {st : List Value} {w : aw} {cn sn : Nat}  : wp d 26 Q 28 L st w cn sn = wp d 26 Q 29 L (.int 1 :: st) w cn sn := w_iconst d_26_28 (by decide)
theorem d_26_29 : decode (mB 26) 29 = .ok (.isub, 1) := by decide +kernel
theorem s_26_29 {d : Nat} {Q : wQ} {L : List (Option Value)} {st : List Value} {w : aw} {cn sn : Nat} {a b : Int32} : wp d 26 Q 29 L (.int b :: .int a :: st) w cn sn = wp d 26 Q 30 L (.int (a - b) :: st) w cn sn := wp_row d_26_29 _ _ _ _ _
theorem d_26_30 : decode (mB 26) 30 = .ok (.putfield 15, 3) := by decide +kernel
theorem s_26_30 {d : Nat} {Q : wQ} {L : List (Option Value)} {st : List Value} {w : aw} {cn sn : Nat} {x : Int32} {a : Nat} : wp d 26 Q 30 L (.int x :: .ref a :: st) w cn sn = (kd w a = 3 ∧ wp d 26 Q 33 L st (uF w 130 a (.int x)) cn sn) := w_putfield d_26_30 (by decide +kernel : fT (mO 26) 15 = some (2, 2)) (by decide +kernel) ok_int
theorem d_26_33 : decode (mB 26) 33 = .ok (.iload_n 1, 1) := by decide +kernel
theorem s_26_33 {d : Nat} {Q : wQ} {L : List (Option Value)} {st : List Value} {w : aw} {cn sn : Nat} {a0 : Option Value} {v : Int32} : wp d 26 Q 33 (a0 :: some (.int v) :: L) st w cn sn = wp d 26 Q 34 (a0 :: some (.int v) :: L) (.int v :: st) w cn sn := w_iload_n d_26_33 rfl
theorem d_26_34 : decode (mB 26) 34 = .ok (.ireturn, 1) := by decide +kernel
theorem s_26_34 {d : Nat} {Q : wQ} {L : List (Option Value)} {w : aw} {cn sn : Nat} {v : Int32} : wp d 26 Q 34 L [.int v] w cn sn = Q (some (.int v)) w := w_ireturn d_26_34 rfl
theorem d_27_0 : decode (mB 27) 0 = .ok (.iload_n 1, 1) := by decide +kernel
theorem s_27_0 {d : Nat} {Q : wQ} {L : List (Option Value)} {st : List Value} {w : aw} {cn sn : Nat} {a0 : Option Value} {v : Int32} : wp d 27 Q 0 (a0 :: some (.int v) :: L) st w cn sn = wp d 27 Q 1 (a0 :: some (.int v) :: L) (.int v :: st) w cn sn := w_iload_n d_27_0 rfl
theorem d_27_1 : decode (mB 27) 1 = .ok (.ifCond .lt 11, 3) := by decide +kernel
theorem s_27_1 {d : Nat} {Q : wQ} {L : List (Option Value)} {st : List Value} {w : aw} {cn sn : Nat} {x : Int32} : wp d 27 Q 1 L (.int x :: st) w cn sn = ((x < 0 → wp d 27 Q 12 L st w cn sn) ∧ (¬ x < 0 → wp d 27 Q 4 L st w cn sn)) := w_iflt d_27_1 (by decide)
theorem d_27_4 : decode (mB 27) 4 = .ok (.iload_n 1, 1) := by decide +kernel
theorem s_27_4 {d : Nat} {Q : wQ} {L : List (Option Value)} {st : List Value} {w : aw} {cn sn : Nat} {a0 : Option Value} {v : Int32} : wp d 27 Q 4 (a0 :: some (.int v) :: L) st w cn sn = wp d 27 Q 5 (a0 :: some (.int v) :: L) (.int v :: st) w cn sn := w_iload_n d_27_4 rfl
theorem d_27_5 : decode (mB 27) 5 = .ok (.aload_n 0, 1) := by decide +kernel
theorem s_27_5 {d : Nat} {Q : wQ} {L : List (Option Value)} {st : List Value} {w : aw} {cn sn : Nat} {v : Nat} : wp d 27 Q 5 (some (.ref v) :: L) st w cn sn = wp d 27 Q 6 (some (.ref v) :: L) (.ref v :: st) w cn sn := w_aload_n d_27_5 rfl
theorem d_27_6 : decode (mB 27) 6 = .ok (.getfield 15, 3) := by decide +kernel
theorem s_27_6 {d : Nat} {Q : wQ} {L : List (Option Value)} {st : List Value} {w : aw} {cn sn : Nat} {a : Nat} : wp d 27 Q 6 L (.ref a :: st) w cn sn = (kd w a = 3 ∧ wp d 27 Q 9 L (fd w 130 a :: st) w cn sn) := w_getfield d_27_6 (by decide +kernel : fT (mO 27) 15 = some (2, 2))
theorem d_27_9 : decode (mB 27) 9 = .ok (.if_icmp .lt 7, 3) := by decide +kernel
theorem s_27_9 {d : Nat} {Q : wQ} {L : List (Option Value)} {st : List Value} {w : aw} {cn sn : Nat} {a b : Int32} : wp d 27 Q 9 L (.int b :: .int a :: st) w cn sn = ((a < b → wp d 27 Q 16 L st w cn sn) ∧ (¬ a < b → wp d 27 Q 12 L st w cn sn)) := w_iclt d_27_9 (by decide)
theorem d_27_12 : decode (mB 27) 12 = .ok (.iconst (-1), 1) := by decide +kernel
theorem s_27_12 {d : Nat} {Q : wQ} {L : List (Option Value)} {st : List Value} {w : aw} {cn sn : Nat}  : wp d 27 Q 12 L st w cn sn = wp d 27 Q 13 L (.int (-1) :: st) w cn sn := w_iconst d_27_12 (by decide)
theorem d_27_13 : decode (mB 27) 13 = .ok (.goto 17, 3) := by decide +kernel
theorem s_27_13 {d : Nat} {Q : wQ} {L : List (Option Value)} {st : List Value} {w : aw} {cn sn : Nat}  : wp d 27 Q 13 L st w cn sn = wp d 27 Q 30 L st w cn sn := w_goto d_27_13 (by decide)
theorem d_27_16 : decode (mB 27) 16 = .ok (.aload_n 0, 1) := by decide +kernel
theorem s_27_16 {d : Nat} {Q : wQ} {L : List (Option Value)} {st : List Value} {w : aw} {cn sn : Nat} {v : Nat} : wp d 27 Q 16 (some (.ref v) :: L) st w cn sn = wp d 27 Q 17 (some (.ref v) :: L) (.ref v :: st) w cn sn := w_aload_n d_27_16 rfl
theorem d_27_17 : decode (mB 27) 17 = .ok (.getfield 9, 3) := by decide +kernel
theorem s_27_17 {d : Nat} {Q : wQ} {L : List (Option Value)} {st : List Value} {w : aw} {cn sn : Nat} {a : Nat} : wp d 27 Q 17 L (.ref a :: st) w cn sn = (kd w a = 3 ∧ wp d 27 Q 20 L (fd w 128 a :: st) w cn sn) := w_getfield d_27_17 (by decide +kernel : fT (mO 27) 9 = some (2, 0))
theorem d_27_20 : decode (mB 27) 20 = .ok (.aload_n 0, 1) := by decide +kernel
theorem s_27_20 {d : Nat} {Q : wQ} {L : List (Option Value)} {st : List Value} {w : aw} {cn sn : Nat} {v : Nat} : wp d 27 Q 20 (some (.ref v) :: L) st w cn sn = wp d 27 Q 21 (some (.ref v) :: L) (.ref v :: st) w cn sn := w_aload_n d_27_20 rfl
theorem d_27_21 : decode (mB 27) 21 = .ok (.getfield 19, 3) := by decide +kernel
theorem s_27_21 {d : Nat} {Q : wQ} {L : List (Option Value)} {st : List Value} {w : aw} {cn sn : Nat} {a : Nat} : wp d 27 Q 21 L (.ref a :: st) w cn sn = (kd w a = 3 ∧ wp d 27 Q 24 L (fd w 129 a :: st) w cn sn) := w_getfield d_27_21 (by decide +kernel : fT (mO 27) 19 = some (2, 1))
theorem d_27_24 : decode (mB 27) 24 = .ok (.iload_n 1, 1) := by decide +kernel
theorem s_27_24 {d : Nat} {Q : wQ} {L : List (Option Value)} {st : List Value} {w : aw} {cn sn : Nat} {a0 : Option Value} {v : Int32} : wp d 27 Q 24 (a0 :: some (.int v) :: L) st w cn sn = wp d 27 Q 25 (a0 :: some (.int v) :: L) (.int v :: st) w cn sn := w_iload_n d_27_24 rfl
theorem d_27_25 : decode (mB 27) 25 = .ok (.iadd, 1) := by decide +kernel
theorem s_27_25 {d : Nat} {Q : wQ} {L : List (Option Value)} {st : List Value} {w : aw} {cn sn : Nat} {a b : Int32} : wp d 27 Q 25 L (.int b :: .int a :: st) w cn sn = wp d 27 Q 26 L (.int (a + b) :: st) w cn sn := wp_row d_27_25 _ _ _ _ _
theorem d_27_26 : decode (mB 27) 26 = .ok (.bipush 16, 2) := by decide +kernel
theorem s_27_26 {d : Nat} {Q : wQ} {L : List (Option Value)} {st : List Value} {w : aw} {cn sn : Nat}  : wp d 27 Q 26 L st w cn sn = wp d 27 Q 28 L (.int 16 :: st) w cn sn := w_bipush d_27_26 (by decide)
theorem d_27_28 : decode (mB 27) 28 = .ok (.irem, 1) := by decide +kernel
theorem s_27_28 {d : Nat} {Q : wQ} {L : List (Option Value)} {st : List Value} {w : aw} {cn sn : Nat} {a b : Int32} : wp d 27 Q 28 L (.int b :: .int a :: st) w cn sn = (¬ b = 0 ∧ wp d 27 Q 29 L (.int (a - a / b * b) :: st) w cn sn) := wp_row d_27_28 _ _ _ _ _
theorem d_27_29 : decode (mB 27) 29 = .ok (.iaload, 1) := by decide +kernel
theorem s_27_29 {d : Nat} {Q : wQ} {L : List (Option Value)} {st : List Value} {w : aw} {cn sn : Nat} {a : Nat} {i : Int32} : wp d 27 Q 29 L (.int i :: .ref a :: st) w cn sn = ((kd w a = 20 ∨ kd w a = 30) ∧ inR i (ln w a) ∧ wp d 27 Q 30 L (.int (ai w a i.toNatClampNeg) :: st) w cn sn) := wp_row d_27_29 _ _ _ _ _
theorem d_27_30 : decode (mB 27) 30 = .ok (.ireturn, 1) := by decide +kernel
theorem s_27_30 {d : Nat} {Q : wQ} {L : List (Option Value)} {w : aw} {cn sn : Nat} {v : Int32} : wp d 27 Q 30 L [.int v] w cn sn = Q (some (.int v)) w := w_ireturn d_27_30 rfl
end
