-- ===== PART A: goes FIRST, ahead of the names: the tables' words, and 'selects' of the private methods out of them =====
/-- a private method of a class that the tables say can be made, by its rows of tables_1 -/
def lw_okq (q : MethodName × Nat) : Prop := (q.1.cls ≠ "java/lang/invoke/MethodHandle" ∧ q.1.cls ≠ "java/lang/invoke/VarHandle") ∧ Cond.instantiable q.1.cls q.2 ∈ tables_1 ∧ Cond.privateMethod q.1 ∈ tables_1 ∧ Cond.instanceMethod q.1 ∈ tables_1
theorem lw_p0 : lw_okq (⟨"LineMonitor$Names", "addAll", "(Ljava/lang/String;[I)V"⟩, 3) := ⟨⟨by decide +kernel, by decide +kernel⟩, List.mem_of_getElem? (i := 48) (by decide +kernel), List.mem_of_getElem? (i := 57) (by decide +kernel), List.mem_of_getElem? (i := 58) (by decide +kernel)⟩
theorem lw_p1 : lw_okq (⟨"LineMonitor$Names", "add", "(JI)V"⟩, 3) := ⟨⟨by decide +kernel, by decide +kernel⟩, List.mem_of_getElem? (i := 48) (by decide +kernel), List.mem_of_getElem? (i := 109) (by decide +kernel), List.mem_of_getElem? (i := 110) (by decide +kernel)⟩
theorem lw_p2 : lw_okq (⟨"LineMonitor$Reader", "behindBlanks", "(I)I"⟩, 13) := ⟨⟨by decide +kernel, by decide +kernel⟩, List.mem_of_getElem? (i := 137) (by decide +kernel), List.mem_of_getElem? (i := 446) (by decide +kernel), List.mem_of_getElem? (i := 447) (by decide +kernel)⟩
theorem lw_p3 : lw_okq (⟨"LineMonitor$Reader", "look", "(I)I"⟩, 13) := ⟨⟨by decide +kernel, by decide +kernel⟩, List.mem_of_getElem? (i := 137) (by decide +kernel), List.mem_of_getElem? (i := 450) (by decide +kernel), List.mem_of_getElem? (i := 451) (by decide +kernel)⟩
theorem lw_p4 : lw_okq (⟨"LineMonitor$Assembler", "doFirst", "(II)I"⟩, 11) := ⟨⟨by decide +kernel, by decide +kernel⟩, List.mem_of_getElem? (i := 42) (by decide +kernel), List.mem_of_getElem? (i := 454) (by decide +kernel), List.mem_of_getElem? (i := 455) (by decide +kernel)⟩
theorem lw_p5 : lw_okq (⟨"LineMonitor$Assembler", "skipLabels", "()V"⟩, 11) := ⟨⟨by decide +kernel, by decide +kernel⟩, List.mem_of_getElem? (i := 42) (by decide +kernel), List.mem_of_getElem? (i := 458) (by decide +kernel), List.mem_of_getElem? (i := 459) (by decide +kernel)⟩
theorem lw_p6 : lw_okq (⟨"LineMonitor$Reader", "behindWord", "(I)I"⟩, 13) := ⟨⟨by decide +kernel, by decide +kernel⟩, List.mem_of_getElem? (i := 137) (by decide +kernel), List.mem_of_getElem? (i := 466) (by decide +kernel), List.mem_of_getElem? (i := 467) (by decide +kernel)⟩
theorem lw_p7 : lw_okq (⟨"LineMonitor$Reader", "keyOf", "(II)J"⟩, 13) := ⟨⟨by decide +kernel, by decide +kernel⟩, List.mem_of_getElem? (i := 137) (by decide +kernel), List.mem_of_getElem? (i := 476) (by decide +kernel), List.mem_of_getElem? (i := 477) (by decide +kernel)⟩
theorem lw_p8 : lw_okq (⟨"LineMonitor$Reader", "readExpression", "()I"⟩, 13) := ⟨⟨by decide +kernel, by decide +kernel⟩, List.mem_of_getElem? (i := 137) (by decide +kernel), List.mem_of_getElem? (i := 489) (by decide +kernel), List.mem_of_getElem? (i := 490) (by decide +kernel)⟩
theorem lw_p9 : lw_okq (⟨"LineMonitor$Reader", "readTerm", "()I"⟩, 13) := ⟨⟨by decide +kernel, by decide +kernel⟩, List.mem_of_getElem? (i := 137) (by decide +kernel), List.mem_of_getElem? (i := 493) (by decide +kernel), List.mem_of_getElem? (i := 494) (by decide +kernel)⟩
theorem lw_p10 : lw_okq (⟨"LineMonitor$Reader", "readNumber", "(I)I"⟩, 13) := ⟨⟨by decide +kernel, by decide +kernel⟩, List.mem_of_getElem? (i := 137) (by decide +kernel), List.mem_of_getElem? (i := 497) (by decide +kernel), List.mem_of_getElem? (i := 498) (by decide +kernel)⟩
theorem lw_p11 : lw_okq (⟨"LineMonitor$Reader", "readMarksAhead", "()V"⟩, 13) := ⟨⟨by decide +kernel, by decide +kernel⟩, List.mem_of_getElem? (i := 137) (by decide +kernel), List.mem_of_getElem? (i := 506) (by decide +kernel), List.mem_of_getElem? (i := 507) (by decide +kernel)⟩
theorem lw_p12 : lw_okq (⟨"LineMonitor$Reader", "readMarkBehind", "()V"⟩, 13) := ⟨⟨by decide +kernel, by decide +kernel⟩, List.mem_of_getElem? (i := 137) (by decide +kernel), List.mem_of_getElem? (i := 513) (by decide +kernel), List.mem_of_getElem? (i := 514) (by decide +kernel)⟩
theorem lw_p13 : lw_okq (⟨"LineMonitor$Reader", "hasMore", "()Z"⟩, 13) := ⟨⟨by decide +kernel, by decide +kernel⟩, List.mem_of_getElem? (i := 137) (by decide +kernel), List.mem_of_getElem? (i := 517) (by decide +kernel), List.mem_of_getElem? (i := 518) (by decide +kernel)⟩
theorem lw_p14 : lw_okq (⟨"LineMonitor$Assembler", "tellLabels", "()I"⟩, 11) := ⟨⟨by decide +kernel, by decide +kernel⟩, List.mem_of_getElem? (i := 42) (by decide +kernel), List.mem_of_getElem? (i := 521) (by decide +kernel), List.mem_of_getElem? (i := 522) (by decide +kernel)⟩
theorem lw_p15 : lw_okq (⟨"LineMonitor$Assembler", "doSecond", "()I"⟩, 11) := ⟨⟨by decide +kernel, by decide +kernel⟩, List.mem_of_getElem? (i := 42) (by decide +kernel), List.mem_of_getElem? (i := 529) (by decide +kernel), List.mem_of_getElem? (i := 530) (by decide +kernel)⟩
def lw_privs_1 : List (MethodName × Nat) := [(⟨"LineMonitor$Names", "addAll", "(Ljava/lang/String;[I)V"⟩, 3), (⟨"LineMonitor$Names", "add", "(JI)V"⟩, 3), (⟨"LineMonitor$Reader", "behindBlanks", "(I)I"⟩, 13), (⟨"LineMonitor$Reader", "look", "(I)I"⟩, 13), (⟨"LineMonitor$Assembler", "doFirst", "(II)I"⟩, 11), (⟨"LineMonitor$Assembler", "skipLabels", "()V"⟩, 11), (⟨"LineMonitor$Reader", "behindWord", "(I)I"⟩, 13), (⟨"LineMonitor$Reader", "keyOf", "(II)J"⟩, 13), (⟨"LineMonitor$Reader", "readExpression", "()I"⟩, 13), (⟨"LineMonitor$Reader", "readTerm", "()I"⟩, 13), (⟨"LineMonitor$Reader", "readNumber", "(I)I"⟩, 13), (⟨"LineMonitor$Reader", "readMarksAhead", "()V"⟩, 13), (⟨"LineMonitor$Reader", "readMarkBehind", "()V"⟩, 13), (⟨"LineMonitor$Reader", "hasMore", "()Z"⟩, 13), (⟨"LineMonitor$Assembler", "tellLabels", "()I"⟩, 11), (⟨"LineMonitor$Assembler", "doSecond", "()I"⟩, 11)]
theorem lw_r1 : ∀ q ∈ lw_privs_1, lw_okq q := List.forall_mem_cons.mpr ⟨lw_p0, List.forall_mem_cons.mpr ⟨lw_p1, List.forall_mem_cons.mpr ⟨lw_p2, List.forall_mem_cons.mpr ⟨lw_p3, List.forall_mem_cons.mpr ⟨lw_p4, List.forall_mem_cons.mpr ⟨lw_p5, List.forall_mem_cons.mpr ⟨lw_p6, List.forall_mem_cons.mpr ⟨lw_p7, List.forall_mem_cons.mpr ⟨lw_p8, List.forall_mem_cons.mpr ⟨lw_p9, List.forall_mem_cons.mpr ⟨lw_p10, List.forall_mem_cons.mpr ⟨lw_p11, List.forall_mem_cons.mpr ⟨lw_p12, List.forall_mem_cons.mpr ⟨lw_p13, List.forall_mem_cons.mpr ⟨lw_p14, List.forall_mem_cons.mpr ⟨lw_p15, fun _ h => absurd h List.not_mem_nil⟩⟩⟩⟩⟩⟩⟩⟩⟩⟩⟩⟩⟩⟩⟩⟩
theorem lw_p16 : lw_okq (⟨"LineMonitor$Assembler", "putMemory", "()I"⟩, 11) := ⟨⟨by decide +kernel, by decide +kernel⟩, List.mem_of_getElem? (i := 42) (by decide +kernel), List.mem_of_getElem? (i := 533) (by decide +kernel), List.mem_of_getElem? (i := 534) (by decide +kernel)⟩
theorem lw_p17 : lw_okq (⟨"LineMonitor$Assembler", "literalFor", "(I)I"⟩, 11) := ⟨⟨by decide +kernel, by decide +kernel⟩, List.mem_of_getElem? (i := 42) (by decide +kernel), List.mem_of_getElem? (i := 537) (by decide +kernel), List.mem_of_getElem? (i := 538) (by decide +kernel)⟩
theorem lw_p18 : lw_okq (⟨"LineMonitor$Assembler", "put", "(II)Z"⟩, 11) := ⟨⟨by decide +kernel, by decide +kernel⟩, List.mem_of_getElem? (i := 42) (by decide +kernel), List.mem_of_getElem? (i := 541) (by decide +kernel), List.mem_of_getElem? (i := 542) (by decide +kernel)⟩
theorem lw_p19 : lw_okq (⟨"LineMonitor$Assembler", "putNext", "(I)I"⟩, 11) := ⟨⟨by decide +kernel, by decide +kernel⟩, List.mem_of_getElem? (i := 42) (by decide +kernel), List.mem_of_getElem? (i := 545) (by decide +kernel), List.mem_of_getElem? (i := 546) (by decide +kernel)⟩
theorem lw_p20 : lw_okq (⟨"LineMonitor$House", "swapIn", "(LLineMonitor$User;)V"⟩, 15) := ⟨⟨by decide +kernel, by decide +kernel⟩, List.mem_of_getElem? (i := 228) (by decide +kernel), List.mem_of_getElem? (i := 595) (by decide +kernel), List.mem_of_getElem? (i := 596) (by decide +kernel)⟩
theorem lw_p21 : lw_okq (⟨"LineMonitor$House", "doRunnersInstruction", "(LLineMonitor$User;)V"⟩, 15) := ⟨⟨by decide +kernel, by decide +kernel⟩, List.mem_of_getElem? (i := 228) (by decide +kernel), List.mem_of_getElem? (i := 615) (by decide +kernel), List.mem_of_getElem? (i := 616) (by decide +kernel)⟩
theorem lw_p22 : lw_okq (⟨"LineMonitor$User", "skip", "()V"⟩, 17) := ⟨⟨by decide +kernel, by decide +kernel⟩, List.mem_of_getElem? (i := 235) (by decide +kernel), List.mem_of_getElem? (i := 623) (by decide +kernel), List.mem_of_getElem? (i := 624) (by decide +kernel)⟩
theorem lw_p23 : lw_okq (⟨"LineMonitor$User", "refer", "(II)V"⟩, 17) := ⟨⟨by decide +kernel, by decide +kernel⟩, List.mem_of_getElem? (i := 235) (by decide +kernel), List.mem_of_getElem? (i := 627) (by decide +kernel), List.mem_of_getElem? (i := 628) (by decide +kernel)⟩
theorem lw_p24 : lw_okq (⟨"LineMonitor$User", "addressIn", "(II)I"⟩, 17) := ⟨⟨by decide +kernel, by decide +kernel⟩, List.mem_of_getElem? (i := 235) (by decide +kernel), List.mem_of_getElem? (i := 631) (by decide +kernel), List.mem_of_getElem? (i := 632) (by decide +kernel)⟩
theorem lw_p25 : lw_okq (⟨"LineMonitor$User", "add", "(I)V"⟩, 17) := ⟨⟨by decide +kernel, by decide +kernel⟩, List.mem_of_getElem? (i := 235) (by decide +kernel), List.mem_of_getElem? (i := 635) (by decide +kernel), List.mem_of_getElem? (i := 636) (by decide +kernel)⟩
theorem lw_p26 : lw_okq (⟨"LineMonitor$User", "useDevice", "(II)V"⟩, 17) := ⟨⟨by decide +kernel, by decide +kernel⟩, List.mem_of_getElem? (i := 235) (by decide +kernel), List.mem_of_getElem? (i := 639) (by decide +kernel), List.mem_of_getElem? (i := 640) (by decide +kernel)⟩
theorem lw_p27 : lw_okq (⟨"LineMonitor$User", "readKey", "(I)V"⟩, 17) := ⟨⟨by decide +kernel, by decide +kernel⟩, List.mem_of_getElem? (i := 235) (by decide +kernel), List.mem_of_getElem? (i := 643) (by decide +kernel), List.mem_of_getElem? (i := 644) (by decide +kernel)⟩
theorem lw_p28 : lw_okq (⟨"LineMonitor$User", "waitAt", "(II)V"⟩, 17) := ⟨⟨by decide +kernel, by decide +kernel⟩, List.mem_of_getElem? (i := 235) (by decide +kernel), List.mem_of_getElem? (i := 651) (by decide +kernel), List.mem_of_getElem? (i := 652) (by decide +kernel)⟩
theorem lw_p29 : lw_okq (⟨"LineMonitor$User", "fallAsleep", "()V"⟩, 17) := ⟨⟨by decide +kernel, by decide +kernel⟩, List.mem_of_getElem? (i := 235) (by decide +kernel), List.mem_of_getElem? (i := 656) (by decide +kernel), List.mem_of_getElem? (i := 657) (by decide +kernel)⟩
theorem lw_p30 : lw_okq (⟨"LineMonitor$User", "moveBlock", "(Z)V"⟩, 17) := ⟨⟨by decide +kernel, by decide +kernel⟩, List.mem_of_getElem? (i := 235) (by decide +kernel), List.mem_of_getElem? (i := 660) (by decide +kernel), List.mem_of_getElem? (i := 661) (by decide +kernel)⟩
theorem lw_p31 : lw_okq (⟨"LineMonitor$User", "operate", "(I)V"⟩, 17) := ⟨⟨by decide +kernel, by decide +kernel⟩, List.mem_of_getElem? (i := 235) (by decide +kernel), List.mem_of_getElem? (i := 665) (by decide +kernel), List.mem_of_getElem? (i := 666) (by decide +kernel)⟩
def lw_privs_2 : List (MethodName × Nat) := [(⟨"LineMonitor$Assembler", "putMemory", "()I"⟩, 11), (⟨"LineMonitor$Assembler", "literalFor", "(I)I"⟩, 11), (⟨"LineMonitor$Assembler", "put", "(II)Z"⟩, 11), (⟨"LineMonitor$Assembler", "putNext", "(I)I"⟩, 11), (⟨"LineMonitor$House", "swapIn", "(LLineMonitor$User;)V"⟩, 15), (⟨"LineMonitor$House", "doRunnersInstruction", "(LLineMonitor$User;)V"⟩, 15), (⟨"LineMonitor$User", "skip", "()V"⟩, 17), (⟨"LineMonitor$User", "refer", "(II)V"⟩, 17), (⟨"LineMonitor$User", "addressIn", "(II)I"⟩, 17), (⟨"LineMonitor$User", "add", "(I)V"⟩, 17), (⟨"LineMonitor$User", "useDevice", "(II)V"⟩, 17), (⟨"LineMonitor$User", "readKey", "(I)V"⟩, 17), (⟨"LineMonitor$User", "waitAt", "(II)V"⟩, 17), (⟨"LineMonitor$User", "fallAsleep", "()V"⟩, 17), (⟨"LineMonitor$User", "moveBlock", "(Z)V"⟩, 17), (⟨"LineMonitor$User", "operate", "(I)V"⟩, 17)]
theorem lw_r2 : ∀ q ∈ lw_privs_2, lw_okq q := List.forall_mem_cons.mpr ⟨lw_p16, List.forall_mem_cons.mpr ⟨lw_p17, List.forall_mem_cons.mpr ⟨lw_p18, List.forall_mem_cons.mpr ⟨lw_p19, List.forall_mem_cons.mpr ⟨lw_p20, List.forall_mem_cons.mpr ⟨lw_p21, List.forall_mem_cons.mpr ⟨lw_p22, List.forall_mem_cons.mpr ⟨lw_p23, List.forall_mem_cons.mpr ⟨lw_p24, List.forall_mem_cons.mpr ⟨lw_p25, List.forall_mem_cons.mpr ⟨lw_p26, List.forall_mem_cons.mpr ⟨lw_p27, List.forall_mem_cons.mpr ⟨lw_p28, List.forall_mem_cons.mpr ⟨lw_p29, List.forall_mem_cons.mpr ⟨lw_p30, List.forall_mem_cons.mpr ⟨lw_p31, fun _ h => absurd h List.not_mem_nil⟩⟩⟩⟩⟩⟩⟩⟩⟩⟩⟩⟩⟩⟩⟩⟩
theorem lw_p32 : lw_okq (⟨"LineMonitor$User", "turn", "(II)V"⟩, 17) := ⟨⟨by decide +kernel, by decide +kernel⟩, List.mem_of_getElem? (i := 235) (by decide +kernel), List.mem_of_getElem? (i := 669) (by decide +kernel), List.mem_of_getElem? (i := 670) (by decide +kernel)⟩
theorem lw_p33 : lw_okq (⟨"LineMonitor$User", "test", "(I)V"⟩, 17) := ⟨⟨by decide +kernel, by decide +kernel⟩, List.mem_of_getElem? (i := 235) (by decide +kernel), List.mem_of_getElem? (i := 673) (by decide +kernel), List.mem_of_getElem? (i := 674) (by decide +kernel)⟩
theorem lw_p34 : lw_okq (⟨"LineMonitor$House", "tick", "()V"⟩, 15) := ⟨⟨by decide +kernel, by decide +kernel⟩, List.mem_of_getElem? (i := 228) (by decide +kernel), List.mem_of_getElem? (i := 677) (by decide +kernel), List.mem_of_getElem? (i := 678) (by decide +kernel)⟩
theorem lw_p35 : lw_okq (⟨"LineMonitor$House", "tickOf", "(LLineMonitor$User;)V"⟩, 15) := ⟨⟨by decide +kernel, by decide +kernel⟩, List.mem_of_getElem? (i := 228) (by decide +kernel), List.mem_of_getElem? (i := 682) (by decide +kernel), List.mem_of_getElem? (i := 683) (by decide +kernel)⟩
theorem lw_p36 : lw_okq (⟨"LineMonitor$House", "tickOfRunner", "(LLineMonitor$User;)V"⟩, 15) := ⟨⟨by decide +kernel, by decide +kernel⟩, List.mem_of_getElem? (i := 228) (by decide +kernel), List.mem_of_getElem? (i := 691) (by decide +kernel), List.mem_of_getElem? (i := 692) (by decide +kernel)⟩
theorem lw_p37 : lw_okq (⟨"LineMonitorModel", "three", "(IIII)V"⟩, 47) := ⟨⟨by decide +kernel, by decide +kernel⟩, List.mem_of_getElem? (i := 751) (by decide +kernel), List.mem_of_getElem? (i := 758) (by decide +kernel), List.mem_of_getElem? (i := 759) (by decide +kernel)⟩
theorem lw_p38 : lw_okq (⟨"LineMonitorModel", "lay", "(I)V"⟩, 47) := ⟨⟨by decide +kernel, by decide +kernel⟩, List.mem_of_getElem? (i := 751) (by decide +kernel), List.mem_of_getElem? (i := 922) (by decide +kernel), List.mem_of_getElem? (i := 923) (by decide +kernel)⟩
theorem lw_p39 : lw_okq (⟨"LineMonitorModel", "isUser", "(I)Z"⟩, 47) := ⟨⟨by decide +kernel, by decide +kernel⟩, List.mem_of_getElem? (i := 751) (by decide +kernel), List.mem_of_getElem? (i := 938) (by decide +kernel), List.mem_of_getElem? (i := 939) (by decide +kernel)⟩
theorem lw_p40 : lw_okq (⟨"LineMonitorModel", "set", "(III)V"⟩, 47) := ⟨⟨by decide +kernel, by decide +kernel⟩, List.mem_of_getElem? (i := 751) (by decide +kernel), List.mem_of_getElem? (i := 942) (by decide +kernel), List.mem_of_getElem? (i := 943) (by decide +kernel)⟩
theorem lw_p41 : lw_okq (⟨"LineMonitorModel", "get", "(II)I"⟩, 47) := ⟨⟨by decide +kernel, by decide +kernel⟩, List.mem_of_getElem? (i := 751) (by decide +kernel), List.mem_of_getElem? (i := 950) (by decide +kernel), List.mem_of_getElem? (i := 951) (by decide +kernel)⟩
theorem lw_p42 : lw_okq (⟨"LineMonitorModel", "isPlace", "(III)Z"⟩, 47) := ⟨⟨by decide +kernel, by decide +kernel⟩, List.mem_of_getElem? (i := 751) (by decide +kernel), List.mem_of_getElem? (i := 958) (by decide +kernel), List.mem_of_getElem? (i := 959) (by decide +kernel)⟩
theorem lw_p43 : lw_okq (⟨"LineMonitorModel", "ready", "(I)V"⟩, 47) := ⟨⟨by decide +kernel, by decide +kernel⟩, List.mem_of_getElem? (i := 751) (by decide +kernel), List.mem_of_getElem? (i := 974) (by decide +kernel), List.mem_of_getElem? (i := 975) (by decide +kernel)⟩
theorem lw_p44 : lw_okq (⟨"LineMonitorModel", "dispatch", "()V"⟩, 47) := ⟨⟨by decide +kernel, by decide +kernel⟩, List.mem_of_getElem? (i := 751) (by decide +kernel), List.mem_of_getElem? (i := 978) (by decide +kernel), List.mem_of_getElem? (i := 979) (by decide +kernel)⟩
theorem lw_p45 : lw_okq (⟨"LineMonitorModel", "step", "()V"⟩, 47) := ⟨⟨by decide +kernel, by decide +kernel⟩, List.mem_of_getElem? (i := 751) (by decide +kernel), List.mem_of_getElem? (i := 990) (by decide +kernel), List.mem_of_getElem? (i := 991) (by decide +kernel)⟩
theorem lw_p46 : lw_okq (⟨"LineMonitorModel", "doInstruction", "(I)V"⟩, 47) := ⟨⟨by decide +kernel, by decide +kernel⟩, List.mem_of_getElem? (i := 751) (by decide +kernel), List.mem_of_getElem? (i := 994) (by decide +kernel), List.mem_of_getElem? (i := 995) (by decide +kernel)⟩
theorem lw_p47 : lw_okq (⟨"LineMonitorModel", "memory", "(III)V"⟩, 47) := ⟨⟨by decide +kernel, by decide +kernel⟩, List.mem_of_getElem? (i := 751) (by decide +kernel), List.mem_of_getElem? (i := 998) (by decide +kernel), List.mem_of_getElem? (i := 999) (by decide +kernel)⟩
def lw_privs_3 : List (MethodName × Nat) := [(⟨"LineMonitor$User", "turn", "(II)V"⟩, 17), (⟨"LineMonitor$User", "test", "(I)V"⟩, 17), (⟨"LineMonitor$House", "tick", "()V"⟩, 15), (⟨"LineMonitor$House", "tickOf", "(LLineMonitor$User;)V"⟩, 15), (⟨"LineMonitor$House", "tickOfRunner", "(LLineMonitor$User;)V"⟩, 15), (⟨"LineMonitorModel", "three", "(IIII)V"⟩, 47), (⟨"LineMonitorModel", "lay", "(I)V"⟩, 47), (⟨"LineMonitorModel", "isUser", "(I)Z"⟩, 47), (⟨"LineMonitorModel", "set", "(III)V"⟩, 47), (⟨"LineMonitorModel", "get", "(II)I"⟩, 47), (⟨"LineMonitorModel", "isPlace", "(III)Z"⟩, 47), (⟨"LineMonitorModel", "ready", "(I)V"⟩, 47), (⟨"LineMonitorModel", "dispatch", "()V"⟩, 47), (⟨"LineMonitorModel", "step", "()V"⟩, 47), (⟨"LineMonitorModel", "doInstruction", "(I)V"⟩, 47), (⟨"LineMonitorModel", "memory", "(III)V"⟩, 47)]
theorem lw_r3 : ∀ q ∈ lw_privs_3, lw_okq q := List.forall_mem_cons.mpr ⟨lw_p32, List.forall_mem_cons.mpr ⟨lw_p33, List.forall_mem_cons.mpr ⟨lw_p34, List.forall_mem_cons.mpr ⟨lw_p35, List.forall_mem_cons.mpr ⟨lw_p36, List.forall_mem_cons.mpr ⟨lw_p37, List.forall_mem_cons.mpr ⟨lw_p38, List.forall_mem_cons.mpr ⟨lw_p39, List.forall_mem_cons.mpr ⟨lw_p40, List.forall_mem_cons.mpr ⟨lw_p41, List.forall_mem_cons.mpr ⟨lw_p42, List.forall_mem_cons.mpr ⟨lw_p43, List.forall_mem_cons.mpr ⟨lw_p44, List.forall_mem_cons.mpr ⟨lw_p45, List.forall_mem_cons.mpr ⟨lw_p46, List.forall_mem_cons.mpr ⟨lw_p47, fun _ h => absurd h List.not_mem_nil⟩⟩⟩⟩⟩⟩⟩⟩⟩⟩⟩⟩⟩⟩⟩⟩
theorem lw_p48 : lw_okq (⟨"LineMonitorModel", "sum", "(II)V"⟩, 47) := ⟨⟨by decide +kernel, by decide +kernel⟩, List.mem_of_getElem? (i := 751) (by decide +kernel), List.mem_of_getElem? (i := 1002) (by decide +kernel), List.mem_of_getElem? (i := 1003) (by decide +kernel)⟩
theorem lw_p49 : lw_okq (⟨"LineMonitorModel", "skip", "(IZ)V"⟩, 47) := ⟨⟨by decide +kernel, by decide +kernel⟩, List.mem_of_getElem? (i := 751) (by decide +kernel), List.mem_of_getElem? (i := 1006) (by decide +kernel), List.mem_of_getElem? (i := 1007) (by decide +kernel)⟩
theorem lw_p50 : lw_okq (⟨"LineMonitorModel", "device", "(III)V"⟩, 47) := ⟨⟨by decide +kernel, by decide +kernel⟩, List.mem_of_getElem? (i := 751) (by decide +kernel), List.mem_of_getElem? (i := 1010) (by decide +kernel), List.mem_of_getElem? (i := 1011) (by decide +kernel)⟩
theorem lw_p51 : lw_okq (⟨"LineMonitorModel", "leave", "(II)V"⟩, 47) := ⟨⟨by decide +kernel, by decide +kernel⟩, List.mem_of_getElem? (i := 751) (by decide +kernel), List.mem_of_getElem? (i := 1014) (by decide +kernel), List.mem_of_getElem? (i := 1015) (by decide +kernel)⟩
theorem lw_p52 : lw_okq (⟨"LineMonitorModel", "transfer", "(IZ)V"⟩, 47) := ⟨⟨by decide +kernel, by decide +kernel⟩, List.mem_of_getElem? (i := 751) (by decide +kernel), List.mem_of_getElem? (i := 1021) (by decide +kernel), List.mem_of_getElem? (i := 1022) (by decide +kernel)⟩
theorem lw_p53 : lw_okq (⟨"LineMonitorModel", "turns", "(II)V"⟩, 47) := ⟨⟨by decide +kernel, by decide +kernel⟩, List.mem_of_getElem? (i := 751) (by decide +kernel), List.mem_of_getElem? (i := 1025) (by decide +kernel), List.mem_of_getElem? (i := 1026) (by decide +kernel)⟩
theorem lw_p54 : lw_okq (⟨"LineMonitorModel", "skips", "(II)V"⟩, 47) := ⟨⟨by decide +kernel, by decide +kernel⟩, List.mem_of_getElem? (i := 751) (by decide +kernel), List.mem_of_getElem? (i := 1029) (by decide +kernel), List.mem_of_getElem? (i := 1030) (by decide +kernel)⟩
theorem lw_p55 : lw_okq (⟨"LineMonitorModel", "tick", "()V"⟩, 47) := ⟨⟨by decide +kernel, by decide +kernel⟩, List.mem_of_getElem? (i := 751) (by decide +kernel), List.mem_of_getElem? (i := 1033) (by decide +kernel), List.mem_of_getElem? (i := 1034) (by decide +kernel)⟩
theorem lw_p56 : lw_okq (⟨"LineMonitorModel", "passes", "(I)Z"⟩, 47) := ⟨⟨by decide +kernel, by decide +kernel⟩, List.mem_of_getElem? (i := 751) (by decide +kernel), List.mem_of_getElem? (i := 1073) (by decide +kernel), List.mem_of_getElem? (i := 1074) (by decide +kernel)⟩
theorem lw_p57 : lw_okq (⟨"LineMonitorModel", "lineIn", "(III)I"⟩, 47) := ⟨⟨by decide +kernel, by decide +kernel⟩, List.mem_of_getElem? (i := 751) (by decide +kernel), List.mem_of_getElem? (i := 1077) (by decide +kernel), List.mem_of_getElem? (i := 1078) (by decide +kernel)⟩
theorem lw_p58 : lw_okq (⟨"LineMonitorModel", "statement", "(III)I"⟩, 47) := ⟨⟨by decide +kernel, by decide +kernel⟩, List.mem_of_getElem? (i := 751) (by decide +kernel), List.mem_of_getElem? (i := 1081) (by decide +kernel), List.mem_of_getElem? (i := 1082) (by decide +kernel)⟩
theorem lw_p59 : lw_okq (⟨"LineMonitorModel", "secondPass", "()I"⟩, 47) := ⟨⟨by decide +kernel, by decide +kernel⟩, List.mem_of_getElem? (i := 751) (by decide +kernel), List.mem_of_getElem? (i := 1085) (by decide +kernel), List.mem_of_getElem? (i := 1086) (by decide +kernel)⟩
theorem lw_p60 : lw_okq (⟨"LineMonitorModel", "blanks", "()V"⟩, 47) := ⟨⟨by decide +kernel, by decide +kernel⟩, List.mem_of_getElem? (i := 751) (by decide +kernel), List.mem_of_getElem? (i := 1089) (by decide +kernel), List.mem_of_getElem? (i := 1090) (by decide +kernel)⟩
theorem lw_p61 : lw_okq (⟨"LineMonitorModel", "isLabel", "()Z"⟩, 47) := ⟨⟨by decide +kernel, by decide +kernel⟩, List.mem_of_getElem? (i := 751) (by decide +kernel), List.mem_of_getElem? (i := 1093) (by decide +kernel), List.mem_of_getElem? (i := 1094) (by decide +kernel)⟩
theorem lw_p62 : lw_okq (⟨"LineMonitorModel", "isName", "(I)Z"⟩, 47) := ⟨⟨by decide +kernel, by decide +kernel⟩, List.mem_of_getElem? (i := 751) (by decide +kernel), List.mem_of_getElem? (i := 1097) (by decide +kernel), List.mem_of_getElem? (i := 1098) (by decide +kernel)⟩
theorem lw_p63 : lw_okq (⟨"LineMonitorModel", "look", "(I)I"⟩, 47) := ⟨⟨by decide +kernel, by decide +kernel⟩, List.mem_of_getElem? (i := 751) (by decide +kernel), List.mem_of_getElem? (i := 1101) (by decide +kernel), List.mem_of_getElem? (i := 1102) (by decide +kernel)⟩
def lw_privs_4 : List (MethodName × Nat) := [(⟨"LineMonitorModel", "sum", "(II)V"⟩, 47), (⟨"LineMonitorModel", "skip", "(IZ)V"⟩, 47), (⟨"LineMonitorModel", "device", "(III)V"⟩, 47), (⟨"LineMonitorModel", "leave", "(II)V"⟩, 47), (⟨"LineMonitorModel", "transfer", "(IZ)V"⟩, 47), (⟨"LineMonitorModel", "turns", "(II)V"⟩, 47), (⟨"LineMonitorModel", "skips", "(II)V"⟩, 47), (⟨"LineMonitorModel", "tick", "()V"⟩, 47), (⟨"LineMonitorModel", "passes", "(I)Z"⟩, 47), (⟨"LineMonitorModel", "lineIn", "(III)I"⟩, 47), (⟨"LineMonitorModel", "statement", "(III)I"⟩, 47), (⟨"LineMonitorModel", "secondPass", "()I"⟩, 47), (⟨"LineMonitorModel", "blanks", "()V"⟩, 47), (⟨"LineMonitorModel", "isLabel", "()Z"⟩, 47), (⟨"LineMonitorModel", "isName", "(I)Z"⟩, 47), (⟨"LineMonitorModel", "look", "(I)I"⟩, 47)]
theorem lw_r4 : ∀ q ∈ lw_privs_4, lw_okq q := List.forall_mem_cons.mpr ⟨lw_p48, List.forall_mem_cons.mpr ⟨lw_p49, List.forall_mem_cons.mpr ⟨lw_p50, List.forall_mem_cons.mpr ⟨lw_p51, List.forall_mem_cons.mpr ⟨lw_p52, List.forall_mem_cons.mpr ⟨lw_p53, List.forall_mem_cons.mpr ⟨lw_p54, List.forall_mem_cons.mpr ⟨lw_p55, List.forall_mem_cons.mpr ⟨lw_p56, List.forall_mem_cons.mpr ⟨lw_p57, List.forall_mem_cons.mpr ⟨lw_p58, List.forall_mem_cons.mpr ⟨lw_p59, List.forall_mem_cons.mpr ⟨lw_p60, List.forall_mem_cons.mpr ⟨lw_p61, List.forall_mem_cons.mpr ⟨lw_p62, List.forall_mem_cons.mpr ⟨lw_p63, fun _ h => absurd h List.not_mem_nil⟩⟩⟩⟩⟩⟩⟩⟩⟩⟩⟩⟩⟩⟩⟩⟩
theorem lw_p64 : lw_okq (⟨"LineMonitorModel", "wordEnd", "(I)I"⟩, 47) := ⟨⟨by decide +kernel, by decide +kernel⟩, List.mem_of_getElem? (i := 751) (by decide +kernel), List.mem_of_getElem? (i := 1105) (by decide +kernel), List.mem_of_getElem? (i := 1106) (by decide +kernel)⟩
theorem lw_p65 : lw_okq (⟨"LineMonitorModel", "isTelling", "()Z"⟩, 47) := ⟨⟨by decide +kernel, by decide +kernel⟩, List.mem_of_getElem? (i := 751) (by decide +kernel), List.mem_of_getElem? (i := 1112) (by decide +kernel), List.mem_of_getElem? (i := 1113) (by decide +kernel)⟩
theorem lw_p66 : lw_okq (⟨"LineMonitorModel", "expression", "()Z"⟩, 47) := ⟨⟨by decide +kernel, by decide +kernel⟩, List.mem_of_getElem? (i := 751) (by decide +kernel), List.mem_of_getElem? (i := 1116) (by decide +kernel), List.mem_of_getElem? (i := 1117) (by decide +kernel)⟩
theorem lw_p67 : lw_okq (⟨"LineMonitorModel", "term", "(I)Z"⟩, 47) := ⟨⟨by decide +kernel, by decide +kernel⟩, List.mem_of_getElem? (i := 751) (by decide +kernel), List.mem_of_getElem? (i := 1120) (by decide +kernel), List.mem_of_getElem? (i := 1121) (by decide +kernel)⟩
theorem lw_p68 : lw_okq (⟨"LineMonitorModel", "nameAt", "(I)J"⟩, 47) := ⟨⟨by decide +kernel, by decide +kernel⟩, List.mem_of_getElem? (i := 751) (by decide +kernel), List.mem_of_getElem? (i := 1124) (by decide +kernel), List.mem_of_getElem? (i := 1125) (by decide +kernel)⟩
theorem lw_p69 : lw_okq (⟨"LineMonitorModel", "find", "(J)I"⟩, 47) := ⟨⟨by decide +kernel, by decide +kernel⟩, List.mem_of_getElem? (i := 751) (by decide +kernel), List.mem_of_getElem? (i := 1128) (by decide +kernel), List.mem_of_getElem? (i := 1129) (by decide +kernel)⟩
theorem lw_p70 : lw_okq (⟨"LineMonitorModel", "memoryAt", "(I)I"⟩, 47) := ⟨⟨by decide +kernel, by decide +kernel⟩, List.mem_of_getElem? (i := 751) (by decide +kernel), List.mem_of_getElem? (i := 1132) (by decide +kernel), List.mem_of_getElem? (i := 1133) (by decide +kernel)⟩
theorem lw_p71 : lw_okq (⟨"LineMonitorModel", "memoryWord", "(I)I"⟩, 47) := ⟨⟨by decide +kernel, by decide +kernel⟩, List.mem_of_getElem? (i := 751) (by decide +kernel), List.mem_of_getElem? (i := 1136) (by decide +kernel), List.mem_of_getElem? (i := 1137) (by decide +kernel)⟩
theorem lw_p72 : lw_okq (⟨"LineMonitorModel", "isBy", "()Z"⟩, 47) := ⟨⟨by decide +kernel, by decide +kernel⟩, List.mem_of_getElem? (i := 751) (by decide +kernel), List.mem_of_getElem? (i := 1140) (by decide +kernel), List.mem_of_getElem? (i := 1141) (by decide +kernel)⟩
theorem lw_p73 : lw_okq (⟨"LineMonitorModel", "literalFor", "(I)I"⟩, 47) := ⟨⟨by decide +kernel, by decide +kernel⟩, List.mem_of_getElem? (i := 751) (by decide +kernel), List.mem_of_getElem? (i := 1144) (by decide +kernel), List.mem_of_getElem? (i := 1145) (by decide +kernel)⟩
theorem lw_p74 : lw_okq (⟨"LineMonitorModel", "comesTo", "(IIZ)I"⟩, 47) := ⟨⟨by decide +kernel, by decide +kernel⟩, List.mem_of_getElem? (i := 751) (by decide +kernel), List.mem_of_getElem? (i := 1148) (by decide +kernel), List.mem_of_getElem? (i := 1149) (by decide +kernel)⟩
theorem lw_p75 : lw_okq (⟨"LineMonitorModel", "rowWord", "()I"⟩, 47) := ⟨⟨by decide +kernel, by decide +kernel⟩, List.mem_of_getElem? (i := 751) (by decide +kernel), List.mem_of_getElem? (i := 1152) (by decide +kernel), List.mem_of_getElem? (i := 1153) (by decide +kernel)⟩
theorem lw_p76 : lw_okq (⟨"LineMonitorModel", "isRight", "()Z"⟩, 47) := ⟨⟨by decide +kernel, by decide +kernel⟩, List.mem_of_getElem? (i := 751) (by decide +kernel), List.mem_of_getElem? (i := 1156) (by decide +kernel), List.mem_of_getElem? (i := 1157) (by decide +kernel)⟩
theorem lw_p77 : lw_okq (⟨"LineMonitorModel", "ends", "()Z"⟩, 47) := ⟨⟨by decide +kernel, by decide +kernel⟩, List.mem_of_getElem? (i := 751) (by decide +kernel), List.mem_of_getElem? (i := 1160) (by decide +kernel), List.mem_of_getElem? (i := 1161) (by decide +kernel)⟩
theorem lw_p78 : lw_okq (⟨"LineMonitorModel", "isRightMemory", "()Z"⟩, 47) := ⟨⟨by decide +kernel, by decide +kernel⟩, List.mem_of_getElem? (i := 751) (by decide +kernel), List.mem_of_getElem? (i := 1164) (by decide +kernel), List.mem_of_getElem? (i := 1165) (by decide +kernel)⟩
theorem lw_p79 : lw_okq (⟨"LineMonitorModel", "isRightRow", "()Z"⟩, 47) := ⟨⟨by decide +kernel, by decide +kernel⟩, List.mem_of_getElem? (i := 751) (by decide +kernel), List.mem_of_getElem? (i := 1168) (by decide +kernel), List.mem_of_getElem? (i := 1169) (by decide +kernel)⟩
def lw_privs_5 : List (MethodName × Nat) := [(⟨"LineMonitorModel", "wordEnd", "(I)I"⟩, 47), (⟨"LineMonitorModel", "isTelling", "()Z"⟩, 47), (⟨"LineMonitorModel", "expression", "()Z"⟩, 47), (⟨"LineMonitorModel", "term", "(I)Z"⟩, 47), (⟨"LineMonitorModel", "nameAt", "(I)J"⟩, 47), (⟨"LineMonitorModel", "find", "(J)I"⟩, 47), (⟨"LineMonitorModel", "memoryAt", "(I)I"⟩, 47), (⟨"LineMonitorModel", "memoryWord", "(I)I"⟩, 47), (⟨"LineMonitorModel", "isBy", "()Z"⟩, 47), (⟨"LineMonitorModel", "literalFor", "(I)I"⟩, 47), (⟨"LineMonitorModel", "comesTo", "(IIZ)I"⟩, 47), (⟨"LineMonitorModel", "rowWord", "()I"⟩, 47), (⟨"LineMonitorModel", "isRight", "()Z"⟩, 47), (⟨"LineMonitorModel", "ends", "()Z"⟩, 47), (⟨"LineMonitorModel", "isRightMemory", "()Z"⟩, 47), (⟨"LineMonitorModel", "isRightRow", "()Z"⟩, 47)]
theorem lw_r5 : ∀ q ∈ lw_privs_5, lw_okq q := List.forall_mem_cons.mpr ⟨lw_p64, List.forall_mem_cons.mpr ⟨lw_p65, List.forall_mem_cons.mpr ⟨lw_p66, List.forall_mem_cons.mpr ⟨lw_p67, List.forall_mem_cons.mpr ⟨lw_p68, List.forall_mem_cons.mpr ⟨lw_p69, List.forall_mem_cons.mpr ⟨lw_p70, List.forall_mem_cons.mpr ⟨lw_p71, List.forall_mem_cons.mpr ⟨lw_p72, List.forall_mem_cons.mpr ⟨lw_p73, List.forall_mem_cons.mpr ⟨lw_p74, List.forall_mem_cons.mpr ⟨lw_p75, List.forall_mem_cons.mpr ⟨lw_p76, List.forall_mem_cons.mpr ⟨lw_p77, List.forall_mem_cons.mpr ⟨lw_p78, List.forall_mem_cons.mpr ⟨lw_p79, fun _ h => absurd h List.not_mem_nil⟩⟩⟩⟩⟩⟩⟩⟩⟩⟩⟩⟩⟩⟩⟩⟩
theorem lw_p80 : lw_okq (⟨"LineMonitorModel", "firstPass", "()I"⟩, 47) := ⟨⟨by decide +kernel, by decide +kernel⟩, List.mem_of_getElem? (i := 751) (by decide +kernel), List.mem_of_getElem? (i := 1172) (by decide +kernel), List.mem_of_getElem? (i := 1173) (by decide +kernel)⟩
theorem lw_p81 : lw_okq (⟨"LineMonitorModel", "tell", "(JI)I"⟩, 47) := ⟨⟨by decide +kernel, by decide +kernel⟩, List.mem_of_getElem? (i := 751) (by decide +kernel), List.mem_of_getElem? (i := 1176) (by decide +kernel), List.mem_of_getElem? (i := 1177) (by decide +kernel)⟩
def lw_privs_6 : List (MethodName × Nat) := [(⟨"LineMonitorModel", "firstPass", "()I"⟩, 47), (⟨"LineMonitorModel", "tell", "(JI)I"⟩, 47)]
theorem lw_r6 : ∀ q ∈ lw_privs_6, lw_okq q := List.forall_mem_cons.mpr ⟨lw_p80, List.forall_mem_cons.mpr ⟨lw_p81, fun _ h => absurd h List.not_mem_nil⟩⟩
def lw_privs : List (MethodName × Nat) := lw_privs_1 ++ (lw_privs_2 ++ (lw_privs_3 ++ (lw_privs_4 ++ (lw_privs_5 ++ (lw_privs_6)))))
def lw_tbl : List Cond := k2_sels lw_privs ++ tables_1
theorem lw_privs_ok : ∀ q ∈ lw_privs, lw_okq q := by
  show ∀ q ∈ lw_privs_1 ++ (lw_privs_2 ++ (lw_privs_3 ++ (lw_privs_4 ++ (lw_privs_5 ++ (lw_privs_6))))), lw_okq q
  exact List.forall_mem_append.mpr ⟨lw_r1, List.forall_mem_append.mpr ⟨lw_r2, List.forall_mem_append.mpr ⟨lw_r3, List.forall_mem_append.mpr ⟨lw_r4, List.forall_mem_append.mpr ⟨lw_r5, lw_r6⟩⟩⟩⟩⟩

def RX0 : String := "LineMonitor$Assembler"
def TX0 : u_T := fun k => match k with
  | 0 => ("LineMonitor$Assembler", "tape", "LLineMonitor$Tape;", true)
  | 1 => ("LineMonitor$Assembler", "names", "LLineMonitor$Names;", true)
  | 2 => ("LineMonitor$Assembler", "reader", "LLineMonitor$Reader;", true)
  | 3 => ("LineMonitor$Assembler", "words", "[I", true)
  | 4 => ("LineMonitor$Assembler", "isPut", "[Z", true)
  | 5 => ("LineMonitor$Assembler", "places", "[I", true)
  | 6 => ("LineMonitor$Assembler", "placed", "I", false)
  | 7 => ("LineMonitor$Assembler", "literals", "[I", true)
  | 8 => ("LineMonitor$Assembler", "dot", "I", false)
  | 9 => ("LineMonitor$Assembler", "fault", "I", false)
  | _ => ("LineMonitor$Assembler", "faultLine", "I", false)
def tyX0 : Nat → FieldType := fun k => match k with
  | 0 => .object "LineMonitor$Tape"
  | 1 => .object "LineMonitor$Names"
  | 2 => .object "LineMonitor$Reader"
  | 3 => .array .int
  | 4 => .array .boolean
  | 5 => .array .int
  | 6 => .int
  | 7 => .array .int
  | 8 => .int
  | 9 => .int
  | _ => .int
theorem nmX0 : ∀ a, a < 11 → ∀ b, b < 11 → a ≠ b → (TX0 a).2.1 ≠ (TX0 b).2.1 := by decide +kernel
theorem tyX0_ok : ∀ k, k < 11 → parseFieldDescriptor (TX0 k).2.2.1 = some (tyX0 k) := by decide +kernel
abbrev cX0_init : ByteArray := prog_2_method_1_code
def yX0_init : MethodName := ⟨RX0, "<init>", "(LLineMonitor$Tape;)V"⟩
abbrev cX0_begin : ByteArray := prog_2_method_2_code
def yX0_begin : MethodName := ⟨RX0, "begin", "()V"⟩
abbrev cX0_goOver : ByteArray := prog_2_method_3_code
def yX0_goOver : MethodName := ⟨RX0, "goOver", "(Z)V"⟩
abbrev cX0_doFirst : ByteArray := prog_2_method_4_code
def yX0_doFirst : MethodName := ⟨RX0, "doFirst", "(II)I"⟩
abbrev cX0_skipLabels : ByteArray := prog_2_method_5_code
def yX0_skipLabels : MethodName := ⟨RX0, "skipLabels", "()V"⟩
abbrev cX0_tellLabels : ByteArray := prog_2_method_6_code
def yX0_tellLabels : MethodName := ⟨RX0, "tellLabels", "()I"⟩
abbrev cX0_doSecond : ByteArray := prog_2_method_7_code
def yX0_doSecond : MethodName := ⟨RX0, "doSecond", "()I"⟩
abbrev cX0_putMemory : ByteArray := prog_2_method_8_code
def yX0_putMemory : MethodName := ⟨RX0, "putMemory", "()I"⟩
abbrev cX0_literalFor : ByteArray := prog_2_method_9_code
def yX0_literalFor : MethodName := ⟨RX0, "literalFor", "(I)I"⟩
abbrev cX0_putNext : ByteArray := prog_2_method_10_code
def yX0_putNext : MethodName := ⟨RX0, "putNext", "(I)I"⟩
abbrev cX0_put : ByteArray := prog_2_method_11_code
def yX0_put : MethodName := ⟨RX0, "put", "(II)Z"⟩
abbrev cX0_deliver : ByteArray := prog_2_method_12_code
def yX0_deliver : MethodName := ⟨RX0, "deliver", "([I)I"⟩
def RX1 : String := "LineMonitor$House"
def TX1 : u_T := fun k => match k with
  | 0 => ("LineMonitor$House", "users", "[LLineMonitor$User;", true)
  | 1 => ("LineMonitor$House", "userCount", "I", false)
  | 2 => ("LineMonitor$House", "fields", "I", false)
  | 3 => ("LineMonitor$House", "quantum", "I", false)
  | 4 => ("LineMonitor$House", "beat", "I", false)
  | 5 => ("LineMonitor$House", "row", "[LLineMonitor$User;", true)
  | 6 => ("LineMonitor$House", "rowSize", "I", false)
  | 7 => ("LineMonitor$House", "inField", "[LLineMonitor$User;", true)
  | 8 => ("LineMonitor$House", "turn", "I", false)
  | 9 => ("LineMonitor$House", "runner", "LLineMonitor$User;", false)
  | 10 => ("LineMonitor$House", "steps", "I", false)
  | 11 => ("LineMonitor$House", "stepsSinceTick", "I", false)
  | 12 => ("LineMonitor$House", "ticks", "I", false)
  | 13 => ("LineMonitor$House", "swaps", "I", false)
  | _ => ("LineMonitor$House", "idle", "I", false)
def tyX1 : Nat → FieldType := fun k => match k with
  | 0 => .array (.object "LineMonitor$User")
  | 1 => .int
  | 2 => .int
  | 3 => .int
  | 4 => .int
  | 5 => .array (.object "LineMonitor$User")
  | 6 => .int
  | 7 => .array (.object "LineMonitor$User")
  | 8 => .int
  | 9 => .object "LineMonitor$User"
  | 10 => .int
  | 11 => .int
  | 12 => .int
  | 13 => .int
  | _ => .int
theorem nmX1 : ∀ a, a < 15 → ∀ b, b < 15 → a ≠ b → (TX1 a).2.1 ≠ (TX1 b).2.1 := by decide +kernel
theorem tyX1_ok : ∀ k, k < 15 → parseFieldDescriptor (TX1 k).2.2.1 = some (tyX1 k) := by decide +kernel
abbrev cX1_init : ByteArray := prog_3_method_1_code
def yX1_init : MethodName := ⟨RX1, "<init>", "()V"⟩
abbrev cX1_isOpen : ByteArray := prog_3_method_2_code
def yX1_isOpen : MethodName := ⟨RX1, "isOpen", "()Z"⟩
abbrev cX1_begin : ByteArray := prog_3_method_3_code
def yX1_begin : MethodName := ⟨RX1, "begin", "(IIII)V"⟩
abbrev cX1_userAt : ByteArray := prog_3_method_4_code
def yX1_userAt : MethodName := ⟨RX1, "userAt", "(I)LLineMonitor$User;"⟩
abbrev cX1_makeReady : ByteArray := prog_3_method_5_code
def yX1_makeReady : MethodName := ⟨RX1, "makeReady", "(LLineMonitor$User;)V"⟩
abbrev cX1_choose : ByteArray := prog_3_method_6_code
def yX1_choose : MethodName := ⟨RX1, "choose", "()V"⟩
abbrev cX1_swapIn : ByteArray := prog_3_method_7_code
def yX1_swapIn : MethodName := ⟨RX1, "swapIn", "(LLineMonitor$User;)V"⟩
abbrev cX1_step : ByteArray := prog_3_method_8_code
def yX1_step : MethodName := ⟨RX1, "step", "()Z"⟩
abbrev cX1_doRunnersInstruction : ByteArray := prog_3_method_9_code
def yX1_doRunnersInstruction : MethodName := ⟨RX1, "doRunnersInstruction", "(LLineMonitor$User;)V"⟩
abbrev cX1_tick : ByteArray := prog_3_method_10_code
def yX1_tick : MethodName := ⟨RX1, "tick", "()V"⟩
abbrev cX1_tickOf : ByteArray := prog_3_method_11_code
def yX1_tickOf : MethodName := ⟨RX1, "tickOf", "(LLineMonitor$User;)V"⟩
abbrev cX1_tickOfRunner : ByteArray := prog_3_method_12_code
def yX1_tickOfRunner : MethodName := ⟨RX1, "tickOfRunner", "(LLineMonitor$User;)V"⟩
abbrev cX1_inRow : ByteArray := prog_3_method_13_code
def yX1_inRow : MethodName := ⟨RX1, "inRow", "(I)I"⟩
abbrev cX1_tell : ByteArray := prog_3_method_14_code
def yX1_tell : MethodName := ⟨RX1, "tell", "(I)I"⟩
def RX2 : String := "LineMonitor$Letters"
def TX2 : u_T := fun k => match k with
  | 0 => ("LineMonitor$Letters", "ring", "[I", true)
  | 1 => ("LineMonitor$Letters", "first", "I", false)
  | _ => ("LineMonitor$Letters", "size", "I", false)
def tyX2 : Nat → FieldType := fun k => match k with
  | 0 => .array .int
  | 1 => .int
  | _ => .int
theorem nmX2 : ∀ a, a < 3 → ∀ b, b < 3 → a ≠ b → (TX2 a).2.1 ≠ (TX2 b).2.1 := by decide +kernel
theorem tyX2_ok : ∀ k, k < 3 → parseFieldDescriptor (TX2 k).2.2.1 = some (tyX2 k) := by decide +kernel
abbrev cX2_init : ByteArray := prog_4_method_1_code
def yX2_init : MethodName := ⟨RX2, "<init>", "()V"⟩
abbrev cX2_add : ByteArray := prog_4_method_2_code
def yX2_add : MethodName := ⟨RX2, "add", "(I)Z"⟩
abbrev cX2_take : ByteArray := prog_4_method_3_code
def yX2_take : MethodName := ⟨RX2, "take", "()I"⟩
abbrev cX2_at : ByteArray := prog_4_method_4_code
def yX2_at : MethodName := ⟨RX2, "at", "(I)I"⟩
def RX3 : String := "LineMonitor$Names"
def TX3 : u_T := fun k => match k with
  | 0 => ("LineMonitor$Names", "keys", "[J", true)
  | 1 => ("LineMonitor$Names", "values", "[I", true)
  | _ => ("LineMonitor$Names", "count", "I", false)
def tyX3 : Nat → FieldType := fun k => match k with
  | 0 => .array .long
  | 1 => .array .int
  | _ => .int
theorem nmX3 : ∀ a, a < 3 → ∀ b, b < 3 → a ≠ b → (TX3 a).2.1 ≠ (TX3 b).2.1 := by decide +kernel
theorem tyX3_ok : ∀ k, k < 3 → parseFieldDescriptor (TX3 k).2.2.1 = some (tyX3 k) := by decide +kernel
abbrev cX3_init : ByteArray := prog_5_method_1_code
def yX3_init : MethodName := ⟨RX3, "<init>", "()V"⟩
abbrev cX3_addAll : ByteArray := prog_5_method_2_code
def yX3_addAll : MethodName := ⟨RX3, "addAll", "(Ljava/lang/String;[I)V"⟩
abbrev cX3_longer : ByteArray := prog_5_method_3_code
def yX3_longer : MethodName := ⟨RX3, "longer", "(JI)J"⟩
abbrev cX3_add : ByteArray := prog_5_method_4_code
def yX3_add : MethodName := ⟨RX3, "add", "(JI)V"⟩
abbrev cX3_forget : ByteArray := prog_5_method_5_code
def yX3_forget : MethodName := ⟨RX3, "forget", "()V"⟩
abbrev cX3_find : ByteArray := prog_5_method_6_code
def yX3_find : MethodName := ⟨RX3, "find", "(J)I"⟩
abbrev cX3_valueOf : ByteArray := prog_5_method_7_code
def yX3_valueOf : MethodName := ⟨RX3, "valueOf", "(J)I"⟩
abbrev cX3_tell : ByteArray := prog_5_method_8_code
def yX3_tell : MethodName := ⟨RX3, "tell", "(JI)I"⟩
def RX4 : String := "LineMonitor$Reader"
def TX4 : u_T := fun k => match k with
  | 0 => ("LineMonitor$Reader", "tape", "LLineMonitor$Tape;", true)
  | 1 => ("LineMonitor$Reader", "names", "LLineMonitor$Names;", true)
  | 2 => ("LineMonitor$Reader", "at", "I", false)
  | 3 => ("LineMonitor$Reader", "end", "I", false)
  | 4 => ("LineMonitor$Reader", "dot", "I", false)
  | 5 => ("LineMonitor$Reader", "kind", "I", false)
  | 6 => ("LineMonitor$Reader", "key", "J", false)
  | 7 => ("LineMonitor$Reader", "operation", "I", false)
  | 8 => ("LineMonitor$Reader", "indirect", "Z", false)
  | 9 => ("LineMonitor$Reader", "literal", "Z", false)
  | 10 => ("LineMonitor$Reader", "value", "I", false)
  | 11 => ("LineMonitor$Reader", "broken", "Z", false)
  | _ => ("LineMonitor$Reader", "unknown", "Z", false)
def tyX4 : Nat → FieldType := fun k => match k with
  | 0 => .object "LineMonitor$Tape"
  | 1 => .object "LineMonitor$Names"
  | 2 => .int
  | 3 => .int
  | 4 => .int
  | 5 => .int
  | 6 => .long
  | 7 => .int
  | 8 => .boolean
  | 9 => .boolean
  | 10 => .int
  | 11 => .boolean
  | _ => .boolean
theorem nmX4 : ∀ a, a < 13 → ∀ b, b < 13 → a ≠ b → (TX4 a).2.1 ≠ (TX4 b).2.1 := by decide +kernel
theorem tyX4_ok : ∀ k, k < 13 → parseFieldDescriptor (TX4 k).2.2.1 = some (tyX4 k) := by decide +kernel
abbrev cX4_init : ByteArray := prog_6_method_1_code
def yX4_init : MethodName := ⟨RX4, "<init>", "(LLineMonitor$Tape;LLineMonitor$Names;)V"⟩
abbrev cX4_look : ByteArray := prog_6_method_2_code
def yX4_look : MethodName := ⟨RX4, "look", "(I)I"⟩
abbrev cX4_isLetter : ByteArray := prog_6_method_3_code
def yX4_isLetter : MethodName := ⟨RX4, "isLetter", "(I)Z"⟩
abbrev cX4_isDigit : ByteArray := prog_6_method_4_code
def yX4_isDigit : MethodName := ⟨RX4, "isDigit", "(I)Z"⟩
abbrev cX4_behindBlanks : ByteArray := prog_6_method_5_code
def yX4_behindBlanks : MethodName := ⟨RX4, "behindBlanks", "(I)I"⟩
abbrev cX4_behindWord : ByteArray := prog_6_method_6_code
def yX4_behindWord : MethodName := ⟨RX4, "behindWord", "(I)I"⟩
abbrev cX4_keyOf : ByteArray := prog_6_method_7_code
def yX4_keyOf : MethodName := ⟨RX4, "keyOf", "(II)J"⟩
abbrev cX4_begin : ByteArray := prog_6_method_8_code
def yX4_begin : MethodName := ⟨RX4, "begin", "(II)V"⟩
abbrev cX4_readLabel : ByteArray := prog_6_method_9_code
def yX4_readLabel : MethodName := ⟨RX4, "readLabel", "()Z"⟩
abbrev cX4_readBody : ByteArray := prog_6_method_10_code
def yX4_readBody : MethodName := ⟨RX4, "readBody", "(I)V"⟩
abbrev cX4_hasMore : ByteArray := prog_6_method_11_code
def yX4_hasMore : MethodName := ⟨RX4, "hasMore", "()Z"⟩
abbrev cX4_readMarksAhead : ByteArray := prog_6_method_12_code
def yX4_readMarksAhead : MethodName := ⟨RX4, "readMarksAhead", "()V"⟩
abbrev cX4_beginsOperand : ByteArray := prog_6_method_13_code
def yX4_beginsOperand : MethodName := ⟨RX4, "beginsOperand", "(I)Z"⟩
abbrev cX4_readMarkBehind : ByteArray := prog_6_method_14_code
def yX4_readMarkBehind : MethodName := ⟨RX4, "readMarkBehind", "()V"⟩
abbrev cX4_readExpression : ByteArray := prog_6_method_15_code
def yX4_readExpression : MethodName := ⟨RX4, "readExpression", "()I"⟩
abbrev cX4_readTerm : ByteArray := prog_6_method_16_code
def yX4_readTerm : MethodName := ⟨RX4, "readTerm", "()I"⟩
abbrev cX4_readNumber : ByteArray := prog_6_method_17_code
def yX4_readNumber : MethodName := ⟨RX4, "readNumber", "(I)I"⟩
def RX5 : String := "LineMonitor$Tape"
def TX5 : u_T := fun k => match k with
  | 0 => ("LineMonitor$Tape", "bytes", "[B", true)
  | _ => ("LineMonitor$Tape", "length", "I", false)
def tyX5 : Nat → FieldType := fun k => match k with
  | 0 => .array .byte
  | _ => .int
theorem nmX5 : ∀ a, a < 2 → ∀ b, b < 2 → a ≠ b → (TX5 a).2.1 ≠ (TX5 b).2.1 := by decide +kernel
theorem tyX5_ok : ∀ k, k < 2 → parseFieldDescriptor (TX5 k).2.2.1 = some (tyX5 k) := by decide +kernel
abbrev cX5_init : ByteArray := prog_7_method_1_code
def yX5_init : MethodName := ⟨RX5, "<init>", "()V"⟩
abbrev cX5_hasRoomFor : ByteArray := prog_7_method_2_code
def yX5_hasRoomFor : MethodName := ⟨RX5, "hasRoomFor", "(I)Z"⟩
abbrev cX5_append : ByteArray := prog_7_method_3_code
def yX5_append : MethodName := ⟨RX5, "append", "(I)V"⟩
abbrev cX5_cut : ByteArray := prog_7_method_4_code
def yX5_cut : MethodName := ⟨RX5, "cut", "(I)Z"⟩
abbrev cX5_at : ByteArray := prog_7_method_5_code
def yX5_at : MethodName := ⟨RX5, "at", "(I)I"⟩
def RX6 : String := "LineMonitor$User"
def TX6 : u_T := fun k => match k with
  | 0 => ("LineMonitor$User", "number", "I", true)
  | 1 => ("LineMonitor$User", "words", "[I", true)
  | 2 => ("LineMonitor$User", "file", "[I", true)
  | 3 => ("LineMonitor$User", "paper", "[I", true)
  | 4 => ("LineMonitor$User", "input", "LLineMonitor$Letters;", true)
  | 5 => ("LineMonitor$User", "output", "LLineMonitor$Letters;", true)
  | 6 => ("LineMonitor$User", "pc", "I", false)
  | 7 => ("LineMonitor$User", "ac", "I", false)
  | 8 => ("LineMonitor$User", "link", "I", false)
  | 9 => ("LineMonitor$User", "switchWord", "I", false)
  | 10 => ("LineMonitor$User", "state", "I", false)
  | 11 => ("LineMonitor$User", "toSleep", "I", false)
  | 12 => ("LineMonitor$User", "toRun", "I", false)
  | 13 => ("LineMonitor$User", "lost", "I", false)
  | 14 => ("LineMonitor$User", "field", "I", false)
  | 15 => ("LineMonitor$User", "printed", "I", false)
  | _ => ("LineMonitor$User", "steps", "I", false)
def tyX6 : Nat → FieldType := fun k => match k with
  | 0 => .int
  | 1 => .array .int
  | 2 => .array .int
  | 3 => .array .int
  | 4 => .object "LineMonitor$Letters"
  | 5 => .object "LineMonitor$Letters"
  | 6 => .int
  | 7 => .int
  | 8 => .int
  | 9 => .int
  | 10 => .int
  | 11 => .int
  | 12 => .int
  | 13 => .int
  | 14 => .int
  | 15 => .int
  | _ => .int
theorem nmX6 : ∀ a, a < 17 → ∀ b, b < 17 → a ≠ b → (TX6 a).2.1 ≠ (TX6 b).2.1 := by decide +kernel
theorem tyX6_ok : ∀ k, k < 17 → parseFieldDescriptor (TX6 k).2.2.1 = some (tyX6 k) := by decide +kernel
abbrev cX6_init : ByteArray := prog_8_method_1_code
def yX6_init : MethodName := ⟨RX6, "<init>", "(I)V"⟩
abbrev cX6_doInstruction : ByteArray := prog_8_method_2_code
def yX6_doInstruction : MethodName := ⟨RX6, "doInstruction", "()V"⟩
abbrev cX6_skip : ByteArray := prog_8_method_3_code
def yX6_skip : MethodName := ⟨RX6, "skip", "()V"⟩
abbrev cX6_add : ByteArray := prog_8_method_4_code
def yX6_add : MethodName := ⟨RX6, "add", "(I)V"⟩
abbrev cX6_refer : ByteArray := prog_8_method_5_code
def yX6_refer : MethodName := ⟨RX6, "refer", "(II)V"⟩
abbrev cX6_addressIn : ByteArray := prog_8_method_6_code
def yX6_addressIn : MethodName := ⟨RX6, "addressIn", "(II)I"⟩
abbrev cX6_operate : ByteArray := prog_8_method_7_code
def yX6_operate : MethodName := ⟨RX6, "operate", "(I)V"⟩
abbrev cX6_turn : ByteArray := prog_8_method_8_code
def yX6_turn : MethodName := ⟨RX6, "turn", "(II)V"⟩
abbrev cX6_test : ByteArray := prog_8_method_9_code
def yX6_test : MethodName := ⟨RX6, "test", "(I)V"⟩
abbrev cX6_useDevice : ByteArray := prog_8_method_10_code
def yX6_useDevice : MethodName := ⟨RX6, "useDevice", "(II)V"⟩
abbrev cX6_readKey : ByteArray := prog_8_method_11_code
def yX6_readKey : MethodName := ⟨RX6, "readKey", "(I)V"⟩
abbrev cX6_waitAt : ByteArray := prog_8_method_12_code
def yX6_waitAt : MethodName := ⟨RX6, "waitAt", "(II)V"⟩
abbrev cX6_fallAsleep : ByteArray := prog_8_method_13_code
def yX6_fallAsleep : MethodName := ⟨RX6, "fallAsleep", "()V"⟩
abbrev cX6_moveBlock : ByteArray := prog_8_method_14_code
def yX6_moveBlock : MethodName := ⟨RX6, "moveBlock", "(Z)V"⟩
abbrev cX6_print : ByteArray := prog_8_method_15_code
def yX6_print : MethodName := ⟨RX6, "print", "()Z"⟩
abbrev cX6_onPaper : ByteArray := prog_8_method_16_code
def yX6_onPaper : MethodName := ⟨RX6, "onPaper", "(I)I"⟩
abbrev cX6_tell : ByteArray := prog_8_method_17_code
def yX6_tell : MethodName := ⟨RX6, "tell", "(I)I"⟩
def RX7 : String := "LineMonitor"
def TX7 : u_T := fun k => match k with
  | 0 => ("LineMonitor", "tape", "LLineMonitor$Tape;", true)
  | 1 => ("LineMonitor", "assembler", "LLineMonitor$Assembler;", true)
  | _ => ("LineMonitor", "home", "LLineMonitor$House;", true)
def tyX7 : Nat → FieldType := fun k => match k with
  | 0 => .object "LineMonitor$Tape"
  | 1 => .object "LineMonitor$Assembler"
  | _ => .object "LineMonitor$House"
theorem nmX7 : ∀ a, a < 3 → ∀ b, b < 3 → a ≠ b → (TX7 a).2.1 ≠ (TX7 b).2.1 := by decide +kernel
theorem tyX7_ok : ∀ k, k < 3 → parseFieldDescriptor (TX7 k).2.2.1 = some (tyX7 k) := by decide +kernel
abbrev cX7_init : ByteArray := prog_1_method_1_code
def yX7_init : MethodName := ⟨RX7, "<init>", "()V"⟩
abbrev cX7_open : ByteArray := prog_1_method_2_code
def yX7_open : MethodName := ⟨RX7, "open", "(IIII)I"⟩
abbrev cX7_feed : ByteArray := prog_1_method_3_code
def yX7_feed : MethodName := ⟨RX7, "feed", "(IIIII)I"⟩
abbrev cX7_end : ByteArray := prog_1_method_4_code
def yX7_end : MethodName := ⟨RX7, "end", "(I)I"⟩
abbrev cX7_assemble : ByteArray := prog_1_method_5_code
def yX7_assemble : MethodName := ⟨RX7, "assemble", "(I)I"⟩
abbrev cX7_fault : ByteArray := prog_1_method_6_code
def yX7_fault : MethodName := ⟨RX7, "fault", "(I)I"⟩
abbrev cX7_poke : ByteArray := prog_1_method_7_code
def yX7_poke : MethodName := ⟨RX7, "poke", "(III)I"⟩
abbrev cX7_peek : ByteArray := prog_1_method_8_code
def yX7_peek : MethodName := ⟨RX7, "peek", "(II)I"⟩
abbrev cX7_store : ByteArray := prog_1_method_9_code
def yX7_store : MethodName := ⟨RX7, "store", "(IIII)I"⟩
abbrev cX7_block : ByteArray := prog_1_method_10_code
def yX7_block : MethodName := ⟨RX7, "block", "(III)I"⟩
abbrev cX7_switches : ByteArray := prog_1_method_11_code
def yX7_switches : MethodName := ⟨RX7, "switches", "(II)I"⟩
abbrev cX7_start : ByteArray := prog_1_method_12_code
def yX7_start : MethodName := ⟨RX7, "start", "(II)I"⟩
abbrev cX7_key : ByteArray := prog_1_method_13_code
def yX7_key : MethodName := ⟨RX7, "key", "(II)I"⟩
abbrev cX7_run : ByteArray := prog_1_method_14_code
def yX7_run : MethodName := ⟨RX7, "run", "(I)I"⟩
abbrev cX7_about : ByteArray := prog_1_method_15_code
def yX7_about : MethodName := ⟨RX7, "about", "(II)I"⟩
abbrev cX7_letter : ByteArray := prog_1_method_16_code
def yX7_letter : MethodName := ⟨RX7, "letter", "(II)I"⟩
abbrev cX7_waiting : ByteArray := prog_1_method_17_code
def yX7_waiting : MethodName := ⟨RX7, "waiting", "(II)I"⟩
abbrev cX7_queued : ByteArray := prog_1_method_18_code
def yX7_queued : MethodName := ⟨RX7, "queued", "(II)I"⟩
abbrev cX7_house : ByteArray := prog_1_method_19_code
def yX7_house : MethodName := ⟨RX7, "house", "(I)I"⟩
abbrev cX7_row : ByteArray := prog_1_method_20_code
def yX7_row : MethodName := ⟨RX7, "row", "(I)I"⟩
abbrev cX7_digest : ByteArray := prog_1_method_21_code
def yX7_digest : MethodName := ⟨RX7, "digest", "()J"⟩
abbrev cX7_digestOf : ByteArray := prog_1_method_22_code
def yX7_digestOf : MethodName := ⟨RX7, "digestOf", "(LLineMonitor$User;J)J"⟩
abbrev cX7_within : ByteArray := prog_1_method_23_code
def yX7_within : MethodName := ⟨RX7, "within", "(III)Z"⟩
abbrev cX7_isWord : ByteArray := prog_1_method_24_code
def yX7_isWord : MethodName := ⟨RX7, "isWord", "(I)Z"⟩
abbrev cX7_isInFile : ByteArray := prog_1_method_25_code
def yX7_isInFile : MethodName := ⟨RX7, "isInFile", "(II)Z"⟩
def RX8 : String := "LineMonitorModel"
def TX8 : u_T := fun k => match k with
  | 0 => ("LineMonitorModel", "users", "I", false)
  | 1 => ("LineMonitorModel", "fields", "I", false)
  | 2 => ("LineMonitorModel", "quantum", "I", false)
  | 3 => ("LineMonitorModel", "beat", "I", false)
  | 4 => ("LineMonitorModel", "steps", "I", false)
  | 5 => ("LineMonitorModel", "ticks", "I", false)
  | 6 => ("LineMonitorModel", "swaps", "I", false)
  | 7 => ("LineMonitorModel", "turn", "I", false)
  | 8 => ("LineMonitorModel", "idle", "I", false)
  | 9 => ("LineMonitorModel", "running", "I", false)
  | 10 => ("LineMonitorModel", "left", "I", false)
  | 11 => ("LineMonitorModel", "row", "[I", true)
  | 12 => ("LineMonitorModel", "rowMany", "I", false)
  | 13 => ("LineMonitorModel", "fieldOf", "[I", true)
  | 14 => ("LineMonitorModel", "words", "[I", true)
  | 15 => ("LineMonitorModel", "files", "[I", true)
  | 16 => ("LineMonitorModel", "ac", "[I", true)
  | 17 => ("LineMonitorModel", "pc", "[I", true)
  | 18 => ("LineMonitorModel", "link", "[I", true)
  | 19 => ("LineMonitorModel", "state", "[I", true)
  | 20 => ("LineMonitorModel", "sleep", "[I", true)
  | 21 => ("LineMonitorModel", "switches", "[I", true)
  | 22 => ("LineMonitorModel", "lost", "[I", true)
  | 23 => ("LineMonitorModel", "did", "[I", true)
  | 24 => ("LineMonitorModel", "input", "[I", true)
  | 25 => ("LineMonitorModel", "inputMany", "[I", true)
  | 26 => ("LineMonitorModel", "output", "[I", true)
  | 27 => ("LineMonitorModel", "outputMany", "[I", true)
  | 28 => ("LineMonitorModel", "paper", "[I", true)
  | 29 => ("LineMonitorModel", "paperMany", "[I", true)
  | 30 => ("LineMonitorModel", "tape", "[I", true)
  | 31 => ("LineMonitorModel", "taped", "I", false)
  | 32 => ("LineMonitorModel", "faultWhy", "I", false)
  | 33 => ("LineMonitorModel", "faultLine", "I", false)
  | 34 => ("LineMonitorModel", "names", "[J", true)
  | 35 => ("LineMonitorModel", "values", "[I", true)
  | 36 => ("LineMonitorModel", "nameMany", "I", false)
  | 37 => ("LineMonitorModel", "known", "I", false)
  | 38 => ("LineMonitorModel", "put", "[I", true)
  | 39 => ("LineMonitorModel", "isLiteral", "[Z", true)
  | 40 => ("LineMonitorModel", "nextLiteral", "[I", true)
  | 41 => ("LineMonitorModel", "putMany", "I", false)
  | 42 => ("LineMonitorModel", "dot", "I", false)
  | 43 => ("LineMonitorModel", "at", "I", false)
  | 44 => ("LineMonitorModel", "stop", "I", false)
  | 45 => ("LineMonitorModel", "value", "I", false)
  | _ => ("LineMonitorModel", "hasValue", "Z", false)
def tyX8 : Nat → FieldType := fun k => match k with
  | 0 => .int
  | 1 => .int
  | 2 => .int
  | 3 => .int
  | 4 => .int
  | 5 => .int
  | 6 => .int
  | 7 => .int
  | 8 => .int
  | 9 => .int
  | 10 => .int
  | 11 => .array .int
  | 12 => .int
  | 13 => .array .int
  | 14 => .array .int
  | 15 => .array .int
  | 16 => .array .int
  | 17 => .array .int
  | 18 => .array .int
  | 19 => .array .int
  | 20 => .array .int
  | 21 => .array .int
  | 22 => .array .int
  | 23 => .array .int
  | 24 => .array .int
  | 25 => .array .int
  | 26 => .array .int
  | 27 => .array .int
  | 28 => .array .int
  | 29 => .array .int
  | 30 => .array .int
  | 31 => .int
  | 32 => .int
  | 33 => .int
  | 34 => .array .long
  | 35 => .array .int
  | 36 => .int
  | 37 => .int
  | 38 => .array .int
  | 39 => .array .boolean
  | 40 => .array .int
  | 41 => .int
  | 42 => .int
  | 43 => .int
  | 44 => .int
  | 45 => .int
  | _ => .boolean
theorem nmX8 : ∀ a, a < 47 → ∀ b, b < 47 → a ≠ b → (TX8 a).2.1 ≠ (TX8 b).2.1 := by decide +kernel
theorem tyX8_ok : ∀ k, k < 47 → parseFieldDescriptor (TX8 k).2.2.1 = some (tyX8 k) := by decide +kernel
abbrev cX8_init : ByteArray := prog_10_method_1_code
def yX8_init : MethodName := ⟨RX8, "<init>", "()V"⟩
abbrev cX8_three : ByteArray := prog_10_method_2_code
def yX8_three : MethodName := ⟨RX8, "three", "(IIII)V"⟩
abbrev cX8_isIn : ByteArray := prog_10_method_3_code
def yX8_isIn : MethodName := ⟨RX8, "isIn", "(III)Z"⟩
abbrev cX8_isUser : ByteArray := prog_10_method_4_code
def yX8_isUser : MethodName := ⟨RX8, "isUser", "(I)Z"⟩
abbrev cX8_get : ByteArray := prog_10_method_5_code
def yX8_get : MethodName := ⟨RX8, "get", "(II)I"⟩
abbrev cX8_set : ByteArray := prog_10_method_6_code
def yX8_set : MethodName := ⟨RX8, "set", "(III)V"⟩
abbrev cX8_sum : ByteArray := prog_10_method_7_code
def yX8_sum : MethodName := ⟨RX8, "sum", "(II)V"⟩
abbrev cX8_skip : ByteArray := prog_10_method_8_code
def yX8_skip : MethodName := ⟨RX8, "skip", "(IZ)V"⟩
abbrev cX8_doInstruction : ByteArray := prog_10_method_9_code
def yX8_doInstruction : MethodName := ⟨RX8, "doInstruction", "(I)V"⟩
abbrev cX8_memory : ByteArray := prog_10_method_10_code
def yX8_memory : MethodName := ⟨RX8, "memory", "(III)V"⟩
abbrev cX8_turns : ByteArray := prog_10_method_11_code
def yX8_turns : MethodName := ⟨RX8, "turns", "(II)V"⟩
abbrev cX8_skips : ByteArray := prog_10_method_12_code
def yX8_skips : MethodName := ⟨RX8, "skips", "(II)V"⟩
abbrev cX8_device : ByteArray := prog_10_method_13_code
def yX8_device : MethodName := ⟨RX8, "device", "(III)V"⟩
abbrev cX8_taken : ByteArray := prog_10_method_14_code
def yX8_taken : MethodName := ⟨RX8, "taken", "([I[II)I"⟩
abbrev cX8_transfer : ByteArray := prog_10_method_15_code
def yX8_transfer : MethodName := ⟨RX8, "transfer", "(IZ)V"⟩
abbrev cX8_leave : ByteArray := prog_10_method_16_code
def yX8_leave : MethodName := ⟨RX8, "leave", "(II)V"⟩
abbrev cX8_ready : ByteArray := prog_10_method_17_code
def yX8_ready : MethodName := ⟨RX8, "ready", "(I)V"⟩
abbrev cX8_tick : ByteArray := prog_10_method_18_code
def yX8_tick : MethodName := ⟨RX8, "tick", "()V"⟩
abbrev cX8_dispatch : ByteArray := prog_10_method_19_code
def yX8_dispatch : MethodName := ⟨RX8, "dispatch", "()V"⟩
abbrev cX8_step : ByteArray := prog_10_method_20_code
def yX8_step : MethodName := ⟨RX8, "step", "()V"⟩
abbrev cX8_open : ByteArray := prog_10_method_21_code
def yX8_open : MethodName := ⟨RX8, "open", "(IIII)I"⟩
abbrev cX8_lay : ByteArray := prog_10_method_22_code
def yX8_lay : MethodName := ⟨RX8, "lay", "(I)V"⟩
abbrev cX8_feed : ByteArray := prog_10_method_23_code
def yX8_feed : MethodName := ⟨RX8, "feed", "(IIIII)I"⟩
abbrev cX8_end : ByteArray := prog_10_method_24_code
def yX8_end : MethodName := ⟨RX8, "end", "(I)I"⟩
abbrev cX8_fault : ByteArray := prog_10_method_25_code
def yX8_fault : MethodName := ⟨RX8, "fault", "(I)I"⟩
abbrev cX8_poke : ByteArray := prog_10_method_26_code
def yX8_poke : MethodName := ⟨RX8, "poke", "(III)I"⟩
abbrev cX8_peek : ByteArray := prog_10_method_27_code
def yX8_peek : MethodName := ⟨RX8, "peek", "(II)I"⟩
abbrev cX8_isPlace : ByteArray := prog_10_method_28_code
def yX8_isPlace : MethodName := ⟨RX8, "isPlace", "(III)Z"⟩
abbrev cX8_store : ByteArray := prog_10_method_29_code
def yX8_store : MethodName := ⟨RX8, "store", "(IIII)I"⟩
abbrev cX8_block : ByteArray := prog_10_method_30_code
def yX8_block : MethodName := ⟨RX8, "block", "(III)I"⟩
abbrev cX8_switches : ByteArray := prog_10_method_31_code
def yX8_switches : MethodName := ⟨RX8, "switches", "(II)I"⟩
abbrev cX8_start : ByteArray := prog_10_method_32_code
def yX8_start : MethodName := ⟨RX8, "start", "(II)I"⟩
abbrev cX8_key : ByteArray := prog_10_method_33_code
def yX8_key : MethodName := ⟨RX8, "key", "(II)I"⟩
abbrev cX8_run : ByteArray := prog_10_method_34_code
def yX8_run : MethodName := ⟨RX8, "run", "(I)I"⟩
abbrev cX8_about : ByteArray := prog_10_method_35_code
def yX8_about : MethodName := ⟨RX8, "about", "(II)I"⟩
abbrev cX8_letter : ByteArray := prog_10_method_36_code
def yX8_letter : MethodName := ⟨RX8, "letter", "(II)I"⟩
abbrev cX8_waiting : ByteArray := prog_10_method_37_code
def yX8_waiting : MethodName := ⟨RX8, "waiting", "(II)I"⟩
abbrev cX8_queued : ByteArray := prog_10_method_38_code
def yX8_queued : MethodName := ⟨RX8, "queued", "(II)I"⟩
abbrev cX8_house : ByteArray := prog_10_method_39_code
def yX8_house : MethodName := ⟨RX8, "house", "(I)I"⟩
abbrev cX8_row : ByteArray := prog_10_method_40_code
def yX8_row : MethodName := ⟨RX8, "row", "(I)I"⟩
abbrev cX8_digest : ByteArray := prog_10_method_41_code
def yX8_digest : MethodName := ⟨RX8, "digest", "()J"⟩
abbrev cX8_isLetter : ByteArray := prog_10_method_42_code
def yX8_isLetter : MethodName := ⟨RX8, "isLetter", "(I)Z"⟩
abbrev cX8_isDigit : ByteArray := prog_10_method_43_code
def yX8_isDigit : MethodName := ⟨RX8, "isDigit", "(I)Z"⟩
abbrev cX8_signOf : ByteArray := prog_10_method_44_code
def yX8_signOf : MethodName := ⟨RX8, "signOf", "(I)I"⟩
abbrev cX8_look : ByteArray := prog_10_method_45_code
def yX8_look : MethodName := ⟨RX8, "look", "(I)I"⟩
abbrev cX8_blanks : ByteArray := prog_10_method_46_code
def yX8_blanks : MethodName := ⟨RX8, "blanks", "()V"⟩
abbrev cX8_wordEnd : ByteArray := prog_10_method_47_code
def yX8_wordEnd : MethodName := ⟨RX8, "wordEnd", "(I)I"⟩
abbrev cX8_isName : ByteArray := prog_10_method_48_code
def yX8_isName : MethodName := ⟨RX8, "isName", "(I)Z"⟩
abbrev cX8_nameAt : ByteArray := prog_10_method_49_code
def yX8_nameAt : MethodName := ⟨RX8, "nameAt", "(I)J"⟩
abbrev cX8_find : ByteArray := prog_10_method_50_code
def yX8_find : MethodName := ⟨RX8, "find", "(J)I"⟩
abbrev cX8_memoryAt : ByteArray := prog_10_method_51_code
def yX8_memoryAt : MethodName := ⟨RX8, "memoryAt", "(I)I"⟩
abbrev cX8_isLabel : ByteArray := prog_10_method_52_code
def yX8_isLabel : MethodName := ⟨RX8, "isLabel", "()Z"⟩
abbrev cX8_isTelling : ByteArray := prog_10_method_53_code
def yX8_isTelling : MethodName := ⟨RX8, "isTelling", "()Z"⟩
abbrev cX8_isBy : ByteArray := prog_10_method_54_code
def yX8_isBy : MethodName := ⟨RX8, "isBy", "()Z"⟩
abbrev cX8_term : ByteArray := prog_10_method_55_code
def yX8_term : MethodName := ⟨RX8, "term", "(I)Z"⟩
abbrev cX8_expression : ByteArray := prog_10_method_56_code
def yX8_expression : MethodName := ⟨RX8, "expression", "()Z"⟩
abbrev cX8_ends : ByteArray := prog_10_method_57_code
def yX8_ends : MethodName := ⟨RX8, "ends", "()Z"⟩
abbrev cX8_isRight : ByteArray := prog_10_method_58_code
def yX8_isRight : MethodName := ⟨RX8, "isRight", "()Z"⟩
abbrev cX8_isRightMemory : ByteArray := prog_10_method_59_code
def yX8_isRightMemory : MethodName := ⟨RX8, "isRightMemory", "()Z"⟩
abbrev cX8_isRightRow : ByteArray := prog_10_method_60_code
def yX8_isRightRow : MethodName := ⟨RX8, "isRightRow", "()Z"⟩
abbrev cX8_tell : ByteArray := prog_10_method_61_code
def yX8_tell : MethodName := ⟨RX8, "tell", "(JI)I"⟩
abbrev cX8_firstPass : ByteArray := prog_10_method_62_code
def yX8_firstPass : MethodName := ⟨RX8, "firstPass", "()I"⟩
abbrev cX8_comesTo : ByteArray := prog_10_method_63_code
def yX8_comesTo : MethodName := ⟨RX8, "comesTo", "(IIZ)I"⟩
abbrev cX8_literalFor : ByteArray := prog_10_method_64_code
def yX8_literalFor : MethodName := ⟨RX8, "literalFor", "(I)I"⟩
abbrev cX8_secondPass : ByteArray := prog_10_method_65_code
def yX8_secondPass : MethodName := ⟨RX8, "secondPass", "()I"⟩
abbrev cX8_memoryWord : ByteArray := prog_10_method_66_code
def yX8_memoryWord : MethodName := ⟨RX8, "memoryWord", "(I)I"⟩
abbrev cX8_rowWord : ByteArray := prog_10_method_67_code
def yX8_rowWord : MethodName := ⟨RX8, "rowWord", "()I"⟩
abbrev cX8_statement : ByteArray := prog_10_method_68_code
def yX8_statement : MethodName := ⟨RX8, "statement", "(III)I"⟩
abbrev cX8_lineIn : ByteArray := prog_10_method_69_code
def yX8_lineIn : MethodName := ⟨RX8, "lineIn", "(III)I"⟩
abbrev cX8_passes : ByteArray := prog_10_method_70_code
def yX8_passes : MethodName := ⟨RX8, "passes", "(I)Z"⟩
abbrev cX8_assemble : ByteArray := prog_10_method_71_code
def yX8_assemble : MethodName := ⟨RX8, "assemble", "(I)I"⟩
def RJ0 : String := "java/lang/String"
abbrev cJ0_length_8abf5 : ByteArray := prog_11_method_54_code
def yJ0_length_8abf5 : MethodName := ⟨RJ0, "length", "()I"⟩
abbrev cJ0_charAt_5068e : ByteArray := prog_11_method_56_code
def yJ0_charAt_5068e : MethodName := ⟨RJ0, "charAt", "(I)C"⟩
abbrev cJ0_coder_7d493 : ByteArray := prog_11_method_152_code
def yJ0_coder_7d493 : MethodName := ⟨RJ0, "coder", "()B"⟩
abbrev cJ0_isLatin1_aae02 : ByteArray := prog_11_method_154_code
def yJ0_isLatin1_aae02 : MethodName := ⟨RJ0, "isLatin1", "()Z"⟩
abbrev cJ0_checkIndex_df160 : ByteArray := prog_11_method_155_code
def yJ0_checkIndex_df160 : MethodName := ⟨RJ0, "checkIndex", "(II)V"⟩
def RJ1 : String := "java/lang/StringLatin1"
abbrev cJ1_charAt_3b067 : ByteArray := prog_12_method_2_code
def yJ1_charAt_3b067 : MethodName := ⟨RJ1, "charAt", "([BI)C"⟩
def RJ2 : String := "java/lang/StringUTF16"
abbrev cJ2_getChar_3b067 : ByteArray := prog_13_method_5_code
def yJ2_getChar_3b067 : MethodName := ⟨RJ2, "getChar", "([BI)C"⟩
abbrev cJ2_length_9d52b : ByteArray := prog_13_method_6_code
def yJ2_length_9d52b : MethodName := ⟨RJ2, "length", "([B)I"⟩
abbrev cJ2_charAt_3b067 : ByteArray := prog_13_method_83_code
def yJ2_charAt_3b067 : MethodName := ⟨RJ2, "charAt", "([BI)C"⟩
abbrev cJ2_checkIndex_2214a : ByteArray := prog_13_method_91_code
def yJ2_checkIndex_2214a : MethodName := ⟨RJ2, "checkIndex", "(I[B)V"⟩
def RJ7 : String := "java/util/Arrays"
abbrev cJ7_fill_53178 : ByteArray := prog_14_method_103_code
def yJ7_fill_53178 : MethodName := ⟨RJ7, "fill", "([II)V"⟩
def RJ3 : String := "jdk/internal/util/Preconditions"
abbrev cJ3_checkIndex_8e157 : ByteArray := prog_15_method_11_code
def yJ3_checkIndex_8e157 : MethodName := ⟨RJ3, "checkIndex", "(IILjava/util/function/BiFunction;)I"⟩
def RL : String := "LineMonitorLaw"
abbrev cL_law : ByteArray := code
def yL_law : MethodName := ⟨RL, "law", "([I)Z"⟩
abbrev vwCl : List vw_C := [(RX0, TX0, 11), (RX1, TX1, 15), (RX2, TX2, 3), (RX3, TX3, 3), (RX4, TX4, 13), (RX5, TX5, 2), (RX6, TX6, 17), (RX7, TX7, 3), (RX8, TX8, 47)]
