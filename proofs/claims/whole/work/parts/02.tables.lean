def oNL : List String := ["LineMonitor$Assembler", "LineMonitor$House", "LineMonitor$Letters", "LineMonitor$Names", "LineMonitor$Reader", "LineMonitor$Tape", "LineMonitor$User", "LineMonitor", "LineMonitorModel", "LineMonitorLaw", "java/lang/String", "java/lang/StringLatin1", "java/lang/StringUTF16", "java/util/Arrays", "jdk/internal/util/Preconditions"]
def oN (o : Nat) : String := oNL.getD o ""
def mTb_0 : List (Nat × MethodName × ByteArray × Nat × Option FieldType × Nat × Nat × Nat) := [(9, ⟨"LineMonitorLaw", "law", "([I)Z"⟩, code, 4, (some .boolean), 1, 600000, 7302250), (0, ⟨"LineMonitor$Assembler", "<init>", "(LLineMonitor$Tape;)V"⟩, prog_2_method_1_code, 2, none, 1, 8, 12806), (0, ⟨"LineMonitor$Assembler", "begin", "()V"⟩, prog_2_method_2_code, 2, none, 0, 0, 0), (0, ⟨"LineMonitor$Assembler", "goOver", "(Z)V"⟩, prog_2_method_3_code, 8, none, 1, 0, 0), (0, ⟨"LineMonitor$Assembler", "doFirst", "(II)I"⟩, prog_2_method_4_code, 4, (some .int), 2, 0, 0), (0, ⟨"LineMonitor$Assembler", "skipLabels", "()V"⟩, prog_2_method_5_code, 3, none, 0, 0, 0), (0, ⟨"LineMonitor$Assembler", "tellLabels", "()I"⟩, prog_2_method_6_code, 3, (some .int), 0, 0, 0), (0, ⟨"LineMonitor$Assembler", "doSecond", "()I"⟩, prog_2_method_7_code, 1, (some .int), 0, 0, 0), (0, ⟨"LineMonitor$Assembler", "putMemory", "()I"⟩, prog_2_method_8_code, 4, (some .int), 0, 0, 0), (0, ⟨"LineMonitor$Assembler", "literalFor", "(I)I"⟩, prog_2_method_9_code, 6, (some .int), 1, 0, 0), (0, ⟨"LineMonitor$Assembler", "putNext", "(I)I"⟩, prog_2_method_10_code, 3, (some .int), 1, 0, 0), (0, ⟨"LineMonitor$Assembler", "put", "(II)Z"⟩, prog_2_method_11_code, 4, (some .boolean), 2, 0, 0), (0, ⟨"LineMonitor$Assembler", "deliver", "([I)I"⟩, prog_2_method_12_code, 4, (some .int), 1, 0, 0), (1, ⟨"LineMonitor$House", "<init>", "()V"⟩, prog_3_method_1_code, 2, none, 0, 67, 70096), (1, ⟨"LineMonitor$House", "isOpen", "()Z"⟩, prog_3_method_2_code, 1, (some .boolean), 0, 0, 0), (1, ⟨"LineMonitor$House", "begin", "(IIII)V"⟩, prog_3_method_3_code, 5, none, 4, 0, 0), (1, ⟨"LineMonitor$House", "userAt", "(I)LLineMonitor$User;"⟩, prog_3_method_4_code, 2, (some (.object "LineMonitor$User")), 1, 0, 0), (1, ⟨"LineMonitor$House", "makeReady", "(LLineMonitor$User;)V"⟩, prog_3_method_5_code, 2, none, 1, 0, 0), (1, ⟨"LineMonitor$House", "choose", "()V"⟩, prog_3_method_6_code, 3, none, 0, 0, 0), (1, ⟨"LineMonitor$House", "swapIn", "(LLineMonitor$User;)V"⟩, prog_3_method_7_code, 3, none, 1, 0, 0), (1, ⟨"LineMonitor$House", "step", "()Z"⟩, prog_3_method_8_code, 2, (some .boolean), 0, 0, 0), (1, ⟨"LineMonitor$House", "doRunnersInstruction", "(LLineMonitor$User;)V"⟩, prog_3_method_9_code, 2, none, 1, 0, 0), (1, ⟨"LineMonitor$House", "tick", "()V"⟩, prog_3_method_10_code, 3, none, 0, 0, 0), (1, ⟨"LineMonitor$House", "tickOf", "(LLineMonitor$User;)V"⟩, prog_3_method_11_code, 2, none, 1, 0, 0), (1, ⟨"LineMonitor$House", "tickOfRunner", "(LLineMonitor$User;)V"⟩, prog_3_method_12_code, 2, none, 1, 0, 0), (1, ⟨"LineMonitor$House", "inRow", "(I)I"⟩, prog_3_method_13_code, 3, (some .int), 1, 0, 0), (1, ⟨"LineMonitor$House", "tell", "(I)I"⟩, prog_3_method_14_code, 2, (some .int), 1, 0, 0), (2, ⟨"LineMonitor$Letters", "<init>", "()V"⟩, prog_4_method_1_code, 1, none, 0, 1, 16), (2, ⟨"LineMonitor$Letters", "add", "(I)Z"⟩, prog_4_method_2_code, 2, (some .boolean), 1, 0, 0), (2, ⟨"LineMonitor$Letters", "take", "()I"⟩, prog_4_method_3_code, 2, (some .int), 0, 0, 0)]
def mTb_1 : List (Nat × MethodName × ByteArray × Nat × Option FieldType × Nat × Nat × Nat) := [(2, ⟨"LineMonitor$Letters", "at", "(I)I"⟩, prog_4_method_4_code, 2, (some .int), 1, 0, 0), (3, ⟨"LineMonitor$Names", "<init>", "()V"⟩, prog_5_method_1_code, 1, none, 0, 2, 470), (3, ⟨"LineMonitor$Names", "addAll", "(Ljava/lang/String;[I)V"⟩, prog_5_method_2_code, 8, none, 2, 0, 0), (3, ⟨"LineMonitor$Names", "longer", "(JI)J"⟩, prog_5_method_3_code, 3, (some .long), 2, 0, 0), (3, ⟨"LineMonitor$Names", "add", "(JI)V"⟩, prog_5_method_4_code, 4, none, 2, 0, 0), (3, ⟨"LineMonitor$Names", "forget", "()V"⟩, prog_5_method_5_code, 1, none, 0, 0, 0), (3, ⟨"LineMonitor$Names", "find", "(J)I"⟩, prog_5_method_6_code, 4, (some .int), 1, 0, 0), (3, ⟨"LineMonitor$Names", "valueOf", "(J)I"⟩, prog_5_method_7_code, 4, (some .int), 1, 0, 0), (3, ⟨"LineMonitor$Names", "tell", "(JI)I"⟩, prog_5_method_8_code, 4, (some .int), 2, 0, 0), (4, ⟨"LineMonitor$Reader", "<init>", "(LLineMonitor$Tape;LLineMonitor$Names;)V"⟩, prog_6_method_1_code, 3, none, 2, 0, 0), (4, ⟨"LineMonitor$Reader", "look", "(I)I"⟩, prog_6_method_2_code, 2, (some .int), 1, 0, 0), (4, ⟨"LineMonitor$Reader", "isLetter", "(I)Z"⟩, prog_6_method_3_code, 1, (some .boolean), 1, 0, 0), (4, ⟨"LineMonitor$Reader", "isDigit", "(I)Z"⟩, prog_6_method_4_code, 1, (some .boolean), 1, 0, 0), (4, ⟨"LineMonitor$Reader", "behindBlanks", "(I)I"⟩, prog_6_method_5_code, 3, (some .int), 1, 0, 0), (4, ⟨"LineMonitor$Reader", "behindWord", "(I)I"⟩, prog_6_method_6_code, 3, (some .int), 1, 0, 0), (4, ⟨"LineMonitor$Reader", "keyOf", "(II)J"⟩, prog_6_method_7_code, 6, (some .long), 2, 0, 0), (4, ⟨"LineMonitor$Reader", "begin", "(II)V"⟩, prog_6_method_8_code, 3, none, 2, 0, 0), (4, ⟨"LineMonitor$Reader", "readLabel", "()Z"⟩, prog_6_method_9_code, 2, (some .boolean), 0, 0, 0), (4, ⟨"LineMonitor$Reader", "readBody", "(I)V"⟩, prog_6_method_10_code, 4, none, 1, 0, 0), (4, ⟨"LineMonitor$Reader", "hasMore", "()Z"⟩, prog_6_method_11_code, 2, (some .boolean), 0, 0, 0), (4, ⟨"LineMonitor$Reader", "readMarksAhead", "()V"⟩, prog_6_method_12_code, 2, none, 0, 0, 0), (4, ⟨"LineMonitor$Reader", "beginsOperand", "(I)Z"⟩, prog_6_method_13_code, 1, (some .boolean), 1, 0, 0), (4, ⟨"LineMonitor$Reader", "readMarkBehind", "()V"⟩, prog_6_method_14_code, 2, none, 0, 0, 0), (4, ⟨"LineMonitor$Reader", "readExpression", "()I"⟩, prog_6_method_15_code, 6, (some .int), 0, 0, 0), (4, ⟨"LineMonitor$Reader", "readTerm", "()I"⟩, prog_6_method_16_code, 6, (some .int), 0, 0, 0), (4, ⟨"LineMonitor$Reader", "readNumber", "(I)I"⟩, prog_6_method_17_code, 5, (some .int), 1, 0, 0), (5, ⟨"LineMonitor$Tape", "<init>", "()V"⟩, prog_7_method_1_code, 1, none, 0, 1, 8000), (5, ⟨"LineMonitor$Tape", "hasRoomFor", "(I)Z"⟩, prog_7_method_2_code, 2, (some .boolean), 1, 0, 0), (5, ⟨"LineMonitor$Tape", "append", "(I)V"⟩, prog_7_method_3_code, 3, none, 1, 0, 0), (5, ⟨"LineMonitor$Tape", "cut", "(I)Z"⟩, prog_7_method_4_code, 2, (some .boolean), 1, 0, 0)]
def mTb_2 : List (Nat × MethodName × ByteArray × Nat × Option FieldType × Nat × Nat × Nat) := [(5, ⟨"LineMonitor$Tape", "at", "(I)I"⟩, prog_7_method_5_code, 2, (some .int), 1, 0, 0), (6, ⟨"LineMonitor$User", "<init>", "(I)V"⟩, prog_8_method_1_code, 2, none, 1, 7, 8742), (6, ⟨"LineMonitor$User", "doInstruction", "()V"⟩, prog_8_method_2_code, 3, none, 0, 0, 0), (6, ⟨"LineMonitor$User", "skip", "()V"⟩, prog_8_method_3_code, 1, none, 0, 0, 0), (6, ⟨"LineMonitor$User", "add", "(I)V"⟩, prog_8_method_4_code, 3, none, 1, 0, 0), (6, ⟨"LineMonitor$User", "refer", "(II)V"⟩, prog_8_method_5_code, 4, none, 2, 0, 0), (6, ⟨"LineMonitor$User", "addressIn", "(II)I"⟩, prog_8_method_6_code, 4, (some .int), 2, 0, 0), (6, ⟨"LineMonitor$User", "operate", "(I)V"⟩, prog_8_method_7_code, 4, none, 1, 0, 0), (6, ⟨"LineMonitor$User", "turn", "(II)V"⟩, prog_8_method_8_code, 5, none, 2, 0, 0), (6, ⟨"LineMonitor$User", "test", "(I)V"⟩, prog_8_method_9_code, 4, none, 1, 0, 0), (6, ⟨"LineMonitor$User", "useDevice", "(II)V"⟩, prog_8_method_10_code, 3, none, 2, 0, 0), (6, ⟨"LineMonitor$User", "readKey", "(I)V"⟩, prog_8_method_11_code, 3, none, 1, 0, 0), (6, ⟨"LineMonitor$User", "waitAt", "(II)V"⟩, prog_8_method_12_code, 3, none, 2, 0, 0), (6, ⟨"LineMonitor$User", "fallAsleep", "()V"⟩, prog_8_method_13_code, 1, none, 0, 0, 0), (6, ⟨"LineMonitor$User", "moveBlock", "(Z)V"⟩, prog_8_method_14_code, 6, none, 1, 0, 0), (6, ⟨"LineMonitor$User", "print", "()Z"⟩, prog_8_method_15_code, 2, (some .boolean), 0, 0, 0), (6, ⟨"LineMonitor$User", "onPaper", "(I)I"⟩, prog_8_method_16_code, 3, (some .int), 1, 0, 0), (6, ⟨"LineMonitor$User", "tell", "(I)I"⟩, prog_8_method_17_code, 2, (some .int), 1, 0, 0), (7, ⟨"LineMonitor", "<init>", "()V"⟩, prog_1_method_1_code, 1, none, 0, 79, 90930), (7, ⟨"LineMonitor", "open", "(IIII)I"⟩, prog_1_method_2_code, 5, (some .int), 4, 0, 0), (7, ⟨"LineMonitor", "feed", "(IIIII)I"⟩, prog_1_method_3_code, 6, (some .int), 5, 0, 0), (7, ⟨"LineMonitor", "end", "(I)I"⟩, prog_1_method_4_code, 2, (some .int), 1, 0, 0), (7, ⟨"LineMonitor", "assemble", "(I)I"⟩, prog_1_method_5_code, 3, (some .int), 1, 0, 0), (7, ⟨"LineMonitor", "fault", "(I)I"⟩, prog_1_method_6_code, 2, (some .int), 1, 0, 0), (7, ⟨"LineMonitor", "poke", "(III)I"⟩, prog_1_method_7_code, 5, (some .int), 3, 0, 0), (7, ⟨"LineMonitor", "peek", "(II)I"⟩, prog_1_method_8_code, 4, (some .int), 2, 0, 0), (7, ⟨"LineMonitor", "store", "(IIII)I"⟩, prog_1_method_9_code, 6, (some .int), 4, 0, 0), (7, ⟨"LineMonitor", "block", "(III)I"⟩, prog_1_method_10_code, 5, (some .int), 3, 0, 0), (7, ⟨"LineMonitor", "switches", "(II)I"⟩, prog_1_method_11_code, 4, (some .int), 2, 0, 0), (7, ⟨"LineMonitor", "start", "(II)I"⟩, prog_1_method_12_code, 4, (some .int), 2, 0, 0)]
def mTb_3 : List (Nat × MethodName × ByteArray × Nat × Option FieldType × Nat × Nat × Nat) := [(7, ⟨"LineMonitor", "key", "(II)I"⟩, prog_1_method_13_code, 4, (some .int), 2, 0, 0), (7, ⟨"LineMonitor", "run", "(I)I"⟩, prog_1_method_14_code, 4, (some .int), 1, 0, 0), (7, ⟨"LineMonitor", "about", "(II)I"⟩, prog_1_method_15_code, 4, (some .int), 2, 0, 0), (7, ⟨"LineMonitor", "letter", "(II)I"⟩, prog_1_method_16_code, 4, (some .int), 2, 0, 0), (7, ⟨"LineMonitor", "waiting", "(II)I"⟩, prog_1_method_17_code, 4, (some .int), 2, 0, 0), (7, ⟨"LineMonitor", "queued", "(II)I"⟩, prog_1_method_18_code, 4, (some .int), 2, 0, 0), (7, ⟨"LineMonitor", "house", "(I)I"⟩, prog_1_method_19_code, 2, (some .int), 1, 0, 0), (7, ⟨"LineMonitor", "row", "(I)I"⟩, prog_1_method_20_code, 2, (some .int), 1, 0, 0), (7, ⟨"LineMonitor", "digest", "()J"⟩, prog_1_method_21_code, 5, (some .long), 0, 0, 0), (7, ⟨"LineMonitor", "digestOf", "(LLineMonitor$User;J)J"⟩, prog_1_method_22_code, 9, (some .long), 2, 0, 0), (7, ⟨"LineMonitor", "within", "(III)Z"⟩, prog_1_method_23_code, 3, (some .boolean), 3, 0, 0), (7, ⟨"LineMonitor", "isWord", "(I)Z"⟩, prog_1_method_24_code, 1, (some .boolean), 1, 0, 0), (7, ⟨"LineMonitor", "isInFile", "(II)Z"⟩, prog_1_method_25_code, 2, (some .boolean), 2, 0, 0), (8, ⟨"LineMonitorModel", "<init>", "()V"⟩, prog_10_method_1_code, 1, none, 0, 24, 86736), (8, ⟨"LineMonitorModel", "three", "(IIII)V"⟩, prog_10_method_2_code, 5, none, 4, 0, 0), (8, ⟨"LineMonitorModel", "isIn", "(III)Z"⟩, prog_10_method_3_code, 3, (some .boolean), 3, 0, 0), (8, ⟨"LineMonitorModel", "isUser", "(I)Z"⟩, prog_10_method_4_code, 2, (some .boolean), 1, 0, 0), (8, ⟨"LineMonitorModel", "get", "(II)I"⟩, prog_10_method_5_code, 3, (some .int), 2, 0, 0), (8, ⟨"LineMonitorModel", "set", "(III)V"⟩, prog_10_method_6_code, 4, none, 3, 0, 0), (8, ⟨"LineMonitorModel", "sum", "(II)V"⟩, prog_10_method_7_code, 3, none, 2, 0, 0), (8, ⟨"LineMonitorModel", "skip", "(IZ)V"⟩, prog_10_method_8_code, 3, none, 2, 0, 0), (8, ⟨"LineMonitorModel", "doInstruction", "(I)V"⟩, prog_10_method_9_code, 4, none, 1, 0, 0), (8, ⟨"LineMonitorModel", "memory", "(III)V"⟩, prog_10_method_10_code, 5, none, 3, 0, 0), (8, ⟨"LineMonitorModel", "turns", "(II)V"⟩, prog_10_method_11_code, 7, none, 2, 0, 0), (8, ⟨"LineMonitorModel", "skips", "(II)V"⟩, prog_10_method_12_code, 4, none, 2, 0, 0), (8, ⟨"LineMonitorModel", "device", "(III)V"⟩, prog_10_method_13_code, 4, none, 3, 0, 0), (8, ⟨"LineMonitorModel", "taken", "([I[II)I"⟩, prog_10_method_14_code, 5, (some .int), 3, 0, 0), (8, ⟨"LineMonitorModel", "transfer", "(IZ)V"⟩, prog_10_method_15_code, 6, none, 2, 0, 0), (8, ⟨"LineMonitorModel", "leave", "(II)V"⟩, prog_10_method_16_code, 3, none, 2, 0, 0), (8, ⟨"LineMonitorModel", "ready", "(I)V"⟩, prog_10_method_17_code, 2, none, 1, 0, 0)]
def mTb_4 : List (Nat × MethodName × ByteArray × Nat × Option FieldType × Nat × Nat × Nat) := [(8, ⟨"LineMonitorModel", "tick", "()V"⟩, prog_10_method_18_code, 2, none, 0, 0, 0), (8, ⟨"LineMonitorModel", "dispatch", "()V"⟩, prog_10_method_19_code, 3, none, 0, 0, 0), (8, ⟨"LineMonitorModel", "step", "()V"⟩, prog_10_method_20_code, 1, none, 0, 0, 0), (8, ⟨"LineMonitorModel", "open", "(IIII)I"⟩, prog_10_method_21_code, 5, (some .int), 4, 0, 0), (8, ⟨"LineMonitorModel", "lay", "(I)V"⟩, prog_10_method_22_code, 3, none, 1, 0, 0), (8, ⟨"LineMonitorModel", "feed", "(IIIII)I"⟩, prog_10_method_23_code, 6, (some .int), 5, 0, 0), (8, ⟨"LineMonitorModel", "end", "(I)I"⟩, prog_10_method_24_code, 2, (some .int), 1, 0, 0), (8, ⟨"LineMonitorModel", "fault", "(I)I"⟩, prog_10_method_25_code, 2, (some .int), 1, 0, 0), (8, ⟨"LineMonitorModel", "poke", "(III)I"⟩, prog_10_method_26_code, 4, (some .int), 3, 0, 0), (8, ⟨"LineMonitorModel", "peek", "(II)I"⟩, prog_10_method_27_code, 3, (some .int), 2, 0, 0), (8, ⟨"LineMonitorModel", "isPlace", "(III)Z"⟩, prog_10_method_28_code, 4, (some .boolean), 3, 0, 0), (8, ⟨"LineMonitorModel", "store", "(IIII)I"⟩, prog_10_method_29_code, 5, (some .int), 4, 0, 0), (8, ⟨"LineMonitorModel", "block", "(III)I"⟩, prog_10_method_30_code, 4, (some .int), 3, 0, 0), (8, ⟨"LineMonitorModel", "switches", "(II)I"⟩, prog_10_method_31_code, 3, (some .int), 2, 0, 0), (8, ⟨"LineMonitorModel", "start", "(II)I"⟩, prog_10_method_32_code, 3, (some .int), 2, 0, 0), (8, ⟨"LineMonitorModel", "key", "(II)I"⟩, prog_10_method_33_code, 3, (some .int), 2, 0, 0), (8, ⟨"LineMonitorModel", "run", "(I)I"⟩, prog_10_method_34_code, 4, (some .int), 1, 0, 0), (8, ⟨"LineMonitorModel", "about", "(II)I"⟩, prog_10_method_35_code, 3, (some .int), 2, 0, 0), (8, ⟨"LineMonitorModel", "letter", "(II)I"⟩, prog_10_method_36_code, 3, (some .int), 2, 0, 0), (8, ⟨"LineMonitorModel", "waiting", "(II)I"⟩, prog_10_method_37_code, 3, (some .int), 2, 0, 0), (8, ⟨"LineMonitorModel", "queued", "(II)I"⟩, prog_10_method_38_code, 3, (some .int), 2, 0, 0), (8, ⟨"LineMonitorModel", "house", "(I)I"⟩, prog_10_method_39_code, 2, (some .int), 1, 0, 0), (8, ⟨"LineMonitorModel", "row", "(I)I"⟩, prog_10_method_40_code, 2, (some .int), 1, 0, 0), (8, ⟨"LineMonitorModel", "digest", "()J"⟩, prog_10_method_41_code, 5, (some .long), 0, 0, 0), (8, ⟨"LineMonitorModel", "isLetter", "(I)Z"⟩, prog_10_method_42_code, 1, (some .boolean), 1, 0, 0), (8, ⟨"LineMonitorModel", "isDigit", "(I)Z"⟩, prog_10_method_43_code, 1, (some .boolean), 1, 0, 0), (8, ⟨"LineMonitorModel", "signOf", "(I)I"⟩, prog_10_method_44_code, 1, (some .int), 1, 0, 0), (8, ⟨"LineMonitorModel", "look", "(I)I"⟩, prog_10_method_45_code, 2, (some .int), 1, 0, 0), (8, ⟨"LineMonitorModel", "blanks", "()V"⟩, prog_10_method_46_code, 1, none, 0, 0, 0), (8, ⟨"LineMonitorModel", "wordEnd", "(I)I"⟩, prog_10_method_47_code, 3, (some .int), 1, 0, 0)]
def mTb_5 : List (Nat × MethodName × ByteArray × Nat × Option FieldType × Nat × Nat × Nat) := [(8, ⟨"LineMonitorModel", "isName", "(I)Z"⟩, prog_10_method_48_code, 2, (some .boolean), 1, 0, 0), (8, ⟨"LineMonitorModel", "nameAt", "(I)J"⟩, prog_10_method_49_code, 6, (some .long), 1, 0, 0), (8, ⟨"LineMonitorModel", "find", "(J)I"⟩, prog_10_method_50_code, 5, (some .int), 1, 0, 0), (8, ⟨"LineMonitorModel", "memoryAt", "(I)I"⟩, prog_10_method_51_code, 3, (some .int), 1, 0, 0), (8, ⟨"LineMonitorModel", "isLabel", "()Z"⟩, prog_10_method_52_code, 1, (some .boolean), 0, 0, 0), (8, ⟨"LineMonitorModel", "isTelling", "()Z"⟩, prog_10_method_53_code, 1, (some .boolean), 0, 0, 0), (8, ⟨"LineMonitorModel", "isBy", "()Z"⟩, prog_10_method_54_code, 3, (some .boolean), 0, 0, 0), (8, ⟨"LineMonitorModel", "term", "(I)Z"⟩, prog_10_method_55_code, 5, (some .boolean), 1, 0, 0), (8, ⟨"LineMonitorModel", "expression", "()Z"⟩, prog_10_method_56_code, 3, (some .boolean), 0, 0, 0), (8, ⟨"LineMonitorModel", "ends", "()Z"⟩, prog_10_method_57_code, 1, (some .boolean), 0, 0, 0), (8, ⟨"LineMonitorModel", "isRight", "()Z"⟩, prog_10_method_58_code, 1, (some .boolean), 0, 0, 0), (8, ⟨"LineMonitorModel", "isRightMemory", "()Z"⟩, prog_10_method_59_code, 1, (some .boolean), 0, 0, 0), (8, ⟨"LineMonitorModel", "isRightRow", "()Z"⟩, prog_10_method_60_code, 3, (some .boolean), 0, 0, 0), (8, ⟨"LineMonitorModel", "tell", "(JI)I"⟩, prog_10_method_61_code, 4, (some .int), 2, 0, 0), (8, ⟨"LineMonitorModel", "firstPass", "()I"⟩, prog_10_method_62_code, 5, (some .int), 0, 0, 0), (8, ⟨"LineMonitorModel", "comesTo", "(IIZ)I"⟩, prog_10_method_63_code, 4, (some .int), 3, 0, 0), (8, ⟨"LineMonitorModel", "literalFor", "(I)I"⟩, prog_10_method_64_code, 4, (some .int), 1, 0, 0), (8, ⟨"LineMonitorModel", "secondPass", "()I"⟩, prog_10_method_65_code, 2, (some .int), 0, 0, 0), (8, ⟨"LineMonitorModel", "memoryWord", "(I)I"⟩, prog_10_method_66_code, 7, (some .int), 1, 0, 0), (8, ⟨"LineMonitorModel", "rowWord", "()I"⟩, prog_10_method_67_code, 4, (some .int), 0, 0, 0), (8, ⟨"LineMonitorModel", "statement", "(III)I"⟩, prog_10_method_68_code, 4, (some .int), 3, 0, 0), (8, ⟨"LineMonitorModel", "lineIn", "(III)I"⟩, prog_10_method_69_code, 8, (some .int), 3, 0, 0), (8, ⟨"LineMonitorModel", "passes", "(I)Z"⟩, prog_10_method_70_code, 5, (some .boolean), 1, 0, 0), (8, ⟨"LineMonitorModel", "assemble", "(I)I"⟩, prog_10_method_71_code, 4, (some .int), 1, 0, 0), (10, ⟨"java/lang/String", "length", "()I"⟩, prog_11_method_54_code, 1, (some .int), 0, 0, 0), (10, ⟨"java/lang/String", "charAt", "(I)C"⟩, prog_11_method_56_code, 2, (some .char), 1, 0, 0), (10, ⟨"java/lang/String", "coder", "()B"⟩, prog_11_method_152_code, 1, (some .byte), 0, 0, 0), (10, ⟨"java/lang/String", "isLatin1", "()Z"⟩, prog_11_method_154_code, 1, (some .boolean), 0, 0, 0), (10, ⟨"java/lang/String", "checkIndex", "(II)V"⟩, prog_11_method_155_code, 2, none, 2, 0, 0), (11, ⟨"java/lang/StringLatin1", "charAt", "([BI)C"⟩, prog_12_method_2_code, 2, (some .char), 2, 0, 0)]
def mTb_6 : List (Nat × MethodName × ByteArray × Nat × Option FieldType × Nat × Nat × Nat) := [(12, ⟨"java/lang/StringUTF16", "getChar", "([BI)C"⟩, prog_13_method_5_code, 2, (some .char), 2, 0, 0), (12, ⟨"java/lang/StringUTF16", "length", "([B)I"⟩, prog_13_method_6_code, 1, (some .int), 1, 0, 0), (12, ⟨"java/lang/StringUTF16", "charAt", "([BI)C"⟩, prog_13_method_83_code, 2, (some .char), 2, 0, 0), (12, ⟨"java/lang/StringUTF16", "checkIndex", "(I[B)V"⟩, prog_13_method_91_code, 2, none, 2, 0, 0), (13, ⟨"java/util/Arrays", "fill", "([II)V"⟩, prog_14_method_103_code, 4, none, 2, 0, 0), (14, ⟨"jdk/internal/util/Preconditions", "checkIndex", "(IILjava/util/function/BiFunction;)I"⟩, prog_15_method_11_code, 3, (some .int), 3, 0, 0)]
def mTb : List (Nat × MethodName × ByteArray × Nat × Option FieldType × Nat × Nat × Nat) := mTb_0 ++ (mTb_1 ++ (mTb_2 ++ (mTb_3 ++ (mTb_4 ++ (mTb_5 ++ (mTb_6))))))
abbrev mDf : Nat × MethodName × ByteArray × Nat × Option FieldType × Nat × Nat × Nat := (99, ⟨"", "", ""⟩, ⟨#[]⟩, 0, none, 0, 0, 0)
def mRow (y : Nat) := mTb.getD y mDf
def mO (y : Nat) : Nat := (mRow y).1
def mN (y : Nat) : MethodName := (mRow y).2.1
def mB (y : Nat) : ByteArray := (mRow y).2.2.1
def mL (y : Nat) : Nat := (mRow y).2.2.2.1
def mR (y : Nat) : Option FieldType := (mRow y).2.2.2.2.1
def mA (y : Nat) : Nat := (mRow y).2.2.2.2.2.1
def mC (y : Nat) : Nat := (mRow y).2.2.2.2.2.2.1
def mS (y : Nat) : Nat := (mRow y).2.2.2.2.2.2.2
def mMany : Nat := 186
def fL_0 : List (Nat × Nat × Nat × Nat × Nat) := [(5, 9, 5, 0, 111), (4, 28, 5, 0, 112), (5, 13, 5, 1, 113), (4, 23, 5, 1, 114), (0, 67, 5, 1, 115), (7, 52, 5, 1, 116), (3, 11, 3, 0, 206), (3, 15, 3, 1, 207), (3, 61, 3, 2, 208), (4, 9, 4, 0, 224), (4, 15, 4, 1, 225), (4, 52, 4, 2, 226), (4, 19, 4, 3, 227), (4, 66, 4, 4, 228), (0, 102, 4, 5, 229), (4, 92, 4, 5, 230), (0, 111, 4, 6, 231), (4, 62, 4, 6, 232), (0, 135, 4, 7, 233), (4, 89, 4, 7, 234), (0, 138, 4, 8, 235), (4, 72, 4, 8, 236), (0, 129, 4, 9, 237), (4, 76, 4, 9, 238), (0, 105, 4, 10, 239), (4, 69, 4, 10, 240), (0, 95, 4, 11, 241), (4, 79, 4, 11, 242), (0, 108, 4, 12, 243), (4, 82, 4, 12, 244), (0, 32, 0, 0, 273), (0, 12, 0, 1, 274), (0, 41, 0, 2, 275), (0, 18, 0, 3, 276), (0, 22, 0, 4, 277), (0, 26, 0, 5, 278), (0, 45, 0, 6, 279), (0, 29, 0, 7, 280), (0, 64, 0, 8, 281), (0, 58, 0, 9, 282), (7, 79, 0, 9, 283), (0, 61, 0, 10, 284), (7, 82, 0, 10, 285), (2, 9, 2, 0, 328), (2, 19, 2, 1, 329), (2, 15, 2, 2, 330), (6, 80, 2, 2, 331), (6, 31, 6, 0, 339), (1, 109, 6, 0, 340), (6, 9, 6, 1, 341)]
def fL_1 : List (Nat × Nat × Nat × Nat × Nat) := [(7, 69, 6, 1, 342), (6, 15, 6, 2, 343), (7, 92, 6, 2, 344), (6, 18, 6, 3, 345), (6, 24, 6, 4, 346), (7, 111, 6, 4, 347), (6, 28, 6, 5, 348), (7, 136, 6, 5, 349), (6, 35, 6, 6, 350), (7, 101, 6, 6, 351), (6, 58, 6, 7, 352), (6, 61, 6, 8, 353), (6, 74, 6, 9, 354), (7, 95, 6, 9, 355), (1, 45, 6, 10, 356), (6, 77, 6, 10, 357), (7, 98, 6, 10, 358), (1, 106, 6, 11, 359), (6, 103, 6, 11, 360), (1, 52, 6, 12, 361), (6, 119, 6, 12, 362), (7, 120, 6, 13, 363), (6, 113, 6, 13, 364), (1, 55, 6, 14, 365), (6, 116, 6, 14, 366), (6, 110, 6, 15, 367), (6, 38, 6, 16, 368), (1, 11, 1, 0, 404), (1, 30, 1, 1, 405), (1, 33, 1, 2, 406), (1, 36, 1, 3, 407), (1, 39, 1, 4, 408), (1, 17, 1, 5, 409), (1, 42, 1, 6, 410), (1, 20, 1, 7, 411), (1, 23, 1, 8, 412), (1, 48, 1, 9, 413), (1, 71, 1, 10, 414), (1, 74, 1, 11, 415), (1, 86, 1, 12, 416), (1, 62, 1, 13, 417), (1, 68, 1, 14, 418), (7, 10, 7, 0, 450), (7, 21, 7, 1, 451), (7, 28, 7, 2, 452), (8, 108, 8, 0, 850), (8, 172, 8, 1, 851), (8, 166, 8, 2, 852), (8, 184, 8, 3, 853), (8, 175, 8, 4, 854)]
def fL_2 : List (Nat × Nat × Nat × Nat × Nat) := [(8, 159, 8, 5, 855), (8, 169, 8, 6, 856), (8, 7, 8, 7, 857), (8, 181, 8, 8, 858), (8, 13, 8, 9, 859), (8, 153, 8, 10, 860), (8, 16, 8, 11, 861), (8, 156, 8, 12, 862), (8, 20, 8, 13, 863), (8, 24, 8, 14, 864), (8, 27, 8, 15, 865), (8, 30, 8, 16, 866), (8, 33, 8, 17, 867), (8, 36, 8, 18, 868), (8, 39, 8, 19, 869), (8, 42, 8, 20, 870), (8, 45, 8, 21, 871), (8, 48, 8, 22, 872), (8, 51, 8, 23, 873), (8, 54, 8, 24, 874), (8, 57, 8, 25, 875), (8, 60, 8, 26, 876), (8, 63, 8, 27, 877), (8, 66, 8, 28, 878), (8, 69, 8, 29, 879), (8, 72, 8, 30, 880), (8, 193, 8, 31, 881), (8, 199, 8, 32, 882), (8, 202, 8, 33, 883), (8, 75, 8, 34, 884), (8, 79, 8, 35, 885), (8, 96, 8, 36, 886), (8, 103, 8, 37, 887), (8, 82, 8, 38, 888), (8, 85, 8, 39, 889), (8, 89, 8, 40, 890), (8, 299, 8, 41, 891), (8, 254, 8, 42, 892), (8, 231, 8, 43, 893), (8, 228, 8, 44, 894), (8, 261, 8, 45, 895), (8, 257, 8, 46, 896), (10, 9, 10, 0, 1261), (10, 15, 10, 1, 1262)]
def fL : List (Nat × Nat × Nat × Nat × Nat) := fL_0 ++ (fL_1 ++ (fL_2))
def cL_0 : List (Nat × Nat × Nat × Nat × Nat × Nat × Nat × Nat) := [(9, 9, 1, 78, 99, 100, 83, 0), (7, 1, 3, 0, 102, 0, 0, 0), (7, 9, 4, 56, 107, 108, 84, 0), (5, 1, 3, 0, 110, 0, 0, 0), (7, 18, 1, 1, 125, 126, 85, 0), (0, 3, 3, 0, 128, 0, 0, 0), (0, 11, 1, 31, 131, 132, 86, 0), (3, 3, 3, 0, 134, 0, 0, 0), (3, 24, 0, 32, 138, 140, 86, 0), (3, 51, 0, 174, 142, 143, 87, 144), (10, 335, 0, 176, 146, 147, 87, 148), (3, 57, 0, 175, 152, 153, 87, 154), (10, 492, 0, 177, 156, 157, 87, 158), (10, 495, 2, 179, 160, 161, 88, 0), (11, 9, 2, 178, 163, 164, 87, 0), (10, 1059, 2, 185, 168, 169, 89, 0), (10, 498, 2, 182, 171, 172, 90, 0), (12, 67, 2, 183, 174, 175, 90, 0), (12, 48, 2, 181, 177, 178, 90, 0), (12, 414, 2, 178, 180, 164, 87, 0), (12, 71, 2, 180, 181, 182, 90, 0), (3, 47, 0, 34, 190, 192, 86, 1), (3, 43, 2, 33, 194, 195, 86, 0), (0, 38, 1, 39, 220, 221, 91, 0), (4, 3, 3, 0, 223, 0, 0, 0), (7, 27, 1, 13, 311, 312, 92, 0), (1, 3, 3, 0, 314, 0, 0, 0), (1, 27, 1, 61, 318, 319, 93, 0), (6, 3, 3, 0, 321, 0, 0, 0), (6, 23, 4, 27, 324, 325, 94, 0), (2, 3, 3, 0, 327, 0, 0, 0), (9, 13, 0, 79, 460, 461, 83, 462), (7, 32, 0, 14, 464, 465, 92, 466), (7, 36, 2, 100, 468, 469, 83, 0), (7, 40, 0, 15, 471, 472, 92, 473), (9, 18, 0, 80, 475, 476, 83, 477), (7, 44, 0, 57, 479, 480, 84, 481), (7, 48, 0, 58, 483, 484, 84, 485), (5, 17, 0, 57, 487, 480, 84, 481), (9, 23, 0, 81, 488, 489, 83, 490), (7, 56, 0, 59, 492, 493, 84, 494), (9, 28, 0, 82, 496, 497, 83, 498), (7, 59, 0, 16, 500, 501, 92, 502), (7, 63, 0, 2, 504, 505, 85, 506), (0, 49, 2, 184, 508, 509, 96, 0), (0, 55, 0, 35, 511, 512, 86, 513), (7, 65, 0, 3, 515, 516, 85, 517), (0, 72, 0, 60, 519, 520, 84, 521), (0, 76, 0, 46, 523, 524, 91, 525), (4, 49, 0, 43, 527, 529, 91, 2)]
def cL_1 : List (Nat × Nat × Nat × Nat × Nat × Nat × Nat × Nat) := [(4, 32, 0, 40, 531, 533, 91, 3), (0, 80, 0, 4, 535, 537, 85, 4), (0, 88, 0, 5, 539, 541, 85, 5), (0, 119, 0, 47, 543, 544, 91, 545), (4, 55, 0, 44, 547, 549, 91, 6), (4, 36, 2, 41, 551, 552, 91, 0), (4, 40, 2, 42, 554, 555, 91, 0), (4, 58, 0, 45, 557, 559, 91, 7), (4, 45, 2, 33, 561, 195, 86, 0), (0, 91, 0, 48, 562, 563, 91, 564), (4, 85, 0, 36, 566, 567, 86, 568), (4, 95, 0, 53, 570, 572, 91, 8), (4, 112, 0, 54, 574, 576, 91, 9), (4, 115, 0, 55, 578, 580, 91, 10), (4, 118, 0, 37, 582, 583, 86, 584), (3, 65, 0, 36, 586, 567, 86, 568), (4, 99, 0, 50, 587, 589, 91, 11), (4, 109, 2, 51, 591, 592, 91, 0), (4, 102, 0, 52, 594, 596, 91, 12), (4, 105, 0, 49, 598, 600, 91, 13), (0, 99, 0, 6, 602, 604, 85, 14), (0, 115, 0, 38, 606, 607, 86, 608), (0, 84, 0, 7, 610, 612, 85, 15), (0, 123, 0, 8, 614, 616, 85, 16), (0, 132, 0, 9, 618, 620, 85, 17), (0, 141, 0, 11, 622, 624, 85, 18), (0, 126, 0, 10, 626, 628, 85, 19), (7, 75, 0, 12, 630, 631, 85, 632), (9, 32, 0, 83, 634, 635, 83, 636), (9, 36, 0, 84, 638, 639, 83, 640), (7, 85, 2, 101, 642, 643, 83, 0), (9, 41, 0, 85, 645, 646, 83, 647), (9, 46, 0, 86, 649, 650, 83, 651), (7, 88, 2, 102, 653, 654, 83, 0), (9, 50, 0, 87, 656, 657, 83, 658), (9, 54, 0, 88, 660, 661, 83, 662), (9, 58, 0, 89, 664, 665, 83, 666), (7, 104, 0, 17, 668, 669, 92, 670), (7, 108, 0, 18, 672, 673, 92, 674), (1, 58, 0, 19, 676, 678, 92, 20), (9, 62, 0, 90, 680, 681, 83, 682), (7, 115, 0, 28, 684, 685, 94, 686), (9, 66, 0, 91, 688, 689, 83, 690), (7, 123, 0, 20, 692, 693, 92, 694), (1, 65, 0, 21, 696, 698, 92, 21), (1, 83, 0, 62, 700, 701, 93, 702), (6, 41, 0, 63, 704, 706, 93, 22), (6, 44, 0, 65, 708, 710, 93, 23), (6, 64, 0, 66, 712, 714, 93, 24), (6, 68, 0, 64, 716, 718, 93, 25)]
def cL_2 : List (Nat × Nat × Nat × Nat × Nat × Nat × Nat × Nat) := [(6, 48, 0, 70, 720, 722, 93, 26), (6, 83, 0, 71, 724, 726, 93, 27), (6, 99, 0, 29, 728, 729, 94, 730), (6, 89, 0, 72, 732, 734, 93, 28), (6, 86, 0, 28, 736, 685, 94, 686), (6, 92, 0, 73, 737, 739, 93, 29), (6, 95, 0, 74, 741, 743, 93, 30), (6, 106, 5, 100, 745, 469, 83, 0), (6, 51, 0, 67, 746, 748, 93, 31), (6, 71, 0, 68, 750, 752, 93, 32), (6, 55, 0, 69, 754, 756, 93, 33), (1, 77, 0, 22, 758, 760, 92, 34), (1, 89, 0, 16, 762, 501, 92, 502), (1, 93, 0, 23, 763, 765, 92, 35), (1, 99, 0, 75, 767, 768, 93, 769), (1, 103, 0, 17, 771, 669, 92, 670), (1, 96, 0, 24, 772, 774, 92, 36), (1, 80, 0, 18, 776, 673, 92, 674), (9, 70, 0, 92, 777, 778, 83, 779), (7, 126, 0, 77, 781, 782, 93, 783), (9, 74, 0, 93, 785, 786, 83, 787), (7, 130, 0, 76, 789, 790, 93, 791), (9, 78, 0, 94, 793, 794, 83, 795), (7, 133, 0, 30, 797, 798, 94, 799), (9, 82, 0, 95, 801, 802, 83, 803), (9, 86, 0, 96, 805, 806, 83, 807), (7, 139, 0, 26, 809, 810, 92, 811), (1, 112, 0, 14, 813, 465, 92, 466), (9, 90, 0, 97, 814, 815, 83, 816), (7, 140, 0, 25, 818, 819, 92, 820), (9, 94, 0, 98, 822, 823, 83, 824), (7, 147, 0, 96, 828, 806, 83, 807), (7, 150, 2, 99, 829, 830, 83, 0), (9, 12, 1, 103, 834, 835, 95, 0), (8, 1, 3, 0, 837, 0, 0, 0), (8, 92, 0, 104, 839, 841, 95, 37), (8, 99, 2, 146, 843, 844, 95, 0), (8, 225, 2, 144, 846, 847, 95, 0), (9, 17, 0, 123, 992, 993, 95, 994), (8, 111, 2, 105, 996, 997, 95, 0), (9, 22, 0, 125, 999, 1000, 95, 1001), (8, 196, 0, 124, 1003, 1005, 95, 38), (9, 27, 0, 126, 1007, 1008, 95, 1009), (9, 35, 0, 127, 1011, 1012, 95, 1013), (9, 40, 0, 128, 1015, 1016, 95, 1017), (8, 205, 0, 106, 1019, 1021, 95, 39), (8, 133, 0, 108, 1023, 1025, 95, 40), (9, 45, 0, 129, 1027, 1028, 95, 1029), (8, 115, 0, 107, 1031, 1033, 95, 41), (9, 49, 0, 131, 1035, 1036, 95, 1037)]
def cL_3 : List (Nat × Nat × Nat × Nat × Nat × Nat × Nat × Nat) := [(8, 209, 0, 130, 1039, 1041, 95, 42), (9, 53, 0, 132, 1043, 1044, 95, 1045), (9, 57, 0, 133, 1047, 1048, 95, 1049), (9, 61, 0, 134, 1051, 1052, 95, 1053), (8, 162, 0, 119, 1055, 1057, 95, 43), (8, 190, 0, 121, 1059, 1061, 95, 44), (9, 65, 0, 135, 1063, 1064, 95, 1065), (9, 69, 0, 136, 1067, 1068, 95, 1069), (8, 212, 0, 122, 1071, 1073, 95, 45), (8, 178, 0, 111, 1075, 1077, 95, 46), (8, 119, 0, 112, 1079, 1081, 95, 47), (8, 136, 0, 109, 1083, 1085, 95, 48), (8, 139, 0, 110, 1087, 1089, 95, 49), (8, 123, 0, 115, 1091, 1093, 95, 50), (8, 143, 0, 118, 1095, 1097, 95, 51), (8, 146, 2, 116, 1099, 1100, 95, 0), (8, 150, 0, 117, 1102, 1104, 95, 52), (8, 126, 0, 113, 1106, 1108, 95, 53), (8, 130, 0, 114, 1110, 1112, 95, 54), (8, 187, 0, 120, 1114, 1116, 95, 55), (9, 73, 0, 137, 1118, 1119, 95, 1120), (9, 77, 0, 138, 1122, 1123, 95, 1124), (9, 81, 0, 139, 1126, 1127, 95, 1128), (9, 85, 0, 140, 1130, 1131, 95, 1132), (9, 89, 0, 141, 1134, 1135, 95, 1136), (9, 93, 0, 142, 1138, 1139, 95, 1140), (9, 98, 0, 143, 1142, 1143, 95, 1144), (8, 219, 0, 141, 1148, 1135, 95, 1136), (8, 222, 0, 137, 1149, 1119, 95, 1120), (9, 31, 0, 173, 1150, 1151, 95, 1152), (8, 332, 0, 172, 1154, 1156, 95, 56), (8, 329, 0, 171, 1158, 1160, 95, 57), (8, 325, 0, 170, 1162, 1164, 95, 58), (8, 316, 0, 167, 1166, 1168, 95, 59), (8, 267, 0, 148, 1170, 1172, 95, 60), (8, 270, 0, 154, 1174, 1176, 95, 61), (8, 243, 0, 150, 1178, 1180, 95, 62), (8, 237, 0, 147, 1182, 1184, 95, 63), (8, 240, 0, 149, 1186, 1188, 95, 64), (8, 234, 2, 145, 1190, 1191, 95, 0), (8, 280, 0, 155, 1193, 1195, 95, 65), (8, 274, 0, 158, 1197, 1199, 95, 66), (8, 264, 0, 157, 1201, 1203, 95, 67), (8, 246, 0, 151, 1205, 1207, 95, 68), (8, 250, 0, 152, 1209, 1211, 95, 69), (8, 283, 0, 153, 1213, 1215, 95, 70), (8, 306, 0, 168, 1217, 1219, 95, 71), (8, 292, 0, 156, 1221, 1223, 95, 72), (8, 313, 0, 166, 1225, 1227, 95, 73), (8, 302, 0, 165, 1229, 1231, 95, 74)]
def cL_4 : List (Nat × Nat × Nat × Nat × Nat × Nat × Nat × Nat) := [(8, 309, 0, 169, 1233, 1235, 95, 75), (8, 319, 0, 160, 1237, 1239, 95, 76), (8, 277, 0, 159, 1241, 1243, 95, 77), (8, 286, 0, 161, 1245, 1247, 95, 78), (8, 289, 0, 162, 1249, 1251, 95, 79), (8, 322, 0, 164, 1253, 1255, 95, 80), (8, 295, 0, 163, 1257, 1259, 95, 81)]
def cL : List (Nat × Nat × Nat × Nat × Nat × Nat × Nat × Nat) := cL_0 ++ (cL_1 ++ (cL_2 ++ (cL_3 ++ (cL_4))))
def nL_0 : List (Nat × Nat × Nat × Nat × Nat × Nat) := [(9, 7, 7, 97, 98, 83), (7, 7, 5, 105, 106, 84), (7, 16, 0, 123, 124, 85), (0, 9, 3, 129, 130, 86), (0, 36, 4, 218, 219, 91), (7, 25, 1, 309, 310, 92), (1, 9, 6, 315, 317, 93), (6, 21, 2, 322, 323, 94), (9, 10, 8, 832, 833, 95)]
def nL : List (Nat × Nat × Nat × Nat × Nat × Nat) := nL_0
def sL_0 : List (Nat × Nat × Nat × Nat) := [(3, 21, 0, 136), (10, 38, 1, 150), (10, 1053, 2, 166), (12, 44, 3, 184), (12, 59, 4, 186), (12, 63, 5, 188), (3, 30, 6, 198), (3, 35, 7, 201), (3, 40, 8, 204)]
def sL : List (Nat × Nat × Nat × Nat) := sL_0
def kL_0 : List (Nat × Nat × Value × Nat) := [(3, 19, .ref 0, 135), (3, 28, .ref 1, 197), (3, 33, .ref 2, 200), (3, 38, .ref 3, 203), (7, 143, .long 7, 826), (7, 145, .long 31, 827), (8, 23, .int 32768, 838), (8, 106, .long 37, 849), (8, 215, .long 7, 1146), (8, 217, .long 31, 1147)]
def kL : List (Nat × Nat × Value × Nat) := kL_0
def stL : List (String × String × String) := [("LineMonitor$Names", "MEMORY_VALUES", "[I"), ("java/lang/String", "COMPACT_STRINGS", "Z"), ("jdk/internal/util/Preconditions", "SIOOBE_FORMATTER", "Ljava/util/function/BiFunction;"), ("java/lang/StringUTF16", "$assertionsDisabled", "Z"), ("java/lang/StringUTF16", "HI_BYTE_SHIFT", "I"), ("java/lang/StringUTF16", "LO_BYTE_SHIFT", "I"), ("LineMonitor$Names", "OPERATION_VALUES", "[I"), ("LineMonitor$Names", "TEST_VALUES", "[I"), ("LineMonitor$Names", "DEVICE_VALUES", "[I")]
def gL : List (Nat × Nat × String × Nat) := [(3, 19, "AND TAD ISZ DCA JMS JMP ", 135), (3, 28, "CLA CLL CMA CML RAR RAL RTR RTL IAC NOP ", 197), (3, 33, "SMA SZA SPA SNA SNL SZL SKP OSR HLT CIA ", 200), (3, 38, "KSF KRB TSF TLS SLP RDB WRB WHO ", 203)]
def lyP0 : List Nat := [286, 288, 290, 292, 294, 296, 298, 300, 302, 304, 306]
def lyP1 : List Nat := [419, 421, 423, 425, 427, 429, 431, 433, 435, 437, 439, 441, 443, 445, 447]
def lyP2 : List Nat := [332, 334, 336]
def lyP3 : List Nat := [209, 211, 213]
def lyP4 : List Nat := [245, 247, 249, 251, 253, 255, 257, 259, 261, 263, 265, 267, 269]
def lyP5 : List Nat := [117, 119]
def lyP6 : List Nat := [369, 371, 373, 375, 377, 379, 381, 383, 385, 387, 389, 391, 393, 395, 397, 399, 401]
def lyP7 : List Nat := [453, 455, 457]
def lyP8 : List Nat := [897, 899, 901, 903, 905, 907, 909, 911, 913, 915, 917, 919, 921, 923, 925, 927, 929, 931, 933, 935, 937, 939, 941, 943, 945, 947, 949, 951, 953, 955, 957, 959, 961, 963, 965, 967, 969, 971, 973, 975, 977, 979, 981, 983, 985, 987, 989]
def tyOf (ci k : Nat) : FieldType := match ci with
  | 0 => tyX0 k
  | 1 => tyX1 k
  | 2 => tyX2 k
  | 3 => tyX3 k
  | 4 => tyX4 k
  | 5 => tyX5 k
  | 6 => tyX6 k
  | 7 => tyX7 k
  | 8 => tyX8 k
  | _ => .int
def lyP : List (List Nat) := [lyP0, lyP1, lyP2, lyP3, lyP4, lyP5, lyP6, lyP7, lyP8]
def acP : List (FieldType × Nat) := [(.int, 217), (.byte, 122), (.long, 216), (.boolean, 272)]
def mPs : List Nat := [0, 127, 507, 518, 538, 542, 605, 613, 617, 621, 629, 625, 633, 313, 467, 474, 503, 671, 675, 679, 695, 699, 761, 766, 775, 821, 812, 326, 687, 731, 800, 133, 141, 196, 193, 514, 569, 585, 609, 222, 534, 553, 556, 530, 550, 560, 526, 546, 565, 601, 590, 593, 597, 573, 577, 581, 109, 482, 486, 495, 522, 320, 703, 707, 719, 711, 715, 749, 753, 757, 723, 727, 735, 740, 744, 770, 792, 784, 101, 463, 478, 491, 499, 637, 641, 648, 652, 659, 663, 667, 683, 691, 780, 788, 796, 804, 808, 817, 825, 831, 470, 644, 655, 836, 842, 998, 1022, 1034, 1026, 1086, 1090, 1078, 1082, 1109, 1113, 1094, 1101, 1105, 1098, 1058, 1117, 1062, 1074, 995, 1006, 1002, 1010, 1014, 1018, 1030, 1042, 1038, 1046, 1050, 1054, 1066, 1070, 1121, 1125, 1129, 1133, 1137, 1141, 1145, 848, 1192, 845, 1185, 1173, 1189, 1181, 1208, 1212, 1216, 1177, 1196, 1224, 1204, 1200, 1244, 1240, 1248, 1252, 1260, 1256, 1232, 1228, 1169, 1220, 1236, 1165, 1161, 1157, 1153, 145, 155, 149, 159, 165, 162, 183, 179, 173, 176, 510, 170]
set_option maxRecDepth 100000 in
theorem mc_1 : lw_tbl[127]? = some (Cond.code (mN 1) (mB 1) (mL 1) (mR 1)) := rfl
set_option maxRecDepth 100000 in
theorem mc_2 : lw_tbl[507]? = some (Cond.code (mN 2) (mB 2) (mL 2) (mR 2)) := rfl
set_option maxRecDepth 100000 in
theorem mc_3 : lw_tbl[518]? = some (Cond.code (mN 3) (mB 3) (mL 3) (mR 3)) := rfl
set_option maxRecDepth 100000 in
theorem mc_4 : lw_tbl[538]? = some (Cond.code (mN 4) (mB 4) (mL 4) (mR 4)) := rfl
set_option maxRecDepth 100000 in
theorem mc_5 : lw_tbl[542]? = some (Cond.code (mN 5) (mB 5) (mL 5) (mR 5)) := rfl
set_option maxRecDepth 100000 in
theorem mc_6 : lw_tbl[605]? = some (Cond.code (mN 6) (mB 6) (mL 6) (mR 6)) := rfl
set_option maxRecDepth 100000 in
theorem mc_7 : lw_tbl[613]? = some (Cond.code (mN 7) (mB 7) (mL 7) (mR 7)) := rfl
set_option maxRecDepth 100000 in
theorem mc_8 : lw_tbl[617]? = some (Cond.code (mN 8) (mB 8) (mL 8) (mR 8)) := rfl
set_option maxRecDepth 100000 in
theorem mc_9 : lw_tbl[621]? = some (Cond.code (mN 9) (mB 9) (mL 9) (mR 9)) := rfl
set_option maxRecDepth 100000 in
theorem mc_10 : lw_tbl[629]? = some (Cond.code (mN 10) (mB 10) (mL 10) (mR 10)) := rfl
set_option maxRecDepth 100000 in
theorem mc_11 : lw_tbl[625]? = some (Cond.code (mN 11) (mB 11) (mL 11) (mR 11)) := rfl
set_option maxRecDepth 100000 in
theorem mc_12 : lw_tbl[633]? = some (Cond.code (mN 12) (mB 12) (mL 12) (mR 12)) := rfl
set_option maxRecDepth 100000 in
theorem mc_13 : lw_tbl[313]? = some (Cond.code (mN 13) (mB 13) (mL 13) (mR 13)) := rfl
set_option maxRecDepth 100000 in
theorem mc_14 : lw_tbl[467]? = some (Cond.code (mN 14) (mB 14) (mL 14) (mR 14)) := rfl
set_option maxRecDepth 100000 in
theorem mc_15 : lw_tbl[474]? = some (Cond.code (mN 15) (mB 15) (mL 15) (mR 15)) := rfl
set_option maxRecDepth 100000 in
theorem mc_16 : lw_tbl[503]? = some (Cond.code (mN 16) (mB 16) (mL 16) (mR 16)) := rfl
set_option maxRecDepth 100000 in
theorem mc_17 : lw_tbl[671]? = some (Cond.code (mN 17) (mB 17) (mL 17) (mR 17)) := rfl
set_option maxRecDepth 100000 in
theorem mc_18 : lw_tbl[675]? = some (Cond.code (mN 18) (mB 18) (mL 18) (mR 18)) := rfl
set_option maxRecDepth 100000 in
theorem mc_19 : lw_tbl[679]? = some (Cond.code (mN 19) (mB 19) (mL 19) (mR 19)) := rfl
set_option maxRecDepth 100000 in
theorem mc_20 : lw_tbl[695]? = some (Cond.code (mN 20) (mB 20) (mL 20) (mR 20)) := rfl
set_option maxRecDepth 100000 in
theorem mc_21 : lw_tbl[699]? = some (Cond.code (mN 21) (mB 21) (mL 21) (mR 21)) := rfl
set_option maxRecDepth 100000 in
theorem mc_22 : lw_tbl[761]? = some (Cond.code (mN 22) (mB 22) (mL 22) (mR 22)) := rfl
set_option maxRecDepth 100000 in
theorem mc_23 : lw_tbl[766]? = some (Cond.code (mN 23) (mB 23) (mL 23) (mR 23)) := rfl
set_option maxRecDepth 100000 in
theorem mc_24 : lw_tbl[775]? = some (Cond.code (mN 24) (mB 24) (mL 24) (mR 24)) := rfl
set_option maxRecDepth 100000 in
theorem mc_25 : lw_tbl[821]? = some (Cond.code (mN 25) (mB 25) (mL 25) (mR 25)) := rfl
set_option maxRecDepth 100000 in
theorem mc_26 : lw_tbl[812]? = some (Cond.code (mN 26) (mB 26) (mL 26) (mR 26)) := rfl
set_option maxRecDepth 100000 in
theorem mc_27 : lw_tbl[326]? = some (Cond.code (mN 27) (mB 27) (mL 27) (mR 27)) := rfl
set_option maxRecDepth 100000 in
theorem mc_28 : lw_tbl[687]? = some (Cond.code (mN 28) (mB 28) (mL 28) (mR 28)) := rfl
set_option maxRecDepth 100000 in
theorem mc_29 : lw_tbl[731]? = some (Cond.code (mN 29) (mB 29) (mL 29) (mR 29)) := rfl
set_option maxRecDepth 100000 in
theorem mc_30 : lw_tbl[800]? = some (Cond.code (mN 30) (mB 30) (mL 30) (mR 30)) := rfl
set_option maxRecDepth 100000 in
theorem mc_31 : lw_tbl[133]? = some (Cond.code (mN 31) (mB 31) (mL 31) (mR 31)) := rfl
set_option maxRecDepth 100000 in
theorem mc_32 : lw_tbl[141]? = some (Cond.code (mN 32) (mB 32) (mL 32) (mR 32)) := rfl
set_option maxRecDepth 100000 in
theorem mc_33 : lw_tbl[196]? = some (Cond.code (mN 33) (mB 33) (mL 33) (mR 33)) := rfl
set_option maxRecDepth 100000 in
theorem mc_34 : lw_tbl[193]? = some (Cond.code (mN 34) (mB 34) (mL 34) (mR 34)) := rfl
set_option maxRecDepth 100000 in
theorem mc_35 : lw_tbl[514]? = some (Cond.code (mN 35) (mB 35) (mL 35) (mR 35)) := rfl
set_option maxRecDepth 100000 in
theorem mc_36 : lw_tbl[569]? = some (Cond.code (mN 36) (mB 36) (mL 36) (mR 36)) := rfl
set_option maxRecDepth 100000 in
theorem mc_37 : lw_tbl[585]? = some (Cond.code (mN 37) (mB 37) (mL 37) (mR 37)) := rfl
set_option maxRecDepth 100000 in
theorem mc_38 : lw_tbl[609]? = some (Cond.code (mN 38) (mB 38) (mL 38) (mR 38)) := rfl
set_option maxRecDepth 100000 in
theorem mc_39 : lw_tbl[222]? = some (Cond.code (mN 39) (mB 39) (mL 39) (mR 39)) := rfl
set_option maxRecDepth 100000 in
theorem mc_40 : lw_tbl[534]? = some (Cond.code (mN 40) (mB 40) (mL 40) (mR 40)) := rfl
set_option maxRecDepth 100000 in
theorem mc_41 : lw_tbl[553]? = some (Cond.code (mN 41) (mB 41) (mL 41) (mR 41)) := rfl
set_option maxRecDepth 100000 in
theorem mc_42 : lw_tbl[556]? = some (Cond.code (mN 42) (mB 42) (mL 42) (mR 42)) := rfl
set_option maxRecDepth 100000 in
theorem mc_43 : lw_tbl[530]? = some (Cond.code (mN 43) (mB 43) (mL 43) (mR 43)) := rfl
set_option maxRecDepth 100000 in
theorem mc_44 : lw_tbl[550]? = some (Cond.code (mN 44) (mB 44) (mL 44) (mR 44)) := rfl
set_option maxRecDepth 100000 in
theorem mc_45 : lw_tbl[560]? = some (Cond.code (mN 45) (mB 45) (mL 45) (mR 45)) := rfl
set_option maxRecDepth 100000 in
theorem mc_46 : lw_tbl[526]? = some (Cond.code (mN 46) (mB 46) (mL 46) (mR 46)) := rfl
set_option maxRecDepth 100000 in
theorem mc_47 : lw_tbl[546]? = some (Cond.code (mN 47) (mB 47) (mL 47) (mR 47)) := rfl
set_option maxRecDepth 100000 in
theorem mc_48 : lw_tbl[565]? = some (Cond.code (mN 48) (mB 48) (mL 48) (mR 48)) := rfl
set_option maxRecDepth 100000 in
theorem mc_49 : lw_tbl[601]? = some (Cond.code (mN 49) (mB 49) (mL 49) (mR 49)) := rfl
set_option maxRecDepth 100000 in
theorem mc_50 : lw_tbl[590]? = some (Cond.code (mN 50) (mB 50) (mL 50) (mR 50)) := rfl
set_option maxRecDepth 100000 in
theorem mc_51 : lw_tbl[593]? = some (Cond.code (mN 51) (mB 51) (mL 51) (mR 51)) := rfl
set_option maxRecDepth 100000 in
theorem mc_52 : lw_tbl[597]? = some (Cond.code (mN 52) (mB 52) (mL 52) (mR 52)) := rfl
set_option maxRecDepth 100000 in
theorem mc_53 : lw_tbl[573]? = some (Cond.code (mN 53) (mB 53) (mL 53) (mR 53)) := rfl
set_option maxRecDepth 100000 in
theorem mc_54 : lw_tbl[577]? = some (Cond.code (mN 54) (mB 54) (mL 54) (mR 54)) := rfl
set_option maxRecDepth 100000 in
theorem mc_55 : lw_tbl[581]? = some (Cond.code (mN 55) (mB 55) (mL 55) (mR 55)) := rfl
set_option maxRecDepth 100000 in
theorem mc_56 : lw_tbl[109]? = some (Cond.code (mN 56) (mB 56) (mL 56) (mR 56)) := rfl
set_option maxRecDepth 100000 in
theorem mc_57 : lw_tbl[482]? = some (Cond.code (mN 57) (mB 57) (mL 57) (mR 57)) := rfl
set_option maxRecDepth 100000 in
theorem mc_58 : lw_tbl[486]? = some (Cond.code (mN 58) (mB 58) (mL 58) (mR 58)) := rfl
set_option maxRecDepth 100000 in
theorem mc_59 : lw_tbl[495]? = some (Cond.code (mN 59) (mB 59) (mL 59) (mR 59)) := rfl
set_option maxRecDepth 100000 in
theorem mc_60 : lw_tbl[522]? = some (Cond.code (mN 60) (mB 60) (mL 60) (mR 60)) := rfl
set_option maxRecDepth 100000 in
theorem mc_61 : lw_tbl[320]? = some (Cond.code (mN 61) (mB 61) (mL 61) (mR 61)) := rfl
set_option maxRecDepth 100000 in
theorem mc_62 : lw_tbl[703]? = some (Cond.code (mN 62) (mB 62) (mL 62) (mR 62)) := rfl
set_option maxRecDepth 100000 in
theorem mc_63 : lw_tbl[707]? = some (Cond.code (mN 63) (mB 63) (mL 63) (mR 63)) := rfl
set_option maxRecDepth 100000 in
theorem mc_64 : lw_tbl[719]? = some (Cond.code (mN 64) (mB 64) (mL 64) (mR 64)) := rfl
set_option maxRecDepth 100000 in
theorem mc_65 : lw_tbl[711]? = some (Cond.code (mN 65) (mB 65) (mL 65) (mR 65)) := rfl
set_option maxRecDepth 100000 in
theorem mc_66 : lw_tbl[715]? = some (Cond.code (mN 66) (mB 66) (mL 66) (mR 66)) := rfl
set_option maxRecDepth 100000 in
theorem mc_67 : lw_tbl[749]? = some (Cond.code (mN 67) (mB 67) (mL 67) (mR 67)) := rfl
set_option maxRecDepth 100000 in
theorem mc_68 : lw_tbl[753]? = some (Cond.code (mN 68) (mB 68) (mL 68) (mR 68)) := rfl
set_option maxRecDepth 100000 in
theorem mc_69 : lw_tbl[757]? = some (Cond.code (mN 69) (mB 69) (mL 69) (mR 69)) := rfl
set_option maxRecDepth 100000 in
theorem mc_70 : lw_tbl[723]? = some (Cond.code (mN 70) (mB 70) (mL 70) (mR 70)) := rfl
set_option maxRecDepth 100000 in
theorem mc_71 : lw_tbl[727]? = some (Cond.code (mN 71) (mB 71) (mL 71) (mR 71)) := rfl
set_option maxRecDepth 100000 in
theorem mc_72 : lw_tbl[735]? = some (Cond.code (mN 72) (mB 72) (mL 72) (mR 72)) := rfl
set_option maxRecDepth 100000 in
theorem mc_73 : lw_tbl[740]? = some (Cond.code (mN 73) (mB 73) (mL 73) (mR 73)) := rfl
set_option maxRecDepth 100000 in
theorem mc_74 : lw_tbl[744]? = some (Cond.code (mN 74) (mB 74) (mL 74) (mR 74)) := rfl
set_option maxRecDepth 100000 in
theorem mc_75 : lw_tbl[770]? = some (Cond.code (mN 75) (mB 75) (mL 75) (mR 75)) := rfl
set_option maxRecDepth 100000 in
theorem mc_76 : lw_tbl[792]? = some (Cond.code (mN 76) (mB 76) (mL 76) (mR 76)) := rfl
set_option maxRecDepth 100000 in
theorem mc_77 : lw_tbl[784]? = some (Cond.code (mN 77) (mB 77) (mL 77) (mR 77)) := rfl
set_option maxRecDepth 100000 in
theorem mc_78 : lw_tbl[101]? = some (Cond.code (mN 78) (mB 78) (mL 78) (mR 78)) := rfl
set_option maxRecDepth 100000 in
theorem mc_79 : lw_tbl[463]? = some (Cond.code (mN 79) (mB 79) (mL 79) (mR 79)) := rfl
set_option maxRecDepth 100000 in
theorem mc_80 : lw_tbl[478]? = some (Cond.code (mN 80) (mB 80) (mL 80) (mR 80)) := rfl
set_option maxRecDepth 100000 in
theorem mc_81 : lw_tbl[491]? = some (Cond.code (mN 81) (mB 81) (mL 81) (mR 81)) := rfl
set_option maxRecDepth 100000 in
theorem mc_82 : lw_tbl[499]? = some (Cond.code (mN 82) (mB 82) (mL 82) (mR 82)) := rfl
set_option maxRecDepth 100000 in
theorem mc_83 : lw_tbl[637]? = some (Cond.code (mN 83) (mB 83) (mL 83) (mR 83)) := rfl
set_option maxRecDepth 100000 in
theorem mc_84 : lw_tbl[641]? = some (Cond.code (mN 84) (mB 84) (mL 84) (mR 84)) := rfl
set_option maxRecDepth 100000 in
theorem mc_85 : lw_tbl[648]? = some (Cond.code (mN 85) (mB 85) (mL 85) (mR 85)) := rfl
set_option maxRecDepth 100000 in
theorem mc_86 : lw_tbl[652]? = some (Cond.code (mN 86) (mB 86) (mL 86) (mR 86)) := rfl
set_option maxRecDepth 100000 in
theorem mc_87 : lw_tbl[659]? = some (Cond.code (mN 87) (mB 87) (mL 87) (mR 87)) := rfl
set_option maxRecDepth 100000 in
theorem mc_88 : lw_tbl[663]? = some (Cond.code (mN 88) (mB 88) (mL 88) (mR 88)) := rfl
set_option maxRecDepth 100000 in
theorem mc_89 : lw_tbl[667]? = some (Cond.code (mN 89) (mB 89) (mL 89) (mR 89)) := rfl
set_option maxRecDepth 100000 in
theorem mc_90 : lw_tbl[683]? = some (Cond.code (mN 90) (mB 90) (mL 90) (mR 90)) := rfl
set_option maxRecDepth 100000 in
theorem mc_91 : lw_tbl[691]? = some (Cond.code (mN 91) (mB 91) (mL 91) (mR 91)) := rfl
set_option maxRecDepth 100000 in
theorem mc_92 : lw_tbl[780]? = some (Cond.code (mN 92) (mB 92) (mL 92) (mR 92)) := rfl
set_option maxRecDepth 100000 in
theorem mc_93 : lw_tbl[788]? = some (Cond.code (mN 93) (mB 93) (mL 93) (mR 93)) := rfl
set_option maxRecDepth 100000 in
theorem mc_94 : lw_tbl[796]? = some (Cond.code (mN 94) (mB 94) (mL 94) (mR 94)) := rfl
set_option maxRecDepth 100000 in
theorem mc_95 : lw_tbl[804]? = some (Cond.code (mN 95) (mB 95) (mL 95) (mR 95)) := rfl
set_option maxRecDepth 100000 in
theorem mc_96 : lw_tbl[808]? = some (Cond.code (mN 96) (mB 96) (mL 96) (mR 96)) := rfl
set_option maxRecDepth 100000 in
theorem mc_97 : lw_tbl[817]? = some (Cond.code (mN 97) (mB 97) (mL 97) (mR 97)) := rfl
set_option maxRecDepth 100000 in
theorem mc_98 : lw_tbl[825]? = some (Cond.code (mN 98) (mB 98) (mL 98) (mR 98)) := rfl
set_option maxRecDepth 100000 in
theorem mc_99 : lw_tbl[831]? = some (Cond.code (mN 99) (mB 99) (mL 99) (mR 99)) := rfl
set_option maxRecDepth 100000 in
theorem mc_100 : lw_tbl[470]? = some (Cond.code (mN 100) (mB 100) (mL 100) (mR 100)) := rfl
set_option maxRecDepth 100000 in
theorem mc_101 : lw_tbl[644]? = some (Cond.code (mN 101) (mB 101) (mL 101) (mR 101)) := rfl
set_option maxRecDepth 100000 in
theorem mc_102 : lw_tbl[655]? = some (Cond.code (mN 102) (mB 102) (mL 102) (mR 102)) := rfl
set_option maxRecDepth 100000 in
theorem mc_103 : lw_tbl[836]? = some (Cond.code (mN 103) (mB 103) (mL 103) (mR 103)) := rfl
set_option maxRecDepth 100000 in
theorem mc_104 : lw_tbl[842]? = some (Cond.code (mN 104) (mB 104) (mL 104) (mR 104)) := rfl
set_option maxRecDepth 100000 in
theorem mc_105 : lw_tbl[998]? = some (Cond.code (mN 105) (mB 105) (mL 105) (mR 105)) := rfl
set_option maxRecDepth 100000 in
theorem mc_106 : lw_tbl[1022]? = some (Cond.code (mN 106) (mB 106) (mL 106) (mR 106)) := rfl
set_option maxRecDepth 100000 in
theorem mc_107 : lw_tbl[1034]? = some (Cond.code (mN 107) (mB 107) (mL 107) (mR 107)) := rfl
set_option maxRecDepth 100000 in
theorem mc_108 : lw_tbl[1026]? = some (Cond.code (mN 108) (mB 108) (mL 108) (mR 108)) := rfl
set_option maxRecDepth 100000 in
theorem mc_109 : lw_tbl[1086]? = some (Cond.code (mN 109) (mB 109) (mL 109) (mR 109)) := rfl
set_option maxRecDepth 100000 in
theorem mc_110 : lw_tbl[1090]? = some (Cond.code (mN 110) (mB 110) (mL 110) (mR 110)) := rfl
set_option maxRecDepth 100000 in
theorem mc_111 : lw_tbl[1078]? = some (Cond.code (mN 111) (mB 111) (mL 111) (mR 111)) := rfl
set_option maxRecDepth 100000 in
theorem mc_112 : lw_tbl[1082]? = some (Cond.code (mN 112) (mB 112) (mL 112) (mR 112)) := rfl
set_option maxRecDepth 100000 in
theorem mc_113 : lw_tbl[1109]? = some (Cond.code (mN 113) (mB 113) (mL 113) (mR 113)) := rfl
set_option maxRecDepth 100000 in
theorem mc_114 : lw_tbl[1113]? = some (Cond.code (mN 114) (mB 114) (mL 114) (mR 114)) := rfl
set_option maxRecDepth 100000 in
theorem mc_115 : lw_tbl[1094]? = some (Cond.code (mN 115) (mB 115) (mL 115) (mR 115)) := rfl
set_option maxRecDepth 100000 in
theorem mc_116 : lw_tbl[1101]? = some (Cond.code (mN 116) (mB 116) (mL 116) (mR 116)) := rfl
set_option maxRecDepth 100000 in
theorem mc_117 : lw_tbl[1105]? = some (Cond.code (mN 117) (mB 117) (mL 117) (mR 117)) := rfl
set_option maxRecDepth 100000 in
theorem mc_118 : lw_tbl[1098]? = some (Cond.code (mN 118) (mB 118) (mL 118) (mR 118)) := rfl
set_option maxRecDepth 100000 in
theorem mc_119 : lw_tbl[1058]? = some (Cond.code (mN 119) (mB 119) (mL 119) (mR 119)) := rfl
set_option maxRecDepth 100000 in
theorem mc_120 : lw_tbl[1117]? = some (Cond.code (mN 120) (mB 120) (mL 120) (mR 120)) := rfl
set_option maxRecDepth 100000 in
theorem mc_121 : lw_tbl[1062]? = some (Cond.code (mN 121) (mB 121) (mL 121) (mR 121)) := rfl
set_option maxRecDepth 100000 in
theorem mc_122 : lw_tbl[1074]? = some (Cond.code (mN 122) (mB 122) (mL 122) (mR 122)) := rfl
set_option maxRecDepth 100000 in
theorem mc_123 : lw_tbl[995]? = some (Cond.code (mN 123) (mB 123) (mL 123) (mR 123)) := rfl
set_option maxRecDepth 100000 in
theorem mc_124 : lw_tbl[1006]? = some (Cond.code (mN 124) (mB 124) (mL 124) (mR 124)) := rfl
set_option maxRecDepth 100000 in
theorem mc_125 : lw_tbl[1002]? = some (Cond.code (mN 125) (mB 125) (mL 125) (mR 125)) := rfl
set_option maxRecDepth 100000 in
theorem mc_126 : lw_tbl[1010]? = some (Cond.code (mN 126) (mB 126) (mL 126) (mR 126)) := rfl
set_option maxRecDepth 100000 in
theorem mc_127 : lw_tbl[1014]? = some (Cond.code (mN 127) (mB 127) (mL 127) (mR 127)) := rfl
set_option maxRecDepth 100000 in
theorem mc_128 : lw_tbl[1018]? = some (Cond.code (mN 128) (mB 128) (mL 128) (mR 128)) := rfl
set_option maxRecDepth 100000 in
theorem mc_129 : lw_tbl[1030]? = some (Cond.code (mN 129) (mB 129) (mL 129) (mR 129)) := rfl
set_option maxRecDepth 100000 in
theorem mc_130 : lw_tbl[1042]? = some (Cond.code (mN 130) (mB 130) (mL 130) (mR 130)) := rfl
set_option maxRecDepth 100000 in
theorem mc_131 : lw_tbl[1038]? = some (Cond.code (mN 131) (mB 131) (mL 131) (mR 131)) := rfl
set_option maxRecDepth 100000 in
theorem mc_132 : lw_tbl[1046]? = some (Cond.code (mN 132) (mB 132) (mL 132) (mR 132)) := rfl
set_option maxRecDepth 100000 in
theorem mc_133 : lw_tbl[1050]? = some (Cond.code (mN 133) (mB 133) (mL 133) (mR 133)) := rfl
set_option maxRecDepth 100000 in
theorem mc_134 : lw_tbl[1054]? = some (Cond.code (mN 134) (mB 134) (mL 134) (mR 134)) := rfl
set_option maxRecDepth 100000 in
theorem mc_135 : lw_tbl[1066]? = some (Cond.code (mN 135) (mB 135) (mL 135) (mR 135)) := rfl
set_option maxRecDepth 100000 in
theorem mc_136 : lw_tbl[1070]? = some (Cond.code (mN 136) (mB 136) (mL 136) (mR 136)) := rfl
set_option maxRecDepth 100000 in
theorem mc_137 : lw_tbl[1121]? = some (Cond.code (mN 137) (mB 137) (mL 137) (mR 137)) := rfl
set_option maxRecDepth 100000 in
theorem mc_138 : lw_tbl[1125]? = some (Cond.code (mN 138) (mB 138) (mL 138) (mR 138)) := rfl
set_option maxRecDepth 100000 in
theorem mc_139 : lw_tbl[1129]? = some (Cond.code (mN 139) (mB 139) (mL 139) (mR 139)) := rfl
set_option maxRecDepth 100000 in
theorem mc_140 : lw_tbl[1133]? = some (Cond.code (mN 140) (mB 140) (mL 140) (mR 140)) := rfl
set_option maxRecDepth 100000 in
theorem mc_141 : lw_tbl[1137]? = some (Cond.code (mN 141) (mB 141) (mL 141) (mR 141)) := rfl
set_option maxRecDepth 100000 in
theorem mc_142 : lw_tbl[1141]? = some (Cond.code (mN 142) (mB 142) (mL 142) (mR 142)) := rfl
set_option maxRecDepth 100000 in
theorem mc_143 : lw_tbl[1145]? = some (Cond.code (mN 143) (mB 143) (mL 143) (mR 143)) := rfl
set_option maxRecDepth 100000 in
theorem mc_144 : lw_tbl[848]? = some (Cond.code (mN 144) (mB 144) (mL 144) (mR 144)) := rfl
set_option maxRecDepth 100000 in
theorem mc_145 : lw_tbl[1192]? = some (Cond.code (mN 145) (mB 145) (mL 145) (mR 145)) := rfl
set_option maxRecDepth 100000 in
theorem mc_146 : lw_tbl[845]? = some (Cond.code (mN 146) (mB 146) (mL 146) (mR 146)) := rfl
set_option maxRecDepth 100000 in
theorem mc_147 : lw_tbl[1185]? = some (Cond.code (mN 147) (mB 147) (mL 147) (mR 147)) := rfl
set_option maxRecDepth 100000 in
theorem mc_148 : lw_tbl[1173]? = some (Cond.code (mN 148) (mB 148) (mL 148) (mR 148)) := rfl
set_option maxRecDepth 100000 in
theorem mc_149 : lw_tbl[1189]? = some (Cond.code (mN 149) (mB 149) (mL 149) (mR 149)) := rfl
set_option maxRecDepth 100000 in
theorem mc_150 : lw_tbl[1181]? = some (Cond.code (mN 150) (mB 150) (mL 150) (mR 150)) := rfl
set_option maxRecDepth 100000 in
theorem mc_151 : lw_tbl[1208]? = some (Cond.code (mN 151) (mB 151) (mL 151) (mR 151)) := rfl
set_option maxRecDepth 100000 in
theorem mc_152 : lw_tbl[1212]? = some (Cond.code (mN 152) (mB 152) (mL 152) (mR 152)) := rfl
set_option maxRecDepth 100000 in
theorem mc_153 : lw_tbl[1216]? = some (Cond.code (mN 153) (mB 153) (mL 153) (mR 153)) := rfl
set_option maxRecDepth 100000 in
theorem mc_154 : lw_tbl[1177]? = some (Cond.code (mN 154) (mB 154) (mL 154) (mR 154)) := rfl
set_option maxRecDepth 100000 in
theorem mc_155 : lw_tbl[1196]? = some (Cond.code (mN 155) (mB 155) (mL 155) (mR 155)) := rfl
set_option maxRecDepth 100000 in
theorem mc_156 : lw_tbl[1224]? = some (Cond.code (mN 156) (mB 156) (mL 156) (mR 156)) := rfl
set_option maxRecDepth 100000 in
theorem mc_157 : lw_tbl[1204]? = some (Cond.code (mN 157) (mB 157) (mL 157) (mR 157)) := rfl
set_option maxRecDepth 100000 in
theorem mc_158 : lw_tbl[1200]? = some (Cond.code (mN 158) (mB 158) (mL 158) (mR 158)) := rfl
set_option maxRecDepth 100000 in
theorem mc_159 : lw_tbl[1244]? = some (Cond.code (mN 159) (mB 159) (mL 159) (mR 159)) := rfl
set_option maxRecDepth 100000 in
theorem mc_160 : lw_tbl[1240]? = some (Cond.code (mN 160) (mB 160) (mL 160) (mR 160)) := rfl
set_option maxRecDepth 100000 in
theorem mc_161 : lw_tbl[1248]? = some (Cond.code (mN 161) (mB 161) (mL 161) (mR 161)) := rfl
set_option maxRecDepth 100000 in
theorem mc_162 : lw_tbl[1252]? = some (Cond.code (mN 162) (mB 162) (mL 162) (mR 162)) := rfl
set_option maxRecDepth 100000 in
theorem mc_163 : lw_tbl[1260]? = some (Cond.code (mN 163) (mB 163) (mL 163) (mR 163)) := rfl
set_option maxRecDepth 100000 in
theorem mc_164 : lw_tbl[1256]? = some (Cond.code (mN 164) (mB 164) (mL 164) (mR 164)) := rfl
set_option maxRecDepth 100000 in
theorem mc_165 : lw_tbl[1232]? = some (Cond.code (mN 165) (mB 165) (mL 165) (mR 165)) := rfl
set_option maxRecDepth 100000 in
theorem mc_166 : lw_tbl[1228]? = some (Cond.code (mN 166) (mB 166) (mL 166) (mR 166)) := rfl
set_option maxRecDepth 100000 in
theorem mc_167 : lw_tbl[1169]? = some (Cond.code (mN 167) (mB 167) (mL 167) (mR 167)) := rfl
set_option maxRecDepth 100000 in
theorem mc_168 : lw_tbl[1220]? = some (Cond.code (mN 168) (mB 168) (mL 168) (mR 168)) := rfl
set_option maxRecDepth 100000 in
theorem mc_169 : lw_tbl[1236]? = some (Cond.code (mN 169) (mB 169) (mL 169) (mR 169)) := rfl
set_option maxRecDepth 100000 in
theorem mc_170 : lw_tbl[1165]? = some (Cond.code (mN 170) (mB 170) (mL 170) (mR 170)) := rfl
set_option maxRecDepth 100000 in
theorem mc_171 : lw_tbl[1161]? = some (Cond.code (mN 171) (mB 171) (mL 171) (mR 171)) := rfl
set_option maxRecDepth 100000 in
theorem mc_172 : lw_tbl[1157]? = some (Cond.code (mN 172) (mB 172) (mL 172) (mR 172)) := rfl
set_option maxRecDepth 100000 in
theorem mc_173 : lw_tbl[1153]? = some (Cond.code (mN 173) (mB 173) (mL 173) (mR 173)) := rfl
set_option maxRecDepth 100000 in
theorem mc_174 : lw_tbl[145]? = some (Cond.code (mN 174) (mB 174) (mL 174) (mR 174)) := rfl
set_option maxRecDepth 100000 in
theorem mc_175 : lw_tbl[155]? = some (Cond.code (mN 175) (mB 175) (mL 175) (mR 175)) := rfl
set_option maxRecDepth 100000 in
theorem mc_176 : lw_tbl[149]? = some (Cond.code (mN 176) (mB 176) (mL 176) (mR 176)) := rfl
set_option maxRecDepth 100000 in
theorem mc_177 : lw_tbl[159]? = some (Cond.code (mN 177) (mB 177) (mL 177) (mR 177)) := rfl
set_option maxRecDepth 100000 in
theorem mc_178 : lw_tbl[165]? = some (Cond.code (mN 178) (mB 178) (mL 178) (mR 178)) := rfl
set_option maxRecDepth 100000 in
theorem mc_179 : lw_tbl[162]? = some (Cond.code (mN 179) (mB 179) (mL 179) (mR 179)) := rfl
set_option maxRecDepth 100000 in
theorem mc_180 : lw_tbl[183]? = some (Cond.code (mN 180) (mB 180) (mL 180) (mR 180)) := rfl
set_option maxRecDepth 100000 in
theorem mc_181 : lw_tbl[179]? = some (Cond.code (mN 181) (mB 181) (mL 181) (mR 181)) := rfl
set_option maxRecDepth 100000 in
theorem mc_182 : lw_tbl[173]? = some (Cond.code (mN 182) (mB 182) (mL 182) (mR 182)) := rfl
set_option maxRecDepth 100000 in
theorem mc_183 : lw_tbl[176]? = some (Cond.code (mN 183) (mB 183) (mL 183) (mR 183)) := rfl
set_option maxRecDepth 100000 in
theorem mc_184 : lw_tbl[510]? = some (Cond.code (mN 184) (mB 184) (mL 184) (mR 184)) := rfl
set_option maxRecDepth 100000 in
theorem mc_185 : lw_tbl[170]? = some (Cond.code (mN 185) (mB 185) (mL 185) (mR 185)) := rfl
theorem mc_all : ∀ y : Nat, 0 < y → y < mMany → ∃ i : Nat, lw_tbl[i]? = some (Cond.code (mN y) (mB y) (mL y) (mR y))
  | 0, h, _ => absurd h (by decide)
  | 1, h, _ => ⟨_, mc_1⟩
  | 2, h, _ => ⟨_, mc_2⟩
  | 3, h, _ => ⟨_, mc_3⟩
  | 4, h, _ => ⟨_, mc_4⟩
  | 5, h, _ => ⟨_, mc_5⟩
  | 6, h, _ => ⟨_, mc_6⟩
  | 7, h, _ => ⟨_, mc_7⟩
  | 8, h, _ => ⟨_, mc_8⟩
  | 9, h, _ => ⟨_, mc_9⟩
  | 10, h, _ => ⟨_, mc_10⟩
  | 11, h, _ => ⟨_, mc_11⟩
  | 12, h, _ => ⟨_, mc_12⟩
  | 13, h, _ => ⟨_, mc_13⟩
  | 14, h, _ => ⟨_, mc_14⟩
  | 15, h, _ => ⟨_, mc_15⟩
  | 16, h, _ => ⟨_, mc_16⟩
  | 17, h, _ => ⟨_, mc_17⟩
  | 18, h, _ => ⟨_, mc_18⟩
  | 19, h, _ => ⟨_, mc_19⟩
  | 20, h, _ => ⟨_, mc_20⟩
  | 21, h, _ => ⟨_, mc_21⟩
  | 22, h, _ => ⟨_, mc_22⟩
  | 23, h, _ => ⟨_, mc_23⟩
  | 24, h, _ => ⟨_, mc_24⟩
  | 25, h, _ => ⟨_, mc_25⟩
  | 26, h, _ => ⟨_, mc_26⟩
  | 27, h, _ => ⟨_, mc_27⟩
  | 28, h, _ => ⟨_, mc_28⟩
  | 29, h, _ => ⟨_, mc_29⟩
  | 30, h, _ => ⟨_, mc_30⟩
  | 31, h, _ => ⟨_, mc_31⟩
  | 32, h, _ => ⟨_, mc_32⟩
  | 33, h, _ => ⟨_, mc_33⟩
  | 34, h, _ => ⟨_, mc_34⟩
  | 35, h, _ => ⟨_, mc_35⟩
  | 36, h, _ => ⟨_, mc_36⟩
  | 37, h, _ => ⟨_, mc_37⟩
  | 38, h, _ => ⟨_, mc_38⟩
  | 39, h, _ => ⟨_, mc_39⟩
  | 40, h, _ => ⟨_, mc_40⟩
  | 41, h, _ => ⟨_, mc_41⟩
  | 42, h, _ => ⟨_, mc_42⟩
  | 43, h, _ => ⟨_, mc_43⟩
  | 44, h, _ => ⟨_, mc_44⟩
  | 45, h, _ => ⟨_, mc_45⟩
  | 46, h, _ => ⟨_, mc_46⟩
  | 47, h, _ => ⟨_, mc_47⟩
  | 48, h, _ => ⟨_, mc_48⟩
  | 49, h, _ => ⟨_, mc_49⟩
  | 50, h, _ => ⟨_, mc_50⟩
  | 51, h, _ => ⟨_, mc_51⟩
  | 52, h, _ => ⟨_, mc_52⟩
  | 53, h, _ => ⟨_, mc_53⟩
  | 54, h, _ => ⟨_, mc_54⟩
  | 55, h, _ => ⟨_, mc_55⟩
  | 56, h, _ => ⟨_, mc_56⟩
  | 57, h, _ => ⟨_, mc_57⟩
  | 58, h, _ => ⟨_, mc_58⟩
  | 59, h, _ => ⟨_, mc_59⟩
  | 60, h, _ => ⟨_, mc_60⟩
  | 61, h, _ => ⟨_, mc_61⟩
  | 62, h, _ => ⟨_, mc_62⟩
  | 63, h, _ => ⟨_, mc_63⟩
  | 64, h, _ => ⟨_, mc_64⟩
  | 65, h, _ => ⟨_, mc_65⟩
  | 66, h, _ => ⟨_, mc_66⟩
  | 67, h, _ => ⟨_, mc_67⟩
  | 68, h, _ => ⟨_, mc_68⟩
  | 69, h, _ => ⟨_, mc_69⟩
  | 70, h, _ => ⟨_, mc_70⟩
  | 71, h, _ => ⟨_, mc_71⟩
  | 72, h, _ => ⟨_, mc_72⟩
  | 73, h, _ => ⟨_, mc_73⟩
  | 74, h, _ => ⟨_, mc_74⟩
  | 75, h, _ => ⟨_, mc_75⟩
  | 76, h, _ => ⟨_, mc_76⟩
  | 77, h, _ => ⟨_, mc_77⟩
  | 78, h, _ => ⟨_, mc_78⟩
  | 79, h, _ => ⟨_, mc_79⟩
  | 80, h, _ => ⟨_, mc_80⟩
  | 81, h, _ => ⟨_, mc_81⟩
  | 82, h, _ => ⟨_, mc_82⟩
  | 83, h, _ => ⟨_, mc_83⟩
  | 84, h, _ => ⟨_, mc_84⟩
  | 85, h, _ => ⟨_, mc_85⟩
  | 86, h, _ => ⟨_, mc_86⟩
  | 87, h, _ => ⟨_, mc_87⟩
  | 88, h, _ => ⟨_, mc_88⟩
  | 89, h, _ => ⟨_, mc_89⟩
  | 90, h, _ => ⟨_, mc_90⟩
  | 91, h, _ => ⟨_, mc_91⟩
  | 92, h, _ => ⟨_, mc_92⟩
  | 93, h, _ => ⟨_, mc_93⟩
  | 94, h, _ => ⟨_, mc_94⟩
  | 95, h, _ => ⟨_, mc_95⟩
  | 96, h, _ => ⟨_, mc_96⟩
  | 97, h, _ => ⟨_, mc_97⟩
  | 98, h, _ => ⟨_, mc_98⟩
  | 99, h, _ => ⟨_, mc_99⟩
  | 100, h, _ => ⟨_, mc_100⟩
  | 101, h, _ => ⟨_, mc_101⟩
  | 102, h, _ => ⟨_, mc_102⟩
  | 103, h, _ => ⟨_, mc_103⟩
  | 104, h, _ => ⟨_, mc_104⟩
  | 105, h, _ => ⟨_, mc_105⟩
  | 106, h, _ => ⟨_, mc_106⟩
  | 107, h, _ => ⟨_, mc_107⟩
  | 108, h, _ => ⟨_, mc_108⟩
  | 109, h, _ => ⟨_, mc_109⟩
  | 110, h, _ => ⟨_, mc_110⟩
  | 111, h, _ => ⟨_, mc_111⟩
  | 112, h, _ => ⟨_, mc_112⟩
  | 113, h, _ => ⟨_, mc_113⟩
  | 114, h, _ => ⟨_, mc_114⟩
  | 115, h, _ => ⟨_, mc_115⟩
  | 116, h, _ => ⟨_, mc_116⟩
  | 117, h, _ => ⟨_, mc_117⟩
  | 118, h, _ => ⟨_, mc_118⟩
  | 119, h, _ => ⟨_, mc_119⟩
  | 120, h, _ => ⟨_, mc_120⟩
  | 121, h, _ => ⟨_, mc_121⟩
  | 122, h, _ => ⟨_, mc_122⟩
  | 123, h, _ => ⟨_, mc_123⟩
  | 124, h, _ => ⟨_, mc_124⟩
  | 125, h, _ => ⟨_, mc_125⟩
  | 126, h, _ => ⟨_, mc_126⟩
  | 127, h, _ => ⟨_, mc_127⟩
  | 128, h, _ => ⟨_, mc_128⟩
  | 129, h, _ => ⟨_, mc_129⟩
  | 130, h, _ => ⟨_, mc_130⟩
  | 131, h, _ => ⟨_, mc_131⟩
  | 132, h, _ => ⟨_, mc_132⟩
  | 133, h, _ => ⟨_, mc_133⟩
  | 134, h, _ => ⟨_, mc_134⟩
  | 135, h, _ => ⟨_, mc_135⟩
  | 136, h, _ => ⟨_, mc_136⟩
  | 137, h, _ => ⟨_, mc_137⟩
  | 138, h, _ => ⟨_, mc_138⟩
  | 139, h, _ => ⟨_, mc_139⟩
  | 140, h, _ => ⟨_, mc_140⟩
  | 141, h, _ => ⟨_, mc_141⟩
  | 142, h, _ => ⟨_, mc_142⟩
  | 143, h, _ => ⟨_, mc_143⟩
  | 144, h, _ => ⟨_, mc_144⟩
  | 145, h, _ => ⟨_, mc_145⟩
  | 146, h, _ => ⟨_, mc_146⟩
  | 147, h, _ => ⟨_, mc_147⟩
  | 148, h, _ => ⟨_, mc_148⟩
  | 149, h, _ => ⟨_, mc_149⟩
  | 150, h, _ => ⟨_, mc_150⟩
  | 151, h, _ => ⟨_, mc_151⟩
  | 152, h, _ => ⟨_, mc_152⟩
  | 153, h, _ => ⟨_, mc_153⟩
  | 154, h, _ => ⟨_, mc_154⟩
  | 155, h, _ => ⟨_, mc_155⟩
  | 156, h, _ => ⟨_, mc_156⟩
  | 157, h, _ => ⟨_, mc_157⟩
  | 158, h, _ => ⟨_, mc_158⟩
  | 159, h, _ => ⟨_, mc_159⟩
  | 160, h, _ => ⟨_, mc_160⟩
  | 161, h, _ => ⟨_, mc_161⟩
  | 162, h, _ => ⟨_, mc_162⟩
  | 163, h, _ => ⟨_, mc_163⟩
  | 164, h, _ => ⟨_, mc_164⟩
  | 165, h, _ => ⟨_, mc_165⟩
  | 166, h, _ => ⟨_, mc_166⟩
  | 167, h, _ => ⟨_, mc_167⟩
  | 168, h, _ => ⟨_, mc_168⟩
  | 169, h, _ => ⟨_, mc_169⟩
  | 170, h, _ => ⟨_, mc_170⟩
  | 171, h, _ => ⟨_, mc_171⟩
  | 172, h, _ => ⟨_, mc_172⟩
  | 173, h, _ => ⟨_, mc_173⟩
  | 174, h, _ => ⟨_, mc_174⟩
  | 175, h, _ => ⟨_, mc_175⟩
  | 176, h, _ => ⟨_, mc_176⟩
  | 177, h, _ => ⟨_, mc_177⟩
  | 178, h, _ => ⟨_, mc_178⟩
  | 179, h, _ => ⟨_, mc_179⟩
  | 180, h, _ => ⟨_, mc_180⟩
  | 181, h, _ => ⟨_, mc_181⟩
  | 182, h, _ => ⟨_, mc_182⟩
  | 183, h, _ => ⟨_, mc_183⟩
  | 184, h, _ => ⟨_, mc_184⟩
  | 185, h, _ => ⟨_, mc_185⟩
  | y + 186, _, h => absurd h (by unfold mMany; omega)
set_option maxRecDepth 100000 in
theorem oi_code : lw_tbl[104]? = some (Cond.code Lib.objectInit ⟨#[0xb1]⟩ 1 none) := rfl
