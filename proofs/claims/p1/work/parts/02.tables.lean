def oNL : List String := ["LineMonitor$Assembler", "LineMonitor$House", "LineMonitor$Letters", "LineMonitor$Names", "LineMonitor$Reader", "LineMonitor$Tape", "LineMonitor$User", "LineMonitor", "LineMonitorModel", "LineMonitorLaw", "java/lang/String", "java/lang/StringLatin1", "java/lang/StringUTF16", "java/util/Arrays", "jdk/internal/util/Preconditions"]
def oN (o : Nat) : String := oNL.getD o ""
def mTb_0 : List (Nat × MethodName × ByteArray × Nat × Option FieldType × Nat × Nat × Nat) := [(9, ⟨"LineMonitorLaw", "law", "([I)Z"⟩, code, 4, (some .boolean), 1, 600000, 7302250), (0, ⟨"LineMonitor$Assembler", "<init>", "(LLineMonitor$Tape;)V"⟩, prog_2_method_1_code, 2, none, 1, 8, 12806), (0, ⟨"LineMonitor$Assembler", "begin", "()V"⟩, prog_2_method_2_code, 2, none, 0, 0, 0), (0, ⟨"LineMonitor$Assembler", "goOver", "(Z)V"⟩, prog_2_method_3_code, 8, none, 1, 0, 0), (0, ⟨"LineMonitor$Assembler", "doFirst", "(II)I"⟩, prog_2_method_4_code, 4, (some .int), 2, 0, 0), (0, ⟨"LineMonitor$Assembler", "skipLabels", "()V"⟩, prog_2_method_5_code, 3, none, 0, 0, 0), (0, ⟨"LineMonitor$Assembler", "tellLabels", "()I"⟩, prog_2_method_6_code, 3, (some .int), 0, 0, 0), (0, ⟨"LineMonitor$Assembler", "doSecond", "()I"⟩, prog_2_method_7_code, 1, (some .int), 0, 0, 0), (0, ⟨"LineMonitor$Assembler", "putMemory", "()I"⟩, prog_2_method_8_code, 4, (some .int), 0, 0, 0), (0, ⟨"LineMonitor$Assembler", "literalFor", "(I)I"⟩, prog_2_method_9_code, 6, (some .int), 1, 0, 0), (0, ⟨"LineMonitor$Assembler", "putNext", "(I)I"⟩, prog_2_method_10_code, 3, (some .int), 1, 0, 0), (0, ⟨"LineMonitor$Assembler", "put", "(II)Z"⟩, prog_2_method_11_code, 4, (some .boolean), 2, 0, 0), (0, ⟨"LineMonitor$Assembler", "deliver", "([I)I"⟩, prog_2_method_12_code, 4, (some .int), 1, 0, 0), (1, ⟨"LineMonitor$House", "<init>", "(IIII)V"⟩, prog_3_method_1_code, 6, none, 4, 67, 70096), (1, ⟨"LineMonitor$House", "makeReady", "(LLineMonitor$User;)V"⟩, prog_3_method_2_code, 2, none, 1, 0, 0), (1, ⟨"LineMonitor$House", "choose", "()V"⟩, prog_3_method_3_code, 3, none, 0, 0, 0), (1, ⟨"LineMonitor$House", "swapIn", "(LLineMonitor$User;)V"⟩, prog_3_method_4_code, 3, none, 1, 0, 0), (1, ⟨"LineMonitor$House", "step", "()Z"⟩, prog_3_method_5_code, 2, (some .boolean), 0, 0, 0), (1, ⟨"LineMonitor$House", "doRunnersInstruction", "(LLineMonitor$User;)V"⟩, prog_3_method_6_code, 2, none, 1, 0, 0), (1, ⟨"LineMonitor$House", "tick", "()V"⟩, prog_3_method_7_code, 5, none, 0, 0, 0), (1, ⟨"LineMonitor$House", "tickOf", "(LLineMonitor$User;)V"⟩, prog_3_method_8_code, 2, none, 1, 0, 0), (1, ⟨"LineMonitor$House", "tickOfRunner", "(LLineMonitor$User;)V"⟩, prog_3_method_9_code, 2, none, 1, 0, 0), (1, ⟨"LineMonitor$House", "inRow", "(I)I"⟩, prog_3_method_10_code, 3, (some .int), 1, 0, 0), (1, ⟨"LineMonitor$House", "tell", "(I)I"⟩, prog_3_method_11_code, 2, (some .int), 1, 0, 0), (2, ⟨"LineMonitor$Letters", "<init>", "()V"⟩, prog_4_method_1_code, 1, none, 0, 1, 16), (2, ⟨"LineMonitor$Letters", "add", "(I)Z"⟩, prog_4_method_2_code, 2, (some .boolean), 1, 0, 0), (2, ⟨"LineMonitor$Letters", "take", "()I"⟩, prog_4_method_3_code, 2, (some .int), 0, 0, 0), (2, ⟨"LineMonitor$Letters", "at", "(I)I"⟩, prog_4_method_4_code, 2, (some .int), 1, 0, 0), (3, ⟨"LineMonitor$Names", "<init>", "()V"⟩, prog_5_method_1_code, 1, none, 0, 2, 470), (3, ⟨"LineMonitor$Names", "addAll", "(Ljava/lang/String;[I)V"⟩, prog_5_method_2_code, 8, none, 2, 0, 0)]
def mTb_1 : List (Nat × MethodName × ByteArray × Nat × Option FieldType × Nat × Nat × Nat) := [(3, ⟨"LineMonitor$Names", "longer", "(JI)J"⟩, prog_5_method_3_code, 3, (some .long), 2, 0, 0), (3, ⟨"LineMonitor$Names", "add", "(JI)V"⟩, prog_5_method_4_code, 4, none, 2, 0, 0), (3, ⟨"LineMonitor$Names", "forget", "()V"⟩, prog_5_method_5_code, 1, none, 0, 0, 0), (3, ⟨"LineMonitor$Names", "find", "(J)I"⟩, prog_5_method_6_code, 4, (some .int), 1, 0, 0), (3, ⟨"LineMonitor$Names", "valueOf", "(J)I"⟩, prog_5_method_7_code, 4, (some .int), 1, 0, 0), (3, ⟨"LineMonitor$Names", "tell", "(JI)I"⟩, prog_5_method_8_code, 4, (some .int), 2, 0, 0), (4, ⟨"LineMonitor$Reader", "<init>", "(LLineMonitor$Tape;LLineMonitor$Names;)V"⟩, prog_6_method_1_code, 3, none, 2, 0, 0), (4, ⟨"LineMonitor$Reader", "look", "(I)I"⟩, prog_6_method_2_code, 2, (some .int), 1, 0, 0), (4, ⟨"LineMonitor$Reader", "isLetter", "(I)Z"⟩, prog_6_method_3_code, 1, (some .boolean), 1, 0, 0), (4, ⟨"LineMonitor$Reader", "isDigit", "(I)Z"⟩, prog_6_method_4_code, 1, (some .boolean), 1, 0, 0), (4, ⟨"LineMonitor$Reader", "behindBlanks", "(I)I"⟩, prog_6_method_5_code, 3, (some .int), 1, 0, 0), (4, ⟨"LineMonitor$Reader", "behindWord", "(I)I"⟩, prog_6_method_6_code, 3, (some .int), 1, 0, 0), (4, ⟨"LineMonitor$Reader", "keyOf", "(II)J"⟩, prog_6_method_7_code, 6, (some .long), 2, 0, 0), (4, ⟨"LineMonitor$Reader", "begin", "(II)V"⟩, prog_6_method_8_code, 3, none, 2, 0, 0), (4, ⟨"LineMonitor$Reader", "readLabel", "()Z"⟩, prog_6_method_9_code, 2, (some .boolean), 0, 0, 0), (4, ⟨"LineMonitor$Reader", "readBody", "(I)V"⟩, prog_6_method_10_code, 4, none, 1, 0, 0), (4, ⟨"LineMonitor$Reader", "hasMore", "()Z"⟩, prog_6_method_11_code, 2, (some .boolean), 0, 0, 0), (4, ⟨"LineMonitor$Reader", "readMarksAhead", "()V"⟩, prog_6_method_12_code, 2, none, 0, 0, 0), (4, ⟨"LineMonitor$Reader", "beginsOperand", "(I)Z"⟩, prog_6_method_13_code, 1, (some .boolean), 1, 0, 0), (4, ⟨"LineMonitor$Reader", "readMarkBehind", "()V"⟩, prog_6_method_14_code, 2, none, 0, 0, 0), (4, ⟨"LineMonitor$Reader", "readExpression", "()I"⟩, prog_6_method_15_code, 6, (some .int), 0, 0, 0), (4, ⟨"LineMonitor$Reader", "readTerm", "()I"⟩, prog_6_method_16_code, 6, (some .int), 0, 0, 0), (4, ⟨"LineMonitor$Reader", "readNumber", "(I)I"⟩, prog_6_method_17_code, 5, (some .int), 1, 0, 0), (5, ⟨"LineMonitor$Tape", "<init>", "()V"⟩, prog_7_method_1_code, 1, none, 0, 1, 8000), (5, ⟨"LineMonitor$Tape", "hasRoomFor", "(I)Z"⟩, prog_7_method_2_code, 2, (some .boolean), 1, 0, 0), (5, ⟨"LineMonitor$Tape", "append", "(I)V"⟩, prog_7_method_3_code, 3, none, 1, 0, 0), (5, ⟨"LineMonitor$Tape", "cut", "(I)Z"⟩, prog_7_method_4_code, 2, (some .boolean), 1, 0, 0), (5, ⟨"LineMonitor$Tape", "at", "(I)I"⟩, prog_7_method_5_code, 2, (some .int), 1, 0, 0), (6, ⟨"LineMonitor$User", "<init>", "(I)V"⟩, prog_8_method_1_code, 2, none, 1, 7, 8742), (6, ⟨"LineMonitor$User", "doInstruction", "()V"⟩, prog_8_method_2_code, 3, none, 0, 0, 0)]
def mTb_2 : List (Nat × MethodName × ByteArray × Nat × Option FieldType × Nat × Nat × Nat) := [(6, ⟨"LineMonitor$User", "skip", "()V"⟩, prog_8_method_3_code, 1, none, 0, 0, 0), (6, ⟨"LineMonitor$User", "add", "(I)V"⟩, prog_8_method_4_code, 3, none, 1, 0, 0), (6, ⟨"LineMonitor$User", "refer", "(II)V"⟩, prog_8_method_5_code, 4, none, 2, 0, 0), (6, ⟨"LineMonitor$User", "addressIn", "(II)I"⟩, prog_8_method_6_code, 4, (some .int), 2, 0, 0), (6, ⟨"LineMonitor$User", "operate", "(I)V"⟩, prog_8_method_7_code, 4, none, 1, 0, 0), (6, ⟨"LineMonitor$User", "turn", "(II)V"⟩, prog_8_method_8_code, 5, none, 2, 0, 0), (6, ⟨"LineMonitor$User", "test", "(I)V"⟩, prog_8_method_9_code, 4, none, 1, 0, 0), (6, ⟨"LineMonitor$User", "useDevice", "(II)V"⟩, prog_8_method_10_code, 3, none, 2, 0, 0), (6, ⟨"LineMonitor$User", "readKey", "(I)V"⟩, prog_8_method_11_code, 3, none, 1, 0, 0), (6, ⟨"LineMonitor$User", "waitAt", "(II)V"⟩, prog_8_method_12_code, 3, none, 2, 0, 0), (6, ⟨"LineMonitor$User", "fallAsleep", "()V"⟩, prog_8_method_13_code, 1, none, 0, 0, 0), (6, ⟨"LineMonitor$User", "moveBlock", "(Z)V"⟩, prog_8_method_14_code, 6, none, 1, 0, 0), (6, ⟨"LineMonitor$User", "print", "()Z"⟩, prog_8_method_15_code, 2, (some .boolean), 0, 0, 0), (6, ⟨"LineMonitor$User", "onPaper", "(I)I"⟩, prog_8_method_16_code, 3, (some .int), 1, 0, 0), (6, ⟨"LineMonitor$User", "tell", "(I)I"⟩, prog_8_method_17_code, 2, (some .int), 1, 0, 0), (7, ⟨"LineMonitor", "<init>", "()V"⟩, prog_1_method_1_code, 1, none, 0, 11, 20819), (7, ⟨"LineMonitor", "open", "(IIII)I"⟩, prog_1_method_2_code, 5, (some .int), 4, 68, 70110), (7, ⟨"LineMonitor", "feed", "(IIIII)I"⟩, prog_1_method_3_code, 6, (some .int), 5, 0, 0), (7, ⟨"LineMonitor", "end", "(I)I"⟩, prog_1_method_4_code, 2, (some .int), 1, 0, 0), (7, ⟨"LineMonitor", "assemble", "(I)I"⟩, prog_1_method_5_code, 3, (some .int), 1, 0, 0), (7, ⟨"LineMonitor", "fault", "(I)I"⟩, prog_1_method_6_code, 2, (some .int), 1, 0, 0), (7, ⟨"LineMonitor", "poke", "(III)I"⟩, prog_1_method_7_code, 5, (some .int), 3, 0, 0), (7, ⟨"LineMonitor", "peek", "(II)I"⟩, prog_1_method_8_code, 4, (some .int), 2, 0, 0), (7, ⟨"LineMonitor", "store", "(IIII)I"⟩, prog_1_method_9_code, 6, (some .int), 4, 0, 0), (7, ⟨"LineMonitor", "block", "(III)I"⟩, prog_1_method_10_code, 5, (some .int), 3, 0, 0), (7, ⟨"LineMonitor", "switches", "(II)I"⟩, prog_1_method_11_code, 4, (some .int), 2, 0, 0), (7, ⟨"LineMonitor", "start", "(II)I"⟩, prog_1_method_12_code, 4, (some .int), 2, 0, 0), (7, ⟨"LineMonitor", "key", "(II)I"⟩, prog_1_method_13_code, 4, (some .int), 2, 0, 0), (7, ⟨"LineMonitor", "run", "(I)I"⟩, prog_1_method_14_code, 4, (some .int), 1, 0, 0), (7, ⟨"LineMonitor", "about", "(II)I"⟩, prog_1_method_15_code, 4, (some .int), 2, 0, 0)]
def mTb_3 : List (Nat × MethodName × ByteArray × Nat × Option FieldType × Nat × Nat × Nat) := [(7, ⟨"LineMonitor", "letter", "(II)I"⟩, prog_1_method_16_code, 4, (some .int), 2, 0, 0), (7, ⟨"LineMonitor", "waiting", "(II)I"⟩, prog_1_method_17_code, 4, (some .int), 2, 0, 0), (7, ⟨"LineMonitor", "queued", "(II)I"⟩, prog_1_method_18_code, 4, (some .int), 2, 0, 0), (7, ⟨"LineMonitor", "house", "(I)I"⟩, prog_1_method_19_code, 2, (some .int), 1, 0, 0), (7, ⟨"LineMonitor", "row", "(I)I"⟩, prog_1_method_20_code, 2, (some .int), 1, 0, 0), (7, ⟨"LineMonitor", "digest", "()J"⟩, prog_1_method_21_code, 5, (some .long), 0, 0, 0), (7, ⟨"LineMonitor", "digestOf", "(LLineMonitor$User;J)J"⟩, prog_1_method_22_code, 9, (some .long), 2, 0, 0), (7, ⟨"LineMonitor", "userAt", "(I)LLineMonitor$User;"⟩, prog_1_method_23_code, 2, (some (.object "LineMonitor$User")), 1, 0, 0), (7, ⟨"LineMonitor", "within", "(III)Z"⟩, prog_1_method_24_code, 3, (some .boolean), 3, 0, 0), (7, ⟨"LineMonitor", "isWord", "(I)Z"⟩, prog_1_method_25_code, 1, (some .boolean), 1, 0, 0), (7, ⟨"LineMonitor", "isInFile", "(II)Z"⟩, prog_1_method_26_code, 2, (some .boolean), 2, 0, 0), (8, ⟨"LineMonitorModel", "<init>", "()V"⟩, prog_10_method_1_code, 1, none, 0, 24, 86736), (8, ⟨"LineMonitorModel", "three", "(IIII)V"⟩, prog_10_method_2_code, 5, none, 4, 0, 0), (8, ⟨"LineMonitorModel", "isIn", "(III)Z"⟩, prog_10_method_3_code, 3, (some .boolean), 3, 0, 0), (8, ⟨"LineMonitorModel", "isUser", "(I)Z"⟩, prog_10_method_4_code, 2, (some .boolean), 1, 0, 0), (8, ⟨"LineMonitorModel", "get", "(II)I"⟩, prog_10_method_5_code, 3, (some .int), 2, 0, 0), (8, ⟨"LineMonitorModel", "set", "(III)V"⟩, prog_10_method_6_code, 4, none, 3, 0, 0), (8, ⟨"LineMonitorModel", "sum", "(II)V"⟩, prog_10_method_7_code, 3, none, 2, 0, 0), (8, ⟨"LineMonitorModel", "skip", "(IZ)V"⟩, prog_10_method_8_code, 3, none, 2, 0, 0), (8, ⟨"LineMonitorModel", "doInstruction", "(I)V"⟩, prog_10_method_9_code, 4, none, 1, 0, 0), (8, ⟨"LineMonitorModel", "memory", "(III)V"⟩, prog_10_method_10_code, 5, none, 3, 0, 0), (8, ⟨"LineMonitorModel", "turns", "(II)V"⟩, prog_10_method_11_code, 7, none, 2, 0, 0), (8, ⟨"LineMonitorModel", "skips", "(II)V"⟩, prog_10_method_12_code, 4, none, 2, 0, 0), (8, ⟨"LineMonitorModel", "device", "(III)V"⟩, prog_10_method_13_code, 4, none, 3, 0, 0), (8, ⟨"LineMonitorModel", "taken", "([I[II)I"⟩, prog_10_method_14_code, 5, (some .int), 3, 0, 0), (8, ⟨"LineMonitorModel", "transfer", "(IZ)V"⟩, prog_10_method_15_code, 6, none, 2, 0, 0), (8, ⟨"LineMonitorModel", "leave", "(II)V"⟩, prog_10_method_16_code, 3, none, 2, 0, 0), (8, ⟨"LineMonitorModel", "ready", "(I)V"⟩, prog_10_method_17_code, 2, none, 1, 0, 0), (8, ⟨"LineMonitorModel", "tick", "()V"⟩, prog_10_method_18_code, 2, none, 0, 0, 0), (8, ⟨"LineMonitorModel", "dispatch", "()V"⟩, prog_10_method_19_code, 3, none, 0, 0, 0)]
def mTb_4 : List (Nat × MethodName × ByteArray × Nat × Option FieldType × Nat × Nat × Nat) := [(8, ⟨"LineMonitorModel", "step", "()V"⟩, prog_10_method_20_code, 1, none, 0, 0, 0), (8, ⟨"LineMonitorModel", "open", "(IIII)I"⟩, prog_10_method_21_code, 5, (some .int), 4, 0, 0), (8, ⟨"LineMonitorModel", "lay", "(I)V"⟩, prog_10_method_22_code, 3, none, 1, 0, 0), (8, ⟨"LineMonitorModel", "feed", "(IIIII)I"⟩, prog_10_method_23_code, 6, (some .int), 5, 0, 0), (8, ⟨"LineMonitorModel", "end", "(I)I"⟩, prog_10_method_24_code, 2, (some .int), 1, 0, 0), (8, ⟨"LineMonitorModel", "fault", "(I)I"⟩, prog_10_method_25_code, 2, (some .int), 1, 0, 0), (8, ⟨"LineMonitorModel", "poke", "(III)I"⟩, prog_10_method_26_code, 4, (some .int), 3, 0, 0), (8, ⟨"LineMonitorModel", "peek", "(II)I"⟩, prog_10_method_27_code, 3, (some .int), 2, 0, 0), (8, ⟨"LineMonitorModel", "isPlace", "(III)Z"⟩, prog_10_method_28_code, 4, (some .boolean), 3, 0, 0), (8, ⟨"LineMonitorModel", "store", "(IIII)I"⟩, prog_10_method_29_code, 5, (some .int), 4, 0, 0), (8, ⟨"LineMonitorModel", "block", "(III)I"⟩, prog_10_method_30_code, 4, (some .int), 3, 0, 0), (8, ⟨"LineMonitorModel", "switches", "(II)I"⟩, prog_10_method_31_code, 3, (some .int), 2, 0, 0), (8, ⟨"LineMonitorModel", "start", "(II)I"⟩, prog_10_method_32_code, 3, (some .int), 2, 0, 0), (8, ⟨"LineMonitorModel", "key", "(II)I"⟩, prog_10_method_33_code, 3, (some .int), 2, 0, 0), (8, ⟨"LineMonitorModel", "run", "(I)I"⟩, prog_10_method_34_code, 4, (some .int), 1, 0, 0), (8, ⟨"LineMonitorModel", "about", "(II)I"⟩, prog_10_method_35_code, 3, (some .int), 2, 0, 0), (8, ⟨"LineMonitorModel", "letter", "(II)I"⟩, prog_10_method_36_code, 3, (some .int), 2, 0, 0), (8, ⟨"LineMonitorModel", "waiting", "(II)I"⟩, prog_10_method_37_code, 3, (some .int), 2, 0, 0), (8, ⟨"LineMonitorModel", "queued", "(II)I"⟩, prog_10_method_38_code, 3, (some .int), 2, 0, 0), (8, ⟨"LineMonitorModel", "house", "(I)I"⟩, prog_10_method_39_code, 2, (some .int), 1, 0, 0), (8, ⟨"LineMonitorModel", "row", "(I)I"⟩, prog_10_method_40_code, 2, (some .int), 1, 0, 0), (8, ⟨"LineMonitorModel", "digest", "()J"⟩, prog_10_method_41_code, 5, (some .long), 0, 0, 0), (8, ⟨"LineMonitorModel", "isLetter", "(I)Z"⟩, prog_10_method_42_code, 1, (some .boolean), 1, 0, 0), (8, ⟨"LineMonitorModel", "isDigit", "(I)Z"⟩, prog_10_method_43_code, 1, (some .boolean), 1, 0, 0), (8, ⟨"LineMonitorModel", "signOf", "(I)I"⟩, prog_10_method_44_code, 1, (some .int), 1, 0, 0), (8, ⟨"LineMonitorModel", "look", "(I)I"⟩, prog_10_method_45_code, 2, (some .int), 1, 0, 0), (8, ⟨"LineMonitorModel", "blanks", "()V"⟩, prog_10_method_46_code, 1, none, 0, 0, 0), (8, ⟨"LineMonitorModel", "wordEnd", "(I)I"⟩, prog_10_method_47_code, 3, (some .int), 1, 0, 0), (8, ⟨"LineMonitorModel", "isName", "(I)Z"⟩, prog_10_method_48_code, 2, (some .boolean), 1, 0, 0), (8, ⟨"LineMonitorModel", "nameAt", "(I)J"⟩, prog_10_method_49_code, 6, (some .long), 1, 0, 0)]
def mTb_5 : List (Nat × MethodName × ByteArray × Nat × Option FieldType × Nat × Nat × Nat) := [(8, ⟨"LineMonitorModel", "find", "(J)I"⟩, prog_10_method_50_code, 5, (some .int), 1, 0, 0), (8, ⟨"LineMonitorModel", "memoryAt", "(I)I"⟩, prog_10_method_51_code, 3, (some .int), 1, 0, 0), (8, ⟨"LineMonitorModel", "isLabel", "()Z"⟩, prog_10_method_52_code, 1, (some .boolean), 0, 0, 0), (8, ⟨"LineMonitorModel", "isTelling", "()Z"⟩, prog_10_method_53_code, 1, (some .boolean), 0, 0, 0), (8, ⟨"LineMonitorModel", "isBy", "()Z"⟩, prog_10_method_54_code, 3, (some .boolean), 0, 0, 0), (8, ⟨"LineMonitorModel", "term", "(I)Z"⟩, prog_10_method_55_code, 5, (some .boolean), 1, 0, 0), (8, ⟨"LineMonitorModel", "expression", "()Z"⟩, prog_10_method_56_code, 3, (some .boolean), 0, 0, 0), (8, ⟨"LineMonitorModel", "ends", "()Z"⟩, prog_10_method_57_code, 1, (some .boolean), 0, 0, 0), (8, ⟨"LineMonitorModel", "isRight", "()Z"⟩, prog_10_method_58_code, 1, (some .boolean), 0, 0, 0), (8, ⟨"LineMonitorModel", "isRightMemory", "()Z"⟩, prog_10_method_59_code, 1, (some .boolean), 0, 0, 0), (8, ⟨"LineMonitorModel", "isRightRow", "()Z"⟩, prog_10_method_60_code, 3, (some .boolean), 0, 0, 0), (8, ⟨"LineMonitorModel", "tell", "(JI)I"⟩, prog_10_method_61_code, 4, (some .int), 2, 0, 0), (8, ⟨"LineMonitorModel", "firstPass", "()I"⟩, prog_10_method_62_code, 5, (some .int), 0, 0, 0), (8, ⟨"LineMonitorModel", "comesTo", "(IIZ)I"⟩, prog_10_method_63_code, 4, (some .int), 3, 0, 0), (8, ⟨"LineMonitorModel", "literalFor", "(I)I"⟩, prog_10_method_64_code, 4, (some .int), 1, 0, 0), (8, ⟨"LineMonitorModel", "secondPass", "()I"⟩, prog_10_method_65_code, 2, (some .int), 0, 0, 0), (8, ⟨"LineMonitorModel", "memoryWord", "(I)I"⟩, prog_10_method_66_code, 7, (some .int), 1, 0, 0), (8, ⟨"LineMonitorModel", "rowWord", "()I"⟩, prog_10_method_67_code, 4, (some .int), 0, 0, 0), (8, ⟨"LineMonitorModel", "statement", "(III)I"⟩, prog_10_method_68_code, 4, (some .int), 3, 0, 0), (8, ⟨"LineMonitorModel", "lineIn", "(III)I"⟩, prog_10_method_69_code, 8, (some .int), 3, 0, 0), (8, ⟨"LineMonitorModel", "passes", "(I)Z"⟩, prog_10_method_70_code, 5, (some .boolean), 1, 0, 0), (8, ⟨"LineMonitorModel", "assemble", "(I)I"⟩, prog_10_method_71_code, 4, (some .int), 1, 0, 0), (10, ⟨"java/lang/String", "length", "()I"⟩, prog_11_method_54_code, 1, (some .int), 0, 0, 0), (10, ⟨"java/lang/String", "charAt", "(I)C"⟩, prog_11_method_56_code, 2, (some .char), 1, 0, 0), (10, ⟨"java/lang/String", "coder", "()B"⟩, prog_11_method_152_code, 1, (some .byte), 0, 0, 0), (10, ⟨"java/lang/String", "isLatin1", "()Z"⟩, prog_11_method_154_code, 1, (some .boolean), 0, 0, 0), (10, ⟨"java/lang/String", "checkIndex", "(II)V"⟩, prog_11_method_155_code, 2, none, 2, 0, 0), (11, ⟨"java/lang/StringLatin1", "charAt", "([BI)C"⟩, prog_12_method_2_code, 2, (some .char), 2, 0, 0), (12, ⟨"java/lang/StringUTF16", "getChar", "([BI)C"⟩, prog_13_method_5_code, 2, (some .char), 2, 0, 0), (12, ⟨"java/lang/StringUTF16", "length", "([B)I"⟩, prog_13_method_6_code, 1, (some .int), 1, 0, 0)]
def mTb_6 : List (Nat × MethodName × ByteArray × Nat × Option FieldType × Nat × Nat × Nat) := [(12, ⟨"java/lang/StringUTF16", "charAt", "([BI)C"⟩, prog_13_method_83_code, 2, (some .char), 2, 0, 0), (12, ⟨"java/lang/StringUTF16", "checkIndex", "(I[B)V"⟩, prog_13_method_91_code, 2, none, 2, 0, 0), (13, ⟨"java/util/Arrays", "fill", "([II)V"⟩, prog_14_method_103_code, 4, none, 2, 0, 0), (14, ⟨"jdk/internal/util/Preconditions", "checkIndex", "(IILjava/util/function/BiFunction;)I"⟩, prog_15_method_11_code, 3, (some .int), 3, 0, 0)]
def mTb : List (Nat × MethodName × ByteArray × Nat × Option FieldType × Nat × Nat × Nat) := mTb_0 ++ (mTb_1 ++ (mTb_2 ++ (mTb_3 ++ (mTb_4 ++ (mTb_5 ++ (mTb_6))))))
abbrev mDf : Nat × MethodName × ByteArray × Nat × Option FieldType × Nat × Nat × Nat := (99, ⟨"", "", ""⟩, ⟨#[]⟩, 0, none, 0, 0, 0)
def mRow (y : Nat) := mTb.getD y mDf
def mO (y : Nat) : Nat := (mRow y).1
def mN (y : Nat) : MethodName := (mRow y).2.1
def mB (y : Nat) : ByteArray := (mRow y).2.2.1
def mL (y : Nat) : Nat := (mRow y).2.2.2.1
def mR (y : Nat) : Option FieldType := (mRow y).2.2.2.2.1
def mA (y : Nat) : Nat := (mRow y).2.2.2.2.2.1
def mC (y : Nat) : Nat := (mRow y).2.2.2.2.2.2.1
def mS (y : Nat) : Nat := (mRow y).2.2.2.2.2.2.2
def mMany : Nat := 184
def fL_0 : List (Nat × Nat × Nat × Nat × Nat) := [(5, 9, 5, 0, 112), (4, 28, 5, 0, 113), (5, 13, 5, 1, 114), (4, 23, 5, 1, 115), (0, 67, 5, 1, 116), (7, 46, 5, 1, 117), (3, 11, 3, 0, 207), (3, 15, 3, 1, 208), (3, 61, 3, 2, 209), (4, 9, 4, 0, 225), (4, 15, 4, 1, 226), (4, 52, 4, 2, 227), (4, 19, 4, 3, 228), (4, 66, 4, 4, 229), (0, 102, 4, 5, 230), (4, 92, 4, 5, 231), (0, 111, 4, 6, 232), (4, 62, 4, 6, 233), (0, 135, 4, 7, 234), (4, 89, 4, 7, 235), (0, 138, 4, 8, 236), (4, 72, 4, 8, 237), (0, 129, 4, 9, 238), (4, 76, 4, 9, 239), (0, 105, 4, 10, 240), (4, 69, 4, 10, 241), (0, 95, 4, 11, 242), (4, 79, 4, 11, 243), (0, 108, 4, 12, 244), (4, 82, 4, 12, 245), (0, 32, 0, 0, 274), (0, 12, 0, 1, 275), (0, 41, 0, 2, 276), (0, 18, 0, 3, 277), (0, 22, 0, 4, 278), (0, 26, 0, 5, 279), (0, 45, 0, 6, 280), (0, 29, 0, 7, 281), (0, 64, 0, 8, 282), (0, 58, 0, 9, 283), (7, 74, 0, 9, 284), (0, 61, 0, 10, 285), (7, 77, 0, 10, 286), (7, 10, 7, 0, 310), (7, 21, 7, 1, 311), (7, 25, 7, 2, 312), (2, 9, 2, 0, 346), (2, 19, 2, 1, 347), (2, 15, 2, 2, 348), (6, 80, 2, 2, 349)]
def fL_1 : List (Nat × Nat × Nat × Nat × Nat) := [(6, 31, 6, 0, 357), (1, 102, 6, 0, 358), (6, 9, 6, 1, 359), (7, 64, 6, 1, 360), (6, 15, 6, 2, 361), (7, 87, 6, 2, 362), (6, 18, 6, 3, 363), (6, 24, 6, 4, 364), (7, 106, 6, 4, 365), (6, 28, 6, 5, 366), (7, 132, 6, 5, 367), (6, 35, 6, 6, 368), (7, 96, 6, 6, 369), (6, 58, 6, 7, 370), (6, 61, 6, 8, 371), (6, 74, 6, 9, 372), (7, 90, 6, 9, 373), (1, 42, 6, 10, 374), (6, 77, 6, 10, 375), (7, 93, 6, 10, 376), (1, 99, 6, 11, 377), (6, 103, 6, 11, 378), (1, 49, 6, 12, 379), (6, 115, 6, 12, 380), (7, 115, 6, 13, 381), (6, 109, 6, 13, 382), (1, 52, 6, 14, 383), (6, 112, 6, 14, 384), (6, 106, 6, 15, 385), (6, 38, 6, 16, 386), (1, 24, 1, 0, 422), (7, 150, 1, 0, 423), (1, 30, 1, 1, 424), (1, 33, 1, 2, 425), (1, 36, 1, 3, 426), (1, 11, 1, 4, 427), (1, 39, 1, 5, 428), (1, 17, 1, 6, 429), (1, 20, 1, 7, 430), (1, 45, 1, 8, 431), (1, 68, 1, 9, 432), (1, 71, 1, 10, 433), (1, 83, 1, 11, 434), (1, 59, 1, 12, 435), (1, 65, 1, 13, 436), (8, 108, 8, 0, 839), (8, 172, 8, 1, 840), (8, 166, 8, 2, 841), (8, 184, 8, 3, 842), (8, 175, 8, 4, 843)]
def fL_2 : List (Nat × Nat × Nat × Nat × Nat) := [(8, 159, 8, 5, 844), (8, 169, 8, 6, 845), (8, 7, 8, 7, 846), (8, 181, 8, 8, 847), (8, 13, 8, 9, 848), (8, 153, 8, 10, 849), (8, 16, 8, 11, 850), (8, 156, 8, 12, 851), (8, 20, 8, 13, 852), (8, 24, 8, 14, 853), (8, 27, 8, 15, 854), (8, 30, 8, 16, 855), (8, 33, 8, 17, 856), (8, 36, 8, 18, 857), (8, 39, 8, 19, 858), (8, 42, 8, 20, 859), (8, 45, 8, 21, 860), (8, 48, 8, 22, 861), (8, 51, 8, 23, 862), (8, 54, 8, 24, 863), (8, 57, 8, 25, 864), (8, 60, 8, 26, 865), (8, 63, 8, 27, 866), (8, 66, 8, 28, 867), (8, 69, 8, 29, 868), (8, 72, 8, 30, 869), (8, 193, 8, 31, 870), (8, 199, 8, 32, 871), (8, 202, 8, 33, 872), (8, 75, 8, 34, 873), (8, 79, 8, 35, 874), (8, 96, 8, 36, 875), (8, 103, 8, 37, 876), (8, 82, 8, 38, 877), (8, 85, 8, 39, 878), (8, 89, 8, 40, 879), (8, 299, 8, 41, 880), (8, 254, 8, 42, 881), (8, 231, 8, 43, 882), (8, 228, 8, 44, 883), (8, 261, 8, 45, 884), (8, 257, 8, 46, 885)]
def fL : List (Nat × Nat × Nat × Nat × Nat) := fL_0 ++ (fL_1 ++ (fL_2))
def cL_0 : List (Nat × Nat × Nat × Nat × Nat × Nat × Nat × Nat) := [(9, 9, 1, 75, 100, 101, 84, 0), (7, 1, 3, 0, 103, 0, 0, 0), (7, 9, 4, 53, 108, 109, 85, 0), (5, 1, 3, 0, 111, 0, 0, 0), (7, 18, 1, 1, 126, 127, 86, 0), (0, 3, 3, 0, 129, 0, 0, 0), (0, 11, 1, 28, 132, 133, 87, 0), (3, 3, 3, 0, 135, 0, 0, 0), (3, 24, 0, 29, 139, 141, 87, 0), (3, 51, 0, 172, 143, 144, 88, 145), (10, 335, 0, 174, 147, 148, 88, 149), (3, 57, 0, 173, 153, 154, 88, 155), (10, 492, 0, 175, 157, 158, 88, 159), (10, 495, 2, 177, 161, 162, 89, 0), (11, 9, 2, 176, 164, 165, 88, 0), (10, 1059, 2, 183, 169, 170, 90, 0), (10, 498, 2, 180, 172, 173, 91, 0), (12, 67, 2, 181, 175, 176, 91, 0), (12, 48, 2, 179, 178, 179, 91, 0), (12, 414, 2, 176, 181, 165, 88, 0), (12, 71, 2, 178, 182, 183, 91, 0), (3, 47, 0, 31, 191, 193, 87, 1), (3, 43, 2, 30, 195, 196, 87, 0), (0, 38, 1, 36, 221, 222, 92, 0), (4, 3, 3, 0, 224, 0, 0, 0), (9, 13, 0, 76, 320, 321, 84, 322), (7, 29, 2, 98, 324, 325, 84, 0), (7, 35, 1, 13, 329, 330, 94, 0), (1, 3, 3, 0, 332, 0, 0, 0), (1, 27, 1, 58, 336, 337, 95, 0), (6, 3, 3, 0, 339, 0, 0, 0), (6, 23, 4, 24, 342, 343, 96, 0), (2, 3, 3, 0, 345, 0, 0, 0), (9, 18, 0, 77, 466, 467, 84, 468), (7, 38, 0, 54, 470, 471, 85, 472), (7, 42, 0, 55, 474, 475, 85, 476), (5, 17, 0, 54, 478, 471, 85, 472), (9, 23, 0, 78, 479, 480, 84, 481), (7, 50, 0, 56, 483, 484, 85, 485), (9, 28, 0, 79, 487, 488, 84, 489), (7, 53, 0, 97, 491, 493, 84, 2), (7, 57, 0, 2, 495, 496, 86, 497), (0, 49, 2, 182, 499, 500, 97, 0), (0, 55, 0, 32, 502, 503, 87, 504), (7, 60, 0, 3, 506, 507, 86, 508), (0, 72, 0, 57, 510, 511, 85, 512), (0, 76, 0, 43, 514, 515, 92, 516), (4, 49, 0, 40, 518, 520, 92, 3), (4, 32, 0, 37, 522, 524, 92, 4), (0, 80, 0, 4, 526, 528, 86, 5)]
def cL_1 : List (Nat × Nat × Nat × Nat × Nat × Nat × Nat × Nat) := [(0, 88, 0, 5, 530, 532, 86, 6), (0, 119, 0, 44, 534, 535, 92, 536), (4, 55, 0, 41, 538, 540, 92, 7), (4, 36, 2, 38, 542, 543, 92, 0), (4, 40, 2, 39, 545, 546, 92, 0), (4, 58, 0, 42, 548, 550, 92, 8), (4, 45, 2, 30, 552, 196, 87, 0), (0, 91, 0, 45, 553, 554, 92, 555), (4, 85, 0, 33, 557, 558, 87, 559), (4, 95, 0, 50, 561, 563, 92, 9), (4, 112, 0, 51, 565, 567, 92, 10), (4, 115, 0, 52, 569, 571, 92, 11), (4, 118, 0, 34, 573, 574, 87, 575), (3, 65, 0, 33, 577, 558, 87, 559), (4, 99, 0, 47, 578, 580, 92, 12), (4, 109, 2, 48, 582, 583, 92, 0), (4, 102, 0, 49, 585, 587, 92, 13), (4, 105, 0, 46, 589, 591, 92, 14), (0, 99, 0, 6, 593, 595, 86, 15), (0, 115, 0, 35, 597, 598, 87, 599), (0, 84, 0, 7, 601, 603, 86, 16), (0, 123, 0, 8, 605, 607, 86, 17), (0, 132, 0, 9, 609, 611, 86, 18), (0, 141, 0, 11, 613, 615, 86, 19), (0, 126, 0, 10, 617, 619, 86, 20), (7, 70, 0, 12, 621, 622, 86, 623), (9, 32, 0, 80, 625, 626, 84, 627), (9, 36, 0, 81, 629, 630, 84, 631), (7, 80, 2, 99, 633, 634, 84, 0), (9, 41, 0, 82, 636, 637, 84, 638), (9, 46, 0, 83, 640, 641, 84, 642), (7, 83, 2, 100, 644, 645, 84, 0), (9, 50, 0, 84, 647, 648, 84, 649), (9, 54, 0, 85, 651, 652, 84, 653), (9, 58, 0, 86, 655, 656, 84, 657), (7, 99, 0, 14, 659, 660, 94, 661), (7, 103, 0, 15, 663, 664, 94, 665), (1, 55, 0, 16, 667, 669, 94, 21), (9, 62, 0, 87, 671, 672, 84, 673), (7, 110, 0, 25, 675, 676, 96, 677), (9, 66, 0, 88, 679, 680, 84, 681), (7, 118, 0, 17, 683, 684, 94, 685), (1, 62, 0, 18, 687, 689, 94, 22), (1, 80, 0, 59, 691, 692, 95, 693), (6, 41, 0, 60, 695, 697, 95, 23), (6, 44, 0, 62, 699, 701, 95, 24), (6, 64, 0, 63, 703, 705, 95, 25), (6, 68, 0, 61, 707, 709, 95, 26), (6, 48, 0, 67, 711, 713, 95, 27), (6, 83, 0, 68, 715, 717, 95, 28)]
def cL_2 : List (Nat × Nat × Nat × Nat × Nat × Nat × Nat × Nat) := [(6, 99, 0, 26, 719, 720, 96, 721), (2, 22, 0, 27, 723, 724, 96, 725), (6, 89, 0, 69, 727, 729, 95, 29), (6, 86, 0, 25, 731, 676, 96, 677), (6, 92, 0, 70, 732, 734, 95, 30), (6, 95, 0, 71, 736, 738, 95, 31), (6, 51, 0, 64, 740, 742, 95, 32), (6, 71, 0, 65, 744, 746, 95, 33), (6, 55, 0, 66, 748, 750, 95, 34), (1, 74, 0, 19, 752, 754, 94, 35), (1, 86, 0, 20, 756, 758, 94, 36), (1, 92, 0, 72, 760, 761, 95, 762), (1, 96, 0, 14, 764, 660, 94, 661), (1, 89, 0, 21, 765, 767, 94, 37), (1, 77, 0, 15, 769, 664, 94, 665), (9, 70, 0, 89, 770, 771, 84, 772), (7, 122, 0, 74, 774, 775, 95, 776), (9, 74, 0, 90, 778, 779, 84, 780), (7, 126, 0, 73, 782, 783, 95, 784), (9, 78, 0, 91, 786, 787, 84, 788), (7, 129, 0, 27, 790, 724, 96, 725), (9, 82, 0, 92, 791, 792, 84, 793), (9, 86, 0, 93, 795, 796, 84, 797), (7, 135, 0, 23, 799, 800, 94, 801), (9, 90, 0, 94, 803, 804, 84, 805), (7, 136, 0, 22, 807, 808, 94, 809), (9, 94, 0, 95, 811, 812, 84, 813), (7, 143, 0, 93, 817, 796, 84, 797), (7, 146, 2, 96, 818, 819, 84, 0), (9, 12, 1, 101, 823, 824, 93, 0), (8, 1, 3, 0, 826, 0, 0, 0), (8, 92, 0, 102, 828, 830, 93, 38), (8, 99, 2, 144, 832, 833, 93, 0), (8, 225, 2, 142, 835, 836, 93, 0), (9, 17, 0, 121, 981, 982, 93, 983), (8, 111, 2, 103, 985, 986, 93, 0), (9, 22, 0, 123, 988, 989, 93, 990), (8, 196, 0, 122, 992, 994, 93, 39), (9, 27, 0, 124, 996, 997, 93, 998), (9, 35, 0, 125, 1000, 1001, 93, 1002), (9, 40, 0, 126, 1004, 1005, 93, 1006), (8, 205, 0, 104, 1008, 1010, 93, 40), (8, 133, 0, 106, 1012, 1014, 93, 41), (9, 45, 0, 127, 1016, 1017, 93, 1018), (8, 115, 0, 105, 1020, 1022, 93, 42), (9, 49, 0, 129, 1024, 1025, 93, 1026), (8, 209, 0, 128, 1028, 1030, 93, 43), (9, 53, 0, 130, 1032, 1033, 93, 1034), (9, 57, 0, 131, 1036, 1037, 93, 1038), (9, 61, 0, 132, 1040, 1041, 93, 1042)]
def cL_3 : List (Nat × Nat × Nat × Nat × Nat × Nat × Nat × Nat) := [(8, 162, 0, 117, 1044, 1046, 93, 44), (8, 190, 0, 119, 1048, 1050, 93, 45), (9, 65, 0, 133, 1052, 1053, 93, 1054), (9, 69, 0, 134, 1056, 1057, 93, 1058), (8, 212, 0, 120, 1060, 1062, 93, 46), (8, 178, 0, 109, 1064, 1066, 93, 47), (8, 119, 0, 110, 1068, 1070, 93, 48), (8, 136, 0, 107, 1072, 1074, 93, 49), (8, 139, 0, 108, 1076, 1078, 93, 50), (8, 123, 0, 113, 1080, 1082, 93, 51), (8, 143, 0, 116, 1084, 1086, 93, 52), (8, 146, 2, 114, 1088, 1089, 93, 0), (8, 150, 0, 115, 1091, 1093, 93, 53), (8, 126, 0, 111, 1095, 1097, 93, 54), (8, 130, 0, 112, 1099, 1101, 93, 55), (8, 187, 0, 118, 1103, 1105, 93, 56), (9, 73, 0, 135, 1107, 1108, 93, 1109), (9, 77, 0, 136, 1111, 1112, 93, 1113), (9, 81, 0, 137, 1115, 1116, 93, 1117), (9, 85, 0, 138, 1119, 1120, 93, 1121), (9, 89, 0, 139, 1123, 1124, 93, 1125), (9, 93, 0, 140, 1127, 1128, 93, 1129), (9, 98, 0, 141, 1131, 1132, 93, 1133), (8, 219, 0, 139, 1137, 1124, 93, 1125), (8, 222, 0, 135, 1138, 1108, 93, 1109), (9, 31, 0, 171, 1139, 1140, 93, 1141), (8, 332, 0, 170, 1143, 1145, 93, 57), (8, 329, 0, 169, 1147, 1149, 93, 58), (8, 325, 0, 168, 1151, 1153, 93, 59), (8, 316, 0, 165, 1155, 1157, 93, 60), (8, 267, 0, 146, 1159, 1161, 93, 61), (8, 270, 0, 152, 1163, 1165, 93, 62), (8, 243, 0, 148, 1167, 1169, 93, 63), (8, 237, 0, 145, 1171, 1173, 93, 64), (8, 240, 0, 147, 1175, 1177, 93, 65), (8, 234, 2, 143, 1179, 1180, 93, 0), (8, 280, 0, 153, 1182, 1184, 93, 66), (8, 274, 0, 156, 1186, 1188, 93, 67), (8, 264, 0, 155, 1190, 1192, 93, 68), (8, 246, 0, 149, 1194, 1196, 93, 69), (8, 250, 0, 150, 1198, 1200, 93, 70), (8, 283, 0, 151, 1202, 1204, 93, 71), (8, 306, 0, 166, 1206, 1208, 93, 72), (8, 292, 0, 154, 1210, 1212, 93, 73), (8, 313, 0, 164, 1214, 1216, 93, 74), (8, 302, 0, 163, 1218, 1220, 93, 75), (8, 309, 0, 167, 1222, 1224, 93, 76), (8, 319, 0, 158, 1226, 1228, 93, 77), (8, 277, 0, 157, 1230, 1232, 93, 78), (8, 286, 0, 159, 1234, 1236, 93, 79)]
def cL_4 : List (Nat × Nat × Nat × Nat × Nat × Nat × Nat × Nat) := [(8, 289, 0, 160, 1238, 1240, 93, 80), (8, 322, 0, 162, 1242, 1244, 93, 81), (8, 295, 0, 161, 1246, 1248, 93, 82)]
def cL : List (Nat × Nat × Nat × Nat × Nat × Nat × Nat × Nat) := cL_0 ++ (cL_1 ++ (cL_2 ++ (cL_3 ++ (cL_4))))
def nL_0 : List (Nat × Nat × Nat × Nat × Nat × Nat) := [(9, 7, 7, 98, 99, 84), (7, 7, 5, 106, 107, 85), (7, 16, 0, 124, 125, 86), (0, 9, 3, 130, 131, 87), (0, 36, 4, 219, 220, 92), (7, 33, 1, 327, 328, 94), (1, 9, 6, 333, 335, 95), (6, 21, 2, 340, 341, 96), (9, 10, 8, 821, 822, 93)]
def nL : List (Nat × Nat × Nat × Nat × Nat × Nat) := nL_0
def sL_0 : List (Nat × Nat × Nat × Nat) := [(3, 21, 0, 137), (10, 38, 1, 151), (10, 1053, 2, 167), (12, 44, 3, 185), (12, 59, 4, 187), (12, 63, 5, 189), (3, 30, 6, 199), (3, 35, 7, 202), (3, 40, 8, 205)]
def sL : List (Nat × Nat × Nat × Nat) := sL_0
def kL_0 : List (Nat × Nat × Value × Nat) := [(7, 139, .long 7, 815), (7, 141, .long 31, 816), (8, 23, .int 32768, 827), (8, 106, .long 37, 838), (8, 215, .long 7, 1135), (8, 217, .long 31, 1136)]
def kL : List (Nat × Nat × Value × Nat) := kL_0
def stL : List (String × String × String) := [("LineMonitor$Names", "MEMORY_VALUES", "[I"), ("java/lang/String", "COMPACT_STRINGS", "Z"), ("jdk/internal/util/Preconditions", "SIOOBE_FORMATTER", "Ljava/util/function/BiFunction;"), ("java/lang/StringUTF16", "$assertionsDisabled", "Z"), ("java/lang/StringUTF16", "HI_BYTE_SHIFT", "I"), ("java/lang/StringUTF16", "LO_BYTE_SHIFT", "I"), ("LineMonitor$Names", "OPERATION_VALUES", "[I"), ("LineMonitor$Names", "TEST_VALUES", "[I"), ("LineMonitor$Names", "DEVICE_VALUES", "[I")]
def gL : List (Nat × Nat × String × Nat) := [(3, 19, "AND TAD ISZ DCA JMS JMP ", 136), (3, 28, "CLA CLL CMA CML RAR RAL RTR RTL IAC NOP ", 198), (3, 33, "SMA SZA SPA SNA SNL SZL SKP OSR HLT CIA ", 201), (3, 38, "KSF KRB TSF TLS SLP RDB WRB WHO ", 204)]
def lyP0 : List Nat := [287, 289, 291, 293, 295, 297, 299, 301, 303, 305, 307]
def lyP1 : List Nat := [437, 439, 441, 443, 445, 447, 449, 451, 453, 455, 457, 459, 461, 463]
def lyP2 : List Nat := [350, 352, 354]
def lyP3 : List Nat := [210, 212, 214]
def lyP4 : List Nat := [246, 248, 250, 252, 254, 256, 258, 260, 262, 264, 266, 268, 270]
def lyP5 : List Nat := [118, 120]
def lyP6 : List Nat := [387, 389, 391, 393, 395, 397, 399, 401, 403, 405, 407, 409, 411, 413, 415, 417, 419]
def lyP7 : List Nat := [313, 315, 317]
def lyP8 : List Nat := [886, 888, 890, 892, 894, 896, 898, 900, 902, 904, 906, 908, 910, 912, 914, 916, 918, 920, 922, 924, 926, 928, 930, 932, 934, 936, 938, 940, 942, 944, 946, 948, 950, 952, 954, 956, 958, 960, 962, 964, 966, 968, 970, 972, 974, 976, 978]
def tyOf (ci k : Nat) : FieldType := match ci with
  | 0 => tyX0 k
  | 1 => tyX1 k
  | 2 => tyX2 k
  | 3 => tyX3 k
  | 4 => tyX4 k
  | 5 => tyX5 k
  | 6 => tyX6 k
  | 7 => tyX7 k
  | 8 => tyX8 k
  | _ => .int
def lyP : List (List Nat) := [lyP0, lyP1, lyP2, lyP3, lyP4, lyP5, lyP6, lyP7, lyP8]
def acP : List (FieldType × Nat) := [(.int, 218), (.byte, 123), (.long, 217), (.boolean, 273)]
def mPs : List Nat := [0, 128, 498, 509, 529, 533, 596, 604, 608, 612, 620, 616, 624, 331, 662, 666, 670, 686, 690, 755, 759, 768, 810, 802, 344, 678, 722, 726, 134, 142, 197, 194, 505, 560, 576, 600, 223, 525, 544, 547, 521, 541, 551, 517, 537, 556, 592, 581, 584, 588, 564, 568, 572, 110, 473, 477, 486, 513, 338, 694, 698, 710, 702, 706, 743, 747, 751, 714, 718, 730, 735, 739, 763, 785, 777, 102, 323, 469, 482, 490, 628, 632, 639, 643, 650, 654, 658, 674, 682, 773, 781, 789, 794, 798, 806, 814, 820, 494, 326, 635, 646, 825, 831, 987, 1011, 1023, 1015, 1075, 1079, 1067, 1071, 1098, 1102, 1083, 1090, 1094, 1087, 1047, 1106, 1051, 1063, 984, 995, 991, 999, 1003, 1007, 1019, 1031, 1027, 1035, 1039, 1043, 1055, 1059, 1110, 1114, 1118, 1122, 1126, 1130, 1134, 837, 1181, 834, 1174, 1162, 1178, 1170, 1197, 1201, 1205, 1166, 1185, 1213, 1193, 1189, 1233, 1229, 1237, 1241, 1249, 1245, 1221, 1217, 1158, 1209, 1225, 1154, 1150, 1146, 1142, 146, 156, 150, 160, 166, 163, 184, 180, 174, 177, 501, 171]
set_option maxRecDepth 100000 in
theorem mc_1 : lw_tbl[128]? = some (Cond.code (mN 1) (mB 1) (mL 1) (mR 1)) := rfl
set_option maxRecDepth 100000 in
theorem mc_2 : lw_tbl[498]? = some (Cond.code (mN 2) (mB 2) (mL 2) (mR 2)) := rfl
set_option maxRecDepth 100000 in
theorem mc_3 : lw_tbl[509]? = some (Cond.code (mN 3) (mB 3) (mL 3) (mR 3)) := rfl
set_option maxRecDepth 100000 in
theorem mc_4 : lw_tbl[529]? = some (Cond.code (mN 4) (mB 4) (mL 4) (mR 4)) := rfl
set_option maxRecDepth 100000 in
theorem mc_5 : lw_tbl[533]? = some (Cond.code (mN 5) (mB 5) (mL 5) (mR 5)) := rfl
set_option maxRecDepth 100000 in
theorem mc_6 : lw_tbl[596]? = some (Cond.code (mN 6) (mB 6) (mL 6) (mR 6)) := rfl
set_option maxRecDepth 100000 in
theorem mc_7 : lw_tbl[604]? = some (Cond.code (mN 7) (mB 7) (mL 7) (mR 7)) := rfl
set_option maxRecDepth 100000 in
theorem mc_8 : lw_tbl[608]? = some (Cond.code (mN 8) (mB 8) (mL 8) (mR 8)) := rfl
set_option maxRecDepth 100000 in
theorem mc_9 : lw_tbl[612]? = some (Cond.code (mN 9) (mB 9) (mL 9) (mR 9)) := rfl
set_option maxRecDepth 100000 in
theorem mc_10 : lw_tbl[620]? = some (Cond.code (mN 10) (mB 10) (mL 10) (mR 10)) := rfl
set_option maxRecDepth 100000 in
theorem mc_11 : lw_tbl[616]? = some (Cond.code (mN 11) (mB 11) (mL 11) (mR 11)) := rfl
set_option maxRecDepth 100000 in
theorem mc_12 : lw_tbl[624]? = some (Cond.code (mN 12) (mB 12) (mL 12) (mR 12)) := rfl
set_option maxRecDepth 100000 in
theorem mc_13 : lw_tbl[331]? = some (Cond.code (mN 13) (mB 13) (mL 13) (mR 13)) := rfl
set_option maxRecDepth 100000 in
theorem mc_14 : lw_tbl[662]? = some (Cond.code (mN 14) (mB 14) (mL 14) (mR 14)) := rfl
set_option maxRecDepth 100000 in
theorem mc_15 : lw_tbl[666]? = some (Cond.code (mN 15) (mB 15) (mL 15) (mR 15)) := rfl
set_option maxRecDepth 100000 in
theorem mc_16 : lw_tbl[670]? = some (Cond.code (mN 16) (mB 16) (mL 16) (mR 16)) := rfl
set_option maxRecDepth 100000 in
theorem mc_17 : lw_tbl[686]? = some (Cond.code (mN 17) (mB 17) (mL 17) (mR 17)) := rfl
set_option maxRecDepth 100000 in
theorem mc_18 : lw_tbl[690]? = some (Cond.code (mN 18) (mB 18) (mL 18) (mR 18)) := rfl
set_option maxRecDepth 100000 in
theorem mc_19 : lw_tbl[755]? = some (Cond.code (mN 19) (mB 19) (mL 19) (mR 19)) := rfl
set_option maxRecDepth 100000 in
theorem mc_20 : lw_tbl[759]? = some (Cond.code (mN 20) (mB 20) (mL 20) (mR 20)) := rfl
set_option maxRecDepth 100000 in
theorem mc_21 : lw_tbl[768]? = some (Cond.code (mN 21) (mB 21) (mL 21) (mR 21)) := rfl
set_option maxRecDepth 100000 in
theorem mc_22 : lw_tbl[810]? = some (Cond.code (mN 22) (mB 22) (mL 22) (mR 22)) := rfl
set_option maxRecDepth 100000 in
theorem mc_23 : lw_tbl[802]? = some (Cond.code (mN 23) (mB 23) (mL 23) (mR 23)) := rfl
set_option maxRecDepth 100000 in
theorem mc_24 : lw_tbl[344]? = some (Cond.code (mN 24) (mB 24) (mL 24) (mR 24)) := rfl
set_option maxRecDepth 100000 in
theorem mc_25 : lw_tbl[678]? = some (Cond.code (mN 25) (mB 25) (mL 25) (mR 25)) := rfl
set_option maxRecDepth 100000 in
theorem mc_26 : lw_tbl[722]? = some (Cond.code (mN 26) (mB 26) (mL 26) (mR 26)) := rfl
set_option maxRecDepth 100000 in
theorem mc_27 : lw_tbl[726]? = some (Cond.code (mN 27) (mB 27) (mL 27) (mR 27)) := rfl
set_option maxRecDepth 100000 in
theorem mc_28 : lw_tbl[134]? = some (Cond.code (mN 28) (mB 28) (mL 28) (mR 28)) := rfl
set_option maxRecDepth 100000 in
theorem mc_29 : lw_tbl[142]? = some (Cond.code (mN 29) (mB 29) (mL 29) (mR 29)) := rfl
set_option maxRecDepth 100000 in
theorem mc_30 : lw_tbl[197]? = some (Cond.code (mN 30) (mB 30) (mL 30) (mR 30)) := rfl
set_option maxRecDepth 100000 in
theorem mc_31 : lw_tbl[194]? = some (Cond.code (mN 31) (mB 31) (mL 31) (mR 31)) := rfl
set_option maxRecDepth 100000 in
theorem mc_32 : lw_tbl[505]? = some (Cond.code (mN 32) (mB 32) (mL 32) (mR 32)) := rfl
set_option maxRecDepth 100000 in
theorem mc_33 : lw_tbl[560]? = some (Cond.code (mN 33) (mB 33) (mL 33) (mR 33)) := rfl
set_option maxRecDepth 100000 in
theorem mc_34 : lw_tbl[576]? = some (Cond.code (mN 34) (mB 34) (mL 34) (mR 34)) := rfl
set_option maxRecDepth 100000 in
theorem mc_35 : lw_tbl[600]? = some (Cond.code (mN 35) (mB 35) (mL 35) (mR 35)) := rfl
set_option maxRecDepth 100000 in
theorem mc_36 : lw_tbl[223]? = some (Cond.code (mN 36) (mB 36) (mL 36) (mR 36)) := rfl
set_option maxRecDepth 100000 in
theorem mc_37 : lw_tbl[525]? = some (Cond.code (mN 37) (mB 37) (mL 37) (mR 37)) := rfl
set_option maxRecDepth 100000 in
theorem mc_38 : lw_tbl[544]? = some (Cond.code (mN 38) (mB 38) (mL 38) (mR 38)) := rfl
set_option maxRecDepth 100000 in
theorem mc_39 : lw_tbl[547]? = some (Cond.code (mN 39) (mB 39) (mL 39) (mR 39)) := rfl
set_option maxRecDepth 100000 in
theorem mc_40 : lw_tbl[521]? = some (Cond.code (mN 40) (mB 40) (mL 40) (mR 40)) := rfl
set_option maxRecDepth 100000 in
theorem mc_41 : lw_tbl[541]? = some (Cond.code (mN 41) (mB 41) (mL 41) (mR 41)) := rfl
set_option maxRecDepth 100000 in
theorem mc_42 : lw_tbl[551]? = some (Cond.code (mN 42) (mB 42) (mL 42) (mR 42)) := rfl
set_option maxRecDepth 100000 in
theorem mc_43 : lw_tbl[517]? = some (Cond.code (mN 43) (mB 43) (mL 43) (mR 43)) := rfl
set_option maxRecDepth 100000 in
theorem mc_44 : lw_tbl[537]? = some (Cond.code (mN 44) (mB 44) (mL 44) (mR 44)) := rfl
set_option maxRecDepth 100000 in
theorem mc_45 : lw_tbl[556]? = some (Cond.code (mN 45) (mB 45) (mL 45) (mR 45)) := rfl
set_option maxRecDepth 100000 in
theorem mc_46 : lw_tbl[592]? = some (Cond.code (mN 46) (mB 46) (mL 46) (mR 46)) := rfl
set_option maxRecDepth 100000 in
theorem mc_47 : lw_tbl[581]? = some (Cond.code (mN 47) (mB 47) (mL 47) (mR 47)) := rfl
set_option maxRecDepth 100000 in
theorem mc_48 : lw_tbl[584]? = some (Cond.code (mN 48) (mB 48) (mL 48) (mR 48)) := rfl
set_option maxRecDepth 100000 in
theorem mc_49 : lw_tbl[588]? = some (Cond.code (mN 49) (mB 49) (mL 49) (mR 49)) := rfl
set_option maxRecDepth 100000 in
theorem mc_50 : lw_tbl[564]? = some (Cond.code (mN 50) (mB 50) (mL 50) (mR 50)) := rfl
set_option maxRecDepth 100000 in
theorem mc_51 : lw_tbl[568]? = some (Cond.code (mN 51) (mB 51) (mL 51) (mR 51)) := rfl
set_option maxRecDepth 100000 in
theorem mc_52 : lw_tbl[572]? = some (Cond.code (mN 52) (mB 52) (mL 52) (mR 52)) := rfl
set_option maxRecDepth 100000 in
theorem mc_53 : lw_tbl[110]? = some (Cond.code (mN 53) (mB 53) (mL 53) (mR 53)) := rfl
set_option maxRecDepth 100000 in
theorem mc_54 : lw_tbl[473]? = some (Cond.code (mN 54) (mB 54) (mL 54) (mR 54)) := rfl
set_option maxRecDepth 100000 in
theorem mc_55 : lw_tbl[477]? = some (Cond.code (mN 55) (mB 55) (mL 55) (mR 55)) := rfl
set_option maxRecDepth 100000 in
theorem mc_56 : lw_tbl[486]? = some (Cond.code (mN 56) (mB 56) (mL 56) (mR 56)) := rfl
set_option maxRecDepth 100000 in
theorem mc_57 : lw_tbl[513]? = some (Cond.code (mN 57) (mB 57) (mL 57) (mR 57)) := rfl
set_option maxRecDepth 100000 in
theorem mc_58 : lw_tbl[338]? = some (Cond.code (mN 58) (mB 58) (mL 58) (mR 58)) := rfl
set_option maxRecDepth 100000 in
theorem mc_59 : lw_tbl[694]? = some (Cond.code (mN 59) (mB 59) (mL 59) (mR 59)) := rfl
set_option maxRecDepth 100000 in
theorem mc_60 : lw_tbl[698]? = some (Cond.code (mN 60) (mB 60) (mL 60) (mR 60)) := rfl
set_option maxRecDepth 100000 in
theorem mc_61 : lw_tbl[710]? = some (Cond.code (mN 61) (mB 61) (mL 61) (mR 61)) := rfl
set_option maxRecDepth 100000 in
theorem mc_62 : lw_tbl[702]? = some (Cond.code (mN 62) (mB 62) (mL 62) (mR 62)) := rfl
set_option maxRecDepth 100000 in
theorem mc_63 : lw_tbl[706]? = some (Cond.code (mN 63) (mB 63) (mL 63) (mR 63)) := rfl
set_option maxRecDepth 100000 in
theorem mc_64 : lw_tbl[743]? = some (Cond.code (mN 64) (mB 64) (mL 64) (mR 64)) := rfl
set_option maxRecDepth 100000 in
theorem mc_65 : lw_tbl[747]? = some (Cond.code (mN 65) (mB 65) (mL 65) (mR 65)) := rfl
set_option maxRecDepth 100000 in
theorem mc_66 : lw_tbl[751]? = some (Cond.code (mN 66) (mB 66) (mL 66) (mR 66)) := rfl
set_option maxRecDepth 100000 in
theorem mc_67 : lw_tbl[714]? = some (Cond.code (mN 67) (mB 67) (mL 67) (mR 67)) := rfl
set_option maxRecDepth 100000 in
theorem mc_68 : lw_tbl[718]? = some (Cond.code (mN 68) (mB 68) (mL 68) (mR 68)) := rfl
set_option maxRecDepth 100000 in
theorem mc_69 : lw_tbl[730]? = some (Cond.code (mN 69) (mB 69) (mL 69) (mR 69)) := rfl
set_option maxRecDepth 100000 in
theorem mc_70 : lw_tbl[735]? = some (Cond.code (mN 70) (mB 70) (mL 70) (mR 70)) := rfl
set_option maxRecDepth 100000 in
theorem mc_71 : lw_tbl[739]? = some (Cond.code (mN 71) (mB 71) (mL 71) (mR 71)) := rfl
set_option maxRecDepth 100000 in
theorem mc_72 : lw_tbl[763]? = some (Cond.code (mN 72) (mB 72) (mL 72) (mR 72)) := rfl
set_option maxRecDepth 100000 in
theorem mc_73 : lw_tbl[785]? = some (Cond.code (mN 73) (mB 73) (mL 73) (mR 73)) := rfl
set_option maxRecDepth 100000 in
theorem mc_74 : lw_tbl[777]? = some (Cond.code (mN 74) (mB 74) (mL 74) (mR 74)) := rfl
set_option maxRecDepth 100000 in
theorem mc_75 : lw_tbl[102]? = some (Cond.code (mN 75) (mB 75) (mL 75) (mR 75)) := rfl
set_option maxRecDepth 100000 in
theorem mc_76 : lw_tbl[323]? = some (Cond.code (mN 76) (mB 76) (mL 76) (mR 76)) := rfl
set_option maxRecDepth 100000 in
theorem mc_77 : lw_tbl[469]? = some (Cond.code (mN 77) (mB 77) (mL 77) (mR 77)) := rfl
set_option maxRecDepth 100000 in
theorem mc_78 : lw_tbl[482]? = some (Cond.code (mN 78) (mB 78) (mL 78) (mR 78)) := rfl
set_option maxRecDepth 100000 in
theorem mc_79 : lw_tbl[490]? = some (Cond.code (mN 79) (mB 79) (mL 79) (mR 79)) := rfl
set_option maxRecDepth 100000 in
theorem mc_80 : lw_tbl[628]? = some (Cond.code (mN 80) (mB 80) (mL 80) (mR 80)) := rfl
set_option maxRecDepth 100000 in
theorem mc_81 : lw_tbl[632]? = some (Cond.code (mN 81) (mB 81) (mL 81) (mR 81)) := rfl
set_option maxRecDepth 100000 in
theorem mc_82 : lw_tbl[639]? = some (Cond.code (mN 82) (mB 82) (mL 82) (mR 82)) := rfl
set_option maxRecDepth 100000 in
theorem mc_83 : lw_tbl[643]? = some (Cond.code (mN 83) (mB 83) (mL 83) (mR 83)) := rfl
set_option maxRecDepth 100000 in
theorem mc_84 : lw_tbl[650]? = some (Cond.code (mN 84) (mB 84) (mL 84) (mR 84)) := rfl
set_option maxRecDepth 100000 in
theorem mc_85 : lw_tbl[654]? = some (Cond.code (mN 85) (mB 85) (mL 85) (mR 85)) := rfl
set_option maxRecDepth 100000 in
theorem mc_86 : lw_tbl[658]? = some (Cond.code (mN 86) (mB 86) (mL 86) (mR 86)) := rfl
set_option maxRecDepth 100000 in
theorem mc_87 : lw_tbl[674]? = some (Cond.code (mN 87) (mB 87) (mL 87) (mR 87)) := rfl
set_option maxRecDepth 100000 in
theorem mc_88 : lw_tbl[682]? = some (Cond.code (mN 88) (mB 88) (mL 88) (mR 88)) := rfl
set_option maxRecDepth 100000 in
theorem mc_89 : lw_tbl[773]? = some (Cond.code (mN 89) (mB 89) (mL 89) (mR 89)) := rfl
set_option maxRecDepth 100000 in
theorem mc_90 : lw_tbl[781]? = some (Cond.code (mN 90) (mB 90) (mL 90) (mR 90)) := rfl
set_option maxRecDepth 100000 in
theorem mc_91 : lw_tbl[789]? = some (Cond.code (mN 91) (mB 91) (mL 91) (mR 91)) := rfl
set_option maxRecDepth 100000 in
theorem mc_92 : lw_tbl[794]? = some (Cond.code (mN 92) (mB 92) (mL 92) (mR 92)) := rfl
set_option maxRecDepth 100000 in
theorem mc_93 : lw_tbl[798]? = some (Cond.code (mN 93) (mB 93) (mL 93) (mR 93)) := rfl
set_option maxRecDepth 100000 in
theorem mc_94 : lw_tbl[806]? = some (Cond.code (mN 94) (mB 94) (mL 94) (mR 94)) := rfl
set_option maxRecDepth 100000 in
theorem mc_95 : lw_tbl[814]? = some (Cond.code (mN 95) (mB 95) (mL 95) (mR 95)) := rfl
set_option maxRecDepth 100000 in
theorem mc_96 : lw_tbl[820]? = some (Cond.code (mN 96) (mB 96) (mL 96) (mR 96)) := rfl
set_option maxRecDepth 100000 in
theorem mc_97 : lw_tbl[494]? = some (Cond.code (mN 97) (mB 97) (mL 97) (mR 97)) := rfl
set_option maxRecDepth 100000 in
theorem mc_98 : lw_tbl[326]? = some (Cond.code (mN 98) (mB 98) (mL 98) (mR 98)) := rfl
set_option maxRecDepth 100000 in
theorem mc_99 : lw_tbl[635]? = some (Cond.code (mN 99) (mB 99) (mL 99) (mR 99)) := rfl
set_option maxRecDepth 100000 in
theorem mc_100 : lw_tbl[646]? = some (Cond.code (mN 100) (mB 100) (mL 100) (mR 100)) := rfl
set_option maxRecDepth 100000 in
theorem mc_101 : lw_tbl[825]? = some (Cond.code (mN 101) (mB 101) (mL 101) (mR 101)) := rfl
set_option maxRecDepth 100000 in
theorem mc_102 : lw_tbl[831]? = some (Cond.code (mN 102) (mB 102) (mL 102) (mR 102)) := rfl
set_option maxRecDepth 100000 in
theorem mc_103 : lw_tbl[987]? = some (Cond.code (mN 103) (mB 103) (mL 103) (mR 103)) := rfl
set_option maxRecDepth 100000 in
theorem mc_104 : lw_tbl[1011]? = some (Cond.code (mN 104) (mB 104) (mL 104) (mR 104)) := rfl
set_option maxRecDepth 100000 in
theorem mc_105 : lw_tbl[1023]? = some (Cond.code (mN 105) (mB 105) (mL 105) (mR 105)) := rfl
set_option maxRecDepth 100000 in
theorem mc_106 : lw_tbl[1015]? = some (Cond.code (mN 106) (mB 106) (mL 106) (mR 106)) := rfl
set_option maxRecDepth 100000 in
theorem mc_107 : lw_tbl[1075]? = some (Cond.code (mN 107) (mB 107) (mL 107) (mR 107)) := rfl
set_option maxRecDepth 100000 in
theorem mc_108 : lw_tbl[1079]? = some (Cond.code (mN 108) (mB 108) (mL 108) (mR 108)) := rfl
set_option maxRecDepth 100000 in
theorem mc_109 : lw_tbl[1067]? = some (Cond.code (mN 109) (mB 109) (mL 109) (mR 109)) := rfl
set_option maxRecDepth 100000 in
theorem mc_110 : lw_tbl[1071]? = some (Cond.code (mN 110) (mB 110) (mL 110) (mR 110)) := rfl
set_option maxRecDepth 100000 in
theorem mc_111 : lw_tbl[1098]? = some (Cond.code (mN 111) (mB 111) (mL 111) (mR 111)) := rfl
set_option maxRecDepth 100000 in
theorem mc_112 : lw_tbl[1102]? = some (Cond.code (mN 112) (mB 112) (mL 112) (mR 112)) := rfl
set_option maxRecDepth 100000 in
theorem mc_113 : lw_tbl[1083]? = some (Cond.code (mN 113) (mB 113) (mL 113) (mR 113)) := rfl
set_option maxRecDepth 100000 in
theorem mc_114 : lw_tbl[1090]? = some (Cond.code (mN 114) (mB 114) (mL 114) (mR 114)) := rfl
set_option maxRecDepth 100000 in
theorem mc_115 : lw_tbl[1094]? = some (Cond.code (mN 115) (mB 115) (mL 115) (mR 115)) := rfl
set_option maxRecDepth 100000 in
theorem mc_116 : lw_tbl[1087]? = some (Cond.code (mN 116) (mB 116) (mL 116) (mR 116)) := rfl
set_option maxRecDepth 100000 in
theorem mc_117 : lw_tbl[1047]? = some (Cond.code (mN 117) (mB 117) (mL 117) (mR 117)) := rfl
set_option maxRecDepth 100000 in
theorem mc_118 : lw_tbl[1106]? = some (Cond.code (mN 118) (mB 118) (mL 118) (mR 118)) := rfl
set_option maxRecDepth 100000 in
theorem mc_119 : lw_tbl[1051]? = some (Cond.code (mN 119) (mB 119) (mL 119) (mR 119)) := rfl
set_option maxRecDepth 100000 in
theorem mc_120 : lw_tbl[1063]? = some (Cond.code (mN 120) (mB 120) (mL 120) (mR 120)) := rfl
set_option maxRecDepth 100000 in
theorem mc_121 : lw_tbl[984]? = some (Cond.code (mN 121) (mB 121) (mL 121) (mR 121)) := rfl
set_option maxRecDepth 100000 in
theorem mc_122 : lw_tbl[995]? = some (Cond.code (mN 122) (mB 122) (mL 122) (mR 122)) := rfl
set_option maxRecDepth 100000 in
theorem mc_123 : lw_tbl[991]? = some (Cond.code (mN 123) (mB 123) (mL 123) (mR 123)) := rfl
set_option maxRecDepth 100000 in
theorem mc_124 : lw_tbl[999]? = some (Cond.code (mN 124) (mB 124) (mL 124) (mR 124)) := rfl
set_option maxRecDepth 100000 in
theorem mc_125 : lw_tbl[1003]? = some (Cond.code (mN 125) (mB 125) (mL 125) (mR 125)) := rfl
set_option maxRecDepth 100000 in
theorem mc_126 : lw_tbl[1007]? = some (Cond.code (mN 126) (mB 126) (mL 126) (mR 126)) := rfl
set_option maxRecDepth 100000 in
theorem mc_127 : lw_tbl[1019]? = some (Cond.code (mN 127) (mB 127) (mL 127) (mR 127)) := rfl
set_option maxRecDepth 100000 in
theorem mc_128 : lw_tbl[1031]? = some (Cond.code (mN 128) (mB 128) (mL 128) (mR 128)) := rfl
set_option maxRecDepth 100000 in
theorem mc_129 : lw_tbl[1027]? = some (Cond.code (mN 129) (mB 129) (mL 129) (mR 129)) := rfl
set_option maxRecDepth 100000 in
theorem mc_130 : lw_tbl[1035]? = some (Cond.code (mN 130) (mB 130) (mL 130) (mR 130)) := rfl
set_option maxRecDepth 100000 in
theorem mc_131 : lw_tbl[1039]? = some (Cond.code (mN 131) (mB 131) (mL 131) (mR 131)) := rfl
set_option maxRecDepth 100000 in
theorem mc_132 : lw_tbl[1043]? = some (Cond.code (mN 132) (mB 132) (mL 132) (mR 132)) := rfl
set_option maxRecDepth 100000 in
theorem mc_133 : lw_tbl[1055]? = some (Cond.code (mN 133) (mB 133) (mL 133) (mR 133)) := rfl
set_option maxRecDepth 100000 in
theorem mc_134 : lw_tbl[1059]? = some (Cond.code (mN 134) (mB 134) (mL 134) (mR 134)) := rfl
set_option maxRecDepth 100000 in
theorem mc_135 : lw_tbl[1110]? = some (Cond.code (mN 135) (mB 135) (mL 135) (mR 135)) := rfl
set_option maxRecDepth 100000 in
theorem mc_136 : lw_tbl[1114]? = some (Cond.code (mN 136) (mB 136) (mL 136) (mR 136)) := rfl
set_option maxRecDepth 100000 in
theorem mc_137 : lw_tbl[1118]? = some (Cond.code (mN 137) (mB 137) (mL 137) (mR 137)) := rfl
set_option maxRecDepth 100000 in
theorem mc_138 : lw_tbl[1122]? = some (Cond.code (mN 138) (mB 138) (mL 138) (mR 138)) := rfl
set_option maxRecDepth 100000 in
theorem mc_139 : lw_tbl[1126]? = some (Cond.code (mN 139) (mB 139) (mL 139) (mR 139)) := rfl
set_option maxRecDepth 100000 in
theorem mc_140 : lw_tbl[1130]? = some (Cond.code (mN 140) (mB 140) (mL 140) (mR 140)) := rfl
set_option maxRecDepth 100000 in
theorem mc_141 : lw_tbl[1134]? = some (Cond.code (mN 141) (mB 141) (mL 141) (mR 141)) := rfl
set_option maxRecDepth 100000 in
theorem mc_142 : lw_tbl[837]? = some (Cond.code (mN 142) (mB 142) (mL 142) (mR 142)) := rfl
set_option maxRecDepth 100000 in
theorem mc_143 : lw_tbl[1181]? = some (Cond.code (mN 143) (mB 143) (mL 143) (mR 143)) := rfl
set_option maxRecDepth 100000 in
theorem mc_144 : lw_tbl[834]? = some (Cond.code (mN 144) (mB 144) (mL 144) (mR 144)) := rfl
set_option maxRecDepth 100000 in
theorem mc_145 : lw_tbl[1174]? = some (Cond.code (mN 145) (mB 145) (mL 145) (mR 145)) := rfl
set_option maxRecDepth 100000 in
theorem mc_146 : lw_tbl[1162]? = some (Cond.code (mN 146) (mB 146) (mL 146) (mR 146)) := rfl
set_option maxRecDepth 100000 in
theorem mc_147 : lw_tbl[1178]? = some (Cond.code (mN 147) (mB 147) (mL 147) (mR 147)) := rfl
set_option maxRecDepth 100000 in
theorem mc_148 : lw_tbl[1170]? = some (Cond.code (mN 148) (mB 148) (mL 148) (mR 148)) := rfl
set_option maxRecDepth 100000 in
theorem mc_149 : lw_tbl[1197]? = some (Cond.code (mN 149) (mB 149) (mL 149) (mR 149)) := rfl
set_option maxRecDepth 100000 in
theorem mc_150 : lw_tbl[1201]? = some (Cond.code (mN 150) (mB 150) (mL 150) (mR 150)) := rfl
set_option maxRecDepth 100000 in
theorem mc_151 : lw_tbl[1205]? = some (Cond.code (mN 151) (mB 151) (mL 151) (mR 151)) := rfl
set_option maxRecDepth 100000 in
theorem mc_152 : lw_tbl[1166]? = some (Cond.code (mN 152) (mB 152) (mL 152) (mR 152)) := rfl
set_option maxRecDepth 100000 in
theorem mc_153 : lw_tbl[1185]? = some (Cond.code (mN 153) (mB 153) (mL 153) (mR 153)) := rfl
set_option maxRecDepth 100000 in
theorem mc_154 : lw_tbl[1213]? = some (Cond.code (mN 154) (mB 154) (mL 154) (mR 154)) := rfl
set_option maxRecDepth 100000 in
theorem mc_155 : lw_tbl[1193]? = some (Cond.code (mN 155) (mB 155) (mL 155) (mR 155)) := rfl
set_option maxRecDepth 100000 in
theorem mc_156 : lw_tbl[1189]? = some (Cond.code (mN 156) (mB 156) (mL 156) (mR 156)) := rfl
set_option maxRecDepth 100000 in
theorem mc_157 : lw_tbl[1233]? = some (Cond.code (mN 157) (mB 157) (mL 157) (mR 157)) := rfl
set_option maxRecDepth 100000 in
theorem mc_158 : lw_tbl[1229]? = some (Cond.code (mN 158) (mB 158) (mL 158) (mR 158)) := rfl
set_option maxRecDepth 100000 in
theorem mc_159 : lw_tbl[1237]? = some (Cond.code (mN 159) (mB 159) (mL 159) (mR 159)) := rfl
set_option maxRecDepth 100000 in
theorem mc_160 : lw_tbl[1241]? = some (Cond.code (mN 160) (mB 160) (mL 160) (mR 160)) := rfl
set_option maxRecDepth 100000 in
theorem mc_161 : lw_tbl[1249]? = some (Cond.code (mN 161) (mB 161) (mL 161) (mR 161)) := rfl
set_option maxRecDepth 100000 in
theorem mc_162 : lw_tbl[1245]? = some (Cond.code (mN 162) (mB 162) (mL 162) (mR 162)) := rfl
set_option maxRecDepth 100000 in
theorem mc_163 : lw_tbl[1221]? = some (Cond.code (mN 163) (mB 163) (mL 163) (mR 163)) := rfl
set_option maxRecDepth 100000 in
theorem mc_164 : lw_tbl[1217]? = some (Cond.code (mN 164) (mB 164) (mL 164) (mR 164)) := rfl
set_option maxRecDepth 100000 in
theorem mc_165 : lw_tbl[1158]? = some (Cond.code (mN 165) (mB 165) (mL 165) (mR 165)) := rfl
set_option maxRecDepth 100000 in
theorem mc_166 : lw_tbl[1209]? = some (Cond.code (mN 166) (mB 166) (mL 166) (mR 166)) := rfl
set_option maxRecDepth 100000 in
theorem mc_167 : lw_tbl[1225]? = some (Cond.code (mN 167) (mB 167) (mL 167) (mR 167)) := rfl
set_option maxRecDepth 100000 in
theorem mc_168 : lw_tbl[1154]? = some (Cond.code (mN 168) (mB 168) (mL 168) (mR 168)) := rfl
set_option maxRecDepth 100000 in
theorem mc_169 : lw_tbl[1150]? = some (Cond.code (mN 169) (mB 169) (mL 169) (mR 169)) := rfl
set_option maxRecDepth 100000 in
theorem mc_170 : lw_tbl[1146]? = some (Cond.code (mN 170) (mB 170) (mL 170) (mR 170)) := rfl
set_option maxRecDepth 100000 in
theorem mc_171 : lw_tbl[1142]? = some (Cond.code (mN 171) (mB 171) (mL 171) (mR 171)) := rfl
set_option maxRecDepth 100000 in
theorem mc_172 : lw_tbl[146]? = some (Cond.code (mN 172) (mB 172) (mL 172) (mR 172)) := rfl
set_option maxRecDepth 100000 in
theorem mc_173 : lw_tbl[156]? = some (Cond.code (mN 173) (mB 173) (mL 173) (mR 173)) := rfl
set_option maxRecDepth 100000 in
theorem mc_174 : lw_tbl[150]? = some (Cond.code (mN 174) (mB 174) (mL 174) (mR 174)) := rfl
set_option maxRecDepth 100000 in
theorem mc_175 : lw_tbl[160]? = some (Cond.code (mN 175) (mB 175) (mL 175) (mR 175)) := rfl
set_option maxRecDepth 100000 in
theorem mc_176 : lw_tbl[166]? = some (Cond.code (mN 176) (mB 176) (mL 176) (mR 176)) := rfl
set_option maxRecDepth 100000 in
theorem mc_177 : lw_tbl[163]? = some (Cond.code (mN 177) (mB 177) (mL 177) (mR 177)) := rfl
set_option maxRecDepth 100000 in
theorem mc_178 : lw_tbl[184]? = some (Cond.code (mN 178) (mB 178) (mL 178) (mR 178)) := rfl
set_option maxRecDepth 100000 in
theorem mc_179 : lw_tbl[180]? = some (Cond.code (mN 179) (mB 179) (mL 179) (mR 179)) := rfl
set_option maxRecDepth 100000 in
theorem mc_180 : lw_tbl[174]? = some (Cond.code (mN 180) (mB 180) (mL 180) (mR 180)) := rfl
set_option maxRecDepth 100000 in
theorem mc_181 : lw_tbl[177]? = some (Cond.code (mN 181) (mB 181) (mL 181) (mR 181)) := rfl
set_option maxRecDepth 100000 in
theorem mc_182 : lw_tbl[501]? = some (Cond.code (mN 182) (mB 182) (mL 182) (mR 182)) := rfl
set_option maxRecDepth 100000 in
theorem mc_183 : lw_tbl[171]? = some (Cond.code (mN 183) (mB 183) (mL 183) (mR 183)) := rfl
theorem mc_all : ∀ y : Nat, 0 < y → y < mMany → ∃ i : Nat, lw_tbl[i]? = some (Cond.code (mN y) (mB y) (mL y) (mR y))
  | 0, h, _ => absurd h (by decide)
  | 1, h, _ => ⟨_, mc_1⟩
  | 2, h, _ => ⟨_, mc_2⟩
  | 3, h, _ => ⟨_, mc_3⟩
  | 4, h, _ => ⟨_, mc_4⟩
  | 5, h, _ => ⟨_, mc_5⟩
  | 6, h, _ => ⟨_, mc_6⟩
  | 7, h, _ => ⟨_, mc_7⟩
  | 8, h, _ => ⟨_, mc_8⟩
  | 9, h, _ => ⟨_, mc_9⟩
  | 10, h, _ => ⟨_, mc_10⟩
  | 11, h, _ => ⟨_, mc_11⟩
  | 12, h, _ => ⟨_, mc_12⟩
  | 13, h, _ => ⟨_, mc_13⟩
  | 14, h, _ => ⟨_, mc_14⟩
  | 15, h, _ => ⟨_, mc_15⟩
  | 16, h, _ => ⟨_, mc_16⟩
  | 17, h, _ => ⟨_, mc_17⟩
  | 18, h, _ => ⟨_, mc_18⟩
  | 19, h, _ => ⟨_, mc_19⟩
  | 20, h, _ => ⟨_, mc_20⟩
  | 21, h, _ => ⟨_, mc_21⟩
  | 22, h, _ => ⟨_, mc_22⟩
  | 23, h, _ => ⟨_, mc_23⟩
  | 24, h, _ => ⟨_, mc_24⟩
  | 25, h, _ => ⟨_, mc_25⟩
  | 26, h, _ => ⟨_, mc_26⟩
  | 27, h, _ => ⟨_, mc_27⟩
  | 28, h, _ => ⟨_, mc_28⟩
  | 29, h, _ => ⟨_, mc_29⟩
  | 30, h, _ => ⟨_, mc_30⟩
  | 31, h, _ => ⟨_, mc_31⟩
  | 32, h, _ => ⟨_, mc_32⟩
  | 33, h, _ => ⟨_, mc_33⟩
  | 34, h, _ => ⟨_, mc_34⟩
  | 35, h, _ => ⟨_, mc_35⟩
  | 36, h, _ => ⟨_, mc_36⟩
  | 37, h, _ => ⟨_, mc_37⟩
  | 38, h, _ => ⟨_, mc_38⟩
  | 39, h, _ => ⟨_, mc_39⟩
  | 40, h, _ => ⟨_, mc_40⟩
  | 41, h, _ => ⟨_, mc_41⟩
  | 42, h, _ => ⟨_, mc_42⟩
  | 43, h, _ => ⟨_, mc_43⟩
  | 44, h, _ => ⟨_, mc_44⟩
  | 45, h, _ => ⟨_, mc_45⟩
  | 46, h, _ => ⟨_, mc_46⟩
  | 47, h, _ => ⟨_, mc_47⟩
  | 48, h, _ => ⟨_, mc_48⟩
  | 49, h, _ => ⟨_, mc_49⟩
  | 50, h, _ => ⟨_, mc_50⟩
  | 51, h, _ => ⟨_, mc_51⟩
  | 52, h, _ => ⟨_, mc_52⟩
  | 53, h, _ => ⟨_, mc_53⟩
  | 54, h, _ => ⟨_, mc_54⟩
  | 55, h, _ => ⟨_, mc_55⟩
  | 56, h, _ => ⟨_, mc_56⟩
  | 57, h, _ => ⟨_, mc_57⟩
  | 58, h, _ => ⟨_, mc_58⟩
  | 59, h, _ => ⟨_, mc_59⟩
  | 60, h, _ => ⟨_, mc_60⟩
  | 61, h, _ => ⟨_, mc_61⟩
  | 62, h, _ => ⟨_, mc_62⟩
  | 63, h, _ => ⟨_, mc_63⟩
  | 64, h, _ => ⟨_, mc_64⟩
  | 65, h, _ => ⟨_, mc_65⟩
  | 66, h, _ => ⟨_, mc_66⟩
  | 67, h, _ => ⟨_, mc_67⟩
  | 68, h, _ => ⟨_, mc_68⟩
  | 69, h, _ => ⟨_, mc_69⟩
  | 70, h, _ => ⟨_, mc_70⟩
  | 71, h, _ => ⟨_, mc_71⟩
  | 72, h, _ => ⟨_, mc_72⟩
  | 73, h, _ => ⟨_, mc_73⟩
  | 74, h, _ => ⟨_, mc_74⟩
  | 75, h, _ => ⟨_, mc_75⟩
  | 76, h, _ => ⟨_, mc_76⟩
  | 77, h, _ => ⟨_, mc_77⟩
  | 78, h, _ => ⟨_, mc_78⟩
  | 79, h, _ => ⟨_, mc_79⟩
  | 80, h, _ => ⟨_, mc_80⟩
  | 81, h, _ => ⟨_, mc_81⟩
  | 82, h, _ => ⟨_, mc_82⟩
  | 83, h, _ => ⟨_, mc_83⟩
  | 84, h, _ => ⟨_, mc_84⟩
  | 85, h, _ => ⟨_, mc_85⟩
  | 86, h, _ => ⟨_, mc_86⟩
  | 87, h, _ => ⟨_, mc_87⟩
  | 88, h, _ => ⟨_, mc_88⟩
  | 89, h, _ => ⟨_, mc_89⟩
  | 90, h, _ => ⟨_, mc_90⟩
  | 91, h, _ => ⟨_, mc_91⟩
  | 92, h, _ => ⟨_, mc_92⟩
  | 93, h, _ => ⟨_, mc_93⟩
  | 94, h, _ => ⟨_, mc_94⟩
  | 95, h, _ => ⟨_, mc_95⟩
  | 96, h, _ => ⟨_, mc_96⟩
  | 97, h, _ => ⟨_, mc_97⟩
  | 98, h, _ => ⟨_, mc_98⟩
  | 99, h, _ => ⟨_, mc_99⟩
  | 100, h, _ => ⟨_, mc_100⟩
  | 101, h, _ => ⟨_, mc_101⟩
  | 102, h, _ => ⟨_, mc_102⟩
  | 103, h, _ => ⟨_, mc_103⟩
  | 104, h, _ => ⟨_, mc_104⟩
  | 105, h, _ => ⟨_, mc_105⟩
  | 106, h, _ => ⟨_, mc_106⟩
  | 107, h, _ => ⟨_, mc_107⟩
  | 108, h, _ => ⟨_, mc_108⟩
  | 109, h, _ => ⟨_, mc_109⟩
  | 110, h, _ => ⟨_, mc_110⟩
  | 111, h, _ => ⟨_, mc_111⟩
  | 112, h, _ => ⟨_, mc_112⟩
  | 113, h, _ => ⟨_, mc_113⟩
  | 114, h, _ => ⟨_, mc_114⟩
  | 115, h, _ => ⟨_, mc_115⟩
  | 116, h, _ => ⟨_, mc_116⟩
  | 117, h, _ => ⟨_, mc_117⟩
  | 118, h, _ => ⟨_, mc_118⟩
  | 119, h, _ => ⟨_, mc_119⟩
  | 120, h, _ => ⟨_, mc_120⟩
  | 121, h, _ => ⟨_, mc_121⟩
  | 122, h, _ => ⟨_, mc_122⟩
  | 123, h, _ => ⟨_, mc_123⟩
  | 124, h, _ => ⟨_, mc_124⟩
  | 125, h, _ => ⟨_, mc_125⟩
  | 126, h, _ => ⟨_, mc_126⟩
  | 127, h, _ => ⟨_, mc_127⟩
  | 128, h, _ => ⟨_, mc_128⟩
  | 129, h, _ => ⟨_, mc_129⟩
  | 130, h, _ => ⟨_, mc_130⟩
  | 131, h, _ => ⟨_, mc_131⟩
  | 132, h, _ => ⟨_, mc_132⟩
  | 133, h, _ => ⟨_, mc_133⟩
  | 134, h, _ => ⟨_, mc_134⟩
  | 135, h, _ => ⟨_, mc_135⟩
  | 136, h, _ => ⟨_, mc_136⟩
  | 137, h, _ => ⟨_, mc_137⟩
  | 138, h, _ => ⟨_, mc_138⟩
  | 139, h, _ => ⟨_, mc_139⟩
  | 140, h, _ => ⟨_, mc_140⟩
  | 141, h, _ => ⟨_, mc_141⟩
  | 142, h, _ => ⟨_, mc_142⟩
  | 143, h, _ => ⟨_, mc_143⟩
  | 144, h, _ => ⟨_, mc_144⟩
  | 145, h, _ => ⟨_, mc_145⟩
  | 146, h, _ => ⟨_, mc_146⟩
  | 147, h, _ => ⟨_, mc_147⟩
  | 148, h, _ => ⟨_, mc_148⟩
  | 149, h, _ => ⟨_, mc_149⟩
  | 150, h, _ => ⟨_, mc_150⟩
  | 151, h, _ => ⟨_, mc_151⟩
  | 152, h, _ => ⟨_, mc_152⟩
  | 153, h, _ => ⟨_, mc_153⟩
  | 154, h, _ => ⟨_, mc_154⟩
  | 155, h, _ => ⟨_, mc_155⟩
  | 156, h, _ => ⟨_, mc_156⟩
  | 157, h, _ => ⟨_, mc_157⟩
  | 158, h, _ => ⟨_, mc_158⟩
  | 159, h, _ => ⟨_, mc_159⟩
  | 160, h, _ => ⟨_, mc_160⟩
  | 161, h, _ => ⟨_, mc_161⟩
  | 162, h, _ => ⟨_, mc_162⟩
  | 163, h, _ => ⟨_, mc_163⟩
  | 164, h, _ => ⟨_, mc_164⟩
  | 165, h, _ => ⟨_, mc_165⟩
  | 166, h, _ => ⟨_, mc_166⟩
  | 167, h, _ => ⟨_, mc_167⟩
  | 168, h, _ => ⟨_, mc_168⟩
  | 169, h, _ => ⟨_, mc_169⟩
  | 170, h, _ => ⟨_, mc_170⟩
  | 171, h, _ => ⟨_, mc_171⟩
  | 172, h, _ => ⟨_, mc_172⟩
  | 173, h, _ => ⟨_, mc_173⟩
  | 174, h, _ => ⟨_, mc_174⟩
  | 175, h, _ => ⟨_, mc_175⟩
  | 176, h, _ => ⟨_, mc_176⟩
  | 177, h, _ => ⟨_, mc_177⟩
  | 178, h, _ => ⟨_, mc_178⟩
  | 179, h, _ => ⟨_, mc_179⟩
  | 180, h, _ => ⟨_, mc_180⟩
  | 181, h, _ => ⟨_, mc_181⟩
  | 182, h, _ => ⟨_, mc_182⟩
  | 183, h, _ => ⟨_, mc_183⟩
  | y + 184, _, h => absurd h (by unfold mMany; omega)
set_option maxRecDepth 100000 in
theorem oi_code : lw_tbl[105]? = some (Cond.code Lib.objectInit ⟨#[0xb1]⟩ 1 none) := rfl
