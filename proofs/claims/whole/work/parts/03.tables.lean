/-! the program as tables: methods (name, code, locals, answer, parameters, class, room), classes, links of the pools, each with its place in lw_tbl -/
abbrev pm_D : Type := MethodName × ByteArray × Nat × Option FieldType × Nat × Nat × Nat × Nat × Nat × Nat
def pm_M0 : List pm_D := [
  (⟨"OtherwiseBookLaw", "law", "([I)Z"⟩, code, 4, some .boolean, 1, 14, 10, 374, 600000, 7302249),
  (⟨"OtherwiseBook", "<init>", "()V"⟩, prog_1_method_1_code, 2, none, 0, 10, 3, 60, 600, 20000),
  (⟨"OtherwiseBook$Row", "<init>", "()V"⟩, prog_7_method_1_code, 1, none, 0, 5, 1, 20, 1, 60),
  (⟨"OtherwiseBook$Text", "<init>", "()V"⟩, prog_11_method_1_code, 1, none, 0, 9, 1, 20, 1, 120),
  (⟨"OtherwiseBook$Rule", "<init>", "()V"⟩, prog_8_method_1_code, 1, none, 0, 6, 1, 20, 1, 4),
  (⟨"OtherwiseBook$Page", "<init>", "()V"⟩, prog_4_method_1_code, 1, none, 0, 2, 1, 20, 1, 24),
  (⟨"OtherwiseBook$Reading", "<init>", "()V"⟩, prog_6_method_1_code, 1, none, 0, 4, 1, 20, 1, 24),
  (⟨"OtherwiseBook$Known", "<init>", "()V"⟩, prog_2_method_1_code, 1, none, 0, 0, 1, 20, 2, 16),
  (⟨"OtherwiseBook$Parser", "<init>", "()V"⟩, prog_5_method_1_code, 1, none, 0, 3, 2, 40, 4, 32),
  (⟨"OtherwiseBook$Tally", "<init>", "()V"⟩, prog_10_method_1_code, 1, none, 0, 8, 2, 40, 4, 126),
  (⟨"OtherwiseBook$Scale", "<init>", "()V"⟩, prog_9_method_1_code, 1, none, 0, 7, 2, 40, 2, 6),
  (⟨"OtherwiseBook$Leaf", "<init>", "()V"⟩, prog_3_method_1_code, 1, none, 0, 1, 1, 20, 2, 48),
  (⟨"OtherwiseBook", "row", "(II)I"⟩, prog_1_method_2_code, 3, some .int, 2, 10, 1, 22, 0, 0),
  (⟨"OtherwiseBook", "within", "(II)Z"⟩, prog_1_method_49_code, 2, some .boolean, 2, 10, 0, 0, 0, 0),
  (⟨"OtherwiseBook", "found", "(I)I"⟩, prog_1_method_50_code, 2, some .int, 1, 10, 0, 0, 0, 0),
  (⟨"OtherwiseBook$Row", "begin", "(I)V"⟩, prog_7_method_3_code, 3, none, 1, 5, 0, 0, 0, 0),
  (⟨"OtherwiseBook", "lay", "(III)I"⟩, prog_1_method_3_code, 5, some .int, 3, 10, 2, 43, 0, 0),
  (⟨"OtherwiseBook", "barPlace", "(II)I"⟩, prog_1_method_51_code, 3, some .int, 2, 10, 1, 21, 0, 0),
  (⟨"OtherwiseBook$Row", "isMissing", "()Z"⟩, prog_7_method_2_code, 1, some .boolean, 0, 5, 0, 0, 0, 0),
  (⟨"OtherwiseBook", "at", "(II)I"⟩, prog_1_method_4_code, 4, some .int, 2, 10, 2, 43, 0, 0),
  (⟨"OtherwiseBook", "tear", "(I)I"⟩, prog_1_method_5_code, 2, some .int, 1, 10, 1, 21, 0, 0),
  (⟨"OtherwiseBook", "copy", "(IIIII)I"⟩, prog_1_method_6_code, 8, some .int, 5, 10, 1, 26, 0, 0),
  (⟨"OtherwiseBook$Row", "hasSpan", "(II)Z"⟩, prog_7_method_4_code, 3, some .boolean, 2, 5, 0, 0, 0, 0),
  (⟨"OtherwiseBook", "mean", "(I)I"⟩, prog_1_method_7_code, 3, some .int, 1, 10, 1, 23, 0, 0),
  (⟨"OtherwiseBook$Row", "sum", "()J"⟩, prog_7_method_5_code, 4, some .long, 0, 5, 0, 0, 0, 0),
  (⟨"OtherwiseBook", "text", "(II)I"⟩, prog_1_method_8_code, 3, some .int, 2, 10, 1, 22, 0, 0),
  (⟨"OtherwiseBook$Text", "begin", "(I)V"⟩, prog_11_method_3_code, 3, none, 1, 9, 0, 0, 0, 0),
  (⟨"OtherwiseBook", "put", "(III)I"⟩, prog_1_method_9_code, 5, some .int, 3, 10, 1, 21, 0, 0),
  (⟨"OtherwiseBook$Text", "isMissing", "()Z"⟩, prog_11_method_2_code, 1, some .boolean, 0, 9, 0, 0, 0, 0),
  (⟨"OtherwiseBook", "fault", "(IZ)I"⟩, prog_1_method_10_code, 3, some .int, 2, 10, 6, 130, 0, 0),
  (⟨"OtherwiseBook$Parser", "pageFault", "(LOtherwiseBook$Text;)I"⟩, prog_5_method_3_code, 7, some .int, 1, 3, 4, 86, 0, 0),
  (⟨"OtherwiseBook$Parser", "begin", "(LOtherwiseBook$Text;)V"⟩, prog_5_method_4_code, 2, none, 1, 3, 0, 0, 0, 0),
  (⟨"OtherwiseBook$Parser", "skipBlanks", "()V"⟩, prog_5_method_6_code, 2, none, 0, 3, 1, 20, 0, 0),
  (⟨"OtherwiseBook$Parser", "signHere", "()I"⟩, prog_5_method_5_code, 1, some .int, 0, 3, 0, 0, 0, 0),
  (⟨"OtherwiseBook$Parser", "sign", "(I)V"⟩, prog_5_method_10_code, 2, none, 1, 3, 1, 20, 0, 0),
  (⟨"OtherwiseBook$Parser", "number", "(II)I"⟩, prog_5_method_13_code, 4, some .int, 2, 3, 3, 63, 0, 0),
  (⟨"OtherwiseBook$Parser", "figure", "(II)I"⟩, prog_5_method_12_code, 4, some .int, 2, 3, 2, 40, 0, 0),
  (⟨"OtherwiseBook$Parser", "isFigureHere", "()Z"⟩, prog_5_method_11_code, 1, some .boolean, 0, 3, 1, 20, 0, 0),
  (⟨"OtherwiseBook$Page", "begin", "(I)V"⟩, prog_4_method_3_code, 3, none, 1, 2, 0, 0, 0, 0),
  (⟨"OtherwiseBook$Parser", "isAtEnd", "()Z"⟩, prog_5_method_7_code, 1, some .boolean, 0, 3, 2, 41, 0, 0)]
def pm_M1 : List pm_D := [
  (⟨"OtherwiseBook$Parser", "ruleFault", "(LOtherwiseBook$Text;)I"⟩, prog_5_method_2_code, 4, some .int, 1, 3, 5, 107, 0, 0),
  (⟨"OtherwiseBook$Parser", "nextClause", "()I"⟩, prog_5_method_8_code, 2, some .int, 0, 3, 4, 86, 0, 0),
  (⟨"OtherwiseBook$Parser", "pair", "(II)I"⟩, prog_5_method_9_code, 4, some .int, 2, 3, 3, 63, 0, 0),
  (⟨"OtherwiseBook", "rule", "(II)I"⟩, prog_1_method_11_code, 3, some .int, 2, 10, 6, 130, 0, 0),
  (⟨"OtherwiseBook$Rule", "become", "(LOtherwiseBook$Rule;)V"⟩, prog_8_method_3_code, 3, none, 1, 6, 0, 0, 0, 0),
  (⟨"OtherwiseBook", "numbered", "(II)I"⟩, prog_1_method_12_code, 3, some .int, 2, 10, 1, 21, 0, 0),
  (⟨"OtherwiseBook$Rule", "becomeNumber", "(I)V"⟩, prog_8_method_4_code, 2, none, 1, 6, 0, 0, 0, 0),
  (⟨"OtherwiseBook", "page", "(II)I"⟩, prog_1_method_13_code, 3, some .int, 2, 10, 5, 112, 0, 0),
  (⟨"OtherwiseBook$Page", "become", "(LOtherwiseBook$Page;)V"⟩, prog_4_method_4_code, 3, none, 1, 2, 0, 0, 0, 0),
  (⟨"OtherwiseBook$Page", "howManyLines", "()I"⟩, prog_4_method_7_code, 3, some .int, 0, 2, 1, 21, 0, 0),
  (⟨"OtherwiseBook$Page", "hasLine", "(I)Z"⟩, prog_4_method_6_code, 2, some .boolean, 1, 2, 0, 0, 0, 0),
  (⟨"OtherwiseBook", "clause", "(II)I"⟩, prog_1_method_14_code, 5, some .int, 2, 10, 2, 43, 0, 0),
  (⟨"OtherwiseBook", "barClause", "(II)I"⟩, prog_1_method_52_code, 3, some .int, 2, 10, 1, 21, 0, 0),
  (⟨"OtherwiseBook$Rule", "isMissing", "()Z"⟩, prog_8_method_2_code, 1, some .boolean, 0, 6, 0, 0, 0, 0),
  (⟨"OtherwiseBook", "kindOf", "(I)I"⟩, prog_1_method_59_code, 1, some .int, 1, 10, 0, 0, 0, 0),
  (⟨"OtherwiseBook", "mark", "(III)I"⟩, prog_1_method_15_code, 6, some .int, 3, 10, 2, 43, 0, 0),
  (⟨"OtherwiseBook", "isOfKind", "(II)Z"⟩, prog_1_method_60_code, 3, some .boolean, 2, 10, 1, 20, 0, 0),
  (⟨"OtherwiseBook", "markOf", "(II)I"⟩, prog_1_method_61_code, 2, some .int, 2, 10, 1, 20, 0, 0),
  (⟨"OtherwiseBook", "weatherOf", "(I)I"⟩, prog_1_method_62_code, 1, some .int, 1, 10, 0, 0, 0, 0),
  (⟨"OtherwiseBook", "stepOf", "(I)I"⟩, prog_1_method_64_code, 1, some .int, 1, 10, 0, 0, 0, 0),
  (⟨"OtherwiseBook", "forerunnerOf", "(I)I"⟩, prog_1_method_65_code, 1, some .int, 1, 10, 0, 0, 0, 0),
  (⟨"OtherwiseBook", "daysBackOf", "(I)I"⟩, prog_1_method_63_code, 1, some .int, 1, 10, 0, 0, 0, 0),
  (⟨"OtherwiseBook", "line", "(II)I"⟩, prog_1_method_16_code, 4, some .int, 2, 10, 2, 44, 0, 0),
  (⟨"OtherwiseBook$Page", "isMissing", "()Z"⟩, prog_4_method_2_code, 1, some .boolean, 0, 2, 0, 0, 0, 0),
  (⟨"OtherwiseBook$Page", "dayOfLine", "(I)I"⟩, prog_4_method_8_code, 4, some .int, 1, 2, 1, 21, 0, 0),
  (⟨"OtherwiseBook", "expects", "(II)I"⟩, prog_1_method_17_code, 4, some .int, 2, 10, 3, 67, 0, 0),
  (⟨"OtherwiseBook$Row", "areWeathers", "()Z"⟩, prog_7_method_6_code, 2, some .boolean, 0, 5, 1, 21, 0, 0),
  (⟨"OtherwiseBook$Rule", "teller", "([II)I"⟩, prog_8_method_5_code, 4, some .int, 2, 6, 2, 43, 0, 0),
  (⟨"OtherwiseBook", "tells", "(I[II)I"⟩, prog_1_method_66_code, 4, some .int, 3, 10, 1, 20, 0, 0),
  (⟨"OtherwiseBook$Rule", "expected", "([II)I"⟩, prog_8_method_6_code, 5, some .int, 2, 6, 2, 43, 0, 0),
  (⟨"OtherwiseBook", "days", "(III)I"⟩, prog_1_method_18_code, 6, some .int, 3, 10, 4, 92, 0, 0),
  (⟨"OtherwiseBook", "barChronicle", "(II)I"⟩, prog_1_method_53_code, 3, some .int, 2, 10, 1, 21, 0, 0),
  (⟨"OtherwiseBook$Page", "unfold", "(LOtherwiseBook$Rule;I[I)V"⟩, prog_4_method_9_code, 6, none, 3, 2, 3, 67, 0, 0),
  (⟨"OtherwiseBook$Page", "idleLines", "(LOtherwiseBook$Rule;[I)I"⟩, prog_4_method_10_code, 6, some .int, 2, 2, 3, 67, 0, 0),
  (⟨"OtherwiseBook", "write", "(III)I"⟩, prog_1_method_19_code, 5, some .int, 3, 10, 4, 90, 0, 0),
  (⟨"OtherwiseBook", "barDays", "(LOtherwiseBook$Row;)I"⟩, prog_1_method_54_code, 2, some .int, 1, 10, 2, 42, 0, 0),
  (⟨"OtherwiseBook$Page", "record", "(LOtherwiseBook$Rule;LOtherwiseBook$Row;)V"⟩, prog_4_method_5_code, 4, none, 2, 2, 3, 67, 0, 0),
  (⟨"OtherwiseBook", "fewest", "(II)I"⟩, prog_1_method_20_code, 4, some .int, 2, 10, 5, 115, 0, 0),
  (⟨"OtherwiseBook", "barWeighing", "(II)I"⟩, prog_1_method_55_code, 3, some .int, 2, 10, 3, 63, 0, 0),
  (⟨"OtherwiseBook$Scale", "weigh", "(LOtherwiseBook$Row;I)V"⟩, prog_9_method_2_code, 6, none, 2, 7, 4, 90, 0, 0)]
def pm_M2 : List pm_D := [
  (⟨"OtherwiseBook$Scale", "linesNeeded", "(LOtherwiseBook$Row;)I"⟩, prog_9_method_3_code, 4, some .int, 1, 7, 3, 67, 0, 0),
  (⟨"OtherwiseBook", "many", "(II)I"⟩, prog_1_method_21_code, 4, some .int, 2, 10, 5, 115, 0, 0),
  (⟨"OtherwiseBook", "open", "(II)I"⟩, prog_1_method_22_code, 4, some .int, 2, 10, 5, 115, 0, 0),
  (⟨"OtherwiseBook$Reading", "begin", "(LOtherwiseBook$Rule;LOtherwiseBook$Page;)V"⟩, prog_6_method_3_code, 4, none, 2, 4, 4, 92, 0, 0),
  (⟨"OtherwiseBook", "read", "()I"⟩, prog_1_method_23_code, 2, some .int, 0, 10, 1, 21, 0, 0),
  (⟨"OtherwiseBook$Reading", "isMissing", "()Z"⟩, prog_6_method_2_code, 1, some .boolean, 0, 4, 0, 0, 0, 0),
  (⟨"OtherwiseBook", "keep", "(I)I"⟩, prog_1_method_24_code, 2, some .int, 1, 10, 1, 22, 0, 0),
  (⟨"OtherwiseBook$Reading", "become", "(LOtherwiseBook$Reading;)V"⟩, prog_6_method_4_code, 3, none, 1, 4, 0, 0, 0, 0),
  (⟨"OtherwiseBook", "on", "(I)I"⟩, prog_1_method_25_code, 2, some .int, 1, 10, 1, 22, 0, 0),
  (⟨"OtherwiseBook", "worlds", "(IIIII)I"⟩, prog_1_method_26_code, 7, some .int, 5, 10, 5, 126, 0, 0),
  (⟨"OtherwiseBook", "barLeaf", "(IIIII)I"⟩, prog_1_method_56_code, 7, some .int, 5, 10, 2, 43, 0, 0),
  (⟨"OtherwiseBook$Leaf", "burn", "(LOtherwiseBook$Rule;LOtherwiseBook$Page;III)V"⟩, prog_3_method_2_code, 12, none, 5, 1, 4, 95, 0, 0),
  (⟨"java/lang/Integer", "bitCount", "(I)I"⟩, prog_14_method_49_code, 1, some .int, 1, 12, 0, 0, 0, 0),
  (⟨"OtherwiseBook$Leaf", "power", "(I)I"⟩, prog_3_method_4_code, 3, some .int, 1, 1, 0, 0, 0, 0),
  (⟨"OtherwiseBook$Leaf", "isWorld", "(LOtherwiseBook$Rule;LOtherwiseBook$Page;III)Z"⟩, prog_3_method_5_code, 9, some .boolean, 5, 1, 3, 67, 0, 0),
  (⟨"OtherwiseBook$Leaf", "addWorld", "(I)V"⟩, prog_3_method_6_code, 3, none, 1, 1, 0, 0, 0, 0),
  (⟨"OtherwiseBook", "sure", "(IIIII)I"⟩, prog_1_method_27_code, 7, some .int, 5, 10, 5, 126, 0, 0),
  (⟨"OtherwiseBook$Leaf", "sureDays", "(I)I"⟩, prog_3_method_3_code, 4, some .int, 1, 1, 1, 20, 0, 0),
  (⟨"OtherwiseBook", "can", "(IIIIII)I"⟩, prog_1_method_28_code, 8, some .int, 6, 10, 5, 126, 0, 0),
  (⟨"OtherwiseBook", "rules", "(II)I"⟩, prog_1_method_29_code, 4, some .int, 2, 10, 5, 117, 0, 0),
  (⟨"OtherwiseBook", "barUnknown", "(II)I"⟩, prog_1_method_57_code, 3, some .int, 2, 10, 1, 21, 0, 0),
  (⟨"OtherwiseBook$Tally", "gather", "(LOtherwiseBook$Page;ILOtherwiseBook$Known;)V"⟩, prog_10_method_2_code, 7, none, 3, 8, 4, 91, 0, 0),
  (⟨"OtherwiseBook$Page", "isPossible", "(LOtherwiseBook$Rule;[I)Z"⟩, prog_4_method_11_code, 5, some .boolean, 2, 2, 3, 67, 0, 0),
  (⟨"OtherwiseBook$Known", "firstNotSo", "([II)I"⟩, prog_2_method_3_code, 4, some .int, 2, 0, 1, 24, 0, 0),
  (⟨"OtherwiseBook$Known", "isNotSo", "(I[II)Z"⟩, prog_2_method_2_code, 5, some .boolean, 3, 0, 0, 0, 0, 0),
  (⟨"OtherwiseBook", "agree", "(II)I"⟩, prog_1_method_30_code, 4, some .int, 2, 10, 5, 117, 0, 0),
  (⟨"OtherwiseBook$Tally", "agreedDays", "(I)I"⟩, prog_10_method_5_code, 4, some .int, 1, 8, 2, 45, 0, 0),
  (⟨"OtherwiseBook$Tally", "mostAlike", "(I)I"⟩, prog_10_method_4_code, 4, some .int, 1, 8, 1, 22, 0, 0),
  (⟨"OtherwiseBook$Tally", "howMany", "(II)I"⟩, prog_10_method_3_code, 3, some .int, 2, 8, 0, 0, 0, 0),
  (⟨"OtherwiseBook", "ask", "(II)I"⟩, prog_1_method_31_code, 5, some .int, 2, 10, 5, 117, 0, 0),
  (⟨"OtherwiseBook$Tally", "partingDay", "(I)I"⟩, prog_10_method_6_code, 4, some .int, 1, 8, 2, 45, 0, 0),
  (⟨"OtherwiseBook", "likely", "(IIII)I"⟩, prog_1_method_32_code, 7, some .int, 4, 10, 5, 117, 0, 0),
  (⟨"OtherwiseBook", "tellFraction", "(II)V"⟩, prog_1_method_75_code, 4, none, 2, 10, 1, 25, 0, 0),
  (⟨"OtherwiseBook", "greatestDivisor", "(II)I"⟩, prog_1_method_76_code, 6, some .int, 2, 10, 0, 0, 0, 0),
  (⟨"OtherwiseBook", "left", "(II)I"⟩, prog_1_method_33_code, 4, some .int, 2, 10, 5, 117, 0, 0),
  (⟨"OtherwiseBook", "changed", "(IIII)I"⟩, prog_1_method_34_code, 7, some .int, 4, 10, 5, 122, 0, 0),
  (⟨"OtherwiseBook", "barChange", "(IIII)I"⟩, prog_1_method_58_code, 5, some .int, 4, 10, 2, 42, 0, 0),
  (⟨"OtherwiseBook", "turningDays", "(LOtherwiseBook$Rule;LOtherwiseBook$Rule;LOtherwiseBook$Page;LOtherwiseBook$Row;)I"⟩, prog_1_method_70_code, 11, some .int, 4, 10, 4, 92, 0, 0),
  (⟨"OtherwiseBook$Page", "fittingDays", "(LOtherwiseBook$Rule;[I)I"⟩, prog_4_method_12_code, 6, some .int, 2, 2, 3, 67, 0, 0),
  (⟨"OtherwiseBook", "firstOf", "(I)I"⟩, prog_1_method_68_code, 2, some .int, 1, 10, 0, 0, 0, 0)]
def pm_M3 : List pm_D := [
  (⟨"OtherwiseBook", "when", "(IIII)I"⟩, prog_1_method_35_code, 6, some .int, 4, 10, 5, 122, 0, 0),
  (⟨"OtherwiseBook", "joined", "(IIII)I"⟩, prog_1_method_36_code, 5, some .int, 4, 10, 4, 92, 0, 0),
  (⟨"OtherwiseBook", "unlikeDays", "(I)I"⟩, prog_1_method_67_code, 4, some .int, 1, 10, 0, 0, 0, 0),
  (⟨"OtherwiseBook", "follows", "(III)I"⟩, prog_1_method_37_code, 7, some .int, 3, 10, 4, 92, 0, 0),
  (⟨"OtherwiseBook", "lastOf", "(I)I"⟩, prog_1_method_69_code, 2, some .int, 1, 10, 0, 0, 0, 0),
  (⟨"OtherwiseBook", "know", "(II)I"⟩, prog_1_method_38_code, 4, some .int, 2, 10, 1, 21, 0, 0),
  (⟨"OtherwiseBook", "forget", "(I)I"⟩, prog_1_method_39_code, 3, some .int, 1, 10, 0, 0, 0, 0),
  (⟨"OtherwiseBook", "forbids", "(II)I"⟩, prog_1_method_40_code, 6, some .int, 2, 10, 4, 92, 0, 0),
  (⟨"OtherwiseBook$Known", "howManyNotSo", "([II)I"⟩, prog_2_method_4_code, 5, some .int, 2, 0, 1, 24, 0, 0),
  (⟨"OtherwiseBook", "suspects", "(II)I"⟩, prog_1_method_41_code, 4, some .int, 2, 10, 6, 144, 0, 0),
  (⟨"OtherwiseBook", "leastLeftOut", "(LOtherwiseBook$Rule;LOtherwiseBook$Page;)I"⟩, prog_1_method_73_code, 10, some .int, 2, 10, 5, 115, 0, 0),
  (⟨"OtherwiseBook", "isPlace", "(LOtherwiseBook$Page;I)Z"⟩, prog_1_method_74_code, 2, some .boolean, 2, 10, 1, 21, 0, 0),
  (⟨"OtherwiseBook", "isSoWithout", "(LOtherwiseBook$Rule;LOtherwiseBook$Page;I)Z"⟩, prog_1_method_71_code, 4, some .boolean, 3, 10, 4, 92, 0, 0),
  (⟨"OtherwiseBook", "falseLines", "(LOtherwiseBook$Rule;LOtherwiseBook$Page;)I"⟩, prog_1_method_72_code, 6, some .int, 2, 10, 5, 115, 0, 0),
  (⟨"OtherwiseBook", "asked", "()I"⟩, prog_1_method_42_code, 1, some .int, 0, 10, 0, 0, 0, 0),
  (⟨"OtherwiseBook", "upper", "()J"⟩, prog_1_method_43_code, 1, some .long, 0, 10, 0, 0, 0, 0),
  (⟨"OtherwiseBook", "lower", "()J"⟩, prog_1_method_44_code, 1, some .long, 0, 10, 0, 0, 0, 0),
  (⟨"OtherwiseBook", "count", "(I)I"⟩, prog_1_method_45_code, 2, some .int, 1, 10, 3, 66, 0, 0),
  (⟨"OtherwiseBook", "howManyRules", "()I"⟩, prog_1_method_77_code, 3, some .int, 0, 10, 1, 20, 0, 0),
  (⟨"OtherwiseBook", "howManyPages", "()I"⟩, prog_1_method_78_code, 3, some .int, 0, 10, 1, 20, 0, 0),
  (⟨"OtherwiseBook", "howManyClauses", "(Z)I"⟩, prog_1_method_79_code, 5, some .int, 1, 10, 2, 42, 0, 0),
  (⟨"OtherwiseBook", "howManyRows", "()I"⟩, prog_1_method_80_code, 3, some .int, 0, 10, 1, 20, 0, 0),
  (⟨"OtherwiseBook", "howManyTexts", "()I"⟩, prog_1_method_81_code, 3, some .int, 0, 10, 1, 20, 0, 0),
  (⟨"OtherwiseBook", "finding", "()I"⟩, prog_1_method_46_code, 1, some .int, 0, 10, 0, 0, 0, 0),
  (⟨"OtherwiseBook", "findings", "(I)I"⟩, prog_1_method_47_code, 2, some .int, 1, 10, 0, 0, 0, 0),
  (⟨"OtherwiseBook", "digest", "()J"⟩, prog_1_method_48_code, 4, some .long, 0, 10, 4, 87, 0, 0),
  (⟨"OtherwiseBook", "folded", "(JJ)J"⟩, prog_1_method_82_code, 4, some .long, 2, 10, 0, 0, 0, 0),
  (⟨"OtherwiseBook$Rule", "fold", "(J)J"⟩, prog_8_method_7_code, 6, some .long, 1, 6, 1, 23, 0, 0),
  (⟨"OtherwiseBook$Page", "fold", "(J)J"⟩, prog_4_method_13_code, 6, some .long, 1, 2, 1, 23, 0, 0),
  (⟨"OtherwiseBook$Known", "fold", "(J)J"⟩, prog_2_method_5_code, 6, some .long, 1, 0, 1, 23, 0, 0),
  (⟨"OtherwiseBook$Reading", "fold", "(J)J"⟩, prog_6_method_5_code, 6, some .long, 1, 4, 1, 23, 0, 0),
  (⟨"OtherwiseBook$Row", "fold", "(J)J"⟩, prog_7_method_7_code, 6, some .long, 1, 5, 1, 23, 0, 0),
  (⟨"OtherwiseBook$Text", "fold", "(J)J"⟩, prog_11_method_4_code, 6, some .long, 1, 9, 1, 23, 0, 0),
  (⟨"OtherwiseBookModel", "<init>", "()V"⟩, prog_13_method_1_code, 2, none, 0, 11, 1, 20, 100, 20000),
  (⟨"OtherwiseBookModel", "finding", "()I"⟩, prog_13_method_6_code, 1, some .int, 0, 11, 0, 0, 0, 0),
  (⟨"OtherwiseBookModel", "findings", "(I)I"⟩, prog_13_method_7_code, 2, some .int, 1, 11, 1, 22, 0, 0),
  (⟨"OtherwiseBookModel", "in", "(III)Z"⟩, prog_13_method_2_code, 3, some .boolean, 3, 11, 0, 0, 0, 0),
  (⟨"OtherwiseBookModel", "asked", "()I"⟩, prog_13_method_9_code, 1, some .int, 0, 11, 0, 0, 0, 0),
  (⟨"OtherwiseBookModel", "upper", "()J"⟩, prog_13_method_11_code, 1, some .long, 0, 11, 0, 0, 0, 0),
  (⟨"OtherwiseBookModel", "lower", "()J"⟩, prog_13_method_12_code, 1, some .long, 0, 11, 0, 0, 0, 0)]
def pm_M4 : List pm_D := [
  (⟨"OtherwiseBookModel", "row", "(II)I"⟩, prog_13_method_15_code, 4, some .int, 2, 11, 2, 42, 0, 0),
  (⟨"OtherwiseBookModel", "isRow", "(I)Z"⟩, prog_13_method_13_code, 1, some .boolean, 1, 11, 1, 22, 0, 0),
  (⟨"OtherwiseBookModel", "meets", "(I)I"⟩, prog_13_method_5_code, 2, some .int, 1, 11, 0, 0, 0, 0),
  (⟨"OtherwiseBookModel", "lay", "(III)I"⟩, prog_13_method_16_code, 5, some .int, 3, 11, 2, 42, 0, 0),
  (⟨"OtherwiseBookModel", "rowAt", "(II)I"⟩, prog_13_method_14_code, 3, some .int, 2, 11, 0, 0, 0, 0),
  (⟨"OtherwiseBookModel", "tells", "(II)I"⟩, prog_13_method_8_code, 3, some .int, 2, 11, 0, 0, 0, 0),
  (⟨"OtherwiseBookModel", "at", "(II)I"⟩, prog_13_method_17_code, 3, some .int, 2, 11, 2, 42, 0, 0),
  (⟨"OtherwiseBookModel", "tear", "(I)I"⟩, prog_13_method_18_code, 2, some .int, 1, 11, 2, 42, 0, 0),
  (⟨"OtherwiseBookModel", "copy", "(IIIII)I"⟩, prog_13_method_19_code, 7, some .int, 5, 11, 2, 42, 0, 0),
  (⟨"OtherwiseBookModel", "mean", "(I)I"⟩, prog_13_method_20_code, 5, some .int, 1, 11, 2, 42, 0, 0),
  (⟨"OtherwiseBookModel", "text", "(II)I"⟩, prog_13_method_22_code, 4, some .int, 2, 11, 2, 42, 0, 0),
  (⟨"OtherwiseBookModel", "isText", "(I)Z"⟩, prog_13_method_21_code, 1, some .boolean, 1, 11, 1, 22, 0, 0),
  (⟨"OtherwiseBookModel", "put", "(III)I"⟩, prog_13_method_23_code, 5, some .int, 3, 11, 2, 42, 0, 0),
  (⟨"OtherwiseBookModel", "fault", "(IZ)I"⟩, prog_13_method_36_code, 3, some .int, 2, 11, 4, 93, 0, 0),
  (⟨"OtherwiseBookModel", "pageFault", "(I)I"⟩, prog_13_method_35_code, 3, some .int, 1, 11, 3, 69, 0, 0),
  (⟨"OtherwiseBookModel", "byteAt", "(II)I"⟩, prog_13_method_24_code, 3, some .int, 2, 11, 0, 0, 0, 0),
  (⟨"OtherwiseBookModel", "readsDays", "(I)Z"⟩, prog_13_method_34_code, 2, some .boolean, 1, 11, 2, 47, 0, 0),
  (⟨"OtherwiseBookModel", "sign", "(II)Z"⟩, prog_13_method_28_code, 4, some .boolean, 2, 11, 1, 22, 0, 0),
  (⟨"OtherwiseBookModel", "number", "(III)Z"⟩, prog_13_method_30_code, 6, some .boolean, 3, 11, 1, 22, 0, 0),
  (⟨"OtherwiseBookModel", "readsLine", "(I)Z"⟩, prog_13_method_33_code, 3, some .boolean, 1, 11, 2, 47, 0, 0),
  (⟨"OtherwiseBookModel", "figure", "(III)Z"⟩, prog_13_method_29_code, 5, some .boolean, 3, 11, 1, 22, 0, 0),
  (⟨"OtherwiseBookModel", "ruleFault", "(I)I"⟩, prog_13_method_32_code, 5, some .int, 1, 11, 3, 69, 0, 0),
  (⟨"OtherwiseBookModel", "readsClause", "(II)I"⟩, prog_13_method_31_code, 4, some .int, 2, 11, 2, 46, 0, 0),
  (⟨"OtherwiseBookModel", "rule", "(II)I"⟩, prog_13_method_38_code, 4, some .int, 2, 11, 4, 93, 0, 0),
  (⟨"OtherwiseBookModel", "isPlace", "(I)Z"⟩, prog_13_method_37_code, 1, some .boolean, 1, 11, 1, 22, 0, 0),
  (⟨"OtherwiseBookModel", "numbered", "(II)I"⟩, prog_13_method_39_code, 4, some .int, 2, 11, 2, 42, 0, 0),
  (⟨"OtherwiseBookModel", "layNumbered", "(I)V"⟩, prog_13_method_48_code, 2, none, 1, 11, 0, 0, 0, 0),
  (⟨"OtherwiseBookModel", "page", "(II)I"⟩, prog_13_method_40_code, 4, some .int, 2, 11, 4, 91, 0, 0),
  (⟨"OtherwiseBookModel", "clause", "(II)I"⟩, prog_13_method_42_code, 3, some .int, 2, 11, 2, 42, 0, 0),
  (⟨"OtherwiseBookModel", "clauseOf", "(II)I"⟩, prog_13_method_41_code, 3, some .int, 2, 11, 0, 0, 0, 0),
  (⟨"OtherwiseBookModel", "kindOf", "(I)I"⟩, prog_13_method_25_code, 1, some .int, 1, 11, 0, 0, 0, 0),
  (⟨"OtherwiseBookModel", "mark", "(III)I"⟩, prog_13_method_43_code, 6, some .int, 3, 11, 2, 42, 0, 0),
  (⟨"OtherwiseBookModel", "weatherOf", "(I)I"⟩, prog_13_method_27_code, 1, some .int, 1, 11, 0, 0, 0, 0),
  (⟨"OtherwiseBookModel", "stepOf", "(I)I"⟩, prog_13_method_26_code, 1, some .int, 1, 11, 1, 20, 0, 0),
  (⟨"OtherwiseBookModel", "line", "(II)I"⟩, prog_13_method_46_code, 3, some .int, 2, 11, 2, 42, 0, 0),
  (⟨"OtherwiseBookModel", "lineMany", "(I)I"⟩, prog_13_method_44_code, 4, some .int, 1, 11, 0, 0, 0, 0),
  (⟨"OtherwiseBookModel", "lineDay", "(II)I"⟩, prog_13_method_45_code, 5, some .int, 2, 11, 0, 0, 0, 0),
  (⟨"OtherwiseBookModel", "expects", "(II)I"⟩, prog_13_method_54_code, 5, some .int, 2, 11, 4, 85, 0, 0),
  (⟨"OtherwiseBookModel", "needDays", "(III)I"⟩, prog_13_method_53_code, 6, some .int, 3, 11, 1, 22, 0, 0),
  (⟨"OtherwiseBookModel", "layRule", "(I)V"⟩, prog_13_method_47_code, 3, none, 1, 11, 0, 0, 0, 0)]
def pm_M5 : List pm_D := [
  (⟨"OtherwiseBookModel", "expected", "(I)I"⟩, prog_13_method_51_code, 4, some .int, 1, 11, 3, 62, 0, 0),
  (⟨"OtherwiseBookModel", "canTell", "(II)Z"⟩, prog_13_method_50_code, 3, some .boolean, 2, 11, 2, 40, 0, 0),
  (⟨"OtherwiseBookModel", "days", "(III)I"⟩, prog_13_method_57_code, 6, some .int, 3, 11, 6, 130, 0, 0),
  (⟨"OtherwiseBookModel", "needBoth", "(II)I"⟩, prog_13_method_55_code, 3, some .int, 2, 11, 2, 42, 0, 0),
  (⟨"OtherwiseBookModel", "layBoth", "(II)V"⟩, prog_13_method_56_code, 3, none, 2, 11, 5, 108, 0, 0),
  (⟨"OtherwiseBookModel", "layPage", "(I)V"⟩, prog_13_method_49_code, 3, none, 1, 11, 0, 0, 0, 0),
  (⟨"OtherwiseBookModel", "layDays", "()V"⟩, prog_13_method_52_code, 4, none, 0, 11, 4, 85, 0, 0),
  (⟨"OtherwiseBookModel", "write", "(III)I"⟩, prog_13_method_59_code, 6, some .int, 3, 11, 4, 85, 0, 0),
  (⟨"OtherwiseBookModel", "fewest", "(II)I"⟩, prog_13_method_61_code, 4, some .int, 2, 11, 6, 132, 0, 0),
  (⟨"OtherwiseBookModel", "needFewest", "(II)I"⟩, prog_13_method_60_code, 6, some .int, 2, 11, 5, 107, 0, 0),
  (⟨"OtherwiseBookModel", "linesNeeded", "()I"⟩, prog_13_method_58_code, 3, some .int, 0, 11, 4, 85, 0, 0),
  (⟨"OtherwiseBookModel", "many", "(II)I"⟩, prog_13_method_62_code, 4, some .int, 2, 11, 6, 132, 0, 0),
  (⟨"OtherwiseBookModel", "open", "(II)I"⟩, prog_13_method_64_code, 5, some .int, 2, 11, 3, 64, 0, 0),
  (⟨"OtherwiseBookModel", "read", "()I"⟩, prog_13_method_65_code, 3, some .int, 0, 11, 4, 85, 0, 0),
  (⟨"OtherwiseBookModel", "keep", "(I)I"⟩, prog_13_method_66_code, 2, some .int, 1, 11, 1, 23, 0, 0),
  (⟨"OtherwiseBookModel", "copyReading", "(II)V"⟩, prog_13_method_63_code, 4, none, 2, 11, 0, 0, 0, 0),
  (⟨"OtherwiseBookModel", "on", "(I)I"⟩, prog_13_method_67_code, 2, some .int, 1, 11, 1, 23, 0, 0),
  (⟨"OtherwiseBookModel", "worlds", "(IIIII)I"⟩, prog_13_method_71_code, 7, some .int, 5, 11, 6, 139, 0, 0),
  (⟨"OtherwiseBookModel", "needWorlds", "(IIIIII)I"⟩, prog_13_method_70_code, 9, some .int, 6, 11, 5, 111, 0, 0),
  (⟨"OtherwiseBookModel", "linesIn", "(I)I"⟩, prog_13_method_68_code, 3, some .int, 1, 11, 0, 0, 0, 0),
  (⟨"OtherwiseBookModel", "isWorld", "(III)Z"⟩, prog_13_method_69_code, 7, some .boolean, 3, 11, 4, 85, 0, 0),
  (⟨"OtherwiseBookModel", "sure", "(IIIII)I"⟩, prog_13_method_72_code, 9, some .int, 5, 11, 6, 139, 0, 0),
  (⟨"OtherwiseBookModel", "can", "(IIIIII)I"⟩, prog_13_method_73_code, 8, some .int, 6, 11, 6, 139, 0, 0),
  (⟨"OtherwiseBookModel", "know", "(II)I"⟩, prog_13_method_74_code, 3, some .int, 2, 11, 1, 22, 0, 0),
  (⟨"OtherwiseBookModel", "forget", "(I)I"⟩, prog_13_method_75_code, 3, some .int, 1, 11, 1, 22, 0, 0),
  (⟨"OtherwiseBookModel", "rules", "(II)I"⟩, prog_13_method_79_code, 4, some .int, 2, 11, 6, 132, 0, 0),
  (⟨"OtherwiseBookModel", "needPossible", "(II)I"⟩, prog_13_method_78_code, 5, some .int, 2, 11, 5, 108, 0, 0),
  (⟨"OtherwiseBookModel", "otherwiseMany", "()I"⟩, prog_13_method_77_code, 3, some .int, 0, 11, 1, 21, 0, 0),
  (⟨"OtherwiseBookModel", "isOtherwise", "(I)Z"⟩, prog_13_method_76_code, 2, some .boolean, 1, 11, 0, 0, 0, 0),
  (⟨"OtherwiseBookModel", "agree", "(II)I"⟩, prog_13_method_81_code, 6, some .int, 2, 11, 6, 132, 0, 0),
  (⟨"OtherwiseBookModel", "mostOn", "(I)I"⟩, prog_13_method_80_code, 4, some .int, 1, 11, 0, 0, 0, 0),
  (⟨"OtherwiseBookModel", "ask", "(II)I"⟩, prog_13_method_82_code, 6, some .int, 2, 11, 6, 132, 0, 0),
  (⟨"OtherwiseBookModel", "likely", "(IIII)I"⟩, prog_13_method_83_code, 6, some .int, 4, 11, 6, 132, 0, 0),
  (⟨"OtherwiseBookModel", "fraction", "(JJI)I"⟩, prog_13_method_10_code, 12, some .int, 3, 11, 0, 0, 0, 0),
  (⟨"OtherwiseBookModel", "left", "(II)I"⟩, prog_13_method_84_code, 4, some .int, 2, 11, 6, 132, 0, 0),
  (⟨"OtherwiseBookModel", "changed", "(IIII)I"⟩, prog_13_method_87_code, 9, some .int, 4, 11, 6, 137, 0, 0),
  (⟨"OtherwiseBookModel", "needChanges", "(IIII)I"⟩, prog_13_method_85_code, 11, some .int, 4, 11, 5, 107, 0, 0),
  (⟨"OtherwiseBookModel", "isWritten", "(I)Z"⟩, prog_13_method_86_code, 3, some .boolean, 1, 11, 4, 85, 0, 0),
  (⟨"OtherwiseBookModel", "has", "(II)Z"⟩, prog_13_method_3_code, 2, some .boolean, 2, 11, 0, 0, 0, 0),
  (⟨"OtherwiseBookModel", "when", "(IIII)I"⟩, prog_13_method_88_code, 6, some .int, 4, 11, 6, 137, 0, 0)]
def pm_M6 : List pm_D := [
  (⟨"OtherwiseBookModel", "joined", "(IIII)I"⟩, prog_13_method_90_code, 8, some .int, 4, 11, 6, 130, 0, 0),
  (⟨"OtherwiseBookModel", "keepDays", "()V"⟩, prog_13_method_89_code, 2, none, 0, 11, 0, 0, 0, 0),
  (⟨"OtherwiseBookModel", "lesser", "(II)I"⟩, prog_13_method_4_code, 2, some .int, 2, 11, 0, 0, 0, 0),
  (⟨"OtherwiseBookModel", "follows", "(III)I"⟩, prog_13_method_91_code, 8, some .int, 3, 11, 6, 130, 0, 0),
  (⟨"OtherwiseBookModel", "forbids", "(II)I"⟩, prog_13_method_92_code, 5, some .int, 2, 11, 6, 130, 0, 0),
  (⟨"OtherwiseBookModel", "suspects", "(II)I"⟩, prog_13_method_95_code, 8, some .int, 2, 11, 7, 158, 0, 0),
  (⟨"OtherwiseBookModel", "isSoWithout", "(IIII)Z"⟩, prog_13_method_93_code, 5, some .boolean, 4, 11, 5, 108, 0, 0),
  (⟨"OtherwiseBookModel", "fewestOut", "(II)I"⟩, prog_13_method_94_code, 7, some .int, 2, 11, 6, 132, 0, 0),
  (⟨"OtherwiseBookModel", "count", "(I)I"⟩, prog_13_method_97_code, 2, some .int, 1, 11, 2, 47, 0, 0),
  (⟨"OtherwiseBookModel", "counted", "(I)I"⟩, prog_13_method_96_code, 6, some .int, 1, 11, 1, 22, 0, 0),
  (⟨"OtherwiseBookModel", "digest", "()J"⟩, prog_13_method_100_code, 3, some .long, 0, 11, 2, 47, 0, 0),
  (⟨"OtherwiseBookModel", "mix", "(J)V"⟩, prog_13_method_98_code, 3, none, 1, 11, 0, 0, 0, 0),
  (⟨"OtherwiseBookModel", "mixBooks", "()V"⟩, prog_13_method_99_code, 3, none, 0, 11, 1, 22, 0, 0)]
def pm_M : List pm_D := pm_M0 ++ (pm_M1 ++ (pm_M2 ++ (pm_M3 ++ (pm_M4 ++ (pm_M5 ++ (pm_M6))))))
def pm_m (j : Nat) : pm_D := pm_M.getD j (⟨"", "", ""⟩, ⟨#[]⟩, 0, none, 0, 99, 0, 0, 0, 0)
def pm_y (j : Nat) := (pm_m j).1
def pm_c (j : Nat) := (pm_m j).2.1
def pm_ml (j : Nat) := (pm_m j).2.2.1
def pm_rt (j : Nat) := (pm_m j).2.2.2.1
def pm_np (j : Nat) := (pm_m j).2.2.2.2.1
def pm_oc (j : Nat) := (pm_m j).2.2.2.2.2.1
def pm_fr (j : Nat) := (pm_m j).2.2.2.2.2.2.1
def pm_lo (j : Nat) := (pm_m j).2.2.2.2.2.2.2.1
def pm_mc (j : Nat) := (pm_m j).2.2.2.2.2.2.2.2.1
def pm_ms (j : Nat) := (pm_m j).2.2.2.2.2.2.2.2.2
def pm_cn : List String := ["OtherwiseBook$Known", "OtherwiseBook$Leaf", "OtherwiseBook$Page", "OtherwiseBook$Parser", "OtherwiseBook$Reading", "OtherwiseBook$Row", "OtherwiseBook$Rule", "OtherwiseBook$Scale", "OtherwiseBook$Tally", "OtherwiseBook$Text", "OtherwiseBook", "OtherwiseBookModel", "java/lang/Integer", "java/lang/Math", "OtherwiseBookLaw"]
def pm_cl : List vw_C := [(RX0, TX0, 3), (RX1, TX1, 3), (RX2, TX2, 2), (RX3, TX3, 5), (RX4, TX4, 4), (RX5, TX5, 2), (RX6, TX6, 2), (RX7, TX7, 4), (RX8, TX8, 5), (RX9, TX9, 2), (RX10, TX10, 19), (RX11, TX11, 48)]
def pm_ty : List (Nat → FieldType) := [tyX0, tyX1, tyX2, tyX3, tyX4, tyX5, tyX6, tyX7, tyX8, tyX9, tyX10, tyX11]
/-- a class' field links: place in its pool, class, field, place in lw_tbl -/
def pm_fl : List (List (Nat × Nat × Nat × Nat)) := [
  [(9, 0, 0, 207), (15, 0, 1, 209), (19, 0, 2, 211)],
  [(9, 1, 0, 304), (15, 1, 1, 306), (19, 1, 2, 308), (35, 2, 0, 165), (54, 2, 1, 170)],
  [(9, 2, 0, 163), (15, 2, 1, 168), (19, 5, 0, 107), (28, 5, 1, 112)],
  [(12, 3, 0, 230), (21, 3, 1, 232), (25, 3, 2, 234), (29, 3, 3, 235), (33, 3, 4, 236), (41, 6, 0, 146), (52, 6, 1, 149), (72, 2, 1, 169), (75, 9, 0, 127), (78, 9, 1, 130)],
  [(9, 4, 0, 183), (15, 4, 1, 185), (18, 4, 2, 187), (21, 4, 3, 189), (25, 2, 0, 166)],
  [(9, 5, 0, 105), (15, 5, 1, 109)],
  [(9, 6, 0, 145), (15, 6, 1, 148)],
  [(9, 7, 0, 282), (15, 7, 1, 284), (18, 7, 2, 286), (24, 7, 3, 288), (36, 5, 0, 106), (41, 5, 1, 111)],
  [(9, 8, 0, 256), (15, 8, 1, 258), (18, 8, 2, 260), (22, 8, 3, 261), (28, 8, 4, 262), (42, 2, 0, 164)],
  [(9, 9, 0, 126), (15, 9, 1, 129)],
  [(11, 10, 0, 316), (18, 10, 1, 317), (25, 10, 2, 318), (32, 10, 3, 319), (40, 10, 4, 320), (44, 10, 5, 321), (51, 10, 6, 322), (55, 10, 7, 323), (61, 10, 8, 324), (68, 10, 9, 325), (75, 10, 10, 326), (82, 10, 11, 327), (86, 10, 12, 328), (90, 10, 13, 329), (93, 10, 14, 330), (96, 10, 15, 331), (100, 10, 16, 332), (103, 10, 17, 333), (107, 10, 18, 334), (126, 5, 1, 110), (133, 5, 0, 108), (151, 9, 0, 128), (152, 9, 1, 131), (163, 3, 0, 231), (171, 6, 0, 147), (175, 3, 1, 233), (189, 6, 1, 150), (205, 2, 1, 171), (222, 2, 0, 167), (248, 7, 1, 285), (251, 7, 0, 283), (254, 7, 2, 287), (260, 4, 0, 184), (262, 4, 1, 186), (265, 4, 2, 188), (268, 4, 3, 190), (282, 1, 0, 305), (288, 1, 1, 307), (298, 8, 1, 259), (299, 8, 0, 257), (345, 0, 0, 208), (346, 0, 1, 210), (349, 0, 2, 212)],
  [(7, 11, 1, 967), (13, 11, 5, 971), (16, 11, 6, 972), (19, 11, 7, 973), (22, 11, 8, 974), (25, 11, 9, 975), (29, 11, 10, 976), (32, 11, 11, 977), (36, 11, 12, 978), (39, 11, 13, 979), (42, 11, 14, 980), (45, 11, 15, 981), (48, 11, 21, 987), (51, 11, 22, 988), (54, 11, 24, 990), (57, 11, 26, 992), (60, 11, 27, 993), (63, 11, 33, 999), (66, 11, 34, 1000), (69, 11, 36, 1002), (72, 11, 38, 1004), (75, 11, 39, 1005), (78, 11, 44, 1010), (81, 11, 46, 1012), (84, 11, 4, 970), (88, 11, 0, 966), (96, 11, 2, 968), (99, 11, 3, 969), (123, 11, 16, 982), (129, 11, 17, 983), (139, 11, 18, 984), (145, 11, 20, 986), (148, 11, 19, 985), (173, 11, 23, 989), (191, 11, 25, 991), (197, 11, 29, 995), (200, 11, 28, 994), (226, 11, 31, 997), (233, 11, 32, 998), (236, 11, 30, 996), (245, 11, 35, 1001), (258, 11, 37, 1003), (264, 11, 40, 1006), (267, 11, 41, 1007), (270, 11, 42, 1008), (273, 11, 43, 1009), (292, 11, 45, 1011), (320, 11, 47, 1013)],
  [],
  [],
  []]
def pm_kl : List (List (Nat × Nat × Nat)) := [[], [], [], [(9, 6, 226), (18, 2, 228)], [], [], [], [(21, 6, 280)], [(25, 6, 254)], [], [(9, 5, 98), (16, 9, 119), (23, 6, 138), (30, 2, 156), (37, 4, 177), (48, 0, 201), (58, 3, 220), (65, 8, 248), (72, 7, 274), (79, 1, 298)], [], [], [], [(7, 10, 90), (10, 11, 960)]]
def pm_ci : List (List (Nat × Int32 × Nat)) := [[], [], [], [], [], [], [], [], [], [], [], [], [(265, (1431655765), 698), (266, (858993459), 699), (267, (252645135), 700)], [], []]
def pm_cj : List (List (Nat × Int64 × Nat)) := [[], [], [(41, (-1), 937)], [], [(36, (-1), 948)], [], [(23, (-1), 931)], [], [], [], [(381, (17), 921), (429, (31), 926)], [(318, (31), 1495), (323, (-1), 1500), (329, (17), 1490)], [], [], []]
/-- method links: place in the pool, kind (0 static, 1 virtual, 2 init, 3 static of a nest mate, 4 Object.<init>, 5 arraycopy), method, places in lw_tbl: link, static or instance, selects, initialized, code -/
def pm_ml0 : List (Nat × Nat × Nat × Nat × Nat × Nat × Nat × Nat) := [(3, 4, 0, 206, 96, 97, 0, 0), (22, 1, 104, 747, 748, 749, 81, 750), (26, 3, 146, 943, 924, 0, 75, 925)]
def pm_ml1 : List (Nat × Nat × Nat × Nat × Nat × Nat × Nat × Nat) := [(3, 4, 0, 303, 96, 97, 0, 0), (22, 0, 92, 695, 696, 0, 88, 697), (28, 0, 93, 701, 702, 0, 85, 703), (31, 1, 94, 704, 706, 18, 85, 707), (40, 1, 95, 710, 712, 19, 85, 713), (44, 1, 69, 708, 598, 599, 78, 600), (50, 1, 50, 709, 529, 530, 79, 531)]
def pm_ml2 : List (Nat × Nat × Nat × Nat × Nat × Nat × Nat × Nat) := [(3, 4, 0, 162, 96, 97, 0, 0), (24, 1, 38, 630, 481, 482, 79, 483), (31, 1, 69, 613, 598, 599, 78, 600), (37, 1, 50, 528, 529, 530, 79, 531), (43, 3, 146, 938, 924, 0, 75, 925)]
def pm_ml3 : List (Nat × Nat × Nat × Nat × Nat × Nat × Nat × Nat) := [(3, 4, 0, 225, 96, 97, 0, 0), (11, 2, 4, 227, 142, 0, 78, 143), (20, 2, 5, 229, 160, 0, 79, 161), (37, 1, 31, 452, 454, 2, 82, 455), (44, 1, 39, 484, 486, 9, 82, 487), (48, 1, 41, 492, 494, 10, 82, 495), (56, 1, 32, 456, 458, 3, 82, 459), (59, 1, 34, 464, 466, 5, 82, 467), (63, 1, 35, 468, 470, 6, 82, 471), (67, 1, 38, 480, 481, 482, 79, 483), (69, 1, 36, 472, 474, 7, 82, 475), (82, 1, 33, 460, 462, 4, 82, 463), (85, 1, 42, 496, 498, 11, 82, 499), (88, 1, 37, 476, 478, 8, 82, 479)]
def pm_ml4 : List (Nat × Nat × Nat × Nat × Nat × Nat × Nat × Nat) := [(3, 4, 0, 182, 96, 97, 0, 0), (28, 1, 72, 661, 610, 611, 79, 612), (32, 1, 50, 662, 529, 530, 79, 531), (38, 3, 146, 949, 924, 0, 75, 925)]
def pm_ml5 : List (Nat × Nat × Nat × Nat × Nat × Nat × Nat × Nat) := [(3, 4, 0, 104, 96, 97, 0, 0), (19, 3, 13, 589, 379, 0, 75, 380), (23, 3, 146, 954, 924, 0, 75, 925)]
def pm_ml6 : List (Nat × Nat × Nat × Nat × Nat × Nat × Nat × Nat) := [(3, 4, 0, 144, 96, 97, 0, 0), (19, 3, 68, 594, 595, 0, 75, 596), (25, 3, 146, 932, 924, 0, 75, 925)]
def pm_ml7 : List (Nat × Nat × Nat × Nat × Nat × Nat × Nat × Nat) := [(3, 4, 0, 279, 96, 97, 0, 0), (23, 2, 4, 281, 142, 0, 78, 143), (28, 1, 46, 643, 513, 514, 78, 515), (32, 1, 80, 644, 646, 16, 84, 647), (45, 1, 69, 648, 598, 599, 78, 600)]
def pm_ml8 : List (Nat × Nat × Nat × Nat × Nat × Nat × Nat × Nat) := [(3, 4, 0, 253, 96, 97, 0, 0), (27, 2, 4, 255, 142, 0, 78, 143), (32, 1, 46, 738, 513, 514, 78, 515), (36, 1, 102, 739, 740, 741, 79, 742), (45, 1, 103, 743, 744, 745, 81, 746), (51, 1, 108, 763, 764, 765, 83, 766), (55, 6, 0, 767, 768, 0, 89, 769), (60, 1, 107, 759, 760, 761, 83, 762)]
def pm_ml9 : List (Nat × Nat × Nat × Nat × Nat × Nat × Nat × Nat) := [(3, 4, 0, 125, 96, 97, 0, 0), (19, 3, 146, 959, 924, 0, 75, 925)]
def pm_ml10 : List (Nat × Nat × Nat × Nat × Nat × Nat × Nat × Nat) := [(3, 4, 0, 95, 96, 97, 0, 0), (15, 2, 2, 101, 102, 0, 76, 103), (22, 2, 3, 122, 123, 0, 77, 124), (29, 2, 4, 141, 142, 0, 78, 143), (36, 2, 5, 159, 160, 0, 79, 161), (39, 2, 6, 179, 180, 0, 80, 181), (50, 2, 7, 203, 204, 0, 81, 205), (60, 2, 8, 222, 223, 0, 82, 224), (67, 2, 9, 250, 251, 0, 83, 252), (74, 2, 10, 276, 277, 0, 84, 278), (81, 2, 11, 300, 301, 0, 85, 302), (110, 0, 13, 378, 379, 0, 75, 380), (114, 1, 14, 381, 383, 0, 75, 384), (118, 1, 15, 385, 386, 387, 76, 388), (122, 1, 17, 393, 395, 1, 75, 396), (129, 1, 18, 397, 398, 399, 76, 400), (136, 1, 22, 413, 414, 415, 76, 416), (139, 5, 0, 417, 419, 418, 87, 0), (145, 1, 24, 424, 425, 426, 76, 427), (149, 1, 26, 432, 433, 434, 77, 435), (150, 1, 28, 440, 441, 442, 77, 443), (156, 1, 30, 448, 449, 450, 82, 451), (160, 1, 40, 488, 489, 490, 82, 491), (167, 1, 44, 504, 505, 506, 78, 507), (172, 1, 46, 512, 513, 514, 78, 515), (179, 1, 48, 520, 521, 522, 79, 523), (182, 1, 49, 524, 525, 526, 79, 527), (186, 1, 52, 536, 538, 12, 75, 539), (192, 0, 54, 544, 545, 0, 75, 546), (195, 0, 56, 551, 552, 0, 75, 553), (198, 0, 57, 554, 555, 0, 75, 556), (201, 1, 63, 573, 574, 575, 79, 576), (202, 1, 64, 577, 578, 579, 79, 580), (208, 1, 53, 540, 541, 542, 78, 543), (209, 1, 66, 585, 586, 587, 76, 588), (212, 1, 67, 590, 591, 592, 78, 593), (216, 1, 69, 597, 598, 599, 78, 600), (219, 1, 71, 605, 607, 13, 75, 608), (225, 1, 72, 609, 610, 611, 79, 612), (229, 1, 73, 614, 615, 616, 79, 617), (233, 1, 75, 622, 624, 14, 75, 625), (237, 1, 76, 626, 627, 628, 79, 629), (241, 1, 78, 635, 637, 15, 75, 638), (244, 1, 79, 639, 640, 641, 84, 642), (257, 1, 83, 657, 658, 659, 80, 660), (261, 1, 85, 667, 668, 669, 80, 670), (271, 1, 87, 675, 676, 677, 80, 678), (274, 1, 90, 687, 689, 17, 75, 690), (278, 1, 91, 691, 692, 693, 85, 694), (285, 1, 97, 718, 719, 720, 85, 721), (291, 1, 100, 730, 732, 20, 75, 733), (294, 1, 101, 734, 735, 736, 83, 737), (302, 1, 106, 755, 756, 757, 83, 758), (305, 1, 110, 774, 775, 776, 83, 777), (308, 1, 107, 778, 760, 761, 83, 762), (311, 1, 108, 783, 764, 765, 83, 766), (314, 1, 112, 784, 786, 21, 75, 787), (318, 1, 116, 799, 801, 22, 75, 802), (322, 0, 117, 803, 804, 0, 75, 805), (326, 0, 119, 810, 811, 0, 75, 812), (329, 0, 92, 813, 696, 0, 88, 697), (334, 7, 0, 822, 823, 0, 89, 824), (339, 1, 122, 825, 827, 23, 75, 828), (342, 0, 124, 833, 834, 0, 75, 835), (352, 1, 103, 848, 744, 745, 81, 746), (355, 1, 128, 849, 850, 851, 81, 852), (358, 1, 130, 857, 859, 24, 75, 860), (362, 1, 133, 869, 871, 26, 75, 872), (365, 1, 138, 889, 891, 27, 75, 892), (368, 1, 139, 893, 895, 28, 75, 896), (371, 1, 140, 897, 899, 29, 75, 900), (375, 1, 141, 901, 903, 30, 75, 904), (378, 1, 142, 905, 907, 31, 75, 908), (383, 1, 137, 922, 886, 887, 75, 888), (386, 0, 146, 923, 924, 0, 75, 925), (390, 1, 147, 927, 928, 929, 78, 930), (394, 1, 148, 933, 934, 935, 79, 936), (395, 1, 149, 939, 940, 941, 81, 942), (396, 1, 150, 944, 945, 946, 80, 947), (397, 1, 151, 950, 951, 952, 76, 953), (398, 1, 152, 955, 956, 957, 77, 958), (399, 0, 58, 557, 558, 0, 75, 559), (402, 0, 59, 560, 561, 0, 75, 562), (405, 0, 60, 563, 564, 0, 75, 565), (408, 0, 61, 566, 567, 0, 75, 568), (411, 1, 118, 806, 807, 808, 79, 809), (414, 1, 50, 864, 529, 530, 79, 531), (418, 1, 132, 865, 867, 25, 75, 868), (422, 0, 131, 861, 862, 0, 75, 863), (426, 0, 113, 788, 789, 0, 75, 790)]
def pm_ml11 : List (Nat × Nat × Nat × Nat × Nat × Nat × Nat × Nat) := [(1, 4, 0, 965, 96, 97, 0, 0), (92, 0, 156, 1120, 1121, 0, 86, 1122), (102, 0, 161, 1139, 1140, 0, 86, 1141), (106, 1, 162, 1142, 1144, 32, 86, 1145), (110, 1, 164, 1150, 1152, 33, 86, 1153), (114, 1, 165, 1154, 1156, 34, 86, 1157), (117, 0, 171, 1178, 1179, 0, 86, 1180), (120, 0, 190, 1252, 1253, 0, 86, 1254), (126, 1, 175, 1193, 1195, 36, 86, 1196), (132, 1, 180, 1213, 1215, 41, 86, 1216), (135, 1, 177, 1201, 1203, 38, 86, 1204), (142, 1, 182, 1221, 1223, 43, 86, 1224), (151, 1, 178, 1205, 1207, 39, 86, 1208), (154, 1, 176, 1197, 1199, 37, 86, 1200), (157, 1, 179, 1209, 1211, 40, 86, 1212), (160, 1, 174, 1189, 1191, 35, 86, 1192), (163, 1, 181, 1217, 1219, 42, 86, 1220), (166, 0, 184, 1229, 1230, 0, 86, 1231), (169, 1, 186, 1236, 1238, 44, 86, 1239), (176, 1, 189, 1248, 1250, 45, 86, 1251), (179, 0, 192, 1259, 1260, 0, 86, 1261), (182, 0, 193, 1262, 1263, 0, 86, 1264), (185, 1, 195, 1269, 1271, 46, 86, 1272), (188, 1, 196, 1273, 1275, 47, 86, 1276), (194, 1, 201, 1293, 1295, 51, 86, 1296), (203, 1, 200, 1289, 1291, 50, 86, 1292), (206, 1, 198, 1281, 1283, 48, 86, 1284), (210, 1, 199, 1285, 1287, 49, 86, 1288), (213, 1, 205, 1309, 1311, 54, 86, 1312), (216, 1, 206, 1313, 1315, 55, 86, 1316), (219, 1, 203, 1301, 1303, 52, 86, 1304), (222, 1, 204, 1305, 1307, 53, 86, 1308), (229, 1, 210, 1329, 1331, 57, 86, 1332), (239, 1, 209, 1325, 1327, 56, 86, 1328), (242, 1, 215, 1349, 1351, 58, 86, 1352), (248, 0, 219, 1365, 1366, 0, 86, 1367), (251, 1, 220, 1368, 1370, 60, 86, 1371), (254, 1, 218, 1361, 1363, 59, 86, 1364), (261, 1, 228, 1400, 1402, 63, 86, 1403), (276, 1, 227, 1396, 1398, 62, 86, 1399), (279, 1, 226, 1392, 1394, 61, 86, 1395), (282, 1, 230, 1408, 1410, 64, 86, 1411), (285, 1, 233, 1420, 1422, 65, 86, 1423), (289, 1, 237, 1436, 1438, 67, 86, 1439), (295, 1, 236, 1432, 1434, 66, 86, 1435), (299, 0, 238, 1440, 1441, 0, 86, 1442), (302, 1, 241, 1451, 1453, 68, 86, 1454), (305, 0, 242, 1455, 1456, 0, 86, 1457), (308, 1, 246, 1470, 1472, 69, 86, 1473), (312, 1, 247, 1474, 1476, 70, 86, 1477), (315, 1, 249, 1482, 1484, 71, 86, 1485), (325, 1, 251, 1491, 1493, 72, 86, 1494), (331, 1, 252, 1496, 1498, 73, 86, 1499)]
def pm_ml12 : List (Nat × Nat × Nat × Nat × Nat × Nat × Nat × Nat) := []
def pm_ml13 : List (Nat × Nat × Nat × Nat × Nat × Nat × Nat × Nat) := []
def pm_ml14 : List (Nat × Nat × Nat × Nat × Nat × Nat × Nat × Nat) := [(9, 2, 1, 92, 93, 0, 75, 94), (12, 2, 153, 962, 963, 0, 86, 964), (13, 1, 12, 374, 375, 376, 75, 377), (17, 1, 160, 1135, 1136, 1137, 86, 1138), (18, 1, 16, 389, 390, 391, 75, 392), (22, 1, 163, 1146, 1147, 1148, 86, 1149), (23, 1, 19, 401, 402, 403, 75, 404), (26, 1, 166, 1158, 1159, 1160, 86, 1161), (27, 1, 20, 405, 406, 407, 75, 408), (31, 1, 167, 1162, 1163, 1164, 86, 1165), (32, 1, 21, 409, 410, 411, 75, 412), (36, 1, 168, 1166, 1167, 1168, 86, 1169), (37, 1, 23, 420, 421, 422, 75, 423), (40, 1, 169, 1170, 1171, 1172, 86, 1173), (41, 1, 25, 428, 429, 430, 75, 431), (44, 1, 170, 1174, 1175, 1176, 86, 1177), (45, 1, 27, 436, 437, 438, 75, 439), (48, 1, 172, 1181, 1182, 1183, 86, 1184), (49, 1, 29, 444, 445, 446, 75, 447), (53, 1, 173, 1185, 1186, 1187, 86, 1188), (54, 1, 43, 500, 501, 502, 75, 503), (57, 1, 183, 1225, 1226, 1227, 86, 1228), (58, 1, 45, 508, 509, 510, 75, 511), (61, 1, 185, 1232, 1233, 1234, 86, 1235), (62, 1, 47, 516, 517, 518, 75, 519), (65, 1, 187, 1240, 1241, 1242, 86, 1243), (66, 1, 51, 532, 533, 534, 75, 535), (69, 1, 188, 1244, 1245, 1246, 86, 1247), (70, 1, 55, 547, 548, 549, 75, 550), (73, 1, 191, 1255, 1256, 1257, 86, 1258), (74, 1, 62, 569, 570, 571, 75, 572), (77, 1, 194, 1265, 1266, 1267, 86, 1268), (78, 1, 65, 581, 582, 583, 75, 584), (81, 1, 197, 1277, 1278, 1279, 86, 1280), (82, 1, 70, 601, 602, 603, 75, 604), (85, 1, 202, 1297, 1298, 1299, 86, 1300), (86, 1, 74, 618, 619, 620, 75, 621), (89, 1, 207, 1317, 1318, 1319, 86, 1320), (90, 1, 77, 631, 632, 633, 75, 634), (93, 1, 208, 1321, 1322, 1323, 86, 1324), (94, 1, 81, 649, 650, 651, 75, 652), (97, 1, 211, 1333, 1334, 1335, 86, 1336), (98, 1, 82, 653, 654, 655, 75, 656), (101, 1, 212, 1337, 1338, 1339, 86, 1340), (102, 1, 84, 663, 664, 665, 75, 666), (106, 1, 213, 1341, 1342, 1343, 86, 1344), (107, 1, 86, 671, 672, 673, 75, 674), (110, 1, 214, 1345, 1346, 1347, 86, 1348), (111, 1, 88, 679, 680, 681, 75, 682), (114, 1, 216, 1353, 1354, 1355, 86, 1356), (115, 1, 89, 683, 684, 685, 75, 686), (118, 1, 217, 1357, 1358, 1359, 86, 1360), (119, 1, 96, 714, 715, 716, 75, 717), (122, 1, 221, 1372, 1373, 1374, 86, 1375), (123, 1, 98, 722, 723, 724, 75, 725), (127, 1, 222, 1376, 1377, 1378, 86, 1379), (128, 1, 99, 726, 727, 728, 75, 729), (131, 1, 225, 1388, 1389, 1390, 86, 1391), (132, 1, 105, 751, 752, 753, 75, 754), (135, 1, 229, 1404, 1405, 1406, 86, 1407), (136, 1, 109, 770, 771, 772, 75, 773), (139, 1, 231, 1412, 1413, 1414, 86, 1415), (140, 1, 111, 779, 780, 781, 75, 782), (144, 1, 232, 1416, 1417, 1418, 86, 1419), (145, 1, 114, 791, 792, 793, 75, 794), (148, 1, 234, 1424, 1425, 1426, 86, 1427), (149, 1, 115, 795, 796, 797, 75, 798), (152, 1, 235, 1428, 1429, 1430, 86, 1431), (153, 1, 120, 814, 815, 816, 75, 817), (156, 1, 239, 1443, 1444, 1445, 86, 1446), (157, 1, 121, 818, 819, 820, 75, 821), (160, 1, 240, 1447, 1448, 1449, 86, 1450), (161, 1, 123, 829, 830, 831, 75, 832), (164, 1, 243, 1458, 1459, 1460, 86, 1461), (165, 1, 125, 836, 837, 838, 75, 839), (168, 1, 223, 1380, 1381, 1382, 86, 1383), (169, 1, 126, 840, 841, 842, 75, 843), (172, 1, 224, 1384, 1385, 1386, 86, 1387), (173, 1, 127, 844, 845, 846, 75, 847), (176, 1, 244, 1462, 1463, 1464, 86, 1465), (177, 1, 129, 853, 854, 855, 75, 856), (180, 1, 245, 1466, 1467, 1468, 86, 1469), (181, 1, 134, 873, 874, 875, 75, 876), (184, 1, 157, 1123, 1124, 1125, 86, 1126), (185, 1, 135, 877, 878, 879, 75, 880), (189, 1, 158, 1127, 1128, 1129, 86, 1130), (190, 1, 136, 881, 882, 883, 75, 884), (193, 1, 159, 1131, 1132, 1133, 86, 1134), (194, 1, 137, 885, 886, 887, 75, 888), (197, 1, 248, 1478, 1479, 1480, 86, 1481), (198, 1, 143, 909, 910, 911, 75, 912), (201, 1, 154, 1112, 1113, 1114, 86, 1115), (202, 1, 144, 913, 914, 915, 75, 916), (205, 1, 155, 1116, 1117, 1118, 86, 1119), (206, 1, 145, 917, 918, 919, 75, 920), (209, 1, 250, 1486, 1487, 1488, 86, 1489)]
def pm_mth : List (List (Nat × Nat × Nat × Nat × Nat × Nat × Nat × Nat)) := [pm_ml0, pm_ml1, pm_ml2, pm_ml3, pm_ml4, pm_ml5, pm_ml6, pm_ml7, pm_ml8, pm_ml9, pm_ml10, pm_ml11, pm_ml12, pm_ml13, pm_ml14]
theorem pm_uw0 : ∀ w ∈ u_ws RX0 TX0 3, w ∈ lw_tbl := fun w hw => (goodIn_r (big := lw_tbl) _ [213, 215, 217] (by decide +kernel) (by decide +kernel) w hw).1
theorem pm_uw1 : ∀ w ∈ u_ws RX1 TX1 3, w ∈ lw_tbl := fun w hw => (goodIn_r (big := lw_tbl) _ [309, 311, 313] (by decide +kernel) (by decide +kernel) w hw).1
theorem pm_uw2 : ∀ w ∈ u_ws RX2 TX2 2, w ∈ lw_tbl := fun w hw => (goodIn_r (big := lw_tbl) _ [172, 174] (by decide +kernel) (by decide +kernel) w hw).1
theorem pm_uw3 : ∀ w ∈ u_ws RX3 TX3 5, w ∈ lw_tbl := fun w hw => (goodIn_r (big := lw_tbl) _ [237, 239, 241, 243, 245] (by decide +kernel) (by decide +kernel) w hw).1
theorem pm_uw4 : ∀ w ∈ u_ws RX4 TX4 4, w ∈ lw_tbl := fun w hw => (goodIn_r (big := lw_tbl) _ [191, 193, 195, 197] (by decide +kernel) (by decide +kernel) w hw).1
theorem pm_uw5 : ∀ w ∈ u_ws RX5 TX5 2, w ∈ lw_tbl := fun w hw => (goodIn_r (big := lw_tbl) _ [113, 115] (by decide +kernel) (by decide +kernel) w hw).1
theorem pm_uw6 : ∀ w ∈ u_ws RX6 TX6 2, w ∈ lw_tbl := fun w hw => (goodIn_r (big := lw_tbl) _ [151, 153] (by decide +kernel) (by decide +kernel) w hw).1
theorem pm_uw7 : ∀ w ∈ u_ws RX7 TX7 4, w ∈ lw_tbl := fun w hw => (goodIn_r (big := lw_tbl) _ [289, 291, 293, 295] (by decide +kernel) (by decide +kernel) w hw).1
theorem pm_uw8 : ∀ w ∈ u_ws RX8 TX8 5, w ∈ lw_tbl := fun w hw => (goodIn_r (big := lw_tbl) _ [263, 265, 267, 269, 271] (by decide +kernel) (by decide +kernel) w hw).1
theorem pm_uw9 : ∀ w ∈ u_ws RX9 TX9 2, w ∈ lw_tbl := fun w hw => (goodIn_r (big := lw_tbl) _ [132, 134] (by decide +kernel) (by decide +kernel) w hw).1
theorem pm_uw10 : ∀ w ∈ u_ws RX10 TX10 19, w ∈ lw_tbl := fun w hw => (goodIn_r (big := lw_tbl) _ [335, 337, 339, 341, 343, 345, 347, 349, 351, 353, 355, 357, 359, 361, 363, 365, 367, 369, 371] (by decide +kernel) (by decide +kernel) w hw).1
theorem pm_uw11 : ∀ w ∈ u_ws RX11 TX11 48, w ∈ lw_tbl := fun w hw => (goodIn_r (big := lw_tbl) _ [1014, 1016, 1018, 1020, 1022, 1024, 1026, 1028, 1030, 1032, 1034, 1036, 1038, 1040, 1042, 1044, 1046, 1048, 1050, 1052, 1054, 1056, 1058, 1060, 1062, 1064, 1066, 1068, 1070, 1072, 1074, 1076, 1078, 1080, 1082, 1084, 1086, 1088, 1090, 1092, 1094, 1096, 1098, 1100, 1102, 1104, 1106, 1108] (by decide +kernel) (by decide +kernel) w hw).1
