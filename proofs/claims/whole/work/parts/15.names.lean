/-! PRINTED by wip/whole/tool/gen2.py: names of methods, classes, fields -/
def mm_infs : List (MethodName × ByteArray × Option FieldType) := [(⟨"BoundsPlanner", "<init>", "()V"⟩, prog_1_method_1_code, none),
  (⟨"BoundsPlanner", "feed", "(IIIII)I"⟩, prog_1_method_2_code, (some .int)),
  (⟨"BoundsPlanner", "putNumber", "(I)V"⟩, prog_1_method_13_code, none),
  (⟨"BoundsPlanner", "index", "(IIII)I"⟩, prog_1_method_3_code, (some .int)),
  (⟨"java/util/Arrays", "copyOfRange", "([BII)[B"⟩, prog_28_method_132_code, (some (.array .byte))),
  (⟨"java/util/Arrays", "copyOfRangeByte", "([BII)[B"⟩, prog_28_method_133_code, (some (.array .byte))),
  (⟨"java/util/Arrays", "checkLength", "(II)V"⟩, prog_28_method_131_code, none),
  (⟨"java/lang/Math", "min", "(II)I"⟩, prog_20_method_69_code, (some .int)),
  (⟨"BoundsPlanner$Path", "isRight", "([B)Z"⟩, prog_11_method_3_code, (some .boolean)),
  (⟨"BoundsPlanner$Bytes", "isRightUtf8", "([BII)Z"⟩, prog_3_method_7_code, (some .boolean)),
  (⟨"BoundsPlanner$Bytes", "lengthOfCharacter", "([BII)I"⟩, prog_3_method_8_code, (some .int)),
  (⟨"BoundsPlanner$Bytes", "at", "([BI)I"⟩, prog_3_method_2_code, (some .int)),
  (⟨"BoundsPlanner$Path", "hasRightSteps", "([BIIZ)Z"⟩, prog_11_method_4_code, (some .boolean)),
  (⟨"BoundsPlanner$Bytes", "areEqual", "([B[B)Z"⟩, prog_3_method_4_code, (some .boolean)),
  (⟨"BoundsPlanner$Bytes", "compare", "([BII[BII)I"⟩, prog_3_method_3_code, (some .int)),
  (⟨"java/lang/Integer", "compare", "(II)I"⟩, prog_17_method_40_code, (some .int)),
  (⟨"BoundsPlanner$Path", "<init>", "([BZZ)V"⟩, prog_11_method_1_code, none),
  (⟨"BoundsPlanner", "drop", "(I)Z"⟩, prog_1_method_4_code, (some .boolean)),
  (⟨"BoundsPlanner", "pathAt", "(II)LBoundsPlanner$Path;"⟩, prog_1_method_15_code, (some (.object "BoundsPlanner$Path"))),
  (⟨"BoundsPlanner", "filter", "(I)I"⟩, prog_1_method_5_code, (some .int)),
  (⟨"BoundsPlanner", "takeTape", "(I)[B"⟩, prog_1_method_14_code, (some (.array .byte))),
  (⟨"BoundsPlanner$Reader", "<init>", "([B)V"⟩, prog_12_method_1_code, none),
  (⟨"java/util/ArrayList", "<init>", "()V"⟩, prog_27_method_2_code, none),
  (⟨"java/util/AbstractList", "<init>", "()V"⟩, prog_26_method_1_code, none),
  (⟨"java/util/AbstractCollection", "<init>", "()V"⟩, prog_25_method_1_code, none),
  (⟨"BoundsPlanner$Reader", "readWhole", "()LBoundsPlanner$Node;"⟩, prog_12_method_2_code, (some (.object "BoundsPlanner$Node"))),
  (⟨"BoundsPlanner$Node", "<init>", "([BIII)V"⟩, prog_9_method_1_code, none),
  (⟨"BoundsPlanner$Node", "wordOf", "([BII)I"⟩, prog_9_method_2_code, (some .int)),
  (⟨"BoundsPlanner$Bytes", "isWord", "([BIILjava/lang/String;)Z"⟩, prog_3_method_5_code, (some .boolean)),
  (⟨"java/lang/String", "length", "()I"⟩, prog_21_method_54_code, (some .int)),
  (⟨"java/lang/String", "coder", "()B"⟩, prog_21_method_152_code, (some .byte)),
  (⟨"java/lang/String", "charAt", "(I)C"⟩, prog_21_method_56_code, (some .char)),
  (⟨"java/lang/String", "isLatin1", "()Z"⟩, prog_21_method_154_code, (some .boolean)),
  (⟨"java/lang/StringLatin1", "charAt", "([BI)C"⟩, prog_22_method_2_code, (some .char)),
  (⟨"java/lang/String", "checkIndex", "(II)V"⟩, prog_21_method_155_code, none),
  (⟨"jdk/internal/util/Preconditions", "checkIndex", "(IILjava/util/function/BiFunction;)I"⟩, prog_35_method_11_code, (some .int)),
  (⟨"BoundsPlanner$Node", "classOf", "(I)I"⟩, prog_9_method_4_code, (some .int)),
  (⟨"BoundsPlanner$Reader", "readParts", "(LBoundsPlanner$Node;II)V"⟩, prog_12_method_3_code, none),
  (⟨"BoundsPlanner$Reader", "readNumber", "(II)J"⟩, prog_12_method_7_code, (some .long)),
  (⟨"BoundsPlanner$Reader", "readPart", "(II)LBoundsPlanner$Node;"⟩, prog_12_method_4_code, (some (.object "BoundsPlanner$Node"))),
  (⟨"java/util/ArrayList", "add", "(Ljava/lang/Object;)Z"⟩, prog_27_method_25_code, (some .boolean)),
  (⟨"java/util/ArrayList", "add", "(Ljava/lang/Object;[Ljava/lang/Object;I)V"⟩, prog_27_method_24_code, none),
  (⟨"java/util/ArrayList", "grow", "()[Ljava/lang/Object;"⟩, prog_27_method_7_code, (some (.array (.object "java/lang/Object")))),
  (⟨"java/util/ArrayList", "grow", "(I)[Ljava/lang/Object;"⟩, prog_27_method_6_code, (some (.array (.object "java/lang/Object")))),
  (⟨"jdk/internal/util/ArraysSupport", "newLength", "(III)I"⟩, prog_34_method_27_code, (some .int)),
  (⟨"java/lang/Math", "max", "(II)I"⟩, prog_20_method_65_code, (some .int)),
  (⟨"java/util/Arrays", "copyOf", "([Ljava/lang/Object;I)[Ljava/lang/Object;"⟩, prog_28_method_119_code, (some (.array (.object "java/lang/Object")))),
  (⟨"java/util/Arrays", "copyOf", "([Ljava/lang/Object;ILjava/lang/Class;)[Ljava/lang/Object;"⟩, prog_28_method_120_code, (some (.array (.object "java/lang/Object")))),
  (⟨"BoundsPlanner$Reader", "readContent", "(LBoundsPlanner$Node;II)V"⟩, prog_12_method_5_code, none),
  (⟨"BoundsPlanner$Reader", "readText", "(LBoundsPlanner$Node;I)V"⟩, prog_12_method_6_code, none),
  (⟨"BoundsPlanner$Reader", "isNameDue", "(LBoundsPlanner$Node;LBoundsPlanner$Node;I)Z"⟩, prog_12_method_8_code, (some .boolean)),
  (⟨"BoundsPlanner$Node", "nameFrom", "()I"⟩, prog_9_method_3_code, (some .int)),
  (⟨"BoundsPlanner$Bytes", "isDecimal", "([BIII)Z"⟩, prog_3_method_6_code, (some .boolean)),
  (⟨"BoundsPlanner$Reader", "hasRightTexts", "()Z"⟩, prog_12_method_9_code, (some .boolean)),
  (⟨"java/util/ArrayList", "size", "()I"⟩, prog_27_method_8_code, (some .int)),
  (⟨"java/util/ArrayList", "get", "(I)Ljava/lang/Object;"⟩, prog_27_method_20_code, (some (.object "java/lang/Object"))),
  (⟨"java/util/Objects", "checkIndex", "(II)I"⟩, prog_31_method_17_code, (some .int)),
  (⟨"java/util/ArrayList", "elementData", "(I)Ljava/lang/Object;"⟩, prog_27_method_18_code, (some (.object "java/lang/Object"))),
  (⟨"BoundsPlanner$Checker", "<init>", "()V"⟩, prog_4_method_1_code, none),
  (⟨"BoundsPlanner$Checker", "faultOfFilter", "(LBoundsPlanner$Node;I)I"⟩, prog_4_method_2_code, (some .int)),
  (⟨"BoundsPlanner$Checker", "faultOfPath", "(LBoundsPlanner$Node;I)I"⟩, prog_4_method_4_code, (some .int)),
  (⟨"BoundsPlanner$Node", "isConditions", "()Z"⟩, prog_9_method_6_code, (some .boolean)),
  (⟨"BoundsPlanner$Checker", "faultOfCount", "(I)I"⟩, prog_4_method_8_code, (some .int)),
  (⟨"BoundsPlanner$Checker", "faultOfConditions", "(LBoundsPlanner$Node;I)I"⟩, prog_4_method_5_code, (some .int)),
  (⟨"BoundsPlanner$Checker", "faultOfCondition", "(LBoundsPlanner$Node;I)I"⟩, prog_4_method_6_code, (some .int)),
  (⟨"BoundsPlanner$Node", "joinsFilters", "()Z"⟩, prog_9_method_5_code, (some .boolean)),
  (⟨"BoundsPlanner$Checker", "hasRightValue", "(LBoundsPlanner$Node;)Z"⟩, prog_4_method_7_code, (some .boolean)),
  (⟨"BoundsPlanner$Node", "isConditionsOfItem", "()Z"⟩, prog_9_method_7_code, (some .boolean)),
  (⟨"BoundsPlanner$Checker", "faultOfJoin", "(LBoundsPlanner$Node;I)I"⟩, prog_4_method_3_code, (some .int)),
  (⟨"BoundsPlanner$Order", "number", "(Ljava/util/ArrayList;)V"⟩, prog_10_method_2_code, none),
  (⟨"BoundsPlanner$Order", "countNotGreater", "(Ljava/util/ArrayList;LBoundsPlanner$Node;)I"⟩, prog_10_method_3_code, (some .int)),
  (⟨"BoundsPlanner$Order", "compare", "(LBoundsPlanner$Node;LBoundsPlanner$Node;I)I"⟩, prog_10_method_4_code, (some .int)),
  (⟨"BoundsPlanner$Order", "compareParts", "(LBoundsPlanner$Node;LBoundsPlanner$Node;I)I"⟩, prog_10_method_5_code, (some .int)),
  (⟨"java/lang/Long", "compare", "(JJ)I"⟩, prog_19_method_42_code, (some .int)),
  (⟨"java/util/ArrayList", "add", "(ILjava/lang/Object;)V"⟩, prog_27_method_26_code, none),
  (⟨"java/util/ArrayList", "rangeCheckForAdd", "(I)V"⟩, prog_27_method_45_code, none),
  (⟨"BoundsPlanner$Filter", "<init>", "()V"⟩, prog_7_method_1_code, none),
  (⟨"BoundsPlanner$Filter", "gather", "(LBoundsPlanner$Node;I)V"⟩, prog_7_method_2_code, none),
  (⟨"BoundsPlanner$Bounds", "ofCondition", "(LBoundsPlanner$Node;I)Ljava/util/ArrayList;"⟩, prog_2_method_3_code, (some (.object "java/util/ArrayList"))),
  (⟨"BoundsPlanner$Bounds", "ofItems", "(LBoundsPlanner$Node;)Ljava/util/ArrayList;"⟩, prog_2_method_5_code, (some (.object "java/util/ArrayList"))),
  (⟨"BoundsPlanner$End", "<init>", "(LBoundsPlanner$Node;Z)V"⟩, prog_6_method_1_code, none),
  (⟨"BoundsPlanner$Filter", "addCondition", "(LBoundsPlanner$Node;LBoundsPlanner$Node;I)V"⟩, prog_7_method_3_code, none),
  (⟨"BoundsPlanner$Interval", "<init>", "(LBoundsPlanner$End;LBoundsPlanner$End;)V"⟩, prog_8_method_1_code, none),
  (⟨"BoundsPlanner$Bounds", "ofComparison", "(LBoundsPlanner$Node;I)Ljava/util/ArrayList;"⟩, prog_2_method_4_code, (some (.object "java/util/ArrayList"))),
  (⟨"BoundsPlanner$End", "<init>", "(IZ)V"⟩, prog_6_method_2_code, none),
  (⟨"BoundsPlanner$Bounds", "ofElem", "(LBoundsPlanner$Node;Ljava/util/ArrayList;)Ljava/util/ArrayList;"⟩, prog_2_method_2_code, (some (.object "java/util/ArrayList"))),
  (⟨"BoundsPlanner$Bounds", "meet", "(Ljava/util/ArrayList;Ljava/util/ArrayList;Ljava/util/ArrayList;)V"⟩, prog_2_method_7_code, none),
  (⟨"BoundsPlanner$Bounds", "copy", "(Ljava/util/ArrayList;Ljava/util/ArrayList;)V"⟩, prog_2_method_8_code, none),
  (⟨"java/util/ArrayList", "clear", "()V"⟩, prog_27_method_40_code, none),
  (⟨"BoundsPlanner$Interval", "meet", "(LBoundsPlanner$Interval;)LBoundsPlanner$Interval;"⟩, prog_8_method_2_code, (some (.object "BoundsPlanner$Interval"))),
  (⟨"BoundsPlanner$Bounds", "addRows", "(Ljava/util/ArrayList;)V"⟩, prog_2_method_6_code, none),
  (⟨"BoundsPlanner$Filter", "clauseOf", "([BII)LBoundsPlanner$Clause;"⟩, prog_7_method_4_code, (some (.object "BoundsPlanner$Clause"))),
  (⟨"BoundsPlanner", "value", "(I)I"⟩, prog_1_method_6_code, (some .int)),
  (⟨"BoundsPlanner", "many", "(II)I"⟩, prog_1_method_7_code, (some .int)),
  (⟨"BoundsPlanner$Path", "boundsBy", "(LBoundsPlanner$Filter;)Ljava/util/ArrayList;"⟩, prog_11_method_2_code, (some (.object "java/util/ArrayList"))),
  (⟨"BoundsPlanner$Filter", "boundsOf", "([BZ)Ljava/util/ArrayList;"⟩, prog_7_method_5_code, (some (.object "java/util/ArrayList"))),
  (⟨"BoundsPlanner", "end", "(IIIZI)I"⟩, prog_1_method_8_code, (some .int)),
  (⟨"BoundsPlanner", "inside", "(II)I"⟩, prog_1_method_9_code, (some .int)),
  (⟨"BoundsPlanner$Bounds", "hold", "(Ljava/util/ArrayList;LBoundsPlanner$Node;)Z"⟩, prog_2_method_10_code, (some .boolean)),
  (⟨"BoundsPlanner$Interval", "holds", "(LBoundsPlanner$Node;)Z"⟩, prog_8_method_4_code, (some .boolean)),
  (⟨"BoundsPlanner", "rank", "(I)I"⟩, prog_1_method_10_code, (some .int)),
  (⟨"BoundsPlanner", "rankOf", "(ILBoundsPlanner$Filter;)I"⟩, prog_1_method_16_code, (some .int)),
  (⟨"BoundsPlanner$Bounds", "arePoints", "(Ljava/util/ArrayList;)Z"⟩, prog_2_method_9_code, (some .boolean)),
  (⟨"BoundsPlanner$Interval", "isPoint", "()Z"⟩, prog_8_method_3_code, (some .boolean)),
  (⟨"BoundsPlanner", "ranges", "(I)I"⟩, prog_1_method_11_code, (some .int)),
  (⟨"BoundsPlanner", "rangesOf", "(II)I"⟩, prog_1_method_17_code, (some .int)),
  (⟨"BoundsPlanner", "choose", "()I"⟩, prog_1_method_12_code, (some .int)),
  (⟨"BoundsPlannerModel", "<init>", "()V"⟩, prog_14_method_1_code, none),
  (⟨"BoundsPlannerModel", "feed", "(IIIII)I"⟩, prog_14_method_6_code, (some .int)),
  (⟨"BoundsPlannerModel", "put", "(I)V"⟩, prog_14_method_5_code, none),
  (⟨"BoundsPlannerModel", "index", "(IIII)I"⟩, prog_14_method_20_code, (some .int)),
  (⟨"BoundsPlannerModel", "isPath", "(II)Z"⟩, prog_14_method_19_code, (some .boolean)),
  (⟨"BoundsPlannerModel", "isText", "(II)Z"⟩, prog_14_method_8_code, (some .boolean)),
  (⟨"BoundsPlannerModel", "character", "(II)I"⟩, prog_14_method_7_code, (some .int)),
  (⟨"BoundsPlannerModel", "at", "(I)I"⟩, prog_14_method_3_code, (some .int)),
  (⟨"BoundsPlannerModel", "drop", "(I)Z"⟩, prog_14_method_21_code, (some .boolean)),
  (⟨"BoundsPlannerModel", "filter", "(I)I"⟩, prog_14_method_33_code, (some .int)),
  (⟨"BoundsPlannerModel", "isDocument", "(I)Z"⟩, prog_14_method_18_code, (some .boolean)),
  (⟨"BoundsPlannerModel", "whole", "(I)I"⟩, prog_14_method_4_code, (some .int)),
  (⟨"BoundsPlannerModel", "isBox", "(IIIZ)Z"⟩, prog_14_method_15_code, (some .boolean)),
  (⟨"BoundsPlannerModel", "isName", "(IIIZI)Z"⟩, prog_14_method_16_code, (some .boolean)),
  (⟨"BoundsPlannerModel", "isAlike", "(II)Z"⟩, prog_14_method_14_code, (some .boolean)),
  (⟨"BoundsPlannerModel", "next", "(I)I"⟩, prog_14_method_12_code, (some .int)),
  (⟨"BoundsPlannerModel", "valueOf", "(I)I"⟩, prog_14_method_11_code, (some .int)),
  (⟨"BoundsPlannerModel", "nameEnd", "(I)I"⟩, prog_14_method_10_code, (some .int)),
  (⟨"BoundsPlannerModel", "behind", "(II)I"⟩, prog_14_method_9_code, (some .int)),
  (⟨"BoundsPlannerModel", "isValue", "(IIII)Z"⟩, prog_14_method_17_code, (some .boolean)),
  (⟨"BoundsPlannerModel", "lookFilter", "(I)V"⟩, prog_14_method_29_code, none),
  (⟨"BoundsPlannerModel", "last", "(I)I"⟩, prog_14_method_13_code, (some .int)),
  (⟨"BoundsPlannerModel", "lookJoin", "(I)V"⟩, prog_14_method_30_code, none),
  (⟨"BoundsPlannerModel", "isJoin", "(I)Z"⟩, prog_14_method_23_code, (some .boolean)),
  (⟨"BoundsPlannerModel", "isNamed", "(IJ)Z"⟩, prog_14_method_22_code, (some .boolean)),
  (⟨"BoundsPlannerModel", "fails", "(I)V"⟩, prog_14_method_27_code, none),
  (⟨"BoundsPlannerModel", "counts", "(I)V"⟩, prog_14_method_28_code, none),
  (⟨"BoundsPlannerModel", "lookPath", "(I)V"⟩, prog_14_method_31_code, none),
  (⟨"BoundsPlannerModel", "isConditions", "(I)Z"⟩, prog_14_method_25_code, (some .boolean)),
  (⟨"BoundsPlannerModel", "lookConditions", "(I)V"⟩, prog_14_method_32_code, none),
  (⟨"BoundsPlannerModel", "numberOf", "(I)I"⟩, prog_14_method_24_code, (some .int)),
  (⟨"BoundsPlannerModel", "longAt", "(II)J"⟩, prog_14_method_36_code, (some .long)),
  (⟨"BoundsPlannerModel", "isOfItems", "(I)Z"⟩, prog_14_method_26_code, (some .boolean)),
  (⟨"BoundsPlannerModel", "value", "(I)I"⟩, prog_14_method_34_code, (some .int)),
  (⟨"BoundsPlannerModel", "many", "(II)I"⟩, prog_14_method_59_code, (some .int)),
  (⟨"BoundsPlannerModel", "isPathOf", "(II)Z"⟩, prog_14_method_58_code, (some .boolean)),
  (⟨"BoundsPlannerModel", "find", "(II)Z"⟩, prog_14_method_53_code, (some .boolean)),
  (⟨"BoundsPlannerModel", "collect", "(III)V"⟩, prog_14_method_50_code, none),
  (⟨"BoundsPlannerModel", "isPathName", "(III)Z"⟩, prog_14_method_49_code, (some .boolean)),
  (⟨"BoundsPlannerModel", "add", "(II)V"⟩, prog_14_method_51_code, none),
  (⟨"BoundsPlannerModel", "findOne", "()Z"⟩, prog_14_method_54_code, (some .boolean)),
  (⟨"BoundsPlannerModel", "bounds", "(IIII)Z"⟩, prog_14_method_52_code, (some .boolean)),
  (⟨"BoundsPlannerModel", "writeElem", "(IIII)Z"⟩, prog_14_method_48_code, (some .boolean)),
  (⟨"BoundsPlannerModel", "writeBounds", "(III)Z"⟩, prog_14_method_45_code, (some .boolean)),
  (⟨"BoundsPlannerModel", "writeItems", "(II)Z"⟩, prog_14_method_44_code, (some .boolean)),
  (⟨"BoundsPlannerModel", "field", "(III)I"⟩, prog_14_method_40_code, (some .int)),
  (⟨"BoundsPlannerModel", "order", "(II)I"⟩, prog_14_method_38_code, (some .int)),
  (⟨"BoundsPlannerModel", "classOf", "(I)I"⟩, prog_14_method_35_code, (some .int)),
  (⟨"BoundsPlannerModel", "bytes", "(IIII)I"⟩, prog_14_method_37_code, (some .int)),
  (⟨"BoundsPlannerModel", "boxes", "(IIZ)I"⟩, prog_14_method_39_code, (some .int)),
  (⟨"BoundsPlannerModel", "writeValue", "(II)V"⟩, prog_14_method_42_code, none),
  (⟨"BoundsPlannerModel", "write", "(IIIIIIIII)V"⟩, prog_14_method_41_code, none),
  (⟨"BoundsPlannerModel", "meet", "(III)V"⟩, prog_14_method_46_code, none),
  (⟨"BoundsPlannerModel", "standing", "(IIIIII)I"⟩, prog_14_method_43_code, (some .int)),
  (⟨"BoundsPlannerModel", "copy", "(II)V"⟩, prog_14_method_47_code, none),
  (⟨"BoundsPlannerModel", "findAll", "()Z"⟩, prog_14_method_55_code, (some .boolean)),
  (⟨"BoundsPlannerModel", "save", "()V"⟩, prog_14_method_56_code, none),
  (⟨"BoundsPlannerModel", "load", "()V"⟩, prog_14_method_57_code, none),
  (⟨"BoundsPlannerModel", "end", "(IIIZI)I"⟩, prog_14_method_60_code, (some .int)),
  (⟨"BoundsPlannerModel", "inside", "(II)I"⟩, prog_14_method_61_code, (some .int)),
  (⟨"BoundsPlannerModel", "rank", "(I)I"⟩, prog_14_method_63_code, (some .int)),
  (⟨"BoundsPlannerModel", "isPoints", "()Z"⟩, prog_14_method_62_code, (some .boolean)),
  (⟨"BoundsPlannerModel", "ranges", "(I)I"⟩, prog_14_method_64_code, (some .int)),
  (⟨"BoundsPlannerModel", "choose", "()I"⟩, prog_14_method_65_code, (some .int)),
  (⟨"BoundsPlanner$Clause", "<init>", "(LBoundsPlanner$Node;)V"⟩, prog_5_method_1_code, none),
  (⟨"BoundsPlanner$Clause", "add", "(Ljava/util/ArrayList;ZLjava/util/ArrayList;)V"⟩, prog_5_method_2_code, none),
  (⟨"BoundsPlannerLaw", "law", "([I)Z"⟩, code, some .boolean)]
def mm_inf (m : Nat) : MethodName × ByteArray × Option FieldType := mm_infs.getD m (⟨"", "", ""⟩, ⟨#[]⟩, none)
def mm_y (m : Nat) : MethodName := (mm_inf m).1
def mm_by (m : Nat) : ByteArray := (mm_inf m).2.1
def mm_re (m : Nat) : Option FieldType := (mm_inf m).2.2
def mm_own (m : Nat) : String := (mm_y m).cls
def mm_cps : List Nat := [108, 134, 138, 142, 145, 148, 151, 154, 167, 170, 173, 176, 183, 187, 190, 194, 198, 220, 224, 228, 234, 237, 243, 246, 249, 282, 287, 291, 296, 300, 304, 310, 314, 317, 320, 325, 361, 438, 442, 447, 451, 455, 459, 463, 466, 469, 476, 494, 503, 507, 511, 515, 518, 523, 527, 531, 534, 539, 545, 554, 558, 564, 568, 572, 576, 580, 583, 587, 594, 597, 605, 608, 613, 617, 621, 625, 631, 645, 658, 661, 668, 651, 702, 717, 721, 654, 724, 727, 731, 735, 740, 746, 784, 788, 792, 796, 801, 807, 810, 814, 819, 823, 826, 830, 834, 838, 843, 848, 909, 913, 917, 921, 925, 929, 933, 941, 945, 949, 953, 959, 963, 967, 971, 975, 979, 983, 987, 991, 995, 999, 1003, 1008, 1015, 1019, 1023, 1027, 1031, 1035, 1051, 1057, 1061, 1065, 1069, 1073, 1077, 1081, 1085, 1089, 1093, 1097, 1101, 1105, 1109, 1113, 1116, 1120, 1124, 1128, 1132, 1136, 1140, 1144, 1148, 1152, 1156, 1160, 1164, 1168, 1172, 1176, 1182, 754, 778]
def mF_0 : u_T := fun k => match k with
  | 0 => ("BoundsPlanner", "tape", "[B", true)
  | 1 => ("BoundsPlanner", "paths", "[LBoundsPlanner$Path;", true)
  | 2 => ("BoundsPlanner", "taped", "I", false)
  | 3 => ("BoundsPlanner", "planned", "LBoundsPlanner$Filter;", false)
  | _ => ("BoundsPlanner", "held", "LBoundsPlanner$Node;", false)
def mt_0 : Nat → FieldType := fun k => match k with
  | 0 => (.array .byte)
  | 1 => (.array (.object "BoundsPlanner$Path"))
  | 2 => .int
  | 3 => (.object "BoundsPlanner$Filter")
  | _ => (.object "BoundsPlanner$Node")
def mF_1 : u_T := fun k => match k with
  | 0 => ("BoundsPlanner$Path", "down", "Z", true)
  | 1 => ("BoundsPlanner$Path", "name", "[B", true)
  | 2 => ("BoundsPlanner$Path", "manyKeyed", "Z", true)
  | 3 => ("BoundsPlanner$Path", "seen", "LBoundsPlanner$Filter;", false)
  | _ => ("BoundsPlanner$Path", "kept", "Ljava/util/ArrayList;", false)
def mt_1 : Nat → FieldType := fun k => match k with
  | 0 => .boolean
  | 1 => (.array .byte)
  | 2 => .boolean
  | 3 => (.object "BoundsPlanner$Filter")
  | _ => (.object "java/util/ArrayList")
def mF_2 : u_T := fun k => match k with
  | 0 => ("BoundsPlanner$Reader", "nodes", "Ljava/util/ArrayList;", true)
  | 1 => ("BoundsPlanner$Reader", "row", "[B", true)
  | 2 => ("BoundsPlanner$Reader", "at", "I", false)
  | _ => ("BoundsPlanner$Reader", "wrong", "Z", false)
def mt_2 : Nat → FieldType := fun k => match k with
  | 0 => (.object "java/util/ArrayList")
  | 1 => (.array .byte)
  | 2 => .int
  | _ => .boolean
def mF_3 : u_T := fun k => match k with
  | 0 => ("java/util/ArrayList", "elementData", "[Ljava/lang/Object;", false)
  | 1 => ("java/util/ArrayList", "size", "I", false)
  | _ => ("java/util/AbstractList", "modCount", "I", false)
def mt_3 : Nat → FieldType := fun k => match k with
  | 0 => (.array (.object "java/lang/Object"))
  | 1 => .int
  | _ => .int
def mF_4 : u_T := fun k => match k with
  | 0 => ("BoundsPlanner$Node", "row", "[B", true)
  | 1 => ("BoundsPlanner$Node", "kind", "I", true)
  | 2 => ("BoundsPlanner$Node", "place", "I", true)
  | 3 => ("BoundsPlanner$Node", "nameEnd", "I", true)
  | 4 => ("BoundsPlanner$Node", "word", "I", true)
  | 5 => ("BoundsPlanner$Node", "ofClass", "I", true)
  | 6 => ("BoundsPlanner$Node", "textFrom", "I", false)
  | 7 => ("BoundsPlanner$Node", "textTo", "I", false)
  | 8 => ("BoundsPlanner$Node", "number", "J", false)
  | 9 => ("BoundsPlanner$Node", "first", "LBoundsPlanner$Node;", false)
  | 10 => ("BoundsPlanner$Node", "next", "LBoundsPlanner$Node;", false)
  | _ => ("BoundsPlanner$Node", "order", "I", false)
def mt_4 : Nat → FieldType := fun k => match k with
  | 0 => (.array .byte)
  | 1 => .int
  | 2 => .int
  | 3 => .int
  | 4 => .int
  | 5 => .int
  | 6 => .int
  | 7 => .int
  | 8 => .long
  | 9 => (.object "BoundsPlanner$Node")
  | 10 => (.object "BoundsPlanner$Node")
  | _ => .int
def mF_5 : u_T := fun k => match k with
  | _ => ("BoundsPlanner$Checker", "counted", "I", false)
def mt_5 : Nat → FieldType := fun k => match k with
  | _ => .int
def mF_6 : u_T := fun k => match k with
  | 0 => ("BoundsPlanner$End", "ofClass", "I", true)
  | 1 => ("BoundsPlanner$End", "node", "LBoundsPlanner$Node;", true)
  | 2 => ("BoundsPlanner$End", "in", "Z", true)
  | 3 => ("BoundsPlanner$End", "asLow", "I", true)
  | _ => ("BoundsPlanner$End", "asHigh", "I", true)
def mt_6 : Nat → FieldType := fun k => match k with
  | 0 => .int
  | 1 => (.object "BoundsPlanner$Node")
  | 2 => .boolean
  | 3 => .int
  | _ => .int
def mF_7 : u_T := fun k => match k with
  | 0 => ("BoundsPlanner$Interval", "low", "LBoundsPlanner$End;", true)
  | _ => ("BoundsPlanner$Interval", "high", "LBoundsPlanner$End;", true)
def mt_7 : Nat → FieldType := fun k => match k with
  | 0 => (.object "BoundsPlanner$End")
  | _ => (.object "BoundsPlanner$End")
def mF_8 : u_T := fun k => match k with
  | 0 => ("BoundsPlanner$Clause", "element", "LBoundsPlanner$Node;", true)
  | 1 => ("BoundsPlanner$Clause", "all", "Ljava/util/ArrayList;", true)
  | 2 => ("BoundsPlanner$Clause", "one", "Ljava/util/ArrayList;", false)
  | _ => ("BoundsPlanner$Clause", "exact", "Z", false)
def mt_8 : Nat → FieldType := fun k => match k with
  | 0 => (.object "BoundsPlanner$Node")
  | 1 => (.object "java/util/ArrayList")
  | 2 => (.object "java/util/ArrayList")
  | _ => .boolean
def mF_9 : u_T := fun k => match k with
  | 0 => ("BoundsPlanner$Filter", "clauses", "Ljava/util/ArrayList;", true)
  | _ => ("BoundsPlanner$Filter", "spare", "Ljava/util/ArrayList;", true)
def mt_9 : Nat → FieldType := fun k => match k with
  | 0 => (.object "java/util/ArrayList")
  | _ => (.object "java/util/ArrayList")
def mF_10 : u_T := fun k => match k with
  | 0 => ("BoundsPlannerModel", "thrown", "I", false)
  | 1 => ("BoundsPlannerModel", "store", "[B", true)
  | 2 => ("BoundsPlannerModel", "taped", "I", false)
  | 3 => ("BoundsPlannerModel", "hasFilter", "Z", false)
  | 4 => ("BoundsPlannerModel", "hasValue", "Z", false)
  | 5 => ("BoundsPlannerModel", "there", "[Z", true)
  | 6 => ("BoundsPlannerModel", "firstSize", "[I", true)
  | 7 => ("BoundsPlannerModel", "secondSize", "[I", true)
  | 8 => ("BoundsPlannerModel", "hows", "[I", true)
  | 9 => ("BoundsPlannerModel", "counted", "I", false)
  | 10 => ("BoundsPlannerModel", "fault", "I", false)
  | 11 => ("BoundsPlannerModel", "conditions", "I", false)
  | 12 => ("BoundsPlannerModel", "number", "[I", true)
  | 13 => ("BoundsPlannerModel", "element", "[I", true)
  | 14 => ("BoundsPlannerModel", "counts", "[I", true)
  | 15 => ("BoundsPlannerModel", "sets", "[I", true)
  | 16 => ("BoundsPlannerModel", "saved", "I", false)
  | _ => ("BoundsPlannerModel", "waiting", "[I", true)
def mt_10 : Nat → FieldType := fun k => match k with
  | 0 => .int
  | 1 => (.array .byte)
  | 2 => .int
  | 3 => .boolean
  | 4 => .boolean
  | 5 => (.array .boolean)
  | 6 => (.array .int)
  | 7 => (.array .int)
  | 8 => (.array .int)
  | 9 => .int
  | 10 => .int
  | 11 => .int
  | 12 => (.array .int)
  | 13 => (.array .int)
  | 14 => (.array .int)
  | 15 => (.array .int)
  | 16 => .int
  | _ => (.array .int)
def mm_cls : List vw_C := [("BoundsPlanner", mF_0, 5), ("BoundsPlanner$Path", mF_1, 5), ("BoundsPlanner$Reader", mF_2, 4), ("java/util/ArrayList", mF_3, 3), ("BoundsPlanner$Node", mF_4, 12), ("BoundsPlanner$Checker", mF_5, 1), ("BoundsPlanner$End", mF_6, 5), ("BoundsPlanner$Interval", mF_7, 2), ("BoundsPlanner$Clause", mF_8, 4), ("BoundsPlanner$Filter", mF_9, 2), ("BoundsPlannerModel", mF_10, 18)]
def mm_fts : List (Nat → FieldType) := [mt_0, mt_1, mt_2, mt_3, mt_4, mt_5, mt_6, mt_7, mt_8, mt_9, mt_10]
/-- the kinds of arrays: byte, int, boolean, Object, Path -/
def mm_aty (t : Nat) : FieldType := match t with
  | 0 => .byte
  | 1 => .int
  | 2 => .boolean
  | 3 => .object "java/lang/Object"
  | _ => .object "BoundsPlanner$Path"
def mm_sts : List (String × Nat × String) := [("BoundsPlanner$Node", 43, "$and"), ("BoundsPlanner$Node", 49, "$or"), ("BoundsPlanner$Node", 51, "$nor"), ("BoundsPlanner$Node", 53, "$eq"), ("BoundsPlanner$Node", 55, "$ne"), ("BoundsPlanner$Node", 57, "$in"), ("BoundsPlanner$Node", 59, "$nin"), ("BoundsPlanner$Node", 61, "$lt"), ("BoundsPlanner$Node", 63, "$lte"), ("BoundsPlanner$Node", 65, "$gt"), ("BoundsPlanner$Node", 67, "$gte"), ("BoundsPlanner$Node", 69, "$exists"), ("BoundsPlanner$Node", 71, "$size"), ("BoundsPlanner$Node", 73, "$elem"), ("BoundsPlanner$Node", 75, "$not")]
def mm_iss : List Bool := [false, false, false, false, true, true, true, true, true, true, true, true, true, true, true, true, false, false, false, false, false, false, false, false, false, false, false, true, true, false, false, false, false, true, true, true, true, false, false, false, false, false, false, false, true, true, true, true, false, false, false, false, true, false, false, false, true, false, false, false, false, false, false, false, false, false, true, false, false, true, true, true, true, true, false, false, false, false, true, true, false, false, false, true, false, true, true, true, false, false, true, false, false, false, false, false, false, false, true, false, false, false, true, false, false, false, false, false, false, false, false, false, false, false, false, false, false, false, false, false, false, false, false, false, false, false, false, false, false, false, false, false, false, false, false, false, false, false, false, false, false, false, false, false, false, false, false, false, false, false, false, false, false, false, true, false, false, false, false, false, false, false, false, false, false, false, false, false, false, false, false, false, false]
def mm_ips : List Nat := [107, 132, 137, 140, 144, 147, 150, 153, 166, 169, 172, 175, 182, 186, 189, 193, 197, 218, 223, 226, 233, 236, 242, 245, 248, 280, 286, 290, 295, 298, 302, 308, 312, 316, 319, 324, 360, 437, 441, 446, 449, 454, 458, 462, 465, 468, 475, 493, 502, 506, 510, 513, 517, 522, 525, 529, 533, 537, 544, 553, 557, 562, 567, 571, 575, 578, 582, 585, 593, 596, 604, 607, 612, 616, 619, 624, 630, 644, 657, 660, 667, 650, 701, 716, 720, 653, 723, 726, 729, 733, 739, 745, 782, 786, 790, 794, 799, 805, 809, 812, 817, 822, 825, 828, 832, 837, 841, 847, 907, 912, 915, 920, 924, 928, 932, 939, 943, 948, 952, 958, 962, 966, 970, 974, 978, 982, 986, 990, 994, 998, 1002, 1007, 1014, 1018, 1022, 1026, 1030, 1034, 1050, 1056, 1059, 1063, 1068, 1072, 1076, 1080, 1084, 1088, 1092, 1096, 1100, 1104, 1108, 1112, 1115, 1119, 1123, 1127, 1131, 1135, 1139, 1143, 1147, 1151, 1155, 1158, 1162, 1166, 1171, 1174, 1180, 753, 776]
def mm_sps : List Nat := [0, 133, 0, 141, 0, 0, 0, 0, 0, 0, 0, 0, 0, 0, 0, 0, 0, 219, 1, 227, 2, 0, 0, 0, 0, 281, 0, 0, 0, 299, 303, 309, 313, 0, 0, 0, 0, 3, 4, 5, 450, 6, 7, 8, 0, 0, 0, 0, 9, 10, 11, 514, 0, 12, 526, 530, 0, 538, 0, 13, 14, 563, 15, 16, 17, 579, 0, 586, 18, 0, 0, 0, 0, 0, 620, 19, 0, 20, 0, 0, 0, 21, 0, 0, 0, 0, 0, 0, 730, 734, 0, 22, 783, 787, 791, 795, 800, 806, 0, 813, 818, 23, 0, 829, 833, 24, 842, 0, 908, 25, 916, 26, 27, 28, 29, 940, 944, 30, 31, 32, 33, 34, 35, 36, 37, 38, 39, 40, 41, 42, 43, 44, 45, 46, 47, 48, 49, 50, 51, 52, 1060, 1064, 53, 54, 55, 56, 57, 58, 59, 60, 61, 62, 63, 64, 0, 65, 66, 67, 68, 69, 70, 71, 72, 73, 74, 1159, 1163, 1167, 75, 1175, 1181, 0, 777]
def mm_nis : List Nat := [77, 77, 77, 77, 79, 79, 79, 80, 82, 83, 83, 83, 82, 83, 83, 84, 82, 77, 77, 77, 77, 85, 88, 87, 86, 85, 89, 89, 83, 90, 90, 90, 90, 91, 90, 92, 89, 85, 85, 85, 88, 88, 88, 88, 94, 80, 79, 79, 85, 85, 85, 89, 83, 85, 88, 88, 95, 88, 96, 96, 96, 89, 96, 96, 96, 89, 96, 89, 96, 97, 97, 97, 97, 98, 88, 88, 99, 99, 100, 100, 101, 99, 102, 100, 101, 100, 100, 100, 88, 102, 100, 99, 77, 77, 82, 99, 77, 77, 100, 102, 77, 77, 100, 102, 77, 77, 77, 78, 78, 78, 78, 78, 78, 78, 78, 78, 78, 78, 78, 78, 78, 78, 78, 78, 78, 78, 78, 78, 78, 78, 78, 78, 78, 78, 78, 78, 78, 78, 78, 78, 78, 78, 78, 78, 78, 78, 78, 78, 78, 78, 78, 78, 78, 78, 78, 78, 78, 78, 78, 78, 78, 78, 78, 78, 78, 78, 78, 78, 78, 78, 78, 103, 103]
def mm_cns : List (Nat × Nat) := [(105, 77), (195, 82), (230, 85), (240, 88), (284, 89), (542, 96), (665, 101), (699, 102), (751, 103), (628, 99), (845, 78)]
