-- names of the methods (by tools/names.py)
abbrev k_W_init : ByteArray := prog_1_method_1_code
def y_W_init : MethodName := ⟨"WordShapes", "<init>", "(III)V"⟩
abbrev k_W_feed : ByteArray := prog_1_method_2_code
def y_W_feed : MethodName := ⟨"WordShapes", "feed", "(IIIII)I"⟩
abbrev k_W_end : ByteArray := prog_1_method_3_code
def y_W_end : MethodName := ⟨"WordShapes", "end", "(I)I"⟩
abbrev k_W_read : ByteArray := prog_1_method_4_code
def y_W_read : MethodName := ⟨"WordShapes", "read", "(I)I"⟩
abbrev k_W_fault : ByteArray := prog_1_method_5_code
def y_W_fault : MethodName := ⟨"WordShapes", "fault", "(I)I"⟩
abbrev k_W_write : ByteArray := prog_1_method_6_code
def y_W_write : MethodName := ⟨"WordShapes", "write", "(I)I"⟩
abbrev k_W_again : ByteArray := prog_1_method_7_code
def y_W_again : MethodName := ⟨"WordShapes", "again", "()I"⟩
abbrev k_W_same : ByteArray := prog_1_method_8_code
def y_W_same : MethodName := ⟨"WordShapes", "same", "(II)Z"⟩
abbrev k_W_plan : ByteArray := prog_1_method_9_code
def y_W_plan : MethodName := ⟨"WordShapes", "plan", "(II)I"⟩
abbrev k_W_ordinate : ByteArray := prog_1_method_10_code
def y_W_ordinate : MethodName := ⟨"WordShapes", "ordinate", "(III)I"⟩
abbrev k_W_byteAt : ByteArray := prog_1_method_11_code
def y_W_byteAt : MethodName := ⟨"WordShapes", "byteAt", "(I)I"⟩
abbrev k_W_count : ByteArray := prog_1_method_12_code
def y_W_count : MethodName := ⟨"WordShapes", "count", "(II)I"⟩
abbrev k_W_shapeIn : ByteArray := prog_1_method_13_code
def y_W_shapeIn : MethodName := ⟨"WordShapes", "shapeIn", "(I)LWordShapes$Shape;"⟩
abbrev k_W_feedFour : ByteArray := prog_1_method_14_code
def y_W_feedFour : MethodName := ⟨"WordShapes", "feedFour", "(I)V"⟩
abbrev k_W_wordOf : ByteArray := prog_1_method_15_code
def y_W_wordOf : MethodName := ⟨"WordShapes", "wordOf", "(I)Ljava/lang/String;"⟩
abbrev k_M_init : ByteArray := prog_7_method_1_code
def y_M_init : MethodName := ⟨"WordShapesModel", "<init>", "(III)V"⟩
abbrev k_M_thrown : ByteArray := prog_7_method_2_code
def y_M_thrown : MethodName := ⟨"WordShapesModel", "thrown", "()I"⟩
abbrev k_M_fail : ByteArray := prog_7_method_3_code
def y_M_fail : MethodName := ⟨"WordShapesModel", "fail", "(I)I"⟩
abbrev k_M_within : ByteArray := prog_7_method_4_code
def y_M_within : MethodName := ⟨"WordShapesModel", "within", "(III)Z"⟩
abbrev k_M_isSlot : ByteArray := prog_7_method_5_code
def y_M_isSlot : MethodName := ⟨"WordShapesModel", "isSlot", "(I)Z"⟩
abbrev k_M_feed : ByteArray := prog_7_method_6_code
def y_M_feed : MethodName := ⟨"WordShapesModel", "feed", "(IIIII)I"⟩
abbrev k_M_end : ByteArray := prog_7_method_7_code
def y_M_end : MethodName := ⟨"WordShapesModel", "end", "(I)I"⟩
abbrev k_M_isBlank : ByteArray := prog_7_method_8_code
def y_M_isBlank : MethodName := ⟨"WordShapesModel", "isBlank", "(I)Z"⟩
abbrev k_M_isLetter : ByteArray := prog_7_method_9_code
def y_M_isLetter : MethodName := ⟨"WordShapesModel", "isLetter", "(I)Z"⟩
abbrev k_M_isDigit : ByteArray := prog_7_method_10_code
def y_M_isDigit : MethodName := ⟨"WordShapesModel", "isDigit", "(I)Z"⟩
abbrev k_M_isSign : ByteArray := prog_7_method_11_code
def y_M_isSign : MethodName := ⟨"WordShapesModel", "isSign", "(I)Z"⟩
abbrev k_M_isKnown : ByteArray := prog_7_method_12_code
def y_M_isKnown : MethodName := ⟨"WordShapesModel", "isKnown", "(I)Z"⟩
abbrev k_M_here : ByteArray := prog_7_method_13_code
def y_M_here : MethodName := ⟨"WordShapesModel", "here", "()I"⟩
abbrev k_M_pass : ByteArray := prog_7_method_14_code
def y_M_pass : MethodName := ⟨"WordShapesModel", "pass", "()V"⟩
abbrev k_M_wrong : ByteArray := prog_7_method_15_code
def y_M_wrong : MethodName := ⟨"WordShapesModel", "wrong", "(II)Z"⟩
abbrev k_M_unexpected : ByteArray := prog_7_method_16_code
def y_M_unexpected : MethodName := ⟨"WordShapesModel", "unexpected", "()Z"⟩
abbrev k_M_word : ByteArray := prog_7_method_17_code
def y_M_word : MethodName := ⟨"WordShapesModel", "word", "()I"⟩
abbrev k_M_must : ByteArray := prog_7_method_18_code
def y_M_must : MethodName := ⟨"WordShapesModel", "must", "(I)Z"⟩
abbrev k_M_goesOn : ByteArray := prog_7_method_19_code
def y_M_goesOn : MethodName := ⟨"WordShapesModel", "goesOn", "()I"⟩
abbrev k_M_digitsFrom : ByteArray := prog_7_method_20_code
def y_M_digitsFrom : MethodName := ⟨"WordShapesModel", "digitsFrom", "()I"⟩
abbrev k_M_number : ByteArray := prog_7_method_21_code
def y_M_number : MethodName := ⟨"WordShapesModel", "number", "()Z"⟩
abbrev k_M_rounded : ByteArray := prog_7_method_22_code
def y_M_rounded : MethodName := ⟨"WordShapesModel", "rounded", "(IIJ)J"⟩
abbrev k_M_room : ByteArray := prog_7_method_23_code
def y_M_room : MethodName := ⟨"WordShapesModel", "room", "(II)Z"⟩
abbrev k_M_say : ByteArray := prog_7_method_24_code
def y_M_say : MethodName := ⟨"WordShapesModel", "say", "(I)V"⟩
abbrev k_M_open : ByteArray := prog_7_method_25_code
def y_M_open : MethodName := ⟨"WordShapesModel", "open", "(I)I"⟩
abbrev k_M_close : ByteArray := prog_7_method_26_code
def y_M_close : MethodName := ⟨"WordShapesModel", "close", "(II)V"⟩
abbrev k_M_coordinate : ByteArray := prog_7_method_27_code
def y_M_coordinate : MethodName := ⟨"WordShapesModel", "coordinate", "()Z"⟩
abbrev k_M_coordinates : ByteArray := prog_7_method_28_code
def y_M_coordinates : MethodName := ⟨"WordShapesModel", "coordinates", "()I"⟩
abbrev k_M_rings : ByteArray := prog_7_method_29_code
def y_M_rings : MethodName := ⟨"WordShapesModel", "rings", "()I"⟩
abbrev k_M_simple : ByteArray := prog_7_method_30_code
def y_M_simple : MethodName := ⟨"WordShapesModel", "simple", "(I)I"⟩
abbrev k_M_looked : ByteArray := prog_7_method_31_code
def y_M_looked : MethodName := ⟨"WordShapesModel", "looked", "(Z)I"⟩
abbrev k_M_parts : ByteArray := prog_7_method_32_code
def y_M_parts : MethodName := ⟨"WordShapesModel", "parts", "(I)I"⟩
abbrev k_M_shape : ByteArray := prog_7_method_33_code
def y_M_shape : MethodName := ⟨"WordShapesModel", "shape", "(I)I"⟩
abbrev k_M_readAll : ByteArray := prog_7_method_34_code
def y_M_readAll : MethodName := ⟨"WordShapesModel", "readAll", "()Z"⟩
abbrev k_M_read : ByteArray := prog_7_method_35_code
def y_M_read : MethodName := ⟨"WordShapesModel", "read", "(I)I"⟩
abbrev k_M_fault : ByteArray := prog_7_method_36_code
def y_M_fault : MethodName := ⟨"WordShapesModel", "fault", "(I)I"⟩
abbrev k_M_put : ByteArray := prog_7_method_37_code
def y_M_put : MethodName := ⟨"WordShapesModel", "put", "(I)V"⟩
abbrev k_M_putWord : ByteArray := prog_7_method_38_code
def y_M_putWord : MethodName := ⟨"WordShapesModel", "putWord", "(I)V"⟩
abbrev k_M_ten : ByteArray := prog_7_method_39_code
def y_M_ten : MethodName := ⟨"WordShapesModel", "ten", "(I)I"⟩
abbrev k_M_putNumber : ByteArray := prog_7_method_40_code
def y_M_putNumber : MethodName := ⟨"WordShapesModel", "putNumber", "(I)V"⟩
abbrev k_M_putBetween : ByteArray := prog_7_method_41_code
def y_M_putBetween : MethodName := ⟨"WordShapesModel", "putBetween", "()V"⟩
abbrev k_M_putPoints : ByteArray := prog_7_method_42_code
def y_M_putPoints : MethodName := ⟨"WordShapesModel", "putPoints", "(III)V"⟩
abbrev k_M_putAll : ByteArray := prog_7_method_43_code
def y_M_putAll : MethodName := ⟨"WordShapesModel", "putAll", "(I)V"⟩
abbrev k_M_write : ByteArray := prog_7_method_44_code
def y_M_write : MethodName := ⟨"WordShapesModel", "write", "(I)I"⟩
abbrev k_M_again : ByteArray := prog_7_method_45_code
def y_M_again : MethodName := ⟨"WordShapesModel", "again", "()I"⟩
abbrev k_M_same : ByteArray := prog_7_method_46_code
def y_M_same : MethodName := ⟨"WordShapesModel", "same", "(II)Z"⟩
abbrev k_M_plan : ByteArray := prog_7_method_47_code
def y_M_plan : MethodName := ⟨"WordShapesModel", "plan", "(II)I"⟩
abbrev k_M_ordinate : ByteArray := prog_7_method_48_code
def y_M_ordinate : MethodName := ⟨"WordShapesModel", "ordinate", "(III)I"⟩
abbrev k_M_byteAt : ByteArray := prog_7_method_49_code
def y_M_byteAt : MethodName := ⟨"WordShapesModel", "byteAt", "(I)I"⟩
abbrev k_M_count : ByteArray := prog_7_method_50_code
def y_M_count : MethodName := ⟨"WordShapesModel", "count", "(II)I"⟩
abbrev k_B_init : ByteArray := prog_2_method_1_code
def y_B_init : MethodName := ⟨"WordShapes$Brackets", "<init>", "()V"⟩
abbrev k_B_start : ByteArray := prog_2_method_2_code
def y_B_start : MethodName := ⟨"WordShapes$Brackets", "start", "(I)V"⟩
abbrev k_B_open : ByteArray := prog_2_method_3_code
def y_B_open : MethodName := ⟨"WordShapes$Brackets", "open", "(II)V"⟩
abbrev k_B_close : ByteArray := prog_2_method_4_code
def y_B_close : MethodName := ⟨"WordShapes$Brackets", "close", "()V"⟩
abbrev k_B_kind : ByteArray := prog_2_method_5_code
def y_B_kind : MethodName := ⟨"WordShapes$Brackets", "kind", "()I"⟩
abbrev k_B_number : ByteArray := prog_2_method_6_code
def y_B_number : MethodName := ⟨"WordShapes$Brackets", "number", "()I"⟩
abbrev k_B_lessOne : ByteArray := prog_2_method_7_code
def y_B_lessOne : MethodName := ⟨"WordShapes$Brackets", "lessOne", "()V"⟩
abbrev k_R_init : ByteArray := prog_3_method_1_code
def y_R_init : MethodName := ⟨"WordShapes$Reader", "<init>", "([BILWordShapes$Shape;)V"⟩
abbrev k_R_readText : ByteArray := prog_3_method_2_code
def y_R_readText : MethodName := ⟨"WordShapes$Reader", "readText", "(I)V"⟩
abbrev k_R_opensItem : ByteArray := prog_3_method_3_code
def y_R_opensItem : MethodName := ⟨"WordShapes$Reader", "opensItem", "()Z"⟩
abbrev k_R_goesOn : ByteArray := prog_3_method_4_code
def y_R_goesOn : MethodName := ⟨"WordShapes$Reader", "goesOn", "()Z"⟩
abbrev k_R_readKind : ByteArray := prog_3_method_5_code
def y_R_readKind : MethodName := ⟨"WordShapes$Reader", "readKind", "()I"⟩
abbrev k_R_keepKind : ByteArray := prog_3_method_6_code
def y_R_keepKind : MethodName := ⟨"WordShapes$Reader", "keepKind", "(I)V"⟩
abbrev k_R_opensBracket : ByteArray := prog_3_method_7_code
def y_R_opensBracket : MethodName := ⟨"WordShapes$Reader", "opensBracket", "(I)Z"⟩
abbrev k_R_opensRing : ByteArray := prog_3_method_8_code
def y_R_opensRing : MethodName := ⟨"WordShapes$Reader", "opensRing", "()Z"⟩
abbrev k_R_readPoint : ByteArray := prog_3_method_9_code
def y_R_readPoint : MethodName := ⟨"WordShapes$Reader", "readPoint", "()V"⟩
abbrev k_R_readNumber : ByteArray := prog_3_method_10_code
def y_R_readNumber : MethodName := ⟨"WordShapes$Reader", "readNumber", "()I"⟩
abbrev k_R_readExponent : ByteArray := prog_3_method_11_code
def y_R_readExponent : MethodName := ⟨"WordShapes$Reader", "readExponent", "(I)I"⟩
abbrev k_R_roundedUnits : ByteArray := prog_3_method_12_code
def y_R_roundedUnits : MethodName := ⟨"WordShapes$Reader", "roundedUnits", "(III)J"⟩
abbrev k_R_tenfold : ByteArray := prog_3_method_13_code
def y_R_tenfold : MethodName := ⟨"WordShapes$Reader", "tenfold", "(J)J"⟩
abbrev k_R_kindFrom : ByteArray := prog_3_method_14_code
def y_R_kindFrom : MethodName := ⟨"WordShapes$Reader", "kindFrom", "(I)I"⟩
abbrev k_R_passEmpty : ByteArray := prog_3_method_15_code
def y_R_passEmpty : MethodName := ⟨"WordShapes$Reader", "passEmpty", "()V"⟩
abbrev k_R_isWord : ByteArray := prog_3_method_16_code
def y_R_isWord : MethodName := ⟨"WordShapes$Reader", "isWord", "(ILjava/lang/String;)Z"⟩
abbrev k_R_pass : ByteArray := prog_3_method_17_code
def y_R_pass : MethodName := ⟨"WordShapes$Reader", "pass", "(I)V"⟩
abbrev k_R_passSign : ByteArray := prog_3_method_18_code
def y_R_passSign : MethodName := ⟨"WordShapes$Reader", "passSign", "()V"⟩
abbrev k_R_passDigits : ByteArray := prog_3_method_19_code
def y_R_passDigits : MethodName := ⟨"WordShapes$Reader", "passDigits", "()I"⟩
abbrev k_R_passLetters : ByteArray := prog_3_method_20_code
def y_R_passLetters : MethodName := ⟨"WordShapes$Reader", "passLetters", "()V"⟩
abbrev k_R_skipBlanks : ByteArray := prog_3_method_21_code
def y_R_skipBlanks : MethodName := ⟨"WordShapes$Reader", "skipBlanks", "()V"⟩
abbrev k_R_here : ByteArray := prog_3_method_22_code
def y_R_here : MethodName := ⟨"WordShapes$Reader", "here", "()I"⟩
abbrev k_R_failHere : ByteArray := prog_3_method_23_code
def y_R_failHere : MethodName := ⟨"WordShapes$Reader", "failHere", "()V"⟩
abbrev k_R_fail : ByteArray := prog_3_method_24_code
def y_R_fail : MethodName := ⟨"WordShapes$Reader", "fail", "(II)V"⟩
abbrev k_R_isBlank : ByteArray := prog_3_method_25_code
def y_R_isBlank : MethodName := ⟨"WordShapes$Reader", "isBlank", "(I)Z"⟩
abbrev k_R_isLetter : ByteArray := prog_3_method_26_code
def y_R_isLetter : MethodName := ⟨"WordShapes$Reader", "isLetter", "(I)Z"⟩
abbrev k_R_isDigit : ByteArray := prog_3_method_27_code
def y_R_isDigit : MethodName := ⟨"WordShapes$Reader", "isDigit", "(I)Z"⟩
abbrev k_R_beginsNumber : ByteArray := prog_3_method_28_code
def y_R_beginsNumber : MethodName := ⟨"WordShapes$Reader", "beginsNumber", "(I)Z"⟩
abbrev k_S_init : ByteArray := prog_4_method_1_code
def y_S_init : MethodName := ⟨"WordShapes$Shape", "<init>", "(II)V"⟩
abbrev k_S_clear : ByteArray := prog_4_method_2_code
def y_S_clear : MethodName := ⟨"WordShapes$Shape", "clear", "()V"⟩
abbrev k_S_isNone : ByteArray := prog_4_method_3_code
def y_S_isNone : MethodName := ⟨"WordShapes$Shape", "isNone", "()Z"⟩
abbrev k_S_hasRoomFor : ByteArray := prog_4_method_4_code
def y_S_hasRoomFor : MethodName := ⟨"WordShapes$Shape", "hasRoomFor", "(I)Z"⟩
abbrev k_S_hasRoomForPoint : ByteArray := prog_4_method_5_code
def y_S_hasRoomForPoint : MethodName := ⟨"WordShapes$Shape", "hasRoomForPoint", "()Z"⟩
abbrev k_S_addNumber : ByteArray := prog_4_method_6_code
def y_S_addNumber : MethodName := ⟨"WordShapes$Shape", "addNumber", "(I)V"⟩
abbrev k_S_addPoint : ByteArray := prog_4_method_7_code
def y_S_addPoint : MethodName := ⟨"WordShapes$Shape", "addPoint", "(II)V"⟩
abbrev k_S_addOneAt : ByteArray := prog_4_method_8_code
def y_S_addOneAt : MethodName := ⟨"WordShapes$Shape", "addOneAt", "(I)V"⟩
abbrev k_S_numberAt : ByteArray := prog_4_method_9_code
def y_S_numberAt : MethodName := ⟨"WordShapes$Shape", "numberAt", "(I)I"⟩
abbrev k_S_ordinateAt : ByteArray := prog_4_method_10_code
def y_S_ordinateAt : MethodName := ⟨"WordShapes$Shape", "ordinateAt", "(II)I"⟩
abbrev k_S_takeFrom : ByteArray := prog_4_method_11_code
def y_S_takeFrom : MethodName := ⟨"WordShapes$Shape", "takeFrom", "(LWordShapes$Shape;)V"⟩
abbrev k_S_isLike : ByteArray := prog_4_method_12_code
def y_S_isLike : MethodName := ⟨"WordShapes$Shape", "isLike", "(LWordShapes$Shape;)Z"⟩
abbrev k_T_init : ByteArray := prog_5_method_1_code
def y_T_init : MethodName := ⟨"WordShapes$Writer", "<init>", "(I)V"⟩
abbrev k_T_lay : ByteArray := prog_5_method_2_code
def y_T_lay : MethodName := ⟨"WordShapes$Writer", "lay", "(LWordShapes$Shape;Z)I"⟩
abbrev k_T_layItem : ByteArray := prog_5_method_3_code
def y_T_layItem : MethodName := ⟨"WordShapes$Writer", "layItem", "(LWordShapes$Shape;)V"⟩
abbrev k_T_takeNumber : ByteArray := prog_5_method_4_code
def y_T_takeNumber : MethodName := ⟨"WordShapes$Writer", "takeNumber", "(LWordShapes$Shape;)I"⟩
abbrev k_T_layBody : ByteArray := prog_5_method_5_code
def y_T_layBody : MethodName := ⟨"WordShapes$Writer", "layBody", "(II)V"⟩
abbrev k_T_layPoint : ByteArray := prog_5_method_6_code
def y_T_layPoint : MethodName := ⟨"WordShapes$Writer", "layPoint", "(LWordShapes$Shape;)V"⟩
abbrev k_T_layNumber : ByteArray := prog_5_method_7_code
def y_T_layNumber : MethodName := ⟨"WordShapes$Writer", "layNumber", "(I)V"⟩
abbrev k_T_layWord : ByteArray := prog_5_method_8_code
def y_T_layWord : MethodName := ⟨"WordShapes$Writer", "layWord", "(Ljava/lang/String;)V"⟩
abbrev k_T_put : ByteArray := prog_5_method_9_code
def y_T_put : MethodName := ⟨"WordShapes$Writer", "put", "(I)V"⟩
abbrev k_L_cell : ByteArray := method_2_code
def y_L_cell : MethodName := ⟨"WordShapesLaw", "cell", "([II)I"⟩
abbrev k_L_feed : ByteArray := method_3_code
def y_L_feed : MethodName := ⟨"WordShapesLaw", "feed", "(LWordShapes;IIIII[J)I"⟩
abbrev k_L_end : ByteArray := method_4_code
def y_L_end : MethodName := ⟨"WordShapesLaw", "end", "(LWordShapes;I[J)I"⟩
abbrev k_L_read : ByteArray := method_5_code
def y_L_read : MethodName := ⟨"WordShapesLaw", "read", "(LWordShapes;I[J)I"⟩
abbrev k_L_fault : ByteArray := method_6_code
def y_L_fault : MethodName := ⟨"WordShapesLaw", "fault", "(LWordShapes;I[J)I"⟩
abbrev k_L_write : ByteArray := method_7_code
def y_L_write : MethodName := ⟨"WordShapesLaw", "write", "(LWordShapes;I[J)I"⟩
abbrev k_L_same : ByteArray := method_8_code
def y_L_same : MethodName := ⟨"WordShapesLaw", "same", "(LWordShapes;II[J)I"⟩
abbrev k_L_plan : ByteArray := method_9_code
def y_L_plan : MethodName := ⟨"WordShapesLaw", "plan", "(LWordShapes;II[J)I"⟩
abbrev k_L_ordinate : ByteArray := method_10_code
def y_L_ordinate : MethodName := ⟨"WordShapesLaw", "ordinate", "(LWordShapes;III[J)I"⟩
abbrev k_L_byteAt : ByteArray := method_11_code
def y_L_byteAt : MethodName := ⟨"WordShapesLaw", "byteAt", "(LWordShapes;I[J)I"⟩
abbrev k_L_count : ByteArray := method_12_code
def y_L_count : MethodName := ⟨"WordShapesLaw", "count", "(LWordShapes;II[J)I"⟩
abbrev k_JObject_init : ByteArray := object_method_1_code
def y_JObject_init : MethodName := ⟨"java/lang/Object", "<init>", "()V"⟩
abbrev k_JException_init : ByteArray := prog_8_method_2_code
def y_JException_init : MethodName := ⟨"java/lang/Exception", "<init>", "(Ljava/lang/String;)V"⟩
abbrev k_JIllegalArgumentException_init : ByteArray := prog_9_method_2_code
def y_JIllegalArgumentException_init : MethodName := ⟨"java/lang/IllegalArgumentException", "<init>", "(Ljava/lang/String;)V"⟩
abbrev k_JIllegalStateException_init : ByteArray := prog_10_method_2_code
def y_JIllegalStateException_init : MethodName := ⟨"java/lang/IllegalStateException", "<init>", "(Ljava/lang/String;)V"⟩
abbrev k_JIndexOutOfBoundsException_init : ByteArray := prog_11_method_2_code
def y_JIndexOutOfBoundsException_init : MethodName := ⟨"java/lang/IndexOutOfBoundsException", "<init>", "(Ljava/lang/String;)V"⟩
abbrev k_JMath_max : ByteArray := prog_12_method_65_code
def y_JMath_max : MethodName := ⟨"java/lang/Math", "max", "(II)I"⟩
abbrev k_JMath_min : ByteArray := prog_12_method_69_code
def y_JMath_min : MethodName := ⟨"java/lang/Math", "min", "(II)I"⟩
abbrev k_JRuntimeException_init : ByteArray := prog_13_method_2_code
def y_JRuntimeException_init : MethodName := ⟨"java/lang/RuntimeException", "<init>", "(Ljava/lang/String;)V"⟩
abbrev k_JString_charAt : ByteArray := prog_14_method_56_code
def y_JString_charAt : MethodName := ⟨"java/lang/String", "charAt", "(I)C"⟩
abbrev k_JString_checkIndex : ByteArray := prog_14_method_155_code
def y_JString_checkIndex : MethodName := ⟨"java/lang/String", "checkIndex", "(II)V"⟩
abbrev k_JString_coder : ByteArray := prog_14_method_152_code
def y_JString_coder : MethodName := ⟨"java/lang/String", "coder", "()B"⟩
abbrev k_JString_isLatin1 : ByteArray := prog_14_method_154_code
def y_JString_isLatin1 : MethodName := ⟨"java/lang/String", "isLatin1", "()Z"⟩
abbrev k_JString_length : ByteArray := prog_14_method_54_code
def y_JString_length : MethodName := ⟨"java/lang/String", "length", "()I"⟩
abbrev k_JStringLatin1_charAt : ByteArray := prog_15_method_2_code
def y_JStringLatin1_charAt : MethodName := ⟨"java/lang/StringLatin1", "charAt", "([BI)C"⟩
abbrev k_JStringUTF16_charAt : ByteArray := prog_16_method_83_code
def y_JStringUTF16_charAt : MethodName := ⟨"java/lang/StringUTF16", "charAt", "([BI)C"⟩
abbrev k_JStringUTF16_checkIndex : ByteArray := prog_16_method_91_code
def y_JStringUTF16_checkIndex : MethodName := ⟨"java/lang/StringUTF16", "checkIndex", "(I[B)V"⟩
abbrev k_JStringUTF16_getChar : ByteArray := prog_16_method_5_code
def y_JStringUTF16_getChar : MethodName := ⟨"java/lang/StringUTF16", "getChar", "([BI)C"⟩
abbrev k_JStringUTF16_length : ByteArray := prog_16_method_6_code
def y_JStringUTF16_length : MethodName := ⟨"java/lang/StringUTF16", "length", "([B)I"⟩
abbrev k_JThrowable_init : ByteArray := prog_18_method_2_code
def y_JThrowable_init : MethodName := ⟨"java/lang/Throwable", "<init>", "(Ljava/lang/String;)V"⟩
abbrev k_JThrowable_fillInStackTrace : ByteArray := prog_18_method_18_code
def y_JThrowable_fillInStackTrace : MethodName := ⟨"java/lang/Throwable", "fillInStackTrace", "()Ljava/lang/Throwable;"⟩
abbrev k_JUnsupportedOperationException_init : ByteArray := prog_19_method_2_code
def y_JUnsupportedOperationException_init : MethodName := ⟨"java/lang/UnsupportedOperationException", "<init>", "(Ljava/lang/String;)V"⟩
abbrev k_JPreconditions_checkIndex : ByteArray := prog_20_method_11_code
def y_JPreconditions_checkIndex : MethodName := ⟨"jdk/internal/util/Preconditions", "checkIndex", "(IILjava/util/function/BiFunction;)I"⟩
abbrev k_L_law : ByteArray := code
/-- the words of the tables that stay true in warmer tables -/
def GT : List Cond := lw_tbl.filter goodWord
theorem gt_t {w : Cond} (i : Nat) (h : tables_1[i]? = some w) (g : goodWord w = true) : w ∈ GT := List.mem_filter.mpr ⟨List.mem_append_right _ (List.mem_of_getElem? h), g⟩
theorem gt_m {w : Cond} (h : w ∈ tables_1) (g : goodWord w = true) : w ∈ GT := List.mem_filter.mpr ⟨List.mem_append_right _ h, g⟩
theorem gt_s {w : Cond} (i : Nat) (h : (k2_sels lw_privs)[i]? = some w) (g : goodWord w = true) : w ∈ GT := List.mem_filter.mpr ⟨List.mem_append_left _ (List.mem_of_getElem? h), g⟩
theorem gt_good {w : Cond} (h : w ∈ GT) : (w.onTables && w.keeps) = true ∨ ∃ ty, w = .arrayClass ty := good_of_word (List.mem_filter.mp h).2
theorem gt_in : GoodIn GT GT := fun w h => ⟨h, gt_good h⟩
theorem gt_lw {args : Array Value} {s : State} (h : ∀ w ∈ lw_tbl, w.before args s = true) : ∀ w ∈ GT, w.before args s = true := fun w hw => h w (List.mem_filter.mp hw).1
theorem tk_0 : (Jvm.Cond.initialized "WordShapesLaw") ∈ GT := gt_t 0 (by decide +kernel) (by decide +kernel)
theorem tk_1 : (Jvm.Cond.initialized "WordShapes") ∈ GT := gt_t 1 (by decide +kernel) (by decide +kernel)
theorem tk_2 : (Jvm.Cond.initialized "java/lang/Math") ∈ GT := gt_t 2 (by decide +kernel) (by decide +kernel)
theorem tk_3 : (Jvm.Cond.initialized "WordShapes$Shape") ∈ GT := gt_t 3 (by decide +kernel) (by decide +kernel)
theorem tk_4 : (Jvm.Cond.initialized "WordShapes$Reader") ∈ GT := gt_t 4 (by decide +kernel) (by decide +kernel)
theorem tk_5 : (Jvm.Cond.initialized "WordShapes$Brackets") ∈ GT := gt_t 5 (by decide +kernel) (by decide +kernel)
theorem tk_6 : (Jvm.Cond.initialized "WordShapes$Writer") ∈ GT := gt_t 6 (by decide +kernel) (by decide +kernel)
theorem tk_7 : (Jvm.Cond.initialized "WordShapesModel") ∈ GT := gt_t 7 (by decide +kernel) (by decide +kernel)
theorem tk_8 : (Jvm.Cond.initialized "java/lang/Throwable") ∈ GT := gt_t 8 (by decide +kernel) (by decide +kernel)
theorem tk_9 : (Jvm.Cond.initialized "java/lang/Exception") ∈ GT := gt_t 9 (by decide +kernel) (by decide +kernel)
theorem tk_10 : (Jvm.Cond.initialized "java/lang/RuntimeException") ∈ GT := gt_t 10 (by decide +kernel) (by decide +kernel)
theorem tk_11 : (Jvm.Cond.initialized "java/lang/IllegalStateException") ∈ GT := gt_t 11 (by decide +kernel) (by decide +kernel)
theorem tk_12 : (Jvm.Cond.initialized "java/lang/IllegalArgumentException") ∈ GT := gt_t 12 (by decide +kernel) (by decide +kernel)
theorem tk_13 : (Jvm.Cond.initialized "java/lang/IndexOutOfBoundsException") ∈ GT := gt_t 13 (by decide +kernel) (by decide +kernel)
theorem tk_14 : (Jvm.Cond.initialized "java/lang/String") ∈ GT := gt_t 14 (by decide +kernel) (by decide +kernel)
theorem tk_15 : (Jvm.Cond.initialized "java/lang/StringLatin1") ∈ GT := gt_t 15 (by decide +kernel) (by decide +kernel)
theorem tk_16 : (Jvm.Cond.initialized "jdk/internal/util/Preconditions") ∈ GT := gt_t 16 (by decide +kernel) (by decide +kernel)
theorem tk_17 : (Jvm.Cond.initialized "java/lang/StringUTF16") ∈ GT := gt_t 17 (by decide +kernel) (by decide +kernel)
theorem tk_18 : (Jvm.Cond.initialized "java/lang/UnsupportedOperationException") ∈ GT := gt_t 18 (by decide +kernel) (by decide +kernel)
theorem tk_19 : (Jvm.Cond.initialized "java/lang/System") ∈ GT := gt_t 19 (by decide +kernel) (by decide +kernel)
theorem tk_20 : (Jvm.Cond.classLink "WordShapesLaw" 8 "WordShapes") ∈ GT := gt_t 20 (by decide +kernel) (by decide +kernel)
theorem tk_21 : (Jvm.Cond.instantiable "WordShapes" 5) ∈ GT := gt_t 21 (by decide +kernel) (by decide +kernel)
theorem tk_22 : (Jvm.Cond.methodLink "WordShapesLaw" 58 y_W_init) ∈ GT := gt_t 22 (by decide +kernel) (by decide +kernel)
theorem tk_23 : (Jvm.Cond.instanceMethod y_W_init) ∈ GT := gt_t 23 (by decide +kernel) (by decide +kernel)
set_option maxRecDepth 20000 in
theorem tk_24 : (Jvm.Cond.code y_W_init prog_1_method_1_code 8 (Option.none : Option Jvm.ClassFile.FieldType)) ∈ GT := gt_m (List.mem_append_left _ (List.mem_of_getElem? (i := 24) rfl)) rfl
theorem tk_25 : (Jvm.Cond.methodLink "WordShapes" 3 y_JObject_init) ∈ GT := gt_t 25 (by decide +kernel) (by decide +kernel)
theorem tk_26 : (Jvm.Cond.instanceMethod y_JObject_init) ∈ GT := gt_t 26 (by decide +kernel) (by decide +kernel)
set_option maxRecDepth 20000 in
theorem tk_27 : (Jvm.Cond.code y_JObject_init object_method_1_code 1 (Option.none : Option Jvm.ClassFile.FieldType)) ∈ GT := gt_m (List.mem_append_left _ (List.mem_of_getElem? (i := 27) rfl)) rfl
theorem tk_28 : (Jvm.Cond.classLink "WordShapes" 9 "WordShapes$Shape") ∈ GT := gt_t 28 (by decide +kernel) (by decide +kernel)
theorem tq_29 : (Jvm.Cond.arrayOver (Jvm.ClassFile.FieldType.object "WordShapes$Shape")) ∈ tables_1 := List.mem_of_getElem? (i := 29) (by decide +kernel)
theorem tk_30 : (Jvm.Cond.methodLink "WordShapes" 15 y_JMath_min) ∈ GT := gt_t 30 (by decide +kernel) (by decide +kernel)
theorem tk_31 : (Jvm.Cond.static y_JMath_min) ∈ GT := gt_t 31 (by decide +kernel) (by decide +kernel)
set_option maxRecDepth 20000 in
theorem tk_32 : (Jvm.Cond.code y_JMath_min prog_12_method_69_code 2 (Option.some Jvm.ClassFile.FieldType.int)) ∈ GT := gt_m (List.mem_append_left _ (List.mem_of_getElem? (i := 32) rfl)) rfl
theorem tk_33 : (Jvm.Cond.methodLink "WordShapes" 21 y_JMath_max) ∈ GT := gt_t 33 (by decide +kernel) (by decide +kernel)
theorem tk_34 : (Jvm.Cond.static y_JMath_max) ∈ GT := gt_t 34 (by decide +kernel) (by decide +kernel)
set_option maxRecDepth 20000 in
theorem tk_35 : (Jvm.Cond.code y_JMath_max prog_12_method_65_code 2 (Option.some Jvm.ClassFile.FieldType.int)) ∈ GT := gt_m (List.mem_append_left _ (List.mem_of_getElem? (i := 35) rfl)) rfl
theorem tk_36 : (Jvm.Cond.instantiable "WordShapes$Shape" 4) ∈ GT := gt_t 36 (by decide +kernel) (by decide +kernel)
theorem tk_37 : (Jvm.Cond.methodLink "WordShapes" 24 y_S_init) ∈ GT := gt_t 37 (by decide +kernel) (by decide +kernel)
theorem tk_38 : (Jvm.Cond.instanceMethod y_S_init) ∈ GT := gt_t 38 (by decide +kernel) (by decide +kernel)
set_option maxRecDepth 20000 in
theorem tk_39 : (Jvm.Cond.code y_S_init prog_4_method_1_code 3 (Option.none : Option Jvm.ClassFile.FieldType)) ∈ GT := gt_m (List.mem_append_left _ (List.mem_of_getElem? (i := 39) rfl)) rfl
theorem tk_40 : (Jvm.Cond.methodLink "WordShapes$Shape" 1 y_JObject_init) ∈ GT := gt_t 40 (by decide +kernel) (by decide +kernel)
theorem tk_41 : (Jvm.Cond.fieldLink "WordShapes$Shape" 7 "WordShapes$Shape" "plan" "[I") ∈ GT := gt_t 41 (by decide +kernel) (by decide +kernel)
theorem tk_42 : (Jvm.Cond.fieldLink "WordShapes$Shape" 13 "WordShapes$Shape" "ordinates" "[I") ∈ GT := gt_t 42 (by decide +kernel) (by decide +kernel)
theorem tk_43 : (Jvm.Cond.fieldLink "WordShapes$Shape" 16 "WordShapes$Shape" "numbers" "I") ∈ GT := gt_t 43 (by decide +kernel) (by decide +kernel)
theorem tq_44 : (Jvm.Cond.fieldLinkNest "WordShapes$Writer" 51 "WordShapes$Shape" "numbers" "I" "WordShapes") ∈ tables_1 := List.mem_of_getElem? (i := 44) (by decide +kernel)
theorem tq_45 : (Jvm.Cond.fieldLinkNest "WordShapes$Reader" 97 "WordShapes$Shape" "numbers" "I" "WordShapes") ∈ tables_1 := List.mem_of_getElem? (i := 45) (by decide +kernel)
theorem tq_46 : (Jvm.Cond.fieldLinkNest "WordShapes" 137 "WordShapes$Shape" "numbers" "I" "WordShapes") ∈ tables_1 := List.mem_of_getElem? (i := 46) (by decide +kernel)
theorem tk_47 : (Jvm.Cond.fieldLink "WordShapes$Shape" 20 "WordShapes$Shape" "points" "I") ∈ GT := gt_t 47 (by decide +kernel) (by decide +kernel)
theorem tq_48 : (Jvm.Cond.fieldLinkNest "WordShapes$Writer" 56 "WordShapes$Shape" "points" "I" "WordShapes") ∈ tables_1 := List.mem_of_getElem? (i := 48) (by decide +kernel)
theorem tq_49 : (Jvm.Cond.fieldLinkNest "WordShapes" 142 "WordShapes$Shape" "points" "I" "WordShapes") ∈ tables_1 := List.mem_of_getElem? (i := 49) (by decide +kernel)
theorem tk_50 : (Jvm.Cond.laysFinal "WordShapes$Shape" "WordShapes$Shape" "plan" "[I") ∈ GT := gt_t 50 (by decide +kernel) (by decide +kernel)
theorem tk_52 : (Jvm.Cond.laysFinal "WordShapes$Shape" "WordShapes$Shape" "ordinates" "[I") ∈ GT := gt_t 52 (by decide +kernel) (by decide +kernel)
theorem tk_54 : (Jvm.Cond.lays "WordShapes$Shape" "WordShapes$Shape" "numbers" "I") ∈ GT := gt_t 54 (by decide +kernel) (by decide +kernel)
theorem tk_56 : (Jvm.Cond.lays "WordShapes$Shape" "WordShapes$Shape" "points" "I") ∈ GT := gt_t 56 (by decide +kernel) (by decide +kernel)
theorem tk_59 : (Jvm.Cond.arrayClass Jvm.ClassFile.FieldType.int) ∈ GT := gt_t 59 (by decide +kernel) (by decide +kernel)
theorem tk_60 : (Jvm.Cond.constant "WordShapes" 27 (65536 : Int32)) ∈ GT := gt_t 60 (by decide +kernel) (by decide +kernel)
theorem tk_61 : (Jvm.Cond.classLink "WordShapes" 32 "WordShapes$Reader") ∈ GT := gt_t 61 (by decide +kernel) (by decide +kernel)
theorem tk_62 : (Jvm.Cond.instantiable "WordShapes$Reader" 8) ∈ GT := gt_t 62 (by decide +kernel) (by decide +kernel)
theorem tk_63 : (Jvm.Cond.methodLink "WordShapes" 34 y_R_init) ∈ GT := gt_t 63 (by decide +kernel) (by decide +kernel)
theorem tk_64 : (Jvm.Cond.instanceMethod y_R_init) ∈ GT := gt_t 64 (by decide +kernel) (by decide +kernel)
set_option maxRecDepth 20000 in
theorem tk_65 : (Jvm.Cond.code y_R_init prog_3_method_1_code 4 (Option.none : Option Jvm.ClassFile.FieldType)) ∈ GT := gt_m (List.mem_append_left _ (List.mem_of_getElem? (i := 65) rfl)) rfl
theorem tk_66 : (Jvm.Cond.methodLink "WordShapes$Reader" 3 y_JObject_init) ∈ GT := gt_t 66 (by decide +kernel) (by decide +kernel)
theorem tk_67 : (Jvm.Cond.classLink "WordShapes$Reader" 9 "WordShapes$Brackets") ∈ GT := gt_t 67 (by decide +kernel) (by decide +kernel)
theorem tk_68 : (Jvm.Cond.instantiable "WordShapes$Brackets" 3) ∈ GT := gt_t 68 (by decide +kernel) (by decide +kernel)
theorem tq_69 : (Jvm.Cond.methodLinkNest "WordShapes$Reader" 11 y_B_init "WordShapes") ∈ tables_1 := List.mem_of_getElem? (i := 69) (by decide +kernel)
theorem tk_70 : (Jvm.Cond.instanceMethod y_B_init) ∈ GT := gt_t 70 (by decide +kernel) (by decide +kernel)
set_option maxRecDepth 20000 in
theorem tk_71 : (Jvm.Cond.code y_B_init prog_2_method_1_code 1 (Option.none : Option Jvm.ClassFile.FieldType)) ∈ GT := gt_m (List.mem_append_left _ (List.mem_of_getElem? (i := 71) rfl)) rfl
theorem tk_72 : (Jvm.Cond.methodLink "WordShapes$Brackets" 3 y_JObject_init) ∈ GT := gt_t 72 (by decide +kernel) (by decide +kernel)
theorem tk_73 : (Jvm.Cond.fieldLink "WordShapes$Brackets" 9 "WordShapes$Brackets" "kinds" "[I") ∈ GT := gt_t 73 (by decide +kernel) (by decide +kernel)
theorem tk_74 : (Jvm.Cond.fieldLink "WordShapes$Brackets" 15 "WordShapes$Brackets" "numbers" "[I") ∈ GT := gt_t 74 (by decide +kernel) (by decide +kernel)
theorem tk_75 : (Jvm.Cond.fieldLink "WordShapes$Brackets" 18 "WordShapes$Brackets" "top" "I") ∈ GT := gt_t 75 (by decide +kernel) (by decide +kernel)
theorem tq_76 : (Jvm.Cond.fieldLinkNest "WordShapes$Writer" 59 "WordShapes$Brackets" "top" "I" "WordShapes") ∈ tables_1 := List.mem_of_getElem? (i := 76) (by decide +kernel)
theorem tq_77 : (Jvm.Cond.fieldLinkNest "WordShapes$Reader" 106 "WordShapes$Brackets" "top" "I" "WordShapes") ∈ tables_1 := List.mem_of_getElem? (i := 77) (by decide +kernel)
theorem tk_78 : (Jvm.Cond.laysFinal "WordShapes$Brackets" "WordShapes$Brackets" "kinds" "[I") ∈ GT := gt_t 78 (by decide +kernel) (by decide +kernel)
theorem tk_80 : (Jvm.Cond.laysFinal "WordShapes$Brackets" "WordShapes$Brackets" "numbers" "[I") ∈ GT := gt_t 80 (by decide +kernel) (by decide +kernel)
theorem tk_82 : (Jvm.Cond.lays "WordShapes$Brackets" "WordShapes$Brackets" "top" "I") ∈ GT := gt_t 82 (by decide +kernel) (by decide +kernel)
theorem tk_85 : (Jvm.Cond.arrayClass Jvm.ClassFile.FieldType.byte) ∈ GT := gt_t 85 (by decide +kernel) (by decide +kernel)
theorem tk_86 : (Jvm.Cond.fieldLink "WordShapes$Reader" 18 "WordShapes$Reader" "text" "[B") ∈ GT := gt_t 86 (by decide +kernel) (by decide +kernel)
theorem tk_87 : (Jvm.Cond.fieldLink "WordShapes$Reader" 22 "WordShapes$Reader" "digits" "I") ∈ GT := gt_t 87 (by decide +kernel) (by decide +kernel)
theorem tk_88 : (Jvm.Cond.fieldLink "WordShapes$Reader" 26 "WordShapes$Reader" "draft" "LWordShapes$Shape;") ∈ GT := gt_t 88 (by decide +kernel) (by decide +kernel)
theorem tq_89 : (Jvm.Cond.fieldLinkNest "WordShapes" 82 "WordShapes$Reader" "draft" "LWordShapes$Shape;" "WordShapes") ∈ tables_1 := List.mem_of_getElem? (i := 89) (by decide +kernel)
theorem tk_90 : (Jvm.Cond.fieldLink "WordShapes$Reader" 12 "WordShapes$Reader" "open" "LWordShapes$Brackets;") ∈ GT := gt_t 90 (by decide +kernel) (by decide +kernel)
theorem tk_91 : (Jvm.Cond.fieldLink "WordShapes$Reader" 36 "WordShapes$Reader" "length" "I") ∈ GT := gt_t 91 (by decide +kernel) (by decide +kernel)
theorem tk_92 : (Jvm.Cond.fieldLink "WordShapes$Reader" 39 "WordShapes$Reader" "place" "I") ∈ GT := gt_t 92 (by decide +kernel) (by decide +kernel)
theorem tk_93 : (Jvm.Cond.fieldLink "WordShapes$Reader" 42 "WordShapes$Reader" "faultKind" "I") ∈ GT := gt_t 93 (by decide +kernel) (by decide +kernel)
theorem tq_94 : (Jvm.Cond.fieldLinkNest "WordShapes" 94 "WordShapes$Reader" "faultKind" "I" "WordShapes") ∈ tables_1 := List.mem_of_getElem? (i := 94) (by decide +kernel)
theorem tk_95 : (Jvm.Cond.fieldLink "WordShapes$Reader" 45 "WordShapes$Reader" "faultPlace" "I") ∈ GT := gt_t 95 (by decide +kernel) (by decide +kernel)
theorem tq_96 : (Jvm.Cond.fieldLinkNest "WordShapes" 97 "WordShapes$Reader" "faultPlace" "I" "WordShapes") ∈ tables_1 := List.mem_of_getElem? (i := 96) (by decide +kernel)
theorem tk_97 : (Jvm.Cond.laysFinal "WordShapes$Reader" "WordShapes$Reader" "text" "[B") ∈ GT := gt_t 97 (by decide +kernel) (by decide +kernel)
theorem tk_99 : (Jvm.Cond.laysFinal "WordShapes$Reader" "WordShapes$Reader" "digits" "I") ∈ GT := gt_t 99 (by decide +kernel) (by decide +kernel)
theorem tk_101 : (Jvm.Cond.laysFinal "WordShapes$Reader" "WordShapes$Reader" "draft" "LWordShapes$Shape;") ∈ GT := gt_t 101 (by decide +kernel) (by decide +kernel)
theorem tk_103 : (Jvm.Cond.laysFinal "WordShapes$Reader" "WordShapes$Reader" "open" "LWordShapes$Brackets;") ∈ GT := gt_t 103 (by decide +kernel) (by decide +kernel)
theorem tk_105 : (Jvm.Cond.lays "WordShapes$Reader" "WordShapes$Reader" "length" "I") ∈ GT := gt_t 105 (by decide +kernel) (by decide +kernel)
theorem tk_107 : (Jvm.Cond.lays "WordShapes$Reader" "WordShapes$Reader" "place" "I") ∈ GT := gt_t 107 (by decide +kernel) (by decide +kernel)
theorem tk_109 : (Jvm.Cond.lays "WordShapes$Reader" "WordShapes$Reader" "faultKind" "I") ∈ GT := gt_t 109 (by decide +kernel) (by decide +kernel)
theorem tk_111 : (Jvm.Cond.lays "WordShapes$Reader" "WordShapes$Reader" "faultPlace" "I") ∈ GT := gt_t 111 (by decide +kernel) (by decide +kernel)
theorem tk_114 : (Jvm.Cond.classLink "WordShapes" 41 "WordShapes$Writer") ∈ GT := gt_t 114 (by decide +kernel) (by decide +kernel)
theorem tk_115 : (Jvm.Cond.instantiable "WordShapes$Writer" 10) ∈ GT := gt_t 115 (by decide +kernel) (by decide +kernel)
theorem tk_116 : (Jvm.Cond.methodLink "WordShapes" 43 y_T_init) ∈ GT := gt_t 116 (by decide +kernel) (by decide +kernel)
theorem tk_117 : (Jvm.Cond.instanceMethod y_T_init) ∈ GT := gt_t 117 (by decide +kernel) (by decide +kernel)
set_option maxRecDepth 20000 in
theorem tk_118 : (Jvm.Cond.code y_T_init prog_5_method_1_code 2 (Option.none : Option Jvm.ClassFile.FieldType)) ∈ GT := gt_m (List.mem_append_left _ (List.mem_of_getElem? (i := 118) rfl)) rfl
theorem tk_119 : (Jvm.Cond.methodLink "WordShapes$Writer" 3 y_JObject_init) ∈ GT := gt_t 119 (by decide +kernel) (by decide +kernel)
theorem tk_120 : (Jvm.Cond.constant "WordShapes$Writer" 9 (131072 : Int32)) ∈ GT := gt_t 120 (by decide +kernel) (by decide +kernel)
theorem tk_121 : (Jvm.Cond.classLink "WordShapes$Writer" 20 "WordShapes$Brackets") ∈ GT := gt_t 121 (by decide +kernel) (by decide +kernel)
theorem tq_122 : (Jvm.Cond.methodLinkNest "WordShapes$Writer" 22 y_B_init "WordShapes") ∈ tables_1 := List.mem_of_getElem? (i := 122) (by decide +kernel)
theorem tk_123 : (Jvm.Cond.fieldLink "WordShapes$Writer" 10 "WordShapes$Writer" "bytes" "[B") ∈ GT := gt_t 123 (by decide +kernel) (by decide +kernel)
theorem tq_124 : (Jvm.Cond.fieldLinkNest "WordShapes" 124 "WordShapes$Writer" "bytes" "[B" "WordShapes") ∈ tables_1 := List.mem_of_getElem? (i := 124) (by decide +kernel)
theorem tk_125 : (Jvm.Cond.fieldLink "WordShapes$Writer" 27 "WordShapes$Writer" "digits" "I") ∈ GT := gt_t 125 (by decide +kernel) (by decide +kernel)
theorem tk_126 : (Jvm.Cond.fieldLink "WordShapes$Writer" 16 "WordShapes$Writer" "decimals" "[I") ∈ GT := gt_t 126 (by decide +kernel) (by decide +kernel)
theorem tk_127 : (Jvm.Cond.fieldLink "WordShapes$Writer" 23 "WordShapes$Writer" "open" "LWordShapes$Brackets;") ∈ GT := gt_t 127 (by decide +kernel) (by decide +kernel)
theorem tq_128 : (Jvm.Cond.fieldLinkNest "WordShapes" 121 "WordShapes$Writer" "length" "I" "WordShapes") ∈ tables_1 := List.mem_of_getElem? (i := 128) (by decide +kernel)
theorem tk_129 : (Jvm.Cond.fieldLink "WordShapes$Writer" 31 "WordShapes$Writer" "keeps" "Z") ∈ GT := gt_t 129 (by decide +kernel) (by decide +kernel)
theorem tk_130 : (Jvm.Cond.fieldLink "WordShapes$Writer" 35 "WordShapes$Writer" "laid" "I") ∈ GT := gt_t 130 (by decide +kernel) (by decide +kernel)
theorem tk_131 : (Jvm.Cond.fieldLink "WordShapes$Writer" 38 "WordShapes$Writer" "nextNumber" "I") ∈ GT := gt_t 131 (by decide +kernel) (by decide +kernel)
theorem tk_132 : (Jvm.Cond.fieldLink "WordShapes$Writer" 41 "WordShapes$Writer" "nextPoint" "I") ∈ GT := gt_t 132 (by decide +kernel) (by decide +kernel)
theorem tk_133 : (Jvm.Cond.fieldLink "WordShapes$Writer" 44 "WordShapes$Writer" "isFirst" "Z") ∈ GT := gt_t 133 (by decide +kernel) (by decide +kernel)
theorem tk_134 : (Jvm.Cond.laysFinal "WordShapes$Writer" "WordShapes$Writer" "bytes" "[B") ∈ GT := gt_t 134 (by decide +kernel) (by decide +kernel)
theorem tk_136 : (Jvm.Cond.laysFinal "WordShapes$Writer" "WordShapes$Writer" "digits" "I") ∈ GT := gt_t 136 (by decide +kernel) (by decide +kernel)
theorem tk_138 : (Jvm.Cond.laysFinal "WordShapes$Writer" "WordShapes$Writer" "decimals" "[I") ∈ GT := gt_t 138 (by decide +kernel) (by decide +kernel)
theorem tk_140 : (Jvm.Cond.laysFinal "WordShapes$Writer" "WordShapes$Writer" "open" "LWordShapes$Brackets;") ∈ GT := gt_t 140 (by decide +kernel) (by decide +kernel)
theorem tk_142 : (Jvm.Cond.lays "WordShapes$Writer" "WordShapes$Writer" "length" "I") ∈ GT := gt_t 142 (by decide +kernel) (by decide +kernel)
theorem tk_144 : (Jvm.Cond.lays "WordShapes$Writer" "WordShapes$Writer" "keeps" "Z") ∈ GT := gt_t 144 (by decide +kernel) (by decide +kernel)
theorem tk_146 : (Jvm.Cond.lays "WordShapes$Writer" "WordShapes$Writer" "laid" "I") ∈ GT := gt_t 146 (by decide +kernel) (by decide +kernel)
theorem tk_148 : (Jvm.Cond.lays "WordShapes$Writer" "WordShapes$Writer" "nextNumber" "I") ∈ GT := gt_t 148 (by decide +kernel) (by decide +kernel)
theorem tk_150 : (Jvm.Cond.lays "WordShapes$Writer" "WordShapes$Writer" "nextPoint" "I") ∈ GT := gt_t 150 (by decide +kernel) (by decide +kernel)
theorem tk_152 : (Jvm.Cond.lays "WordShapes$Writer" "WordShapes$Writer" "isFirst" "Z") ∈ GT := gt_t 152 (by decide +kernel) (by decide +kernel)
theorem tk_155 : (Jvm.Cond.fieldLink "WordShapes" 11 "WordShapes" "slots" "[LWordShapes$Shape;") ∈ GT := gt_t 155 (by decide +kernel) (by decide +kernel)
theorem tk_156 : (Jvm.Cond.fieldLink "WordShapes" 28 "WordShapes" "tape" "[B") ∈ GT := gt_t 156 (by decide +kernel) (by decide +kernel)
theorem tk_157 : (Jvm.Cond.fieldLink "WordShapes" 37 "WordShapes" "reader" "LWordShapes$Reader;") ∈ GT := gt_t 157 (by decide +kernel) (by decide +kernel)
theorem tk_158 : (Jvm.Cond.fieldLink "WordShapes" 46 "WordShapes" "writer" "LWordShapes$Writer;") ∈ GT := gt_t 158 (by decide +kernel) (by decide +kernel)
theorem tk_159 : (Jvm.Cond.fieldLink "WordShapes" 50 "WordShapes" "tapeLength" "I") ∈ GT := gt_t 159 (by decide +kernel) (by decide +kernel)
theorem tk_160 : (Jvm.Cond.laysFinal "WordShapes" "WordShapes" "slots" "[LWordShapes$Shape;") ∈ GT := gt_t 160 (by decide +kernel) (by decide +kernel)
theorem tk_162 : (Jvm.Cond.laysFinal "WordShapes" "WordShapes" "tape" "[B") ∈ GT := gt_t 162 (by decide +kernel) (by decide +kernel)
theorem tk_164 : (Jvm.Cond.laysFinal "WordShapes" "WordShapes" "reader" "LWordShapes$Reader;") ∈ GT := gt_t 164 (by decide +kernel) (by decide +kernel)
theorem tk_166 : (Jvm.Cond.laysFinal "WordShapes" "WordShapes" "writer" "LWordShapes$Writer;") ∈ GT := gt_t 166 (by decide +kernel) (by decide +kernel)
theorem tk_168 : (Jvm.Cond.lays "WordShapes" "WordShapes" "tapeLength" "I") ∈ GT := gt_t 168 (by decide +kernel) (by decide +kernel)
theorem tk_171 : (Jvm.Cond.methodLink "WordShapesLaw" 85 y_W_again) ∈ GT := gt_t 171 (by decide +kernel) (by decide +kernel)
theorem tk_172 : (Jvm.Cond.instanceMethod y_W_again) ∈ GT := gt_t 172 (by decide +kernel) (by decide +kernel)
theorem tk_173 : (Jvm.Cond.selects "WordShapes" y_W_again y_W_again) ∈ GT := gt_t 173 (by decide +kernel) (by decide +kernel)
set_option maxRecDepth 20000 in
theorem tk_174 : (Jvm.Cond.code y_W_again prog_1_method_7_code 1 (Option.some Jvm.ClassFile.FieldType.int)) ∈ GT := gt_m (List.mem_append_left _ (List.mem_of_getElem? (i := 174) rfl)) rfl
theorem tk_175 : (Jvm.Cond.methodLink "WordShapes" 127 ({ cls := "java/lang/System", name := "arraycopy", desc := "(Ljava/lang/Object;ILjava/lang/Object;II)V" } : Jvm.MethodName)) ∈ GT := gt_t 175 (by decide +kernel) (by decide +kernel)
theorem tk_176 : (Jvm.Cond.static ({ cls := "java/lang/System", name := "arraycopy", desc := "(Ljava/lang/Object;ILjava/lang/Object;II)V" } : Jvm.MethodName)) ∈ GT := gt_t 176 (by decide +kernel) (by decide +kernel)
theorem tq_177 : (Jvm.Cond.native ({ cls := "java/lang/System", name := "arraycopy", desc := "(Ljava/lang/Object;ILjava/lang/Object;II)V" } : Jvm.MethodName)) ∈ tables_1 := List.mem_of_getElem? (i := 177) (by decide +kernel)
theorem tk_178 : (Jvm.Cond.methodLink "WordShapesLaw" 52 y_L_cell) ∈ GT := gt_t 178 (by decide +kernel) (by decide +kernel)
theorem tk_179 : (Jvm.Cond.static y_L_cell) ∈ GT := gt_t 179 (by decide +kernel) (by decide +kernel)
set_option maxRecDepth 20000 in
theorem tk_180 : (Jvm.Cond.code y_L_cell method_2_code 2 (Option.some Jvm.ClassFile.FieldType.int)) ∈ GT := gt_m (List.mem_append_left _ (List.mem_of_getElem? (i := 180) rfl)) rfl
theorem tk_181 : (Jvm.Cond.methodLink "WordShapesLaw" 64 y_L_feed) ∈ GT := gt_t 181 (by decide +kernel) (by decide +kernel)
theorem tk_182 : (Jvm.Cond.static y_L_feed) ∈ GT := gt_t 182 (by decide +kernel) (by decide +kernel)
set_option maxRecDepth 20000 in
theorem tq_183 : (Jvm.Cond.codeWith y_L_feed method_3_code 8 (Option.some Jvm.ClassFile.FieldType.int) [(0, 16, 19, 13)]) ∈ tables_1 := List.mem_append_left _ (List.mem_of_getElem? (i := 183) rfl)
theorem tk_184 : (Jvm.Cond.classLink "WordShapesLaw" 13 "java/lang/IllegalStateException") ∈ GT := gt_t 184 (by decide +kernel) (by decide +kernel)
theorem tk_185 : (Jvm.Cond.methodLink "WordShapesLaw" 7 y_W_feed) ∈ GT := gt_t 185 (by decide +kernel) (by decide +kernel)
theorem tk_186 : (Jvm.Cond.instanceMethod y_W_feed) ∈ GT := gt_t 186 (by decide +kernel) (by decide +kernel)
theorem tk_187 : (Jvm.Cond.selects "WordShapes" y_W_feed y_W_feed) ∈ GT := gt_t 187 (by decide +kernel) (by decide +kernel)
set_option maxRecDepth 20000 in
theorem tk_188 : (Jvm.Cond.code y_W_feed prog_1_method_2_code 6 (Option.some Jvm.ClassFile.FieldType.int)) ∈ GT := gt_m (List.mem_append_left _ (List.mem_of_getElem? (i := 188) rfl)) rfl
theorem tk_189 : (Jvm.Cond.constant "WordShapes" 54 (65516 : Int32)) ∈ GT := gt_t 189 (by decide +kernel) (by decide +kernel)
theorem tk_190 : (Jvm.Cond.classLink "WordShapes" 55 "java/lang/IllegalStateException") ∈ GT := gt_t 190 (by decide +kernel) (by decide +kernel)
theorem tk_191 : (Jvm.Cond.instantiable "java/lang/IllegalStateException" 6) ∈ GT := gt_t 191 (by decide +kernel) (by decide +kernel)
theorem tq_192 : (Jvm.Cond.castable "java/lang/IllegalStateException" "java/lang/IllegalStateException") ∈ tables_1 := List.mem_of_getElem? (i := 192) (by decide +kernel)
theorem tq_193 : (Jvm.Cond.declares ({ cls := "java/lang/RuntimeException", name := "<init>", desc := "()V" } : Jvm.MethodName)) ∈ tables_1 := List.mem_of_getElem? (i := 193) (by decide +kernel)
theorem tq_194 : (Jvm.Cond.declares y_JRuntimeException_init) ∈ tables_1 := List.mem_of_getElem? (i := 194) (by decide +kernel)
theorem tq_195 : (Jvm.Cond.declares ({ cls := "java/lang/Exception", name := "<init>", desc := "()V" } : Jvm.MethodName)) ∈ tables_1 := List.mem_of_getElem? (i := 195) (by decide +kernel)
theorem tq_196 : (Jvm.Cond.declares y_JException_init) ∈ tables_1 := List.mem_of_getElem? (i := 196) (by decide +kernel)
theorem tq_197 : (Jvm.Cond.declares ({ cls := "java/lang/Throwable", name := "<init>", desc := "()V" } : Jvm.MethodName)) ∈ tables_1 := List.mem_of_getElem? (i := 197) (by decide +kernel)
theorem tq_198 : (Jvm.Cond.declares y_JThrowable_init) ∈ tables_1 := List.mem_of_getElem? (i := 198) (by decide +kernel)
theorem tk_199 : (Jvm.Cond.selects "java/lang/IllegalStateException" ({ cls := "java/lang/Throwable", name := "fillInStackTrace", desc := "(I)Ljava/lang/Throwable;" } : Jvm.MethodName) ({ cls := "java/lang/Throwable", name := "fillInStackTrace", desc := "(I)Ljava/lang/Throwable;" } : Jvm.MethodName)) ∈ GT := gt_t 199 (by decide +kernel) (by decide +kernel)
theorem tk_200 : (Jvm.Cond.selects "java/lang/IllegalStateException" y_JThrowable_fillInStackTrace y_JThrowable_fillInStackTrace) ∈ GT := gt_t 200 (by decide +kernel) (by decide +kernel)
theorem tk_201 : (Jvm.Cond.lays "java/lang/IllegalStateException" "java/lang/Throwable" "cause" "Ljava/lang/Throwable;") ∈ GT := gt_t 201 (by decide +kernel) (by decide +kernel)
theorem tk_202 : (Jvm.Cond.lays "java/lang/Throwable" "java/lang/Throwable" "cause" "Ljava/lang/Throwable;") ∈ GT := gt_t 202 (by decide +kernel) (by decide +kernel)
theorem tk_203 : (Jvm.Cond.lays "java/lang/IllegalStateException" "java/lang/Throwable" "stackTrace" "[Ljava/lang/StackTraceElement;") ∈ GT := gt_t 203 (by decide +kernel) (by decide +kernel)
theorem tk_204 : (Jvm.Cond.lays "java/lang/Throwable" "java/lang/Throwable" "stackTrace" "[Ljava/lang/StackTraceElement;") ∈ GT := gt_t 204 (by decide +kernel) (by decide +kernel)
theorem tk_205 : (Jvm.Cond.lays "java/lang/IllegalStateException" "java/lang/Throwable" "suppressedExceptions" "Ljava/util/List;") ∈ GT := gt_t 205 (by decide +kernel) (by decide +kernel)
theorem tk_206 : (Jvm.Cond.lays "java/lang/Throwable" "java/lang/Throwable" "suppressedExceptions" "Ljava/util/List;") ∈ GT := gt_t 206 (by decide +kernel) (by decide +kernel)
theorem tk_207 : (Jvm.Cond.lays "java/lang/IllegalStateException" "java/lang/Throwable" "detailMessage" "Ljava/lang/String;") ∈ GT := gt_t 207 (by decide +kernel) (by decide +kernel)
theorem tk_208 : (Jvm.Cond.lays "java/lang/Throwable" "java/lang/Throwable" "detailMessage" "Ljava/lang/String;") ∈ GT := gt_t 208 (by decide +kernel) (by decide +kernel)
theorem tk_209 : (Jvm.Cond.lays "java/lang/IllegalStateException" "java/lang/Throwable" "backtrace" "Ljava/lang/Object;") ∈ GT := gt_t 209 (by decide +kernel) (by decide +kernel)
theorem tk_210 : (Jvm.Cond.lays "java/lang/Throwable" "java/lang/Throwable" "backtrace" "Ljava/lang/Object;") ∈ GT := gt_t 210 (by decide +kernel) (by decide +kernel)
theorem tk_211 : (Jvm.Cond.fieldLink "java/lang/Throwable" 198 "java/lang/Throwable" "backtrace" "Ljava/lang/Object;") ∈ GT := gt_t 211 (by decide +kernel) (by decide +kernel)
theorem tk_213 : (Jvm.Cond.instanceMethod ({ cls := "java/lang/Throwable", name := "<init>", desc := "()V" } : Jvm.MethodName)) ∈ GT := gt_t 213 (by decide +kernel) (by decide +kernel)
set_option maxRecDepth 20000 in
theorem tk_214 : (Jvm.Cond.code ({ cls := "java/lang/Throwable", name := "<init>", desc := "()V" } : Jvm.MethodName) prog_18_method_1_code 1 (Option.none : Option Jvm.ClassFile.FieldType)) ∈ GT := gt_m (List.mem_append_left _ (List.mem_of_getElem? (i := 214) rfl)) rfl
theorem tk_215 : (Jvm.Cond.methodLink "java/lang/Throwable" 1 y_JObject_init) ∈ GT := gt_t 215 (by decide +kernel) (by decide +kernel)
theorem tk_216 : (Jvm.Cond.fieldLink "java/lang/Throwable" 13 "java/lang/Throwable" "UNASSIGNED_STACK" "[Ljava/lang/StackTraceElement;") ∈ GT := gt_t 216 (by decide +kernel) (by decide +kernel)
theorem tq_217 : (Jvm.Cond.laysStatic "java/lang/Throwable" "UNASSIGNED_STACK" "[Ljava/lang/StackTraceElement;") ∈ tables_1 := List.mem_of_getElem? (i := 217) (by decide +kernel)
theorem tk_218 : (Jvm.Cond.fieldLink "java/lang/Throwable" 20 "java/lang/Throwable" "SUPPRESSED_SENTINEL" "Ljava/util/List;") ∈ GT := gt_t 218 (by decide +kernel) (by decide +kernel)
theorem tq_219 : (Jvm.Cond.laysStatic "java/lang/Throwable" "SUPPRESSED_SENTINEL" "Ljava/util/List;") ∈ tables_1 := List.mem_of_getElem? (i := 219) (by decide +kernel)
theorem tk_220 : (Jvm.Cond.methodLink "java/lang/Throwable" 27 y_JThrowable_fillInStackTrace) ∈ GT := gt_t 220 (by decide +kernel) (by decide +kernel)
theorem tk_221 : (Jvm.Cond.instanceMethod y_JThrowable_fillInStackTrace) ∈ GT := gt_t 221 (by decide +kernel) (by decide +kernel)
theorem tq_222 : (Jvm.Cond.sameMethod "java/lang/Throwable" "java/lang/Throwable" "fillInStackTrace" "()Ljava/lang/Throwable;") ∈ tables_1 := List.mem_of_getElem? (i := 222) (by decide +kernel)
theorem tk_223 : (Jvm.Cond.selects "java/lang/IllegalArgumentException" y_JThrowable_fillInStackTrace y_JThrowable_fillInStackTrace) ∈ GT := gt_t 223 (by decide +kernel) (by decide +kernel)
theorem tk_224 : (Jvm.Cond.selects "java/lang/IndexOutOfBoundsException" y_JThrowable_fillInStackTrace y_JThrowable_fillInStackTrace) ∈ GT := gt_t 224 (by decide +kernel) (by decide +kernel)
theorem tk_225 : (Jvm.Cond.selects "java/lang/UnsupportedOperationException" y_JThrowable_fillInStackTrace y_JThrowable_fillInStackTrace) ∈ GT := gt_t 225 (by decide +kernel) (by decide +kernel)
set_option maxRecDepth 20000 in
theorem tq_226 : (Jvm.Cond.codeSync y_JThrowable_fillInStackTrace prog_18_method_18_code 1 (Option.some (Jvm.ClassFile.FieldType.object "java/lang/Throwable"))) ∈ tables_1 := List.mem_append_left _ (List.mem_of_getElem? (i := 226) rfl)
theorem tk_227 : (Jvm.Cond.methodLink "java/lang/Throwable" 202 ({ cls := "java/lang/Throwable", name := "fillInStackTrace", desc := "(I)Ljava/lang/Throwable;" } : Jvm.MethodName)) ∈ GT := gt_t 227 (by decide +kernel) (by decide +kernel)
theorem tk_229 : (Jvm.Cond.instanceMethod ({ cls := "java/lang/Throwable", name := "fillInStackTrace", desc := "(I)Ljava/lang/Throwable;" } : Jvm.MethodName)) ∈ GT := gt_t 229 (by decide +kernel) (by decide +kernel)
theorem tk_230 : (Jvm.Cond.instantiable "java/lang/Throwable" 6) ∈ GT := gt_t 230 (by decide +kernel) (by decide +kernel)
theorem tq_231 : (Jvm.Cond.native ({ cls := "java/lang/Throwable", name := "fillInStackTrace", desc := "(I)Ljava/lang/Throwable;" } : Jvm.MethodName)) ∈ tables_1 := List.mem_of_getElem? (i := 231) (by decide +kernel)
theorem tq_232 : (Jvm.Cond.stringRef "WordShapes" 57 "the tape is full") ∈ tables_1 := List.mem_of_getElem? (i := 232) (by decide +kernel)
theorem tk_233 : (Jvm.Cond.methodLink "WordShapes" 59 y_JIllegalStateException_init) ∈ GT := gt_t 233 (by decide +kernel) (by decide +kernel)
theorem tk_234 : (Jvm.Cond.instanceMethod y_JIllegalStateException_init) ∈ GT := gt_t 234 (by decide +kernel) (by decide +kernel)
set_option maxRecDepth 20000 in
theorem tk_235 : (Jvm.Cond.code y_JIllegalStateException_init prog_10_method_2_code 2 (Option.none : Option Jvm.ClassFile.FieldType)) ∈ GT := gt_m (List.mem_append_left _ (List.mem_of_getElem? (i := 235) rfl)) rfl
theorem tk_236 : (Jvm.Cond.methodLink "java/lang/IllegalStateException" 7 y_JRuntimeException_init) ∈ GT := gt_t 236 (by decide +kernel) (by decide +kernel)
theorem tk_237 : (Jvm.Cond.instanceMethod y_JRuntimeException_init) ∈ GT := gt_t 237 (by decide +kernel) (by decide +kernel)
set_option maxRecDepth 20000 in
theorem tk_238 : (Jvm.Cond.code y_JRuntimeException_init prog_13_method_2_code 2 (Option.none : Option Jvm.ClassFile.FieldType)) ∈ GT := gt_m (List.mem_append_left _ (List.mem_of_getElem? (i := 238) rfl)) rfl
theorem tk_239 : (Jvm.Cond.methodLink "java/lang/RuntimeException" 7 y_JException_init) ∈ GT := gt_t 239 (by decide +kernel) (by decide +kernel)
theorem tk_240 : (Jvm.Cond.instanceMethod y_JException_init) ∈ GT := gt_t 240 (by decide +kernel) (by decide +kernel)
set_option maxRecDepth 20000 in
theorem tk_241 : (Jvm.Cond.code y_JException_init prog_8_method_2_code 2 (Option.none : Option Jvm.ClassFile.FieldType)) ∈ GT := gt_m (List.mem_append_right _ (List.mem_append_left _ (List.mem_of_getElem? (i := 1) rfl))) rfl
theorem tk_242 : (Jvm.Cond.methodLink "java/lang/Exception" 7 y_JThrowable_init) ∈ GT := gt_t 242 (by decide +kernel) (by decide +kernel)
theorem tk_243 : (Jvm.Cond.instanceMethod y_JThrowable_init) ∈ GT := gt_t 243 (by decide +kernel) (by decide +kernel)
set_option maxRecDepth 20000 in
theorem tk_244 : (Jvm.Cond.code y_JThrowable_init prog_18_method_2_code 2 (Option.none : Option Jvm.ClassFile.FieldType)) ∈ GT := gt_m (List.mem_append_right _ (List.mem_append_left _ (List.mem_of_getElem? (i := 4) rfl))) rfl
theorem tk_245 : (Jvm.Cond.fieldLink "java/lang/Throwable" 198 "java/lang/Throwable" "backtrace" "Ljava/lang/Object;") ∈ GT := gt_t 245 (by decide +kernel) (by decide +kernel)
theorem tk_246 : (Jvm.Cond.fieldLink "java/lang/Throwable" 31 "java/lang/Throwable" "detailMessage" "Ljava/lang/String;") ∈ GT := gt_t 246 (by decide +kernel) (by decide +kernel)
theorem tk_247 : (Jvm.Cond.fieldLink "java/lang/Throwable" 7 "java/lang/Throwable" "cause" "Ljava/lang/Throwable;") ∈ GT := gt_t 247 (by decide +kernel) (by decide +kernel)
theorem tk_248 : (Jvm.Cond.fieldLink "java/lang/Throwable" 17 "java/lang/Throwable" "stackTrace" "[Ljava/lang/StackTraceElement;") ∈ GT := gt_t 248 (by decide +kernel) (by decide +kernel)
theorem tk_249 : (Jvm.Cond.fieldLink "java/lang/Throwable" 24 "java/lang/Throwable" "suppressedExceptions" "Ljava/util/List;") ∈ GT := gt_t 249 (by decide +kernel) (by decide +kernel)
theorem tk_254 : (Jvm.Cond.lays "java/lang/IllegalStateException" "java/lang/Throwable" "depth" "I") ∈ GT := gt_t 254 (by decide +kernel) (by decide +kernel)
theorem tk_258 : (Jvm.Cond.methodLink "WordShapes" 62 y_W_feedFour) ∈ GT := gt_t 258 (by decide +kernel) (by decide +kernel)
theorem tk_260 : (Jvm.Cond.instanceMethod y_W_feedFour) ∈ GT := gt_t 260 (by decide +kernel) (by decide +kernel)
set_option maxRecDepth 20000 in
theorem tk_261 : (Jvm.Cond.code y_W_feedFour prog_1_method_14_code 3 (Option.none : Option Jvm.ClassFile.FieldType)) ∈ GT := gt_m (List.mem_append_right _ (List.mem_append_left _ (List.mem_of_getElem? (i := 21) rfl))) rfl
theorem tk_262 : (Jvm.Cond.methodLink "WordShapesLaw" 72 y_L_end) ∈ GT := gt_t 262 (by decide +kernel) (by decide +kernel)
theorem tk_263 : (Jvm.Cond.static y_L_end) ∈ GT := gt_t 263 (by decide +kernel) (by decide +kernel)
set_option maxRecDepth 20000 in
theorem tq_264 : (Jvm.Cond.codeWith y_L_end method_4_code 4 (Option.some Jvm.ClassFile.FieldType.int) [(0, 9, 12, 19), (0, 9, 15, 13)]) ∈ tables_1 := List.mem_append_right _ (List.mem_append_left _ (List.mem_of_getElem? (i := 24) rfl))
theorem tk_265 : (Jvm.Cond.classLink "WordShapesLaw" 19 "java/lang/IllegalArgumentException") ∈ GT := gt_t 265 (by decide +kernel) (by decide +kernel)
theorem tk_266 : (Jvm.Cond.methodLink "WordShapesLaw" 15 y_W_end) ∈ GT := gt_t 266 (by decide +kernel) (by decide +kernel)
theorem tk_267 : (Jvm.Cond.instanceMethod y_W_end) ∈ GT := gt_t 267 (by decide +kernel) (by decide +kernel)
theorem tk_268 : (Jvm.Cond.selects "WordShapes" y_W_end y_W_end) ∈ GT := gt_t 268 (by decide +kernel) (by decide +kernel)
set_option maxRecDepth 20000 in
theorem tk_269 : (Jvm.Cond.code y_W_end prog_1_method_3_code 2 (Option.some Jvm.ClassFile.FieldType.int)) ∈ GT := gt_m (List.mem_append_right _ (List.mem_append_left _ (List.mem_of_getElem? (i := 29) rfl))) rfl
theorem tk_270 : (Jvm.Cond.classLink "WordShapes" 65 "java/lang/IllegalArgumentException") ∈ GT := gt_t 270 (by decide +kernel) (by decide +kernel)
theorem tk_271 : (Jvm.Cond.instantiable "java/lang/IllegalArgumentException" 6) ∈ GT := gt_t 271 (by decide +kernel) (by decide +kernel)
theorem tq_272 : (Jvm.Cond.castable "java/lang/IllegalArgumentException" "java/lang/IllegalArgumentException") ∈ tables_1 := List.mem_of_getElem? (i := 272) (by decide +kernel)
theorem tk_273 : (Jvm.Cond.selects "java/lang/IllegalArgumentException" ({ cls := "java/lang/Throwable", name := "fillInStackTrace", desc := "(I)Ljava/lang/Throwable;" } : Jvm.MethodName) ({ cls := "java/lang/Throwable", name := "fillInStackTrace", desc := "(I)Ljava/lang/Throwable;" } : Jvm.MethodName)) ∈ GT := gt_t 273 (by decide +kernel) (by decide +kernel)
theorem tk_274 : (Jvm.Cond.lays "java/lang/IllegalArgumentException" "java/lang/Throwable" "cause" "Ljava/lang/Throwable;") ∈ GT := gt_t 274 (by decide +kernel) (by decide +kernel)
theorem tk_275 : (Jvm.Cond.lays "java/lang/IllegalArgumentException" "java/lang/Throwable" "stackTrace" "[Ljava/lang/StackTraceElement;") ∈ GT := gt_t 275 (by decide +kernel) (by decide +kernel)
theorem tk_276 : (Jvm.Cond.lays "java/lang/IllegalArgumentException" "java/lang/Throwable" "suppressedExceptions" "Ljava/util/List;") ∈ GT := gt_t 276 (by decide +kernel) (by decide +kernel)
theorem tk_277 : (Jvm.Cond.lays "java/lang/IllegalArgumentException" "java/lang/Throwable" "detailMessage" "Ljava/lang/String;") ∈ GT := gt_t 277 (by decide +kernel) (by decide +kernel)
theorem tk_278 : (Jvm.Cond.lays "java/lang/IllegalArgumentException" "java/lang/Throwable" "backtrace" "Ljava/lang/Object;") ∈ GT := gt_t 278 (by decide +kernel) (by decide +kernel)
theorem tq_279 : (Jvm.Cond.stringRef "WordShapes" 67 "n is not 0 .. 20") ∈ tables_1 := List.mem_of_getElem? (i := 279) (by decide +kernel)
theorem tk_280 : (Jvm.Cond.methodLink "WordShapes" 69 y_JIllegalArgumentException_init) ∈ GT := gt_t 280 (by decide +kernel) (by decide +kernel)
theorem tk_281 : (Jvm.Cond.instanceMethod y_JIllegalArgumentException_init) ∈ GT := gt_t 281 (by decide +kernel) (by decide +kernel)
set_option maxRecDepth 20000 in
theorem tk_282 : (Jvm.Cond.code y_JIllegalArgumentException_init prog_9_method_2_code 2 (Option.none : Option Jvm.ClassFile.FieldType)) ∈ GT := gt_m (List.mem_append_right _ (List.mem_append_left _ (List.mem_of_getElem? (i := 42) rfl))) rfl
theorem tk_283 : (Jvm.Cond.methodLink "java/lang/IllegalArgumentException" 7 y_JRuntimeException_init) ∈ GT := gt_t 283 (by decide +kernel) (by decide +kernel)
theorem tk_284 : (Jvm.Cond.lays "java/lang/IllegalArgumentException" "java/lang/Throwable" "depth" "I") ∈ GT := gt_t 284 (by decide +kernel) (by decide +kernel)
theorem tq_286 : (Jvm.Cond.stringRef "WordShapes" 70 "the tape has less than twenty bytes") ∈ tables_1 := List.mem_of_getElem? (i := 286) (by decide +kernel)
theorem tk_287 : (Jvm.Cond.methodLink "WordShapesLaw" 76 y_L_read) ∈ GT := gt_t 287 (by decide +kernel) (by decide +kernel)
theorem tk_288 : (Jvm.Cond.static y_L_read) ∈ GT := gt_t 288 (by decide +kernel) (by decide +kernel)
set_option maxRecDepth 20000 in
theorem tq_289 : (Jvm.Cond.codeWith y_L_read method_5_code 4 (Option.some Jvm.ClassFile.FieldType.int) [(0, 9, 12, 24), (0, 9, 15, 19)]) ∈ tables_1 := List.mem_append_right _ (List.mem_append_left _ (List.mem_of_getElem? (i := 49) rfl))
theorem tk_290 : (Jvm.Cond.classLink "WordShapesLaw" 24 "java/lang/IndexOutOfBoundsException") ∈ GT := gt_t 290 (by decide +kernel) (by decide +kernel)
theorem tk_291 : (Jvm.Cond.methodLink "WordShapesLaw" 21 y_W_read) ∈ GT := gt_t 291 (by decide +kernel) (by decide +kernel)
theorem tk_292 : (Jvm.Cond.instanceMethod y_W_read) ∈ GT := gt_t 292 (by decide +kernel) (by decide +kernel)
theorem tk_293 : (Jvm.Cond.selects "WordShapes" y_W_read y_W_read) ∈ GT := gt_t 293 (by decide +kernel) (by decide +kernel)
set_option maxRecDepth 20000 in
theorem tk_294 : (Jvm.Cond.code y_W_read prog_1_method_4_code 4 (Option.some Jvm.ClassFile.FieldType.int)) ∈ GT := gt_m (List.mem_append_right _ (List.mem_append_left _ (List.mem_of_getElem? (i := 54) rfl))) rfl
theorem tk_295 : (Jvm.Cond.methodLink "WordShapes" 72 y_W_shapeIn) ∈ GT := gt_t 295 (by decide +kernel) (by decide +kernel)
theorem tk_297 : (Jvm.Cond.instanceMethod y_W_shapeIn) ∈ GT := gt_t 297 (by decide +kernel) (by decide +kernel)
set_option maxRecDepth 20000 in
theorem tk_298 : (Jvm.Cond.code y_W_shapeIn prog_1_method_13_code 2 (Option.some (Jvm.ClassFile.FieldType.object "WordShapes$Shape"))) ∈ GT := gt_m (List.mem_append_right _ (List.mem_append_left _ (List.mem_of_getElem? (i := 58) rfl))) rfl
theorem tk_299 : (Jvm.Cond.classLink "WordShapes" 100 "java/lang/IndexOutOfBoundsException") ∈ GT := gt_t 299 (by decide +kernel) (by decide +kernel)
theorem tk_300 : (Jvm.Cond.instantiable "java/lang/IndexOutOfBoundsException" 6) ∈ GT := gt_t 300 (by decide +kernel) (by decide +kernel)
theorem tq_301 : (Jvm.Cond.castable "java/lang/IndexOutOfBoundsException" "java/lang/IndexOutOfBoundsException") ∈ tables_1 := List.mem_of_getElem? (i := 301) (by decide +kernel)
theorem tk_302 : (Jvm.Cond.selects "java/lang/IndexOutOfBoundsException" ({ cls := "java/lang/Throwable", name := "fillInStackTrace", desc := "(I)Ljava/lang/Throwable;" } : Jvm.MethodName) ({ cls := "java/lang/Throwable", name := "fillInStackTrace", desc := "(I)Ljava/lang/Throwable;" } : Jvm.MethodName)) ∈ GT := gt_t 302 (by decide +kernel) (by decide +kernel)
theorem tk_303 : (Jvm.Cond.lays "java/lang/IndexOutOfBoundsException" "java/lang/Throwable" "cause" "Ljava/lang/Throwable;") ∈ GT := gt_t 303 (by decide +kernel) (by decide +kernel)
theorem tk_304 : (Jvm.Cond.lays "java/lang/IndexOutOfBoundsException" "java/lang/Throwable" "stackTrace" "[Ljava/lang/StackTraceElement;") ∈ GT := gt_t 304 (by decide +kernel) (by decide +kernel)
theorem tk_305 : (Jvm.Cond.lays "java/lang/IndexOutOfBoundsException" "java/lang/Throwable" "suppressedExceptions" "Ljava/util/List;") ∈ GT := gt_t 305 (by decide +kernel) (by decide +kernel)
theorem tk_306 : (Jvm.Cond.lays "java/lang/IndexOutOfBoundsException" "java/lang/Throwable" "detailMessage" "Ljava/lang/String;") ∈ GT := gt_t 306 (by decide +kernel) (by decide +kernel)
theorem tk_307 : (Jvm.Cond.lays "java/lang/IndexOutOfBoundsException" "java/lang/Throwable" "backtrace" "Ljava/lang/Object;") ∈ GT := gt_t 307 (by decide +kernel) (by decide +kernel)
theorem tq_308 : (Jvm.Cond.stringRef "WordShapes" 156 "no such slot") ∈ tables_1 := List.mem_of_getElem? (i := 308) (by decide +kernel)
theorem tk_309 : (Jvm.Cond.methodLink "WordShapes" 104 y_JIndexOutOfBoundsException_init) ∈ GT := gt_t 309 (by decide +kernel) (by decide +kernel)
theorem tk_310 : (Jvm.Cond.instanceMethod y_JIndexOutOfBoundsException_init) ∈ GT := gt_t 310 (by decide +kernel) (by decide +kernel)
set_option maxRecDepth 20000 in
theorem tk_311 : (Jvm.Cond.code y_JIndexOutOfBoundsException_init prog_11_method_2_code 2 (Option.none : Option Jvm.ClassFile.FieldType)) ∈ GT := gt_m (List.mem_append_right _ (List.mem_append_left _ (List.mem_of_getElem? (i := 71) rfl))) rfl
theorem tk_312 : (Jvm.Cond.methodLink "java/lang/IndexOutOfBoundsException" 7 y_JRuntimeException_init) ∈ GT := gt_t 312 (by decide +kernel) (by decide +kernel)
theorem tk_313 : (Jvm.Cond.lays "java/lang/IndexOutOfBoundsException" "java/lang/Throwable" "depth" "I") ∈ GT := gt_t 313 (by decide +kernel) (by decide +kernel)
theorem tk_315 : (Jvm.Cond.methodLink "WordShapes" 76 y_S_clear) ∈ GT := gt_t 315 (by decide +kernel) (by decide +kernel)
theorem tk_316 : (Jvm.Cond.instanceMethod y_S_clear) ∈ GT := gt_t 316 (by decide +kernel) (by decide +kernel)
theorem tk_317 : (Jvm.Cond.selects "WordShapes$Shape" y_S_clear y_S_clear) ∈ GT := gt_t 317 (by decide +kernel) (by decide +kernel)
set_option maxRecDepth 20000 in
theorem tk_318 : (Jvm.Cond.code y_S_clear prog_4_method_2_code 1 (Option.none : Option Jvm.ClassFile.FieldType)) ∈ GT := gt_m (List.mem_append_right _ (List.mem_append_left _ (List.mem_of_getElem? (i := 78) rfl))) rfl
theorem tk_319 : (Jvm.Cond.methodLink "WordShapes" 79 y_R_readText) ∈ GT := gt_t 319 (by decide +kernel) (by decide +kernel)
theorem tk_320 : (Jvm.Cond.instanceMethod y_R_readText) ∈ GT := gt_t 320 (by decide +kernel) (by decide +kernel)
theorem tk_321 : (Jvm.Cond.selects "WordShapes$Reader" y_R_readText y_R_readText) ∈ GT := gt_t 321 (by decide +kernel) (by decide +kernel)
set_option maxRecDepth 20000 in
theorem tk_322 : (Jvm.Cond.code y_R_readText prog_3_method_2_code 4 (Option.none : Option Jvm.ClassFile.FieldType)) ∈ GT := gt_m (List.mem_append_right _ (List.mem_append_left _ (List.mem_of_getElem? (i := 82) rfl))) rfl
theorem tk_323 : (Jvm.Cond.methodLink "WordShapes$Reader" 30 y_JMath_min) ∈ GT := gt_t 323 (by decide +kernel) (by decide +kernel)
theorem tk_324 : (Jvm.Cond.methodLink "WordShapes$Reader" 48 y_S_clear) ∈ GT := gt_t 324 (by decide +kernel) (by decide +kernel)
theorem tk_325 : (Jvm.Cond.methodLink "WordShapes$Reader" 53 y_B_start) ∈ GT := gt_t 325 (by decide +kernel) (by decide +kernel)
theorem tk_326 : (Jvm.Cond.instanceMethod y_B_start) ∈ GT := gt_t 326 (by decide +kernel) (by decide +kernel)
theorem tk_327 : (Jvm.Cond.selects "WordShapes$Brackets" y_B_start y_B_start) ∈ GT := gt_t 327 (by decide +kernel) (by decide +kernel)
set_option maxRecDepth 20000 in
theorem tk_328 : (Jvm.Cond.code y_B_start prog_2_method_2_code 2 (Option.none : Option Jvm.ClassFile.FieldType)) ∈ GT := gt_m (List.mem_append_right _ (List.mem_append_left _ (List.mem_of_getElem? (i := 88) rfl))) rfl
theorem tk_329 : (Jvm.Cond.methodLink "WordShapes$Reader" 57 y_R_opensItem) ∈ GT := gt_t 329 (by decide +kernel) (by decide +kernel)
theorem tk_331 : (Jvm.Cond.instanceMethod y_R_opensItem) ∈ GT := gt_t 331 (by decide +kernel) (by decide +kernel)
set_option maxRecDepth 20000 in
theorem tk_332 : (Jvm.Cond.code y_R_opensItem prog_3_method_3_code 3 (Option.some Jvm.ClassFile.FieldType.boolean)) ∈ GT := gt_m (List.mem_append_right _ (List.mem_append_left _ (List.mem_of_getElem? (i := 92) rfl))) rfl
theorem tk_333 : (Jvm.Cond.methodLink "WordShapes$Reader" 64 y_R_skipBlanks) ∈ GT := gt_t 333 (by decide +kernel) (by decide +kernel)
theorem tk_335 : (Jvm.Cond.instanceMethod y_R_skipBlanks) ∈ GT := gt_t 335 (by decide +kernel) (by decide +kernel)
set_option maxRecDepth 20000 in
theorem tk_336 : (Jvm.Cond.code y_R_skipBlanks prog_3_method_21_code 1 (Option.none : Option Jvm.ClassFile.FieldType)) ∈ GT := gt_m (List.mem_append_right _ (List.mem_append_left _ (List.mem_of_getElem? (i := 96) rfl))) rfl
theorem tk_337 : (Jvm.Cond.methodLink "WordShapes$Reader" 191 y_R_isBlank) ∈ GT := gt_t 337 (by decide +kernel) (by decide +kernel)
theorem tk_338 : (Jvm.Cond.static y_R_isBlank) ∈ GT := gt_t 338 (by decide +kernel) (by decide +kernel)
set_option maxRecDepth 20000 in
theorem tk_339 : (Jvm.Cond.code y_R_isBlank prog_3_method_25_code 1 (Option.some Jvm.ClassFile.FieldType.boolean)) ∈ GT := gt_m (List.mem_append_right _ (List.mem_append_left _ (List.mem_of_getElem? (i := 99) rfl))) rfl
theorem tk_340 : (Jvm.Cond.methodLink "WordShapes$Reader" 71 y_B_number) ∈ GT := gt_t 340 (by decide +kernel) (by decide +kernel)
theorem tk_341 : (Jvm.Cond.instanceMethod y_B_number) ∈ GT := gt_t 341 (by decide +kernel) (by decide +kernel)
theorem tk_342 : (Jvm.Cond.selects "WordShapes$Brackets" y_B_number y_B_number) ∈ GT := gt_t 342 (by decide +kernel) (by decide +kernel)
set_option maxRecDepth 20000 in
theorem tk_343 : (Jvm.Cond.code y_B_number prog_2_method_6_code 1 (Option.some Jvm.ClassFile.FieldType.int)) ∈ GT := gt_m (List.mem_append_right _ (List.mem_append_left _ (List.mem_of_getElem? (i := 103) rfl))) rfl
theorem tk_344 : (Jvm.Cond.methodLink "WordShapes$Reader" 75 y_S_addOneAt) ∈ GT := gt_t 344 (by decide +kernel) (by decide +kernel)
theorem tk_345 : (Jvm.Cond.instanceMethod y_S_addOneAt) ∈ GT := gt_t 345 (by decide +kernel) (by decide +kernel)
theorem tk_346 : (Jvm.Cond.selects "WordShapes$Shape" y_S_addOneAt y_S_addOneAt) ∈ GT := gt_t 346 (by decide +kernel) (by decide +kernel)
set_option maxRecDepth 20000 in
theorem tk_347 : (Jvm.Cond.code y_S_addOneAt prog_4_method_8_code 2 (Option.none : Option Jvm.ClassFile.FieldType)) ∈ GT := gt_m (List.mem_append_right _ (List.mem_append_left _ (List.mem_of_getElem? (i := 107) rfl))) rfl
theorem tk_348 : (Jvm.Cond.methodLink "WordShapes$Reader" 78 y_B_kind) ∈ GT := gt_t 348 (by decide +kernel) (by decide +kernel)
theorem tk_349 : (Jvm.Cond.instanceMethod y_B_kind) ∈ GT := gt_t 349 (by decide +kernel) (by decide +kernel)
theorem tk_350 : (Jvm.Cond.selects "WordShapes$Brackets" y_B_kind y_B_kind) ∈ GT := gt_t 350 (by decide +kernel) (by decide +kernel)
set_option maxRecDepth 20000 in
theorem tk_351 : (Jvm.Cond.code y_B_kind prog_2_method_5_code 1 (Option.some Jvm.ClassFile.FieldType.int)) ∈ GT := gt_m (List.mem_append_right _ (List.mem_append_left _ (List.mem_of_getElem? (i := 111) rfl))) rfl
theorem tk_352 : (Jvm.Cond.methodLink "WordShapes$Reader" 81 y_R_readKind) ∈ GT := gt_t 352 (by decide +kernel) (by decide +kernel)
theorem tk_354 : (Jvm.Cond.instanceMethod y_R_readKind) ∈ GT := gt_t 354 (by decide +kernel) (by decide +kernel)
set_option maxRecDepth 20000 in
theorem tk_355 : (Jvm.Cond.code y_R_readKind prog_3_method_5_code 3 (Option.some Jvm.ClassFile.FieldType.int)) ∈ GT := gt_m (List.mem_append_right _ (List.mem_append_left _ (List.mem_of_getElem? (i := 115) rfl))) rfl
theorem tk_356 : (Jvm.Cond.methodLink "WordShapes$Reader" 91 y_R_here) ∈ GT := gt_t 356 (by decide +kernel) (by decide +kernel)
theorem tk_358 : (Jvm.Cond.instanceMethod y_R_here) ∈ GT := gt_t 358 (by decide +kernel) (by decide +kernel)
set_option maxRecDepth 20000 in
theorem tk_359 : (Jvm.Cond.code y_R_here prog_3_method_22_code 1 (Option.some Jvm.ClassFile.FieldType.int)) ∈ GT := gt_m (List.mem_append_right _ (List.mem_append_left _ (List.mem_of_getElem? (i := 119) rfl))) rfl
theorem tk_360 : (Jvm.Cond.methodLink "WordShapes$Reader" 115 y_R_isLetter) ∈ GT := gt_t 360 (by decide +kernel) (by decide +kernel)
theorem tk_361 : (Jvm.Cond.static y_R_isLetter) ∈ GT := gt_t 361 (by decide +kernel) (by decide +kernel)
set_option maxRecDepth 20000 in
theorem tk_362 : (Jvm.Cond.code y_R_isLetter prog_3_method_26_code 1 (Option.some Jvm.ClassFile.FieldType.boolean)) ∈ GT := gt_m (List.mem_append_right _ (List.mem_append_left _ (List.mem_of_getElem? (i := 122) rfl))) rfl
theorem tk_363 : (Jvm.Cond.methodLink "WordShapes$Reader" 118 y_R_failHere) ∈ GT := gt_t 363 (by decide +kernel) (by decide +kernel)
theorem tk_365 : (Jvm.Cond.instanceMethod y_R_failHere) ∈ GT := gt_t 365 (by decide +kernel) (by decide +kernel)
set_option maxRecDepth 20000 in
theorem tk_366 : (Jvm.Cond.code y_R_failHere prog_3_method_23_code 3 (Option.none : Option Jvm.ClassFile.FieldType)) ∈ GT := gt_m (List.mem_append_right _ (List.mem_append_left _ (List.mem_of_getElem? (i := 126) rfl))) rfl
theorem tk_367 : (Jvm.Cond.methodLink "WordShapes$Reader" 94 y_R_beginsNumber) ∈ GT := gt_t 367 (by decide +kernel) (by decide +kernel)
theorem tk_368 : (Jvm.Cond.static y_R_beginsNumber) ∈ GT := gt_t 368 (by decide +kernel) (by decide +kernel)
set_option maxRecDepth 20000 in
theorem tk_369 : (Jvm.Cond.code y_R_beginsNumber prog_3_method_28_code 1 (Option.some Jvm.ClassFile.FieldType.boolean)) ∈ GT := gt_m (List.mem_append_right _ (List.mem_append_left _ (List.mem_of_getElem? (i := 129) rfl))) rfl
theorem tk_370 : (Jvm.Cond.methodLink "WordShapes$Reader" 67 y_R_fail) ∈ GT := gt_t 370 (by decide +kernel) (by decide +kernel)
theorem tk_372 : (Jvm.Cond.instanceMethod y_R_fail) ∈ GT := gt_t 372 (by decide +kernel) (by decide +kernel)
set_option maxRecDepth 20000 in
theorem tk_373 : (Jvm.Cond.code y_R_fail prog_3_method_24_code 3 (Option.none : Option Jvm.ClassFile.FieldType)) ∈ GT := gt_m (List.mem_append_right _ (List.mem_append_left _ (List.mem_of_getElem? (i := 133) rfl))) rfl
theorem tk_374 : (Jvm.Cond.classLink "WordShapes$Reader" 194 "java/lang/IllegalArgumentException") ∈ GT := gt_t 374 (by decide +kernel) (by decide +kernel)
theorem tq_375 : (Jvm.Cond.stringRef "WordShapes$Reader" 196 "something is wrong in the text") ∈ tables_1 := List.mem_of_getElem? (i := 375) (by decide +kernel)
theorem tk_376 : (Jvm.Cond.methodLink "WordShapes$Reader" 198 y_JIllegalArgumentException_init) ∈ GT := gt_t 376 (by decide +kernel) (by decide +kernel)
theorem tk_377 : (Jvm.Cond.methodLink "WordShapes$Reader" 121 y_R_passLetters) ∈ GT := gt_t 377 (by decide +kernel) (by decide +kernel)
theorem tk_379 : (Jvm.Cond.instanceMethod y_R_passLetters) ∈ GT := gt_t 379 (by decide +kernel) (by decide +kernel)
set_option maxRecDepth 20000 in
theorem tk_380 : (Jvm.Cond.code y_R_passLetters prog_3_method_20_code 1 (Option.none : Option Jvm.ClassFile.FieldType)) ∈ GT := gt_m (List.mem_append_right _ (List.mem_append_left _ (List.mem_of_getElem? (i := 140) rfl))) rfl
theorem tk_381 : (Jvm.Cond.methodLink "WordShapes$Reader" 124 y_R_kindFrom) ∈ GT := gt_t 381 (by decide +kernel) (by decide +kernel)
theorem tk_383 : (Jvm.Cond.instanceMethod y_R_kindFrom) ∈ GT := gt_t 383 (by decide +kernel) (by decide +kernel)
set_option maxRecDepth 20000 in
theorem tk_384 : (Jvm.Cond.code y_R_kindFrom prog_3_method_14_code 3 (Option.some Jvm.ClassFile.FieldType.int)) ∈ GT := gt_m (List.mem_append_right _ (List.mem_append_left _ (List.mem_of_getElem? (i := 144) rfl))) rfl
theorem tq_385 : (Jvm.Cond.methodLinkNest "WordShapes$Reader" 173 y_W_wordOf "WordShapes") ∈ tables_1 := List.mem_of_getElem? (i := 385) (by decide +kernel)
theorem tk_386 : (Jvm.Cond.static y_W_wordOf) ∈ GT := gt_t 386 (by decide +kernel) (by decide +kernel)
set_option maxRecDepth 20000 in
theorem tk_387 : (Jvm.Cond.code y_W_wordOf prog_1_method_15_code 1 (Option.some (Jvm.ClassFile.FieldType.object "java/lang/String"))) ∈ GT := gt_m (List.mem_append_right _ (List.mem_append_left _ (List.mem_of_getElem? (i := 147) rfl))) rfl
theorem tq_388 : (Jvm.Cond.stringRef "WordShapes" 158 "POINT") ∈ tables_1 := List.mem_of_getElem? (i := 388) (by decide +kernel)
theorem tq_389 : (Jvm.Cond.stringRef "WordShapes" 160 "LINESTRING") ∈ tables_1 := List.mem_of_getElem? (i := 389) (by decide +kernel)
theorem tq_390 : (Jvm.Cond.stringRef "WordShapes" 162 "POLYGON") ∈ tables_1 := List.mem_of_getElem? (i := 390) (by decide +kernel)
theorem tq_391 : (Jvm.Cond.stringRef "WordShapes" 164 "MULTIPOINT") ∈ tables_1 := List.mem_of_getElem? (i := 391) (by decide +kernel)
theorem tq_392 : (Jvm.Cond.stringRef "WordShapes" 166 "MULTILINESTRING") ∈ tables_1 := List.mem_of_getElem? (i := 392) (by decide +kernel)
theorem tq_393 : (Jvm.Cond.stringRef "WordShapes" 168 "MULTIPOLYGON") ∈ tables_1 := List.mem_of_getElem? (i := 393) (by decide +kernel)
theorem tq_394 : (Jvm.Cond.stringRef "WordShapes" 170 "GEOMETRYCOLLECTION") ∈ tables_1 := List.mem_of_getElem? (i := 394) (by decide +kernel)
theorem tk_395 : (Jvm.Cond.methodLink "WordShapes$Reader" 177 y_R_isWord) ∈ GT := gt_t 395 (by decide +kernel) (by decide +kernel)
theorem tk_397 : (Jvm.Cond.instanceMethod y_R_isWord) ∈ GT := gt_t 397 (by decide +kernel) (by decide +kernel)
set_option maxRecDepth 20000 in
theorem tk_398 : (Jvm.Cond.code y_R_isWord prog_3_method_16_code 4 (Option.some Jvm.ClassFile.FieldType.boolean)) ∈ GT := gt_m (List.mem_append_right _ (List.mem_append_left _ (List.mem_of_getElem? (i := 158) rfl))) rfl
theorem tk_399 : (Jvm.Cond.methodLink "WordShapes$Reader" 183 y_JString_length) ∈ GT := gt_t 399 (by decide +kernel) (by decide +kernel)
theorem tk_400 : (Jvm.Cond.instanceMethod y_JString_length) ∈ GT := gt_t 400 (by decide +kernel) (by decide +kernel)
theorem tk_401 : (Jvm.Cond.selects "java/lang/String" y_JString_length y_JString_length) ∈ GT := gt_t 401 (by decide +kernel) (by decide +kernel)
set_option maxRecDepth 20000 in
theorem tk_402 : (Jvm.Cond.code y_JString_length prog_14_method_54_code 1 (Option.some Jvm.ClassFile.FieldType.int)) ∈ GT := gt_m (List.mem_append_right _ (List.mem_append_left _ (List.mem_of_getElem? (i := 162) rfl))) rfl
theorem tk_403 : (Jvm.Cond.methodLink "java/lang/String" 335 y_JString_coder) ∈ GT := gt_t 403 (by decide +kernel) (by decide +kernel)
theorem tk_404 : (Jvm.Cond.instanceMethod y_JString_coder) ∈ GT := gt_t 404 (by decide +kernel) (by decide +kernel)
theorem tk_405 : (Jvm.Cond.selects "java/lang/String" y_JString_coder y_JString_coder) ∈ GT := gt_t 405 (by decide +kernel) (by decide +kernel)
set_option maxRecDepth 20000 in
theorem tk_406 : (Jvm.Cond.code y_JString_coder prog_14_method_152_code 1 (Option.some Jvm.ClassFile.FieldType.byte)) ∈ GT := gt_m (List.mem_append_right _ (List.mem_append_left _ (List.mem_of_getElem? (i := 166) rfl))) rfl
theorem tk_407 : (Jvm.Cond.fieldLink "java/lang/String" 38 "java/lang/String" "COMPACT_STRINGS" "Z") ∈ GT := gt_t 407 (by decide +kernel) (by decide +kernel)
theorem tq_408 : (Jvm.Cond.laysStatic "java/lang/String" "COMPACT_STRINGS" "Z") ∈ tables_1 := List.mem_of_getElem? (i := 408) (by decide +kernel)
theorem tk_409 : (Jvm.Cond.methodLink "WordShapes$Reader" 187 y_JString_charAt) ∈ GT := gt_t 409 (by decide +kernel) (by decide +kernel)
theorem tk_410 : (Jvm.Cond.instanceMethod y_JString_charAt) ∈ GT := gt_t 410 (by decide +kernel) (by decide +kernel)
theorem tk_411 : (Jvm.Cond.selects "java/lang/String" y_JString_charAt y_JString_charAt) ∈ GT := gt_t 411 (by decide +kernel) (by decide +kernel)
set_option maxRecDepth 20000 in
theorem tk_412 : (Jvm.Cond.code y_JString_charAt prog_14_method_56_code 2 (Option.some Jvm.ClassFile.FieldType.char)) ∈ GT := gt_m (List.mem_append_right _ (List.mem_append_left _ (List.mem_of_getElem? (i := 172) rfl))) rfl
theorem tk_413 : (Jvm.Cond.methodLink "java/lang/String" 492 y_JString_isLatin1) ∈ GT := gt_t 413 (by decide +kernel) (by decide +kernel)
theorem tk_414 : (Jvm.Cond.instanceMethod y_JString_isLatin1) ∈ GT := gt_t 414 (by decide +kernel) (by decide +kernel)
theorem tk_415 : (Jvm.Cond.selects "java/lang/String" y_JString_isLatin1 y_JString_isLatin1) ∈ GT := gt_t 415 (by decide +kernel) (by decide +kernel)
set_option maxRecDepth 20000 in
theorem tk_416 : (Jvm.Cond.code y_JString_isLatin1 prog_14_method_154_code 1 (Option.some Jvm.ClassFile.FieldType.boolean)) ∈ GT := gt_m (List.mem_append_right _ (List.mem_append_left _ (List.mem_of_getElem? (i := 176) rfl))) rfl
theorem tk_417 : (Jvm.Cond.methodLink "java/lang/String" 495 y_JStringLatin1_charAt) ∈ GT := gt_t 417 (by decide +kernel) (by decide +kernel)
theorem tk_418 : (Jvm.Cond.static y_JStringLatin1_charAt) ∈ GT := gt_t 418 (by decide +kernel) (by decide +kernel)
set_option maxRecDepth 20000 in
theorem tk_419 : (Jvm.Cond.code y_JStringLatin1_charAt prog_15_method_2_code 2 (Option.some Jvm.ClassFile.FieldType.char)) ∈ GT := gt_m (List.mem_append_right _ (List.mem_append_left _ (List.mem_of_getElem? (i := 179) rfl))) rfl
theorem tk_420 : (Jvm.Cond.methodLink "java/lang/StringLatin1" 9 y_JString_checkIndex) ∈ GT := gt_t 420 (by decide +kernel) (by decide +kernel)
theorem tk_421 : (Jvm.Cond.static y_JString_checkIndex) ∈ GT := gt_t 421 (by decide +kernel) (by decide +kernel)
set_option maxRecDepth 20000 in
theorem tk_422 : (Jvm.Cond.code y_JString_checkIndex prog_14_method_155_code 2 (Option.none : Option Jvm.ClassFile.FieldType)) ∈ GT := gt_m (List.mem_append_right _ (List.mem_append_left _ (List.mem_of_getElem? (i := 182) rfl))) rfl
theorem tk_423 : (Jvm.Cond.fieldLink "java/lang/String" 1053 "jdk/internal/util/Preconditions" "SIOOBE_FORMATTER" "Ljava/util/function/BiFunction;") ∈ GT := gt_t 423 (by decide +kernel) (by decide +kernel)
theorem tq_424 : (Jvm.Cond.laysStatic "jdk/internal/util/Preconditions" "SIOOBE_FORMATTER" "Ljava/util/function/BiFunction;") ∈ tables_1 := List.mem_of_getElem? (i := 424) (by decide +kernel)
theorem tk_425 : (Jvm.Cond.methodLink "java/lang/String" 1059 y_JPreconditions_checkIndex) ∈ GT := gt_t 425 (by decide +kernel) (by decide +kernel)
theorem tk_426 : (Jvm.Cond.static y_JPreconditions_checkIndex) ∈ GT := gt_t 426 (by decide +kernel) (by decide +kernel)
set_option maxRecDepth 20000 in
theorem tk_427 : (Jvm.Cond.code y_JPreconditions_checkIndex prog_20_method_11_code 3 (Option.some Jvm.ClassFile.FieldType.int)) ∈ GT := gt_m (List.mem_append_right _ (List.mem_append_left _ (List.mem_of_getElem? (i := 187) rfl))) rfl
theorem tk_428 : (Jvm.Cond.methodLink "java/lang/String" 498 y_JStringUTF16_charAt) ∈ GT := gt_t 428 (by decide +kernel) (by decide +kernel)
theorem tk_429 : (Jvm.Cond.static y_JStringUTF16_charAt) ∈ GT := gt_t 429 (by decide +kernel) (by decide +kernel)
set_option maxRecDepth 20000 in
theorem tk_430 : (Jvm.Cond.code y_JStringUTF16_charAt prog_16_method_83_code 2 (Option.some Jvm.ClassFile.FieldType.char)) ∈ GT := gt_m (List.mem_append_right _ (List.mem_append_left _ (List.mem_of_getElem? (i := 190) rfl))) rfl
theorem tk_431 : (Jvm.Cond.methodLink "java/lang/StringUTF16" 67 y_JStringUTF16_checkIndex) ∈ GT := gt_t 431 (by decide +kernel) (by decide +kernel)
theorem tk_432 : (Jvm.Cond.static y_JStringUTF16_checkIndex) ∈ GT := gt_t 432 (by decide +kernel) (by decide +kernel)
set_option maxRecDepth 20000 in
theorem tk_433 : (Jvm.Cond.code y_JStringUTF16_checkIndex prog_16_method_91_code 2 (Option.none : Option Jvm.ClassFile.FieldType)) ∈ GT := gt_m (List.mem_append_right _ (List.mem_append_left _ (List.mem_of_getElem? (i := 193) rfl))) rfl
theorem tk_434 : (Jvm.Cond.methodLink "java/lang/StringUTF16" 48 y_JStringUTF16_length) ∈ GT := gt_t 434 (by decide +kernel) (by decide +kernel)
theorem tk_435 : (Jvm.Cond.static y_JStringUTF16_length) ∈ GT := gt_t 435 (by decide +kernel) (by decide +kernel)
set_option maxRecDepth 20000 in
theorem tk_436 : (Jvm.Cond.code y_JStringUTF16_length prog_16_method_6_code 1 (Option.some Jvm.ClassFile.FieldType.int)) ∈ GT := gt_m (List.mem_append_right _ (List.mem_append_left _ (List.mem_of_getElem? (i := 196) rfl))) rfl
theorem tk_437 : (Jvm.Cond.methodLink "java/lang/StringUTF16" 414 y_JString_checkIndex) ∈ GT := gt_t 437 (by decide +kernel) (by decide +kernel)
theorem tk_438 : (Jvm.Cond.methodLink "java/lang/StringUTF16" 71 y_JStringUTF16_getChar) ∈ GT := gt_t 438 (by decide +kernel) (by decide +kernel)
theorem tk_439 : (Jvm.Cond.static y_JStringUTF16_getChar) ∈ GT := gt_t 439 (by decide +kernel) (by decide +kernel)
set_option maxRecDepth 20000 in
theorem tk_440 : (Jvm.Cond.code y_JStringUTF16_getChar prog_16_method_5_code 2 (Option.some Jvm.ClassFile.FieldType.char)) ∈ GT := gt_m (List.mem_append_right _ (List.mem_append_left _ (List.mem_of_getElem? (i := 200) rfl))) rfl
theorem tk_441 : (Jvm.Cond.fieldLink "java/lang/StringUTF16" 44 "java/lang/StringUTF16" "$assertionsDisabled" "Z") ∈ GT := gt_t 441 (by decide +kernel) (by decide +kernel)
theorem tq_442 : (Jvm.Cond.laysStatic "java/lang/StringUTF16" "$assertionsDisabled" "Z") ∈ tables_1 := List.mem_of_getElem? (i := 442) (by decide +kernel)
theorem tk_443 : (Jvm.Cond.fieldLink "java/lang/StringUTF16" 59 "java/lang/StringUTF16" "HI_BYTE_SHIFT" "I") ∈ GT := gt_t 443 (by decide +kernel) (by decide +kernel)
theorem tq_444 : (Jvm.Cond.laysStatic "java/lang/StringUTF16" "HI_BYTE_SHIFT" "I") ∈ tables_1 := List.mem_of_getElem? (i := 444) (by decide +kernel)
theorem tk_445 : (Jvm.Cond.fieldLink "java/lang/StringUTF16" 63 "java/lang/StringUTF16" "LO_BYTE_SHIFT" "I") ∈ GT := gt_t 445 (by decide +kernel) (by decide +kernel)
theorem tq_446 : (Jvm.Cond.laysStatic "java/lang/StringUTF16" "LO_BYTE_SHIFT" "I") ∈ tables_1 := List.mem_of_getElem? (i := 446) (by decide +kernel)
theorem tk_447 : (Jvm.Cond.methodLink "WordShapes$Reader" 84 y_R_keepKind) ∈ GT := gt_t 447 (by decide +kernel) (by decide +kernel)
theorem tk_449 : (Jvm.Cond.instanceMethod y_R_keepKind) ∈ GT := gt_t 449 (by decide +kernel) (by decide +kernel)
set_option maxRecDepth 20000 in
theorem tk_450 : (Jvm.Cond.code y_R_keepKind prog_3_method_6_code 2 (Option.none : Option Jvm.ClassFile.FieldType)) ∈ GT := gt_m (List.mem_append_right _ (List.mem_append_left _ (List.mem_of_getElem? (i := 210) rfl))) rfl
theorem tk_451 : (Jvm.Cond.methodLink "WordShapes$Reader" 128 y_S_hasRoomFor) ∈ GT := gt_t 451 (by decide +kernel) (by decide +kernel)
theorem tk_452 : (Jvm.Cond.instanceMethod y_S_hasRoomFor) ∈ GT := gt_t 452 (by decide +kernel) (by decide +kernel)
theorem tk_453 : (Jvm.Cond.selects "WordShapes$Shape" y_S_hasRoomFor y_S_hasRoomFor) ∈ GT := gt_t 453 (by decide +kernel) (by decide +kernel)
set_option maxRecDepth 20000 in
theorem tk_454 : (Jvm.Cond.code y_S_hasRoomFor prog_4_method_4_code 2 (Option.some Jvm.ClassFile.FieldType.boolean)) ∈ GT := gt_m (List.mem_append_right _ (List.mem_append_left _ (List.mem_of_getElem? (i := 214) rfl))) rfl
theorem tk_455 : (Jvm.Cond.methodLink "WordShapes$Reader" 131 y_S_addNumber) ∈ GT := gt_t 455 (by decide +kernel) (by decide +kernel)
theorem tk_456 : (Jvm.Cond.instanceMethod y_S_addNumber) ∈ GT := gt_t 456 (by decide +kernel) (by decide +kernel)
theorem tk_457 : (Jvm.Cond.selects "WordShapes$Shape" y_S_addNumber y_S_addNumber) ∈ GT := gt_t 457 (by decide +kernel) (by decide +kernel)
set_option maxRecDepth 20000 in
theorem tk_458 : (Jvm.Cond.code y_S_addNumber prog_4_method_6_code 2 (Option.none : Option Jvm.ClassFile.FieldType)) ∈ GT := gt_m (List.mem_append_right _ (List.mem_append_left _ (List.mem_of_getElem? (i := 218) rfl))) rfl
theorem tk_459 : (Jvm.Cond.methodLink "WordShapes$Reader" 87 y_R_opensBracket) ∈ GT := gt_t 459 (by decide +kernel) (by decide +kernel)
theorem tk_461 : (Jvm.Cond.instanceMethod y_R_opensBracket) ∈ GT := gt_t 461 (by decide +kernel) (by decide +kernel)
set_option maxRecDepth 20000 in
theorem tk_462 : (Jvm.Cond.code y_R_opensBracket prog_3_method_7_code 2 (Option.some Jvm.ClassFile.FieldType.boolean)) ∈ GT := gt_m (List.mem_append_right _ (List.mem_append_left _ (List.mem_of_getElem? (i := 222) rfl))) rfl
theorem tk_463 : (Jvm.Cond.methodLink "WordShapes$Reader" 134 y_R_passEmpty) ∈ GT := gt_t 463 (by decide +kernel) (by decide +kernel)
theorem tk_465 : (Jvm.Cond.instanceMethod y_R_passEmpty) ∈ GT := gt_t 465 (by decide +kernel) (by decide +kernel)
set_option maxRecDepth 20000 in
theorem tk_466 : (Jvm.Cond.code y_R_passEmpty prog_3_method_15_code 2 (Option.none : Option Jvm.ClassFile.FieldType)) ∈ GT := gt_m (List.mem_append_right _ (List.mem_append_left _ (List.mem_of_getElem? (i := 226) rfl))) rfl
theorem tq_467 : (Jvm.Cond.stringRef "WordShapes$Reader" 181 "EMPTY") ∈ tables_1 := List.mem_of_getElem? (i := 467) (by decide +kernel)
theorem tk_468 : (Jvm.Cond.methodLink "WordShapes$Reader" 109 y_R_pass) ∈ GT := gt_t 468 (by decide +kernel) (by decide +kernel)
theorem tk_470 : (Jvm.Cond.instanceMethod y_R_pass) ∈ GT := gt_t 470 (by decide +kernel) (by decide +kernel)
set_option maxRecDepth 20000 in
theorem tk_471 : (Jvm.Cond.code y_R_pass prog_3_method_17_code 2 (Option.none : Option Jvm.ClassFile.FieldType)) ∈ GT := gt_m (List.mem_append_right _ (List.mem_append_left _ (List.mem_of_getElem? (i := 231) rfl))) rfl
theorem tk_472 : (Jvm.Cond.methodLink "WordShapes$Reader" 137 y_B_open) ∈ GT := gt_t 472 (by decide +kernel) (by decide +kernel)
theorem tk_473 : (Jvm.Cond.instanceMethod y_B_open) ∈ GT := gt_t 473 (by decide +kernel) (by decide +kernel)
theorem tk_474 : (Jvm.Cond.selects "WordShapes$Brackets" y_B_open y_B_open) ∈ GT := gt_t 474 (by decide +kernel) (by decide +kernel)
set_option maxRecDepth 20000 in
theorem tk_475 : (Jvm.Cond.code y_B_open prog_2_method_3_code 3 (Option.none : Option Jvm.ClassFile.FieldType)) ∈ GT := gt_m (List.mem_append_right _ (List.mem_append_left _ (List.mem_of_getElem? (i := 235) rfl))) rfl
theorem tk_476 : (Jvm.Cond.methodLink "WordShapes$Reader" 100 y_R_readPoint) ∈ GT := gt_t 476 (by decide +kernel) (by decide +kernel)
theorem tk_478 : (Jvm.Cond.instanceMethod y_R_readPoint) ∈ GT := gt_t 478 (by decide +kernel) (by decide +kernel)
set_option maxRecDepth 20000 in
theorem tk_479 : (Jvm.Cond.code y_R_readPoint prog_3_method_9_code 3 (Option.none : Option Jvm.ClassFile.FieldType)) ∈ GT := gt_m (List.mem_append_right _ (List.mem_append_left _ (List.mem_of_getElem? (i := 239) rfl))) rfl
theorem tk_480 : (Jvm.Cond.methodLink "WordShapes$Reader" 139 y_S_hasRoomForPoint) ∈ GT := gt_t 480 (by decide +kernel) (by decide +kernel)
theorem tk_481 : (Jvm.Cond.instanceMethod y_S_hasRoomForPoint) ∈ GT := gt_t 481 (by decide +kernel) (by decide +kernel)
theorem tk_482 : (Jvm.Cond.selects "WordShapes$Shape" y_S_hasRoomForPoint y_S_hasRoomForPoint) ∈ GT := gt_t 482 (by decide +kernel) (by decide +kernel)
set_option maxRecDepth 20000 in
theorem tk_483 : (Jvm.Cond.code y_S_hasRoomForPoint prog_4_method_5_code 1 (Option.some Jvm.ClassFile.FieldType.boolean)) ∈ GT := gt_m (List.mem_append_right _ (List.mem_append_right _ (List.mem_append_left _ (List.mem_of_getElem? (i := 3) rfl)))) rfl
theorem tk_484 : (Jvm.Cond.methodLink "WordShapes$Reader" 142 y_R_readNumber) ∈ GT := gt_t 484 (by decide +kernel) (by decide +kernel)
theorem tk_486 : (Jvm.Cond.instanceMethod y_R_readNumber) ∈ GT := gt_t 486 (by decide +kernel) (by decide +kernel)
set_option maxRecDepth 20000 in
theorem tk_487 : (Jvm.Cond.code y_R_readNumber prog_3_method_10_code 10 (Option.some Jvm.ClassFile.FieldType.int)) ∈ GT := gt_m (List.mem_append_right _ (List.mem_append_right _ (List.mem_append_left _ (List.mem_of_getElem? (i := 7) rfl)))) rfl
theorem tk_488 : (Jvm.Cond.methodLink "WordShapes$Reader" 148 y_R_passSign) ∈ GT := gt_t 488 (by decide +kernel) (by decide +kernel)
theorem tk_490 : (Jvm.Cond.instanceMethod y_R_passSign) ∈ GT := gt_t 490 (by decide +kernel) (by decide +kernel)
set_option maxRecDepth 20000 in
theorem tk_491 : (Jvm.Cond.code y_R_passSign prog_3_method_18_code 1 (Option.none : Option Jvm.ClassFile.FieldType)) ∈ GT := gt_m (List.mem_append_right _ (List.mem_append_right _ (List.mem_append_left _ (List.mem_of_getElem? (i := 11) rfl)))) rfl
theorem tk_492 : (Jvm.Cond.methodLink "WordShapes$Reader" 151 y_R_passDigits) ∈ GT := gt_t 492 (by decide +kernel) (by decide +kernel)
theorem tk_494 : (Jvm.Cond.instanceMethod y_R_passDigits) ∈ GT := gt_t 494 (by decide +kernel) (by decide +kernel)
set_option maxRecDepth 20000 in
theorem tk_495 : (Jvm.Cond.code y_R_passDigits prog_3_method_19_code 2 (Option.some Jvm.ClassFile.FieldType.int)) ∈ GT := gt_m (List.mem_append_right _ (List.mem_append_right _ (List.mem_append_left _ (List.mem_of_getElem? (i := 15) rfl)))) rfl
theorem tk_496 : (Jvm.Cond.methodLink "WordShapes$Reader" 163 y_R_isDigit) ∈ GT := gt_t 496 (by decide +kernel) (by decide +kernel)
theorem tk_497 : (Jvm.Cond.static y_R_isDigit) ∈ GT := gt_t 497 (by decide +kernel) (by decide +kernel)
set_option maxRecDepth 20000 in
theorem tk_498 : (Jvm.Cond.code y_R_isDigit prog_3_method_27_code 1 (Option.some Jvm.ClassFile.FieldType.boolean)) ∈ GT := gt_m (List.mem_append_right _ (List.mem_append_right _ (List.mem_append_left _ (List.mem_of_getElem? (i := 18) rfl)))) rfl
theorem tk_499 : (Jvm.Cond.methodLink "WordShapes$Reader" 154 y_R_readExponent) ∈ GT := gt_t 499 (by decide +kernel) (by decide +kernel)
theorem tk_501 : (Jvm.Cond.instanceMethod y_R_readExponent) ∈ GT := gt_t 501 (by decide +kernel) (by decide +kernel)
set_option maxRecDepth 20000 in
theorem tk_502 : (Jvm.Cond.code y_R_readExponent prog_3_method_11_code 5 (Option.some Jvm.ClassFile.FieldType.int)) ∈ GT := gt_m (List.mem_append_right _ (List.mem_append_right _ (List.mem_append_left _ (List.mem_of_getElem? (i := 22) rfl)))) rfl
theorem tk_503 : (Jvm.Cond.constant "WordShapes$Reader" 166 (1000000 : Int32)) ∈ GT := gt_t 503 (by decide +kernel) (by decide +kernel)
theorem tk_504 : (Jvm.Cond.methodLink "WordShapes$Reader" 157 y_R_roundedUnits) ∈ GT := gt_t 504 (by decide +kernel) (by decide +kernel)
theorem tk_506 : (Jvm.Cond.instanceMethod y_R_roundedUnits) ∈ GT := gt_t 506 (by decide +kernel) (by decide +kernel)
set_option maxRecDepth 20000 in
theorem tk_507 : (Jvm.Cond.code y_R_roundedUnits prog_3_method_12_code 11 (Option.some Jvm.ClassFile.FieldType.long)) ∈ GT := gt_m (List.mem_append_right _ (List.mem_append_right _ (List.mem_append_left _ (List.mem_of_getElem? (i := 27) rfl)))) rfl
theorem tk_508 : (Jvm.Cond.methodLink "WordShapes$Reader" 167 y_R_tenfold) ∈ GT := gt_t 508 (by decide +kernel) (by decide +kernel)
theorem tk_509 : (Jvm.Cond.static y_R_tenfold) ∈ GT := gt_t 509 (by decide +kernel) (by decide +kernel)
set_option maxRecDepth 20000 in
theorem tk_510 : (Jvm.Cond.code y_R_tenfold prog_3_method_13_code 2 (Option.some Jvm.ClassFile.FieldType.long)) ∈ GT := gt_m (List.mem_append_right _ (List.mem_append_right _ (List.mem_append_left _ (List.mem_of_getElem? (i := 30) rfl)))) rfl
theorem tk_511 : (Jvm.Cond.constantLong "WordShapes$Reader" 161 (1000000000 : Int64)) ∈ GT := gt_t 511 (by decide +kernel) (by decide +kernel)
theorem tk_512 : (Jvm.Cond.constantLong "WordShapes$Reader" 171 (10 : Int64)) ∈ GT := gt_t 512 (by decide +kernel) (by decide +kernel)
theorem tk_513 : (Jvm.Cond.methodLink "WordShapes$Reader" 145 y_S_addPoint) ∈ GT := gt_t 513 (by decide +kernel) (by decide +kernel)
theorem tk_514 : (Jvm.Cond.instanceMethod y_S_addPoint) ∈ GT := gt_t 514 (by decide +kernel) (by decide +kernel)
theorem tk_515 : (Jvm.Cond.selects "WordShapes$Shape" y_S_addPoint y_S_addPoint) ∈ GT := gt_t 515 (by decide +kernel) (by decide +kernel)
set_option maxRecDepth 20000 in
theorem tk_516 : (Jvm.Cond.code y_S_addPoint prog_4_method_7_code 3 (Option.none : Option Jvm.ClassFile.FieldType)) ∈ GT := gt_m (List.mem_append_right _ (List.mem_append_right _ (List.mem_append_left _ (List.mem_of_getElem? (i := 36) rfl)))) rfl
theorem tk_517 : (Jvm.Cond.methodLink "WordShapes$Shape" 23 y_S_hasRoomForPoint) ∈ GT := gt_t 517 (by decide +kernel) (by decide +kernel)
theorem tk_518 : (Jvm.Cond.methodLink "WordShapes$Reader" 103 y_R_opensRing) ∈ GT := gt_t 518 (by decide +kernel) (by decide +kernel)
theorem tk_520 : (Jvm.Cond.instanceMethod y_R_opensRing) ∈ GT := gt_t 520 (by decide +kernel) (by decide +kernel)
set_option maxRecDepth 20000 in
theorem tk_521 : (Jvm.Cond.code y_R_opensRing prog_3_method_8_code 1 (Option.some Jvm.ClassFile.FieldType.boolean)) ∈ GT := gt_m (List.mem_append_right _ (List.mem_append_right _ (List.mem_append_left _ (List.mem_of_getElem? (i := 41) rfl)))) rfl
theorem tk_522 : (Jvm.Cond.methodLink "WordShapes$Reader" 61 y_R_goesOn) ∈ GT := gt_t 522 (by decide +kernel) (by decide +kernel)
theorem tk_524 : (Jvm.Cond.instanceMethod y_R_goesOn) ∈ GT := gt_t 524 (by decide +kernel) (by decide +kernel)
set_option maxRecDepth 20000 in
theorem tk_525 : (Jvm.Cond.code y_R_goesOn prog_3_method_4_code 2 (Option.some Jvm.ClassFile.FieldType.boolean)) ∈ GT := gt_m (List.mem_append_right _ (List.mem_append_right _ (List.mem_append_left _ (List.mem_of_getElem? (i := 45) rfl)))) rfl
theorem tk_526 : (Jvm.Cond.methodLink "WordShapes$Reader" 112 y_B_close) ∈ GT := gt_t 526 (by decide +kernel) (by decide +kernel)
theorem tk_527 : (Jvm.Cond.instanceMethod y_B_close) ∈ GT := gt_t 527 (by decide +kernel) (by decide +kernel)
theorem tk_528 : (Jvm.Cond.selects "WordShapes$Brackets" y_B_close y_B_close) ∈ GT := gt_t 528 (by decide +kernel) (by decide +kernel)
set_option maxRecDepth 20000 in
theorem tk_529 : (Jvm.Cond.code y_B_close prog_2_method_4_code 1 (Option.none : Option Jvm.ClassFile.FieldType)) ∈ GT := gt_m (List.mem_append_right _ (List.mem_append_right _ (List.mem_append_left _ (List.mem_of_getElem? (i := 49) rfl)))) rfl
theorem tk_530 : (Jvm.Cond.methodLink "WordShapes" 86 y_S_takeFrom) ∈ GT := gt_t 530 (by decide +kernel) (by decide +kernel)
theorem tk_531 : (Jvm.Cond.instanceMethod y_S_takeFrom) ∈ GT := gt_t 531 (by decide +kernel) (by decide +kernel)
theorem tk_532 : (Jvm.Cond.selects "WordShapes$Shape" y_S_takeFrom y_S_takeFrom) ∈ GT := gt_t 532 (by decide +kernel) (by decide +kernel)
set_option maxRecDepth 20000 in
theorem tk_533 : (Jvm.Cond.code y_S_takeFrom prog_4_method_11_code 3 (Option.none : Option Jvm.ClassFile.FieldType)) ∈ GT := gt_m (List.mem_append_right _ (List.mem_append_right _ (List.mem_append_left _ (List.mem_of_getElem? (i := 53) rfl)))) rfl
theorem tk_534 : (Jvm.Cond.methodLink "WordShapes$Shape" 27 y_S_clear) ∈ GT := gt_t 534 (by decide +kernel) (by decide +kernel)
theorem tk_535 : (Jvm.Cond.methodLink "WordShapes$Shape" 30 y_S_addNumber) ∈ GT := gt_t 535 (by decide +kernel) (by decide +kernel)
theorem tk_536 : (Jvm.Cond.methodLink "WordShapes$Shape" 34 y_S_addPoint) ∈ GT := gt_t 536 (by decide +kernel) (by decide +kernel)
theorem tk_537 : (Jvm.Cond.methodLink "WordShapes" 90 y_S_numberAt) ∈ GT := gt_t 537 (by decide +kernel) (by decide +kernel)
theorem tk_538 : (Jvm.Cond.instanceMethod y_S_numberAt) ∈ GT := gt_t 538 (by decide +kernel) (by decide +kernel)
theorem tk_539 : (Jvm.Cond.selects "WordShapes$Shape" y_S_numberAt y_S_numberAt) ∈ GT := gt_t 539 (by decide +kernel) (by decide +kernel)
set_option maxRecDepth 20000 in
theorem tk_540 : (Jvm.Cond.code y_S_numberAt prog_4_method_9_code 2 (Option.some Jvm.ClassFile.FieldType.int)) ∈ GT := gt_m (List.mem_append_right _ (List.mem_append_right _ (List.mem_append_left _ (List.mem_of_getElem? (i := 60) rfl)))) rfl
theorem tk_541 : (Jvm.Cond.methodLink "WordShapesLaw" 79 y_L_fault) ∈ GT := gt_t 541 (by decide +kernel) (by decide +kernel)
theorem tk_542 : (Jvm.Cond.static y_L_fault) ∈ GT := gt_t 542 (by decide +kernel) (by decide +kernel)
set_option maxRecDepth 20000 in
theorem tq_543 : (Jvm.Cond.codeWith y_L_fault method_6_code 4 (Option.some Jvm.ClassFile.FieldType.int) [(0, 9, 12, 24)]) ∈ tables_1 := List.mem_append_right _ (List.mem_append_right _ (List.mem_append_left _ (List.mem_of_getElem? (i := 63) rfl)))
theorem tk_544 : (Jvm.Cond.methodLink "WordShapesLaw" 26 y_W_fault) ∈ GT := gt_t 544 (by decide +kernel) (by decide +kernel)
theorem tk_545 : (Jvm.Cond.instanceMethod y_W_fault) ∈ GT := gt_t 545 (by decide +kernel) (by decide +kernel)
theorem tk_546 : (Jvm.Cond.selects "WordShapes" y_W_fault y_W_fault) ∈ GT := gt_t 546 (by decide +kernel) (by decide +kernel)
set_option maxRecDepth 20000 in
theorem tk_547 : (Jvm.Cond.code y_W_fault prog_1_method_5_code 2 (Option.some Jvm.ClassFile.FieldType.int)) ∈ GT := gt_m (List.mem_append_right _ (List.mem_append_right _ (List.mem_append_left _ (List.mem_of_getElem? (i := 67) rfl)))) rfl
theorem tq_548 : (Jvm.Cond.stringRef "WordShapes" 102 "a fault has 0 and 1") ∈ tables_1 := List.mem_of_getElem? (i := 548) (by decide +kernel)
theorem tk_549 : (Jvm.Cond.methodLink "WordShapesLaw" 82 y_L_write) ∈ GT := gt_t 549 (by decide +kernel) (by decide +kernel)
theorem tk_550 : (Jvm.Cond.static y_L_write) ∈ GT := gt_t 550 (by decide +kernel) (by decide +kernel)
set_option maxRecDepth 20000 in
theorem tq_551 : (Jvm.Cond.codeWith y_L_write method_7_code 4 (Option.some Jvm.ClassFile.FieldType.int) [(0, 9, 12, 24), (0, 9, 15, 13), (0, 9, 18, 32)]) ∈ tables_1 := List.mem_append_right _ (List.mem_append_right _ (List.mem_append_left _ (List.mem_of_getElem? (i := 71) rfl)))
theorem tk_552 : (Jvm.Cond.classLink "WordShapesLaw" 32 "java/lang/UnsupportedOperationException") ∈ GT := gt_t 552 (by decide +kernel) (by decide +kernel)
theorem tk_553 : (Jvm.Cond.methodLink "WordShapesLaw" 29 y_W_write) ∈ GT := gt_t 553 (by decide +kernel) (by decide +kernel)
theorem tk_554 : (Jvm.Cond.instanceMethod y_W_write) ∈ GT := gt_t 554 (by decide +kernel) (by decide +kernel)
theorem tk_555 : (Jvm.Cond.selects "WordShapes" y_W_write y_W_write) ∈ GT := gt_t 555 (by decide +kernel) (by decide +kernel)
set_option maxRecDepth 20000 in
theorem tk_556 : (Jvm.Cond.code y_W_write prog_1_method_6_code 3 (Option.some Jvm.ClassFile.FieldType.int)) ∈ GT := gt_m (List.mem_append_right _ (List.mem_append_right _ (List.mem_append_left _ (List.mem_of_getElem? (i := 76) rfl)))) rfl
theorem tk_557 : (Jvm.Cond.methodLink "WordShapes" 105 y_S_isNone) ∈ GT := gt_t 557 (by decide +kernel) (by decide +kernel)
theorem tk_558 : (Jvm.Cond.instanceMethod y_S_isNone) ∈ GT := gt_t 558 (by decide +kernel) (by decide +kernel)
theorem tk_559 : (Jvm.Cond.selects "WordShapes$Shape" y_S_isNone y_S_isNone) ∈ GT := gt_t 559 (by decide +kernel) (by decide +kernel)
set_option maxRecDepth 20000 in
theorem tk_560 : (Jvm.Cond.code y_S_isNone prog_4_method_3_code 1 (Option.some Jvm.ClassFile.FieldType.boolean)) ∈ GT := gt_m (List.mem_append_right _ (List.mem_append_right _ (List.mem_append_left _ (List.mem_of_getElem? (i := 80) rfl)))) rfl
theorem tq_561 : (Jvm.Cond.stringRef "WordShapes" 109 "the slot has no shape") ∈ tables_1 := List.mem_of_getElem? (i := 561) (by decide +kernel)
theorem tk_562 : (Jvm.Cond.methodLink "WordShapes" 111 y_T_lay) ∈ GT := gt_t 562 (by decide +kernel) (by decide +kernel)
theorem tk_563 : (Jvm.Cond.instanceMethod y_T_lay) ∈ GT := gt_t 563 (by decide +kernel) (by decide +kernel)
theorem tk_564 : (Jvm.Cond.selects "WordShapes$Writer" y_T_lay y_T_lay) ∈ GT := gt_t 564 (by decide +kernel) (by decide +kernel)
set_option maxRecDepth 20000 in
theorem tk_565 : (Jvm.Cond.code y_T_lay prog_5_method_2_code 5 (Option.some Jvm.ClassFile.FieldType.int)) ∈ GT := gt_m (List.mem_append_right _ (List.mem_append_right _ (List.mem_append_left _ (List.mem_of_getElem? (i := 85) rfl)))) rfl
theorem tk_566 : (Jvm.Cond.methodLink "WordShapes$Writer" 47 y_B_start) ∈ GT := gt_t 566 (by decide +kernel) (by decide +kernel)
theorem tk_567 : (Jvm.Cond.methodLink "WordShapes$Writer" 62 y_B_number) ∈ GT := gt_t 567 (by decide +kernel) (by decide +kernel)
theorem tk_568 : (Jvm.Cond.methodLink "WordShapes$Writer" 66 y_T_layItem) ∈ GT := gt_t 568 (by decide +kernel) (by decide +kernel)
theorem tk_570 : (Jvm.Cond.instanceMethod y_T_layItem) ∈ GT := gt_t 570 (by decide +kernel) (by decide +kernel)
set_option maxRecDepth 20000 in
theorem tk_571 : (Jvm.Cond.code y_T_layItem prog_5_method_3_code 2 (Option.none : Option Jvm.ClassFile.FieldType)) ∈ GT := gt_m (List.mem_append_right _ (List.mem_append_right _ (List.mem_append_left _ (List.mem_of_getElem? (i := 91) rfl)))) rfl
theorem tk_572 : (Jvm.Cond.methodLink "WordShapes$Writer" 70 y_T_put) ∈ GT := gt_t 572 (by decide +kernel) (by decide +kernel)
theorem tk_574 : (Jvm.Cond.instanceMethod y_T_put) ∈ GT := gt_t 574 (by decide +kernel) (by decide +kernel)
set_option maxRecDepth 20000 in
theorem tk_575 : (Jvm.Cond.code y_T_put prog_5_method_9_code 2 (Option.none : Option Jvm.ClassFile.FieldType)) ∈ GT := gt_m (List.mem_append_right _ (List.mem_append_right _ (List.mem_append_left _ (List.mem_of_getElem? (i := 95) rfl)))) rfl
theorem tk_576 : (Jvm.Cond.methodLink "WordShapes$Writer" 76 y_B_lessOne) ∈ GT := gt_t 576 (by decide +kernel) (by decide +kernel)
theorem tk_577 : (Jvm.Cond.instanceMethod y_B_lessOne) ∈ GT := gt_t 577 (by decide +kernel) (by decide +kernel)
theorem tk_578 : (Jvm.Cond.selects "WordShapes$Brackets" y_B_lessOne y_B_lessOne) ∈ GT := gt_t 578 (by decide +kernel) (by decide +kernel)
set_option maxRecDepth 20000 in
theorem tk_579 : (Jvm.Cond.code y_B_lessOne prog_2_method_7_code 1 (Option.none : Option Jvm.ClassFile.FieldType)) ∈ GT := gt_m (List.mem_append_right _ (List.mem_append_right _ (List.mem_append_left _ (List.mem_of_getElem? (i := 99) rfl)))) rfl
theorem tk_580 : (Jvm.Cond.methodLink "WordShapes$Writer" 79 y_B_kind) ∈ GT := gt_t 580 (by decide +kernel) (by decide +kernel)
theorem tk_581 : (Jvm.Cond.methodLink "WordShapes$Writer" 82 y_S_numberAt) ∈ GT := gt_t 581 (by decide +kernel) (by decide +kernel)
theorem tq_582 : (Jvm.Cond.methodLinkNest "WordShapes$Writer" 86 y_W_wordOf "WordShapes") ∈ tables_1 := List.mem_of_getElem? (i := 582) (by decide +kernel)
theorem tk_583 : (Jvm.Cond.methodLink "WordShapes$Writer" 90 y_T_layWord) ∈ GT := gt_t 583 (by decide +kernel) (by decide +kernel)
theorem tk_585 : (Jvm.Cond.instanceMethod y_T_layWord) ∈ GT := gt_t 585 (by decide +kernel) (by decide +kernel)
set_option maxRecDepth 20000 in
theorem tk_586 : (Jvm.Cond.code y_T_layWord prog_5_method_8_code 3 (Option.none : Option Jvm.ClassFile.FieldType)) ∈ GT := gt_m (List.mem_append_right _ (List.mem_append_right _ (List.mem_append_left _ (List.mem_of_getElem? (i := 106) rfl)))) rfl
theorem tk_587 : (Jvm.Cond.methodLink "WordShapes$Writer" 116 y_JString_length) ∈ GT := gt_t 587 (by decide +kernel) (by decide +kernel)
theorem tk_588 : (Jvm.Cond.methodLink "WordShapes$Writer" 121 y_JString_charAt) ∈ GT := gt_t 588 (by decide +kernel) (by decide +kernel)
theorem tk_589 : (Jvm.Cond.methodLink "WordShapes$Writer" 94 y_T_takeNumber) ∈ GT := gt_t 589 (by decide +kernel) (by decide +kernel)
theorem tk_591 : (Jvm.Cond.instanceMethod y_T_takeNumber) ∈ GT := gt_t 591 (by decide +kernel) (by decide +kernel)
set_option maxRecDepth 20000 in
theorem tk_592 : (Jvm.Cond.code y_T_takeNumber prog_5_method_4_code 3 (Option.some Jvm.ClassFile.FieldType.int)) ∈ GT := gt_m (List.mem_append_right _ (List.mem_append_right _ (List.mem_append_left _ (List.mem_of_getElem? (i := 112) rfl)))) rfl
theorem tk_593 : (Jvm.Cond.methodLink "WordShapes$Writer" 98 y_T_layBody) ∈ GT := gt_t 593 (by decide +kernel) (by decide +kernel)
theorem tk_595 : (Jvm.Cond.instanceMethod y_T_layBody) ∈ GT := gt_t 595 (by decide +kernel) (by decide +kernel)
set_option maxRecDepth 20000 in
theorem tk_596 : (Jvm.Cond.code y_T_layBody prog_5_method_5_code 3 (Option.none : Option Jvm.ClassFile.FieldType)) ∈ GT := gt_m (List.mem_append_right _ (List.mem_append_right _ (List.mem_append_left _ (List.mem_of_getElem? (i := 116) rfl)))) rfl
theorem tq_597 : (Jvm.Cond.stringRef "WordShapes$Writer" 105 "EMPTY") ∈ tables_1 := List.mem_of_getElem? (i := 597) (by decide +kernel)
theorem tk_598 : (Jvm.Cond.methodLink "WordShapes$Writer" 107 y_B_open) ∈ GT := gt_t 598 (by decide +kernel) (by decide +kernel)
theorem tk_599 : (Jvm.Cond.methodLink "WordShapes$Writer" 102 y_T_layPoint) ∈ GT := gt_t 599 (by decide +kernel) (by decide +kernel)
theorem tk_601 : (Jvm.Cond.instanceMethod y_T_layPoint) ∈ GT := gt_t 601 (by decide +kernel) (by decide +kernel)
set_option maxRecDepth 20000 in
theorem tk_602 : (Jvm.Cond.code y_T_layPoint prog_5_method_6_code 2 (Option.none : Option Jvm.ClassFile.FieldType)) ∈ GT := gt_m (List.mem_append_right _ (List.mem_append_right _ (List.mem_append_left _ (List.mem_of_getElem? (i := 122) rfl)))) rfl
theorem tk_603 : (Jvm.Cond.methodLink "WordShapes$Writer" 109 y_S_ordinateAt) ∈ GT := gt_t 603 (by decide +kernel) (by decide +kernel)
theorem tk_604 : (Jvm.Cond.instanceMethod y_S_ordinateAt) ∈ GT := gt_t 604 (by decide +kernel) (by decide +kernel)
theorem tk_605 : (Jvm.Cond.selects "WordShapes$Shape" y_S_ordinateAt y_S_ordinateAt) ∈ GT := gt_t 605 (by decide +kernel) (by decide +kernel)
set_option maxRecDepth 20000 in
theorem tk_606 : (Jvm.Cond.code y_S_ordinateAt prog_4_method_10_code 3 (Option.some Jvm.ClassFile.FieldType.int)) ∈ GT := gt_m (List.mem_append_right _ (List.mem_append_right _ (List.mem_append_left _ (List.mem_of_getElem? (i := 126) rfl)))) rfl
theorem tk_607 : (Jvm.Cond.methodLink "WordShapes$Writer" 113 y_T_layNumber) ∈ GT := gt_t 607 (by decide +kernel) (by decide +kernel)
theorem tk_609 : (Jvm.Cond.instanceMethod y_T_layNumber) ∈ GT := gt_t 609 (by decide +kernel) (by decide +kernel)
set_option maxRecDepth 20000 in
theorem tk_610 : (Jvm.Cond.code y_T_layNumber prog_5_method_7_code 6 (Option.none : Option Jvm.ClassFile.FieldType)) ∈ GT := gt_m (List.mem_append_right _ (List.mem_append_right _ (List.mem_append_left _ (List.mem_of_getElem? (i := 130) rfl)))) rfl
theorem tk_611 : (Jvm.Cond.methodLink "WordShapes$Writer" 73 y_B_close) ∈ GT := gt_t 611 (by decide +kernel) (by decide +kernel)
theorem tk_612 : (Jvm.Cond.constant "WordShapes" 115 (131072 : Int32)) ∈ GT := gt_t 612 (by decide +kernel) (by decide +kernel)
theorem tk_613 : (Jvm.Cond.classLink "WordShapes" 116 "java/lang/UnsupportedOperationException") ∈ GT := gt_t 613 (by decide +kernel) (by decide +kernel)
theorem tk_614 : (Jvm.Cond.instantiable "java/lang/UnsupportedOperationException" 6) ∈ GT := gt_t 614 (by decide +kernel) (by decide +kernel)
theorem tq_615 : (Jvm.Cond.castable "java/lang/UnsupportedOperationException" "java/lang/UnsupportedOperationException") ∈ tables_1 := List.mem_of_getElem? (i := 615) (by decide +kernel)
theorem tk_616 : (Jvm.Cond.selects "java/lang/UnsupportedOperationException" ({ cls := "java/lang/Throwable", name := "fillInStackTrace", desc := "(I)Ljava/lang/Throwable;" } : Jvm.MethodName) ({ cls := "java/lang/Throwable", name := "fillInStackTrace", desc := "(I)Ljava/lang/Throwable;" } : Jvm.MethodName)) ∈ GT := gt_t 616 (by decide +kernel) (by decide +kernel)
theorem tk_617 : (Jvm.Cond.lays "java/lang/UnsupportedOperationException" "java/lang/Throwable" "cause" "Ljava/lang/Throwable;") ∈ GT := gt_t 617 (by decide +kernel) (by decide +kernel)
theorem tk_618 : (Jvm.Cond.lays "java/lang/UnsupportedOperationException" "java/lang/Throwable" "stackTrace" "[Ljava/lang/StackTraceElement;") ∈ GT := gt_t 618 (by decide +kernel) (by decide +kernel)
theorem tk_619 : (Jvm.Cond.lays "java/lang/UnsupportedOperationException" "java/lang/Throwable" "suppressedExceptions" "Ljava/util/List;") ∈ GT := gt_t 619 (by decide +kernel) (by decide +kernel)
theorem tk_620 : (Jvm.Cond.lays "java/lang/UnsupportedOperationException" "java/lang/Throwable" "detailMessage" "Ljava/lang/String;") ∈ GT := gt_t 620 (by decide +kernel) (by decide +kernel)
theorem tk_621 : (Jvm.Cond.lays "java/lang/UnsupportedOperationException" "java/lang/Throwable" "backtrace" "Ljava/lang/Object;") ∈ GT := gt_t 621 (by decide +kernel) (by decide +kernel)
theorem tq_622 : (Jvm.Cond.stringRef "WordShapes" 118 "the result would be too long") ∈ tables_1 := List.mem_of_getElem? (i := 622) (by decide +kernel)
theorem tk_623 : (Jvm.Cond.methodLink "WordShapes" 120 y_JUnsupportedOperationException_init) ∈ GT := gt_t 623 (by decide +kernel) (by decide +kernel)
theorem tk_624 : (Jvm.Cond.instanceMethod y_JUnsupportedOperationException_init) ∈ GT := gt_t 624 (by decide +kernel) (by decide +kernel)
set_option maxRecDepth 20000 in
theorem tk_625 : (Jvm.Cond.code y_JUnsupportedOperationException_init prog_19_method_2_code 2 (Option.none : Option Jvm.ClassFile.FieldType)) ∈ GT := gt_m (List.mem_append_right _ (List.mem_append_right _ (List.mem_append_left _ (List.mem_of_getElem? (i := 145) rfl)))) rfl
theorem tk_626 : (Jvm.Cond.methodLink "java/lang/UnsupportedOperationException" 7 y_JRuntimeException_init) ∈ GT := gt_t 626 (by decide +kernel) (by decide +kernel)
theorem tk_627 : (Jvm.Cond.lays "java/lang/UnsupportedOperationException" "java/lang/Throwable" "depth" "I") ∈ GT := gt_t 627 (by decide +kernel) (by decide +kernel)
theorem tk_629 : (Jvm.Cond.methodLink "WordShapesLaw" 89 y_L_same) ∈ GT := gt_t 629 (by decide +kernel) (by decide +kernel)
theorem tk_630 : (Jvm.Cond.static y_L_same) ∈ GT := gt_t 630 (by decide +kernel) (by decide +kernel)
set_option maxRecDepth 20000 in
theorem tq_631 : (Jvm.Cond.codeWith y_L_same method_8_code 5 (Option.some Jvm.ClassFile.FieldType.int) [(0, 17, 20, 24)]) ∈ tables_1 := List.mem_append_right _ (List.mem_append_right _ (List.mem_append_left _ (List.mem_of_getElem? (i := 151) rfl)))
theorem tk_632 : (Jvm.Cond.methodLink "WordShapesLaw" 34 y_W_same) ∈ GT := gt_t 632 (by decide +kernel) (by decide +kernel)
theorem tk_633 : (Jvm.Cond.instanceMethod y_W_same) ∈ GT := gt_t 633 (by decide +kernel) (by decide +kernel)
theorem tk_634 : (Jvm.Cond.selects "WordShapes" y_W_same y_W_same) ∈ GT := gt_t 634 (by decide +kernel) (by decide +kernel)
set_option maxRecDepth 20000 in
theorem tk_635 : (Jvm.Cond.code y_W_same prog_1_method_8_code 5 (Option.some Jvm.ClassFile.FieldType.boolean)) ∈ GT := gt_m (List.mem_append_right _ (List.mem_append_right _ (List.mem_append_left _ (List.mem_of_getElem? (i := 155) rfl)))) rfl
theorem tk_636 : (Jvm.Cond.methodLink "WordShapes" 133 y_S_isLike) ∈ GT := gt_t 636 (by decide +kernel) (by decide +kernel)
theorem tk_637 : (Jvm.Cond.instanceMethod y_S_isLike) ∈ GT := gt_t 637 (by decide +kernel) (by decide +kernel)
theorem tk_638 : (Jvm.Cond.selects "WordShapes$Shape" y_S_isLike y_S_isLike) ∈ GT := gt_t 638 (by decide +kernel) (by decide +kernel)
set_option maxRecDepth 20000 in
theorem tk_639 : (Jvm.Cond.code y_S_isLike prog_4_method_12_code 3 (Option.some Jvm.ClassFile.FieldType.boolean)) ∈ GT := gt_m (List.mem_append_right _ (List.mem_append_right _ (List.mem_append_left _ (List.mem_of_getElem? (i := 159) rfl)))) rfl
theorem tk_640 : (Jvm.Cond.methodLink "WordShapesLaw" 93 y_L_plan) ∈ GT := gt_t 640 (by decide +kernel) (by decide +kernel)
theorem tk_641 : (Jvm.Cond.static y_L_plan) ∈ GT := gt_t 641 (by decide +kernel) (by decide +kernel)
set_option maxRecDepth 20000 in
theorem tq_642 : (Jvm.Cond.codeWith y_L_plan method_9_code 5 (Option.some Jvm.ClassFile.FieldType.int) [(0, 10, 13, 24)]) ∈ tables_1 := List.mem_append_right _ (List.mem_append_right _ (List.mem_append_left _ (List.mem_of_getElem? (i := 162) rfl)))
theorem tk_643 : (Jvm.Cond.methodLink "WordShapesLaw" 38 y_W_plan) ∈ GT := gt_t 643 (by decide +kernel) (by decide +kernel)
theorem tk_644 : (Jvm.Cond.instanceMethod y_W_plan) ∈ GT := gt_t 644 (by decide +kernel) (by decide +kernel)
theorem tk_645 : (Jvm.Cond.selects "WordShapes" y_W_plan y_W_plan) ∈ GT := gt_t 645 (by decide +kernel) (by decide +kernel)
set_option maxRecDepth 20000 in
theorem tk_646 : (Jvm.Cond.code y_W_plan prog_1_method_9_code 4 (Option.some Jvm.ClassFile.FieldType.int)) ∈ GT := gt_m (List.mem_append_right _ (List.mem_append_right _ (List.mem_append_left _ (List.mem_of_getElem? (i := 166) rfl)))) rfl
theorem tq_647 : (Jvm.Cond.stringRef "WordShapes" 140 "no such number of the plan") ∈ tables_1 := List.mem_of_getElem? (i := 647) (by decide +kernel)
theorem tk_648 : (Jvm.Cond.methodLink "WordShapesLaw" 96 y_L_ordinate) ∈ GT := gt_t 648 (by decide +kernel) (by decide +kernel)
theorem tk_649 : (Jvm.Cond.static y_L_ordinate) ∈ GT := gt_t 649 (by decide +kernel) (by decide +kernel)
set_option maxRecDepth 20000 in
theorem tq_650 : (Jvm.Cond.codeWith y_L_ordinate method_10_code 6 (Option.some Jvm.ClassFile.FieldType.int) [(0, 12, 15, 24)]) ∈ tables_1 := List.mem_append_right _ (List.mem_append_right _ (List.mem_append_left _ (List.mem_of_getElem? (i := 170) rfl)))
theorem tk_651 : (Jvm.Cond.methodLink "WordShapesLaw" 42 y_W_ordinate) ∈ GT := gt_t 651 (by decide +kernel) (by decide +kernel)
theorem tk_652 : (Jvm.Cond.instanceMethod y_W_ordinate) ∈ GT := gt_t 652 (by decide +kernel) (by decide +kernel)
theorem tk_653 : (Jvm.Cond.selects "WordShapes" y_W_ordinate y_W_ordinate) ∈ GT := gt_t 653 (by decide +kernel) (by decide +kernel)
set_option maxRecDepth 20000 in
theorem tk_654 : (Jvm.Cond.code y_W_ordinate prog_1_method_10_code 5 (Option.some Jvm.ClassFile.FieldType.int)) ∈ GT := gt_m (List.mem_append_right _ (List.mem_append_right _ (List.mem_append_left _ (List.mem_of_getElem? (i := 174) rfl)))) rfl
theorem tq_655 : (Jvm.Cond.stringRef "WordShapes" 145 "no such point") ∈ tables_1 := List.mem_of_getElem? (i := 655) (by decide +kernel)
theorem tq_656 : (Jvm.Cond.stringRef "WordShapes" 147 "a point has 0 and 1") ∈ tables_1 := List.mem_of_getElem? (i := 656) (by decide +kernel)
theorem tk_657 : (Jvm.Cond.methodLink "WordShapes" 149 y_S_ordinateAt) ∈ GT := gt_t 657 (by decide +kernel) (by decide +kernel)
theorem tk_658 : (Jvm.Cond.methodLink "WordShapesLaw" 100 y_L_byteAt) ∈ GT := gt_t 658 (by decide +kernel) (by decide +kernel)
theorem tk_659 : (Jvm.Cond.static y_L_byteAt) ∈ GT := gt_t 659 (by decide +kernel) (by decide +kernel)
set_option maxRecDepth 20000 in
theorem tq_660 : (Jvm.Cond.codeWith y_L_byteAt method_11_code 4 (Option.some Jvm.ClassFile.FieldType.int) [(0, 9, 12, 24)]) ∈ tables_1 := List.mem_append_right _ (List.mem_append_right _ (List.mem_append_left _ (List.mem_of_getElem? (i := 180) rfl)))
theorem tk_661 : (Jvm.Cond.methodLink "WordShapesLaw" 46 y_W_byteAt) ∈ GT := gt_t 661 (by decide +kernel) (by decide +kernel)
theorem tk_662 : (Jvm.Cond.instanceMethod y_W_byteAt) ∈ GT := gt_t 662 (by decide +kernel) (by decide +kernel)
theorem tk_663 : (Jvm.Cond.selects "WordShapes" y_W_byteAt y_W_byteAt) ∈ GT := gt_t 663 (by decide +kernel) (by decide +kernel)
set_option maxRecDepth 20000 in
theorem tk_664 : (Jvm.Cond.code y_W_byteAt prog_1_method_11_code 2 (Option.some Jvm.ClassFile.FieldType.int)) ∈ GT := gt_m (List.mem_append_right _ (List.mem_append_right _ (List.mem_append_left _ (List.mem_of_getElem? (i := 184) rfl)))) rfl
theorem tq_665 : (Jvm.Cond.stringRef "WordShapes" 152 "no such byte of the result") ∈ tables_1 := List.mem_of_getElem? (i := 665) (by decide +kernel)
theorem tk_666 : (Jvm.Cond.methodLink "WordShapesLaw" 103 y_L_count) ∈ GT := gt_t 666 (by decide +kernel) (by decide +kernel)
theorem tk_667 : (Jvm.Cond.static y_L_count) ∈ GT := gt_t 667 (by decide +kernel) (by decide +kernel)
set_option maxRecDepth 20000 in
theorem tq_668 : (Jvm.Cond.codeWith y_L_count method_12_code 5 (Option.some Jvm.ClassFile.FieldType.int) [(0, 10, 13, 24)]) ∈ tables_1 := List.mem_append_right _ (List.mem_append_right _ (List.mem_append_left _ (List.mem_of_getElem? (i := 188) rfl)))
theorem tk_669 : (Jvm.Cond.methodLink "WordShapesLaw" 49 y_W_count) ∈ GT := gt_t 669 (by decide +kernel) (by decide +kernel)
theorem tk_670 : (Jvm.Cond.instanceMethod y_W_count) ∈ GT := gt_t 670 (by decide +kernel) (by decide +kernel)
theorem tk_671 : (Jvm.Cond.selects "WordShapes" y_W_count y_W_count) ∈ GT := gt_t 671 (by decide +kernel) (by decide +kernel)
set_option maxRecDepth 20000 in
theorem tk_672 : (Jvm.Cond.code y_W_count prog_1_method_12_code 4 (Option.some Jvm.ClassFile.FieldType.int)) ∈ GT := gt_m (List.mem_append_right _ (List.mem_append_right _ (List.mem_append_left _ (List.mem_of_getElem? (i := 192) rfl)))) rfl
theorem tq_673 : (Jvm.Cond.stringRef "WordShapes" 154 "what is counted is 0 .. 3") ∈ tables_1 := List.mem_of_getElem? (i := 673) (by decide +kernel)
theorem tk_674 : (Jvm.Cond.classLink "WordShapesLaw" 61 "WordShapesModel") ∈ GT := gt_t 674 (by decide +kernel) (by decide +kernel)
theorem tk_675 : (Jvm.Cond.instantiable "WordShapesModel" 24) ∈ GT := gt_t 675 (by decide +kernel) (by decide +kernel)
theorem tk_676 : (Jvm.Cond.methodLink "WordShapesLaw" 63 y_M_init) ∈ GT := gt_t 676 (by decide +kernel) (by decide +kernel)
theorem tk_677 : (Jvm.Cond.instanceMethod y_M_init) ∈ GT := gt_t 677 (by decide +kernel) (by decide +kernel)
set_option maxRecDepth 20000 in
theorem tk_678 : (Jvm.Cond.code y_M_init prog_7_method_1_code 4 (Option.none : Option Jvm.ClassFile.FieldType)) ∈ GT := gt_m (List.mem_append_right _ (List.mem_append_right _ (List.mem_append_left _ (List.mem_of_getElem? (i := 198) rfl)))) rfl
theorem tk_679 : (Jvm.Cond.methodLink "WordShapesModel" 1 y_JObject_init) ∈ GT := gt_t 679 (by decide +kernel) (by decide +kernel)
theorem tk_680 : (Jvm.Cond.constant "WordShapesModel" 16 (65536 : Int32)) ∈ GT := gt_t 680 (by decide +kernel) (by decide +kernel)
theorem tk_681 : (Jvm.Cond.constant "WordShapesModel" 26 (32768 : Int32)) ∈ GT := gt_t 681 (by decide +kernel) (by decide +kernel)
theorem tk_682 : (Jvm.Cond.constant "WordShapesModel" 33 (131072 : Int32)) ∈ GT := gt_t 682 (by decide +kernel) (by decide +kernel)
theorem tk_683 : (Jvm.Cond.fieldLink "WordShapesModel" 7 "WordShapesModel" "letters" "[I") ∈ GT := gt_t 683 (by decide +kernel) (by decide +kernel)
theorem tk_684 : (Jvm.Cond.fieldLink "WordShapesModel" 13 "WordShapesModel" "begins" "[I") ∈ GT := gt_t 684 (by decide +kernel) (by decide +kernel)
theorem tk_685 : (Jvm.Cond.fieldLink "WordShapesModel" 59 "WordShapesModel" "thrown" "I") ∈ GT := gt_t 685 (by decide +kernel) (by decide +kernel)
theorem tk_686 : (Jvm.Cond.fieldLink "WordShapesModel" 49 "WordShapesModel" "digits" "I") ∈ GT := gt_t 686 (by decide +kernel) (by decide +kernel)
theorem tk_687 : (Jvm.Cond.fieldLink "WordShapesModel" 53 "WordShapesModel" "mostPoints" "I") ∈ GT := gt_t 687 (by decide +kernel) (by decide +kernel)
theorem tk_688 : (Jvm.Cond.fieldLink "WordShapesModel" 56 "WordShapesModel" "mostPlan" "I") ∈ GT := gt_t 688 (by decide +kernel) (by decide +kernel)
theorem tk_689 : (Jvm.Cond.fieldLink "WordShapesModel" 66 "WordShapesModel" "fed" "I") ∈ GT := gt_t 689 (by decide +kernel) (by decide +kernel)
theorem tk_690 : (Jvm.Cond.fieldLink "WordShapesModel" 17 "WordShapesModel" "tape" "[I") ∈ GT := gt_t 690 (by decide +kernel) (by decide +kernel)
theorem tk_691 : (Jvm.Cond.fieldLink "WordShapesModel" 20 "WordShapesModel" "plan" "[I") ∈ GT := gt_t 691 (by decide +kernel) (by decide +kernel)
theorem tk_692 : (Jvm.Cond.fieldLink "WordShapesModel" 23 "WordShapesModel" "planned" "[I") ∈ GT := gt_t 692 (by decide +kernel) (by decide +kernel)
theorem tk_693 : (Jvm.Cond.fieldLink "WordShapesModel" 27 "WordShapesModel" "xy" "[I") ∈ GT := gt_t 693 (by decide +kernel) (by decide +kernel)
theorem tk_694 : (Jvm.Cond.fieldLink "WordShapesModel" 30 "WordShapesModel" "points" "[I") ∈ GT := gt_t 694 (by decide +kernel) (by decide +kernel)
theorem tk_695 : (Jvm.Cond.fieldLink "WordShapesModel" 217 "WordShapesModel" "size" "I") ∈ GT := gt_t 695 (by decide +kernel) (by decide +kernel)
theorem tk_696 : (Jvm.Cond.fieldLink "WordShapesModel" 34 "WordShapesModel" "result" "[I") ∈ GT := gt_t 696 (by decide +kernel) (by decide +kernel)
theorem tk_697 : (Jvm.Cond.fieldLink "WordShapesModel" 37 "WordShapesModel" "out" "[I") ∈ GT := gt_t 697 (by decide +kernel) (by decide +kernel)
theorem tk_698 : (Jvm.Cond.fieldLink "WordShapesModel" 192 "WordShapesModel" "written" "I") ∈ GT := gt_t 698 (by decide +kernel) (by decide +kernel)
theorem tk_699 : (Jvm.Cond.fieldLink "WordShapesModel" 135 "WordShapesModel" "slot" "I") ∈ GT := gt_t 699 (by decide +kernel) (by decide +kernel)
theorem tk_700 : (Jvm.Cond.fieldLink "WordShapesModel" 83 "WordShapesModel" "at" "I") ∈ GT := gt_t 700 (by decide +kernel) (by decide +kernel)
theorem tk_701 : (Jvm.Cond.fieldLink "WordShapesModel" 89 "WordShapesModel" "fault" "I") ∈ GT := gt_t 701 (by decide +kernel) (by decide +kernel)
theorem tk_702 : (Jvm.Cond.fieldLink "WordShapesModel" 92 "WordShapesModel" "place" "I") ∈ GT := gt_t 702 (by decide +kernel) (by decide +kernel)
theorem tk_703 : (Jvm.Cond.fieldLink "WordShapesModel" 128 "WordShapesModel" "value" "I") ∈ GT := gt_t 703 (by decide +kernel) (by decide +kernel)
theorem tk_704 : (Jvm.Cond.fieldLink "WordShapesModel" 40 "WordShapesModel" "openAt" "[I") ∈ GT := gt_t 704 (by decide +kernel) (by decide +kernel)
theorem tk_705 : (Jvm.Cond.fieldLink "WordShapesModel" 43 "WordShapesModel" "openCount" "[I") ∈ GT := gt_t 705 (by decide +kernel) (by decide +kernel)
theorem tk_706 : (Jvm.Cond.fieldLink "WordShapesModel" 46 "WordShapesModel" "openKind" "[I") ∈ GT := gt_t 706 (by decide +kernel) (by decide +kernel)
theorem tk_707 : (Jvm.Cond.laysFinal "WordShapesModel" "WordShapesModel" "letters" "[I") ∈ GT := gt_t 707 (by decide +kernel) (by decide +kernel)
theorem tk_709 : (Jvm.Cond.laysFinal "WordShapesModel" "WordShapesModel" "begins" "[I") ∈ GT := gt_t 709 (by decide +kernel) (by decide +kernel)
theorem tk_711 : (Jvm.Cond.lays "WordShapesModel" "WordShapesModel" "thrown" "I") ∈ GT := gt_t 711 (by decide +kernel) (by decide +kernel)
theorem tk_713 : (Jvm.Cond.laysFinal "WordShapesModel" "WordShapesModel" "digits" "I") ∈ GT := gt_t 713 (by decide +kernel) (by decide +kernel)
theorem tk_715 : (Jvm.Cond.laysFinal "WordShapesModel" "WordShapesModel" "mostPoints" "I") ∈ GT := gt_t 715 (by decide +kernel) (by decide +kernel)
theorem tk_717 : (Jvm.Cond.laysFinal "WordShapesModel" "WordShapesModel" "mostPlan" "I") ∈ GT := gt_t 717 (by decide +kernel) (by decide +kernel)
theorem tk_719 : (Jvm.Cond.lays "WordShapesModel" "WordShapesModel" "fed" "I") ∈ GT := gt_t 719 (by decide +kernel) (by decide +kernel)
theorem tk_721 : (Jvm.Cond.laysFinal "WordShapesModel" "WordShapesModel" "tape" "[I") ∈ GT := gt_t 721 (by decide +kernel) (by decide +kernel)
theorem tk_723 : (Jvm.Cond.laysFinal "WordShapesModel" "WordShapesModel" "plan" "[I") ∈ GT := gt_t 723 (by decide +kernel) (by decide +kernel)
theorem tk_725 : (Jvm.Cond.laysFinal "WordShapesModel" "WordShapesModel" "planned" "[I") ∈ GT := gt_t 725 (by decide +kernel) (by decide +kernel)
theorem tk_727 : (Jvm.Cond.laysFinal "WordShapesModel" "WordShapesModel" "xy" "[I") ∈ GT := gt_t 727 (by decide +kernel) (by decide +kernel)
theorem tk_729 : (Jvm.Cond.laysFinal "WordShapesModel" "WordShapesModel" "points" "[I") ∈ GT := gt_t 729 (by decide +kernel) (by decide +kernel)
theorem tk_731 : (Jvm.Cond.lays "WordShapesModel" "WordShapesModel" "size" "I") ∈ GT := gt_t 731 (by decide +kernel) (by decide +kernel)
theorem tk_733 : (Jvm.Cond.laysFinal "WordShapesModel" "WordShapesModel" "result" "[I") ∈ GT := gt_t 733 (by decide +kernel) (by decide +kernel)
theorem tk_735 : (Jvm.Cond.laysFinal "WordShapesModel" "WordShapesModel" "out" "[I") ∈ GT := gt_t 735 (by decide +kernel) (by decide +kernel)
theorem tk_737 : (Jvm.Cond.lays "WordShapesModel" "WordShapesModel" "written" "I") ∈ GT := gt_t 737 (by decide +kernel) (by decide +kernel)
theorem tk_739 : (Jvm.Cond.lays "WordShapesModel" "WordShapesModel" "slot" "I") ∈ GT := gt_t 739 (by decide +kernel) (by decide +kernel)
theorem tk_741 : (Jvm.Cond.lays "WordShapesModel" "WordShapesModel" "at" "I") ∈ GT := gt_t 741 (by decide +kernel) (by decide +kernel)
theorem tk_743 : (Jvm.Cond.lays "WordShapesModel" "WordShapesModel" "fault" "I") ∈ GT := gt_t 743 (by decide +kernel) (by decide +kernel)
theorem tk_745 : (Jvm.Cond.lays "WordShapesModel" "WordShapesModel" "place" "I") ∈ GT := gt_t 745 (by decide +kernel) (by decide +kernel)
theorem tk_747 : (Jvm.Cond.lays "WordShapesModel" "WordShapesModel" "value" "I") ∈ GT := gt_t 747 (by decide +kernel) (by decide +kernel)
theorem tk_749 : (Jvm.Cond.laysFinal "WordShapesModel" "WordShapesModel" "openAt" "[I") ∈ GT := gt_t 749 (by decide +kernel) (by decide +kernel)
theorem tk_751 : (Jvm.Cond.laysFinal "WordShapesModel" "WordShapesModel" "openCount" "[I") ∈ GT := gt_t 751 (by decide +kernel) (by decide +kernel)
theorem tk_753 : (Jvm.Cond.laysFinal "WordShapesModel" "WordShapesModel" "openKind" "[I") ∈ GT := gt_t 753 (by decide +kernel) (by decide +kernel)
theorem tk_756 : (Jvm.Cond.methodLink "WordShapesLaw" 68 y_M_thrown) ∈ GT := gt_t 756 (by decide +kernel) (by decide +kernel)
theorem tk_757 : (Jvm.Cond.instanceMethod y_M_thrown) ∈ GT := gt_t 757 (by decide +kernel) (by decide +kernel)
theorem tk_758 : (Jvm.Cond.selects "WordShapesModel" y_M_thrown y_M_thrown) ∈ GT := gt_t 758 (by decide +kernel) (by decide +kernel)
set_option maxRecDepth 20000 in
theorem tk_759 : (Jvm.Cond.code y_M_thrown prog_7_method_2_code 1 (Option.some Jvm.ClassFile.FieldType.int)) ∈ GT := gt_m (List.mem_append_right _ (List.mem_append_right _ (List.mem_append_right _ (List.mem_of_getElem? (i := 39) rfl)))) rfl
theorem tk_760 : (Jvm.Cond.methodLink "WordShapesLaw" 67 y_M_feed) ∈ GT := gt_t 760 (by decide +kernel) (by decide +kernel)
theorem tk_761 : (Jvm.Cond.instanceMethod y_M_feed) ∈ GT := gt_t 761 (by decide +kernel) (by decide +kernel)
theorem tk_762 : (Jvm.Cond.selects "WordShapesModel" y_M_feed y_M_feed) ∈ GT := gt_t 762 (by decide +kernel) (by decide +kernel)
set_option maxRecDepth 20000 in
theorem tk_763 : (Jvm.Cond.code y_M_feed prog_7_method_6_code 8 (Option.some Jvm.ClassFile.FieldType.int)) ∈ GT := gt_m (List.mem_append_right _ (List.mem_append_right _ (List.mem_append_right _ (List.mem_of_getElem? (i := 43) rfl)))) rfl
theorem tk_764 : (Jvm.Cond.methodLink "WordShapesModel" 69 y_M_fail) ∈ GT := gt_t 764 (by decide +kernel) (by decide +kernel)
theorem tk_766 : (Jvm.Cond.instanceMethod y_M_fail) ∈ GT := gt_t 766 (by decide +kernel) (by decide +kernel)
set_option maxRecDepth 20000 in
theorem tk_767 : (Jvm.Cond.code y_M_fail prog_7_method_3_code 2 (Option.some Jvm.ClassFile.FieldType.int)) ∈ GT := gt_m (List.mem_append_right _ (List.mem_append_right _ (List.mem_append_right _ (List.mem_of_getElem? (i := 47) rfl)))) rfl
theorem tk_768 : (Jvm.Cond.methodLink "WordShapesLaw" 75 y_M_end) ∈ GT := gt_t 768 (by decide +kernel) (by decide +kernel)
theorem tk_769 : (Jvm.Cond.instanceMethod y_M_end) ∈ GT := gt_t 769 (by decide +kernel) (by decide +kernel)
theorem tk_770 : (Jvm.Cond.selects "WordShapesModel" y_M_end y_M_end) ∈ GT := gt_t 770 (by decide +kernel) (by decide +kernel)
set_option maxRecDepth 20000 in
theorem tk_771 : (Jvm.Cond.code y_M_end prog_7_method_7_code 2 (Option.some Jvm.ClassFile.FieldType.int)) ∈ GT := gt_m (List.mem_append_right _ (List.mem_append_right _ (List.mem_append_right _ (List.mem_of_getElem? (i := 51) rfl)))) rfl
theorem tk_772 : (Jvm.Cond.methodLink "WordShapesModel" 62 y_M_within) ∈ GT := gt_t 772 (by decide +kernel) (by decide +kernel)
theorem tk_773 : (Jvm.Cond.static y_M_within) ∈ GT := gt_t 773 (by decide +kernel) (by decide +kernel)
set_option maxRecDepth 20000 in
theorem tk_774 : (Jvm.Cond.code y_M_within prog_7_method_4_code 3 (Option.some Jvm.ClassFile.FieldType.boolean)) ∈ GT := gt_m (List.mem_append_right _ (List.mem_append_right _ (List.mem_append_right _ (List.mem_of_getElem? (i := 54) rfl)))) rfl
theorem tk_775 : (Jvm.Cond.methodLink "WordShapesLaw" 78 y_M_read) ∈ GT := gt_t 775 (by decide +kernel) (by decide +kernel)
theorem tk_776 : (Jvm.Cond.instanceMethod y_M_read) ∈ GT := gt_t 776 (by decide +kernel) (by decide +kernel)
theorem tk_777 : (Jvm.Cond.selects "WordShapesModel" y_M_read y_M_read) ∈ GT := gt_t 777 (by decide +kernel) (by decide +kernel)
set_option maxRecDepth 20000 in
theorem tk_778 : (Jvm.Cond.code y_M_read prog_7_method_35_code 3 (Option.some Jvm.ClassFile.FieldType.int)) ∈ GT := gt_m (List.mem_append_right _ (List.mem_append_right _ (List.mem_append_right _ (List.mem_of_getElem? (i := 58) rfl)))) rfl
theorem tk_779 : (Jvm.Cond.methodLink "WordShapesModel" 186 y_M_isSlot) ∈ GT := gt_t 779 (by decide +kernel) (by decide +kernel)
theorem tk_780 : (Jvm.Cond.static y_M_isSlot) ∈ GT := gt_t 780 (by decide +kernel) (by decide +kernel)
set_option maxRecDepth 20000 in
theorem tk_781 : (Jvm.Cond.code y_M_isSlot prog_7_method_5_code 1 (Option.some Jvm.ClassFile.FieldType.boolean)) ∈ GT := gt_m (List.mem_append_right _ (List.mem_append_right _ (List.mem_append_right _ (List.mem_of_getElem? (i := 61) rfl)))) rfl
theorem tk_782 : (Jvm.Cond.methodLink "WordShapesModel" 189 y_M_readAll) ∈ GT := gt_t 782 (by decide +kernel) (by decide +kernel)
theorem tk_784 : (Jvm.Cond.instanceMethod y_M_readAll) ∈ GT := gt_t 784 (by decide +kernel) (by decide +kernel)
set_option maxRecDepth 20000 in
theorem tk_785 : (Jvm.Cond.code y_M_readAll prog_7_method_34_code 6 (Option.some Jvm.ClassFile.FieldType.boolean)) ∈ GT := gt_m (List.mem_append_right _ (List.mem_append_right _ (List.mem_append_right _ (List.mem_of_getElem? (i := 65) rfl)))) rfl
theorem tk_786 : (Jvm.Cond.methodLink "WordShapesModel" 183 y_M_shape) ∈ GT := gt_t 786 (by decide +kernel) (by decide +kernel)
theorem tk_788 : (Jvm.Cond.instanceMethod y_M_shape) ∈ GT := gt_t 788 (by decide +kernel) (by decide +kernel)
set_option maxRecDepth 20000 in
theorem tk_789 : (Jvm.Cond.code y_M_shape prog_7_method_33_code 7 (Option.some Jvm.ClassFile.FieldType.int)) ∈ GT := gt_m (List.mem_append_right _ (List.mem_append_right _ (List.mem_append_right _ (List.mem_of_getElem? (i := 69) rfl)))) rfl
theorem tk_790 : (Jvm.Cond.methodLink "WordShapesModel" 106 y_M_pass) ∈ GT := gt_t 790 (by decide +kernel) (by decide +kernel)
theorem tk_792 : (Jvm.Cond.instanceMethod y_M_pass) ∈ GT := gt_t 792 (by decide +kernel) (by decide +kernel)
set_option maxRecDepth 20000 in
theorem tk_793 : (Jvm.Cond.code y_M_pass prog_7_method_14_code 1 (Option.none : Option Jvm.ClassFile.FieldType)) ∈ GT := gt_m (List.mem_append_right _ (List.mem_append_right _ (List.mem_append_right _ (List.mem_of_getElem? (i := 73) rfl)))) rfl
theorem tk_794 : (Jvm.Cond.methodLink "WordShapesModel" 86 y_M_isBlank) ∈ GT := gt_t 794 (by decide +kernel) (by decide +kernel)
theorem tk_795 : (Jvm.Cond.static y_M_isBlank) ∈ GT := gt_t 795 (by decide +kernel) (by decide +kernel)
set_option maxRecDepth 20000 in
theorem tk_796 : (Jvm.Cond.code y_M_isBlank prog_7_method_8_code 1 (Option.some Jvm.ClassFile.FieldType.boolean)) ∈ GT := gt_m (List.mem_append_right _ (List.mem_append_right _ (List.mem_append_right _ (List.mem_of_getElem? (i := 76) rfl)))) rfl
theorem tk_797 : (Jvm.Cond.methodLink "WordShapesModel" 95 y_M_here) ∈ GT := gt_t 797 (by decide +kernel) (by decide +kernel)
theorem tk_799 : (Jvm.Cond.instanceMethod y_M_here) ∈ GT := gt_t 799 (by decide +kernel) (by decide +kernel)
set_option maxRecDepth 20000 in
theorem tk_800 : (Jvm.Cond.code y_M_here prog_7_method_13_code 1 (Option.some Jvm.ClassFile.FieldType.int)) ∈ GT := gt_m (List.mem_append_right _ (List.mem_append_right _ (List.mem_append_right _ (List.mem_of_getElem? (i := 80) rfl)))) rfl
theorem tk_801 : (Jvm.Cond.methodLink "WordShapesModel" 73 y_M_isLetter) ∈ GT := gt_t 801 (by decide +kernel) (by decide +kernel)
theorem tk_802 : (Jvm.Cond.static y_M_isLetter) ∈ GT := gt_t 802 (by decide +kernel) (by decide +kernel)
set_option maxRecDepth 20000 in
theorem tk_803 : (Jvm.Cond.code y_M_isLetter prog_7_method_9_code 1 (Option.some Jvm.ClassFile.FieldType.boolean)) ∈ GT := gt_m (List.mem_append_right _ (List.mem_append_right _ (List.mem_append_right _ (List.mem_of_getElem? (i := 83) rfl)))) rfl
theorem tk_804 : (Jvm.Cond.methodLink "WordShapesModel" 109 y_M_unexpected) ∈ GT := gt_t 804 (by decide +kernel) (by decide +kernel)
theorem tk_806 : (Jvm.Cond.instanceMethod y_M_unexpected) ∈ GT := gt_t 806 (by decide +kernel) (by decide +kernel)
set_option maxRecDepth 20000 in
theorem tk_807 : (Jvm.Cond.code y_M_unexpected prog_7_method_16_code 1 (Option.some Jvm.ClassFile.FieldType.boolean)) ∈ GT := gt_m (List.mem_append_right _ (List.mem_append_right _ (List.mem_append_right _ (List.mem_of_getElem? (i := 87) rfl)))) rfl
theorem tk_808 : (Jvm.Cond.methodLink "WordShapesModel" 99 y_M_isKnown) ∈ GT := gt_t 808 (by decide +kernel) (by decide +kernel)
theorem tk_809 : (Jvm.Cond.static y_M_isKnown) ∈ GT := gt_t 809 (by decide +kernel) (by decide +kernel)
set_option maxRecDepth 20000 in
theorem tk_810 : (Jvm.Cond.code y_M_isKnown prog_7_method_12_code 1 (Option.some Jvm.ClassFile.FieldType.boolean)) ∈ GT := gt_m (List.mem_append_right _ (List.mem_append_right _ (List.mem_append_right _ (List.mem_of_getElem? (i := 90) rfl)))) rfl
theorem tk_811 : (Jvm.Cond.methodLink "WordShapesModel" 77 y_M_isDigit) ∈ GT := gt_t 811 (by decide +kernel) (by decide +kernel)
theorem tk_812 : (Jvm.Cond.static y_M_isDigit) ∈ GT := gt_t 812 (by decide +kernel) (by decide +kernel)
set_option maxRecDepth 20000 in
theorem tk_813 : (Jvm.Cond.code y_M_isDigit prog_7_method_10_code 1 (Option.some Jvm.ClassFile.FieldType.boolean)) ∈ GT := gt_m (List.mem_append_right _ (List.mem_append_right _ (List.mem_append_right _ (List.mem_of_getElem? (i := 93) rfl)))) rfl
theorem tk_814 : (Jvm.Cond.methodLink "WordShapesModel" 80 y_M_isSign) ∈ GT := gt_t 814 (by decide +kernel) (by decide +kernel)
theorem tk_815 : (Jvm.Cond.static y_M_isSign) ∈ GT := gt_t 815 (by decide +kernel) (by decide +kernel)
set_option maxRecDepth 20000 in
theorem tk_816 : (Jvm.Cond.code y_M_isSign prog_7_method_11_code 1 (Option.some Jvm.ClassFile.FieldType.boolean)) ∈ GT := gt_m (List.mem_append_right _ (List.mem_append_right _ (List.mem_append_right _ (List.mem_of_getElem? (i := 96) rfl)))) rfl
theorem tk_817 : (Jvm.Cond.methodLink "WordShapesModel" 102 y_M_wrong) ∈ GT := gt_t 817 (by decide +kernel) (by decide +kernel)
theorem tk_819 : (Jvm.Cond.instanceMethod y_M_wrong) ∈ GT := gt_t 819 (by decide +kernel) (by decide +kernel)
set_option maxRecDepth 20000 in
theorem tk_820 : (Jvm.Cond.code y_M_wrong prog_7_method_15_code 3 (Option.some Jvm.ClassFile.FieldType.boolean)) ∈ GT := gt_m (List.mem_append_right _ (List.mem_append_right _ (List.mem_append_right _ (List.mem_of_getElem? (i := 100) rfl)))) rfl
theorem tk_821 : (Jvm.Cond.methodLink "WordShapesModel" 167 y_M_word) ∈ GT := gt_t 821 (by decide +kernel) (by decide +kernel)
theorem tk_823 : (Jvm.Cond.instanceMethod y_M_word) ∈ GT := gt_t 823 (by decide +kernel) (by decide +kernel)
set_option maxRecDepth 20000 in
theorem tk_824 : (Jvm.Cond.code y_M_word prog_7_method_17_code 7 (Option.some Jvm.ClassFile.FieldType.int)) ∈ GT := gt_m (List.mem_append_right _ (List.mem_append_right _ (List.mem_append_right _ (List.mem_of_getElem? (i := 104) rfl)))) rfl
theorem tk_825 : (Jvm.Cond.methodLink "WordShapesModel" 142 y_M_room) ∈ GT := gt_t 825 (by decide +kernel) (by decide +kernel)
theorem tk_827 : (Jvm.Cond.instanceMethod y_M_room) ∈ GT := gt_t 827 (by decide +kernel) (by decide +kernel)
set_option maxRecDepth 20000 in
theorem tk_828 : (Jvm.Cond.code y_M_room prog_7_method_23_code 3 (Option.some Jvm.ClassFile.FieldType.boolean)) ∈ GT := gt_m (List.mem_append_right _ (List.mem_append_right _ (List.mem_append_right _ (List.mem_of_getElem? (i := 108) rfl)))) rfl
theorem tk_829 : (Jvm.Cond.methodLink "WordShapesModel" 170 y_M_open) ∈ GT := gt_t 829 (by decide +kernel) (by decide +kernel)
theorem tk_831 : (Jvm.Cond.instanceMethod y_M_open) ∈ GT := gt_t 831 (by decide +kernel) (by decide +kernel)
set_option maxRecDepth 20000 in
theorem tk_832 : (Jvm.Cond.code y_M_open prog_7_method_25_code 2 (Option.some Jvm.ClassFile.FieldType.int)) ∈ GT := gt_m (List.mem_append_right _ (List.mem_append_right _ (List.mem_append_right _ (List.mem_of_getElem? (i := 112) rfl)))) rfl
theorem tk_833 : (Jvm.Cond.methodLink "WordShapesModel" 138 y_M_say) ∈ GT := gt_t 833 (by decide +kernel) (by decide +kernel)
theorem tk_835 : (Jvm.Cond.instanceMethod y_M_say) ∈ GT := gt_t 835 (by decide +kernel) (by decide +kernel)
set_option maxRecDepth 20000 in
theorem tk_836 : (Jvm.Cond.code y_M_say prog_7_method_24_code 2 (Option.none : Option Jvm.ClassFile.FieldType)) ∈ GT := gt_m (List.mem_append_right _ (List.mem_append_right _ (List.mem_append_right _ (List.mem_of_getElem? (i := 116) rfl)))) rfl
theorem tk_837 : (Jvm.Cond.methodLink "WordShapesModel" 173 y_M_looked) ∈ GT := gt_t 837 (by decide +kernel) (by decide +kernel)
theorem tk_839 : (Jvm.Cond.instanceMethod y_M_looked) ∈ GT := gt_t 839 (by decide +kernel) (by decide +kernel)
set_option maxRecDepth 20000 in
theorem tk_840 : (Jvm.Cond.code y_M_looked prog_7_method_31_code 4 (Option.some Jvm.ClassFile.FieldType.int)) ∈ GT := gt_m (List.mem_append_right _ (List.mem_append_right _ (List.mem_append_right _ (List.mem_of_getElem? (i := 120) rfl)))) rfl
theorem tk_841 : (Jvm.Cond.methodLink "WordShapesModel" 177 y_M_simple) ∈ GT := gt_t 841 (by decide +kernel) (by decide +kernel)
theorem tk_843 : (Jvm.Cond.instanceMethod y_M_simple) ∈ GT := gt_t 843 (by decide +kernel) (by decide +kernel)
set_option maxRecDepth 20000 in
theorem tk_844 : (Jvm.Cond.code y_M_simple prog_7_method_30_code 2 (Option.some Jvm.ClassFile.FieldType.int)) ∈ GT := gt_m (List.mem_append_right _ (List.mem_append_right _ (List.mem_append_right _ (List.mem_of_getElem? (i := 124) rfl)))) rfl
theorem tk_845 : (Jvm.Cond.methodLink "WordShapesModel" 164 y_M_rings) ∈ GT := gt_t 845 (by decide +kernel) (by decide +kernel)
theorem tk_847 : (Jvm.Cond.instanceMethod y_M_rings) ∈ GT := gt_t 847 (by decide +kernel) (by decide +kernel)
set_option maxRecDepth 20000 in
theorem tk_848 : (Jvm.Cond.code y_M_rings prog_7_method_29_code 5 (Option.some Jvm.ClassFile.FieldType.int)) ∈ GT := gt_m (List.mem_append_right _ (List.mem_append_right _ (List.mem_append_right _ (List.mem_of_getElem? (i := 128) rfl)))) rfl
theorem tk_849 : (Jvm.Cond.methodLink "WordShapesModel" 154 y_M_must) ∈ GT := gt_t 849 (by decide +kernel) (by decide +kernel)
theorem tk_851 : (Jvm.Cond.instanceMethod y_M_must) ∈ GT := gt_t 851 (by decide +kernel) (by decide +kernel)
set_option maxRecDepth 20000 in
theorem tk_852 : (Jvm.Cond.code y_M_must prog_7_method_18_code 2 (Option.some Jvm.ClassFile.FieldType.boolean)) ∈ GT := gt_m (List.mem_append_right _ (List.mem_append_right _ (List.mem_append_right _ (List.mem_of_getElem? (i := 132) rfl)))) rfl
theorem tk_853 : (Jvm.Cond.methodLink "WordShapesModel" 157 y_M_coordinates) ∈ GT := gt_t 853 (by decide +kernel) (by decide +kernel)
theorem tk_855 : (Jvm.Cond.instanceMethod y_M_coordinates) ∈ GT := gt_t 855 (by decide +kernel) (by decide +kernel)
set_option maxRecDepth 20000 in
theorem tk_856 : (Jvm.Cond.code y_M_coordinates prog_7_method_28_code 3 (Option.some Jvm.ClassFile.FieldType.int)) ∈ GT := gt_m (List.mem_append_right _ (List.mem_append_right _ (List.mem_append_right _ (List.mem_of_getElem? (i := 136) rfl)))) rfl
theorem tk_857 : (Jvm.Cond.methodLink "WordShapesModel" 148 y_M_coordinate) ∈ GT := gt_t 857 (by decide +kernel) (by decide +kernel)
theorem tk_859 : (Jvm.Cond.instanceMethod y_M_coordinate) ∈ GT := gt_t 859 (by decide +kernel) (by decide +kernel)
set_option maxRecDepth 20000 in
theorem tk_860 : (Jvm.Cond.code y_M_coordinate prog_7_method_27_code 3 (Option.some Jvm.ClassFile.FieldType.boolean)) ∈ GT := gt_m (List.mem_append_right _ (List.mem_append_right _ (List.mem_append_right _ (List.mem_of_getElem? (i := 140) rfl)))) rfl
theorem tk_861 : (Jvm.Cond.methodLink "WordShapesModel" 145 y_M_number) ∈ GT := gt_t 861 (by decide +kernel) (by decide +kernel)
theorem tk_863 : (Jvm.Cond.instanceMethod y_M_number) ∈ GT := gt_t 863 (by decide +kernel) (by decide +kernel)
set_option maxRecDepth 20000 in
theorem tk_864 : (Jvm.Cond.code y_M_number prog_7_method_21_code 12 (Option.some Jvm.ClassFile.FieldType.boolean)) ∈ GT := gt_m (List.mem_append_right _ (List.mem_append_right _ (List.mem_append_right _ (List.mem_of_getElem? (i := 144) rfl)))) rfl
theorem tk_865 : (Jvm.Cond.methodLink "WordShapesModel" 113 y_M_digitsFrom) ∈ GT := gt_t 865 (by decide +kernel) (by decide +kernel)
theorem tk_867 : (Jvm.Cond.instanceMethod y_M_digitsFrom) ∈ GT := gt_t 867 (by decide +kernel) (by decide +kernel)
set_option maxRecDepth 20000 in
theorem tk_868 : (Jvm.Cond.code y_M_digitsFrom prog_7_method_20_code 2 (Option.some Jvm.ClassFile.FieldType.int)) ∈ GT := gt_m (List.mem_append_right _ (List.mem_append_right _ (List.mem_append_right _ (List.mem_of_getElem? (i := 148) rfl)))) rfl
theorem tk_869 : (Jvm.Cond.constantLong "WordShapesModel" 116 (10000000 : Int64)) ∈ GT := gt_t 869 (by decide +kernel) (by decide +kernel)
theorem tk_870 : (Jvm.Cond.constantLong "WordShapesModel" 118 (10 : Int64)) ∈ GT := gt_t 870 (by decide +kernel) (by decide +kernel)
theorem tk_871 : (Jvm.Cond.constantLong "WordShapesModel" 120 (48 : Int64)) ∈ GT := gt_t 871 (by decide +kernel) (by decide +kernel)
theorem tk_872 : (Jvm.Cond.methodLink "WordShapesModel" 122 y_M_rounded) ∈ GT := gt_t 872 (by decide +kernel) (by decide +kernel)
theorem tk_874 : (Jvm.Cond.instanceMethod y_M_rounded) ∈ GT := gt_t 874 (by decide +kernel) (by decide +kernel)
set_option maxRecDepth 20000 in
theorem tk_875 : (Jvm.Cond.code y_M_rounded prog_7_method_22_code 13 (Option.some Jvm.ClassFile.FieldType.long)) ∈ GT := gt_m (List.mem_append_right _ (List.mem_append_right _ (List.mem_append_right _ (List.mem_of_getElem? (i := 155) rfl)))) rfl
theorem tk_876 : (Jvm.Cond.constantLong "WordShapesModel" 131 (100000000000 : Int64)) ∈ GT := gt_t 876 (by decide +kernel) (by decide +kernel)
theorem tk_877 : (Jvm.Cond.constantLong "WordShapesModel" 133 (2 : Int64)) ∈ GT := gt_t 877 (by decide +kernel) (by decide +kernel)
theorem tk_878 : (Jvm.Cond.constantLong "WordShapesModel" 126 (1000000000 : Int64)) ∈ GT := gt_t 878 (by decide +kernel) (by decide +kernel)
theorem tk_879 : (Jvm.Cond.methodLink "WordShapesModel" 151 y_M_goesOn) ∈ GT := gt_t 879 (by decide +kernel) (by decide +kernel)
theorem tk_881 : (Jvm.Cond.instanceMethod y_M_goesOn) ∈ GT := gt_t 881 (by decide +kernel) (by decide +kernel)
set_option maxRecDepth 20000 in
theorem tk_882 : (Jvm.Cond.code y_M_goesOn prog_7_method_19_code 1 (Option.some Jvm.ClassFile.FieldType.int)) ∈ GT := gt_m (List.mem_append_right _ (List.mem_append_right _ (List.mem_append_right _ (List.mem_of_getElem? (i := 162) rfl)))) rfl
theorem tk_883 : (Jvm.Cond.methodLink "WordShapesModel" 160 y_M_close) ∈ GT := gt_t 883 (by decide +kernel) (by decide +kernel)
theorem tk_885 : (Jvm.Cond.instanceMethod y_M_close) ∈ GT := gt_t 885 (by decide +kernel) (by decide +kernel)
set_option maxRecDepth 20000 in
theorem tk_886 : (Jvm.Cond.code y_M_close prog_7_method_26_code 3 (Option.none : Option Jvm.ClassFile.FieldType)) ∈ GT := gt_m (List.mem_append_right _ (List.mem_append_right _ (List.mem_append_right _ (List.mem_of_getElem? (i := 166) rfl)))) rfl
theorem tk_887 : (Jvm.Cond.methodLink "WordShapesModel" 180 y_M_parts) ∈ GT := gt_t 887 (by decide +kernel) (by decide +kernel)
theorem tk_889 : (Jvm.Cond.instanceMethod y_M_parts) ∈ GT := gt_t 889 (by decide +kernel) (by decide +kernel)
set_option maxRecDepth 20000 in
theorem tk_890 : (Jvm.Cond.code y_M_parts prog_7_method_32_code 7 (Option.some Jvm.ClassFile.FieldType.int)) ∈ GT := gt_m (List.mem_append_right _ (List.mem_append_right _ (List.mem_append_right _ (List.mem_of_getElem? (i := 170) rfl)))) rfl
theorem tk_891 : (Jvm.Cond.methodLink "WordShapesLaw" 81 y_M_fault) ∈ GT := gt_t 891 (by decide +kernel) (by decide +kernel)
theorem tk_892 : (Jvm.Cond.instanceMethod y_M_fault) ∈ GT := gt_t 892 (by decide +kernel) (by decide +kernel)
theorem tk_893 : (Jvm.Cond.selects "WordShapesModel" y_M_fault y_M_fault) ∈ GT := gt_t 893 (by decide +kernel) (by decide +kernel)
set_option maxRecDepth 20000 in
theorem tk_894 : (Jvm.Cond.code y_M_fault prog_7_method_36_code 2 (Option.some Jvm.ClassFile.FieldType.int)) ∈ GT := gt_m (List.mem_append_right _ (List.mem_append_right _ (List.mem_append_right _ (List.mem_of_getElem? (i := 174) rfl)))) rfl
theorem tk_895 : (Jvm.Cond.methodLink "WordShapesLaw" 84 y_M_write) ∈ GT := gt_t 895 (by decide +kernel) (by decide +kernel)
theorem tk_896 : (Jvm.Cond.instanceMethod y_M_write) ∈ GT := gt_t 896 (by decide +kernel) (by decide +kernel)
theorem tk_897 : (Jvm.Cond.selects "WordShapesModel" y_M_write y_M_write) ∈ GT := gt_t 897 (by decide +kernel) (by decide +kernel)
set_option maxRecDepth 20000 in
theorem tk_898 : (Jvm.Cond.code y_M_write prog_7_method_44_code 3 (Option.some Jvm.ClassFile.FieldType.int)) ∈ GT := gt_m (List.mem_append_right _ (List.mem_append_right _ (List.mem_append_right _ (List.mem_of_getElem? (i := 178) rfl)))) rfl
theorem tk_899 : (Jvm.Cond.methodLink "WordShapesModel" 214 y_M_putAll) ∈ GT := gt_t 899 (by decide +kernel) (by decide +kernel)
theorem tk_901 : (Jvm.Cond.instanceMethod y_M_putAll) ∈ GT := gt_t 901 (by decide +kernel) (by decide +kernel)
set_option maxRecDepth 20000 in
theorem tk_902 : (Jvm.Cond.code y_M_putAll prog_7_method_43_code 10 (Option.none : Option Jvm.ClassFile.FieldType)) ∈ GT := gt_m (List.mem_append_right _ (List.mem_append_right _ (List.mem_append_right _ (List.mem_of_getElem? (i := 182) rfl)))) rfl
theorem tk_903 : (Jvm.Cond.methodLink "WordShapesModel" 207 y_M_putWord) ∈ GT := gt_t 903 (by decide +kernel) (by decide +kernel)
theorem tk_905 : (Jvm.Cond.instanceMethod y_M_putWord) ∈ GT := gt_t 905 (by decide +kernel) (by decide +kernel)
set_option maxRecDepth 20000 in
theorem tk_906 : (Jvm.Cond.code y_M_putWord prog_7_method_38_code 3 (Option.none : Option Jvm.ClassFile.FieldType)) ∈ GT := gt_m (List.mem_append_right _ (List.mem_append_right _ (List.mem_append_right _ (List.mem_of_getElem? (i := 186) rfl)))) rfl
theorem tk_907 : (Jvm.Cond.methodLink "WordShapesModel" 195 y_M_put) ∈ GT := gt_t 907 (by decide +kernel) (by decide +kernel)
theorem tk_909 : (Jvm.Cond.instanceMethod y_M_put) ∈ GT := gt_t 909 (by decide +kernel) (by decide +kernel)
set_option maxRecDepth 20000 in
theorem tk_910 : (Jvm.Cond.code y_M_put prog_7_method_37_code 2 (Option.none : Option Jvm.ClassFile.FieldType)) ∈ GT := gt_m (List.mem_append_right _ (List.mem_append_right _ (List.mem_append_right _ (List.mem_of_getElem? (i := 190) rfl)))) rfl
theorem tk_911 : (Jvm.Cond.methodLink "WordShapesModel" 210 y_M_putPoints) ∈ GT := gt_t 911 (by decide +kernel) (by decide +kernel)
theorem tk_913 : (Jvm.Cond.instanceMethod y_M_putPoints) ∈ GT := gt_t 913 (by decide +kernel) (by decide +kernel)
set_option maxRecDepth 20000 in
theorem tk_914 : (Jvm.Cond.code y_M_putPoints prog_7_method_42_code 6 (Option.none : Option Jvm.ClassFile.FieldType)) ∈ GT := gt_m (List.mem_append_right _ (List.mem_append_right _ (List.mem_append_right _ (List.mem_of_getElem? (i := 194) rfl)))) rfl
theorem tk_915 : (Jvm.Cond.methodLink "WordShapesModel" 201 y_M_putBetween) ∈ GT := gt_t 915 (by decide +kernel) (by decide +kernel)
theorem tk_917 : (Jvm.Cond.instanceMethod y_M_putBetween) ∈ GT := gt_t 917 (by decide +kernel) (by decide +kernel)
set_option maxRecDepth 20000 in
theorem tk_918 : (Jvm.Cond.code y_M_putBetween prog_7_method_41_code 1 (Option.none : Option Jvm.ClassFile.FieldType)) ∈ GT := gt_m (List.mem_append_right _ (List.mem_append_right _ (List.mem_append_right _ (List.mem_of_getElem? (i := 198) rfl)))) rfl
theorem tk_919 : (Jvm.Cond.methodLink "WordShapesModel" 204 y_M_putNumber) ∈ GT := gt_t 919 (by decide +kernel) (by decide +kernel)
theorem tk_921 : (Jvm.Cond.instanceMethod y_M_putNumber) ∈ GT := gt_t 921 (by decide +kernel) (by decide +kernel)
set_option maxRecDepth 20000 in
theorem tk_922 : (Jvm.Cond.code y_M_putNumber prog_7_method_40_code 7 (Option.none : Option Jvm.ClassFile.FieldType)) ∈ GT := gt_m (List.mem_append_right _ (List.mem_append_right _ (List.mem_append_right _ (List.mem_of_getElem? (i := 202) rfl)))) rfl
theorem tk_923 : (Jvm.Cond.methodLink "WordShapesModel" 198 y_M_ten) ∈ GT := gt_t 923 (by decide +kernel) (by decide +kernel)
theorem tk_924 : (Jvm.Cond.static y_M_ten) ∈ GT := gt_t 924 (by decide +kernel) (by decide +kernel)
set_option maxRecDepth 20000 in
theorem tk_925 : (Jvm.Cond.code y_M_ten prog_7_method_39_code 1 (Option.some Jvm.ClassFile.FieldType.int)) ∈ GT := gt_m (List.mem_append_right _ (List.mem_append_right _ (List.mem_append_right _ (List.mem_of_getElem? (i := 205) rfl)))) rfl
theorem tk_926 : (Jvm.Cond.methodLink "WordShapesLaw" 88 y_M_again) ∈ GT := gt_t 926 (by decide +kernel) (by decide +kernel)
theorem tk_927 : (Jvm.Cond.instanceMethod y_M_again) ∈ GT := gt_t 927 (by decide +kernel) (by decide +kernel)
theorem tk_928 : (Jvm.Cond.selects "WordShapesModel" y_M_again y_M_again) ∈ GT := gt_t 928 (by decide +kernel) (by decide +kernel)
set_option maxRecDepth 20000 in
theorem tk_929 : (Jvm.Cond.code y_M_again prog_7_method_45_code 2 (Option.some Jvm.ClassFile.FieldType.int)) ∈ GT := gt_m (List.mem_append_right _ (List.mem_append_right _ (List.mem_append_right _ (List.mem_of_getElem? (i := 209) rfl)))) rfl
theorem tk_930 : (Jvm.Cond.methodLink "WordShapesLaw" 92 y_M_same) ∈ GT := gt_t 930 (by decide +kernel) (by decide +kernel)
theorem tk_931 : (Jvm.Cond.instanceMethod y_M_same) ∈ GT := gt_t 931 (by decide +kernel) (by decide +kernel)
theorem tk_932 : (Jvm.Cond.selects "WordShapesModel" y_M_same y_M_same) ∈ GT := gt_t 932 (by decide +kernel) (by decide +kernel)
set_option maxRecDepth 20000 in
theorem tk_933 : (Jvm.Cond.code y_M_same prog_7_method_46_code 5 (Option.some Jvm.ClassFile.FieldType.boolean)) ∈ GT := gt_m (List.mem_append_right _ (List.mem_append_right _ (List.mem_append_right _ (List.mem_of_getElem? (i := 213) rfl)))) rfl
theorem tk_934 : (Jvm.Cond.methodLink "WordShapesLaw" 95 y_M_plan) ∈ GT := gt_t 934 (by decide +kernel) (by decide +kernel)
theorem tk_935 : (Jvm.Cond.instanceMethod y_M_plan) ∈ GT := gt_t 935 (by decide +kernel) (by decide +kernel)
theorem tk_936 : (Jvm.Cond.selects "WordShapesModel" y_M_plan y_M_plan) ∈ GT := gt_t 936 (by decide +kernel) (by decide +kernel)
set_option maxRecDepth 20000 in
theorem tk_937 : (Jvm.Cond.code y_M_plan prog_7_method_47_code 3 (Option.some Jvm.ClassFile.FieldType.int)) ∈ GT := gt_m (List.mem_append_right _ (List.mem_append_right _ (List.mem_append_right _ (List.mem_of_getElem? (i := 217) rfl)))) rfl
theorem tk_938 : (Jvm.Cond.methodLink "WordShapesLaw" 99 y_M_ordinate) ∈ GT := gt_t 938 (by decide +kernel) (by decide +kernel)
theorem tk_939 : (Jvm.Cond.instanceMethod y_M_ordinate) ∈ GT := gt_t 939 (by decide +kernel) (by decide +kernel)
theorem tk_940 : (Jvm.Cond.selects "WordShapesModel" y_M_ordinate y_M_ordinate) ∈ GT := gt_t 940 (by decide +kernel) (by decide +kernel)
set_option maxRecDepth 20000 in
theorem tk_941 : (Jvm.Cond.code y_M_ordinate prog_7_method_48_code 4 (Option.some Jvm.ClassFile.FieldType.int)) ∈ GT := gt_m (List.mem_append_right _ (List.mem_append_right _ (List.mem_append_right _ (List.mem_of_getElem? (i := 221) rfl)))) rfl
theorem tk_942 : (Jvm.Cond.methodLink "WordShapesLaw" 102 y_M_byteAt) ∈ GT := gt_t 942 (by decide +kernel) (by decide +kernel)
theorem tk_943 : (Jvm.Cond.instanceMethod y_M_byteAt) ∈ GT := gt_t 943 (by decide +kernel) (by decide +kernel)
theorem tk_944 : (Jvm.Cond.selects "WordShapesModel" y_M_byteAt y_M_byteAt) ∈ GT := gt_t 944 (by decide +kernel) (by decide +kernel)
set_option maxRecDepth 20000 in
theorem tk_945 : (Jvm.Cond.code y_M_byteAt prog_7_method_49_code 2 (Option.some Jvm.ClassFile.FieldType.int)) ∈ GT := gt_m (List.mem_append_right _ (List.mem_append_right _ (List.mem_append_right _ (List.mem_of_getElem? (i := 225) rfl)))) rfl
theorem tk_946 : (Jvm.Cond.methodLink "WordShapesLaw" 105 y_M_count) ∈ GT := gt_t 946 (by decide +kernel) (by decide +kernel)
theorem tk_947 : (Jvm.Cond.instanceMethod y_M_count) ∈ GT := gt_t 947 (by decide +kernel) (by decide +kernel)
theorem tk_948 : (Jvm.Cond.selects "WordShapesModel" y_M_count y_M_count) ∈ GT := gt_t 948 (by decide +kernel) (by decide +kernel)
set_option maxRecDepth 20000 in
theorem tk_949 : (Jvm.Cond.code y_M_count prog_7_method_50_code 3 (Option.some Jvm.ClassFile.FieldType.int)) ∈ GT := gt_m (List.mem_append_right _ (List.mem_append_right _ (List.mem_append_right _ (List.mem_of_getElem? (i := 229) rfl)))) rfl
theorem tk_950 : (Jvm.Cond.arrayClass Jvm.ClassFile.FieldType.long) ∈ GT := gt_t 950 (by decide +kernel) (by decide +kernel)
theorem tq_951 : (Jvm.Cond.sameMethod "java/lang/Throwable" "java/lang/Throwable" "fillInStackTrace" "(I)Ljava/lang/Throwable;") ∈ tables_1 := List.mem_of_getElem? (i := 951) (by decide +kernel)
theorem tk_952 : (Jvm.Cond.fieldLink "java/lang/String" 9 "java/lang/String" "value" "[B") ∈ GT := gt_t 952 (by decide +kernel) (by decide +kernel)
theorem tk_953 : (Jvm.Cond.fieldLink "java/lang/String" 15 "java/lang/String" "coder" "B") ∈ GT := gt_t 953 (by decide +kernel) (by decide +kernel)
