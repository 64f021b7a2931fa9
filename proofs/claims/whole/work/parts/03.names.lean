/-! names: methods, classes, arrays (printed by wip/whole/gen/mknames.py) -/
def y_AM_entryForMissing : MethodName := ⟨"MapStore$ArrayMap", "entryForMissing", "(I)I"⟩
def y_AM_entryOf : MethodName := ⟨"MapStore$ArrayMap", "entryOf", "(I)I"⟩
def y_AM_inUse : MethodName := ⟨"MapStore$ArrayMap", "inUse", "()I"⟩
def y_AM_init : MethodName := ⟨"MapStore$ArrayMap", "<init>", "(LMapStore$Bytes;LMapStore$Bytes;III)V"⟩
def y_AN_clashes : MethodName := ⟨"MapStore$AnyMap", "clashes", "()I"⟩
def y_AN_free : MethodName := ⟨"MapStore$AnyMap", "free", "(I)I"⟩
def y_AN_inUse : MethodName := ⟨"MapStore$AnyMap", "inUse", "()I"⟩
def y_AN_init : MethodName := ⟨"MapStore$AnyMap", "<init>", "(LMapStore$Bytes;LMapStore$Bytes;I)V"⟩
def y_AN_keyAfter : MethodName := ⟨"MapStore$AnyMap", "keyAfter", "(II)I"⟩
def y_AN_placeOf : MethodName := ⟨"MapStore$AnyMap", "placeOf", "(I)I"⟩
def y_AN_putRecord : MethodName := ⟨"MapStore$AnyMap", "putRecord", "(II)I"⟩
def y_AN_takeRecord : MethodName := ⟨"MapStore$AnyMap", "takeRecord", "(I)I"⟩
def y_AN_write : MethodName := ⟨"MapStore$AnyMap", "write", "(III)I"⟩
def y_BY_byteAt : MethodName := ⟨"MapStore$Bytes", "byteAt", "(I)I"⟩
def y_BY_copy : MethodName := ⟨"MapStore$Bytes", "copy", "(ILMapStore$Bytes;II)V"⟩
def y_BY_demand : MethodName := ⟨"MapStore$Bytes", "demand", "(II)V"⟩
def y_BY_init : MethodName := ⟨"MapStore$Bytes", "<init>", "(I)V"⟩
def y_BY_number : MethodName := ⟨"MapStore$Bytes", "number", "(II)J"⟩
def y_BY_same : MethodName := ⟨"MapStore$Bytes", "same", "(LMapStore$Bytes;)Z"⟩
def y_BY_setByte : MethodName := ⟨"MapStore$Bytes", "setByte", "(IJ)V"⟩
def y_BY_setNumber : MethodName := ⟨"MapStore$Bytes", "setNumber", "(IIJ)V"⟩
def y_BY_shiftOf : MethodName := ⟨"MapStore$Bytes", "shiftOf", "(I)I"⟩
def y_EM_entryForMissing : MethodName := ⟨"MapStore$EntryMap", "entryForMissing", "(I)I"⟩
def y_EM_entryOf : MethodName := ⟨"MapStore$EntryMap", "entryOf", "(I)I"⟩
def y_EM_init : MethodName := ⟨"MapStore$EntryMap", "<init>", "(LMapStore$Bytes;LMapStore$Bytes;IIII)V"⟩
def y_EM_placeOf : MethodName := ⟨"MapStore$EntryMap", "placeOf", "(I)I"⟩
def y_EM_placeOfEntry : MethodName := ⟨"MapStore$EntryMap", "placeOfEntry", "(I)I"⟩
def y_EM_write : MethodName := ⟨"MapStore$EntryMap", "write", "(III)I"⟩
def y_EX_init : MethodName := ⟨"java/lang/Exception", "<init>", "()V"⟩
def y_EX_initS : MethodName := ⟨"java/lang/Exception", "<init>", "(Ljava/lang/String;)V"⟩
def y_IA_initS : MethodName := ⟨"java/lang/IllegalArgumentException", "<init>", "(Ljava/lang/String;)V"⟩
def y_IN_bitCount : MethodName := ⟨"java/lang/Integer", "bitCount", "(I)I"⟩
def y_IS_initS : MethodName := ⟨"java/lang/IllegalStateException", "<init>", "(Ljava/lang/String;)V"⟩
def y_IX_initS : MethodName := ⟨"java/lang/IndexOutOfBoundsException", "<init>", "(Ljava/lang/String;)V"⟩
def y_LW_begins : MethodName := ⟨"MapStoreLaw", "begins", "(LMapStore;I[J)I"⟩
def y_LW_desk : MethodName := ⟨"MapStoreLaw", "desk", "(LMapStore;I[J)I"⟩
def y_LW_find : MethodName := ⟨"MapStoreLaw", "find", "(LMapStore;II[J)I"⟩
def y_LW_lay : MethodName := ⟨"MapStoreLaw", "lay", "(LMapStore;IJ)I"⟩
def y_LW_load : MethodName := ⟨"MapStoreLaw", "load", "(LMapStore;II[J)I"⟩
def y_LW_make : MethodName := ⟨"MapStoreLaw", "make", "(LMapStore;IIII[J)I"⟩
def y_LW_next : MethodName := ⟨"MapStoreLaw", "next", "(LMapStore;III[J)I"⟩
def y_LW_put : MethodName := ⟨"MapStoreLaw", "put", "(LMapStore;III[J)I"⟩
def y_LW_remove : MethodName := ⟨"MapStoreLaw", "remove", "(LMapStore;II[J)I"⟩
def y_LW_store : MethodName := ⟨"MapStoreLaw", "store", "(LMapStore;IIJ)I"⟩
def y_LW_take : MethodName := ⟨"MapStoreLaw", "take", "(LMapStore;II[J)I"⟩
def y_LW_update : MethodName := ⟨"MapStoreLaw", "update", "(LMapStore;IIII[J)I"⟩
def y_LW_used : MethodName := ⟨"MapStoreLaw", "used", "(LMapStore;I[J)I"⟩
def y_MA_max : MethodName := ⟨"java/lang/Math", "max", "(II)I"⟩
def y_MO_begins : MethodName := ⟨"MapStoreModel", "begins", "(I)I"⟩
def y_MO_breaches : MethodName := ⟨"MapStoreModel", "breaches", "()I"⟩
def y_MO_desk : MethodName := ⟨"MapStoreModel", "desk", "(I)J"⟩
def y_MO_entryOf : MethodName := ⟨"MapStoreModel", "entryOf", "(II)I"⟩
def y_MO_entryOfArray : MethodName := ⟨"MapStoreModel", "entryOfArray", "(II)I"⟩
def y_MO_filled : MethodName := ⟨"MapStoreModel", "filled", "(I)I"⟩
def y_MO_find : MethodName := ⟨"MapStoreModel", "find", "(II)I"⟩
def y_MO_init : MethodName := ⟨"MapStoreModel", "<init>", "()V"⟩
def y_MO_isDesk : MethodName := ⟨"MapStoreModel", "isDesk", "(II)Z"⟩
def y_MO_isIn : MethodName := ⟨"MapStoreModel", "isIn", "(III)Z"⟩
def y_MO_isKey : MethodName := ⟨"MapStoreModel", "isKey", "(III)Z"⟩
def y_MO_isPower : MethodName := ⟨"MapStoreModel", "isPower", "(I)Z"⟩
def y_MO_isProper : MethodName := ⟨"MapStoreModel", "isProper", "(IIII)Z"⟩
def y_MO_lay : MethodName := ⟨"MapStoreModel", "lay", "(IJ)V"⟩
def y_MO_load : MethodName := ⟨"MapStoreModel", "load", "(II)J"⟩
def y_MO_make : MethodName := ⟨"MapStoreModel", "make", "(IIII)I"⟩
def y_MO_maps : MethodName := ⟨"MapStoreModel", "maps", "()I"⟩
def y_MO_next : MethodName := ⟨"MapStoreModel", "next", "(III)I"⟩
def y_MO_noArea : MethodName := ⟨"MapStoreModel", "noArea", "(II)Z"⟩
def y_MO_noMap : MethodName := ⟨"MapStoreModel", "noMap", "(I)Z"⟩
def y_MO_number : MethodName := ⟨"MapStoreModel", "number", "([BII)J"⟩
def y_MO_numberInRing : MethodName := ⟨"MapStoreModel", "numberInRing", "(IJ)J"⟩
def y_MO_placeOf : MethodName := ⟨"MapStoreModel", "placeOf", "(II)I"⟩
def y_MO_put : MethodName := ⟨"MapStoreModel", "put", "(III)I"⟩
def y_MO_putB : MethodName := ⟨"MapStoreModel", "put", "([BIIJ)V"⟩
def y_MO_putRing : MethodName := ⟨"MapStoreModel", "putRing", "(IJI)V"⟩
def y_MO_remove : MethodName := ⟨"MapStoreModel", "remove", "(II)I"⟩
def y_MO_ringPlace : MethodName := ⟨"MapStoreModel", "ringPlace", "(IJ)I"⟩
def y_MO_store : MethodName := ⟨"MapStoreModel", "store", "(IIJ)V"⟩
def y_MO_take : MethodName := ⟨"MapStoreModel", "take", "(II)I"⟩
def y_MO_thrown : MethodName := ⟨"MapStoreModel", "thrown", "()I"⟩
def y_MO_update : MethodName := ⟨"MapStoreModel", "update", "(IIII)I"⟩
def y_MO_updateArray : MethodName := ⟨"MapStoreModel", "updateArray", "(IIII)I"⟩
def y_MO_updateTable : MethodName := ⟨"MapStoreModel", "updateTable", "(IIII)I"⟩
def y_MO_used : MethodName := ⟨"MapStoreModel", "used", "(I)I"⟩
def y_MO_write : MethodName := ⟨"MapStoreModel", "write", "(III)I"⟩
def y_MS_begins : MethodName := ⟨"MapStore", "begins", "(I)I"⟩
def y_MS_breaches : MethodName := ⟨"MapStore", "breaches", "()I"⟩
def y_MS_demandNumberSize : MethodName := ⟨"MapStore", "demandNumberSize", "(I)V"⟩
def y_MS_desk : MethodName := ⟨"MapStore", "desk", "(I)J"⟩
def y_MS_filledUp : MethodName := ⟨"MapStore", "filledUp", "(I)I"⟩
def y_MS_find : MethodName := ⟨"MapStore", "find", "(II)I"⟩
def y_MS_init : MethodName := ⟨"MapStore", "<init>", "()V"⟩
def y_MS_lay : MethodName := ⟨"MapStore", "lay", "(IJ)V"⟩
def y_MS_load : MethodName := ⟨"MapStore", "load", "(II)J"⟩
def y_MS_make : MethodName := ⟨"MapStore", "make", "(IIII)I"⟩
def y_MS_mapOf : MethodName := ⟨"MapStore", "mapOf", "(I)LMapStore$AnyMap;"⟩
def y_MS_maps : MethodName := ⟨"MapStore", "maps", "()I"⟩
def y_MS_newMap : MethodName := ⟨"MapStore", "newMap", "(IIII)LMapStore$AnyMap;"⟩
def y_MS_next : MethodName := ⟨"MapStore", "next", "(III)I"⟩
def y_MS_put : MethodName := ⟨"MapStore", "put", "(III)I"⟩
def y_MS_remove : MethodName := ⟨"MapStore", "remove", "(II)I"⟩
def y_MS_sizesFit : MethodName := ⟨"MapStore", "sizesFit", "(IIII)Z"⟩
def y_MS_store : MethodName := ⟨"MapStore", "store", "(IIJ)V"⟩
def y_MS_take : MethodName := ⟨"MapStore", "take", "(II)I"⟩
def y_MS_update : MethodName := ⟨"MapStore", "update", "(IIII)I"⟩
def y_MS_used : MethodName := ⟨"MapStore", "used", "(I)I"⟩
def y_MS_within : MethodName := ⟨"MapStore", "within", "(JII)Z"⟩
def y_OB_init : MethodName := ⟨"java/lang/Object", "<init>", "()V"⟩
def y_RE_init : MethodName := ⟨"java/lang/RuntimeException", "<init>", "()V"⟩
def y_RE_initS : MethodName := ⟨"java/lang/RuntimeException", "<init>", "(Ljava/lang/String;)V"⟩
def y_RM_bytesOfRecord : MethodName := ⟨"MapStore$RingMap", "bytesOfRecord", "(I)I"⟩
def y_RM_inUse : MethodName := ⟨"MapStore$RingMap", "inUse", "()I"⟩
def y_RM_init : MethodName := ⟨"MapStore$RingMap", "<init>", "(LMapStore$Bytes;LMapStore$Bytes;II)V"⟩
def y_RM_placeOfCount : MethodName := ⟨"MapStore$RingMap", "placeOfCount", "(J)I"⟩
def y_RM_putRecord : MethodName := ⟨"MapStore$RingMap", "putRecord", "(II)I"⟩
def y_RM_takeRecord : MethodName := ⟨"MapStore$RingMap", "takeRecord", "(I)I"⟩
def y_RM_writeRecord : MethodName := ⟨"MapStore$RingMap", "writeRecord", "(III)V"⟩
def y_TH_fillInStackTrace : MethodName := ⟨"java/lang/Throwable", "fillInStackTrace", "()Ljava/lang/Throwable;"⟩
def y_TH_fillInStackTraceI : MethodName := ⟨"java/lang/Throwable", "fillInStackTrace", "(I)Ljava/lang/Throwable;"⟩
def y_TH_init : MethodName := ⟨"java/lang/Throwable", "<init>", "()V"⟩
def y_TH_initS : MethodName := ⟨"java/lang/Throwable", "<init>", "(Ljava/lang/String;)V"⟩
def y_TM_clashes : MethodName := ⟨"MapStore$TableMap", "clashes", "()I"⟩
def y_TM_entryForMissing : MethodName := ⟨"MapStore$TableMap", "entryForMissing", "(I)I"⟩
def y_TM_entryOf : MethodName := ⟨"MapStore$TableMap", "entryOf", "(I)I"⟩
def y_TM_entryWithAsked : MethodName := ⟨"MapStore$TableMap", "entryWithAsked", "(I)I"⟩
def y_TM_free : MethodName := ⟨"MapStore$TableMap", "free", "(I)I"⟩
def y_TM_giveAsked : MethodName := ⟨"MapStore$TableMap", "giveAsked", "(I)V"⟩
def y_TM_inUse : MethodName := ⟨"MapStore$TableMap", "inUse", "()I"⟩
def y_TM_init : MethodName := ⟨"MapStore$TableMap", "<init>", "(LMapStore$Bytes;LMapStore$Bytes;IIII)V"⟩
def y_TM_keyAfter : MethodName := ⟨"MapStore$TableMap", "keyAfter", "(II)I"⟩
def y_TM_leastFree : MethodName := ⟨"MapStore$TableMap", "leastFree", "()I"⟩
abbrev b_AM_entryForMissing : ByteArray := prog_3_method_4_code
abbrev b_AM_entryOf : ByteArray := prog_3_method_3_code
abbrev b_AM_inUse : ByteArray := prog_3_method_2_code
abbrev b_AM_init : ByteArray := prog_3_method_1_code
abbrev b_AN_clashes : ByteArray := prog_2_method_9_code
abbrev b_AN_free : ByteArray := prog_2_method_5_code
abbrev b_AN_init : ByteArray := prog_2_method_1_code
abbrev b_AN_keyAfter : ByteArray := prog_2_method_8_code
abbrev b_AN_placeOf : ByteArray := prog_2_method_3_code
abbrev b_AN_putRecord : ByteArray := prog_2_method_6_code
abbrev b_AN_takeRecord : ByteArray := prog_2_method_7_code
abbrev b_AN_write : ByteArray := prog_2_method_4_code
abbrev b_BY_byteAt : ByteArray := prog_4_method_3_code
abbrev b_BY_copy : ByteArray := prog_4_method_7_code
abbrev b_BY_demand : ByteArray := prog_4_method_2_code
abbrev b_BY_init : ByteArray := prog_4_method_1_code
abbrev b_BY_number : ByteArray := prog_4_method_5_code
abbrev b_BY_same : ByteArray := prog_4_method_8_code
abbrev b_BY_setByte : ByteArray := prog_4_method_4_code
abbrev b_BY_setNumber : ByteArray := prog_4_method_6_code
abbrev b_BY_shiftOf : ByteArray := prog_4_method_9_code
abbrev b_EM_init : ByteArray := prog_5_method_1_code
abbrev b_EM_placeOf : ByteArray := prog_5_method_4_code
abbrev b_EM_placeOfEntry : ByteArray := prog_5_method_6_code
abbrev b_EM_write : ByteArray := prog_5_method_5_code
abbrev b_IN_bitCount : ByteArray := prog_14_method_49_code
abbrev b_LW_begins : ByteArray := method_4_code
abbrev b_LW_desk : ByteArray := method_6_code
abbrev b_LW_find : ByteArray := method_10_code
abbrev b_LW_lay : ByteArray := method_7_code
abbrev b_LW_load : ByteArray := method_8_code
abbrev b_LW_make : ByteArray := method_3_code
abbrev b_LW_next : ByteArray := method_15_code
abbrev b_LW_put : ByteArray := method_13_code
abbrev b_LW_remove : ByteArray := method_12_code
abbrev b_LW_store : ByteArray := method_9_code
abbrev b_LW_take : ByteArray := method_14_code
abbrev b_LW_update : ByteArray := method_11_code
abbrev b_LW_used : ByteArray := method_5_code
abbrev b_MA_max : ByteArray := prog_15_method_65_code
abbrev b_MO_begins : ByteArray := prog_9_method_10_code
abbrev b_MO_breaches : ByteArray := prog_9_method_36_code
abbrev b_MO_desk : ByteArray := prog_9_method_15_code
abbrev b_MO_entryOf : ByteArray := prog_9_method_21_code
abbrev b_MO_entryOfArray : ByteArray := prog_9_method_23_code
abbrev b_MO_filled : ByteArray := prog_9_method_3_code
abbrev b_MO_find : ByteArray := prog_9_method_24_code
abbrev b_MO_init : ByteArray := prog_9_method_1_code
abbrev b_MO_isDesk : ByteArray := prog_9_method_12_code
abbrev b_MO_isIn : ByteArray := prog_9_method_4_code
abbrev b_MO_isKey : ByteArray := prog_9_method_20_code
abbrev b_MO_isPower : ByteArray := prog_9_method_5_code
abbrev b_MO_isProper : ByteArray := prog_9_method_6_code
abbrev b_MO_lay : ByteArray := prog_9_method_16_code
abbrev b_MO_load : ByteArray := prog_9_method_18_code
abbrev b_MO_make : ByteArray := prog_9_method_7_code
abbrev b_MO_maps : ByteArray := prog_9_method_8_code
abbrev b_MO_next : ByteArray := prog_9_method_35_code
abbrev b_MO_noArea : ByteArray := prog_9_method_17_code
abbrev b_MO_noMap : ByteArray := prog_9_method_9_code
abbrev b_MO_number : ByteArray := prog_9_method_13_code
abbrev b_MO_numberInRing : ByteArray := prog_9_method_32_code
abbrev b_MO_placeOf : ByteArray := prog_9_method_22_code
abbrev b_MO_put : ByteArray := prog_9_method_33_code
abbrev b_MO_putB : ByteArray := prog_9_method_14_code
abbrev b_MO_putRing : ByteArray := prog_9_method_31_code
abbrev b_MO_remove : ByteArray := prog_9_method_29_code
abbrev b_MO_ringPlace : ByteArray := prog_9_method_30_code
abbrev b_MO_store : ByteArray := prog_9_method_19_code
abbrev b_MO_take : ByteArray := prog_9_method_34_code
abbrev b_MO_thrown : ByteArray := prog_9_method_2_code
abbrev b_MO_update : ByteArray := prog_9_method_28_code
abbrev b_MO_updateArray : ByteArray := prog_9_method_26_code
abbrev b_MO_updateTable : ByteArray := prog_9_method_27_code
abbrev b_MO_used : ByteArray := prog_9_method_11_code
abbrev b_MO_write : ByteArray := prog_9_method_25_code
abbrev b_MS_begins : ByteArray := prog_1_method_4_code
abbrev b_MS_breaches : ByteArray := prog_1_method_16_code
abbrev b_MS_demandNumberSize : ByteArray := prog_1_method_20_code
abbrev b_MS_desk : ByteArray := prog_1_method_6_code
abbrev b_MS_filledUp : ByteArray := prog_1_method_22_code
abbrev b_MS_find : ByteArray := prog_1_method_10_code
abbrev b_MS_init : ByteArray := prog_1_method_1_code
abbrev b_MS_lay : ByteArray := prog_1_method_7_code
abbrev b_MS_load : ByteArray := prog_1_method_8_code
abbrev b_MS_make : ByteArray := prog_1_method_2_code
abbrev b_MS_mapOf : ByteArray := prog_1_method_17_code
abbrev b_MS_maps : ByteArray := prog_1_method_3_code
abbrev b_MS_newMap : ByteArray := prog_1_method_18_code
abbrev b_MS_next : ByteArray := prog_1_method_15_code
abbrev b_MS_put : ByteArray := prog_1_method_13_code
abbrev b_MS_remove : ByteArray := prog_1_method_12_code
abbrev b_MS_sizesFit : ByteArray := prog_1_method_19_code
abbrev b_MS_store : ByteArray := prog_1_method_9_code
abbrev b_MS_take : ByteArray := prog_1_method_14_code
abbrev b_MS_update : ByteArray := prog_1_method_11_code
abbrev b_MS_used : ByteArray := prog_1_method_5_code
abbrev b_MS_within : ByteArray := prog_1_method_21_code
abbrev b_RM_bytesOfRecord : ByteArray := prog_6_method_7_code
abbrev b_RM_inUse : ByteArray := prog_6_method_2_code
abbrev b_RM_init : ByteArray := prog_6_method_1_code
abbrev b_RM_placeOfCount : ByteArray := prog_6_method_6_code
abbrev b_RM_putRecord : ByteArray := prog_6_method_3_code
abbrev b_RM_takeRecord : ByteArray := prog_6_method_4_code
abbrev b_RM_writeRecord : ByteArray := prog_6_method_5_code
abbrev b_TM_clashes : ByteArray := prog_7_method_3_code
abbrev b_TM_entryForMissing : ByteArray := prog_7_method_5_code
abbrev b_TM_entryOf : ByteArray := prog_7_method_4_code
abbrev b_TM_entryWithAsked : ByteArray := prog_7_method_8_code
abbrev b_TM_free : ByteArray := prog_7_method_6_code
abbrev b_TM_giveAsked : ByteArray := prog_7_method_10_code
abbrev b_TM_inUse : ByteArray := prog_7_method_2_code
abbrev b_TM_init : ByteArray := prog_7_method_1_code
abbrev b_TM_keyAfter : ByteArray := prog_7_method_7_code
abbrev b_TM_leastFree : ByteArray := prog_7_method_9_code
abbrev cBY : Nat := 0
def T_cBY : u_T := fun k => match k with
  | 0 => ("MapStore$Bytes", "length", "I", true)
  | _ => ("MapStore$Bytes", "words", "[J", true)
abbrev cMS : Nat := 1
def T_cMS : u_T := fun k => match k with
  | 0 => ("MapStore", "deskBytes", "LMapStore$Bytes;", true)
  | 1 => ("MapStore", "areaBytes", "LMapStore$Bytes;", true)
  | 2 => ("MapStore", "rows", "[LMapStore$AnyMap;", true)
  | 3 => ("MapStore", "made", "I", false)
  | _ => ("MapStore", "areaGiven", "I", false)
abbrev cAM : Nat := 2
def T_cAM : u_T := fun k => match k with
  | 0 => ("MapStore$AnyMap", "desk", "LMapStore$Bytes;", true)
  | 1 => ("MapStore$AnyMap", "area", "LMapStore$Bytes;", true)
  | 2 => ("MapStore$AnyMap", "begin", "I", true)
  | 3 => ("MapStore$EntryMap", "keySize", "I", true)
  | 4 => ("MapStore$EntryMap", "valueSize", "I", true)
  | _ => ("MapStore$EntryMap", "entries", "I", true)
abbrev cTM : Nat := 3
def T_cTM : u_T := fun k => match k with
  | 0 => ("MapStore$AnyMap", "desk", "LMapStore$Bytes;", true)
  | 1 => ("MapStore$AnyMap", "area", "LMapStore$Bytes;", true)
  | 2 => ("MapStore$AnyMap", "begin", "I", true)
  | 3 => ("MapStore$EntryMap", "keySize", "I", true)
  | 4 => ("MapStore$EntryMap", "valueSize", "I", true)
  | 5 => ("MapStore$EntryMap", "entries", "I", true)
  | 6 => ("MapStore$TableMap", "keys", "[LMapStore$Bytes;", true)
  | 7 => ("MapStore$TableMap", "asked", "LMapStore$Bytes;", true)
  | 8 => ("MapStore$TableMap", "reach", "I", false)
  | 9 => ("MapStore$TableMap", "withKey", "I", false)
  | _ => ("MapStore$TableMap", "clashesSeen", "I", false)
abbrev cRM : Nat := 4
def T_cRM : u_T := fun k => match k with
  | 0 => ("MapStore$AnyMap", "desk", "LMapStore$Bytes;", true)
  | 1 => ("MapStore$AnyMap", "area", "LMapStore$Bytes;", true)
  | 2 => ("MapStore$AnyMap", "begin", "I", true)
  | 3 => ("MapStore$RingMap", "length", "I", true)
  | 4 => ("MapStore$RingMap", "head", "J", false)
  | 5 => ("MapStore$RingMap", "tail", "J", false)
  | 6 => ("MapStore$RingMap", "records", "I", false)
  | _ => ("MapStore$RingMap", "broken", "Z", false)
abbrev cMO : Nat := 5
def T_cMO : u_T := fun k => match k with
  | 0 => ("MapStoreModel", "code", "I", false)
  | 1 => ("MapStoreModel", "desk", "[B", true)
  | 2 => ("MapStoreModel", "area", "[B", true)
  | 3 => ("MapStoreModel", "areaUsed", "I", false)
  | 4 => ("MapStoreModel", "maps", "I", false)
  | 5 => ("MapStoreModel", "kinds", "[I", true)
  | 6 => ("MapStoreModel", "keySizes", "[I", true)
  | 7 => ("MapStoreModel", "valueSizes", "[I", true)
  | 8 => ("MapStoreModel", "entries", "[I", true)
  | 9 => ("MapStoreModel", "begins", "[I", true)
  | 10 => ("MapStoreModel", "firstEntry", "[I", true)
  | 11 => ("MapStoreModel", "firstKey", "[I", true)
  | 12 => ("MapStoreModel", "entryCount", "I", false)
  | 13 => ("MapStoreModel", "keyCount", "I", false)
  | 14 => ("MapStoreModel", "taken", "[Z", true)
  | 15 => ("MapStoreModel", "keys", "[B", true)
  | 16 => ("MapStoreModel", "heads", "[J", true)
  | 17 => ("MapStoreModel", "tails", "[J", true)
  | 18 => ("MapStoreModel", "records", "[I", true)
  | 19 => ("MapStoreModel", "broken", "[Z", true)
  | _ => ("MapStoreModel", "breaches", "I", false)
abbrev mk_cl : List vw_C := [("MapStore$Bytes", T_cBY, 2), ("MapStore", T_cMS, 5), ("MapStore$ArrayMap", T_cAM, 6), ("MapStore$TableMap", T_cTM, 11), ("MapStore$RingMap", T_cRM, 8), ("MapStoreModel", T_cMO, 21)]
def mk_ty : Nat → Nat → FieldType := fun ci k => match ci with
  | 0 => (match k with | 0 => .int | _ => .array .long)
  | 1 => (match k with | 0 => .object "MapStore$Bytes" | 1 => .object "MapStore$Bytes" | 2 => .array (.object "MapStore$AnyMap") | 3 => .int | _ => .int)
  | 2 => (match k with | 0 => .object "MapStore$Bytes" | 1 => .object "MapStore$Bytes" | 2 => .int | 3 => .int | 4 => .int | _ => .int)
  | 3 => (match k with | 0 => .object "MapStore$Bytes" | 1 => .object "MapStore$Bytes" | 2 => .int | 3 => .int | 4 => .int | 5 => .int | 6 => .array (.object "MapStore$Bytes") | 7 => .object "MapStore$Bytes" | 8 => .int | 9 => .int | _ => .int)
  | 4 => (match k with | 0 => .object "MapStore$Bytes" | 1 => .object "MapStore$Bytes" | 2 => .int | 3 => .int | 4 => .long | 5 => .long | 6 => .int | _ => .boolean)
  | _ => (match k with | 0 => .int | 1 => .array .byte | 2 => .array .byte | 3 => .int | 4 => .int | 5 => .array .int | 6 => .array .int | 7 => .array .int | 8 => .array .int | 9 => .array .int | 10 => .array .int | 11 => .array .int | 12 => .int | 13 => .int | 14 => .array .boolean | 15 => .array .byte | 16 => .array .long | 17 => .array .long | 18 => .array .int | 19 => .array .boolean | _ => .int)
abbrev tJ : Nat := 0
abbrev tI : Nat := 1
abbrev tB : Nat := 2
abbrev tZ : Nat := 3
abbrev tAN : Nat := 4
abbrev tBY : Nat := 5
abbrev mk_tys (dA : Nat → ClassId) : List (ClassId × FieldType) := [(dA 0, .long), (dA 1, .int), (dA 2, .byte), (dA 3, .boolean), (dA 4, .object "MapStore$AnyMap"), (dA 5, .object "MapStore$Bytes")]
abbrev mk_strs : List (String × Nat × String) := [("MapStore", 110, "no such map"), ("MapStore", 41, "no map has this kind with these sizes"), ("MapStore", 52, "too many maps, or too little area"), ("MapStore$Bytes", 25, "a byte goes beyond the desk or the area"), ("MapStore", 137, "a number has 1, 2, 4 or 8 bytes")]
/-! the words that every method gets -/
def mw_ok : Cond → Bool
  | .methodLinkNest _ _ _ _ => true
  | .castable _ _ => true
  | .arrayOver (.object _) => true
  | .declares _ => true
  | .privateMethod _ => true
  | w => goodWord w
theorem mw_warm {x : Cond} (hx : mw_ok x = true) {args a' : Array Value} {s U : State} (hW : s.WarmedH U.vm) (h : x.before args s = true) : x.before a' U = true := by
  unfold mw_ok at hx
  split at hx
  · exact va_Nw.use rfl (va_Nw.warmM hW (va_Nw.of rfl h))
  · exact va_Nw.use rfl (va_Nw.warmC hW (va_Nw.of rfl h))
  · exact va_AO.use (va_AO.moved hW.alike (va_AO.of h))
  · exact va_Nw.use rfl (va_Nw.warmD hW (va_Nw.of rfl h))
  · exact va_Nw.use rfl (va_tabs rfl (rfl : (s.setVm U.vm).vm = U.vm) (by rw [Cond.privateMethod_setVm hW.alike]; exact va_Nw.of rfl h))
  · exact word_at hW (good_of_word hx) h
def Ts : List Cond := lw_tbl.filter mw_ok
theorem mw_in {x : Cond} {i : Nat} (h : lw_tbl[i]? = some x) (hk : mw_ok x = true) : x ∈ Ts := List.mem_filter.mpr ⟨List.mem_of_getElem? h, hk⟩
theorem Ts_warm {args : Array Value} {s : State} (h : ∀ x ∈ Ts, x.before args s = true) : ∀ x ∈ Ts, ∀ (a' : Array Value) (U : State), s.WarmedH U.vm → x.before a' U = true := fun x hx a' U hW => mw_warm (List.mem_filter.mp hx).2 hW (h x hx)
theorem mk_ws {y : MethodName} {b : ByteArray} {n : Nat} {r : Option FieldType} (hc : Cond.code y b n r ∈ Ts) {args : Array Value} {s : State} (h : ∀ x ∈ Ts, x.before args s = true) : ∀ x ∈ Cond.code y b n r :: Ts, ∀ (a' : Array Value) (U : State), s.WarmedH U.vm → x.before a' U = true := fun x hx => by
  rcases List.mem_cons.mp hx with rfl | hx
  · exact Ts_warm h _ hc
  · exact Ts_warm h x hx
theorem mk_wsH {y : MethodName} {b : ByteArray} {n : Nat} {r : Option FieldType} {hs : List (Nat × Nat × Nat × Nat)} (hc : Cond.codeWith y b n r hs ∈ Ts) {args : Array Value} {s : State} (h : ∀ x ∈ Ts, x.before args s = true) : ∀ x ∈ Cond.codeWith y b n r hs :: Ts, ∀ (a' : Array Value) (U : State), s.WarmedH U.vm → x.before a' U = true := fun x hx => by
  rcases List.mem_cons.mp hx with rfl | hx
  · exact Ts_warm h _ hc
  · exact Ts_warm h x hx
theorem mk_lays0 : ∀ x ∈ u_ws "MapStore$Bytes" T_cBY 2, x ∈ lw_tbl ∧ mw_ok x = true := by decide +kernel
theorem mk_lays1 : ∀ x ∈ u_ws "MapStore" T_cMS 5, x ∈ lw_tbl ∧ mw_ok x = true := by decide +kernel
theorem mk_lays2 : ∀ x ∈ u_ws "MapStore$ArrayMap" T_cAM 6, x ∈ lw_tbl ∧ mw_ok x = true := by decide +kernel
theorem mk_lays3 : ∀ x ∈ u_ws "MapStore$TableMap" T_cTM 11, x ∈ lw_tbl ∧ mw_ok x = true := by decide +kernel
theorem mk_lays4 : ∀ x ∈ u_ws "MapStore$RingMap" T_cRM 8, x ∈ lw_tbl ∧ mw_ok x = true := by decide +kernel
theorem mk_lays5 : ∀ x ∈ u_ws "MapStoreModel" T_cMO 21, x ∈ lw_tbl ∧ mw_ok x = true := by decide +kernel
theorem mk_nam {N : Nat} {T : u_T} (h : ∀ a, a < N → ∀ b, b < N → a ≠ b → (T a).2.1 ≠ (T b).2.1) : ∀ a, a < N → ∀ b, b < N → a ≠ b → (T a).2.1 ≠ (T b).2.1 := h
theorem mk_tb : mw_Tb Ts mk_cl mk_ty := by
  intro ci r hr
  match ci, hr with
  | 0, hr => cases hr; exact ⟨fun x hx => List.mem_filter.mpr (mk_lays0 x hx), by decide +kernel, by decide +kernel⟩
  | 1, hr => cases hr; exact ⟨fun x hx => List.mem_filter.mpr (mk_lays1 x hx), by decide +kernel, by decide +kernel⟩
  | 2, hr => cases hr; exact ⟨fun x hx => List.mem_filter.mpr (mk_lays2 x hx), by decide +kernel, by decide +kernel⟩
  | 3, hr => cases hr; exact ⟨fun x hx => List.mem_filter.mpr (mk_lays3 x hx), by decide +kernel, by decide +kernel⟩
  | 4, hr => cases hr; exact ⟨fun x hx => List.mem_filter.mpr (mk_lays4 x hx), by decide +kernel, by decide +kernel⟩
  | 5, hr => cases hr; exact ⟨fun x hx => List.mem_filter.mpr (mk_lays5 x hx), by decide +kernel, by decide +kernel⟩
  | k + 6, hr => simp [mk_cl] at hr
