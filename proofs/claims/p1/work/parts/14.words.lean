-- codes and names of the methods that a run of one call reaches (rows of the claim's printed names), and the words that are used
abbrev cJ0_coder_7d493 : ByteArray := prog_42_method_152_code
def yJ0_coder_7d493 : MethodName := ⟨"java/lang/String", "coder", "()B"⟩
abbrev cJ0_isEmpty_aae02 : ByteArray := prog_42_method_55_code
def yJ0_isEmpty_aae02 : MethodName := ⟨"java/lang/String", "isEmpty", "()Z"⟩
abbrev cJ0_isLatin1_aae02 : ByteArray := prog_42_method_154_code
def yJ0_isLatin1_aae02 : MethodName := ⟨"java/lang/String", "isLatin1", "()Z"⟩
abbrev cJ1_canEncode_9a6ad : ByteArray := prog_44_method_4_code
def yJ1_canEncode_9a6ad : MethodName := ⟨"java/lang/StringLatin1", "canEncode", "(I)Z"⟩
abbrev cJ1_canEncode_fc78d : ByteArray := prog_44_method_3_code
def yJ1_canEncode_fc78d : MethodName := ⟨"java/lang/StringLatin1", "canEncode", "(C)Z"⟩
abbrev cJ1_indexOfChar_4cfef : ByteArray := prog_44_method_23_code
def yJ1_indexOfChar_4cfef : MethodName := ⟨"java/lang/StringLatin1", "indexOfChar", "([BIII)I"⟩
abbrev cJ2_length_9d52b : ByteArray := prog_45_method_6_code
def yJ2_length_9d52b : MethodName := ⟨"java/lang/StringUTF16", "length", "([B)I"⟩
abbrev cJ2_newBytesLength_0f7a4 : ByteArray := prog_45_method_3_code
def yJ2_newBytesLength_0f7a4 : MethodName := ⟨"java/lang/StringUTF16", "newBytesLength", "(I)I"⟩
abbrev cJ2_putChar_b72d1 : ByteArray := prog_45_method_4_code
def yJ2_putChar_b72d1 : MethodName := ⟨"java/lang/StringUTF16", "putChar", "([BII)V"⟩
abbrev cJ3_checkFromIndexSize_8c36e : ByteArray := prog_64_method_13_code
def yJ3_checkFromIndexSize_8c36e : MethodName := ⟨"jdk/internal/util/Preconditions", "checkFromIndexSize", "(IIILjava/util/function/BiFunction;)I"⟩
abbrev cJ3_checkIndex_8e157 : ByteArray := prog_64_method_11_code
def yJ3_checkIndex_8e157 : MethodName := ⟨"jdk/internal/util/Preconditions", "checkIndex", "(IILjava/util/function/BiFunction;)I"⟩
abbrev cJ5_ensureCapacityInternal_d00df : ByteArray := prog_25_method_9_code
def yJ5_ensureCapacityInternal_d00df : MethodName := ⟨"java/lang/AbstractStringBuilder", "ensureCapacityInternal", "(I)V"⟩
abbrev cJ5_getValue_6d5f1 : ByteArray := prog_25_method_64_code
def yJ5_getValue_6d5f1 : MethodName := ⟨"java/lang/AbstractStringBuilder", "getValue", "()[B"⟩
abbrev cJ5_init_d00df : ByteArray := prog_25_method_2_code
def yJ5_init_d00df : MethodName := ⟨"java/lang/AbstractStringBuilder", "<init>", "(I)V"⟩
abbrev cJ5_isLatin1_aae02 : ByteArray := prog_25_method_68_code
def yJ5_isLatin1_aae02 : MethodName := ⟨"java/lang/AbstractStringBuilder", "isLatin1", "()Z"⟩
abbrev cJ5_length_8abf5 : ByteArray := prog_25_method_6_code
def yJ5_length_8abf5 : MethodName := ⟨"java/lang/AbstractStringBuilder", "length", "()I"⟩
abbrev cJ7_checkLength_df160 : ByteArray := prog_55_method_131_code
def yJ7_checkLength_df160 : MethodName := ⟨"java/util/Arrays", "checkLength", "(II)V"⟩
abbrev cJ9_max_7cf53 : ByteArray := prog_39_method_65_code
def yJ9_max_7cf53 : MethodName := ⟨"java/lang/Math", "max", "(II)I"⟩
abbrev cJ9_min_7cf53 : ByteArray := prog_39_method_69_code
def yJ9_min_7cf53 : MethodName := ⟨"java/lang/Math", "min", "(II)I"⟩
abbrev cJx35411_hasNext_aae02 : ByteArray := prog_54_method_2_code
abbrev cJx35411_init_45d68 : ByteArray := prog_54_method_1_code
def yJx35411_init_45d68 : MethodName := ⟨"java/util/ArrayList$Itr", "<init>", "(Ljava/util/ArrayList;)V"⟩
abbrev cJx4a65c_isEmpty_aae02 : ByteArray := prog_53_method_9_code
def yJx4a65c_isEmpty_aae02 : MethodName := ⟨"java/util/ArrayList", "isEmpty", "()Z"⟩
abbrev cJx4a65c_size_8abf5 : ByteArray := prog_53_method_8_code
def yJx4a65c_size_8abf5 : MethodName := ⟨"java/util/ArrayList", "size", "()I"⟩
abbrev cJxa1e45_init_da8c8 : ByteArray := prog_51_method_1_code
def yJxa1e45_init_da8c8 : MethodName := ⟨"java/util/AbstractCollection", "<init>", "()V"⟩
abbrev cX0_become : ByteArray := prog_2_method_2_code
def yX0_become : MethodName := ⟨"Carcasswright$Board", "become", "(IIII)V"⟩
abbrev cX0_init : ByteArray := prog_2_method_1_code
def yX0_init : MethodName := ⟨"Carcasswright$Board", "<init>", "()V"⟩
abbrev cX10_init : ByteArray := prog_12_method_1_code
def yX10_init : MethodName := ⟨"Carcasswright$Wall", "<init>", "()V"⟩
abbrev cX11_boards : ByteArray := prog_1_method_32_code
def yX11_boards : MethodName := ⟨"Carcasswright", "boards", "()I"⟩
abbrev cX11_clash : ByteArray := prog_1_method_17_code
def yX11_clash : MethodName := ⟨"Carcasswright", "clash", "(I)C"⟩
abbrev cX11_clashNumber : ByteArray := prog_1_method_18_code
def yX11_clashNumber : MethodName := ⟨"Carcasswright", "clashNumber", "(I)I"⟩
abbrev cX11_close : ByteArray := prog_1_method_3_code
def yX11_close : MethodName := ⟨"Carcasswright", "close", "()I"⟩
abbrev cX11_cutShare : ByteArray := prog_1_method_50_code
def yX11_cutShare : MethodName := ⟨"Carcasswright", "cutShare", "()F"⟩
abbrev cX11_isClosedRoom : ByteArray := prog_1_method_5_code
def yX11_isClosedRoom : MethodName := ⟨"Carcasswright", "isClosedRoom", "()Z"⟩
abbrev cX11_isNoColour : ByteArray := prog_1_method_54_code
def yX11_isNoColour : MethodName := ⟨"Carcasswright", "isNoColour", "(I)Z"⟩
abbrev cX11_isOutside : ByteArray := prog_1_method_53_code
def yX11_isOutside : MethodName := ⟨"Carcasswright", "isOutside", "(III)Z"⟩
abbrev cX11_jobAt : ByteArray := prog_1_method_47_code
def yX11_jobAt : MethodName := ⟨"Carcasswright", "jobAt", "(I)I"⟩
abbrev cX11_meanWidth : ByteArray := prog_1_method_51_code
def yX11_meanWidth : MethodName := ⟨"Carcasswright", "meanWidth", "()D"⟩
abbrev cX11_modules : ByteArray := prog_1_method_48_code
def yX11_modules : MethodName := ⟨"Carcasswright", "modules", "()I"⟩
abbrev cX12_area : ByteArray := prog_15_method_2_code
def yX12_area : MethodName := ⟨"CarcasswrightModel$Board", "area", "()J"⟩
abbrev cX14_init : ByteArray := prog_17_method_1_code
def yX14_init : MethodName := ⟨"CarcasswrightModel$Job", "<init>", "(III)V"⟩
abbrev cX19_init : ByteArray := prog_22_method_1_code
def yX19_init : MethodName := ⟨"CarcasswrightModel$Type", "<init>", "()V"⟩
abbrev cX1_append : ByteArray := prog_3_method_2_code
def yX1_append : MethodName := ⟨"Carcasswright$Jobs", "append", "(III)I"⟩
abbrev cX1_init : ByteArray := prog_3_method_1_code
def yX1_init : MethodName := ⟨"Carcasswright$Jobs", "<init>", "()V"⟩
abbrev cX1_keepOrder : ByteArray := prog_3_method_4_code
def yX1_keepOrder : MethodName := ⟨"Carcasswright$Jobs", "keepOrder", "()V"⟩
abbrev cX1_lateInOrder : ByteArray := prog_3_method_5_code
def yX1_lateInOrder : MethodName := ⟨"Carcasswright$Jobs", "lateInOrder", "()I"⟩
abbrev cX20_init : ByteArray := prog_23_method_1_code
def yX20_init : MethodName := ⟨"CarcasswrightModel$Wall", "<init>", "(CI)V"⟩
abbrev cX21_faults : ByteArray := prog_14_method_20_code
def yX21_faults : MethodName := ⟨"CarcasswrightModel", "faults", "(CI)V"⟩
abbrev cX21_in : ByteArray := prog_14_method_1_code
def yX21_in : MethodName := ⟨"CarcasswrightModel", "in", "(III)Z"⟩
abbrev cX21_isSound : ByteArray := prog_14_method_82_code
def yX21_isSound : MethodName := ⟨"CarcasswrightModel", "isSound", "()Z"⟩
abbrev cX21_raises : ByteArray := prog_14_method_5_code
def yX21_raises : MethodName := ⟨"CarcasswrightModel", "raises", "(I)I"⟩
abbrev cX21_thrown : ByteArray := prog_14_method_4_code
def yX21_thrown : MethodName := ⟨"CarcasswrightModel", "thrown", "()I"⟩
abbrev cX21_tries : ByteArray := prog_14_method_72_code
def yX21_tries : MethodName := ⟨"CarcasswrightModel", "tries", "([IIIII)V"⟩
abbrev cX2_init : ByteArray := prog_4_method_1_code
def yX2_init : MethodName := ⟨"Carcasswright$ModuleType", "<init>", "()V"⟩
abbrev cX2_reset : ByteArray := prog_4_method_2_code
def yX2_reset : MethodName := ⟨"Carcasswright$ModuleType", "reset", "(C)V"⟩
abbrev cX3_init : ByteArray := prog_5_method_1_code
def yX3_init : MethodName := ⟨"Carcasswright$Obstacle", "<init>", "()V"⟩
abbrev cX4_init : ByteArray := prog_6_method_1_code
def yX4_init : MethodName := ⟨"Carcasswright$Packer", "<init>", "()V"⟩
abbrev cX5_init : ByteArray := prog_7_method_1_code
def yX5_init : MethodName := ⟨"Carcasswright$PlacedModule", "<init>", "(LCarcasswright$ModuleType;)V"⟩
abbrev cX6_cutSquares : ByteArray := prog_8_method_23_code
def yX6_cutSquares : MethodName := ⟨"Carcasswright$Room", "cutSquares", "()J"⟩
abbrev cX6_hasModulesInTheWay : ByteArray := prog_8_method_25_code
def yX6_hasModulesInTheWay : MethodName := ⟨"Carcasswright$Room", "hasModulesInTheWay", "()Z"⟩
abbrev cX6_hasOnlyOwnParts : ByteArray := prog_8_method_24_code
def yX6_hasOnlyOwnParts : MethodName := ⟨"Carcasswright$Room", "hasOnlyOwnParts", "()Z"⟩
abbrev cX6_moduleAt : ByteArray := prog_8_method_3_code
def yX6_moduleAt : MethodName := ⟨"Carcasswright$Room", "moduleAt", "(I)LCarcasswright$PlacedModule;"⟩
abbrev cX6_wallAt : ByteArray := prog_8_method_2_code
def yX6_wallAt : MethodName := ⟨"Carcasswright$Room", "wallAt", "(I)LCarcasswright$Wall;"⟩
abbrev cX8_boardAt : ByteArray := prog_10_method_2_code
def yX8_boardAt : MethodName := ⟨"Carcasswright$Stock", "boardAt", "(I)LCarcasswright$Board;"⟩
abbrev cX8_offcutCount : ByteArray := prog_10_method_4_code
def yX8_offcutCount : MethodName := ⟨"Carcasswright$Stock", "offcutCount", "()I"⟩
abbrev cX8_squares : ByteArray := prog_10_method_5_code
def yX8_squares : MethodName := ⟨"Carcasswright$Stock", "squares", "()J"⟩
abbrev cX9_append : ByteArray := prog_11_method_4_code
def yX9_append : MethodName := ⟨"Carcasswright$Types", "append", "(C)I"⟩
abbrev cX9_clearText : ByteArray := prog_11_method_5_code
def yX9_clearText : MethodName := ⟨"Carcasswright$Types", "clearText", "()I"⟩
abbrev cX9_fail : ByteArray := prog_11_method_9_code
def yX9_fail : MethodName := ⟨"Carcasswright$Types", "fail", "(IC)V"⟩
abbrev cX9_first : ByteArray := prog_11_method_2_code
def yX9_first : MethodName := ⟨"Carcasswright$Types", "first", "()LCarcasswright$ModuleType;"⟩
abbrev cX9_hasFault : ByteArray := prog_11_method_7_code
def yX9_hasFault : MethodName := ⟨"Carcasswright$Types", "hasFault", "()Z"⟩
abbrev cX9_typeAt : ByteArray := prog_11_method_3_code
def yX9_typeAt : MethodName := ⟨"Carcasswright$Types", "typeAt", "(I)LCarcasswright$ModuleType;"⟩
abbrev cJ0_checkBoundsOffCount_cabcc : ByteArray := prog_42_method_157_code
def yJ0_checkBoundsOffCount_cabcc : MethodName := ⟨"java/lang/String", "checkBoundsOffCount", "(III)I"⟩
abbrev cJ0_checkIndex_df160 : ByteArray := prog_42_method_155_code
def yJ0_checkIndex_df160 : MethodName := ⟨"java/lang/String", "checkIndex", "(II)V"⟩
abbrev cJ0_getBytes_840e7 : ByteArray := prog_42_method_147_code
def yJ0_getBytes_840e7 : MethodName := ⟨"java/lang/String", "getBytes", "([BIB)V"⟩
abbrev cJ0_length_8abf5 : ByteArray := prog_42_method_54_code
def yJ0_length_8abf5 : MethodName := ⟨"java/lang/String", "length", "()I"⟩
abbrev cJ1_indexOf_4cfef : ByteArray := prog_44_method_22_code
def yJ1_indexOf_4cfef : MethodName := ⟨"java/lang/StringLatin1", "indexOf", "([BIII)I"⟩
abbrev cJ2_newBytesFor_77867 : ByteArray := prog_45_method_2_code
def yJ2_newBytesFor_77867 : MethodName := ⟨"java/lang/StringUTF16", "newBytesFor", "(I)[B"⟩
abbrev cJ4_init_da8c8 : ByteArray := prog_43_method_1_code
def yJ4_init_da8c8 : MethodName := ⟨"java/lang/StringBuilder", "<init>", "()V"⟩
abbrev cJ4_length_8abf5 : ByteArray := prog_43_method_93_code
def yJ4_length_8abf5 : MethodName := ⟨"java/lang/StringBuilder", "length", "()I"⟩
abbrev cJ7_copyOfRangeByte_39247 : ByteArray := prog_55_method_133_code
def yJ7_copyOfRangeByte_39247 : MethodName := ⟨"java/util/Arrays", "copyOfRangeByte", "([BII)[B"⟩
abbrev cJ7_copyOf_6403c : ByteArray := prog_55_method_120_code
def yJ7_copyOf_6403c : MethodName := ⟨"java/util/Arrays", "copyOf", "([Ljava/lang/Object;ILjava/lang/Class;)[Ljava/lang/Object;"⟩
abbrev cJ8_newLength_cabcc : ByteArray := prog_63_method_27_code
def yJ8_newLength_cabcc : MethodName := ⟨"jdk/internal/util/ArraysSupport", "newLength", "(III)I"⟩
abbrev cJx4a65c_iterator_32c93 : ByteArray := prog_53_method_55_code
def yJx4a65c_iterator_32c93 : MethodName := ⟨"java/util/ArrayList", "iterator", "()Ljava/util/Iterator;"⟩
abbrev cJxc12de_init_da8c8 : ByteArray := prog_52_method_1_code
def yJxc12de_init_da8c8 : MethodName := ⟨"java/util/AbstractList", "<init>", "()V"⟩
abbrev cL_clash : ByteArray := method_16_code
def yL_clash : MethodName := ⟨"CarcasswrightLaw", "clash", "(LCarcasswright;I[J)I"⟩
abbrev cL_clashNumber : ByteArray := method_17_code
def yL_clashNumber : MethodName := ⟨"CarcasswrightLaw", "clashNumber", "(LCarcasswright;I[J)I"⟩
abbrev cL_close : ByteArray := method_4_code
def yL_close : MethodName := ⟨"CarcasswrightLaw", "close", "(LCarcasswright;[J)I"⟩
abbrev cL_cutShare : ByteArray := method_45_code
def yL_cutShare : MethodName := ⟨"CarcasswrightLaw", "cutShare", "(LCarcasswright;[D)I"⟩
abbrev cL_jobAt : ByteArray := method_43_code
def yL_jobAt : MethodName := ⟨"CarcasswrightLaw", "jobAt", "(LCarcasswright;I[J)I"⟩
abbrev cL_meanWidth : ByteArray := method_46_code
def yL_meanWidth : MethodName := ⟨"CarcasswrightLaw", "meanWidth", "(LCarcasswright;[D)I"⟩
abbrev cX11_area : ByteArray := prog_1_method_49_code
def yX11_area : MethodName := ⟨"Carcasswright", "area", "(C)J"⟩
abbrev cX11_board : ByteArray := prog_1_method_34_code
def yX11_board : MethodName := ⟨"Carcasswright", "board", "(IC)I"⟩
abbrev cX11_change : ByteArray := prog_1_method_16_code
def yX11_change : MethodName := ⟨"Carcasswright", "change", "(II)I"⟩
abbrev cX11_cut : ByteArray := prog_1_method_36_code
def yX11_cut : MethodName := ⟨"Carcasswright", "cut", "(I)I"⟩
abbrev cX11_edged : ByteArray := prog_1_method_38_code
def yX11_edged : MethodName := ⟨"Carcasswright", "edged", "(I)I"⟩
abbrev cX11_from : ByteArray := prog_1_method_19_code
def yX11_from : MethodName := ⟨"Carcasswright", "from", "(I)I"⟩
abbrev cX11_hinges : ByteArray := prog_1_method_26_code
def yX11_hinges : MethodName := ⟨"Carcasswright", "hinges", "(I)I"⟩
abbrev cX11_isSound : ByteArray := prog_1_method_52_code
def yX11_isSound : MethodName := ⟨"Carcasswright", "isSound", "()Z"⟩
abbrev cX11_job : ByteArray := prog_1_method_44_code
def yX11_job : MethodName := ⟨"Carcasswright", "job", "(III)I"⟩
abbrev cX11_lengthOf : ByteArray := prog_1_method_4_code
def yX11_lengthOf : MethodName := ⟨"Carcasswright", "lengthOf", "(I)I"⟩
abbrev cX11_moduleWithPart : ByteArray := prog_1_method_56_code
def yX11_moduleWithPart : MethodName := ⟨"Carcasswright", "moduleWithPart", "(II)LCarcasswright$PlacedModule;"⟩
abbrev cX11_obstacle : ByteArray := prog_1_method_7_code
def yX11_obstacle : MethodName := ⟨"Carcasswright", "obstacle", "(IIIII)I"⟩
abbrev cX11_offcuts : ByteArray := prog_1_method_33_code
def yX11_offcuts : MethodName := ⟨"Carcasswright", "offcuts", "()I"⟩
abbrev cX11_packs : ByteArray := prog_1_method_41_code
def yX11_packs : MethodName := ⟨"Carcasswright", "packs", "(II)I"⟩
abbrev cX11_parts : ByteArray := prog_1_method_22_code
def yX11_parts : MethodName := ⟨"Carcasswright", "parts", "(I)I"⟩
abbrev cX11_place : ByteArray := prog_1_method_14_code
def yX11_place : MethodName := ⟨"Carcasswright", "place", "(IIII)I"⟩
abbrev cX11_price : ByteArray := prog_1_method_40_code
def yX11_price : MethodName := ⟨"Carcasswright", "price", "(I)I"⟩
abbrev cX11_setOff : ByteArray := prog_1_method_6_code
def yX11_setOff : MethodName := ⟨"Carcasswright", "setOff", "(III)I"⟩
abbrev cX11_setRate : ByteArray := prog_1_method_39_code
def yX11_setRate : MethodName := ⟨"Carcasswright", "setRate", "(II)I"⟩
abbrev cX11_setSetup : ByteArray := prog_1_method_45_code
def yX11_setSetup : MethodName := ⟨"Carcasswright", "setSetup", "(I)I"⟩
abbrev cX11_shift : ByteArray := prog_1_method_15_code
def yX11_shift : MethodName := ⟨"Carcasswright", "shift", "(II)I"⟩
abbrev cX11_told : ByteArray := prog_1_method_13_code
def yX11_told : MethodName := ⟨"Carcasswright", "told", "(IC)I"⟩
abbrev cX11_type : ByteArray := prog_1_method_8_code
def yX11_type : MethodName := ⟨"Carcasswright", "type", "(C)I"⟩
abbrev cX11_uncut : ByteArray := prog_1_method_35_code
def yX11_uncut : MethodName := ⟨"Carcasswright", "uncut", "(I)I"⟩
abbrev cX11_wipe : ByteArray := prog_1_method_9_code
def yX11_wipe : MethodName := ⟨"Carcasswright", "wipe", "()I"⟩
abbrev cX1_goToNextOrder : ByteArray := prog_3_method_6_code
def yX1_goToNextOrder : MethodName := ⟨"Carcasswright$Jobs", "goToNextOrder", "()Z"⟩
abbrev cX21_board : ByteArray := prog_14_method_56_code
def yX21_board : MethodName := ⟨"CarcasswrightModel", "board", "(IC)I"⟩
abbrev cX21_boards : ByteArray := prog_14_method_54_code
def yX21_boards : MethodName := ⟨"CarcasswrightModel", "boards", "()I"⟩
abbrev cX21_close : ByteArray := prog_14_method_11_code
def yX21_close : MethodName := ⟨"CarcasswrightModel", "close", "()I"⟩
abbrev cX21_isClosedRoom : ByteArray := prog_14_method_14_code
def yX21_isClosedRoom : MethodName := ⟨"CarcasswrightModel", "isClosedRoom", "()Z"⟩
abbrev cX21_isType : ByteArray := prog_14_method_26_code
def yX21_isType : MethodName := ⟨"CarcasswrightModel", "isType", "(I)Z"⟩
abbrev cX21_modules : ByteArray := prog_14_method_76_code
def yX21_modules : MethodName := ⟨"CarcasswrightModel", "modules", "()I"⟩
abbrev cX21_noModule : ByteArray := prog_14_method_32_code
def yX21_noModule : MethodName := ⟨"CarcasswrightModel", "noModule", "(I)Z"⟩
abbrev cX21_noWall : ByteArray := prog_14_method_12_code
def yX21_noWall : MethodName := ⟨"CarcasswrightModel", "noWall", "(I)Z"⟩
abbrev cX21_orders : ByteArray := prog_14_method_73_code
def yX21_orders : MethodName := ⟨"CarcasswrightModel", "orders", "()V"⟩
abbrev cX21_reads : ByteArray := prog_14_method_21_code
def yX21_reads : MethodName := ⟨"CarcasswrightModel", "reads", "()V"⟩
abbrev cX21_setRate : ByteArray := prog_14_method_64_code
def yX21_setRate : MethodName := ⟨"CarcasswrightModel", "setRate", "(II)I"⟩
abbrev cX21_setSetup : ByteArray := prog_14_method_71_code
def yX21_setSetup : MethodName := ⟨"CarcasswrightModel", "setSetup", "(I)I"⟩
abbrev cX6_build : ByteArray := prog_8_method_4_code
def yX6_build : MethodName := ⟨"Carcasswright$Room", "build", "(CI)I"⟩
abbrev cX6_freeRows : ByteArray := prog_8_method_21_code
def yX6_freeRows : MethodName := ⟨"Carcasswright$Room", "freeRows", "(IZZ)I"⟩
abbrev cX6_init : ByteArray := prog_8_method_1_code
def yX6_init : MethodName := ⟨"Carcasswright$Room", "<init>", "(LCarcasswright$ModuleType;)V"⟩
abbrev cX7_init : ByteArray := prog_9_method_1_code
def yX7_init : MethodName := ⟨"Carcasswright$Saw", "<init>", "(LCarcasswright$Stock;)V"⟩
abbrev cX8_append : ByteArray := prog_10_method_3_code
def yX8_append : MethodName := ⟨"Carcasswright$Stock", "append", "(IIIIZ)Z"⟩
abbrev cX8_init : ByteArray := prog_10_method_1_code
def yX8_init : MethodName := ⟨"Carcasswright$Stock", "<init>", "()V"⟩
abbrev cX9_init : ByteArray := prog_11_method_1_code
def yX9_init : MethodName := ⟨"Carcasswright$Types", "<init>", "()V"⟩
abbrev cX9_read : ByteArray := prog_11_method_8_code
def yX9_read : MethodName := ⟨"Carcasswright$Types", "read", "()V"⟩
abbrev cJ0_indexOf_7cf53 : ByteArray := prog_42_method_80_code
def yJ0_indexOf_7cf53 : MethodName := ⟨"java/lang/String", "indexOf", "(II)I"⟩
abbrev cJ2_checkBoundsOffCount_d044e : ByteArray := prog_45_method_94_code
def yJ2_checkBoundsOffCount_d044e : MethodName := ⟨"java/lang/StringUTF16", "checkBoundsOffCount", "(II[B)V"⟩
abbrev cJ2_checkIndex_2214a : ByteArray := prog_45_method_91_code
def yJ2_checkIndex_2214a : MethodName := ⟨"java/lang/StringUTF16", "checkIndex", "(I[B)V"⟩
abbrev cJ7_copyOfRange_39247 : ByteArray := prog_55_method_132_code
def yJ7_copyOfRange_39247 : MethodName := ⟨"java/util/Arrays", "copyOfRange", "([BII)[B"⟩
abbrev cJ7_copyOf_1904c : ByteArray := prog_55_method_119_code
def yJ7_copyOf_1904c : MethodName := ⟨"java/util/Arrays", "copyOf", "([Ljava/lang/Object;I)[Ljava/lang/Object;"⟩
abbrev cJx4a65c_init_da8c8 : ByteArray := prog_53_method_2_code
def yJx4a65c_init_da8c8 : MethodName := ⟨"java/util/ArrayList", "<init>", "()V"⟩
abbrev cL_area : ByteArray := method_44_code
def yL_area : MethodName := ⟨"CarcasswrightLaw", "area", "(LCarcasswright;C[J)I"⟩
abbrev cL_board : ByteArray := method_31_code
def yL_board : MethodName := ⟨"CarcasswrightLaw", "board", "(LCarcasswright;IC[J)I"⟩
abbrev cL_change : ByteArray := method_15_code
def yL_change : MethodName := ⟨"CarcasswrightLaw", "change", "(LCarcasswright;II[J)I"⟩
abbrev cL_cut : ByteArray := method_33_code
def yL_cut : MethodName := ⟨"CarcasswrightLaw", "cut", "(LCarcasswright;I[J)I"⟩
abbrev cL_edged : ByteArray := method_35_code
def yL_edged : MethodName := ⟨"CarcasswrightLaw", "edged", "(LCarcasswright;I[J)I"⟩
abbrev cL_from : ByteArray := method_18_code
def yL_from : MethodName := ⟨"CarcasswrightLaw", "from", "(LCarcasswright;I[J)I"⟩
abbrev cL_hinges : ByteArray := method_25_code
def yL_hinges : MethodName := ⟨"CarcasswrightLaw", "hinges", "(LCarcasswright;I[J)I"⟩
abbrev cL_job : ByteArray := method_41_code
def yL_job : MethodName := ⟨"CarcasswrightLaw", "job", "(LCarcasswright;III[J)I"⟩
abbrev cL_lengthOf : ByteArray := method_5_code
def yL_lengthOf : MethodName := ⟨"CarcasswrightLaw", "lengthOf", "(LCarcasswright;I[J)I"⟩
abbrev cL_obstacle : ByteArray := method_7_code
def yL_obstacle : MethodName := ⟨"CarcasswrightLaw", "obstacle", "(LCarcasswright;IIIII[J)I"⟩
abbrev cL_packs : ByteArray := method_38_code
def yL_packs : MethodName := ⟨"CarcasswrightLaw", "packs", "(LCarcasswright;II[J)I"⟩
abbrev cL_parts : ByteArray := method_21_code
def yL_parts : MethodName := ⟨"CarcasswrightLaw", "parts", "(LCarcasswright;I[J)I"⟩
abbrev cL_place : ByteArray := method_13_code
def yL_place : MethodName := ⟨"CarcasswrightLaw", "place", "(LCarcasswright;IIII[J)I"⟩
abbrev cL_price : ByteArray := method_37_code
def yL_price : MethodName := ⟨"CarcasswrightLaw", "price", "(LCarcasswright;I[J)I"⟩
abbrev cL_setOff : ByteArray := method_6_code
def yL_setOff : MethodName := ⟨"CarcasswrightLaw", "setOff", "(LCarcasswright;III[J)I"⟩
abbrev cL_setRate : ByteArray := method_36_code
def yL_setRate : MethodName := ⟨"CarcasswrightLaw", "setRate", "(LCarcasswright;II[J)I"⟩
abbrev cL_setSetup : ByteArray := method_42_code
def yL_setSetup : MethodName := ⟨"CarcasswrightLaw", "setSetup", "(LCarcasswright;I[J)I"⟩
abbrev cL_shift : ByteArray := method_14_code
def yL_shift : MethodName := ⟨"CarcasswrightLaw", "shift", "(LCarcasswright;II[J)I"⟩
abbrev cL_told : ByteArray := method_12_code
def yL_told : MethodName := ⟨"CarcasswrightLaw", "told", "(LCarcasswright;IC[J)I"⟩
abbrev cL_type : ByteArray := method_8_code
def yL_type : MethodName := ⟨"CarcasswrightLaw", "type", "(LCarcasswright;C[J)I"⟩
abbrev cL_uncut : ByteArray := method_32_code
def yL_uncut : MethodName := ⟨"CarcasswrightLaw", "uncut", "(LCarcasswright;I[J)I"⟩
abbrev cX11_addBoards : ByteArray := prog_1_method_31_code
def yX11_addBoards : MethodName := ⟨"Carcasswright", "addBoards", "(IIIII)I"⟩
abbrev cX11_addType : ByteArray := prog_1_method_12_code
def yX11_addType : MethodName := ⟨"Carcasswright", "addType", "()I"⟩
abbrev cX11_addWall : ByteArray := prog_1_method_2_code
def yX11_addWall : MethodName := ⟨"Carcasswright", "addWall", "(CI)I"⟩
abbrev cX11_clamp : ByteArray := prog_1_method_30_code
def yX11_clamp : MethodName := ⟨"Carcasswright", "clamp", "(IIZ)I"⟩
abbrev cX11_drills : ByteArray := prog_1_method_29_code
def yX11_drills : MethodName := ⟨"Carcasswright", "drills", "(II)I"⟩
abbrev cX11_fault : ByteArray := prog_1_method_10_code
def yX11_fault : MethodName := ⟨"Carcasswright", "fault", "()I"⟩
abbrev cX11_faultKind : ByteArray := prog_1_method_11_code
def yX11_faultKind : MethodName := ⟨"Carcasswright", "faultKind", "()C"⟩
abbrev cX11_free : ByteArray := prog_1_method_20_code
def yX11_free : MethodName := ⟨"Carcasswright", "free", "(IZ)I"⟩
abbrev cX11_hole : ByteArray := prog_1_method_28_code
def yX11_hole : MethodName := ⟨"Carcasswright", "hole", "(IIIC)I"⟩
abbrev cX11_holes : ByteArray := prog_1_method_27_code
def yX11_holes : MethodName := ⟨"Carcasswright", "holes", "(II)I"⟩
abbrev cX11_init : ByteArray := prog_1_method_1_code
def yX11_init : MethodName := ⟨"Carcasswright", "<init>", "()V"⟩
abbrev cX11_kindOf : ByteArray := prog_1_method_23_code
def yX11_kindOf : MethodName := ⟨"Carcasswright", "kindOf", "(II)C"⟩
abbrev cX11_lose : ByteArray := prog_1_method_37_code
def yX11_lose : MethodName := ⟨"Carcasswright", "lose", "(II)I"⟩
abbrev cX11_packOf : ByteArray := prog_1_method_42_code
def yX11_packOf : MethodName := ⟨"Carcasswright", "packOf", "(III)I"⟩
abbrev cX11_size : ByteArray := prog_1_method_24_code
def yX11_size : MethodName := ⟨"Carcasswright", "size", "(IIC)I"⟩
abbrev cX11_stepAt : ByteArray := prog_1_method_43_code
def yX11_stepAt : MethodName := ⟨"Carcasswright", "stepAt", "(II)I"⟩
abbrev cX11_weight : ByteArray := prog_1_method_25_code
def yX11_weight : MethodName := ⟨"Carcasswright", "weight", "(II)I"⟩
abbrev cX11_widest : ByteArray := prog_1_method_21_code
def yX11_widest : MethodName := ⟨"Carcasswright", "widest", "(IZ)I"⟩
abbrev cX1_plan : ByteArray := prog_3_method_3_code
def yX1_plan : MethodName := ⟨"Carcasswright$Jobs", "plan", "()V"⟩
abbrev cX21_addType : ByteArray := prog_14_method_25_code
def yX21_addType : MethodName := ⟨"CarcasswrightModel", "addType", "()I"⟩
abbrev cX21_change : ByteArray := prog_14_method_34_code
def yX21_change : MethodName := ⟨"CarcasswrightModel", "change", "(II)I"⟩
abbrev cX21_clash : ByteArray := prog_14_method_35_code
def yX21_clash : MethodName := ⟨"CarcasswrightModel", "clash", "(I)C"⟩
abbrev cX21_clashNumber : ByteArray := prog_14_method_36_code
def yX21_clashNumber : MethodName := ⟨"CarcasswrightModel", "clashNumber", "(I)I"⟩
abbrev cX21_cut : ByteArray := prog_14_method_61_code
def yX21_cut : MethodName := ⟨"CarcasswrightModel", "cut", "(I)I"⟩
abbrev cX21_cutArea : ByteArray := prog_14_method_78_code
def yX21_cutArea : MethodName := ⟨"CarcasswrightModel", "cutArea", "()J"⟩
abbrev cX21_cutShare : ByteArray := prog_14_method_80_code
def yX21_cutShare : MethodName := ⟨"CarcasswrightModel", "cutShare", "()F"⟩
abbrev cX21_edged : ByteArray := prog_14_method_63_code
def yX21_edged : MethodName := ⟨"CarcasswrightModel", "edged", "(I)I"⟩
abbrev cX21_fault : ByteArray := prog_14_method_23_code
def yX21_fault : MethodName := ⟨"CarcasswrightModel", "fault", "()I"⟩
abbrev cX21_faultKind : ByteArray := prog_14_method_24_code
def yX21_faultKind : MethodName := ⟨"CarcasswrightModel", "faultKind", "()C"⟩
abbrev cX21_free_ : ByteArray := prog_14_method_39_code
def yX21_free_ : MethodName := ⟨"CarcasswrightModel", "free", "(IZ)I"⟩
abbrev cX21_from : ByteArray := prog_14_method_37_code
def yX21_from : MethodName := ⟨"CarcasswrightModel", "from", "(I)I"⟩
abbrev cX21_hinges : ByteArray := prog_14_method_47_code
def yX21_hinges : MethodName := ⟨"CarcasswrightModel", "hinges", "(I)I"⟩
abbrev cX21_jobAt : ByteArray := prog_14_method_75_code
def yX21_jobAt : MethodName := ⟨"CarcasswrightModel", "jobAt", "(I)I"⟩
abbrev cX21_lateness : ByteArray := prog_14_method_74_code
def yX21_lateness : MethodName := ⟨"CarcasswrightModel", "lateness", "()I"⟩
abbrev cX21_lengthOf : ByteArray := prog_14_method_13_code
def yX21_lengthOf : MethodName := ⟨"CarcasswrightModel", "lengthOf", "(I)I"⟩
abbrev cX21_meanWidth : ByteArray := prog_14_method_81_code
def yX21_meanWidth : MethodName := ⟨"CarcasswrightModel", "meanWidth", "()D"⟩
abbrev cX21_obstacle : ByteArray := prog_14_method_16_code
def yX21_obstacle : MethodName := ⟨"CarcasswrightModel", "obstacle", "(IIIII)I"⟩
abbrev cX21_offcuts : ByteArray := prog_14_method_55_code
def yX21_offcuts : MethodName := ⟨"CarcasswrightModel", "offcuts", "()I"⟩
abbrev cX21_packs : ByteArray := prog_14_method_67_code
def yX21_packs : MethodName := ⟨"CarcasswrightModel", "packs", "(II)I"⟩
abbrev cX21_part : ByteArray := prog_14_method_42_code
def yX21_part : MethodName := ⟨"CarcasswrightModel", "part", "(II)LCarcasswrightModel$Part;"⟩
abbrev cX21_parts : ByteArray := prog_14_method_41_code
def yX21_parts : MethodName := ⟨"CarcasswrightModel", "parts", "(I)I"⟩
abbrev cX21_place : ByteArray := prog_14_method_31_code
def yX21_place : MethodName := ⟨"CarcasswrightModel", "place", "(IIII)I"⟩
abbrev cX21_price : ByteArray := prog_14_method_65_code
def yX21_price : MethodName := ⟨"CarcasswrightModel", "price", "(I)I"⟩
abbrev cX21_setOff : ByteArray := prog_14_method_15_code
def yX21_setOff : MethodName := ⟨"CarcasswrightModel", "setOff", "(III)I"⟩
abbrev cX21_shift : ByteArray := prog_14_method_33_code
def yX21_shift : MethodName := ⟨"CarcasswrightModel", "shift", "(II)I"⟩
abbrev cX21_stocked : ByteArray := prog_14_method_77_code
def yX21_stocked : MethodName := ⟨"CarcasswrightModel", "stocked", "()J"⟩
abbrev cX21_told : ByteArray := prog_14_method_27_code
def yX21_told : MethodName := ⟨"CarcasswrightModel", "told", "(IC)I"⟩
abbrev cX21_uncut : ByteArray := prog_14_method_57_code
def yX21_uncut : MethodName := ⟨"CarcasswrightModel", "uncut", "(I)I"⟩
abbrev cX21_widest : ByteArray := prog_14_method_40_code
def yX21_widest : MethodName := ⟨"CarcasswrightModel", "widest", "(IZ)I"⟩
abbrev cX21_wipe : ByteArray := prog_14_method_18_code
def yX21_wipe : MethodName := ⟨"CarcasswrightModel", "wipe", "()I"⟩
abbrev cJ0_indexOf_0f7a4 : ByteArray := prog_42_method_79_code
def yJ0_indexOf_0f7a4 : MethodName := ⟨"java/lang/String", "indexOf", "(I)I"⟩
abbrev cJ0_init_db425 : ByteArray := prog_42_method_150_code
def yJ0_init_db425 : MethodName := ⟨"java/lang/String", "<init>", "(Ljava/lang/AbstractStringBuilder;Ljava/lang/Void;)V"⟩
abbrev cJ2_inflate_0e8fd : ByteArray := prog_45_method_86_code
def yJ2_inflate_0e8fd : MethodName := ⟨"java/lang/StringUTF16", "inflate", "([BI[BII)V"⟩
abbrev cJ2_putCharSB_b72d1 : ByteArray := prog_45_method_71_code
def yJ2_putCharSB_b72d1 : MethodName := ⟨"java/lang/StringUTF16", "putCharSB", "([BII)V"⟩
abbrev cJx4a65c_grow_92f84 : ByteArray := prog_53_method_6_code
def yJx4a65c_grow_92f84 : MethodName := ⟨"java/util/ArrayList", "grow", "(I)[Ljava/lang/Object;"⟩
abbrev cL_addBoards : ByteArray := method_30_code
def yL_addBoards : MethodName := ⟨"CarcasswrightLaw", "addBoards", "(LCarcasswright;IIIII[J)I"⟩
abbrev cL_addType : ByteArray := method_11_code
def yL_addType : MethodName := ⟨"CarcasswrightLaw", "addType", "(LCarcasswright;[J)I"⟩
abbrev cL_addWall : ByteArray := method_3_code
def yL_addWall : MethodName := ⟨"CarcasswrightLaw", "addWall", "(LCarcasswright;CI[J)I"⟩
abbrev cL_clamp : ByteArray := method_29_code
def yL_clamp : MethodName := ⟨"CarcasswrightLaw", "clamp", "(LCarcasswright;IIZ[J)I"⟩
abbrev cL_drills : ByteArray := method_28_code
def yL_drills : MethodName := ⟨"CarcasswrightLaw", "drills", "(LCarcasswright;II[J)I"⟩
abbrev cL_fault : ByteArray := method_9_code
def yL_fault : MethodName := ⟨"CarcasswrightLaw", "fault", "(LCarcasswright;[J)I"⟩
abbrev cL_faultKind : ByteArray := method_10_code
def yL_faultKind : MethodName := ⟨"CarcasswrightLaw", "faultKind", "(LCarcasswright;[J)I"⟩
abbrev cL_free : ByteArray := method_19_code
def yL_free : MethodName := ⟨"CarcasswrightLaw", "free", "(LCarcasswright;IZ[J)I"⟩
abbrev cL_hole : ByteArray := method_27_code
def yL_hole : MethodName := ⟨"CarcasswrightLaw", "hole", "(LCarcasswright;IIIC[J)I"⟩
abbrev cL_holes : ByteArray := method_26_code
def yL_holes : MethodName := ⟨"CarcasswrightLaw", "holes", "(LCarcasswright;II[J)I"⟩
abbrev cL_kindOf : ByteArray := method_22_code
def yL_kindOf : MethodName := ⟨"CarcasswrightLaw", "kindOf", "(LCarcasswright;II[J)I"⟩
abbrev cL_lose : ByteArray := method_34_code
def yL_lose : MethodName := ⟨"CarcasswrightLaw", "lose", "(LCarcasswright;II[J)I"⟩
abbrev cL_packOf : ByteArray := method_39_code
def yL_packOf : MethodName := ⟨"CarcasswrightLaw", "packOf", "(LCarcasswright;III[J)I"⟩
abbrev cL_size : ByteArray := method_23_code
def yL_size : MethodName := ⟨"CarcasswrightLaw", "size", "(LCarcasswright;IIC[J)I"⟩
abbrev cL_stepAt : ByteArray := method_40_code
def yL_stepAt : MethodName := ⟨"CarcasswrightLaw", "stepAt", "(LCarcasswright;II[J)I"⟩
abbrev cL_weight : ByteArray := method_24_code
def yL_weight : MethodName := ⟨"CarcasswrightLaw", "weight", "(LCarcasswright;II[J)I"⟩
abbrev cL_widest : ByteArray := method_20_code
def yL_widest : MethodName := ⟨"CarcasswrightLaw", "widest", "(LCarcasswright;IZ[J)I"⟩
abbrev cX11_lateness : ByteArray := prog_1_method_46_code
def yX11_lateness : MethodName := ⟨"Carcasswright", "lateness", "()I"⟩
abbrev cX12_init : ByteArray := prog_15_method_1_code
def yX12_init : MethodName := ⟨"CarcasswrightModel$Board", "<init>", "(IIIIZ)V"⟩
abbrev cX21_area : ByteArray := prog_14_method_79_code
def yX21_area : MethodName := ⟨"CarcasswrightModel", "area", "(C)J"⟩
abbrev cX21_clamp : ByteArray := prog_14_method_52_code
def yX21_clamp : MethodName := ⟨"CarcasswrightModel", "clamp", "(IIZ)I"⟩
abbrev cX21_drills : ByteArray := prog_14_method_50_code
def yX21_drills : MethodName := ⟨"CarcasswrightModel", "drills", "(II)I"⟩
abbrev cX21_hole : ByteArray := prog_14_method_49_code
def yX21_hole : MethodName := ⟨"CarcasswrightModel", "hole", "(IIIC)I"⟩
abbrev cX21_holes : ByteArray := prog_14_method_48_code
def yX21_holes : MethodName := ⟨"CarcasswrightModel", "holes", "(II)I"⟩
abbrev cX21_init : ByteArray := prog_14_method_3_code
def yX21_init : MethodName := ⟨"CarcasswrightModel", "<init>", "()V"⟩
abbrev cX21_kindOf : ByteArray := prog_14_method_43_code
def yX21_kindOf : MethodName := ⟨"CarcasswrightModel", "kindOf", "(II)C"⟩
abbrev cX21_lose : ByteArray := prog_14_method_62_code
def yX21_lose : MethodName := ⟨"CarcasswrightModel", "lose", "(II)I"⟩
abbrev cX21_packOf : ByteArray := prog_14_method_68_code
def yX21_packOf : MethodName := ⟨"CarcasswrightModel", "packOf", "(III)I"⟩
abbrev cX21_size : ByteArray := prog_14_method_44_code
def yX21_size : MethodName := ⟨"CarcasswrightModel", "size", "(IIC)I"⟩
abbrev cX21_stepAt : ByteArray := prog_14_method_69_code
def yX21_stepAt : MethodName := ⟨"CarcasswrightModel", "stepAt", "(II)I"⟩
abbrev cX21_weight : ByteArray := prog_14_method_45_code
def yX21_weight : MethodName := ⟨"CarcasswrightModel", "weight", "(II)I"⟩
abbrev cJ0_init_81219 : ByteArray := prog_42_method_53_code
def yJ0_init_81219 : MethodName := ⟨"java/lang/String", "<init>", "(Ljava/lang/StringBuilder;)V"⟩
abbrev cJ1_inflate_0e8fd : ByteArray := prog_44_method_50_code
def yJ1_inflate_0e8fd : MethodName := ⟨"java/lang/StringLatin1", "inflate", "([BI[BII)V"⟩
abbrev cJx4a65c_grow_d5877 : ByteArray := prog_53_method_7_code
def yJx4a65c_grow_d5877 : MethodName := ⟨"java/util/ArrayList", "grow", "()[Ljava/lang/Object;"⟩
abbrev cJ4_toString_0e30d : ByteArray := prog_43_method_42_code
def yJ4_toString_0e30d : MethodName := ⟨"java/lang/StringBuilder", "toString", "()Ljava/lang/String;"⟩
abbrev cJ5_inflate_da8c8 : ByteArray := prog_25_method_11_code
def yJ5_inflate_da8c8 : MethodName := ⟨"java/lang/AbstractStringBuilder", "inflate", "()V"⟩
abbrev cJx4a65c_add_72be8 : ByteArray := prog_53_method_24_code
def yJx4a65c_add_72be8 : MethodName := ⟨"java/util/ArrayList", "add", "(Ljava/lang/Object;[Ljava/lang/Object;I)V"⟩
abbrev cJ5_append_3fe6f : ByteArray := prog_25_method_31_code
def yJ5_append_3fe6f : MethodName := ⟨"java/lang/AbstractStringBuilder", "append", "(C)Ljava/lang/AbstractStringBuilder;"⟩
abbrev cJ5_inflateIfNeededFor_a7421 : ByteArray := prog_25_method_71_code
def yJ5_inflateIfNeededFor_a7421 : MethodName := ⟨"java/lang/AbstractStringBuilder", "inflateIfNeededFor", "(Ljava/lang/String;)V"⟩
abbrev cJx4a65c_add_9ea2d : ByteArray := prog_53_method_25_code
def yJx4a65c_add_9ea2d : MethodName := ⟨"java/util/ArrayList", "add", "(Ljava/lang/Object;)Z"⟩
abbrev cJ4_append_cf468 : ByteArray := prog_43_method_14_code
def yJ4_append_cf468 : MethodName := ⟨"java/lang/StringBuilder", "append", "(C)Ljava/lang/StringBuilder;"⟩
abbrev cJ5_putStringAt_47b60 : ByteArray := prog_25_method_73_code
def yJ5_putStringAt_47b60 : MethodName := ⟨"java/lang/AbstractStringBuilder", "putStringAt", "(ILjava/lang/String;)V"⟩
abbrev cX21_addBoards : ByteArray := prog_14_method_53_code
def yX21_addBoards : MethodName := ⟨"CarcasswrightModel", "addBoards", "(IIIII)I"⟩
abbrev cX21_addWall : ByteArray := prog_14_method_6_code
def yX21_addWall : MethodName := ⟨"CarcasswrightModel", "addWall", "(CI)I"⟩
abbrev cX21_job : ByteArray := prog_14_method_70_code
def yX21_job : MethodName := ⟨"CarcasswrightModel", "job", "(III)I"⟩
abbrev cJ5_append_cf1ce : ByteArray := prog_25_method_22_code
def yJ5_append_cf1ce : MethodName := ⟨"java/lang/AbstractStringBuilder", "append", "(Ljava/lang/String;)Ljava/lang/AbstractStringBuilder;"⟩
abbrev cJ4_append_15ec4 : ByteArray := prog_43_method_7_code
def yJ4_append_15ec4 : MethodName := ⟨"java/lang/StringBuilder", "append", "(Ljava/lang/String;)Ljava/lang/StringBuilder;"⟩
abbrev cX21_type : ByteArray := prog_14_method_17_code
def yX21_type : MethodName := ⟨"CarcasswrightModel", "type", "(C)I"⟩
abbrev cL_law : ByteArray := code
def yL_law : MethodName := ⟨"CarcasswrightLaw", "law", "([I)Z"⟩
def dl_J0 : List ce_SV := [.inr (.inr (.inr .null)), .inl (.inl (0)), .inl (.inl (0)), .inl (.inl (0))]
theorem dv_J0 (z : ce_U) (ad : Nat → Nat) : ∀ j : Nat, j < 4 → defaultValue (tyJ0 j) = vp_V (dl_J0.map (ce_v z ad)) j
  | 0, _ => rfl
  | 1, _ => rfl
  | 2, _ => rfl
  | 3, _ => rfl
  | n + 4, h => absurd h (by omega)
def dl_J4 : List ce_SV := [.inr (.inr (.inr .null)), .inl (.inl (0)), .inl (.inl (0)), .inl (.inl (0))]
theorem dv_J4 (z : ce_U) (ad : Nat → Nat) : ∀ j : Nat, j < 4 → defaultValue (tyJ4 j) = vp_V (dl_J4.map (ce_v z ad)) j
  | 0, _ => rfl
  | 1, _ => rfl
  | 2, _ => rfl
  | 3, _ => rfl
  | n + 4, h => absurd h (by omega)
def dl_Jx35411 : List ce_SV := [.inl (.inl (0)), .inl (.inl (0)), .inl (.inl (0)), .inr (.inr (.inr .null))]
theorem dv_Jx35411 (z : ce_U) (ad : Nat → Nat) : ∀ j : Nat, j < 4 → defaultValue (tyJx35411 j) = vp_V (dl_Jx35411.map (ce_v z ad)) j
  | 0, _ => rfl
  | 1, _ => rfl
  | 2, _ => rfl
  | 3, _ => rfl
  | n + 4, h => absurd h (by omega)
def dl_Jx4a65c : List ce_SV := [.inl (.inl (0)), .inr (.inr (.inr .null)), .inl (.inl (0))]
theorem dv_Jx4a65c (z : ce_U) (ad : Nat → Nat) : ∀ j : Nat, j < 3 → defaultValue (tyJx4a65c j) = vp_V (dl_Jx4a65c.map (ce_v z ad)) j
  | 0, _ => rfl
  | 1, _ => rfl
  | 2, _ => rfl
  | n + 3, h => absurd h (by omega)
def dl_X0 : List ce_SV := [.inl (.inl (0)), .inl (.inl (0)), .inl (.inl (0)), .inl (.inl (0)), .inl (.inl (0)), .inl (.inl (0)), .inl (.inl (0))]
theorem dv_X0 (z : ce_U) (ad : Nat → Nat) : ∀ j : Nat, j < 7 → defaultValue (tyX0 j) = vp_V (dl_X0.map (ce_v z ad)) j
  | 0, _ => rfl
  | 1, _ => rfl
  | 2, _ => rfl
  | 3, _ => rfl
  | 4, _ => rfl
  | 5, _ => rfl
  | 6, _ => rfl
  | n + 7, h => absurd h (by omega)
def dl_X1 : List ce_SV := [.inr (.inr (.inr .null)), .inr (.inr (.inr .null)), .inr (.inr (.inr .null)), .inr (.inr (.inr .null)), .inr (.inr (.inr .null)), .inl (.inl (0)), .inl (.inl (0)), .inl (.inl (0))]
theorem dv_X1 (z : ce_U) (ad : Nat → Nat) : ∀ j : Nat, j < 8 → defaultValue (tyX1 j) = vp_V (dl_X1.map (ce_v z ad)) j
  | 0, _ => rfl
  | 1, _ => rfl
  | 2, _ => rfl
  | 3, _ => rfl
  | 4, _ => rfl
  | 5, _ => rfl
  | 6, _ => rfl
  | 7, _ => rfl
  | n + 8, h => absurd h (by omega)
def dl_X2 : List ce_SV := [.inl (.inl (0)), .inl (.inl (0)), .inl (.inl (0)), .inl (.inl (0)), .inl (.inl (0)), .inl (.inl (0)), .inl (.inl (0)), .inl (.inl (0)), .inl (.inl (0))]
theorem dv_X2 (z : ce_U) (ad : Nat → Nat) : ∀ j : Nat, j < 9 → defaultValue (tyX2 j) = vp_V (dl_X2.map (ce_v z ad)) j
  | 0, _ => rfl
  | 1, _ => rfl
  | 2, _ => rfl
  | 3, _ => rfl
  | 4, _ => rfl
  | 5, _ => rfl
  | 6, _ => rfl
  | 7, _ => rfl
  | 8, _ => rfl
  | n + 9, h => absurd h (by omega)
def dl_X3 : List ce_SV := [.inl (.inl (0)), .inl (.inl (0)), .inl (.inl (0)), .inl (.inl (0)), .inl (.inl (0))]
theorem dv_X3 (z : ce_U) (ad : Nat → Nat) : ∀ j : Nat, j < 5 → defaultValue (tyX3 j) = vp_V (dl_X3.map (ce_v z ad)) j
  | 0, _ => rfl
  | 1, _ => rfl
  | 2, _ => rfl
  | 3, _ => rfl
  | 4, _ => rfl
  | n + 5, h => absurd h (by omega)
def dl_X4 : List ce_SV := [.inr (.inr (.inr .null)), .inr (.inr (.inr .null)), .inr (.inr (.inr .null)), .inl (.inl (0))]
theorem dv_X4 (z : ce_U) (ad : Nat → Nat) : ∀ j : Nat, j < 4 → defaultValue (tyX4 j) = vp_V (dl_X4.map (ce_v z ad)) j
  | 0, _ => rfl
  | 1, _ => rfl
  | 2, _ => rfl
  | 3, _ => rfl
  | n + 4, h => absurd h (by omega)
def dl_X5 : List ce_SV := [.inr (.inr (.inr .null)), .inl (.inl (0)), .inl (.inl (0)), .inl (.inl (0)), .inl (.inl (0))]
theorem dv_X5 (z : ce_U) (ad : Nat → Nat) : ∀ j : Nat, j < 5 → defaultValue (tyX5 j) = vp_V (dl_X5.map (ce_v z ad)) j
  | 0, _ => rfl
  | 1, _ => rfl
  | 2, _ => rfl
  | 3, _ => rfl
  | 4, _ => rfl
  | n + 5, h => absurd h (by omega)
def dl_X6 : List ce_SV := [.inr (.inr (.inr .null)), .inr (.inr (.inr .null)), .inr (.inr (.inr .null)), .inr (.inr (.inr .null)), .inr (.inr (.inr .null)), .inr (.inr (.inr .null)), .inl (.inl (0)), .inl (.inl (0)), .inl (.inl (0)), .inl (.inl (0))]
theorem dv_X6 (z : ce_U) (ad : Nat → Nat) : ∀ j : Nat, j < 10 → defaultValue (tyX6 j) = vp_V (dl_X6.map (ce_v z ad)) j
  | 0, _ => rfl
  | 1, _ => rfl
  | 2, _ => rfl
  | 3, _ => rfl
  | 4, _ => rfl
  | 5, _ => rfl
  | 6, _ => rfl
  | 7, _ => rfl
  | 8, _ => rfl
  | 9, _ => rfl
  | n + 10, h => absurd h (by omega)
def dl_X7 : List ce_SV := [.inr (.inr (.inr .null)), .inr (.inr (.inr .null)), .inr (.inr (.inr .null)), .inl (.inl (0)), .inr (.inr (.inr .null)), .inl (.inl (0)), .inl (.inl (0)), .inr (.inr (.inr .null)), .inr (.inr (.inr .null)), .inr (.inr (.inr .null)), .inl (.inl (0)), .inr (.inr (.inr .null)), .inl (.inl (0))]
theorem dv_X7 (z : ce_U) (ad : Nat → Nat) : ∀ j : Nat, j < 13 → defaultValue (tyX7 j) = vp_V (dl_X7.map (ce_v z ad)) j
  | 0, _ => rfl
  | 1, _ => rfl
  | 2, _ => rfl
  | 3, _ => rfl
  | 4, _ => rfl
  | 5, _ => rfl
  | 6, _ => rfl
  | 7, _ => rfl
  | 8, _ => rfl
  | 9, _ => rfl
  | 10, _ => rfl
  | 11, _ => rfl
  | 12, _ => rfl
  | n + 13, h => absurd h (by omega)
def dl_X8 : List ce_SV := [.inr (.inr (.inr .null)), .inl (.inl (0)), .inr (.inl (.inl (0))), .inr (.inl (.inl (0))), .inr (.inl (.inl (0)))]
theorem dv_X8 (z : ce_U) (ad : Nat → Nat) : ∀ j : Nat, j < 5 → defaultValue (tyX8 j) = vp_V (dl_X8.map (ce_v z ad)) j
  | 0, _ => rfl
  | 1, _ => rfl
  | 2, _ => rfl
  | 3, _ => rfl
  | 4, _ => rfl
  | n + 5, h => absurd h (by omega)
def dl_X9 : List ce_SV := [.inr (.inr (.inr .null)), .inr (.inr (.inr .null)), .inr (.inr (.inr .null)), .inl (.inl (0)), .inl (.inl (0)), .inl (.inl (0)), .inl (.inl (0)), .inl (.inl (0)), .inl (.inl (0)), .inl (.inl (0))]
theorem dv_X9 (z : ce_U) (ad : Nat → Nat) : ∀ j : Nat, j < 10 → defaultValue (tyX9 j) = vp_V (dl_X9.map (ce_v z ad)) j
  | 0, _ => rfl
  | 1, _ => rfl
  | 2, _ => rfl
  | 3, _ => rfl
  | 4, _ => rfl
  | 5, _ => rfl
  | 6, _ => rfl
  | 7, _ => rfl
  | 8, _ => rfl
  | 9, _ => rfl
  | n + 10, h => absurd h (by omega)
def dl_X10 : List ce_SV := [.inl (.inl (0)), .inl (.inl (0)), .inl (.inl (0)), .inl (.inl (0)), .inl (.inl (0)), .inl (.inl (0))]
theorem dv_X10 (z : ce_U) (ad : Nat → Nat) : ∀ j : Nat, j < 6 → defaultValue (tyX10 j) = vp_V (dl_X10.map (ce_v z ad)) j
  | 0, _ => rfl
  | 1, _ => rfl
  | 2, _ => rfl
  | 3, _ => rfl
  | 4, _ => rfl
  | 5, _ => rfl
  | n + 6, h => absurd h (by omega)
def dl_X11 : List ce_SV := [.inr (.inr (.inr .null)), .inr (.inr (.inr .null)), .inr (.inr (.inr .null)), .inr (.inr (.inr .null)), .inr (.inr (.inr .null)), .inr (.inr (.inr .null)), .inr (.inr (.inr .null))]
theorem dv_X11 (z : ce_U) (ad : Nat → Nat) : ∀ j : Nat, j < 7 → defaultValue (tyX11 j) = vp_V (dl_X11.map (ce_v z ad)) j
  | 0, _ => rfl
  | 1, _ => rfl
  | 2, _ => rfl
  | 3, _ => rfl
  | 4, _ => rfl
  | 5, _ => rfl
  | 6, _ => rfl
  | n + 7, h => absurd h (by omega)
def dl_X12 : List ce_SV := [.inl (.inl (0)), .inl (.inl (0)), .inl (.inl (0)), .inl (.inl (0)), .inl (.inl (0)), .inr (.inr (.inr .null)), .inr (.inr (.inr .null))]
theorem dv_X12 (z : ce_U) (ad : Nat → Nat) : ∀ j : Nat, j < 7 → defaultValue (tyX12 j) = vp_V (dl_X12.map (ce_v z ad)) j
  | 0, _ => rfl
  | 1, _ => rfl
  | 2, _ => rfl
  | 3, _ => rfl
  | 4, _ => rfl
  | 5, _ => rfl
  | 6, _ => rfl
  | n + 7, h => absurd h (by omega)
def dl_X14 : List ce_SV := [.inl (.inl (0)), .inl (.inl (0)), .inl (.inl (0))]
theorem dv_X14 (z : ce_U) (ad : Nat → Nat) : ∀ j : Nat, j < 3 → defaultValue (tyX14 j) = vp_V (dl_X14.map (ce_v z ad)) j
  | 0, _ => rfl
  | 1, _ => rfl
  | 2, _ => rfl
  | n + 3, h => absurd h (by omega)
def dl_X19 : List ce_SV := [.inl (.inl (0)), .inl (.inl (0)), .inl (.inl (0)), .inl (.inl (0)), .inl (.inl (0))]
theorem dv_X19 (z : ce_U) (ad : Nat → Nat) : ∀ j : Nat, j < 5 → defaultValue (tyX19 j) = vp_V (dl_X19.map (ce_v z ad)) j
  | 0, _ => rfl
  | 1, _ => rfl
  | 2, _ => rfl
  | 3, _ => rfl
  | 4, _ => rfl
  | n + 5, h => absurd h (by omega)
def dl_X20 : List ce_SV := [.inl (.inl (0)), .inl (.inl (0)), .inl (.inl (0)), .inl (.inl (0)), .inl (.inl (0))]
theorem dv_X20 (z : ce_U) (ad : Nat → Nat) : ∀ j : Nat, j < 5 → defaultValue (tyX20 j) = vp_V (dl_X20.map (ce_v z ad)) j
  | 0, _ => rfl
  | 1, _ => rfl
  | 2, _ => rfl
  | 3, _ => rfl
  | 4, _ => rfl
  | n + 5, h => absurd h (by omega)
def dl_X21 : List ce_SV := [.inl (.inl (0)), .inr (.inr (.inr .null)), .inr (.inr (.inr .null)), .inr (.inr (.inr .null)), .inr (.inr (.inr .null)), .inr (.inr (.inr .null)), .inr (.inr (.inr .null)), .inr (.inr (.inr .null)), .inr (.inr (.inr .null)), .inl (.inl (0)), .inr (.inl (.inl (0))), .inr (.inl (.inl (0))), .inr (.inl (.inl (0))), .inr (.inr (.inr .null)), .inr (.inr (.inr .null)), .inr (.inr (.inr .null)), .inl (.inl (0)), .inl (.inl (0)), .inl (.inl (0)), .inr (.inr (.inr .null))]
theorem dv_X21 (z : ce_U) (ad : Nat → Nat) : ∀ j : Nat, j < 20 → defaultValue (tyX21 j) = vp_V (dl_X21.map (ce_v z ad)) j
  | 0, _ => rfl
  | 1, _ => rfl
  | 2, _ => rfl
  | 3, _ => rfl
  | 4, _ => rfl
  | 5, _ => rfl
  | 6, _ => rfl
  | 7, _ => rfl
  | 8, _ => rfl
  | 9, _ => rfl
  | 10, _ => rfl
  | 11, _ => rfl
  | 12, _ => rfl
  | 13, _ => rfl
  | 14, _ => rfl
  | 15, _ => rfl
  | 16, _ => rfl
  | 17, _ => rfl
  | 18, _ => rfl
  | 19, _ => rfl
  | n + 20, h => absurd h (by omega)
theorem gT_P : ∀ w ∈ k2_sels lw_privs, goodWord w = true → w ∈ ce_GW := fun w h g => ce_inF (List.mem_filter.mpr ⟨List.mem_append_left _ h, g⟩)
theorem gT_1 : ∀ w ∈ tables_1_1, goodWord w = true → w ∈ ce_GW := fun w h g => ce_inF (List.mem_filter.mpr ⟨List.mem_append_right _ (List.mem_append_left _ h), g⟩)
theorem gT_2 : ∀ w ∈ tables_1_2, goodWord w = true → w ∈ ce_GW := fun w h g => ce_inF (List.mem_filter.mpr ⟨List.mem_append_right _ (List.mem_append_right _ (List.mem_append_left _ h)), g⟩)
theorem gT_3 : ∀ w ∈ tables_1_3, goodWord w = true → w ∈ ce_GW := fun w h g => ce_inF (List.mem_filter.mpr ⟨List.mem_append_right _ (List.mem_append_right _ (List.mem_append_right _ (List.mem_append_left _ h))), g⟩)
theorem gT_4 : ∀ w ∈ tables_1_4, goodWord w = true → w ∈ ce_GW := fun w h g => ce_inF (List.mem_filter.mpr ⟨List.mem_append_right _ (List.mem_append_right _ (List.mem_append_right _ (List.mem_append_right _ (List.mem_append_left _ h)))), g⟩)
theorem gT_5 : ∀ w ∈ tables_1_5, goodWord w = true → w ∈ ce_GW := fun w h g => ce_inF (List.mem_filter.mpr ⟨List.mem_append_right _ (List.mem_append_right _ (List.mem_append_right _ (List.mem_append_right _ (List.mem_append_right _ (List.mem_append_left _ h))))), g⟩)
theorem gT_6 : ∀ w ∈ tables_1_6, goodWord w = true → w ∈ ce_GW := fun w h g => ce_inF (List.mem_filter.mpr ⟨List.mem_append_right _ (List.mem_append_right _ (List.mem_append_right _ (List.mem_append_right _ (List.mem_append_right _ (List.mem_append_right _ (List.mem_append_left _ h)))))), g⟩)
theorem gT_7 : ∀ w ∈ tables_1_7, goodWord w = true → w ∈ ce_GW := fun w h g => ce_inF (List.mem_filter.mpr ⟨List.mem_append_right _ (List.mem_append_right _ (List.mem_append_right _ (List.mem_append_right _ (List.mem_append_right _ (List.mem_append_right _ (List.mem_append_right _ (List.mem_append_left _ h))))))), g⟩)
theorem gT_8 : ∀ w ∈ tables_1_8, goodWord w = true → w ∈ ce_GW := fun w h g => ce_inF (List.mem_filter.mpr ⟨List.mem_append_right _ (List.mem_append_right _ (List.mem_append_right _ (List.mem_append_right _ (List.mem_append_right _ (List.mem_append_right _ (List.mem_append_right _ (List.mem_append_right _ (List.mem_append_left _ h)))))))), g⟩)
theorem gT_9 : ∀ w ∈ tables_1_9, goodWord w = true → w ∈ ce_GW := fun w h g => ce_inF (List.mem_filter.mpr ⟨List.mem_append_right _ (List.mem_append_right _ (List.mem_append_right _ (List.mem_append_right _ (List.mem_append_right _ (List.mem_append_right _ (List.mem_append_right _ (List.mem_append_right _ (List.mem_append_right _ (List.mem_append_left _ h))))))))), g⟩)
theorem gT_10 : ∀ w ∈ tables_1_10, goodWord w = true → w ∈ ce_GW := fun w h g => ce_inF (List.mem_filter.mpr ⟨List.mem_append_right _ (List.mem_append_right _ (List.mem_append_right _ (List.mem_append_right _ (List.mem_append_right _ (List.mem_append_right _ (List.mem_append_right _ (List.mem_append_right _ (List.mem_append_right _ (List.mem_append_right _ (List.mem_append_left _ h)))))))))), g⟩)
theorem gT_11 : ∀ w ∈ tables_1_11, goodWord w = true → w ∈ ce_GW := fun w h g => ce_inF (List.mem_filter.mpr ⟨List.mem_append_right _ (List.mem_append_right _ (List.mem_append_right _ (List.mem_append_right _ (List.mem_append_right _ (List.mem_append_right _ (List.mem_append_right _ (List.mem_append_right _ (List.mem_append_right _ (List.mem_append_right _ (List.mem_append_right _ (List.mem_append_left _ h))))))))))), g⟩)
theorem gT_12 : ∀ w ∈ tables_1_12, goodWord w = true → w ∈ ce_GW := fun w h g => ce_inF (List.mem_filter.mpr ⟨List.mem_append_right _ (List.mem_append_right _ (List.mem_append_right _ (List.mem_append_right _ (List.mem_append_right _ (List.mem_append_right _ (List.mem_append_right _ (List.mem_append_right _ (List.mem_append_right _ (List.mem_append_right _ (List.mem_append_right _ (List.mem_append_right _ (List.mem_append_left _ h)))))))))))), g⟩)
theorem gT_13 : ∀ w ∈ tables_1_13, goodWord w = true → w ∈ ce_GW := fun w h g => ce_inF (List.mem_filter.mpr ⟨List.mem_append_right _ (List.mem_append_right _ (List.mem_append_right _ (List.mem_append_right _ (List.mem_append_right _ (List.mem_append_right _ (List.mem_append_right _ (List.mem_append_right _ (List.mem_append_right _ (List.mem_append_right _ (List.mem_append_right _ (List.mem_append_right _ (List.mem_append_right _ (h))))))))))))), g⟩)
theorem gp_1 : Cond.selects "Carcasswright" ⟨"Carcasswright", "moduleWithPart", "(II)LCarcasswright$PlacedModule;"⟩ ⟨"Carcasswright", "moduleWithPart", "(II)LCarcasswright$PlacedModule;"⟩ ∈ ce_GW := gT_P _ (List.mem_of_getElem? (i := 1) rfl) rfl
theorem gp_4 : Cond.selects "java/util/ArrayList" ⟨"java/util/ArrayList", "add", "(Ljava/lang/Object;[Ljava/lang/Object;I)V"⟩ ⟨"java/util/ArrayList", "add", "(Ljava/lang/Object;[Ljava/lang/Object;I)V"⟩ ∈ ce_GW := gT_P _ (List.mem_of_getElem? (i := 4) rfl) rfl
theorem gp_5 : Cond.selects "java/util/ArrayList" ⟨"java/util/ArrayList", "grow", "()[Ljava/lang/Object;"⟩ ⟨"java/util/ArrayList", "grow", "()[Ljava/lang/Object;"⟩ ∈ ce_GW := gT_P _ (List.mem_of_getElem? (i := 5) rfl) rfl
theorem gp_6 : Cond.selects "java/util/ArrayList" ⟨"java/util/ArrayList", "grow", "(I)[Ljava/lang/Object;"⟩ ⟨"java/util/ArrayList", "grow", "(I)[Ljava/lang/Object;"⟩ ∈ ce_GW := gT_P _ (List.mem_of_getElem? (i := 6) rfl) rfl
theorem gp_9 : Cond.selects "CarcasswrightModel" ⟨"CarcasswrightModel", "raises", "(I)I"⟩ ⟨"CarcasswrightModel", "raises", "(I)I"⟩ ∈ ce_GW := gT_P _ (List.mem_of_getElem? (i := 9) rfl) rfl
theorem gp_11 : Cond.selects "CarcasswrightModel" ⟨"CarcasswrightModel", "noWall", "(I)Z"⟩ ⟨"CarcasswrightModel", "noWall", "(I)Z"⟩ ∈ ce_GW := gT_P _ (List.mem_of_getElem? (i := 11) rfl) rfl
theorem gp_13 : Cond.selects "CarcasswrightModel" ⟨"CarcasswrightModel", "reads", "()V"⟩ ⟨"CarcasswrightModel", "reads", "()V"⟩ ∈ ce_GW := gT_P _ (List.mem_of_getElem? (i := 13) rfl) rfl
theorem gp_15 : Cond.selects "CarcasswrightModel" ⟨"CarcasswrightModel", "faults", "(CI)V"⟩ ⟨"CarcasswrightModel", "faults", "(CI)V"⟩ ∈ ce_GW := gT_P _ (List.mem_of_getElem? (i := 15) rfl) rfl
theorem gp_17 : Cond.selects "CarcasswrightModel" ⟨"CarcasswrightModel", "isType", "(I)Z"⟩ ⟨"CarcasswrightModel", "isType", "(I)Z"⟩ ∈ ce_GW := gT_P _ (List.mem_of_getElem? (i := 17) rfl) rfl
theorem gp_21 : Cond.selects "CarcasswrightModel" ⟨"CarcasswrightModel", "noModule", "(I)Z"⟩ ⟨"CarcasswrightModel", "noModule", "(I)Z"⟩ ∈ ce_GW := gT_P _ (List.mem_of_getElem? (i := 21) rfl) rfl
theorem gp_24 : Cond.selects "CarcasswrightModel" ⟨"CarcasswrightModel", "part", "(II)LCarcasswrightModel$Part;"⟩ ⟨"CarcasswrightModel", "part", "(II)LCarcasswrightModel$Part;"⟩ ∈ ce_GW := gT_P _ (List.mem_of_getElem? (i := 24) rfl) rfl
theorem gp_29 : Cond.selects "CarcasswrightModel" ⟨"CarcasswrightModel", "orders", "()V"⟩ ⟨"CarcasswrightModel", "orders", "()V"⟩ ∈ ce_GW := gT_P _ (List.mem_of_getElem? (i := 29) rfl) rfl
theorem gp_30 : Cond.selects "CarcasswrightModel" ⟨"CarcasswrightModel", "tries", "([IIIII)V"⟩ ⟨"CarcasswrightModel", "tries", "([IIIII)V"⟩ ∈ ce_GW := gT_P _ (List.mem_of_getElem? (i := 30) rfl) rfl
theorem gp_31 : Cond.selects "CarcasswrightModel" ⟨"CarcasswrightModel", "stocked", "()J"⟩ ⟨"CarcasswrightModel", "stocked", "()J"⟩ ∈ ce_GW := gT_P _ (List.mem_of_getElem? (i := 31) rfl) rfl
theorem gp_32 : Cond.selects "CarcasswrightModel" ⟨"CarcasswrightModel", "cutArea", "()J"⟩ ⟨"CarcasswrightModel", "cutArea", "()J"⟩ ∈ ce_GW := gT_P _ (List.mem_of_getElem? (i := 32) rfl) rfl
theorem gw_0 : Cond.initialized "CarcasswrightLaw" ∈ ce_GW := gT_1 _ (List.mem_of_getElem? (i := 0) rfl) rfl
theorem gw_1 : Cond.initialized "Carcasswright" ∈ ce_GW := gT_1 _ (List.mem_of_getElem? (i := 1) rfl) rfl
theorem gw_2 : Cond.initialized "Carcasswright$Types" ∈ ce_GW := gT_1 _ (List.mem_of_getElem? (i := 2) rfl) rfl
theorem gw_3 : Cond.initialized "Carcasswright$ModuleType" ∈ ce_GW := gT_1 _ (List.mem_of_getElem? (i := 3) rfl) rfl
theorem gw_4 : Cond.initialized "Carcasswright$Room" ∈ ce_GW := gT_1 _ (List.mem_of_getElem? (i := 4) rfl) rfl
theorem gw_5 : Cond.initialized "Carcasswright$Wall" ∈ ce_GW := gT_1 _ (List.mem_of_getElem? (i := 5) rfl) rfl
theorem gw_6 : Cond.initialized "Carcasswright$Obstacle" ∈ ce_GW := gT_1 _ (List.mem_of_getElem? (i := 6) rfl) rfl
theorem gw_7 : Cond.initialized "Carcasswright$PlacedModule" ∈ ce_GW := gT_1 _ (List.mem_of_getElem? (i := 7) rfl) rfl
theorem gw_8 : Cond.initialized "Carcasswright$Stock" ∈ ce_GW := gT_1 _ (List.mem_of_getElem? (i := 8) rfl) rfl
theorem gw_9 : Cond.initialized "Carcasswright$Board" ∈ ce_GW := gT_1 _ (List.mem_of_getElem? (i := 9) rfl) rfl
theorem gw_10 : Cond.initialized "Carcasswright$Saw" ∈ ce_GW := gT_1 _ (List.mem_of_getElem? (i := 10) rfl) rfl
theorem gw_11 : Cond.initialized "Carcasswright$Packer" ∈ ce_GW := gT_1 _ (List.mem_of_getElem? (i := 11) rfl) rfl
theorem gw_12 : Cond.initialized "Carcasswright$Jobs" ∈ ce_GW := gT_1 _ (List.mem_of_getElem? (i := 12) rfl) rfl
theorem gw_13 : Cond.initialized "CarcasswrightModel" ∈ ce_GW := gT_1 _ (List.mem_of_getElem? (i := 13) rfl) rfl
theorem gw_14 : Cond.initialized "java/util/AbstractCollection" ∈ ce_GW := gT_1 _ (List.mem_of_getElem? (i := 14) rfl) rfl
theorem gw_15 : Cond.initialized "java/util/AbstractList" ∈ ce_GW := gT_1 _ (List.mem_of_getElem? (i := 15) rfl) rfl
theorem gw_16 : Cond.initialized "java/util/ArrayList" ∈ ce_GW := gT_1 _ (List.mem_of_getElem? (i := 16) rfl) rfl
theorem gw_20 : Cond.initialized "java/lang/IllegalArgumentException" ∈ ce_GW := gT_1 _ (List.mem_of_getElem? (i := 20) rfl) rfl
theorem gw_22 : Cond.initialized "java/lang/IndexOutOfBoundsException" ∈ ce_GW := gT_1 _ (List.mem_of_getElem? (i := 22) rfl) rfl
theorem gw_23 : Cond.initialized "java/lang/String" ∈ ce_GW := gT_1 _ (List.mem_of_getElem? (i := 23) rfl) rfl
theorem gw_24 : Cond.initialized "java/lang/StringLatin1" ∈ ce_GW := gT_1 _ (List.mem_of_getElem? (i := 24) rfl) rfl
theorem gw_25 : Cond.initialized "java/lang/Math" ∈ ce_GW := gT_1 _ (List.mem_of_getElem? (i := 25) rfl) rfl
theorem gw_26 : Cond.initialized "java/lang/StringUTF16" ∈ ce_GW := gT_1 _ (List.mem_of_getElem? (i := 26) rfl) rfl
theorem gw_27 : Cond.initialized "jdk/internal/util/Preconditions" ∈ ce_GW := gT_1 _ (List.mem_of_getElem? (i := 27) rfl) rfl
theorem gw_29 : Cond.initialized "CarcasswrightModel$Wall" ∈ ce_GW := gT_1 _ (List.mem_of_getElem? (i := 29) rfl) rfl
theorem gw_30 : Cond.initialized "jdk/internal/util/ArraysSupport" ∈ ce_GW := gT_1 _ (List.mem_of_getElem? (i := 30) rfl) rfl
theorem gw_31 : Cond.initialized "java/util/Arrays" ∈ ce_GW := gT_1 _ (List.mem_of_getElem? (i := 31) rfl) rfl
theorem gw_32 : Cond.initialized "java/lang/System" ∈ ce_GW := gT_1 _ (List.mem_of_getElem? (i := 32) rfl) rfl
theorem gw_33 : Cond.initialized "java/lang/UnsupportedOperationException" ∈ ce_GW := gT_1 _ (List.mem_of_getElem? (i := 33) rfl) rfl
theorem gw_34 : Cond.initialized "java/util/ArrayList$Itr" ∈ ce_GW := gT_1 _ (List.mem_of_getElem? (i := 34) rfl) rfl
theorem gw_35 : Cond.initialized "java/util/NoSuchElementException" ∈ ce_GW := gT_1 _ (List.mem_of_getElem? (i := 35) rfl) rfl
theorem gw_38 : Cond.initialized "java/lang/AbstractStringBuilder" ∈ ce_GW := gT_1 _ (List.mem_of_getElem? (i := 38) rfl) rfl
theorem gw_39 : Cond.initialized "java/lang/StringBuilder" ∈ ce_GW := gT_1 _ (List.mem_of_getElem? (i := 39) rfl) rfl
theorem gw_42 : Cond.initialized "CarcasswrightModel$Type" ∈ ce_GW := gT_1 _ (List.mem_of_getElem? (i := 42) rfl) rfl
theorem gw_47 : Cond.initialized "CarcasswrightModel$Board" ∈ ce_GW := gT_1 _ (List.mem_of_getElem? (i := 47) rfl) rfl
theorem gw_50 : Cond.initialized "CarcasswrightModel$Job" ∈ ce_GW := gT_1 _ (List.mem_of_getElem? (i := 50) rfl) rfl
theorem gw_51 : Cond.classLink "CarcasswrightLaw" 8 "Carcasswright" ∈ ce_GW := gT_1 _ (List.mem_of_getElem? (i := 51) rfl) rfl
theorem gw_52 : Cond.instantiable "Carcasswright" 7 ∈ ce_GW := gT_1 _ (List.mem_of_getElem? (i := 52) rfl) rfl
theorem gw_53 : Cond.methodLink "CarcasswrightLaw" 170 ⟨"Carcasswright", "<init>", "()V"⟩ ∈ ce_GW := gT_1 _ (List.mem_of_getElem? (i := 53) rfl) rfl
theorem gw_54 : Cond.instanceMethod ⟨"Carcasswright", "<init>", "()V"⟩ ∈ ce_GW := gT_1 _ (List.mem_of_getElem? (i := 54) rfl) rfl
theorem gw_55 : Cond.code ⟨"Carcasswright", "<init>", "()V"⟩ prog_1_method_1_code 1 Option.none ∈ ce_GW := gT_1 _ (List.mem_of_getElem? (i := 55) rfl) rfl
theorem gw_56 : Cond.methodLink "Carcasswright" 1 ⟨"java/lang/Object", "<init>", "()V"⟩ ∈ ce_GW := gT_1 _ (List.mem_of_getElem? (i := 56) rfl) rfl
theorem gw_57 : Cond.instanceMethod ⟨"java/lang/Object", "<init>", "()V"⟩ ∈ ce_GW := gT_1 _ (List.mem_of_getElem? (i := 57) rfl) rfl
theorem gw_58 : Cond.code ⟨"java/lang/Object", "<init>", "()V"⟩ object_method_1_code 1 Option.none ∈ ce_GW := gT_1 _ (List.mem_of_getElem? (i := 58) rfl) rfl
theorem gw_59 : Cond.classLink "Carcasswright" 7 "Carcasswright$Types" ∈ ce_GW := gT_1 _ (List.mem_of_getElem? (i := 59) rfl) rfl
theorem gw_60 : Cond.instantiable "Carcasswright$Types" 10 ∈ ce_GW := gT_1 _ (List.mem_of_getElem? (i := 60) rfl) rfl
theorem gw_61 : Cond.methodLink "Carcasswright" 9 ⟨"Carcasswright$Types", "<init>", "()V"⟩ ∈ ce_GW := gT_1 _ (List.mem_of_getElem? (i := 61) rfl) rfl
theorem gw_62 : Cond.instanceMethod ⟨"Carcasswright$Types", "<init>", "()V"⟩ ∈ ce_GW := gT_1 _ (List.mem_of_getElem? (i := 62) rfl) rfl
theorem gw_63 : Cond.code ⟨"Carcasswright$Types", "<init>", "()V"⟩ prog_11_method_1_code 2 Option.none ∈ ce_GW := gT_1 _ (List.mem_of_getElem? (i := 63) rfl) rfl
theorem gw_64 : Cond.methodLink "Carcasswright$Types" 1 ⟨"java/lang/Object", "<init>", "()V"⟩ ∈ ce_GW := gT_1 _ (List.mem_of_getElem? (i := 64) rfl) rfl
theorem gw_65 : Cond.classLink "Carcasswright$Types" 13 "Carcasswright$ModuleType" ∈ ce_GW := gT_1 _ (List.mem_of_getElem? (i := 65) rfl) rfl
theorem gw_67 : Cond.instantiable "Carcasswright$ModuleType" 9 ∈ ce_GW := gT_1 _ (List.mem_of_getElem? (i := 67) rfl) rfl
theorem gw_69 : Cond.instanceMethod ⟨"Carcasswright$ModuleType", "<init>", "()V"⟩ ∈ ce_GW := gT_1 _ (List.mem_of_getElem? (i := 69) rfl) rfl
theorem gw_70 : Cond.code ⟨"Carcasswright$ModuleType", "<init>", "()V"⟩ prog_4_method_1_code 1 Option.none ∈ ce_GW := gT_1 _ (List.mem_of_getElem? (i := 70) rfl) rfl
theorem gw_71 : Cond.methodLink "Carcasswright$ModuleType" 1 ⟨"java/lang/Object", "<init>", "()V"⟩ ∈ ce_GW := gT_1 _ (List.mem_of_getElem? (i := 71) rfl) rfl
theorem gw_72 : Cond.fieldLink "Carcasswright$ModuleType" 7 "Carcasswright$ModuleType" "body" "C" ∈ ce_GW := gT_1 _ (List.mem_of_getElem? (i := 72) rfl) rfl
theorem gw_74 : Cond.fieldLink "Carcasswright$ModuleType" 13 "Carcasswright$ModuleType" "high" "I" ∈ ce_GW := gT_1 _ (List.mem_of_getElem? (i := 74) rfl) rfl
theorem gw_76 : Cond.fieldLink "Carcasswright$ModuleType" 17 "Carcasswright$ModuleType" "deep" "I" ∈ ce_GW := gT_1 _ (List.mem_of_getElem? (i := 76) rfl) rfl
theorem gw_78 : Cond.fieldLink "Carcasswright$ModuleType" 20 "Carcasswright$ModuleType" "lowest" "I" ∈ ce_GW := gT_1 _ (List.mem_of_getElem? (i := 78) rfl) rfl
theorem gw_81 : Cond.fieldLink "Carcasswright$ModuleType" 23 "Carcasswright$ModuleType" "highest" "I" ∈ ce_GW := gT_1 _ (List.mem_of_getElem? (i := 81) rfl) rfl
theorem gw_83 : Cond.fieldLink "Carcasswright$ModuleType" 26 "Carcasswright$ModuleType" "width" "I" ∈ ce_GW := gT_1 _ (List.mem_of_getElem? (i := 83) rfl) rfl
theorem gw_87 : Cond.fieldLink "Carcasswright$ModuleType" 29 "Carcasswright$ModuleType" "doors" "I" ∈ ce_GW := gT_1 _ (List.mem_of_getElem? (i := 87) rfl) rfl
theorem gw_90 : Cond.fieldLink "Carcasswright$ModuleType" 32 "Carcasswright$ModuleType" "shelves" "I" ∈ ce_GW := gT_1 _ (List.mem_of_getElem? (i := 90) rfl) rfl
theorem gw_92 : Cond.fieldLink "Carcasswright$ModuleType" 35 "Carcasswright$ModuleType" "drawers" "I" ∈ ce_GW := gT_1 _ (List.mem_of_getElem? (i := 92) rfl) rfl
theorem gw_113 : Cond.arrayClass Jvm.ClassFile.FieldType.char ∈ ce_GW := gT_1 _ (List.mem_of_getElem? (i := 113) rfl) rfl
theorem gw_114 : Cond.fieldLink "Carcasswright$Types" 9 "Carcasswright$Types" "signs" "[C" ∈ ce_GW := gT_1 _ (List.mem_of_getElem? (i := 114) rfl) rfl
theorem gw_115 : Cond.fieldLink "Carcasswright$Types" 15 "Carcasswright$Types" "types" "[LCarcasswright$ModuleType;" ∈ ce_GW := gT_1 _ (List.mem_of_getElem? (i := 115) rfl) rfl
theorem gw_116 : Cond.fieldLink "Carcasswright$Types" 20 "Carcasswright$Types" "draft" "LCarcasswright$ModuleType;" ∈ ce_GW := gT_1 _ (List.mem_of_getElem? (i := 116) rfl) rfl
theorem gw_117 : Cond.fieldLink "Carcasswright$Types" 31 "Carcasswright$Types" "signCount" "I" ∈ ce_GW := gT_1 _ (List.mem_of_getElem? (i := 117) rfl) rfl
theorem gw_118 : Cond.fieldLink "Carcasswright" 132 "Carcasswright$Types" "signCount" "I" ∈ ce_GW := gT_1 _ (List.mem_of_getElem? (i := 118) rfl) rfl
theorem gw_119 : Cond.fieldLink "Carcasswright$Types" 24 "Carcasswright$Types" "typeCount" "I" ∈ ce_GW := gT_1 _ (List.mem_of_getElem? (i := 119) rfl) rfl
theorem gw_121 : Cond.fieldLink "Carcasswright$Types" 75 "Carcasswright$Types" "faultPlace" "I" ∈ ce_GW := gT_1 _ (List.mem_of_getElem? (i := 121) rfl) rfl
theorem gw_122 : Cond.fieldLink "Carcasswright" 152 "Carcasswright$Types" "faultPlace" "I" ∈ ce_GW := gT_1 _ (List.mem_of_getElem? (i := 122) rfl) rfl
theorem gw_123 : Cond.fieldLink "Carcasswright$Types" 78 "Carcasswright$Types" "faultLetter" "C" ∈ ce_GW := gT_1 _ (List.mem_of_getElem? (i := 123) rfl) rfl
theorem gw_124 : Cond.fieldLink "Carcasswright" 155 "Carcasswright$Types" "faultLetter" "C" ∈ ce_GW := gT_1 _ (List.mem_of_getElem? (i := 124) rfl) rfl
theorem gw_125 : Cond.fieldLink "Carcasswright$Types" 46 "Carcasswright$Types" "awaited" "C" ∈ ce_GW := gT_1 _ (List.mem_of_getElem? (i := 125) rfl) rfl
theorem gw_126 : Cond.fieldLink "Carcasswright$Types" 54 "Carcasswright$Types" "item" "C" ∈ ce_GW := gT_1 _ (List.mem_of_getElem? (i := 126) rfl) rfl
theorem gw_127 : Cond.fieldLink "Carcasswright$Types" 57 "Carcasswright$Types" "digits" "I" ∈ ce_GW := gT_1 _ (List.mem_of_getElem? (i := 127) rfl) rfl
theorem gw_149 : Cond.classLink "Carcasswright" 16 "Carcasswright$Room" ∈ ce_GW := gT_1 _ (List.mem_of_getElem? (i := 149) rfl) rfl
theorem gw_150 : Cond.instantiable "Carcasswright$Room" 10 ∈ ce_GW := gT_1 _ (List.mem_of_getElem? (i := 150) rfl) rfl
theorem gw_151 : Cond.methodLink "Carcasswright" 18 ⟨"Carcasswright$Types", "first", "()LCarcasswright$ModuleType;"⟩ ∈ ce_GW := gT_1 _ (List.mem_of_getElem? (i := 151) rfl) rfl
theorem gw_152 : Cond.instanceMethod ⟨"Carcasswright$Types", "first", "()LCarcasswright$ModuleType;"⟩ ∈ ce_GW := gT_1 _ (List.mem_of_getElem? (i := 152) rfl) rfl
theorem gw_153 : Cond.selects "Carcasswright$Types" ⟨"Carcasswright$Types", "first", "()LCarcasswright$ModuleType;"⟩ ⟨"Carcasswright$Types", "first", "()LCarcasswright$ModuleType;"⟩ ∈ ce_GW := gT_1 _ (List.mem_of_getElem? (i := 153) rfl) rfl
theorem gw_154 : Cond.code ⟨"Carcasswright$Types", "first", "()LCarcasswright$ModuleType;"⟩ prog_11_method_2_code 1 (Option.some (Jvm.ClassFile.FieldType.object "Carcasswright$ModuleType")) ∈ ce_GW := gT_1 _ (List.mem_of_getElem? (i := 154) rfl) rfl
theorem gw_155 : Cond.methodLink "Carcasswright" 22 ⟨"Carcasswright$Room", "<init>", "(LCarcasswright$ModuleType;)V"⟩ ∈ ce_GW := gT_1 _ (List.mem_of_getElem? (i := 155) rfl) rfl
theorem gw_156 : Cond.instanceMethod ⟨"Carcasswright$Room", "<init>", "(LCarcasswright$ModuleType;)V"⟩ ∈ ce_GW := gT_1 _ (List.mem_of_getElem? (i := 156) rfl) rfl
theorem gw_157 : Cond.code ⟨"Carcasswright$Room", "<init>", "(LCarcasswright$ModuleType;)V"⟩ prog_8_method_1_code 3 Option.none ∈ ce_GW := gT_1 _ (List.mem_of_getElem? (i := 157) rfl) rfl
theorem gw_158 : Cond.methodLink "Carcasswright$Room" 1 ⟨"java/lang/Object", "<init>", "()V"⟩ ∈ ce_GW := gT_1 _ (List.mem_of_getElem? (i := 158) rfl) rfl
theorem gw_159 : Cond.classLink "Carcasswright$Room" 9 "Carcasswright$Wall" ∈ ce_GW := gT_1 _ (List.mem_of_getElem? (i := 159) rfl) rfl
theorem gw_161 : Cond.classLink "Carcasswright$Room" 15 "Carcasswright$Obstacle" ∈ ce_GW := gT_1 _ (List.mem_of_getElem? (i := 161) rfl) rfl
theorem gw_163 : Cond.classLink "Carcasswright$Room" 21 "Carcasswright$PlacedModule" ∈ ce_GW := gT_1 _ (List.mem_of_getElem? (i := 163) rfl) rfl
theorem gw_165 : Cond.instantiable "Carcasswright$Wall" 6 ∈ ce_GW := gT_1 _ (List.mem_of_getElem? (i := 165) rfl) rfl
theorem gw_167 : Cond.instanceMethod ⟨"Carcasswright$Wall", "<init>", "()V"⟩ ∈ ce_GW := gT_1 _ (List.mem_of_getElem? (i := 167) rfl) rfl
theorem gw_168 : Cond.code ⟨"Carcasswright$Wall", "<init>", "()V"⟩ prog_12_method_1_code 1 Option.none ∈ ce_GW := gT_1 _ (List.mem_of_getElem? (i := 168) rfl) rfl
theorem gw_169 : Cond.methodLink "Carcasswright$Wall" 1 ⟨"java/lang/Object", "<init>", "()V"⟩ ∈ ce_GW := gT_1 _ (List.mem_of_getElem? (i := 169) rfl) rfl
theorem gw_170 : Cond.fieldLink "Carcasswright$Wall" 7 "Carcasswright$Wall" "way" "C" ∈ ce_GW := gT_1 _ (List.mem_of_getElem? (i := 170) rfl) rfl
theorem gw_171 : Cond.fieldLink "Carcasswright$Room" 58 "Carcasswright$Wall" "way" "C" ∈ ce_GW := gT_1 _ (List.mem_of_getElem? (i := 171) rfl) rfl
theorem gw_172 : Cond.fieldLink "Carcasswright$Room" 62 "Carcasswright$Wall" "measured" "I" ∈ ce_GW := gT_1 _ (List.mem_of_getElem? (i := 172) rfl) rfl
theorem gw_174 : Cond.fieldLink "Carcasswright$Room" 65 "Carcasswright$Wall" "length" "I" ∈ ce_GW := gT_1 _ (List.mem_of_getElem? (i := 174) rfl) rfl
theorem gw_193 : Cond.arrayClass Jvm.ClassFile.FieldType.int ∈ ce_GW := gT_1 _ (List.mem_of_getElem? (i := 193) rfl) rfl
theorem gw_194 : Cond.instantiable "Carcasswright$Obstacle" 5 ∈ ce_GW := gT_1 _ (List.mem_of_getElem? (i := 194) rfl) rfl
theorem gw_196 : Cond.instanceMethod ⟨"Carcasswright$Obstacle", "<init>", "()V"⟩ ∈ ce_GW := gT_1 _ (List.mem_of_getElem? (i := 196) rfl) rfl
theorem gw_197 : Cond.code ⟨"Carcasswright$Obstacle", "<init>", "()V"⟩ prog_5_method_1_code 1 Option.none ∈ ce_GW := gT_1 _ (List.mem_of_getElem? (i := 197) rfl) rfl
theorem gw_198 : Cond.methodLink "Carcasswright$Obstacle" 1 ⟨"java/lang/Object", "<init>", "()V"⟩ ∈ ce_GW := gT_1 _ (List.mem_of_getElem? (i := 198) rfl) rfl
theorem gw_215 : Cond.instantiable "Carcasswright$PlacedModule" 5 ∈ ce_GW := gT_1 _ (List.mem_of_getElem? (i := 215) rfl) rfl
theorem gw_216 : Cond.methodLink "Carcasswright$Room" 37 ⟨"Carcasswright$PlacedModule", "<init>", "(LCarcasswright$ModuleType;)V"⟩ ∈ ce_GW := gT_1 _ (List.mem_of_getElem? (i := 216) rfl) rfl
theorem gw_217 : Cond.instanceMethod ⟨"Carcasswright$PlacedModule", "<init>", "(LCarcasswright$ModuleType;)V"⟩ ∈ ce_GW := gT_1 _ (List.mem_of_getElem? (i := 217) rfl) rfl
theorem gw_218 : Cond.code ⟨"Carcasswright$PlacedModule", "<init>", "(LCarcasswright$ModuleType;)V"⟩ prog_7_method_1_code 2 Option.none ∈ ce_GW := gT_1 _ (List.mem_of_getElem? (i := 218) rfl) rfl
theorem gw_219 : Cond.methodLink "Carcasswright$PlacedModule" 1 ⟨"java/lang/Object", "<init>", "()V"⟩ ∈ ce_GW := gT_1 _ (List.mem_of_getElem? (i := 219) rfl) rfl
theorem gw_220 : Cond.fieldLink "Carcasswright$PlacedModule" 7 "Carcasswright$PlacedModule" "type" "LCarcasswright$ModuleType;" ∈ ce_GW := gT_1 _ (List.mem_of_getElem? (i := 220) rfl) rfl
theorem gw_247 : Cond.fieldLink "Carcasswright$Room" 11 "Carcasswright$Room" "walls" "[LCarcasswright$Wall;" ∈ ce_GW := gT_2 _ (List.mem_of_getElem? (i := 7) rfl) rfl
theorem gw_248 : Cond.fieldLink "Carcasswright$Room" 17 "Carcasswright$Room" "obstacles" "[LCarcasswright$Obstacle;" ∈ ce_GW := gT_2 _ (List.mem_of_getElem? (i := 8) rfl) rfl
theorem gw_249 : Cond.fieldLink "Carcasswright$Room" 23 "Carcasswright$Room" "modules" "[LCarcasswright$PlacedModule;" ∈ ce_GW := gT_2 _ (List.mem_of_getElem? (i := 9) rfl) rfl
theorem gw_250 : Cond.fieldLink "Carcasswright$Room" 40 "Carcasswright$Room" "trial" "LCarcasswright$PlacedModule;" ∈ ce_GW := gT_2 _ (List.mem_of_getElem? (i := 10) rfl) rfl
theorem gw_251 : Cond.fieldLink "Carcasswright$Room" 27 "Carcasswright$Room" "causes" "[C" ∈ ce_GW := gT_2 _ (List.mem_of_getElem? (i := 11) rfl) rfl
theorem gw_253 : Cond.fieldLink "Carcasswright$Room" 31 "Carcasswright$Room" "causeNumbers" "[I" ∈ ce_GW := gT_2 _ (List.mem_of_getElem? (i := 13) rfl) rfl
theorem gw_255 : Cond.fieldLink "Carcasswright$Room" 44 "Carcasswright$Room" "wallCount" "I" ∈ ce_GW := gT_2 _ (List.mem_of_getElem? (i := 15) rfl) rfl
theorem gw_256 : Cond.fieldLink "Carcasswright" 70 "Carcasswright$Room" "wallCount" "I" ∈ ce_GW := gT_2 _ (List.mem_of_getElem? (i := 16) rfl) rfl
theorem gw_259 : Cond.fieldLink "Carcasswright" 74 "Carcasswright$Room" "moduleCount" "I" ∈ ce_GW := gT_2 _ (List.mem_of_getElem? (i := 19) rfl) rfl
theorem gw_260 : Cond.fieldLink "Carcasswright$Room" 51 "Carcasswright$Room" "moduleCount" "I" ∈ ce_GW := gT_2 _ (List.mem_of_getElem? (i := 20) rfl) rfl
theorem gw_262 : Cond.fieldLink "Carcasswright" 235 "Carcasswright$Room" "causeCount" "I" ∈ ce_GW := gT_2 _ (List.mem_of_getElem? (i := 22) rfl) rfl
theorem gw_284 : Cond.classLink "Carcasswright" 29 "Carcasswright$Stock" ∈ ce_GW := gT_2 _ (List.mem_of_getElem? (i := 44) rfl) rfl
theorem gw_285 : Cond.instantiable "Carcasswright$Stock" 5 ∈ ce_GW := gT_2 _ (List.mem_of_getElem? (i := 45) rfl) rfl
theorem gw_286 : Cond.methodLink "Carcasswright" 31 ⟨"Carcasswright$Stock", "<init>", "()V"⟩ ∈ ce_GW := gT_2 _ (List.mem_of_getElem? (i := 46) rfl) rfl
theorem gw_287 : Cond.instanceMethod ⟨"Carcasswright$Stock", "<init>", "()V"⟩ ∈ ce_GW := gT_2 _ (List.mem_of_getElem? (i := 47) rfl) rfl
theorem gw_288 : Cond.code ⟨"Carcasswright$Stock", "<init>", "()V"⟩ prog_10_method_1_code 2 Option.none ∈ ce_GW := gT_2 _ (List.mem_of_getElem? (i := 48) rfl) rfl
theorem gw_289 : Cond.methodLink "Carcasswright$Stock" 1 ⟨"java/lang/Object", "<init>", "()V"⟩ ∈ ce_GW := gT_2 _ (List.mem_of_getElem? (i := 49) rfl) rfl
theorem gw_290 : Cond.classLink "Carcasswright$Stock" 9 "Carcasswright$Board" ∈ ce_GW := gT_2 _ (List.mem_of_getElem? (i := 50) rfl) rfl
theorem gw_292 : Cond.instantiable "Carcasswright$Board" 7 ∈ ce_GW := gT_2 _ (List.mem_of_getElem? (i := 52) rfl) rfl
theorem gw_294 : Cond.instanceMethod ⟨"Carcasswright$Board", "<init>", "()V"⟩ ∈ ce_GW := gT_2 _ (List.mem_of_getElem? (i := 54) rfl) rfl
theorem gw_295 : Cond.code ⟨"Carcasswright$Board", "<init>", "()V"⟩ prog_2_method_1_code 1 Option.none ∈ ce_GW := gT_2 _ (List.mem_of_getElem? (i := 55) rfl) rfl
theorem gw_296 : Cond.methodLink "Carcasswright$Board" 3 ⟨"java/lang/Object", "<init>", "()V"⟩ ∈ ce_GW := gT_2 _ (List.mem_of_getElem? (i := 56) rfl) rfl
theorem gw_297 : Cond.fieldLink "Carcasswright$Board" 9 "Carcasswright$Board" "colour" "I" ∈ ce_GW := gT_2 _ (List.mem_of_getElem? (i := 57) rfl) rfl
theorem gw_300 : Cond.fieldLink "Carcasswright$Board" 15 "Carcasswright$Board" "thick" "I" ∈ ce_GW := gT_2 _ (List.mem_of_getElem? (i := 60) rfl) rfl
theorem gw_303 : Cond.fieldLink "Carcasswright$Board" 18 "Carcasswright$Board" "length" "I" ∈ ce_GW := gT_2 _ (List.mem_of_getElem? (i := 63) rfl) rfl
theorem gw_307 : Cond.fieldLink "Carcasswright$Board" 21 "Carcasswright$Board" "width" "I" ∈ ce_GW := gT_2 _ (List.mem_of_getElem? (i := 67) rfl) rfl
theorem gw_311 : Cond.fieldLink "Carcasswright$Stock" 27 "Carcasswright$Board" "isOffcut" "Z" ∈ ce_GW := gT_2 _ (List.mem_of_getElem? (i := 71) rfl) rfl
theorem gw_312 : Cond.fieldLink "Carcasswright$Stock" 31 "Carcasswright$Board" "isOpened" "Z" ∈ ce_GW := gT_2 _ (List.mem_of_getElem? (i := 72) rfl) rfl
theorem gw_314 : Cond.fieldLink "Carcasswright$Stock" 34 "Carcasswright$Board" "stripsEnd" "I" ∈ ce_GW := gT_2 _ (List.mem_of_getElem? (i := 74) rfl) rfl
theorem gw_332 : Cond.fieldLink "Carcasswright$Stock" 11 "Carcasswright$Stock" "boards" "[LCarcasswright$Board;" ∈ ce_GW := gT_2 _ (List.mem_of_getElem? (i := 92) rfl) rfl
theorem gw_333 : Cond.fieldLink "Carcasswright$Stock" 16 "Carcasswright$Stock" "count" "I" ∈ ce_GW := gT_2 _ (List.mem_of_getElem? (i := 93) rfl) rfl
theorem gw_334 : Cond.fieldLink "Carcasswright" 299 "Carcasswright$Stock" "count" "I" ∈ ce_GW := gT_2 _ (List.mem_of_getElem? (i := 94) rfl) rfl
theorem gw_335 : Cond.fieldLink "Carcasswright" 305 "Carcasswright$Stock" "came" "J" ∈ ce_GW := gT_2 _ (List.mem_of_getElem? (i := 95) rfl) rfl
theorem gw_337 : Cond.fieldLink "Carcasswright" 391 "Carcasswright$Stock" "dust" "J" ∈ ce_GW := gT_2 _ (List.mem_of_getElem? (i := 97) rfl) rfl
theorem gw_338 : Cond.fieldLink "Carcasswright" 224 "Carcasswright$Stock" "scrap" "J" ∈ ce_GW := gT_2 _ (List.mem_of_getElem? (i := 98) rfl) rfl
theorem gw_350 : Cond.classLink "Carcasswright" 36 "Carcasswright$Saw" ∈ ce_GW := gT_2 _ (List.mem_of_getElem? (i := 110) rfl) rfl
theorem gw_351 : Cond.instantiable "Carcasswright$Saw" 13 ∈ ce_GW := gT_2 _ (List.mem_of_getElem? (i := 111) rfl) rfl
theorem gw_352 : Cond.methodLink "Carcasswright" 38 ⟨"Carcasswright$Saw", "<init>", "(LCarcasswright$Stock;)V"⟩ ∈ ce_GW := gT_2 _ (List.mem_of_getElem? (i := 112) rfl) rfl
theorem gw_353 : Cond.instanceMethod ⟨"Carcasswright$Saw", "<init>", "(LCarcasswright$Stock;)V"⟩ ∈ ce_GW := gT_2 _ (List.mem_of_getElem? (i := 113) rfl) rfl
theorem gw_354 : Cond.code ⟨"Carcasswright$Saw", "<init>", "(LCarcasswright$Stock;)V"⟩ prog_9_method_1_code 3 Option.none ∈ ce_GW := gT_2 _ (List.mem_of_getElem? (i := 114) rfl) rfl
theorem gw_355 : Cond.methodLink "Carcasswright$Saw" 3 ⟨"java/lang/Object", "<init>", "()V"⟩ ∈ ce_GW := gT_2 _ (List.mem_of_getElem? (i := 115) rfl) rfl
theorem gw_356 : Cond.classLink "Carcasswright$Saw" 30 "Carcasswright$Board" ∈ ce_GW := gT_2 _ (List.mem_of_getElem? (i := 116) rfl) rfl
theorem gw_358 : Cond.fieldLink "Carcasswright$Saw" 36 "Carcasswright$Saw" "stock" "LCarcasswright$Stock;" ∈ ce_GW := gT_2 _ (List.mem_of_getElem? (i := 118) rfl) rfl
theorem gw_359 : Cond.fieldLink "Carcasswright$Saw" 9 "Carcasswright$Saw" "lengths" "[I" ∈ ce_GW := gT_2 _ (List.mem_of_getElem? (i := 119) rfl) rfl
theorem gw_360 : Cond.fieldLink "Carcasswright$Saw" 15 "Carcasswright$Saw" "widths" "[I" ∈ ce_GW := gT_2 _ (List.mem_of_getElem? (i := 120) rfl) rfl
theorem gw_362 : Cond.fieldLink "Carcasswright$Saw" 18 "Carcasswright$Saw" "opened" "[I" ∈ ce_GW := gT_2 _ (List.mem_of_getElem? (i := 122) rfl) rfl
theorem gw_366 : Cond.fieldLink "Carcasswright$Saw" 21 "Carcasswright$Saw" "stripBoards" "[I" ∈ ce_GW := gT_2 _ (List.mem_of_getElem? (i := 126) rfl) rfl
theorem gw_367 : Cond.fieldLink "Carcasswright$Saw" 24 "Carcasswright$Saw" "stripWidths" "[I" ∈ ce_GW := gT_2 _ (List.mem_of_getElem? (i := 127) rfl) rfl
theorem gw_368 : Cond.fieldLink "Carcasswright$Saw" 27 "Carcasswright$Saw" "stripEnds" "[I" ∈ ce_GW := gT_2 _ (List.mem_of_getElem? (i := 128) rfl) rfl
theorem gw_370 : Cond.fieldLink "Carcasswright$Saw" 32 "Carcasswright$Saw" "left" "[LCarcasswright$Board;" ∈ ce_GW := gT_2 _ (List.mem_of_getElem? (i := 130) rfl) rfl
theorem gw_399 : Cond.classLink "Carcasswright" 45 "Carcasswright$Packer" ∈ ce_GW := gT_2 _ (List.mem_of_getElem? (i := 159) rfl) rfl
theorem gw_400 : Cond.instantiable "Carcasswright$Packer" 4 ∈ ce_GW := gT_2 _ (List.mem_of_getElem? (i := 160) rfl) rfl
theorem gw_402 : Cond.instanceMethod ⟨"Carcasswright$Packer", "<init>", "()V"⟩ ∈ ce_GW := gT_2 _ (List.mem_of_getElem? (i := 162) rfl) rfl
theorem gw_403 : Cond.code ⟨"Carcasswright$Packer", "<init>", "()V"⟩ prog_6_method_1_code 1 Option.none ∈ ce_GW := gT_2 _ (List.mem_of_getElem? (i := 163) rfl) rfl
theorem gw_404 : Cond.methodLink "Carcasswright$Packer" 3 ⟨"java/lang/Object", "<init>", "()V"⟩ ∈ ce_GW := gT_2 _ (List.mem_of_getElem? (i := 164) rfl) rfl
theorem gw_405 : Cond.fieldLink "Carcasswright$Packer" 9 "Carcasswright$Packer" "weights" "[I" ∈ ce_GW := gT_2 _ (List.mem_of_getElem? (i := 165) rfl) rfl
theorem gw_406 : Cond.fieldLink "Carcasswright$Packer" 15 "Carcasswright$Packer" "packs" "[I" ∈ ce_GW := gT_2 _ (List.mem_of_getElem? (i := 166) rfl) rfl
theorem gw_407 : Cond.fieldLink "Carcasswright$Packer" 18 "Carcasswright$Packer" "loads" "[I" ∈ ce_GW := gT_2 _ (List.mem_of_getElem? (i := 167) rfl) rfl
theorem gw_419 : Cond.classLink "Carcasswright" 52 "Carcasswright$Jobs" ∈ ce_GW := gT_2 _ (List.mem_of_getElem? (i := 179) rfl) rfl
theorem gw_420 : Cond.instantiable "Carcasswright$Jobs" 8 ∈ ce_GW := gT_2 _ (List.mem_of_getElem? (i := 180) rfl) rfl
theorem gw_422 : Cond.instanceMethod ⟨"Carcasswright$Jobs", "<init>", "()V"⟩ ∈ ce_GW := gT_2 _ (List.mem_of_getElem? (i := 182) rfl) rfl
theorem gw_423 : Cond.code ⟨"Carcasswright$Jobs", "<init>", "()V"⟩ prog_3_method_1_code 1 Option.none ∈ ce_GW := gT_2 _ (List.mem_of_getElem? (i := 183) rfl) rfl
theorem gw_424 : Cond.methodLink "Carcasswright$Jobs" 1 ⟨"java/lang/Object", "<init>", "()V"⟩ ∈ ce_GW := gT_2 _ (List.mem_of_getElem? (i := 184) rfl) rfl
theorem gw_425 : Cond.fieldLink "Carcasswright$Jobs" 9 "Carcasswright$Jobs" "colours" "[I" ∈ ce_GW := gT_2 _ (List.mem_of_getElem? (i := 185) rfl) rfl
theorem gw_426 : Cond.fieldLink "Carcasswright$Jobs" 13 "Carcasswright$Jobs" "hours" "[I" ∈ ce_GW := gT_2 _ (List.mem_of_getElem? (i := 186) rfl) rfl
theorem gw_427 : Cond.fieldLink "Carcasswright$Jobs" 16 "Carcasswright$Jobs" "dues" "[I" ∈ ce_GW := gT_2 _ (List.mem_of_getElem? (i := 187) rfl) rfl
theorem gw_428 : Cond.fieldLink "Carcasswright$Jobs" 19 "Carcasswright$Jobs" "order" "[I" ∈ ce_GW := gT_2 _ (List.mem_of_getElem? (i := 188) rfl) rfl
theorem gw_429 : Cond.fieldLink "Carcasswright$Jobs" 22 "Carcasswright$Jobs" "best" "[I" ∈ ce_GW := gT_2 _ (List.mem_of_getElem? (i := 189) rfl) rfl
theorem gw_431 : Cond.fieldLink "Carcasswright$Jobs" 29 "Carcasswright$Jobs" "count" "I" ∈ ce_GW := gT_2 _ (List.mem_of_getElem? (i := 191) rfl) rfl
theorem gw_432 : Cond.fieldLink "Carcasswright" 369 "Carcasswright$Jobs" "count" "I" ∈ ce_GW := gT_2 _ (List.mem_of_getElem? (i := 192) rfl) rfl
theorem gw_433 : Cond.fieldLink "Carcasswright$Jobs" 25 "Carcasswright$Jobs" "setup" "I" ∈ ce_GW := gT_2 _ (List.mem_of_getElem? (i := 193) rfl) rfl
theorem gw_434 : Cond.fieldLink "Carcasswright" 373 "Carcasswright$Jobs" "setup" "I" ∈ ce_GW := gT_2 _ (List.mem_of_getElem? (i := 194) rfl) rfl
theorem gw_435 : Cond.fieldLink "Carcasswright$Jobs" 36 "Carcasswright$Jobs" "leastLate" "I" ∈ ce_GW := gT_2 _ (List.mem_of_getElem? (i := 195) rfl) rfl
theorem gw_436 : Cond.fieldLink "Carcasswright" 379 "Carcasswright$Jobs" "leastLate" "I" ∈ ce_GW := gT_2 _ (List.mem_of_getElem? (i := 196) rfl) rfl
theorem gw_454 : Cond.fieldLink "Carcasswright" 10 "Carcasswright" "types" "LCarcasswright$Types;" ∈ ce_GW := gT_2 _ (List.mem_of_getElem? (i := 214) rfl) rfl
theorem gw_455 : Cond.fieldLink "Carcasswright" 25 "Carcasswright" "room" "LCarcasswright$Room;" ∈ ce_GW := gT_2 _ (List.mem_of_getElem? (i := 215) rfl) rfl
theorem gw_456 : Cond.fieldLink "Carcasswright" 32 "Carcasswright" "stock" "LCarcasswright$Stock;" ∈ ce_GW := gT_2 _ (List.mem_of_getElem? (i := 216) rfl) rfl
theorem gw_457 : Cond.fieldLink "Carcasswright" 41 "Carcasswright" "saw" "LCarcasswright$Saw;" ∈ ce_GW := gT_2 _ (List.mem_of_getElem? (i := 217) rfl) rfl
theorem gw_458 : Cond.fieldLink "Carcasswright" 48 "Carcasswright" "packer" "LCarcasswright$Packer;" ∈ ce_GW := gT_2 _ (List.mem_of_getElem? (i := 218) rfl) rfl
theorem gw_459 : Cond.fieldLink "Carcasswright" 55 "Carcasswright" "jobs" "LCarcasswright$Jobs;" ∈ ce_GW := gT_2 _ (List.mem_of_getElem? (i := 219) rfl) rfl
theorem gw_460 : Cond.fieldLink "Carcasswright" 59 "Carcasswright" "rates" "[I" ∈ ce_GW := gT_2 _ (List.mem_of_getElem? (i := 220) rfl) rfl
theorem gw_476 : Cond.methodLink "CarcasswrightLaw" 191 ⟨"Carcasswright", "isClosedRoom", "()Z"⟩ ∈ ce_GW := gT_2 _ (List.mem_of_getElem? (i := 236) rfl) rfl
theorem gw_477 : Cond.instanceMethod ⟨"Carcasswright", "isClosedRoom", "()Z"⟩ ∈ ce_GW := gT_2 _ (List.mem_of_getElem? (i := 237) rfl) rfl
theorem gw_478 : Cond.selects "Carcasswright" ⟨"Carcasswright", "isClosedRoom", "()Z"⟩ ⟨"Carcasswright", "isClosedRoom", "()Z"⟩ ∈ ce_GW := gT_2 _ (List.mem_of_getElem? (i := 238) rfl) rfl
theorem gw_479 : Cond.code ⟨"Carcasswright", "isClosedRoom", "()Z"⟩ prog_1_method_5_code 1 (Option.some Jvm.ClassFile.FieldType.boolean) ∈ ce_GW := gT_2 _ (List.mem_of_getElem? (i := 239) rfl) rfl
theorem gw_484 : Cond.methodLink "Carcasswright$Room" 54 ⟨"Carcasswright$Room", "wallAt", "(I)LCarcasswright$Wall;"⟩ ∈ ce_GW := gT_3 _ (List.mem_of_getElem? (i := 4) rfl) rfl
theorem gw_485 : Cond.instanceMethod ⟨"Carcasswright$Room", "wallAt", "(I)LCarcasswright$Wall;"⟩ ∈ ce_GW := gT_3 _ (List.mem_of_getElem? (i := 5) rfl) rfl
theorem gw_486 : Cond.selects "Carcasswright$Room" ⟨"Carcasswright$Room", "wallAt", "(I)LCarcasswright$Wall;"⟩ ⟨"Carcasswright$Room", "wallAt", "(I)LCarcasswright$Wall;"⟩ ∈ ce_GW := gT_3 _ (List.mem_of_getElem? (i := 6) rfl) rfl
theorem gw_487 : Cond.code ⟨"Carcasswright$Room", "wallAt", "(I)LCarcasswright$Wall;"⟩ prog_8_method_2_code 2 (Option.some (Jvm.ClassFile.FieldType.object "Carcasswright$Wall")) ∈ ce_GW := gT_3 _ (List.mem_of_getElem? (i := 7) rfl) rfl
theorem gw_488 : Cond.classLink "Carcasswright$Room" 48 "java/lang/IndexOutOfBoundsException" ∈ ce_GW := gT_3 _ (List.mem_of_getElem? (i := 8) rfl) rfl
theorem gw_531 : Cond.methodLink "Carcasswright$Room" 50 ⟨"java/lang/IndexOutOfBoundsException", "<init>", "()V"⟩ ∈ ce_GW := gT_3 _ (List.mem_of_getElem? (i := 51) rfl) rfl
theorem gw_554 : Cond.methodLink "CarcasswrightLaw" 208 ⟨"Carcasswright", "wipe", "()I"⟩ ∈ ce_GW := gT_3 _ (List.mem_of_getElem? (i := 74) rfl) rfl
theorem gw_555 : Cond.instanceMethod ⟨"Carcasswright", "wipe", "()I"⟩ ∈ ce_GW := gT_3 _ (List.mem_of_getElem? (i := 75) rfl) rfl
theorem gw_556 : Cond.selects "Carcasswright" ⟨"Carcasswright", "wipe", "()I"⟩ ⟨"Carcasswright", "wipe", "()I"⟩ ∈ ce_GW := gT_3 _ (List.mem_of_getElem? (i := 76) rfl) rfl
theorem gw_557 : Cond.code ⟨"Carcasswright", "wipe", "()I"⟩ prog_1_method_9_code 1 (Option.some Jvm.ClassFile.FieldType.int) ∈ ce_GW := gT_3 _ (List.mem_of_getElem? (i := 77) rfl) rfl
theorem gw_558 : Cond.methodLink "Carcasswright" 139 ⟨"Carcasswright$Types", "clearText", "()I"⟩ ∈ ce_GW := gT_3 _ (List.mem_of_getElem? (i := 78) rfl) rfl
theorem gw_559 : Cond.instanceMethod ⟨"Carcasswright$Types", "clearText", "()I"⟩ ∈ ce_GW := gT_3 _ (List.mem_of_getElem? (i := 79) rfl) rfl
theorem gw_560 : Cond.selects "Carcasswright$Types" ⟨"Carcasswright$Types", "clearText", "()I"⟩ ⟨"Carcasswright$Types", "clearText", "()I"⟩ ∈ ce_GW := gT_3 _ (List.mem_of_getElem? (i := 80) rfl) rfl
theorem gw_561 : Cond.code ⟨"Carcasswright$Types", "clearText", "()I"⟩ prog_11_method_5_code 2 (Option.some Jvm.ClassFile.FieldType.int) ∈ ce_GW := gT_3 _ (List.mem_of_getElem? (i := 81) rfl) rfl
theorem gw_562 : Cond.methodLink "CarcasswrightLaw" 285 ⟨"Carcasswright", "boards", "()I"⟩ ∈ ce_GW := gT_3 _ (List.mem_of_getElem? (i := 82) rfl) rfl
theorem gw_563 : Cond.instanceMethod ⟨"Carcasswright", "boards", "()I"⟩ ∈ ce_GW := gT_3 _ (List.mem_of_getElem? (i := 83) rfl) rfl
theorem gw_564 : Cond.selects "Carcasswright" ⟨"Carcasswright", "boards", "()I"⟩ ⟨"Carcasswright", "boards", "()I"⟩ ∈ ce_GW := gT_3 _ (List.mem_of_getElem? (i := 84) rfl) rfl
theorem gw_565 : Cond.code ⟨"Carcasswright", "boards", "()I"⟩ prog_1_method_32_code 1 (Option.some Jvm.ClassFile.FieldType.int) ∈ ce_GW := gT_3 _ (List.mem_of_getElem? (i := 85) rfl) rfl
theorem gw_566 : Cond.methodLink "CarcasswrightLaw" 289 ⟨"Carcasswright", "offcuts", "()I"⟩ ∈ ce_GW := gT_3 _ (List.mem_of_getElem? (i := 86) rfl) rfl
theorem gw_567 : Cond.instanceMethod ⟨"Carcasswright", "offcuts", "()I"⟩ ∈ ce_GW := gT_3 _ (List.mem_of_getElem? (i := 87) rfl) rfl
theorem gw_568 : Cond.selects "Carcasswright" ⟨"Carcasswright", "offcuts", "()I"⟩ ⟨"Carcasswright", "offcuts", "()I"⟩ ∈ ce_GW := gT_3 _ (List.mem_of_getElem? (i := 88) rfl) rfl
theorem gw_569 : Cond.code ⟨"Carcasswright", "offcuts", "()I"⟩ prog_1_method_33_code 1 (Option.some Jvm.ClassFile.FieldType.int) ∈ ce_GW := gT_3 _ (List.mem_of_getElem? (i := 89) rfl) rfl
theorem gw_570 : Cond.methodLink "Carcasswright" 308 ⟨"Carcasswright$Stock", "offcutCount", "()I"⟩ ∈ ce_GW := gT_3 _ (List.mem_of_getElem? (i := 90) rfl) rfl
theorem gw_571 : Cond.instanceMethod ⟨"Carcasswright$Stock", "offcutCount", "()I"⟩ ∈ ce_GW := gT_3 _ (List.mem_of_getElem? (i := 91) rfl) rfl
theorem gw_572 : Cond.selects "Carcasswright$Stock" ⟨"Carcasswright$Stock", "offcutCount", "()I"⟩ ⟨"Carcasswright$Stock", "offcutCount", "()I"⟩ ∈ ce_GW := gT_3 _ (List.mem_of_getElem? (i := 92) rfl) rfl
theorem gw_573 : Cond.code ⟨"Carcasswright$Stock", "offcutCount", "()I"⟩ prog_10_method_4_code 3 (Option.some Jvm.ClassFile.FieldType.int) ∈ ce_GW := gT_3 _ (List.mem_of_getElem? (i := 93) rfl) rfl
theorem gw_575 : Cond.instanceMethod ⟨"Carcasswright$Stock", "boardAt", "(I)LCarcasswright$Board;"⟩ ∈ ce_GW := gT_3 _ (List.mem_of_getElem? (i := 95) rfl) rfl
theorem gw_576 : Cond.selects "Carcasswright$Stock" ⟨"Carcasswright$Stock", "boardAt", "(I)LCarcasswright$Board;"⟩ ⟨"Carcasswright$Stock", "boardAt", "(I)LCarcasswright$Board;"⟩ ∈ ce_GW := gT_3 _ (List.mem_of_getElem? (i := 96) rfl) rfl
theorem gw_577 : Cond.code ⟨"Carcasswright$Stock", "boardAt", "(I)LCarcasswright$Board;"⟩ prog_10_method_2_code 2 (Option.some (Jvm.ClassFile.FieldType.object "Carcasswright$Board")) ∈ ce_GW := gT_3 _ (List.mem_of_getElem? (i := 97) rfl) rfl
theorem gw_578 : Cond.classLink "Carcasswright$Stock" 20 "java/lang/IndexOutOfBoundsException" ∈ ce_GW := gT_3 _ (List.mem_of_getElem? (i := 98) rfl) rfl
theorem gw_579 : Cond.methodLink "Carcasswright$Stock" 22 ⟨"java/lang/IndexOutOfBoundsException", "<init>", "()V"⟩ ∈ ce_GW := gT_3 _ (List.mem_of_getElem? (i := 99) rfl) rfl
theorem gw_580 : Cond.methodLink "CarcasswrightLaw" 329 ⟨"Carcasswright", "lateness", "()I"⟩ ∈ ce_GW := gT_3 _ (List.mem_of_getElem? (i := 100) rfl) rfl
theorem gw_581 : Cond.instanceMethod ⟨"Carcasswright", "lateness", "()I"⟩ ∈ ce_GW := gT_3 _ (List.mem_of_getElem? (i := 101) rfl) rfl
theorem gw_582 : Cond.selects "Carcasswright" ⟨"Carcasswright", "lateness", "()I"⟩ ⟨"Carcasswright", "lateness", "()I"⟩ ∈ ce_GW := gT_3 _ (List.mem_of_getElem? (i := 102) rfl) rfl
theorem gw_583 : Cond.code ⟨"Carcasswright", "lateness", "()I"⟩ prog_1_method_46_code 1 (Option.some Jvm.ClassFile.FieldType.int) ∈ ce_GW := gT_3 _ (List.mem_of_getElem? (i := 103) rfl) rfl
theorem gw_584 : Cond.methodLink "Carcasswright" 376 ⟨"Carcasswright$Jobs", "plan", "()V"⟩ ∈ ce_GW := gT_3 _ (List.mem_of_getElem? (i := 104) rfl) rfl
theorem gw_585 : Cond.instanceMethod ⟨"Carcasswright$Jobs", "plan", "()V"⟩ ∈ ce_GW := gT_3 _ (List.mem_of_getElem? (i := 105) rfl) rfl
theorem gw_586 : Cond.selects "Carcasswright$Jobs" ⟨"Carcasswright$Jobs", "plan", "()V"⟩ ⟨"Carcasswright$Jobs", "plan", "()V"⟩ ∈ ce_GW := gT_3 _ (List.mem_of_getElem? (i := 106) rfl) rfl
theorem gw_587 : Cond.code ⟨"Carcasswright$Jobs", "plan", "()V"⟩ prog_3_method_3_code 3 Option.none ∈ ce_GW := gT_3 _ (List.mem_of_getElem? (i := 107) rfl) rfl
theorem gw_588 : Cond.methodLink "Carcasswright$Jobs" 32 ⟨"Carcasswright$Jobs", "lateInOrder", "()I"⟩ ∈ ce_GW := gT_3 _ (List.mem_of_getElem? (i := 108) rfl) rfl
theorem gw_589 : Cond.instanceMethod ⟨"Carcasswright$Jobs", "lateInOrder", "()I"⟩ ∈ ce_GW := gT_3 _ (List.mem_of_getElem? (i := 109) rfl) rfl
theorem gw_590 : Cond.selects "Carcasswright$Jobs" ⟨"Carcasswright$Jobs", "lateInOrder", "()I"⟩ ⟨"Carcasswright$Jobs", "lateInOrder", "()I"⟩ ∈ ce_GW := gT_3 _ (List.mem_of_getElem? (i := 110) rfl) rfl
theorem gw_591 : Cond.code ⟨"Carcasswright$Jobs", "lateInOrder", "()I"⟩ prog_3_method_5_code 6 (Option.some Jvm.ClassFile.FieldType.int) ∈ ce_GW := gT_3 _ (List.mem_of_getElem? (i := 111) rfl) rfl
theorem gw_593 : Cond.static ⟨"java/lang/Math", "max", "(II)I"⟩ ∈ ce_GW := gT_3 _ (List.mem_of_getElem? (i := 113) rfl) rfl
theorem gw_594 : Cond.code ⟨"java/lang/Math", "max", "(II)I"⟩ prog_39_method_65_code 2 (Option.some Jvm.ClassFile.FieldType.int) ∈ ce_GW := gT_3 _ (List.mem_of_getElem? (i := 114) rfl) rfl
theorem gw_595 : Cond.methodLink "Carcasswright$Jobs" 39 ⟨"Carcasswright$Jobs", "keepOrder", "()V"⟩ ∈ ce_GW := gT_3 _ (List.mem_of_getElem? (i := 115) rfl) rfl
theorem gw_596 : Cond.instanceMethod ⟨"Carcasswright$Jobs", "keepOrder", "()V"⟩ ∈ ce_GW := gT_3 _ (List.mem_of_getElem? (i := 116) rfl) rfl
theorem gw_597 : Cond.selects "Carcasswright$Jobs" ⟨"Carcasswright$Jobs", "keepOrder", "()V"⟩ ⟨"Carcasswright$Jobs", "keepOrder", "()V"⟩ ∈ ce_GW := gT_3 _ (List.mem_of_getElem? (i := 117) rfl) rfl
theorem gw_598 : Cond.code ⟨"Carcasswright$Jobs", "keepOrder", "()V"⟩ prog_3_method_4_code 2 Option.none ∈ ce_GW := gT_3 _ (List.mem_of_getElem? (i := 118) rfl) rfl
theorem gw_599 : Cond.methodLink "Carcasswright$Jobs" 42 ⟨"Carcasswright$Jobs", "goToNextOrder", "()Z"⟩ ∈ ce_GW := gT_3 _ (List.mem_of_getElem? (i := 119) rfl) rfl
theorem gw_600 : Cond.instanceMethod ⟨"Carcasswright$Jobs", "goToNextOrder", "()Z"⟩ ∈ ce_GW := gT_3 _ (List.mem_of_getElem? (i := 120) rfl) rfl
theorem gw_601 : Cond.selects "Carcasswright$Jobs" ⟨"Carcasswright$Jobs", "goToNextOrder", "()Z"⟩ ⟨"Carcasswright$Jobs", "goToNextOrder", "()Z"⟩ ∈ ce_GW := gT_3 _ (List.mem_of_getElem? (i := 121) rfl) rfl
theorem gw_602 : Cond.code ⟨"Carcasswright$Jobs", "goToNextOrder", "()Z"⟩ prog_3_method_6_code 3 (Option.some Jvm.ClassFile.FieldType.boolean) ∈ ce_GW := gT_3 _ (List.mem_of_getElem? (i := 122) rfl) rfl
theorem gw_603 : Cond.methodLink "Carcasswright$Jobs" 52 ⟨"java/lang/Math", "min", "(II)I"⟩ ∈ ce_GW := gT_3 _ (List.mem_of_getElem? (i := 123) rfl) rfl
theorem gw_604 : Cond.static ⟨"java/lang/Math", "min", "(II)I"⟩ ∈ ce_GW := gT_3 _ (List.mem_of_getElem? (i := 124) rfl) rfl
theorem gw_605 : Cond.code ⟨"java/lang/Math", "min", "(II)I"⟩ prog_39_method_69_code 2 (Option.some Jvm.ClassFile.FieldType.int) ∈ ce_GW := gT_3 _ (List.mem_of_getElem? (i := 125) rfl) rfl
theorem gw_618 : Cond.methodLink "CarcasswrightLaw" 336 ⟨"Carcasswright", "modules", "()I"⟩ ∈ ce_GW := gT_3 _ (List.mem_of_getElem? (i := 138) rfl) rfl
theorem gw_619 : Cond.instanceMethod ⟨"Carcasswright", "modules", "()I"⟩ ∈ ce_GW := gT_3 _ (List.mem_of_getElem? (i := 139) rfl) rfl
theorem gw_620 : Cond.selects "Carcasswright" ⟨"Carcasswright", "modules", "()I"⟩ ⟨"Carcasswright", "modules", "()I"⟩ ∈ ce_GW := gT_3 _ (List.mem_of_getElem? (i := 140) rfl) rfl
theorem gw_621 : Cond.code ⟨"Carcasswright", "modules", "()I"⟩ prog_1_method_48_code 1 (Option.some Jvm.ClassFile.FieldType.int) ∈ ce_GW := gT_3 _ (List.mem_of_getElem? (i := 141) rfl) rfl
theorem gw_622 : Cond.methodLink "CarcasswrightLaw" 350 ⟨"Carcasswright", "isSound", "()Z"⟩ ∈ ce_GW := gT_3 _ (List.mem_of_getElem? (i := 142) rfl) rfl
theorem gw_623 : Cond.instanceMethod ⟨"Carcasswright", "isSound", "()Z"⟩ ∈ ce_GW := gT_3 _ (List.mem_of_getElem? (i := 143) rfl) rfl
theorem gw_624 : Cond.selects "Carcasswright" ⟨"Carcasswright", "isSound", "()Z"⟩ ⟨"Carcasswright", "isSound", "()Z"⟩ ∈ ce_GW := gT_3 _ (List.mem_of_getElem? (i := 144) rfl) rfl
theorem gw_625 : Cond.code ⟨"Carcasswright", "isSound", "()Z"⟩ prog_1_method_52_code 3 (Option.some Jvm.ClassFile.FieldType.boolean) ∈ ce_GW := gT_3 _ (List.mem_of_getElem? (i := 145) rfl) rfl
theorem gw_626 : Cond.methodLink "Carcasswright" 385 ⟨"Carcasswright$Stock", "squares", "()J"⟩ ∈ ce_GW := gT_3 _ (List.mem_of_getElem? (i := 146) rfl) rfl
theorem gw_627 : Cond.instanceMethod ⟨"Carcasswright$Stock", "squares", "()J"⟩ ∈ ce_GW := gT_3 _ (List.mem_of_getElem? (i := 147) rfl) rfl
theorem gw_628 : Cond.selects "Carcasswright$Stock" ⟨"Carcasswright$Stock", "squares", "()J"⟩ ⟨"Carcasswright$Stock", "squares", "()J"⟩ ∈ ce_GW := gT_3 _ (List.mem_of_getElem? (i := 148) rfl) rfl
theorem gw_629 : Cond.code ⟨"Carcasswright$Stock", "squares", "()J"⟩ prog_10_method_5_code 4 (Option.some Jvm.ClassFile.FieldType.long) ∈ ce_GW := gT_3 _ (List.mem_of_getElem? (i := 149) rfl) rfl
theorem gw_634 : Cond.methodLink "Carcasswright" 388 ⟨"Carcasswright$Room", "cutSquares", "()J"⟩ ∈ ce_GW := gT_3 _ (List.mem_of_getElem? (i := 154) rfl) rfl
theorem gw_635 : Cond.instanceMethod ⟨"Carcasswright$Room", "cutSquares", "()J"⟩ ∈ ce_GW := gT_3 _ (List.mem_of_getElem? (i := 155) rfl) rfl
theorem gw_636 : Cond.selects "Carcasswright$Room" ⟨"Carcasswright$Room", "cutSquares", "()J"⟩ ⟨"Carcasswright$Room", "cutSquares", "()J"⟩ ∈ ce_GW := gT_3 _ (List.mem_of_getElem? (i := 156) rfl) rfl
theorem gw_637 : Cond.code ⟨"Carcasswright$Room", "cutSquares", "()J"⟩ prog_8_method_23_code 5 (Option.some Jvm.ClassFile.FieldType.long) ∈ ce_GW := gT_3 _ (List.mem_of_getElem? (i := 157) rfl) rfl
theorem gw_639 : Cond.instanceMethod ⟨"Carcasswright$Room", "moduleAt", "(I)LCarcasswright$PlacedModule;"⟩ ∈ ce_GW := gT_3 _ (List.mem_of_getElem? (i := 159) rfl) rfl
theorem gw_640 : Cond.selects "Carcasswright$Room" ⟨"Carcasswright$Room", "moduleAt", "(I)LCarcasswright$PlacedModule;"⟩ ⟨"Carcasswright$Room", "moduleAt", "(I)LCarcasswright$PlacedModule;"⟩ ∈ ce_GW := gT_3 _ (List.mem_of_getElem? (i := 160) rfl) rfl
theorem gw_641 : Cond.code ⟨"Carcasswright$Room", "moduleAt", "(I)LCarcasswright$PlacedModule;"⟩ prog_8_method_3_code 2 (Option.some (Jvm.ClassFile.FieldType.object "Carcasswright$PlacedModule")) ∈ ce_GW := gT_3 _ (List.mem_of_getElem? (i := 161) rfl) rfl
theorem gw_674 : Cond.methodLink "Carcasswright" 394 ⟨"Carcasswright$Room", "hasOnlyOwnParts", "()Z"⟩ ∈ ce_GW := gT_3 _ (List.mem_of_getElem? (i := 194) rfl) rfl
theorem gw_675 : Cond.instanceMethod ⟨"Carcasswright$Room", "hasOnlyOwnParts", "()Z"⟩ ∈ ce_GW := gT_3 _ (List.mem_of_getElem? (i := 195) rfl) rfl
theorem gw_676 : Cond.selects "Carcasswright$Room" ⟨"Carcasswright$Room", "hasOnlyOwnParts", "()Z"⟩ ⟨"Carcasswright$Room", "hasOnlyOwnParts", "()Z"⟩ ∈ ce_GW := gT_3 _ (List.mem_of_getElem? (i := 196) rfl) rfl
theorem gw_677 : Cond.code ⟨"Carcasswright$Room", "hasOnlyOwnParts", "()Z"⟩ prog_8_method_24_code 3 (Option.some Jvm.ClassFile.FieldType.boolean) ∈ ce_GW := gT_3 _ (List.mem_of_getElem? (i := 197) rfl) rfl
theorem gw_683 : Cond.methodLink "Carcasswright" 397 ⟨"Carcasswright$Room", "hasModulesInTheWay", "()Z"⟩ ∈ ce_GW := gT_3 _ (List.mem_of_getElem? (i := 203) rfl) rfl
theorem gw_684 : Cond.instanceMethod ⟨"Carcasswright$Room", "hasModulesInTheWay", "()Z"⟩ ∈ ce_GW := gT_3 _ (List.mem_of_getElem? (i := 204) rfl) rfl
theorem gw_685 : Cond.selects "Carcasswright$Room" ⟨"Carcasswright$Room", "hasModulesInTheWay", "()Z"⟩ ⟨"Carcasswright$Room", "hasModulesInTheWay", "()Z"⟩ ∈ ce_GW := gT_3 _ (List.mem_of_getElem? (i := 205) rfl) rfl
theorem gw_686 : Cond.code ⟨"Carcasswright$Room", "hasModulesInTheWay", "()Z"⟩ prog_8_method_25_code 5 (Option.some Jvm.ClassFile.FieldType.boolean) ∈ ce_GW := gT_3 _ (List.mem_of_getElem? (i := 206) rfl) rfl
theorem gw_713 : Cond.methodLink "CarcasswrightLaw" 174 ⟨"CarcasswrightLaw", "addWall", "(LCarcasswright;CI[J)I"⟩ ∈ ce_GW := gT_3 _ (List.mem_of_getElem? (i := 233) rfl) rfl
theorem gw_714 : Cond.static ⟨"CarcasswrightLaw", "addWall", "(LCarcasswright;CI[J)I"⟩ ∈ ce_GW := gT_3 _ (List.mem_of_getElem? (i := 234) rfl) rfl
theorem gw_715 : Cond.codeWith ⟨"CarcasswrightLaw", "addWall", "(LCarcasswright;CI[J)I"⟩ method_3_code 5 (Option.some Jvm.ClassFile.FieldType.int) [(0, 10, 13, 13), (0, 10, 17, 15)] ∈ ce_GW := gT_3 _ (List.mem_of_getElem? (i := 235) rfl) rfl
theorem gw_716 : Cond.classLink "CarcasswrightLaw" 13 "java/lang/IllegalArgumentException" ∈ ce_GW := gT_3 _ (List.mem_of_getElem? (i := 236) rfl) rfl
theorem gw_718 : Cond.methodLink "CarcasswrightLaw" 7 ⟨"Carcasswright", "addWall", "(CI)I"⟩ ∈ ce_GW := gT_3 _ (List.mem_of_getElem? (i := 238) rfl) rfl
theorem gw_719 : Cond.instanceMethod ⟨"Carcasswright", "addWall", "(CI)I"⟩ ∈ ce_GW := gT_3 _ (List.mem_of_getElem? (i := 239) rfl) rfl
theorem gw_720 : Cond.selects "Carcasswright" ⟨"Carcasswright", "addWall", "(CI)I"⟩ ⟨"Carcasswright", "addWall", "(CI)I"⟩ ∈ ce_GW := gT_4 _ (List.mem_of_getElem? (i := 0) rfl) rfl
theorem gw_721 : Cond.code ⟨"Carcasswright", "addWall", "(CI)I"⟩ prog_1_method_2_code 4 (Option.some Jvm.ClassFile.FieldType.int) ∈ ce_GW := gT_4 _ (List.mem_of_getElem? (i := 1) rfl) rfl
theorem gw_722 : Cond.methodLink "Carcasswright" 63 ⟨"Carcasswright", "isOutside", "(III)Z"⟩ ∈ ce_GW := gT_4 _ (List.mem_of_getElem? (i := 2) rfl) rfl
theorem gw_723 : Cond.static ⟨"Carcasswright", "isOutside", "(III)Z"⟩ ∈ ce_GW := gT_4 _ (List.mem_of_getElem? (i := 3) rfl) rfl
theorem gw_724 : Cond.code ⟨"Carcasswright", "isOutside", "(III)Z"⟩ prog_1_method_53_code 3 (Option.some Jvm.ClassFile.FieldType.boolean) ∈ ce_GW := gT_4 _ (List.mem_of_getElem? (i := 4) rfl) rfl
theorem gw_725 : Cond.classLink "Carcasswright" 67 "java/lang/IllegalArgumentException" ∈ ce_GW := gT_4 _ (List.mem_of_getElem? (i := 5) rfl) rfl
theorem gw_734 : Cond.methodLink "Carcasswright" 69 ⟨"java/lang/IllegalArgumentException", "<init>", "()V"⟩ ∈ ce_GW := gT_4 _ (List.mem_of_getElem? (i := 14) rfl) rfl
theorem gw_755 : Cond.methodLink "Carcasswright" 80 ⟨"Carcasswright$Room", "build", "(CI)I"⟩ ∈ ce_GW := gT_4 _ (List.mem_of_getElem? (i := 35) rfl) rfl
theorem gw_756 : Cond.instanceMethod ⟨"Carcasswright$Room", "build", "(CI)I"⟩ ∈ ce_GW := gT_4 _ (List.mem_of_getElem? (i := 36) rfl) rfl
theorem gw_757 : Cond.selects "Carcasswright$Room" ⟨"Carcasswright$Room", "build", "(CI)I"⟩ ⟨"Carcasswright$Room", "build", "(CI)I"⟩ ∈ ce_GW := gT_4 _ (List.mem_of_getElem? (i := 37) rfl) rfl
theorem gw_758 : Cond.code ⟨"Carcasswright$Room", "build", "(CI)I"⟩ prog_8_method_4_code 5 (Option.some Jvm.ClassFile.FieldType.int) ∈ ce_GW := gT_4 _ (List.mem_of_getElem? (i := 38) rfl) rfl
theorem gw_759 : Cond.methodLink "CarcasswrightLaw" 183 ⟨"CarcasswrightLaw", "close", "(LCarcasswright;[J)I"⟩ ∈ ce_GW := gT_4 _ (List.mem_of_getElem? (i := 39) rfl) rfl
theorem gw_760 : Cond.static ⟨"CarcasswrightLaw", "close", "(LCarcasswright;[J)I"⟩ ∈ ce_GW := gT_4 _ (List.mem_of_getElem? (i := 40) rfl) rfl
theorem gw_761 : Cond.codeWith ⟨"CarcasswrightLaw", "close", "(LCarcasswright;[J)I"⟩ method_4_code 3 (Option.some Jvm.ClassFile.FieldType.int) [(0, 8, 11, 21)] ∈ ce_GW := gT_4 _ (List.mem_of_getElem? (i := 41) rfl) rfl
theorem gw_762 : Cond.classLink "CarcasswrightLaw" 21 "java/lang/UnsupportedOperationException" ∈ ce_GW := gT_4 _ (List.mem_of_getElem? (i := 42) rfl) rfl
theorem gw_763 : Cond.methodLink "CarcasswrightLaw" 17 ⟨"Carcasswright", "close", "()I"⟩ ∈ ce_GW := gT_4 _ (List.mem_of_getElem? (i := 43) rfl) rfl
theorem gw_764 : Cond.instanceMethod ⟨"Carcasswright", "close", "()I"⟩ ∈ ce_GW := gT_4 _ (List.mem_of_getElem? (i := 44) rfl) rfl
theorem gw_765 : Cond.selects "Carcasswright" ⟨"Carcasswright", "close", "()I"⟩ ⟨"Carcasswright", "close", "()I"⟩ ∈ ce_GW := gT_4 _ (List.mem_of_getElem? (i := 45) rfl) rfl
theorem gw_766 : Cond.code ⟨"Carcasswright", "close", "()I"⟩ prog_1_method_3_code 2 (Option.some Jvm.ClassFile.FieldType.int) ∈ ce_GW := gT_4 _ (List.mem_of_getElem? (i := 46) rfl) rfl
theorem gw_775 : Cond.classLink "Carcasswright" 88 "java/lang/UnsupportedOperationException" ∈ ce_GW := gT_4 _ (List.mem_of_getElem? (i := 55) rfl) rfl
theorem gw_784 : Cond.methodLink "Carcasswright" 90 ⟨"java/lang/UnsupportedOperationException", "<init>", "()V"⟩ ∈ ce_GW := gT_4 _ (List.mem_of_getElem? (i := 64) rfl) rfl
theorem gw_807 : Cond.methodLink "CarcasswrightLaw" 187 ⟨"CarcasswrightLaw", "lengthOf", "(LCarcasswright;I[J)I"⟩ ∈ ce_GW := gT_4 _ (List.mem_of_getElem? (i := 87) rfl) rfl
theorem gw_808 : Cond.static ⟨"CarcasswrightLaw", "lengthOf", "(LCarcasswright;I[J)I"⟩ ∈ ce_GW := gT_4 _ (List.mem_of_getElem? (i := 88) rfl) rfl
theorem gw_809 : Cond.codeWith ⟨"CarcasswrightLaw", "lengthOf", "(LCarcasswright;I[J)I"⟩ method_5_code 4 (Option.some Jvm.ClassFile.FieldType.int) [(0, 9, 12, 27)] ∈ ce_GW := gT_4 _ (List.mem_of_getElem? (i := 89) rfl) rfl
theorem gw_810 : Cond.classLink "CarcasswrightLaw" 27 "java/lang/IndexOutOfBoundsException" ∈ ce_GW := gT_4 _ (List.mem_of_getElem? (i := 90) rfl) rfl
theorem gw_811 : Cond.methodLink "CarcasswrightLaw" 23 ⟨"Carcasswright", "lengthOf", "(I)I"⟩ ∈ ce_GW := gT_4 _ (List.mem_of_getElem? (i := 91) rfl) rfl
theorem gw_812 : Cond.instanceMethod ⟨"Carcasswright", "lengthOf", "(I)I"⟩ ∈ ce_GW := gT_4 _ (List.mem_of_getElem? (i := 92) rfl) rfl
theorem gw_813 : Cond.selects "Carcasswright" ⟨"Carcasswright", "lengthOf", "(I)I"⟩ ⟨"Carcasswright", "lengthOf", "(I)I"⟩ ∈ ce_GW := gT_4 _ (List.mem_of_getElem? (i := 93) rfl) rfl
theorem gw_814 : Cond.code ⟨"Carcasswright", "lengthOf", "(I)I"⟩ prog_1_method_4_code 2 (Option.some Jvm.ClassFile.FieldType.int) ∈ ce_GW := gT_4 _ (List.mem_of_getElem? (i := 94) rfl) rfl
theorem gw_815 : Cond.methodLink "Carcasswright" 107 ⟨"Carcasswright$Room", "wallAt", "(I)LCarcasswright$Wall;"⟩ ∈ ce_GW := gT_4 _ (List.mem_of_getElem? (i := 95) rfl) rfl
theorem gw_816 : Cond.methodLink "CarcasswrightLaw" 196 ⟨"CarcasswrightLaw", "setOff", "(LCarcasswright;III[J)I"⟩ ∈ ce_GW := gT_4 _ (List.mem_of_getElem? (i := 96) rfl) rfl
theorem gw_817 : Cond.static ⟨"CarcasswrightLaw", "setOff", "(LCarcasswright;III[J)I"⟩ ∈ ce_GW := gT_4 _ (List.mem_of_getElem? (i := 97) rfl) rfl
theorem gw_818 : Cond.codeWith ⟨"CarcasswrightLaw", "setOff", "(LCarcasswright;III[J)I"⟩ method_6_code 6 (Option.some Jvm.ClassFile.FieldType.int) [(0, 12, 15, 27), (0, 12, 19, 13)] ∈ ce_GW := gT_4 _ (List.mem_of_getElem? (i := 98) rfl) rfl
theorem gw_819 : Cond.methodLink "CarcasswrightLaw" 29 ⟨"Carcasswright", "setOff", "(III)I"⟩ ∈ ce_GW := gT_4 _ (List.mem_of_getElem? (i := 99) rfl) rfl
theorem gw_820 : Cond.instanceMethod ⟨"Carcasswright", "setOff", "(III)I"⟩ ∈ ce_GW := gT_4 _ (List.mem_of_getElem? (i := 100) rfl) rfl
theorem gw_821 : Cond.selects "Carcasswright" ⟨"Carcasswright", "setOff", "(III)I"⟩ ⟨"Carcasswright", "setOff", "(III)I"⟩ ∈ ce_GW := gT_4 _ (List.mem_of_getElem? (i := 101) rfl) rfl
theorem gw_822 : Cond.code ⟨"Carcasswright", "setOff", "(III)I"⟩ prog_1_method_6_code 6 (Option.some Jvm.ClassFile.FieldType.int) ∈ ce_GW := gT_4 _ (List.mem_of_getElem? (i := 102) rfl) rfl
theorem gw_823 : Cond.methodLink "CarcasswrightLaw" 200 ⟨"CarcasswrightLaw", "obstacle", "(LCarcasswright;IIIII[J)I"⟩ ∈ ce_GW := gT_4 _ (List.mem_of_getElem? (i := 103) rfl) rfl
theorem gw_824 : Cond.static ⟨"CarcasswrightLaw", "obstacle", "(LCarcasswright;IIIII[J)I"⟩ ∈ ce_GW := gT_4 _ (List.mem_of_getElem? (i := 104) rfl) rfl
theorem gw_825 : Cond.codeWith ⟨"CarcasswrightLaw", "obstacle", "(LCarcasswright;IIIII[J)I"⟩ method_7_code 8 (Option.some Jvm.ClassFile.FieldType.int) [(0, 16, 19, 27), (0, 16, 23, 13), (0, 16, 27, 15)] ∈ ce_GW := gT_4 _ (List.mem_of_getElem? (i := 105) rfl) rfl
theorem gw_826 : Cond.methodLink "CarcasswrightLaw" 33 ⟨"Carcasswright", "obstacle", "(IIIII)I"⟩ ∈ ce_GW := gT_4 _ (List.mem_of_getElem? (i := 106) rfl) rfl
theorem gw_827 : Cond.instanceMethod ⟨"Carcasswright", "obstacle", "(IIIII)I"⟩ ∈ ce_GW := gT_4 _ (List.mem_of_getElem? (i := 107) rfl) rfl
theorem gw_828 : Cond.selects "Carcasswright" ⟨"Carcasswright", "obstacle", "(IIIII)I"⟩ ⟨"Carcasswright", "obstacle", "(IIIII)I"⟩ ∈ ce_GW := gT_4 _ (List.mem_of_getElem? (i := 108) rfl) rfl
theorem gw_829 : Cond.code ⟨"Carcasswright", "obstacle", "(IIIII)I"⟩ prog_1_method_7_code 6 (Option.some Jvm.ClassFile.FieldType.int) ∈ ce_GW := gT_4 _ (List.mem_of_getElem? (i := 109) rfl) rfl
theorem gw_834 : Cond.methodLink "CarcasswrightLaw" 204 ⟨"CarcasswrightLaw", "type", "(LCarcasswright;C[J)I"⟩ ∈ ce_GW := gT_4 _ (List.mem_of_getElem? (i := 114) rfl) rfl
theorem gw_835 : Cond.static ⟨"CarcasswrightLaw", "type", "(LCarcasswright;C[J)I"⟩ ∈ ce_GW := gT_4 _ (List.mem_of_getElem? (i := 115) rfl) rfl
theorem gw_836 : Cond.codeWith ⟨"CarcasswrightLaw", "type", "(LCarcasswright;C[J)I"⟩ method_8_code 4 (Option.some Jvm.ClassFile.FieldType.int) [(0, 9, 12, 15)] ∈ ce_GW := gT_4 _ (List.mem_of_getElem? (i := 116) rfl) rfl
theorem gw_837 : Cond.methodLink "CarcasswrightLaw" 37 ⟨"Carcasswright", "type", "(C)I"⟩ ∈ ce_GW := gT_4 _ (List.mem_of_getElem? (i := 117) rfl) rfl
theorem gw_838 : Cond.instanceMethod ⟨"Carcasswright", "type", "(C)I"⟩ ∈ ce_GW := gT_4 _ (List.mem_of_getElem? (i := 118) rfl) rfl
theorem gw_839 : Cond.selects "Carcasswright" ⟨"Carcasswright", "type", "(C)I"⟩ ⟨"Carcasswright", "type", "(C)I"⟩ ∈ ce_GW := gT_4 _ (List.mem_of_getElem? (i := 119) rfl) rfl
theorem gw_840 : Cond.code ⟨"Carcasswright", "type", "(C)I"⟩ prog_1_method_8_code 2 (Option.some Jvm.ClassFile.FieldType.int) ∈ ce_GW := gT_4 _ (List.mem_of_getElem? (i := 120) rfl) rfl
theorem gw_841 : Cond.methodLink "Carcasswright" 135 ⟨"Carcasswright$Types", "append", "(C)I"⟩ ∈ ce_GW := gT_4 _ (List.mem_of_getElem? (i := 121) rfl) rfl
theorem gw_842 : Cond.instanceMethod ⟨"Carcasswright$Types", "append", "(C)I"⟩ ∈ ce_GW := gT_4 _ (List.mem_of_getElem? (i := 122) rfl) rfl
theorem gw_843 : Cond.selects "Carcasswright$Types" ⟨"Carcasswright$Types", "append", "(C)I"⟩ ⟨"Carcasswright$Types", "append", "(C)I"⟩ ∈ ce_GW := gT_4 _ (List.mem_of_getElem? (i := 123) rfl) rfl
theorem gw_844 : Cond.code ⟨"Carcasswright$Types", "append", "(C)I"⟩ prog_11_method_4_code 2 (Option.some Jvm.ClassFile.FieldType.int) ∈ ce_GW := gT_4 _ (List.mem_of_getElem? (i := 124) rfl) rfl
theorem gw_845 : Cond.methodLink "CarcasswrightLaw" 212 ⟨"CarcasswrightLaw", "fault", "(LCarcasswright;[J)I"⟩ ∈ ce_GW := gT_4 _ (List.mem_of_getElem? (i := 125) rfl) rfl
theorem gw_846 : Cond.static ⟨"CarcasswrightLaw", "fault", "(LCarcasswright;[J)I"⟩ ∈ ce_GW := gT_4 _ (List.mem_of_getElem? (i := 126) rfl) rfl
theorem gw_847 : Cond.codeWith ⟨"CarcasswrightLaw", "fault", "(LCarcasswright;[J)I"⟩ method_9_code 3 (Option.some Jvm.ClassFile.FieldType.int) [(0, 8, 11, 44)] ∈ ce_GW := gT_4 _ (List.mem_of_getElem? (i := 127) rfl) rfl
theorem gw_848 : Cond.classLink "CarcasswrightLaw" 44 "java/util/NoSuchElementException" ∈ ce_GW := gT_4 _ (List.mem_of_getElem? (i := 128) rfl) rfl
theorem gw_849 : Cond.methodLink "CarcasswrightLaw" 41 ⟨"Carcasswright", "fault", "()I"⟩ ∈ ce_GW := gT_4 _ (List.mem_of_getElem? (i := 129) rfl) rfl
theorem gw_850 : Cond.instanceMethod ⟨"Carcasswright", "fault", "()I"⟩ ∈ ce_GW := gT_4 _ (List.mem_of_getElem? (i := 130) rfl) rfl
theorem gw_851 : Cond.selects "Carcasswright" ⟨"Carcasswright", "fault", "()I"⟩ ⟨"Carcasswright", "fault", "()I"⟩ ∈ ce_GW := gT_4 _ (List.mem_of_getElem? (i := 131) rfl) rfl
theorem gw_852 : Cond.code ⟨"Carcasswright", "fault", "()I"⟩ prog_1_method_10_code 1 (Option.some Jvm.ClassFile.FieldType.int) ∈ ce_GW := gT_4 _ (List.mem_of_getElem? (i := 132) rfl) rfl
theorem gw_853 : Cond.methodLink "Carcasswright" 143 ⟨"Carcasswright$Types", "read", "()V"⟩ ∈ ce_GW := gT_4 _ (List.mem_of_getElem? (i := 133) rfl) rfl
theorem gw_854 : Cond.instanceMethod ⟨"Carcasswright$Types", "read", "()V"⟩ ∈ ce_GW := gT_4 _ (List.mem_of_getElem? (i := 134) rfl) rfl
theorem gw_855 : Cond.selects "Carcasswright$Types" ⟨"Carcasswright$Types", "read", "()V"⟩ ⟨"Carcasswright$Types", "read", "()V"⟩ ∈ ce_GW := gT_4 _ (List.mem_of_getElem? (i := 135) rfl) rfl
theorem gw_856 : Cond.code ⟨"Carcasswright$Types", "read", "()V"⟩ prog_11_method_8_code 2 Option.none ∈ ce_GW := gT_4 _ (List.mem_of_getElem? (i := 136) rfl) rfl
theorem gw_857 : Cond.methodLink "Carcasswright$Types" 50 ⟨"Carcasswright$ModuleType", "reset", "(C)V"⟩ ∈ ce_GW := gT_4 _ (List.mem_of_getElem? (i := 137) rfl) rfl
theorem gw_858 : Cond.instanceMethod ⟨"Carcasswright$ModuleType", "reset", "(C)V"⟩ ∈ ce_GW := gT_4 _ (List.mem_of_getElem? (i := 138) rfl) rfl
theorem gw_859 : Cond.selects "Carcasswright$ModuleType" ⟨"Carcasswright$ModuleType", "reset", "(C)V"⟩ ⟨"Carcasswright$ModuleType", "reset", "(C)V"⟩ ∈ ce_GW := gT_4 _ (List.mem_of_getElem? (i := 139) rfl) rfl
theorem gw_860 : Cond.code ⟨"Carcasswright$ModuleType", "reset", "(C)V"⟩ prog_4_method_2_code 2 Option.none ∈ ce_GW := gT_4 _ (List.mem_of_getElem? (i := 140) rfl) rfl
theorem gw_861 : Cond.methodLink "Carcasswright$Types" 60 ⟨"Carcasswright$Types", "hasFault", "()Z"⟩ ∈ ce_GW := gT_4 _ (List.mem_of_getElem? (i := 141) rfl) rfl
theorem gw_862 : Cond.instanceMethod ⟨"Carcasswright$Types", "hasFault", "()Z"⟩ ∈ ce_GW := gT_4 _ (List.mem_of_getElem? (i := 142) rfl) rfl
theorem gw_863 : Cond.selects "Carcasswright$Types" ⟨"Carcasswright$Types", "hasFault", "()Z"⟩ ⟨"Carcasswright$Types", "hasFault", "()Z"⟩ ∈ ce_GW := gT_4 _ (List.mem_of_getElem? (i := 143) rfl) rfl
theorem gw_864 : Cond.code ⟨"Carcasswright$Types", "hasFault", "()Z"⟩ prog_11_method_7_code 1 (Option.some Jvm.ClassFile.FieldType.boolean) ∈ ce_GW := gT_4 _ (List.mem_of_getElem? (i := 144) rfl) rfl
theorem gw_878 : Cond.instanceMethod ⟨"Carcasswright$Types", "typeAt", "(I)LCarcasswright$ModuleType;"⟩ ∈ ce_GW := gT_4 _ (List.mem_of_getElem? (i := 158) rfl) rfl
theorem gw_879 : Cond.selects "Carcasswright$Types" ⟨"Carcasswright$Types", "typeAt", "(I)LCarcasswright$ModuleType;"⟩ ⟨"Carcasswright$Types", "typeAt", "(I)LCarcasswright$ModuleType;"⟩ ∈ ce_GW := gT_4 _ (List.mem_of_getElem? (i := 159) rfl) rfl
theorem gw_880 : Cond.code ⟨"Carcasswright$Types", "typeAt", "(I)LCarcasswright$ModuleType;"⟩ prog_11_method_3_code 2 (Option.some (Jvm.ClassFile.FieldType.object "Carcasswright$ModuleType")) ∈ ce_GW := gT_4 _ (List.mem_of_getElem? (i := 160) rfl) rfl
theorem gw_881 : Cond.classLink "Carcasswright$Types" 28 "java/lang/IndexOutOfBoundsException" ∈ ce_GW := gT_4 _ (List.mem_of_getElem? (i := 161) rfl) rfl
theorem gw_882 : Cond.methodLink "Carcasswright$Types" 30 ⟨"java/lang/IndexOutOfBoundsException", "<init>", "()V"⟩ ∈ ce_GW := gT_4 _ (List.mem_of_getElem? (i := 162) rfl) rfl
theorem gw_903 : Cond.methodLink "Carcasswright$Types" 68 ⟨"Carcasswright$Types", "fail", "(IC)V"⟩ ∈ ce_GW := gT_4 _ (List.mem_of_getElem? (i := 183) rfl) rfl
theorem gw_904 : Cond.instanceMethod ⟨"Carcasswright$Types", "fail", "(IC)V"⟩ ∈ ce_GW := gT_4 _ (List.mem_of_getElem? (i := 184) rfl) rfl
theorem gw_905 : Cond.selects "Carcasswright$Types" ⟨"Carcasswright$Types", "fail", "(IC)V"⟩ ⟨"Carcasswright$Types", "fail", "(IC)V"⟩ ∈ ce_GW := gT_4 _ (List.mem_of_getElem? (i := 185) rfl) rfl
theorem gw_906 : Cond.code ⟨"Carcasswright$Types", "fail", "(IC)V"⟩ prog_11_method_9_code 3 Option.none ∈ ce_GW := gT_4 _ (List.mem_of_getElem? (i := 186) rfl) rfl
theorem gw_911 : Cond.methodLink "Carcasswright" 146 ⟨"Carcasswright$Types", "hasFault", "()Z"⟩ ∈ ce_GW := gT_4 _ (List.mem_of_getElem? (i := 191) rfl) rfl
theorem gw_912 : Cond.classLink "Carcasswright" 149 "java/util/NoSuchElementException" ∈ ce_GW := gT_4 _ (List.mem_of_getElem? (i := 192) rfl) rfl
theorem gw_921 : Cond.methodLink "Carcasswright" 151 ⟨"java/util/NoSuchElementException", "<init>", "()V"⟩ ∈ ce_GW := gT_4 _ (List.mem_of_getElem? (i := 201) rfl) rfl
theorem gw_927 : Cond.methodLink "CarcasswrightLaw" 215 ⟨"CarcasswrightLaw", "faultKind", "(LCarcasswright;[J)I"⟩ ∈ ce_GW := gT_4 _ (List.mem_of_getElem? (i := 207) rfl) rfl
theorem gw_928 : Cond.static ⟨"CarcasswrightLaw", "faultKind", "(LCarcasswright;[J)I"⟩ ∈ ce_GW := gT_4 _ (List.mem_of_getElem? (i := 208) rfl) rfl
theorem gw_929 : Cond.codeWith ⟨"CarcasswrightLaw", "faultKind", "(LCarcasswright;[J)I"⟩ method_10_code 3 (Option.some Jvm.ClassFile.FieldType.int) [(0, 8, 11, 44)] ∈ ce_GW := gT_4 _ (List.mem_of_getElem? (i := 209) rfl) rfl
theorem gw_930 : Cond.methodLink "CarcasswrightLaw" 46 ⟨"Carcasswright", "faultKind", "()C"⟩ ∈ ce_GW := gT_4 _ (List.mem_of_getElem? (i := 210) rfl) rfl
theorem gw_931 : Cond.instanceMethod ⟨"Carcasswright", "faultKind", "()C"⟩ ∈ ce_GW := gT_4 _ (List.mem_of_getElem? (i := 211) rfl) rfl
theorem gw_932 : Cond.selects "Carcasswright" ⟨"Carcasswright", "faultKind", "()C"⟩ ⟨"Carcasswright", "faultKind", "()C"⟩ ∈ ce_GW := gT_4 _ (List.mem_of_getElem? (i := 212) rfl) rfl
theorem gw_933 : Cond.code ⟨"Carcasswright", "faultKind", "()C"⟩ prog_1_method_11_code 1 (Option.some Jvm.ClassFile.FieldType.char) ∈ ce_GW := gT_4 _ (List.mem_of_getElem? (i := 213) rfl) rfl
theorem gw_934 : Cond.methodLink "CarcasswrightLaw" 218 ⟨"CarcasswrightLaw", "addType", "(LCarcasswright;[J)I"⟩ ∈ ce_GW := gT_4 _ (List.mem_of_getElem? (i := 214) rfl) rfl
theorem gw_935 : Cond.static ⟨"CarcasswrightLaw", "addType", "(LCarcasswright;[J)I"⟩ ∈ ce_GW := gT_4 _ (List.mem_of_getElem? (i := 215) rfl) rfl
theorem gw_936 : Cond.codeWith ⟨"CarcasswrightLaw", "addType", "(LCarcasswright;[J)I"⟩ method_11_code 3 (Option.some Jvm.ClassFile.FieldType.int) [(0, 8, 11, 13), (0, 8, 14, 15)] ∈ ce_GW := gT_4 _ (List.mem_of_getElem? (i := 216) rfl) rfl
theorem gw_937 : Cond.methodLink "CarcasswrightLaw" 50 ⟨"Carcasswright", "addType", "()I"⟩ ∈ ce_GW := gT_4 _ (List.mem_of_getElem? (i := 217) rfl) rfl
theorem gw_938 : Cond.instanceMethod ⟨"Carcasswright", "addType", "()I"⟩ ∈ ce_GW := gT_4 _ (List.mem_of_getElem? (i := 218) rfl) rfl
theorem gw_939 : Cond.selects "Carcasswright" ⟨"Carcasswright", "addType", "()I"⟩ ⟨"Carcasswright", "addType", "()I"⟩ ∈ ce_GW := gT_4 _ (List.mem_of_getElem? (i := 219) rfl) rfl
theorem gw_940 : Cond.code ⟨"Carcasswright", "addType", "()I"⟩ prog_1_method_12_code 1 (Option.some Jvm.ClassFile.FieldType.int) ∈ ce_GW := gT_4 _ (List.mem_of_getElem? (i := 220) rfl) rfl
theorem gw_946 : Cond.methodLink "CarcasswrightLaw" 221 ⟨"CarcasswrightLaw", "told", "(LCarcasswright;IC[J)I"⟩ ∈ ce_GW := gT_4 _ (List.mem_of_getElem? (i := 226) rfl) rfl
theorem gw_947 : Cond.static ⟨"CarcasswrightLaw", "told", "(LCarcasswright;IC[J)I"⟩ ∈ ce_GW := gT_4 _ (List.mem_of_getElem? (i := 227) rfl) rfl
theorem gw_948 : Cond.codeWith ⟨"CarcasswrightLaw", "told", "(LCarcasswright;IC[J)I"⟩ method_12_code 5 (Option.some Jvm.ClassFile.FieldType.int) [(0, 10, 13, 27), (0, 10, 17, 13)] ∈ ce_GW := gT_4 _ (List.mem_of_getElem? (i := 228) rfl) rfl
theorem gw_949 : Cond.methodLink "CarcasswrightLaw" 53 ⟨"Carcasswright", "told", "(IC)I"⟩ ∈ ce_GW := gT_4 _ (List.mem_of_getElem? (i := 229) rfl) rfl
theorem gw_950 : Cond.instanceMethod ⟨"Carcasswright", "told", "(IC)I"⟩ ∈ ce_GW := gT_4 _ (List.mem_of_getElem? (i := 230) rfl) rfl
theorem gw_951 : Cond.selects "Carcasswright" ⟨"Carcasswright", "told", "(IC)I"⟩ ⟨"Carcasswright", "told", "(IC)I"⟩ ∈ ce_GW := gT_4 _ (List.mem_of_getElem? (i := 231) rfl) rfl
theorem gw_952 : Cond.code ⟨"Carcasswright", "told", "(IC)I"⟩ prog_1_method_13_code 4 (Option.some Jvm.ClassFile.FieldType.int) ∈ ce_GW := gT_4 _ (List.mem_of_getElem? (i := 232) rfl) rfl
theorem gw_953 : Cond.methodLink "Carcasswright" 165 ⟨"Carcasswright$Types", "typeAt", "(I)LCarcasswright$ModuleType;"⟩ ∈ ce_GW := gT_4 _ (List.mem_of_getElem? (i := 233) rfl) rfl
theorem gw_954 : Cond.methodLink "CarcasswrightLaw" 225 ⟨"CarcasswrightLaw", "place", "(LCarcasswright;IIII[J)I"⟩ ∈ ce_GW := gT_4 _ (List.mem_of_getElem? (i := 234) rfl) rfl
theorem gw_955 : Cond.static ⟨"CarcasswrightLaw", "place", "(LCarcasswright;IIII[J)I"⟩ ∈ ce_GW := gT_4 _ (List.mem_of_getElem? (i := 235) rfl) rfl
theorem gw_956 : Cond.codeWith ⟨"CarcasswrightLaw", "place", "(LCarcasswright;IIII[J)I"⟩ method_13_code 7 (Option.some Jvm.ClassFile.FieldType.int) [(0, 14, 17, 27), (0, 14, 21, 13), (0, 14, 25, 15), (0, 14, 29, 21)] ∈ ce_GW := gT_4 _ (List.mem_of_getElem? (i := 236) rfl) rfl
theorem gw_957 : Cond.methodLink "CarcasswrightLaw" 57 ⟨"Carcasswright", "place", "(IIII)I"⟩ ∈ ce_GW := gT_4 _ (List.mem_of_getElem? (i := 237) rfl) rfl
theorem gw_958 : Cond.instanceMethod ⟨"Carcasswright", "place", "(IIII)I"⟩ ∈ ce_GW := gT_4 _ (List.mem_of_getElem? (i := 238) rfl) rfl
theorem gw_959 : Cond.selects "Carcasswright" ⟨"Carcasswright", "place", "(IIII)I"⟩ ⟨"Carcasswright", "place", "(IIII)I"⟩ ∈ ce_GW := gT_4 _ (List.mem_of_getElem? (i := 239) rfl) rfl
theorem gw_960 : Cond.code ⟨"Carcasswright", "place", "(IIII)I"⟩ prog_1_method_14_code 6 (Option.some Jvm.ClassFile.FieldType.int) ∈ ce_GW := gT_5 _ (List.mem_of_getElem? (i := 0) rfl) rfl
theorem gw_961 : Cond.methodLink "Carcasswright" 186 ⟨"Carcasswright", "isNoColour", "(I)Z"⟩ ∈ ce_GW := gT_5 _ (List.mem_of_getElem? (i := 1) rfl) rfl
theorem gw_962 : Cond.static ⟨"Carcasswright", "isNoColour", "(I)Z"⟩ ∈ ce_GW := gT_5 _ (List.mem_of_getElem? (i := 2) rfl) rfl
theorem gw_963 : Cond.code ⟨"Carcasswright", "isNoColour", "(I)Z"⟩ prog_1_method_54_code 1 (Option.some Jvm.ClassFile.FieldType.boolean) ∈ ce_GW := gT_5 _ (List.mem_of_getElem? (i := 3) rfl) rfl
theorem gw_997 : Cond.methodLink "CarcasswrightLaw" 229 ⟨"CarcasswrightLaw", "shift", "(LCarcasswright;II[J)I"⟩ ∈ ce_GW := gT_5 _ (List.mem_of_getElem? (i := 37) rfl) rfl
theorem gw_998 : Cond.static ⟨"CarcasswrightLaw", "shift", "(LCarcasswright;II[J)I"⟩ ∈ ce_GW := gT_5 _ (List.mem_of_getElem? (i := 38) rfl) rfl
theorem gw_999 : Cond.codeWith ⟨"CarcasswrightLaw", "shift", "(LCarcasswright;II[J)I"⟩ method_14_code 5 (Option.some Jvm.ClassFile.FieldType.int) [(0, 10, 13, 27), (0, 10, 17, 13), (0, 10, 21, 21)] ∈ ce_GW := gT_5 _ (List.mem_of_getElem? (i := 39) rfl) rfl
theorem gw_1000 : Cond.methodLink "CarcasswrightLaw" 61 ⟨"Carcasswright", "shift", "(II)I"⟩ ∈ ce_GW := gT_5 _ (List.mem_of_getElem? (i := 40) rfl) rfl
theorem gw_1001 : Cond.instanceMethod ⟨"Carcasswright", "shift", "(II)I"⟩ ∈ ce_GW := gT_5 _ (List.mem_of_getElem? (i := 41) rfl) rfl
theorem gw_1002 : Cond.selects "Carcasswright" ⟨"Carcasswright", "shift", "(II)I"⟩ ⟨"Carcasswright", "shift", "(II)I"⟩ ∈ ce_GW := gT_5 _ (List.mem_of_getElem? (i := 42) rfl) rfl
theorem gw_1003 : Cond.code ⟨"Carcasswright", "shift", "(II)I"⟩ prog_1_method_15_code 5 (Option.some Jvm.ClassFile.FieldType.int) ∈ ce_GW := gT_5 _ (List.mem_of_getElem? (i := 43) rfl) rfl
theorem gw_1004 : Cond.methodLink "Carcasswright" 198 ⟨"Carcasswright$Room", "moduleAt", "(I)LCarcasswright$PlacedModule;"⟩ ∈ ce_GW := gT_5 _ (List.mem_of_getElem? (i := 44) rfl) rfl
theorem gw_1005 : Cond.methodLink "CarcasswrightLaw" 233 ⟨"CarcasswrightLaw", "change", "(LCarcasswright;II[J)I"⟩ ∈ ce_GW := gT_5 _ (List.mem_of_getElem? (i := 45) rfl) rfl
theorem gw_1006 : Cond.static ⟨"CarcasswrightLaw", "change", "(LCarcasswright;II[J)I"⟩ ∈ ce_GW := gT_5 _ (List.mem_of_getElem? (i := 46) rfl) rfl
theorem gw_1007 : Cond.codeWith ⟨"CarcasswrightLaw", "change", "(LCarcasswright;II[J)I"⟩ method_15_code 5 (Option.some Jvm.ClassFile.FieldType.int) [(0, 10, 13, 27), (0, 10, 17, 21)] ∈ ce_GW := gT_5 _ (List.mem_of_getElem? (i := 47) rfl) rfl
theorem gw_1008 : Cond.methodLink "CarcasswrightLaw" 65 ⟨"Carcasswright", "change", "(II)I"⟩ ∈ ce_GW := gT_5 _ (List.mem_of_getElem? (i := 48) rfl) rfl
theorem gw_1009 : Cond.instanceMethod ⟨"Carcasswright", "change", "(II)I"⟩ ∈ ce_GW := gT_5 _ (List.mem_of_getElem? (i := 49) rfl) rfl
theorem gw_1010 : Cond.selects "Carcasswright" ⟨"Carcasswright", "change", "(II)I"⟩ ⟨"Carcasswright", "change", "(II)I"⟩ ∈ ce_GW := gT_5 _ (List.mem_of_getElem? (i := 50) rfl) rfl
theorem gw_1011 : Cond.code ⟨"Carcasswright", "change", "(II)I"⟩ prog_1_method_16_code 9 (Option.some Jvm.ClassFile.FieldType.int) ∈ ce_GW := gT_5 _ (List.mem_of_getElem? (i := 51) rfl) rfl
theorem gw_1025 : Cond.methodLink "CarcasswrightLaw" 236 ⟨"CarcasswrightLaw", "clash", "(LCarcasswright;I[J)I"⟩ ∈ ce_GW := gT_5 _ (List.mem_of_getElem? (i := 65) rfl) rfl
theorem gw_1026 : Cond.static ⟨"CarcasswrightLaw", "clash", "(LCarcasswright;I[J)I"⟩ ∈ ce_GW := gT_5 _ (List.mem_of_getElem? (i := 66) rfl) rfl
theorem gw_1027 : Cond.codeWith ⟨"CarcasswrightLaw", "clash", "(LCarcasswright;I[J)I"⟩ method_16_code 4 (Option.some Jvm.ClassFile.FieldType.int) [(0, 9, 12, 44)] ∈ ce_GW := gT_5 _ (List.mem_of_getElem? (i := 67) rfl) rfl
theorem gw_1028 : Cond.methodLink "CarcasswrightLaw" 68 ⟨"Carcasswright", "clash", "(I)C"⟩ ∈ ce_GW := gT_5 _ (List.mem_of_getElem? (i := 68) rfl) rfl
theorem gw_1029 : Cond.instanceMethod ⟨"Carcasswright", "clash", "(I)C"⟩ ∈ ce_GW := gT_5 _ (List.mem_of_getElem? (i := 69) rfl) rfl
theorem gw_1030 : Cond.selects "Carcasswright" ⟨"Carcasswright", "clash", "(I)C"⟩ ⟨"Carcasswright", "clash", "(I)C"⟩ ∈ ce_GW := gT_5 _ (List.mem_of_getElem? (i := 70) rfl) rfl
theorem gw_1031 : Cond.code ⟨"Carcasswright", "clash", "(I)C"⟩ prog_1_method_17_code 2 (Option.some Jvm.ClassFile.FieldType.char) ∈ ce_GW := gT_5 _ (List.mem_of_getElem? (i := 71) rfl) rfl
theorem gw_1032 : Cond.methodLink "CarcasswrightLaw" 239 ⟨"CarcasswrightLaw", "clashNumber", "(LCarcasswright;I[J)I"⟩ ∈ ce_GW := gT_5 _ (List.mem_of_getElem? (i := 72) rfl) rfl
theorem gw_1033 : Cond.static ⟨"CarcasswrightLaw", "clashNumber", "(LCarcasswright;I[J)I"⟩ ∈ ce_GW := gT_5 _ (List.mem_of_getElem? (i := 73) rfl) rfl
theorem gw_1034 : Cond.codeWith ⟨"CarcasswrightLaw", "clashNumber", "(LCarcasswright;I[J)I"⟩ method_17_code 4 (Option.some Jvm.ClassFile.FieldType.int) [(0, 9, 12, 44)] ∈ ce_GW := gT_5 _ (List.mem_of_getElem? (i := 74) rfl) rfl
theorem gw_1035 : Cond.methodLink "CarcasswrightLaw" 72 ⟨"Carcasswright", "clashNumber", "(I)I"⟩ ∈ ce_GW := gT_5 _ (List.mem_of_getElem? (i := 75) rfl) rfl
theorem gw_1036 : Cond.instanceMethod ⟨"Carcasswright", "clashNumber", "(I)I"⟩ ∈ ce_GW := gT_5 _ (List.mem_of_getElem? (i := 76) rfl) rfl
theorem gw_1037 : Cond.selects "Carcasswright" ⟨"Carcasswright", "clashNumber", "(I)I"⟩ ⟨"Carcasswright", "clashNumber", "(I)I"⟩ ∈ ce_GW := gT_5 _ (List.mem_of_getElem? (i := 77) rfl) rfl
theorem gw_1038 : Cond.code ⟨"Carcasswright", "clashNumber", "(I)I"⟩ prog_1_method_18_code 2 (Option.some Jvm.ClassFile.FieldType.int) ∈ ce_GW := gT_5 _ (List.mem_of_getElem? (i := 78) rfl) rfl
theorem gw_1039 : Cond.methodLink "CarcasswrightLaw" 242 ⟨"CarcasswrightLaw", "from", "(LCarcasswright;I[J)I"⟩ ∈ ce_GW := gT_5 _ (List.mem_of_getElem? (i := 79) rfl) rfl
theorem gw_1040 : Cond.static ⟨"CarcasswrightLaw", "from", "(LCarcasswright;I[J)I"⟩ ∈ ce_GW := gT_5 _ (List.mem_of_getElem? (i := 80) rfl) rfl
theorem gw_1041 : Cond.codeWith ⟨"CarcasswrightLaw", "from", "(LCarcasswright;I[J)I"⟩ method_18_code 4 (Option.some Jvm.ClassFile.FieldType.int) [(0, 9, 12, 27)] ∈ ce_GW := gT_5 _ (List.mem_of_getElem? (i := 81) rfl) rfl
theorem gw_1042 : Cond.methodLink "CarcasswrightLaw" 75 ⟨"Carcasswright", "from", "(I)I"⟩ ∈ ce_GW := gT_5 _ (List.mem_of_getElem? (i := 82) rfl) rfl
theorem gw_1043 : Cond.instanceMethod ⟨"Carcasswright", "from", "(I)I"⟩ ∈ ce_GW := gT_5 _ (List.mem_of_getElem? (i := 83) rfl) rfl
theorem gw_1044 : Cond.selects "Carcasswright" ⟨"Carcasswright", "from", "(I)I"⟩ ⟨"Carcasswright", "from", "(I)I"⟩ ∈ ce_GW := gT_5 _ (List.mem_of_getElem? (i := 84) rfl) rfl
theorem gw_1045 : Cond.code ⟨"Carcasswright", "from", "(I)I"⟩ prog_1_method_19_code 2 (Option.some Jvm.ClassFile.FieldType.int) ∈ ce_GW := gT_5 _ (List.mem_of_getElem? (i := 85) rfl) rfl
theorem gw_1046 : Cond.methodLink "CarcasswrightLaw" 245 ⟨"CarcasswrightLaw", "free", "(LCarcasswright;IZ[J)I"⟩ ∈ ce_GW := gT_5 _ (List.mem_of_getElem? (i := 86) rfl) rfl
theorem gw_1047 : Cond.static ⟨"CarcasswrightLaw", "free", "(LCarcasswright;IZ[J)I"⟩ ∈ ce_GW := gT_5 _ (List.mem_of_getElem? (i := 87) rfl) rfl
theorem gw_1048 : Cond.codeWith ⟨"CarcasswrightLaw", "free", "(LCarcasswright;IZ[J)I"⟩ method_19_code 5 (Option.some Jvm.ClassFile.FieldType.int) [(0, 10, 13, 27)] ∈ ce_GW := gT_5 _ (List.mem_of_getElem? (i := 88) rfl) rfl
theorem gw_1049 : Cond.methodLink "CarcasswrightLaw" 78 ⟨"Carcasswright", "free", "(IZ)I"⟩ ∈ ce_GW := gT_5 _ (List.mem_of_getElem? (i := 89) rfl) rfl
theorem gw_1050 : Cond.instanceMethod ⟨"Carcasswright", "free", "(IZ)I"⟩ ∈ ce_GW := gT_5 _ (List.mem_of_getElem? (i := 90) rfl) rfl
theorem gw_1051 : Cond.selects "Carcasswright" ⟨"Carcasswright", "free", "(IZ)I"⟩ ⟨"Carcasswright", "free", "(IZ)I"⟩ ∈ ce_GW := gT_5 _ (List.mem_of_getElem? (i := 91) rfl) rfl
theorem gw_1052 : Cond.code ⟨"Carcasswright", "free", "(IZ)I"⟩ prog_1_method_20_code 3 (Option.some Jvm.ClassFile.FieldType.int) ∈ ce_GW := gT_5 _ (List.mem_of_getElem? (i := 92) rfl) rfl
theorem gw_1053 : Cond.methodLink "Carcasswright" 245 ⟨"Carcasswright$Room", "freeRows", "(IZZ)I"⟩ ∈ ce_GW := gT_5 _ (List.mem_of_getElem? (i := 93) rfl) rfl
theorem gw_1054 : Cond.instanceMethod ⟨"Carcasswright$Room", "freeRows", "(IZZ)I"⟩ ∈ ce_GW := gT_5 _ (List.mem_of_getElem? (i := 94) rfl) rfl
theorem gw_1055 : Cond.selects "Carcasswright$Room" ⟨"Carcasswright$Room", "freeRows", "(IZZ)I"⟩ ⟨"Carcasswright$Room", "freeRows", "(IZZ)I"⟩ ∈ ce_GW := gT_5 _ (List.mem_of_getElem? (i := 95) rfl) rfl
theorem gw_1056 : Cond.code ⟨"Carcasswright$Room", "freeRows", "(IZZ)I"⟩ prog_8_method_21_code 11 (Option.some Jvm.ClassFile.FieldType.int) ∈ ce_GW := gT_5 _ (List.mem_of_getElem? (i := 96) rfl) rfl
theorem gw_1061 : Cond.methodLink "CarcasswrightLaw" 249 ⟨"CarcasswrightLaw", "widest", "(LCarcasswright;IZ[J)I"⟩ ∈ ce_GW := gT_5 _ (List.mem_of_getElem? (i := 101) rfl) rfl
theorem gw_1062 : Cond.static ⟨"CarcasswrightLaw", "widest", "(LCarcasswright;IZ[J)I"⟩ ∈ ce_GW := gT_5 _ (List.mem_of_getElem? (i := 102) rfl) rfl
theorem gw_1063 : Cond.codeWith ⟨"CarcasswrightLaw", "widest", "(LCarcasswright;IZ[J)I"⟩ method_20_code 5 (Option.some Jvm.ClassFile.FieldType.int) [(0, 10, 13, 27)] ∈ ce_GW := gT_5 _ (List.mem_of_getElem? (i := 103) rfl) rfl
theorem gw_1064 : Cond.methodLink "CarcasswrightLaw" 82 ⟨"Carcasswright", "widest", "(IZ)I"⟩ ∈ ce_GW := gT_5 _ (List.mem_of_getElem? (i := 104) rfl) rfl
theorem gw_1065 : Cond.instanceMethod ⟨"Carcasswright", "widest", "(IZ)I"⟩ ∈ ce_GW := gT_5 _ (List.mem_of_getElem? (i := 105) rfl) rfl
theorem gw_1066 : Cond.selects "Carcasswright" ⟨"Carcasswright", "widest", "(IZ)I"⟩ ⟨"Carcasswright", "widest", "(IZ)I"⟩ ∈ ce_GW := gT_5 _ (List.mem_of_getElem? (i := 106) rfl) rfl
theorem gw_1067 : Cond.code ⟨"Carcasswright", "widest", "(IZ)I"⟩ prog_1_method_21_code 3 (Option.some Jvm.ClassFile.FieldType.int) ∈ ce_GW := gT_5 _ (List.mem_of_getElem? (i := 107) rfl) rfl
theorem gw_1068 : Cond.methodLink "CarcasswrightLaw" 252 ⟨"CarcasswrightLaw", "parts", "(LCarcasswright;I[J)I"⟩ ∈ ce_GW := gT_5 _ (List.mem_of_getElem? (i := 108) rfl) rfl
theorem gw_1069 : Cond.static ⟨"CarcasswrightLaw", "parts", "(LCarcasswright;I[J)I"⟩ ∈ ce_GW := gT_5 _ (List.mem_of_getElem? (i := 109) rfl) rfl
theorem gw_1070 : Cond.codeWith ⟨"CarcasswrightLaw", "parts", "(LCarcasswright;I[J)I"⟩ method_21_code 4 (Option.some Jvm.ClassFile.FieldType.int) [(0, 9, 12, 27)] ∈ ce_GW := gT_5 _ (List.mem_of_getElem? (i := 110) rfl) rfl
theorem gw_1071 : Cond.methodLink "CarcasswrightLaw" 85 ⟨"Carcasswright", "parts", "(I)I"⟩ ∈ ce_GW := gT_5 _ (List.mem_of_getElem? (i := 111) rfl) rfl
theorem gw_1072 : Cond.instanceMethod ⟨"Carcasswright", "parts", "(I)I"⟩ ∈ ce_GW := gT_5 _ (List.mem_of_getElem? (i := 112) rfl) rfl
theorem gw_1073 : Cond.selects "Carcasswright" ⟨"Carcasswright", "parts", "(I)I"⟩ ⟨"Carcasswright", "parts", "(I)I"⟩ ∈ ce_GW := gT_5 _ (List.mem_of_getElem? (i := 113) rfl) rfl
theorem gw_1074 : Cond.code ⟨"Carcasswright", "parts", "(I)I"⟩ prog_1_method_22_code 2 (Option.some Jvm.ClassFile.FieldType.int) ∈ ce_GW := gT_5 _ (List.mem_of_getElem? (i := 114) rfl) rfl
theorem gw_1075 : Cond.methodLink "CarcasswrightLaw" 255 ⟨"CarcasswrightLaw", "kindOf", "(LCarcasswright;II[J)I"⟩ ∈ ce_GW := gT_5 _ (List.mem_of_getElem? (i := 115) rfl) rfl
theorem gw_1076 : Cond.static ⟨"CarcasswrightLaw", "kindOf", "(LCarcasswright;II[J)I"⟩ ∈ ce_GW := gT_5 _ (List.mem_of_getElem? (i := 116) rfl) rfl
theorem gw_1077 : Cond.codeWith ⟨"CarcasswrightLaw", "kindOf", "(LCarcasswright;II[J)I"⟩ method_22_code 5 (Option.some Jvm.ClassFile.FieldType.int) [(0, 10, 13, 27)] ∈ ce_GW := gT_5 _ (List.mem_of_getElem? (i := 117) rfl) rfl
theorem gw_1078 : Cond.methodLink "CarcasswrightLaw" 88 ⟨"Carcasswright", "kindOf", "(II)C"⟩ ∈ ce_GW := gT_5 _ (List.mem_of_getElem? (i := 118) rfl) rfl
theorem gw_1079 : Cond.instanceMethod ⟨"Carcasswright", "kindOf", "(II)C"⟩ ∈ ce_GW := gT_5 _ (List.mem_of_getElem? (i := 119) rfl) rfl
theorem gw_1080 : Cond.selects "Carcasswright" ⟨"Carcasswright", "kindOf", "(II)C"⟩ ⟨"Carcasswright", "kindOf", "(II)C"⟩ ∈ ce_GW := gT_5 _ (List.mem_of_getElem? (i := 120) rfl) rfl
theorem gw_1081 : Cond.code ⟨"Carcasswright", "kindOf", "(II)C"⟩ prog_1_method_23_code 3 (Option.some Jvm.ClassFile.FieldType.char) ∈ ce_GW := gT_5 _ (List.mem_of_getElem? (i := 121) rfl) rfl
theorem gw_1082 : Cond.methodLink "Carcasswright" 249 ⟨"Carcasswright", "moduleWithPart", "(II)LCarcasswright$PlacedModule;"⟩ ∈ ce_GW := gT_5 _ (List.mem_of_getElem? (i := 122) rfl) rfl
theorem gw_1084 : Cond.instanceMethod ⟨"Carcasswright", "moduleWithPart", "(II)LCarcasswright$PlacedModule;"⟩ ∈ ce_GW := gT_5 _ (List.mem_of_getElem? (i := 124) rfl) rfl
theorem gw_1085 : Cond.code ⟨"Carcasswright", "moduleWithPart", "(II)LCarcasswright$PlacedModule;"⟩ prog_1_method_56_code 4 (Option.some (Jvm.ClassFile.FieldType.object "Carcasswright$PlacedModule")) ∈ ce_GW := gT_5 _ (List.mem_of_getElem? (i := 125) rfl) rfl
theorem gw_1086 : Cond.classLink "Carcasswright" 278 "java/lang/IndexOutOfBoundsException" ∈ ce_GW := gT_5 _ (List.mem_of_getElem? (i := 126) rfl) rfl
theorem gw_1087 : Cond.methodLink "Carcasswright" 280 ⟨"java/lang/IndexOutOfBoundsException", "<init>", "()V"⟩ ∈ ce_GW := gT_5 _ (List.mem_of_getElem? (i := 127) rfl) rfl
theorem gw_1089 : Cond.methodLink "CarcasswrightLaw" 258 ⟨"CarcasswrightLaw", "size", "(LCarcasswright;IIC[J)I"⟩ ∈ ce_GW := gT_5 _ (List.mem_of_getElem? (i := 129) rfl) rfl
theorem gw_1090 : Cond.static ⟨"CarcasswrightLaw", "size", "(LCarcasswright;IIC[J)I"⟩ ∈ ce_GW := gT_5 _ (List.mem_of_getElem? (i := 130) rfl) rfl
theorem gw_1091 : Cond.codeWith ⟨"CarcasswrightLaw", "size", "(LCarcasswright;IIC[J)I"⟩ method_23_code 6 (Option.some Jvm.ClassFile.FieldType.int) [(0, 12, 15, 27), (0, 12, 19, 13)] ∈ ce_GW := gT_5 _ (List.mem_of_getElem? (i := 131) rfl) rfl
theorem gw_1092 : Cond.methodLink "CarcasswrightLaw" 92 ⟨"Carcasswright", "size", "(IIC)I"⟩ ∈ ce_GW := gT_5 _ (List.mem_of_getElem? (i := 132) rfl) rfl
theorem gw_1093 : Cond.instanceMethod ⟨"Carcasswright", "size", "(IIC)I"⟩ ∈ ce_GW := gT_5 _ (List.mem_of_getElem? (i := 133) rfl) rfl
theorem gw_1094 : Cond.selects "Carcasswright" ⟨"Carcasswright", "size", "(IIC)I"⟩ ⟨"Carcasswright", "size", "(IIC)I"⟩ ∈ ce_GW := gT_5 _ (List.mem_of_getElem? (i := 134) rfl) rfl
theorem gw_1095 : Cond.code ⟨"Carcasswright", "size", "(IIC)I"⟩ prog_1_method_24_code 6 (Option.some Jvm.ClassFile.FieldType.int) ∈ ce_GW := gT_5 _ (List.mem_of_getElem? (i := 135) rfl) rfl
theorem gw_1107 : Cond.methodLink "CarcasswrightLaw" 262 ⟨"CarcasswrightLaw", "weight", "(LCarcasswright;II[J)I"⟩ ∈ ce_GW := gT_5 _ (List.mem_of_getElem? (i := 147) rfl) rfl
theorem gw_1108 : Cond.static ⟨"CarcasswrightLaw", "weight", "(LCarcasswright;II[J)I"⟩ ∈ ce_GW := gT_5 _ (List.mem_of_getElem? (i := 148) rfl) rfl
theorem gw_1109 : Cond.codeWith ⟨"CarcasswrightLaw", "weight", "(LCarcasswright;II[J)I"⟩ method_24_code 5 (Option.some Jvm.ClassFile.FieldType.int) [(0, 10, 13, 27)] ∈ ce_GW := gT_5 _ (List.mem_of_getElem? (i := 149) rfl) rfl
theorem gw_1110 : Cond.methodLink "CarcasswrightLaw" 96 ⟨"Carcasswright", "weight", "(II)I"⟩ ∈ ce_GW := gT_5 _ (List.mem_of_getElem? (i := 150) rfl) rfl
theorem gw_1111 : Cond.instanceMethod ⟨"Carcasswright", "weight", "(II)I"⟩ ∈ ce_GW := gT_5 _ (List.mem_of_getElem? (i := 151) rfl) rfl
theorem gw_1112 : Cond.selects "Carcasswright" ⟨"Carcasswright", "weight", "(II)I"⟩ ⟨"Carcasswright", "weight", "(II)I"⟩ ∈ ce_GW := gT_5 _ (List.mem_of_getElem? (i := 152) rfl) rfl
theorem gw_1113 : Cond.code ⟨"Carcasswright", "weight", "(II)I"⟩ prog_1_method_25_code 3 (Option.some Jvm.ClassFile.FieldType.int) ∈ ce_GW := gT_5 _ (List.mem_of_getElem? (i := 153) rfl) rfl
theorem gw_1123 : Cond.methodLink "CarcasswrightLaw" 265 ⟨"CarcasswrightLaw", "hinges", "(LCarcasswright;I[J)I"⟩ ∈ ce_GW := gT_5 _ (List.mem_of_getElem? (i := 163) rfl) rfl
theorem gw_1124 : Cond.static ⟨"CarcasswrightLaw", "hinges", "(LCarcasswright;I[J)I"⟩ ∈ ce_GW := gT_5 _ (List.mem_of_getElem? (i := 164) rfl) rfl
theorem gw_1125 : Cond.codeWith ⟨"CarcasswrightLaw", "hinges", "(LCarcasswright;I[J)I"⟩ method_25_code 4 (Option.some Jvm.ClassFile.FieldType.int) [(0, 9, 12, 27)] ∈ ce_GW := gT_5 _ (List.mem_of_getElem? (i := 165) rfl) rfl
theorem gw_1126 : Cond.methodLink "CarcasswrightLaw" 99 ⟨"Carcasswright", "hinges", "(I)I"⟩ ∈ ce_GW := gT_5 _ (List.mem_of_getElem? (i := 166) rfl) rfl
theorem gw_1127 : Cond.instanceMethod ⟨"Carcasswright", "hinges", "(I)I"⟩ ∈ ce_GW := gT_5 _ (List.mem_of_getElem? (i := 167) rfl) rfl
theorem gw_1128 : Cond.selects "Carcasswright" ⟨"Carcasswright", "hinges", "(I)I"⟩ ⟨"Carcasswright", "hinges", "(I)I"⟩ ∈ ce_GW := gT_5 _ (List.mem_of_getElem? (i := 168) rfl) rfl
theorem gw_1129 : Cond.code ⟨"Carcasswright", "hinges", "(I)I"⟩ prog_1_method_26_code 2 (Option.some Jvm.ClassFile.FieldType.int) ∈ ce_GW := gT_5 _ (List.mem_of_getElem? (i := 169) rfl) rfl
theorem gw_1138 : Cond.methodLink "CarcasswrightLaw" 268 ⟨"CarcasswrightLaw", "holes", "(LCarcasswright;II[J)I"⟩ ∈ ce_GW := gT_5 _ (List.mem_of_getElem? (i := 178) rfl) rfl
theorem gw_1139 : Cond.static ⟨"CarcasswrightLaw", "holes", "(LCarcasswright;II[J)I"⟩ ∈ ce_GW := gT_5 _ (List.mem_of_getElem? (i := 179) rfl) rfl
theorem gw_1140 : Cond.codeWith ⟨"CarcasswrightLaw", "holes", "(LCarcasswright;II[J)I"⟩ method_26_code 5 (Option.some Jvm.ClassFile.FieldType.int) [(0, 10, 13, 27)] ∈ ce_GW := gT_5 _ (List.mem_of_getElem? (i := 180) rfl) rfl
theorem gw_1141 : Cond.methodLink "CarcasswrightLaw" 102 ⟨"Carcasswright", "holes", "(II)I"⟩ ∈ ce_GW := gT_5 _ (List.mem_of_getElem? (i := 181) rfl) rfl
theorem gw_1142 : Cond.instanceMethod ⟨"Carcasswright", "holes", "(II)I"⟩ ∈ ce_GW := gT_5 _ (List.mem_of_getElem? (i := 182) rfl) rfl
theorem gw_1143 : Cond.selects "Carcasswright" ⟨"Carcasswright", "holes", "(II)I"⟩ ⟨"Carcasswright", "holes", "(II)I"⟩ ∈ ce_GW := gT_5 _ (List.mem_of_getElem? (i := 183) rfl) rfl
theorem gw_1144 : Cond.code ⟨"Carcasswright", "holes", "(II)I"⟩ prog_1_method_27_code 3 (Option.some Jvm.ClassFile.FieldType.int) ∈ ce_GW := gT_5 _ (List.mem_of_getElem? (i := 184) rfl) rfl
theorem gw_1153 : Cond.methodLink "CarcasswrightLaw" 271 ⟨"CarcasswrightLaw", "hole", "(LCarcasswright;IIIC[J)I"⟩ ∈ ce_GW := gT_5 _ (List.mem_of_getElem? (i := 193) rfl) rfl
theorem gw_1154 : Cond.static ⟨"CarcasswrightLaw", "hole", "(LCarcasswright;IIIC[J)I"⟩ ∈ ce_GW := gT_5 _ (List.mem_of_getElem? (i := 194) rfl) rfl
theorem gw_1155 : Cond.codeWith ⟨"CarcasswrightLaw", "hole", "(LCarcasswright;IIIC[J)I"⟩ method_27_code 7 (Option.some Jvm.ClassFile.FieldType.int) [(0, 14, 17, 27), (0, 14, 21, 13)] ∈ ce_GW := gT_5 _ (List.mem_of_getElem? (i := 195) rfl) rfl
theorem gw_1156 : Cond.methodLink "CarcasswrightLaw" 105 ⟨"Carcasswright", "hole", "(IIIC)I"⟩ ∈ ce_GW := gT_5 _ (List.mem_of_getElem? (i := 196) rfl) rfl
theorem gw_1157 : Cond.instanceMethod ⟨"Carcasswright", "hole", "(IIIC)I"⟩ ∈ ce_GW := gT_5 _ (List.mem_of_getElem? (i := 197) rfl) rfl
theorem gw_1158 : Cond.selects "Carcasswright" ⟨"Carcasswright", "hole", "(IIIC)I"⟩ ⟨"Carcasswright", "hole", "(IIIC)I"⟩ ∈ ce_GW := gT_5 _ (List.mem_of_getElem? (i := 198) rfl) rfl
theorem gw_1159 : Cond.code ⟨"Carcasswright", "hole", "(IIIC)I"⟩ prog_1_method_28_code 6 (Option.some Jvm.ClassFile.FieldType.int) ∈ ce_GW := gT_5 _ (List.mem_of_getElem? (i := 199) rfl) rfl
theorem gw_1176 : Cond.methodLink "CarcasswrightLaw" 275 ⟨"CarcasswrightLaw", "drills", "(LCarcasswright;II[J)I"⟩ ∈ ce_GW := gT_5 _ (List.mem_of_getElem? (i := 216) rfl) rfl
theorem gw_1177 : Cond.static ⟨"CarcasswrightLaw", "drills", "(LCarcasswright;II[J)I"⟩ ∈ ce_GW := gT_5 _ (List.mem_of_getElem? (i := 217) rfl) rfl
theorem gw_1178 : Cond.codeWith ⟨"CarcasswrightLaw", "drills", "(LCarcasswright;II[J)I"⟩ method_28_code 5 (Option.some Jvm.ClassFile.FieldType.int) [(0, 10, 13, 27)] ∈ ce_GW := gT_5 _ (List.mem_of_getElem? (i := 218) rfl) rfl
theorem gw_1179 : Cond.methodLink "CarcasswrightLaw" 109 ⟨"Carcasswright", "drills", "(II)I"⟩ ∈ ce_GW := gT_5 _ (List.mem_of_getElem? (i := 219) rfl) rfl
theorem gw_1180 : Cond.instanceMethod ⟨"Carcasswright", "drills", "(II)I"⟩ ∈ ce_GW := gT_5 _ (List.mem_of_getElem? (i := 220) rfl) rfl
theorem gw_1181 : Cond.selects "Carcasswright" ⟨"Carcasswright", "drills", "(II)I"⟩ ⟨"Carcasswright", "drills", "(II)I"⟩ ∈ ce_GW := gT_5 _ (List.mem_of_getElem? (i := 221) rfl) rfl
theorem gw_1182 : Cond.code ⟨"Carcasswright", "drills", "(II)I"⟩ prog_1_method_29_code 7 (Option.some Jvm.ClassFile.FieldType.int) ∈ ce_GW := gT_5 _ (List.mem_of_getElem? (i := 222) rfl) rfl
theorem gw_1189 : Cond.methodLink "CarcasswrightLaw" 278 ⟨"CarcasswrightLaw", "clamp", "(LCarcasswright;IIZ[J)I"⟩ ∈ ce_GW := gT_5 _ (List.mem_of_getElem? (i := 229) rfl) rfl
theorem gw_1190 : Cond.static ⟨"CarcasswrightLaw", "clamp", "(LCarcasswright;IIZ[J)I"⟩ ∈ ce_GW := gT_5 _ (List.mem_of_getElem? (i := 230) rfl) rfl
theorem gw_1191 : Cond.codeWith ⟨"CarcasswrightLaw", "clamp", "(LCarcasswright;IIZ[J)I"⟩ method_29_code 6 (Option.some Jvm.ClassFile.FieldType.int) [(0, 12, 15, 27), (0, 12, 19, 44)] ∈ ce_GW := gT_5 _ (List.mem_of_getElem? (i := 231) rfl) rfl
theorem gw_1192 : Cond.methodLink "CarcasswrightLaw" 112 ⟨"Carcasswright", "clamp", "(IIZ)I"⟩ ∈ ce_GW := gT_5 _ (List.mem_of_getElem? (i := 232) rfl) rfl
theorem gw_1193 : Cond.instanceMethod ⟨"Carcasswright", "clamp", "(IIZ)I"⟩ ∈ ce_GW := gT_5 _ (List.mem_of_getElem? (i := 233) rfl) rfl
theorem gw_1194 : Cond.selects "Carcasswright" ⟨"Carcasswright", "clamp", "(IIZ)I"⟩ ⟨"Carcasswright", "clamp", "(IIZ)I"⟩ ∈ ce_GW := gT_5 _ (List.mem_of_getElem? (i := 234) rfl) rfl
theorem gw_1195 : Cond.code ⟨"Carcasswright", "clamp", "(IIZ)I"⟩ prog_1_method_30_code 7 (Option.some Jvm.ClassFile.FieldType.int) ∈ ce_GW := gT_5 _ (List.mem_of_getElem? (i := 235) rfl) rfl
theorem gw_1209 : Cond.methodLink "CarcasswrightLaw" 282 ⟨"CarcasswrightLaw", "addBoards", "(LCarcasswright;IIIII[J)I"⟩ ∈ ce_GW := gT_6 _ (List.mem_of_getElem? (i := 9) rfl) rfl
theorem gw_1210 : Cond.static ⟨"CarcasswrightLaw", "addBoards", "(LCarcasswright;IIIII[J)I"⟩ ∈ ce_GW := gT_6 _ (List.mem_of_getElem? (i := 10) rfl) rfl
theorem gw_1211 : Cond.codeWith ⟨"CarcasswrightLaw", "addBoards", "(LCarcasswright;IIIII[J)I"⟩ method_30_code 8 (Option.some Jvm.ClassFile.FieldType.int) [(0, 16, 19, 13), (0, 16, 23, 15)] ∈ ce_GW := gT_6 _ (List.mem_of_getElem? (i := 11) rfl) rfl
theorem gw_1212 : Cond.methodLink "CarcasswrightLaw" 116 ⟨"Carcasswright", "addBoards", "(IIIII)I"⟩ ∈ ce_GW := gT_6 _ (List.mem_of_getElem? (i := 12) rfl) rfl
theorem gw_1213 : Cond.instanceMethod ⟨"Carcasswright", "addBoards", "(IIIII)I"⟩ ∈ ce_GW := gT_6 _ (List.mem_of_getElem? (i := 13) rfl) rfl
theorem gw_1214 : Cond.selects "Carcasswright" ⟨"Carcasswright", "addBoards", "(IIIII)I"⟩ ⟨"Carcasswright", "addBoards", "(IIIII)I"⟩ ∈ ce_GW := gT_6 _ (List.mem_of_getElem? (i := 14) rfl) rfl
theorem gw_1215 : Cond.code ⟨"Carcasswright", "addBoards", "(IIIII)I"⟩ prog_1_method_31_code 7 (Option.some Jvm.ClassFile.FieldType.int) ∈ ce_GW := gT_6 _ (List.mem_of_getElem? (i := 15) rfl) rfl
theorem gw_1216 : Cond.methodLink "Carcasswright" 302 ⟨"Carcasswright$Stock", "append", "(IIIIZ)Z"⟩ ∈ ce_GW := gT_6 _ (List.mem_of_getElem? (i := 16) rfl) rfl
theorem gw_1217 : Cond.instanceMethod ⟨"Carcasswright$Stock", "append", "(IIIIZ)Z"⟩ ∈ ce_GW := gT_6 _ (List.mem_of_getElem? (i := 17) rfl) rfl
theorem gw_1218 : Cond.selects "Carcasswright$Stock" ⟨"Carcasswright$Stock", "append", "(IIIIZ)Z"⟩ ⟨"Carcasswright$Stock", "append", "(IIIIZ)Z"⟩ ∈ ce_GW := gT_6 _ (List.mem_of_getElem? (i := 18) rfl) rfl
theorem gw_1219 : Cond.code ⟨"Carcasswright$Stock", "append", "(IIIIZ)Z"⟩ prog_10_method_3_code 7 (Option.some Jvm.ClassFile.FieldType.boolean) ∈ ce_GW := gT_6 _ (List.mem_of_getElem? (i := 19) rfl) rfl
theorem gw_1220 : Cond.methodLink "Carcasswright$Stock" 23 ⟨"Carcasswright$Board", "become", "(IIII)V"⟩ ∈ ce_GW := gT_6 _ (List.mem_of_getElem? (i := 20) rfl) rfl
theorem gw_1221 : Cond.instanceMethod ⟨"Carcasswright$Board", "become", "(IIII)V"⟩ ∈ ce_GW := gT_6 _ (List.mem_of_getElem? (i := 21) rfl) rfl
theorem gw_1222 : Cond.selects "Carcasswright$Board" ⟨"Carcasswright$Board", "become", "(IIII)V"⟩ ⟨"Carcasswright$Board", "become", "(IIII)V"⟩ ∈ ce_GW := gT_6 _ (List.mem_of_getElem? (i := 22) rfl) rfl
theorem gw_1223 : Cond.code ⟨"Carcasswright$Board", "become", "(IIII)V"⟩ prog_2_method_2_code 5 Option.none ∈ ce_GW := gT_6 _ (List.mem_of_getElem? (i := 23) rfl) rfl
theorem gw_1224 : Cond.methodLink "CarcasswrightLaw" 293 ⟨"CarcasswrightLaw", "board", "(LCarcasswright;IC[J)I"⟩ ∈ ce_GW := gT_6 _ (List.mem_of_getElem? (i := 24) rfl) rfl
theorem gw_1225 : Cond.static ⟨"CarcasswrightLaw", "board", "(LCarcasswright;IC[J)I"⟩ ∈ ce_GW := gT_6 _ (List.mem_of_getElem? (i := 25) rfl) rfl
theorem gw_1226 : Cond.codeWith ⟨"CarcasswrightLaw", "board", "(LCarcasswright;IC[J)I"⟩ method_31_code 5 (Option.some Jvm.ClassFile.FieldType.int) [(0, 10, 13, 27), (0, 10, 17, 13)] ∈ ce_GW := gT_6 _ (List.mem_of_getElem? (i := 26) rfl) rfl
theorem gw_1227 : Cond.methodLink "CarcasswrightLaw" 119 ⟨"Carcasswright", "board", "(IC)I"⟩ ∈ ce_GW := gT_6 _ (List.mem_of_getElem? (i := 27) rfl) rfl
theorem gw_1228 : Cond.instanceMethod ⟨"Carcasswright", "board", "(IC)I"⟩ ∈ ce_GW := gT_6 _ (List.mem_of_getElem? (i := 28) rfl) rfl
theorem gw_1229 : Cond.selects "Carcasswright" ⟨"Carcasswright", "board", "(IC)I"⟩ ⟨"Carcasswright", "board", "(IC)I"⟩ ∈ ce_GW := gT_6 _ (List.mem_of_getElem? (i := 29) rfl) rfl
theorem gw_1230 : Cond.code ⟨"Carcasswright", "board", "(IC)I"⟩ prog_1_method_34_code 4 (Option.some Jvm.ClassFile.FieldType.int) ∈ ce_GW := gT_6 _ (List.mem_of_getElem? (i := 30) rfl) rfl
theorem gw_1231 : Cond.methodLink "Carcasswright" 311 ⟨"Carcasswright$Stock", "boardAt", "(I)LCarcasswright$Board;"⟩ ∈ ce_GW := gT_6 _ (List.mem_of_getElem? (i := 31) rfl) rfl
theorem gw_1232 : Cond.methodLink "CarcasswrightLaw" 296 ⟨"CarcasswrightLaw", "uncut", "(LCarcasswright;I[J)I"⟩ ∈ ce_GW := gT_6 _ (List.mem_of_getElem? (i := 32) rfl) rfl
theorem gw_1233 : Cond.static ⟨"CarcasswrightLaw", "uncut", "(LCarcasswright;I[J)I"⟩ ∈ ce_GW := gT_6 _ (List.mem_of_getElem? (i := 33) rfl) rfl
theorem gw_1234 : Cond.codeWith ⟨"CarcasswrightLaw", "uncut", "(LCarcasswright;I[J)I"⟩ method_32_code 4 (Option.some Jvm.ClassFile.FieldType.int) [(0, 9, 12, 27)] ∈ ce_GW := gT_6 _ (List.mem_of_getElem? (i := 34) rfl) rfl
theorem gw_1235 : Cond.methodLink "CarcasswrightLaw" 122 ⟨"Carcasswright", "uncut", "(I)I"⟩ ∈ ce_GW := gT_6 _ (List.mem_of_getElem? (i := 35) rfl) rfl
theorem gw_1236 : Cond.instanceMethod ⟨"Carcasswright", "uncut", "(I)I"⟩ ∈ ce_GW := gT_6 _ (List.mem_of_getElem? (i := 36) rfl) rfl
theorem gw_1237 : Cond.selects "Carcasswright" ⟨"Carcasswright", "uncut", "(I)I"⟩ ⟨"Carcasswright", "uncut", "(I)I"⟩ ∈ ce_GW := gT_6 _ (List.mem_of_getElem? (i := 37) rfl) rfl
theorem gw_1238 : Cond.code ⟨"Carcasswright", "uncut", "(I)I"⟩ prog_1_method_35_code 2 (Option.some Jvm.ClassFile.FieldType.int) ∈ ce_GW := gT_6 _ (List.mem_of_getElem? (i := 38) rfl) rfl
theorem gw_1250 : Cond.methodLink "CarcasswrightLaw" 299 ⟨"CarcasswrightLaw", "cut", "(LCarcasswright;I[J)I"⟩ ∈ ce_GW := gT_6 _ (List.mem_of_getElem? (i := 50) rfl) rfl
theorem gw_1251 : Cond.static ⟨"CarcasswrightLaw", "cut", "(LCarcasswright;I[J)I"⟩ ∈ ce_GW := gT_6 _ (List.mem_of_getElem? (i := 51) rfl) rfl
theorem gw_1252 : Cond.codeWith ⟨"CarcasswrightLaw", "cut", "(LCarcasswright;I[J)I"⟩ method_33_code 4 (Option.some Jvm.ClassFile.FieldType.int) [(0, 9, 12, 27), (0, 9, 15, 44), (0, 9, 18, 21)] ∈ ce_GW := gT_6 _ (List.mem_of_getElem? (i := 52) rfl) rfl
theorem gw_1253 : Cond.methodLink "CarcasswrightLaw" 125 ⟨"Carcasswright", "cut", "(I)I"⟩ ∈ ce_GW := gT_6 _ (List.mem_of_getElem? (i := 53) rfl) rfl
theorem gw_1254 : Cond.instanceMethod ⟨"Carcasswright", "cut", "(I)I"⟩ ∈ ce_GW := gT_6 _ (List.mem_of_getElem? (i := 54) rfl) rfl
theorem gw_1255 : Cond.selects "Carcasswright" ⟨"Carcasswright", "cut", "(I)I"⟩ ⟨"Carcasswright", "cut", "(I)I"⟩ ∈ ce_GW := gT_6 _ (List.mem_of_getElem? (i := 55) rfl) rfl
theorem gw_1256 : Cond.code ⟨"Carcasswright", "cut", "(I)I"⟩ prog_1_method_36_code 3 (Option.some Jvm.ClassFile.FieldType.int) ∈ ce_GW := gT_6 _ (List.mem_of_getElem? (i := 56) rfl) rfl
theorem gw_1349 : Cond.methodLink "CarcasswrightLaw" 302 ⟨"CarcasswrightLaw", "lose", "(LCarcasswright;II[J)I"⟩ ∈ ce_GW := gT_6 _ (List.mem_of_getElem? (i := 149) rfl) rfl
theorem gw_1350 : Cond.static ⟨"CarcasswrightLaw", "lose", "(LCarcasswright;II[J)I"⟩ ∈ ce_GW := gT_6 _ (List.mem_of_getElem? (i := 150) rfl) rfl
theorem gw_1351 : Cond.codeWith ⟨"CarcasswrightLaw", "lose", "(LCarcasswright;II[J)I"⟩ method_34_code 5 (Option.some Jvm.ClassFile.FieldType.int) [(0, 10, 13, 27), (0, 10, 17, 21)] ∈ ce_GW := gT_6 _ (List.mem_of_getElem? (i := 151) rfl) rfl
theorem gw_1352 : Cond.methodLink "CarcasswrightLaw" 128 ⟨"Carcasswright", "lose", "(II)I"⟩ ∈ ce_GW := gT_6 _ (List.mem_of_getElem? (i := 152) rfl) rfl
theorem gw_1353 : Cond.instanceMethod ⟨"Carcasswright", "lose", "(II)I"⟩ ∈ ce_GW := gT_6 _ (List.mem_of_getElem? (i := 153) rfl) rfl
theorem gw_1354 : Cond.selects "Carcasswright" ⟨"Carcasswright", "lose", "(II)I"⟩ ⟨"Carcasswright", "lose", "(II)I"⟩ ∈ ce_GW := gT_6 _ (List.mem_of_getElem? (i := 154) rfl) rfl
theorem gw_1355 : Cond.code ⟨"Carcasswright", "lose", "(II)I"⟩ prog_1_method_37_code 5 (Option.some Jvm.ClassFile.FieldType.int) ∈ ce_GW := gT_6 _ (List.mem_of_getElem? (i := 155) rfl) rfl
theorem gw_1356 : Cond.methodLink "CarcasswrightLaw" 305 ⟨"CarcasswrightLaw", "edged", "(LCarcasswright;I[J)I"⟩ ∈ ce_GW := gT_6 _ (List.mem_of_getElem? (i := 156) rfl) rfl
theorem gw_1357 : Cond.static ⟨"CarcasswrightLaw", "edged", "(LCarcasswright;I[J)I"⟩ ∈ ce_GW := gT_6 _ (List.mem_of_getElem? (i := 157) rfl) rfl
theorem gw_1358 : Cond.codeWith ⟨"CarcasswrightLaw", "edged", "(LCarcasswright;I[J)I"⟩ method_35_code 4 (Option.some Jvm.ClassFile.FieldType.int) [(0, 9, 12, 13)] ∈ ce_GW := gT_6 _ (List.mem_of_getElem? (i := 158) rfl) rfl
theorem gw_1359 : Cond.methodLink "CarcasswrightLaw" 131 ⟨"Carcasswright", "edged", "(I)I"⟩ ∈ ce_GW := gT_6 _ (List.mem_of_getElem? (i := 159) rfl) rfl
theorem gw_1360 : Cond.instanceMethod ⟨"Carcasswright", "edged", "(I)I"⟩ ∈ ce_GW := gT_6 _ (List.mem_of_getElem? (i := 160) rfl) rfl
theorem gw_1361 : Cond.selects "Carcasswright" ⟨"Carcasswright", "edged", "(I)I"⟩ ⟨"Carcasswright", "edged", "(I)I"⟩ ∈ ce_GW := gT_6 _ (List.mem_of_getElem? (i := 161) rfl) rfl
theorem gw_1362 : Cond.code ⟨"Carcasswright", "edged", "(I)I"⟩ prog_1_method_38_code 4 (Option.some Jvm.ClassFile.FieldType.int) ∈ ce_GW := gT_6 _ (List.mem_of_getElem? (i := 162) rfl) rfl
theorem gw_1374 : Cond.methodLink "CarcasswrightLaw" 308 ⟨"CarcasswrightLaw", "setRate", "(LCarcasswright;II[J)I"⟩ ∈ ce_GW := gT_6 _ (List.mem_of_getElem? (i := 174) rfl) rfl
theorem gw_1375 : Cond.static ⟨"CarcasswrightLaw", "setRate", "(LCarcasswright;II[J)I"⟩ ∈ ce_GW := gT_6 _ (List.mem_of_getElem? (i := 175) rfl) rfl
theorem gw_1376 : Cond.codeWith ⟨"CarcasswrightLaw", "setRate", "(LCarcasswright;II[J)I"⟩ method_36_code 5 (Option.some Jvm.ClassFile.FieldType.int) [(0, 10, 13, 13)] ∈ ce_GW := gT_6 _ (List.mem_of_getElem? (i := 176) rfl) rfl
theorem gw_1377 : Cond.methodLink "CarcasswrightLaw" 134 ⟨"Carcasswright", "setRate", "(II)I"⟩ ∈ ce_GW := gT_6 _ (List.mem_of_getElem? (i := 177) rfl) rfl
theorem gw_1378 : Cond.instanceMethod ⟨"Carcasswright", "setRate", "(II)I"⟩ ∈ ce_GW := gT_6 _ (List.mem_of_getElem? (i := 178) rfl) rfl
theorem gw_1379 : Cond.selects "Carcasswright" ⟨"Carcasswright", "setRate", "(II)I"⟩ ⟨"Carcasswright", "setRate", "(II)I"⟩ ∈ ce_GW := gT_6 _ (List.mem_of_getElem? (i := 179) rfl) rfl
theorem gw_1380 : Cond.code ⟨"Carcasswright", "setRate", "(II)I"⟩ prog_1_method_39_code 4 (Option.some Jvm.ClassFile.FieldType.int) ∈ ce_GW := gT_6 _ (List.mem_of_getElem? (i := 180) rfl) rfl
theorem gw_1381 : Cond.methodLink "CarcasswrightLaw" 311 ⟨"CarcasswrightLaw", "price", "(LCarcasswright;I[J)I"⟩ ∈ ce_GW := gT_6 _ (List.mem_of_getElem? (i := 181) rfl) rfl
theorem gw_1382 : Cond.static ⟨"CarcasswrightLaw", "price", "(LCarcasswright;I[J)I"⟩ ∈ ce_GW := gT_6 _ (List.mem_of_getElem? (i := 182) rfl) rfl
theorem gw_1383 : Cond.codeWith ⟨"CarcasswrightLaw", "price", "(LCarcasswright;I[J)I"⟩ method_37_code 4 (Option.some Jvm.ClassFile.FieldType.int) [(0, 9, 12, 27)] ∈ ce_GW := gT_6 _ (List.mem_of_getElem? (i := 183) rfl) rfl
theorem gw_1384 : Cond.methodLink "CarcasswrightLaw" 137 ⟨"Carcasswright", "price", "(I)I"⟩ ∈ ce_GW := gT_6 _ (List.mem_of_getElem? (i := 184) rfl) rfl
theorem gw_1385 : Cond.instanceMethod ⟨"Carcasswright", "price", "(I)I"⟩ ∈ ce_GW := gT_6 _ (List.mem_of_getElem? (i := 185) rfl) rfl
theorem gw_1386 : Cond.selects "Carcasswright" ⟨"Carcasswright", "price", "(I)I"⟩ ⟨"Carcasswright", "price", "(I)I"⟩ ∈ ce_GW := gT_6 _ (List.mem_of_getElem? (i := 186) rfl) rfl
theorem gw_1387 : Cond.code ⟨"Carcasswright", "price", "(I)I"⟩ prog_1_method_40_code 7 (Option.some Jvm.ClassFile.FieldType.int) ∈ ce_GW := gT_6 _ (List.mem_of_getElem? (i := 187) rfl) rfl
theorem gw_1394 : Cond.methodLink "CarcasswrightLaw" 314 ⟨"CarcasswrightLaw", "packs", "(LCarcasswright;II[J)I"⟩ ∈ ce_GW := gT_6 _ (List.mem_of_getElem? (i := 194) rfl) rfl
theorem gw_1395 : Cond.static ⟨"CarcasswrightLaw", "packs", "(LCarcasswright;II[J)I"⟩ ∈ ce_GW := gT_6 _ (List.mem_of_getElem? (i := 195) rfl) rfl
theorem gw_1396 : Cond.codeWith ⟨"CarcasswrightLaw", "packs", "(LCarcasswright;II[J)I"⟩ method_38_code 5 (Option.some Jvm.ClassFile.FieldType.int) [(0, 10, 13, 27), (0, 10, 17, 13), (0, 10, 21, 21)] ∈ ce_GW := gT_6 _ (List.mem_of_getElem? (i := 196) rfl) rfl
theorem gw_1397 : Cond.methodLink "CarcasswrightLaw" 140 ⟨"Carcasswright", "packs", "(II)I"⟩ ∈ ce_GW := gT_6 _ (List.mem_of_getElem? (i := 197) rfl) rfl
theorem gw_1398 : Cond.instanceMethod ⟨"Carcasswright", "packs", "(II)I"⟩ ∈ ce_GW := gT_6 _ (List.mem_of_getElem? (i := 198) rfl) rfl
theorem gw_1399 : Cond.selects "Carcasswright" ⟨"Carcasswright", "packs", "(II)I"⟩ ⟨"Carcasswright", "packs", "(II)I"⟩ ∈ ce_GW := gT_6 _ (List.mem_of_getElem? (i := 199) rfl) rfl
theorem gw_1400 : Cond.code ⟨"Carcasswright", "packs", "(II)I"⟩ prog_1_method_41_code 3 (Option.some Jvm.ClassFile.FieldType.int) ∈ ce_GW := gT_6 _ (List.mem_of_getElem? (i := 200) rfl) rfl
theorem gw_1421 : Cond.methodLink "CarcasswrightLaw" 317 ⟨"CarcasswrightLaw", "packOf", "(LCarcasswright;III[J)I"⟩ ∈ ce_GW := gT_6 _ (List.mem_of_getElem? (i := 221) rfl) rfl
theorem gw_1422 : Cond.static ⟨"CarcasswrightLaw", "packOf", "(LCarcasswright;III[J)I"⟩ ∈ ce_GW := gT_6 _ (List.mem_of_getElem? (i := 222) rfl) rfl
theorem gw_1423 : Cond.codeWith ⟨"CarcasswrightLaw", "packOf", "(LCarcasswright;III[J)I"⟩ method_39_code 6 (Option.some Jvm.ClassFile.FieldType.int) [(0, 12, 15, 27), (0, 12, 19, 13), (0, 12, 23, 21)] ∈ ce_GW := gT_6 _ (List.mem_of_getElem? (i := 223) rfl) rfl
theorem gw_1424 : Cond.methodLink "CarcasswrightLaw" 143 ⟨"Carcasswright", "packOf", "(III)I"⟩ ∈ ce_GW := gT_6 _ (List.mem_of_getElem? (i := 224) rfl) rfl
theorem gw_1425 : Cond.instanceMethod ⟨"Carcasswright", "packOf", "(III)I"⟩ ∈ ce_GW := gT_6 _ (List.mem_of_getElem? (i := 225) rfl) rfl
theorem gw_1426 : Cond.selects "Carcasswright" ⟨"Carcasswright", "packOf", "(III)I"⟩ ⟨"Carcasswright", "packOf", "(III)I"⟩ ∈ ce_GW := gT_6 _ (List.mem_of_getElem? (i := 226) rfl) rfl
theorem gw_1427 : Cond.code ⟨"Carcasswright", "packOf", "(III)I"⟩ prog_1_method_42_code 4 (Option.some Jvm.ClassFile.FieldType.int) ∈ ce_GW := gT_6 _ (List.mem_of_getElem? (i := 227) rfl) rfl
theorem gw_1432 : Cond.methodLink "CarcasswrightLaw" 320 ⟨"CarcasswrightLaw", "stepAt", "(LCarcasswright;II[J)I"⟩ ∈ ce_GW := gT_6 _ (List.mem_of_getElem? (i := 232) rfl) rfl
theorem gw_1433 : Cond.static ⟨"CarcasswrightLaw", "stepAt", "(LCarcasswright;II[J)I"⟩ ∈ ce_GW := gT_6 _ (List.mem_of_getElem? (i := 233) rfl) rfl
theorem gw_1434 : Cond.codeWith ⟨"CarcasswrightLaw", "stepAt", "(LCarcasswright;II[J)I"⟩ method_40_code 5 (Option.some Jvm.ClassFile.FieldType.int) [(0, 10, 13, 27)] ∈ ce_GW := gT_6 _ (List.mem_of_getElem? (i := 234) rfl) rfl
theorem gw_1435 : Cond.methodLink "CarcasswrightLaw" 146 ⟨"Carcasswright", "stepAt", "(II)I"⟩ ∈ ce_GW := gT_6 _ (List.mem_of_getElem? (i := 235) rfl) rfl
theorem gw_1436 : Cond.instanceMethod ⟨"Carcasswright", "stepAt", "(II)I"⟩ ∈ ce_GW := gT_6 _ (List.mem_of_getElem? (i := 236) rfl) rfl
theorem gw_1437 : Cond.selects "Carcasswright" ⟨"Carcasswright", "stepAt", "(II)I"⟩ ⟨"Carcasswright", "stepAt", "(II)I"⟩ ∈ ce_GW := gT_6 _ (List.mem_of_getElem? (i := 237) rfl) rfl
theorem gw_1438 : Cond.code ⟨"Carcasswright", "stepAt", "(II)I"⟩ prog_1_method_43_code 3 (Option.some Jvm.ClassFile.FieldType.int) ∈ ce_GW := gT_6 _ (List.mem_of_getElem? (i := 238) rfl) rfl
theorem gw_1439 : Cond.methodLink "CarcasswrightLaw" 323 ⟨"CarcasswrightLaw", "job", "(LCarcasswright;III[J)I"⟩ ∈ ce_GW := gT_6 _ (List.mem_of_getElem? (i := 239) rfl) rfl
theorem gw_1440 : Cond.static ⟨"CarcasswrightLaw", "job", "(LCarcasswright;III[J)I"⟩ ∈ ce_GW := gT_7 _ (List.mem_of_getElem? (i := 0) rfl) rfl
theorem gw_1441 : Cond.codeWith ⟨"CarcasswrightLaw", "job", "(LCarcasswright;III[J)I"⟩ method_41_code 6 (Option.some Jvm.ClassFile.FieldType.int) [(0, 12, 15, 13), (0, 12, 19, 15)] ∈ ce_GW := gT_7 _ (List.mem_of_getElem? (i := 1) rfl) rfl
theorem gw_1442 : Cond.methodLink "CarcasswrightLaw" 149 ⟨"Carcasswright", "job", "(III)I"⟩ ∈ ce_GW := gT_7 _ (List.mem_of_getElem? (i := 2) rfl) rfl
theorem gw_1443 : Cond.instanceMethod ⟨"Carcasswright", "job", "(III)I"⟩ ∈ ce_GW := gT_7 _ (List.mem_of_getElem? (i := 3) rfl) rfl
theorem gw_1444 : Cond.selects "Carcasswright" ⟨"Carcasswright", "job", "(III)I"⟩ ⟨"Carcasswright", "job", "(III)I"⟩ ∈ ce_GW := gT_7 _ (List.mem_of_getElem? (i := 4) rfl) rfl
theorem gw_1445 : Cond.code ⟨"Carcasswright", "job", "(III)I"⟩ prog_1_method_44_code 4 (Option.some Jvm.ClassFile.FieldType.int) ∈ ce_GW := gT_7 _ (List.mem_of_getElem? (i := 5) rfl) rfl
theorem gw_1446 : Cond.methodLink "Carcasswright" 370 ⟨"Carcasswright$Jobs", "append", "(III)I"⟩ ∈ ce_GW := gT_7 _ (List.mem_of_getElem? (i := 6) rfl) rfl
theorem gw_1447 : Cond.instanceMethod ⟨"Carcasswright$Jobs", "append", "(III)I"⟩ ∈ ce_GW := gT_7 _ (List.mem_of_getElem? (i := 7) rfl) rfl
theorem gw_1448 : Cond.selects "Carcasswright$Jobs" ⟨"Carcasswright$Jobs", "append", "(III)I"⟩ ⟨"Carcasswright$Jobs", "append", "(III)I"⟩ ∈ ce_GW := gT_7 _ (List.mem_of_getElem? (i := 8) rfl) rfl
theorem gw_1449 : Cond.code ⟨"Carcasswright$Jobs", "append", "(III)I"⟩ prog_3_method_2_code 5 (Option.some Jvm.ClassFile.FieldType.int) ∈ ce_GW := gT_7 _ (List.mem_of_getElem? (i := 9) rfl) rfl
theorem gw_1450 : Cond.methodLink "CarcasswrightLaw" 326 ⟨"CarcasswrightLaw", "setSetup", "(LCarcasswright;I[J)I"⟩ ∈ ce_GW := gT_7 _ (List.mem_of_getElem? (i := 10) rfl) rfl
theorem gw_1451 : Cond.static ⟨"CarcasswrightLaw", "setSetup", "(LCarcasswright;I[J)I"⟩ ∈ ce_GW := gT_7 _ (List.mem_of_getElem? (i := 11) rfl) rfl
theorem gw_1452 : Cond.codeWith ⟨"CarcasswrightLaw", "setSetup", "(LCarcasswright;I[J)I"⟩ method_42_code 4 (Option.some Jvm.ClassFile.FieldType.int) [(0, 9, 12, 13)] ∈ ce_GW := gT_7 _ (List.mem_of_getElem? (i := 12) rfl) rfl
theorem gw_1453 : Cond.methodLink "CarcasswrightLaw" 152 ⟨"Carcasswright", "setSetup", "(I)I"⟩ ∈ ce_GW := gT_7 _ (List.mem_of_getElem? (i := 13) rfl) rfl
theorem gw_1454 : Cond.instanceMethod ⟨"Carcasswright", "setSetup", "(I)I"⟩ ∈ ce_GW := gT_7 _ (List.mem_of_getElem? (i := 14) rfl) rfl
theorem gw_1455 : Cond.selects "Carcasswright" ⟨"Carcasswright", "setSetup", "(I)I"⟩ ⟨"Carcasswright", "setSetup", "(I)I"⟩ ∈ ce_GW := gT_7 _ (List.mem_of_getElem? (i := 15) rfl) rfl
theorem gw_1456 : Cond.code ⟨"Carcasswright", "setSetup", "(I)I"⟩ prog_1_method_45_code 3 (Option.some Jvm.ClassFile.FieldType.int) ∈ ce_GW := gT_7 _ (List.mem_of_getElem? (i := 16) rfl) rfl
theorem gw_1457 : Cond.methodLink "CarcasswrightLaw" 333 ⟨"CarcasswrightLaw", "jobAt", "(LCarcasswright;I[J)I"⟩ ∈ ce_GW := gT_7 _ (List.mem_of_getElem? (i := 17) rfl) rfl
theorem gw_1458 : Cond.static ⟨"CarcasswrightLaw", "jobAt", "(LCarcasswright;I[J)I"⟩ ∈ ce_GW := gT_7 _ (List.mem_of_getElem? (i := 18) rfl) rfl
theorem gw_1459 : Cond.codeWith ⟨"CarcasswrightLaw", "jobAt", "(LCarcasswright;I[J)I"⟩ method_43_code 4 (Option.some Jvm.ClassFile.FieldType.int) [(0, 9, 12, 27)] ∈ ce_GW := gT_7 _ (List.mem_of_getElem? (i := 19) rfl) rfl
theorem gw_1460 : Cond.methodLink "CarcasswrightLaw" 155 ⟨"Carcasswright", "jobAt", "(I)I"⟩ ∈ ce_GW := gT_7 _ (List.mem_of_getElem? (i := 20) rfl) rfl
theorem gw_1461 : Cond.instanceMethod ⟨"Carcasswright", "jobAt", "(I)I"⟩ ∈ ce_GW := gT_7 _ (List.mem_of_getElem? (i := 21) rfl) rfl
theorem gw_1462 : Cond.selects "Carcasswright" ⟨"Carcasswright", "jobAt", "(I)I"⟩ ⟨"Carcasswright", "jobAt", "(I)I"⟩ ∈ ce_GW := gT_7 _ (List.mem_of_getElem? (i := 22) rfl) rfl
theorem gw_1463 : Cond.code ⟨"Carcasswright", "jobAt", "(I)I"⟩ prog_1_method_47_code 2 (Option.some Jvm.ClassFile.FieldType.int) ∈ ce_GW := gT_7 _ (List.mem_of_getElem? (i := 23) rfl) rfl
theorem gw_1464 : Cond.methodLink "CarcasswrightLaw" 340 ⟨"CarcasswrightLaw", "area", "(LCarcasswright;C[J)I"⟩ ∈ ce_GW := gT_7 _ (List.mem_of_getElem? (i := 24) rfl) rfl
theorem gw_1465 : Cond.static ⟨"CarcasswrightLaw", "area", "(LCarcasswright;C[J)I"⟩ ∈ ce_GW := gT_7 _ (List.mem_of_getElem? (i := 25) rfl) rfl
theorem gw_1466 : Cond.codeWith ⟨"CarcasswrightLaw", "area", "(LCarcasswright;C[J)I"⟩ method_44_code 4 (Option.some Jvm.ClassFile.FieldType.int) [(0, 8, 11, 13)] ∈ ce_GW := gT_7 _ (List.mem_of_getElem? (i := 26) rfl) rfl
theorem gw_1467 : Cond.methodLink "CarcasswrightLaw" 158 ⟨"Carcasswright", "area", "(C)J"⟩ ∈ ce_GW := gT_7 _ (List.mem_of_getElem? (i := 27) rfl) rfl
theorem gw_1468 : Cond.instanceMethod ⟨"Carcasswright", "area", "(C)J"⟩ ∈ ce_GW := gT_7 _ (List.mem_of_getElem? (i := 28) rfl) rfl
theorem gw_1469 : Cond.selects "Carcasswright" ⟨"Carcasswright", "area", "(C)J"⟩ ⟨"Carcasswright", "area", "(C)J"⟩ ∈ ce_GW := gT_7 _ (List.mem_of_getElem? (i := 29) rfl) rfl
theorem gw_1470 : Cond.code ⟨"Carcasswright", "area", "(C)J"⟩ prog_1_method_49_code 2 (Option.some Jvm.ClassFile.FieldType.long) ∈ ce_GW := gT_7 _ (List.mem_of_getElem? (i := 30) rfl) rfl
theorem gw_1471 : Cond.methodLink "CarcasswrightLaw" 343 ⟨"CarcasswrightLaw", "cutShare", "(LCarcasswright;[D)I"⟩ ∈ ce_GW := gT_7 _ (List.mem_of_getElem? (i := 31) rfl) rfl
theorem gw_1472 : Cond.static ⟨"CarcasswrightLaw", "cutShare", "(LCarcasswright;[D)I"⟩ ∈ ce_GW := gT_7 _ (List.mem_of_getElem? (i := 32) rfl) rfl
theorem gw_1473 : Cond.codeWith ⟨"CarcasswrightLaw", "cutShare", "(LCarcasswright;[D)I"⟩ method_45_code 3 (Option.some Jvm.ClassFile.FieldType.int) [(0, 8, 11, 44)] ∈ ce_GW := gT_7 _ (List.mem_of_getElem? (i := 33) rfl) rfl
theorem gw_1474 : Cond.methodLink "CarcasswrightLaw" 162 ⟨"Carcasswright", "cutShare", "()F"⟩ ∈ ce_GW := gT_7 _ (List.mem_of_getElem? (i := 34) rfl) rfl
theorem gw_1475 : Cond.instanceMethod ⟨"Carcasswright", "cutShare", "()F"⟩ ∈ ce_GW := gT_7 _ (List.mem_of_getElem? (i := 35) rfl) rfl
theorem gw_1476 : Cond.selects "Carcasswright" ⟨"Carcasswright", "cutShare", "()F"⟩ ⟨"Carcasswright", "cutShare", "()F"⟩ ∈ ce_GW := gT_7 _ (List.mem_of_getElem? (i := 36) rfl) rfl
theorem gw_1477 : Cond.code ⟨"Carcasswright", "cutShare", "()F"⟩ prog_1_method_50_code 5 (Option.some Jvm.ClassFile.FieldType.float) ∈ ce_GW := gT_7 _ (List.mem_of_getElem? (i := 37) rfl) rfl
theorem gw_1478 : Cond.methodLink "CarcasswrightLaw" 347 ⟨"CarcasswrightLaw", "meanWidth", "(LCarcasswright;[D)I"⟩ ∈ ce_GW := gT_7 _ (List.mem_of_getElem? (i := 38) rfl) rfl
theorem gw_1479 : Cond.static ⟨"CarcasswrightLaw", "meanWidth", "(LCarcasswright;[D)I"⟩ ∈ ce_GW := gT_7 _ (List.mem_of_getElem? (i := 39) rfl) rfl
theorem gw_1480 : Cond.codeWith ⟨"CarcasswrightLaw", "meanWidth", "(LCarcasswright;[D)I"⟩ method_46_code 3 (Option.some Jvm.ClassFile.FieldType.int) [(0, 7, 10, 44)] ∈ ce_GW := gT_7 _ (List.mem_of_getElem? (i := 40) rfl) rfl
theorem gw_1481 : Cond.methodLink "CarcasswrightLaw" 166 ⟨"Carcasswright", "meanWidth", "()D"⟩ ∈ ce_GW := gT_7 _ (List.mem_of_getElem? (i := 41) rfl) rfl
theorem gw_1482 : Cond.instanceMethod ⟨"Carcasswright", "meanWidth", "()D"⟩ ∈ ce_GW := gT_7 _ (List.mem_of_getElem? (i := 42) rfl) rfl
theorem gw_1483 : Cond.selects "Carcasswright" ⟨"Carcasswright", "meanWidth", "()D"⟩ ⟨"Carcasswright", "meanWidth", "()D"⟩ ∈ ce_GW := gT_7 _ (List.mem_of_getElem? (i := 43) rfl) rfl
theorem gw_1484 : Cond.code ⟨"Carcasswright", "meanWidth", "()D"⟩ prog_1_method_51_code 3 (Option.some Jvm.ClassFile.FieldType.double) ∈ ce_GW := gT_7 _ (List.mem_of_getElem? (i := 44) rfl) rfl
theorem gw_1485 : Cond.classLink "CarcasswrightLaw" 171 "CarcasswrightModel" ∈ ce_GW := gT_7 _ (List.mem_of_getElem? (i := 45) rfl) rfl
theorem gw_1486 : Cond.instantiable "CarcasswrightModel" 20 ∈ ce_GW := gT_7 _ (List.mem_of_getElem? (i := 46) rfl) rfl
theorem gw_1487 : Cond.methodLink "CarcasswrightLaw" 173 ⟨"CarcasswrightModel", "<init>", "()V"⟩ ∈ ce_GW := gT_7 _ (List.mem_of_getElem? (i := 47) rfl) rfl
theorem gw_1488 : Cond.instanceMethod ⟨"CarcasswrightModel", "<init>", "()V"⟩ ∈ ce_GW := gT_7 _ (List.mem_of_getElem? (i := 48) rfl) rfl
theorem gw_1489 : Cond.code ⟨"CarcasswrightModel", "<init>", "()V"⟩ prog_14_method_3_code 1 Option.none ∈ ce_GW := gT_7 _ (List.mem_of_getElem? (i := 49) rfl) rfl
theorem gw_1490 : Cond.methodLink "CarcasswrightModel" 1 ⟨"java/lang/Object", "<init>", "()V"⟩ ∈ ce_GW := gT_7 _ (List.mem_of_getElem? (i := 50) rfl) rfl
theorem gw_1491 : Cond.classLink "CarcasswrightModel" 7 "java/util/ArrayList" ∈ ce_GW := gT_7 _ (List.mem_of_getElem? (i := 51) rfl) rfl
theorem gw_1492 : Cond.instantiable "java/util/ArrayList" 3 ∈ ce_GW := gT_7 _ (List.mem_of_getElem? (i := 52) rfl) rfl
theorem gw_1493 : Cond.methodLink "CarcasswrightModel" 9 ⟨"java/util/ArrayList", "<init>", "()V"⟩ ∈ ce_GW := gT_7 _ (List.mem_of_getElem? (i := 53) rfl) rfl
theorem gw_1494 : Cond.instanceMethod ⟨"java/util/ArrayList", "<init>", "()V"⟩ ∈ ce_GW := gT_7 _ (List.mem_of_getElem? (i := 54) rfl) rfl
theorem gw_1495 : Cond.code ⟨"java/util/ArrayList", "<init>", "()V"⟩ prog_53_method_2_code 1 Option.none ∈ ce_GW := gT_7 _ (List.mem_of_getElem? (i := 55) rfl) rfl
theorem gw_1496 : Cond.methodLink "java/util/ArrayList" 1 ⟨"java/util/AbstractList", "<init>", "()V"⟩ ∈ ce_GW := gT_7 _ (List.mem_of_getElem? (i := 56) rfl) rfl
theorem gw_1497 : Cond.instanceMethod ⟨"java/util/AbstractList", "<init>", "()V"⟩ ∈ ce_GW := gT_7 _ (List.mem_of_getElem? (i := 57) rfl) rfl
theorem gw_1498 : Cond.code ⟨"java/util/AbstractList", "<init>", "()V"⟩ prog_52_method_1_code 1 Option.none ∈ ce_GW := gT_7 _ (List.mem_of_getElem? (i := 58) rfl) rfl
theorem gw_1499 : Cond.methodLink "java/util/AbstractList" 1 ⟨"java/util/AbstractCollection", "<init>", "()V"⟩ ∈ ce_GW := gT_7 _ (List.mem_of_getElem? (i := 59) rfl) rfl
theorem gw_1500 : Cond.instanceMethod ⟨"java/util/AbstractCollection", "<init>", "()V"⟩ ∈ ce_GW := gT_7 _ (List.mem_of_getElem? (i := 60) rfl) rfl
theorem gw_1501 : Cond.code ⟨"java/util/AbstractCollection", "<init>", "()V"⟩ prog_51_method_1_code 1 Option.none ∈ ce_GW := gT_7 _ (List.mem_of_getElem? (i := 61) rfl) rfl
theorem gw_1502 : Cond.methodLink "java/util/AbstractCollection" 1 ⟨"java/lang/Object", "<init>", "()V"⟩ ∈ ce_GW := gT_7 _ (List.mem_of_getElem? (i := 62) rfl) rfl
theorem gw_1503 : Cond.fieldLink "java/util/ArrayList" 39 "java/util/ArrayList" "DEFAULTCAPACITY_EMPTY_ELEMENTDATA" "[Ljava/lang/Object;" ∈ ce_GW := gT_7 _ (List.mem_of_getElem? (i := 63) rfl) rfl
theorem gw_1505 : Cond.fieldLink "java/util/ArrayList" 9 "java/util/ArrayList" "elementData" "[Ljava/lang/Object;" ∈ ce_GW := gT_7 _ (List.mem_of_getElem? (i := 65) rfl) rfl
theorem gw_1508 : Cond.fieldLink "java/util/ArrayList" 48 "java/util/ArrayList" "size" "I" ∈ ce_GW := gT_7 _ (List.mem_of_getElem? (i := 68) rfl) rfl
theorem gw_1509 : Cond.fieldLink "java/util/AbstractList" 7 "java/util/AbstractList" "modCount" "I" ∈ ce_GW := gT_7 _ (List.mem_of_getElem? (i := 69) rfl) rfl
theorem gw_1510 : Cond.fieldLink "java/util/ArrayList$Itr" 17 "java/util/ArrayList" "modCount" "I" ∈ ce_GW := gT_7 _ (List.mem_of_getElem? (i := 70) rfl) rfl
theorem gw_1511 : Cond.sameField "java/util/ArrayList" "java/util/AbstractList" "modCount" "I" ∈ ce_GW := gT_7 _ (List.mem_of_getElem? (i := 71) rfl) rfl
theorem gw_1512 : Cond.fieldLink "java/util/ArrayList" 63 "java/util/ArrayList" "modCount" "I" ∈ ce_GW := gT_7 _ (List.mem_of_getElem? (i := 72) rfl) rfl
theorem gw_1521 : Cond.fieldLink "CarcasswrightModel" 54 "CarcasswrightModel" "thrown" "I" ∈ ce_GW := gT_7 _ (List.mem_of_getElem? (i := 81) rfl) rfl
theorem gw_1522 : Cond.fieldLink "CarcasswrightModel" 10 "CarcasswrightModel" "walls" "Ljava/util/ArrayList;" ∈ ce_GW := gT_7 _ (List.mem_of_getElem? (i := 82) rfl) rfl
theorem gw_1523 : Cond.fieldLink "CarcasswrightModel" 16 "CarcasswrightModel" "obstacles" "Ljava/util/ArrayList;" ∈ ce_GW := gT_7 _ (List.mem_of_getElem? (i := 83) rfl) rfl
theorem gw_1524 : Cond.fieldLink "CarcasswrightModel" 21 "CarcasswrightModel" "text" "Ljava/lang/String;" ∈ ce_GW := gT_7 _ (List.mem_of_getElem? (i := 84) rfl) rfl
theorem gw_1525 : Cond.fieldLink "CarcasswrightModel" 25 "CarcasswrightModel" "types" "Ljava/util/ArrayList;" ∈ ce_GW := gT_7 _ (List.mem_of_getElem? (i := 85) rfl) rfl
theorem gw_1526 : Cond.fieldLink "CarcasswrightModel" 28 "CarcasswrightModel" "modules" "Ljava/util/ArrayList;" ∈ ce_GW := gT_7 _ (List.mem_of_getElem? (i := 86) rfl) rfl
theorem gw_1527 : Cond.fieldLink "CarcasswrightModel" 31 "CarcasswrightModel" "stock" "Ljava/util/ArrayList;" ∈ ce_GW := gT_7 _ (List.mem_of_getElem? (i := 87) rfl) rfl
theorem gw_1528 : Cond.fieldLink "CarcasswrightModel" 34 "CarcasswrightModel" "jobs" "Ljava/util/ArrayList;" ∈ ce_GW := gT_7 _ (List.mem_of_getElem? (i := 88) rfl) rfl
theorem gw_1529 : Cond.fieldLink "CarcasswrightModel" 37 "CarcasswrightModel" "rates" "[I" ∈ ce_GW := gT_7 _ (List.mem_of_getElem? (i := 89) rfl) rfl
theorem gw_1530 : Cond.fieldLink "CarcasswrightModel" 41 "CarcasswrightModel" "setup" "I" ∈ ce_GW := gT_7 _ (List.mem_of_getElem? (i := 90) rfl) rfl
theorem gw_1531 : Cond.fieldLink "CarcasswrightModel" 383 "CarcasswrightModel" "came" "J" ∈ ce_GW := gT_7 _ (List.mem_of_getElem? (i := 91) rfl) rfl
theorem gw_1532 : Cond.fieldLink "CarcasswrightModel" 440 "CarcasswrightModel" "dust" "J" ∈ ce_GW := gT_7 _ (List.mem_of_getElem? (i := 92) rfl) rfl
theorem gw_1533 : Cond.fieldLink "CarcasswrightModel" 320 "CarcasswrightModel" "scrap" "J" ∈ ce_GW := gT_7 _ (List.mem_of_getElem? (i := 93) rfl) rfl
theorem gw_1534 : Cond.fieldLink "CarcasswrightModel" 45 "CarcasswrightModel" "clashes" "Ljava/lang/String;" ∈ ce_GW := gT_7 _ (List.mem_of_getElem? (i := 94) rfl) rfl
theorem gw_1535 : Cond.fieldLink "CarcasswrightModel" 48 "CarcasswrightModel" "clashNumbers" "[I" ∈ ce_GW := gT_7 _ (List.mem_of_getElem? (i := 95) rfl) rfl
theorem gw_1536 : Cond.fieldLink "CarcasswrightModel" 185 "CarcasswrightModel" "read" "LCarcasswrightModel$Type;" ∈ ce_GW := gT_7 _ (List.mem_of_getElem? (i := 96) rfl) rfl
theorem gw_1537 : Cond.fieldLink "CarcasswrightModel" 176 "CarcasswrightModel" "fault" "C" ∈ ce_GW := gT_7 _ (List.mem_of_getElem? (i := 97) rfl) rfl
theorem gw_1538 : Cond.fieldLink "CarcasswrightModel" 179 "CarcasswrightModel" "faultAt" "I" ∈ ce_GW := gT_7 _ (List.mem_of_getElem? (i := 98) rfl) rfl
theorem gw_1539 : Cond.fieldLink "CarcasswrightModel" 460 "CarcasswrightModel" "least" "I" ∈ ce_GW := gT_7 _ (List.mem_of_getElem? (i := 99) rfl) rfl
theorem gw_1540 : Cond.fieldLink "CarcasswrightModel" 51 "CarcasswrightModel" "order" "[I" ∈ ce_GW := gT_7 _ (List.mem_of_getElem? (i := 100) rfl) rfl
theorem gw_1582 : Cond.arrayClass Jvm.ClassFile.FieldType.byte ∈ ce_GW := gT_7 _ (List.mem_of_getElem? (i := 142) rfl) rfl
theorem gw_1583 : Cond.methodLink "CarcasswrightLaw" 180 ⟨"CarcasswrightModel", "thrown", "()I"⟩ ∈ ce_GW := gT_7 _ (List.mem_of_getElem? (i := 143) rfl) rfl
theorem gw_1584 : Cond.instanceMethod ⟨"CarcasswrightModel", "thrown", "()I"⟩ ∈ ce_GW := gT_7 _ (List.mem_of_getElem? (i := 144) rfl) rfl
theorem gw_1585 : Cond.selects "CarcasswrightModel" ⟨"CarcasswrightModel", "thrown", "()I"⟩ ⟨"CarcasswrightModel", "thrown", "()I"⟩ ∈ ce_GW := gT_7 _ (List.mem_of_getElem? (i := 145) rfl) rfl
theorem gw_1586 : Cond.code ⟨"CarcasswrightModel", "thrown", "()I"⟩ prog_14_method_4_code 1 (Option.some Jvm.ClassFile.FieldType.int) ∈ ce_GW := gT_7 _ (List.mem_of_getElem? (i := 146) rfl) rfl
theorem gw_1587 : Cond.methodLink "CarcasswrightLaw" 179 ⟨"CarcasswrightModel", "addWall", "(CI)I"⟩ ∈ ce_GW := gT_7 _ (List.mem_of_getElem? (i := 147) rfl) rfl
theorem gw_1588 : Cond.instanceMethod ⟨"CarcasswrightModel", "addWall", "(CI)I"⟩ ∈ ce_GW := gT_7 _ (List.mem_of_getElem? (i := 148) rfl) rfl
theorem gw_1589 : Cond.selects "CarcasswrightModel" ⟨"CarcasswrightModel", "addWall", "(CI)I"⟩ ⟨"CarcasswrightModel", "addWall", "(CI)I"⟩ ∈ ce_GW := gT_7 _ (List.mem_of_getElem? (i := 149) rfl) rfl
theorem gw_1590 : Cond.code ⟨"CarcasswrightModel", "addWall", "(CI)I"⟩ prog_14_method_6_code 3 (Option.some Jvm.ClassFile.FieldType.int) ∈ ce_GW := gT_7 _ (List.mem_of_getElem? (i := 150) rfl) rfl
theorem gw_1592 : Cond.methodLink "CarcasswrightModel" 59 ⟨"java/lang/String", "indexOf", "(I)I"⟩ ∈ ce_GW := gT_7 _ (List.mem_of_getElem? (i := 152) rfl) rfl
theorem gw_1593 : Cond.instanceMethod ⟨"java/lang/String", "indexOf", "(I)I"⟩ ∈ ce_GW := gT_7 _ (List.mem_of_getElem? (i := 153) rfl) rfl
theorem gw_1594 : Cond.selects "java/lang/String" ⟨"java/lang/String", "indexOf", "(I)I"⟩ ⟨"java/lang/String", "indexOf", "(I)I"⟩ ∈ ce_GW := gT_7 _ (List.mem_of_getElem? (i := 154) rfl) rfl
theorem gw_1595 : Cond.code ⟨"java/lang/String", "indexOf", "(I)I"⟩ prog_42_method_79_code 2 (Option.some Jvm.ClassFile.FieldType.int) ∈ ce_GW := gT_7 _ (List.mem_of_getElem? (i := 155) rfl) rfl
theorem gw_1596 : Cond.methodLink "java/lang/String" 633 ⟨"java/lang/String", "indexOf", "(II)I"⟩ ∈ ce_GW := gT_7 _ (List.mem_of_getElem? (i := 156) rfl) rfl
theorem gw_1597 : Cond.instanceMethod ⟨"java/lang/String", "indexOf", "(II)I"⟩ ∈ ce_GW := gT_7 _ (List.mem_of_getElem? (i := 157) rfl) rfl
theorem gw_1598 : Cond.selects "java/lang/String" ⟨"java/lang/String", "indexOf", "(II)I"⟩ ⟨"java/lang/String", "indexOf", "(II)I"⟩ ∈ ce_GW := gT_7 _ (List.mem_of_getElem? (i := 158) rfl) rfl
theorem gw_1599 : Cond.code ⟨"java/lang/String", "indexOf", "(II)I"⟩ prog_42_method_80_code 3 (Option.some Jvm.ClassFile.FieldType.int) ∈ ce_GW := gT_7 _ (List.mem_of_getElem? (i := 159) rfl) rfl
theorem gw_1600 : Cond.methodLink "java/lang/String" 492 ⟨"java/lang/String", "isLatin1", "()Z"⟩ ∈ ce_GW := gT_7 _ (List.mem_of_getElem? (i := 160) rfl) rfl
theorem gw_1601 : Cond.instanceMethod ⟨"java/lang/String", "isLatin1", "()Z"⟩ ∈ ce_GW := gT_7 _ (List.mem_of_getElem? (i := 161) rfl) rfl
theorem gw_1602 : Cond.selects "java/lang/String" ⟨"java/lang/String", "isLatin1", "()Z"⟩ ⟨"java/lang/String", "isLatin1", "()Z"⟩ ∈ ce_GW := gT_7 _ (List.mem_of_getElem? (i := 162) rfl) rfl
theorem gw_1603 : Cond.code ⟨"java/lang/String", "isLatin1", "()Z"⟩ prog_42_method_154_code 1 (Option.some Jvm.ClassFile.FieldType.boolean) ∈ ce_GW := gT_7 _ (List.mem_of_getElem? (i := 163) rfl) rfl
theorem gw_1604 : Cond.fieldLink "java/lang/String" 38 "java/lang/String" "COMPACT_STRINGS" "Z" ∈ ce_GW := gT_7 _ (List.mem_of_getElem? (i := 164) rfl) rfl
theorem gw_1606 : Cond.methodLink "java/lang/String" 505 ⟨"java/lang/String", "length", "()I"⟩ ∈ ce_GW := gT_7 _ (List.mem_of_getElem? (i := 166) rfl) rfl
theorem gw_1607 : Cond.instanceMethod ⟨"java/lang/String", "length", "()I"⟩ ∈ ce_GW := gT_7 _ (List.mem_of_getElem? (i := 167) rfl) rfl
theorem gw_1608 : Cond.selects "java/lang/String" ⟨"java/lang/String", "length", "()I"⟩ ⟨"java/lang/String", "length", "()I"⟩ ∈ ce_GW := gT_7 _ (List.mem_of_getElem? (i := 168) rfl) rfl
theorem gw_1609 : Cond.code ⟨"java/lang/String", "length", "()I"⟩ prog_42_method_54_code 1 (Option.some Jvm.ClassFile.FieldType.int) ∈ ce_GW := gT_7 _ (List.mem_of_getElem? (i := 169) rfl) rfl
theorem gw_1610 : Cond.methodLink "java/lang/String" 335 ⟨"java/lang/String", "coder", "()B"⟩ ∈ ce_GW := gT_7 _ (List.mem_of_getElem? (i := 170) rfl) rfl
theorem gw_1611 : Cond.instanceMethod ⟨"java/lang/String", "coder", "()B"⟩ ∈ ce_GW := gT_7 _ (List.mem_of_getElem? (i := 171) rfl) rfl
theorem gw_1612 : Cond.selects "java/lang/String" ⟨"java/lang/String", "coder", "()B"⟩ ⟨"java/lang/String", "coder", "()B"⟩ ∈ ce_GW := gT_7 _ (List.mem_of_getElem? (i := 172) rfl) rfl
theorem gw_1613 : Cond.code ⟨"java/lang/String", "coder", "()B"⟩ prog_42_method_152_code 1 (Option.some Jvm.ClassFile.FieldType.byte) ∈ ce_GW := gT_7 _ (List.mem_of_getElem? (i := 173) rfl) rfl
theorem gw_1614 : Cond.methodLink "java/lang/String" 637 ⟨"java/lang/StringLatin1", "indexOf", "([BIII)I"⟩ ∈ ce_GW := gT_7 _ (List.mem_of_getElem? (i := 174) rfl) rfl
theorem gw_1615 : Cond.static ⟨"java/lang/StringLatin1", "indexOf", "([BIII)I"⟩ ∈ ce_GW := gT_7 _ (List.mem_of_getElem? (i := 175) rfl) rfl
theorem gw_1616 : Cond.code ⟨"java/lang/StringLatin1", "indexOf", "([BIII)I"⟩ prog_44_method_22_code 4 (Option.some Jvm.ClassFile.FieldType.int) ∈ ce_GW := gT_7 _ (List.mem_of_getElem? (i := 176) rfl) rfl
theorem gw_1617 : Cond.methodLink "java/lang/StringLatin1" 88 ⟨"java/lang/StringLatin1", "canEncode", "(I)Z"⟩ ∈ ce_GW := gT_7 _ (List.mem_of_getElem? (i := 177) rfl) rfl
theorem gw_1618 : Cond.static ⟨"java/lang/StringLatin1", "canEncode", "(I)Z"⟩ ∈ ce_GW := gT_7 _ (List.mem_of_getElem? (i := 178) rfl) rfl
theorem gw_1619 : Cond.code ⟨"java/lang/StringLatin1", "canEncode", "(I)Z"⟩ prog_44_method_4_code 1 (Option.some Jvm.ClassFile.FieldType.boolean) ∈ ce_GW := gT_7 _ (List.mem_of_getElem? (i := 179) rfl) rfl
theorem gw_1620 : Cond.methodLink "java/lang/StringLatin1" 92 ⟨"java/lang/Math", "max", "(II)I"⟩ ∈ ce_GW := gT_7 _ (List.mem_of_getElem? (i := 180) rfl) rfl
theorem gw_1621 : Cond.methodLink "java/lang/StringLatin1" 38 ⟨"java/lang/Math", "min", "(II)I"⟩ ∈ ce_GW := gT_7 _ (List.mem_of_getElem? (i := 181) rfl) rfl
theorem gw_1622 : Cond.methodLink "java/lang/StringLatin1" 95 ⟨"java/lang/StringLatin1", "indexOfChar", "([BIII)I"⟩ ∈ ce_GW := gT_7 _ (List.mem_of_getElem? (i := 182) rfl) rfl
theorem gw_1623 : Cond.static ⟨"java/lang/StringLatin1", "indexOfChar", "([BIII)I"⟩ ∈ ce_GW := gT_7 _ (List.mem_of_getElem? (i := 183) rfl) rfl
theorem gw_1624 : Cond.code ⟨"java/lang/StringLatin1", "indexOfChar", "([BIII)I"⟩ prog_44_method_23_code 6 (Option.some Jvm.ClassFile.FieldType.int) ∈ ce_GW := gT_7 _ (List.mem_of_getElem? (i := 184) rfl) rfl
theorem gw_1637 : Cond.methodLink "java/lang/StringUTF16" 48 ⟨"java/lang/StringUTF16", "length", "([B)I"⟩ ∈ ce_GW := gT_7 _ (List.mem_of_getElem? (i := 197) rfl) rfl
theorem gw_1638 : Cond.static ⟨"java/lang/StringUTF16", "length", "([B)I"⟩ ∈ ce_GW := gT_7 _ (List.mem_of_getElem? (i := 198) rfl) rfl
theorem gw_1639 : Cond.code ⟨"java/lang/StringUTF16", "length", "([B)I"⟩ prog_45_method_6_code 1 (Option.some Jvm.ClassFile.FieldType.int) ∈ ce_GW := gT_7 _ (List.mem_of_getElem? (i := 199) rfl) rfl
theorem gw_1643 : Cond.fieldLink "java/lang/String" 1053 "jdk/internal/util/Preconditions" "SIOOBE_FORMATTER" "Ljava/util/function/BiFunction;" ∈ ce_GW := gT_7 _ (List.mem_of_getElem? (i := 203) rfl) rfl
theorem gw_1654 : Cond.fieldLink "java/lang/StringUTF16" 44 "java/lang/StringUTF16" "$assertionsDisabled" "Z" ∈ ce_GW := gT_7 _ (List.mem_of_getElem? (i := 214) rfl) rfl
theorem gw_1656 : Cond.fieldLink "java/lang/StringUTF16" 59 "java/lang/StringUTF16" "HI_BYTE_SHIFT" "I" ∈ ce_GW := gT_7 _ (List.mem_of_getElem? (i := 216) rfl) rfl
theorem gw_1658 : Cond.fieldLink "java/lang/StringUTF16" 63 "java/lang/StringUTF16" "LO_BYTE_SHIFT" "I" ∈ ce_GW := gT_7 _ (List.mem_of_getElem? (i := 218) rfl) rfl
theorem gw_1674 : Cond.methodLink "CarcasswrightModel" 65 ⟨"CarcasswrightModel", "in", "(III)Z"⟩ ∈ ce_GW := gT_7 _ (List.mem_of_getElem? (i := 234) rfl) rfl
theorem gw_1675 : Cond.static ⟨"CarcasswrightModel", "in", "(III)Z"⟩ ∈ ce_GW := gT_7 _ (List.mem_of_getElem? (i := 235) rfl) rfl
theorem gw_1676 : Cond.code ⟨"CarcasswrightModel", "in", "(III)Z"⟩ prog_14_method_1_code 3 (Option.some Jvm.ClassFile.FieldType.boolean) ∈ ce_GW := gT_7 _ (List.mem_of_getElem? (i := 236) rfl) rfl
theorem gw_1677 : Cond.methodLink "CarcasswrightModel" 69 ⟨"java/util/ArrayList", "size", "()I"⟩ ∈ ce_GW := gT_7 _ (List.mem_of_getElem? (i := 237) rfl) rfl
theorem gw_1678 : Cond.instanceMethod ⟨"java/util/ArrayList", "size", "()I"⟩ ∈ ce_GW := gT_7 _ (List.mem_of_getElem? (i := 238) rfl) rfl
theorem gw_1679 : Cond.selects "java/util/ArrayList" ⟨"java/util/ArrayList", "size", "()I"⟩ ⟨"java/util/ArrayList", "size", "()I"⟩ ∈ ce_GW := gT_7 _ (List.mem_of_getElem? (i := 239) rfl) rfl
theorem gw_1680 : Cond.code ⟨"java/util/ArrayList", "size", "()I"⟩ prog_53_method_8_code 1 (Option.some Jvm.ClassFile.FieldType.int) ∈ ce_GW := gT_8 _ (List.mem_of_getElem? (i := 0) rfl) rfl
theorem gw_1681 : Cond.methodLink "CarcasswrightModel" 73 ⟨"java/util/ArrayList", "isEmpty", "()Z"⟩ ∈ ce_GW := gT_8 _ (List.mem_of_getElem? (i := 1) rfl) rfl
theorem gw_1682 : Cond.instanceMethod ⟨"java/util/ArrayList", "isEmpty", "()Z"⟩ ∈ ce_GW := gT_8 _ (List.mem_of_getElem? (i := 2) rfl) rfl
theorem gw_1683 : Cond.selects "java/util/ArrayList" ⟨"java/util/ArrayList", "isEmpty", "()Z"⟩ ⟨"java/util/ArrayList", "isEmpty", "()Z"⟩ ∈ ce_GW := gT_8 _ (List.mem_of_getElem? (i := 3) rfl) rfl
theorem gw_1684 : Cond.code ⟨"java/util/ArrayList", "isEmpty", "()Z"⟩ prog_53_method_9_code 1 (Option.some Jvm.ClassFile.FieldType.boolean) ∈ ce_GW := gT_8 _ (List.mem_of_getElem? (i := 4) rfl) rfl
theorem gw_1685 : Cond.classLink "CarcasswrightModel" 77 "CarcasswrightModel$Wall" ∈ ce_GW := gT_8 _ (List.mem_of_getElem? (i := 5) rfl) rfl
theorem gw_1686 : Cond.instantiable "CarcasswrightModel$Wall" 5 ∈ ce_GW := gT_8 _ (List.mem_of_getElem? (i := 6) rfl) rfl
theorem gw_1687 : Cond.methodLink "CarcasswrightModel" 79 ⟨"CarcasswrightModel$Wall", "<init>", "(CI)V"⟩ ∈ ce_GW := gT_8 _ (List.mem_of_getElem? (i := 7) rfl) rfl
theorem gw_1688 : Cond.instanceMethod ⟨"CarcasswrightModel$Wall", "<init>", "(CI)V"⟩ ∈ ce_GW := gT_8 _ (List.mem_of_getElem? (i := 8) rfl) rfl
theorem gw_1689 : Cond.code ⟨"CarcasswrightModel$Wall", "<init>", "(CI)V"⟩ prog_23_method_1_code 3 Option.none ∈ ce_GW := gT_8 _ (List.mem_of_getElem? (i := 9) rfl) rfl
theorem gw_1690 : Cond.methodLink "CarcasswrightModel$Wall" 1 ⟨"java/lang/Object", "<init>", "()V"⟩ ∈ ce_GW := gT_8 _ (List.mem_of_getElem? (i := 10) rfl) rfl
theorem gw_1691 : Cond.fieldLink "CarcasswrightModel$Wall" 7 "CarcasswrightModel$Wall" "way" "C" ∈ ce_GW := gT_8 _ (List.mem_of_getElem? (i := 11) rfl) rfl
theorem gw_1693 : Cond.fieldLink "CarcasswrightModel$Wall" 13 "CarcasswrightModel$Wall" "measured" "I" ∈ ce_GW := gT_8 _ (List.mem_of_getElem? (i := 13) rfl) rfl
theorem gw_1695 : Cond.fieldLink "CarcasswrightModel$Wall" 17 "CarcasswrightModel$Wall" "length" "I" ∈ ce_GW := gT_8 _ (List.mem_of_getElem? (i := 15) rfl) rfl
theorem gw_1710 : Cond.methodLink "CarcasswrightModel" 82 ⟨"java/util/ArrayList", "add", "(Ljava/lang/Object;)Z"⟩ ∈ ce_GW := gT_8 _ (List.mem_of_getElem? (i := 30) rfl) rfl
theorem gw_1711 : Cond.instanceMethod ⟨"java/util/ArrayList", "add", "(Ljava/lang/Object;)Z"⟩ ∈ ce_GW := gT_8 _ (List.mem_of_getElem? (i := 31) rfl) rfl
theorem gw_1712 : Cond.selects "java/util/ArrayList" ⟨"java/util/ArrayList", "add", "(Ljava/lang/Object;)Z"⟩ ⟨"java/util/ArrayList", "add", "(Ljava/lang/Object;)Z"⟩ ∈ ce_GW := gT_8 _ (List.mem_of_getElem? (i := 32) rfl) rfl
theorem gw_1713 : Cond.code ⟨"java/util/ArrayList", "add", "(Ljava/lang/Object;)Z"⟩ prog_53_method_25_code 2 (Option.some Jvm.ClassFile.FieldType.boolean) ∈ ce_GW := gT_8 _ (List.mem_of_getElem? (i := 33) rfl) rfl
theorem gw_1714 : Cond.methodLink "java/util/ArrayList" 131 ⟨"java/util/ArrayList", "add", "(Ljava/lang/Object;[Ljava/lang/Object;I)V"⟩ ∈ ce_GW := gT_8 _ (List.mem_of_getElem? (i := 34) rfl) rfl
theorem gw_1716 : Cond.instanceMethod ⟨"java/util/ArrayList", "add", "(Ljava/lang/Object;[Ljava/lang/Object;I)V"⟩ ∈ ce_GW := gT_8 _ (List.mem_of_getElem? (i := 36) rfl) rfl
theorem gw_1717 : Cond.code ⟨"java/util/ArrayList", "add", "(Ljava/lang/Object;[Ljava/lang/Object;I)V"⟩ prog_53_method_24_code 4 Option.none ∈ ce_GW := gT_8 _ (List.mem_of_getElem? (i := 37) rfl) rfl
theorem gw_1718 : Cond.methodLink "java/util/ArrayList" 129 ⟨"java/util/ArrayList", "grow", "()[Ljava/lang/Object;"⟩ ∈ ce_GW := gT_8 _ (List.mem_of_getElem? (i := 38) rfl) rfl
theorem gw_1720 : Cond.instanceMethod ⟨"java/util/ArrayList", "grow", "()[Ljava/lang/Object;"⟩ ∈ ce_GW := gT_8 _ (List.mem_of_getElem? (i := 40) rfl) rfl
theorem gw_1721 : Cond.code ⟨"java/util/ArrayList", "grow", "()[Ljava/lang/Object;"⟩ prog_53_method_7_code 1 (Option.some (Jvm.ClassFile.FieldType.array (Jvm.ClassFile.FieldType.object "java/lang/Object"))) ∈ ce_GW := gT_8 _ (List.mem_of_getElem? (i := 41) rfl) rfl
theorem gw_1722 : Cond.methodLink "java/util/ArrayList" 69 ⟨"java/util/ArrayList", "grow", "(I)[Ljava/lang/Object;"⟩ ∈ ce_GW := gT_8 _ (List.mem_of_getElem? (i := 42) rfl) rfl
theorem gw_1724 : Cond.instanceMethod ⟨"java/util/ArrayList", "grow", "(I)[Ljava/lang/Object;"⟩ ∈ ce_GW := gT_8 _ (List.mem_of_getElem? (i := 44) rfl) rfl
theorem gw_1725 : Cond.code ⟨"java/util/ArrayList", "grow", "(I)[Ljava/lang/Object;"⟩ prog_53_method_6_code 4 (Option.some (Jvm.ClassFile.FieldType.array (Jvm.ClassFile.FieldType.object "java/lang/Object"))) ∈ ce_GW := gT_8 _ (List.mem_of_getElem? (i := 45) rfl) rfl
theorem gw_1726 : Cond.methodLink "java/util/ArrayList" 73 ⟨"jdk/internal/util/ArraysSupport", "newLength", "(III)I"⟩ ∈ ce_GW := gT_8 _ (List.mem_of_getElem? (i := 46) rfl) rfl
theorem gw_1727 : Cond.static ⟨"jdk/internal/util/ArraysSupport", "newLength", "(III)I"⟩ ∈ ce_GW := gT_8 _ (List.mem_of_getElem? (i := 47) rfl) rfl
theorem gw_1728 : Cond.code ⟨"jdk/internal/util/ArraysSupport", "newLength", "(III)I"⟩ prog_63_method_27_code 4 (Option.some Jvm.ClassFile.FieldType.int) ∈ ce_GW := gT_8 _ (List.mem_of_getElem? (i := 48) rfl) rfl
theorem gw_1729 : Cond.methodLink "jdk/internal/util/ArraysSupport" 194 ⟨"java/lang/Math", "max", "(II)I"⟩ ∈ ce_GW := gT_8 _ (List.mem_of_getElem? (i := 49) rfl) rfl
theorem gw_1730 : Cond.constant "jdk/internal/util/ArraysSupport" 200 (Int32.ofInt 2147483639) ∈ ce_GW := gT_8 _ (List.mem_of_getElem? (i := 50) rfl) rfl
theorem gw_1734 : Cond.methodLink "java/util/ArrayList" 66 ⟨"java/util/Arrays", "copyOf", "([Ljava/lang/Object;I)[Ljava/lang/Object;"⟩ ∈ ce_GW := gT_8 _ (List.mem_of_getElem? (i := 54) rfl) rfl
theorem gw_1735 : Cond.static ⟨"java/util/Arrays", "copyOf", "([Ljava/lang/Object;I)[Ljava/lang/Object;"⟩ ∈ ce_GW := gT_8 _ (List.mem_of_getElem? (i := 55) rfl) rfl
theorem gw_1736 : Cond.code ⟨"java/util/Arrays", "copyOf", "([Ljava/lang/Object;I)[Ljava/lang/Object;"⟩ prog_55_method_119_code 2 (Option.some (Jvm.ClassFile.FieldType.array (Jvm.ClassFile.FieldType.object "java/lang/Object"))) ∈ ce_GW := gT_8 _ (List.mem_of_getElem? (i := 56) rfl) rfl
theorem gw_1737 : Cond.methodLink "java/util/Arrays" 86 ⟨"java/lang/Object", "getClass", "()Ljava/lang/Class;"⟩ ∈ ce_GW := gT_8 _ (List.mem_of_getElem? (i := 57) rfl) rfl
theorem gw_1738 : Cond.instanceMethod ⟨"java/lang/Object", "getClass", "()Ljava/lang/Class;"⟩ ∈ ce_GW := gT_8 _ (List.mem_of_getElem? (i := 58) rfl) rfl
theorem gw_1772 : Cond.native ⟨"java/lang/Object", "getClass", "()Ljava/lang/Class;"⟩ ∈ ce_GW := gT_8 _ (List.mem_of_getElem? (i := 92) rfl) rfl
theorem gw_1773 : Cond.methodLink "java/util/Arrays" 300 ⟨"java/util/Arrays", "copyOf", "([Ljava/lang/Object;ILjava/lang/Class;)[Ljava/lang/Object;"⟩ ∈ ce_GW := gT_8 _ (List.mem_of_getElem? (i := 93) rfl) rfl
theorem gw_1774 : Cond.static ⟨"java/util/Arrays", "copyOf", "([Ljava/lang/Object;ILjava/lang/Class;)[Ljava/lang/Object;"⟩ ∈ ce_GW := gT_8 _ (List.mem_of_getElem? (i := 94) rfl) rfl
theorem gw_1775 : Cond.code ⟨"java/util/Arrays", "copyOf", "([Ljava/lang/Object;ILjava/lang/Class;)[Ljava/lang/Object;"⟩ prog_55_method_120_code 4 (Option.some (Jvm.ClassFile.FieldType.array (Jvm.ClassFile.FieldType.object "java/lang/Object"))) ∈ ce_GW := gT_8 _ (List.mem_of_getElem? (i := 95) rfl) rfl
theorem gw_1776 : Cond.classLink "java/util/Arrays" 110 "[Ljava/lang/Object;" ∈ ce_GW := gT_8 _ (List.mem_of_getElem? (i := 96) rfl) rfl
theorem gw_1778 : Cond.classLink "java/util/Arrays" 2 "java/lang/Object" ∈ ce_GW := gT_8 _ (List.mem_of_getElem? (i := 98) rfl) rfl
theorem gw_1779 : Cond.methodLink "java/util/Arrays" 304 ⟨"java/lang/Math", "min", "(II)I"⟩ ∈ ce_GW := gT_8 _ (List.mem_of_getElem? (i := 99) rfl) rfl
theorem gw_1780 : Cond.methodLink "java/util/Arrays" 150 ⟨"java/lang/System", "arraycopy", "(Ljava/lang/Object;ILjava/lang/Object;II)V"⟩ ∈ ce_GW := gT_8 _ (List.mem_of_getElem? (i := 100) rfl) rfl
theorem gw_1781 : Cond.static ⟨"java/lang/System", "arraycopy", "(Ljava/lang/Object;ILjava/lang/Object;II)V"⟩ ∈ ce_GW := gT_8 _ (List.mem_of_getElem? (i := 101) rfl) rfl
theorem gw_1782 : Cond.native ⟨"java/lang/System", "arraycopy", "(Ljava/lang/Object;ILjava/lang/Object;II)V"⟩ ∈ ce_GW := gT_8 _ (List.mem_of_getElem? (i := 102) rfl) rfl
theorem gw_1783 : Cond.methodLink "java/util/ArrayList" 79 ⟨"java/lang/Math", "max", "(II)I"⟩ ∈ ce_GW := gT_8 _ (List.mem_of_getElem? (i := 103) rfl) rfl
theorem gw_1784 : Cond.classLink "java/util/ArrayList" 7 "java/lang/Object" ∈ ce_GW := gT_8 _ (List.mem_of_getElem? (i := 104) rfl) rfl
theorem gw_1785 : Cond.methodLink "CarcasswrightLaw" 186 ⟨"CarcasswrightModel", "close", "()I"⟩ ∈ ce_GW := gT_8 _ (List.mem_of_getElem? (i := 105) rfl) rfl
theorem gw_1786 : Cond.instanceMethod ⟨"CarcasswrightModel", "close", "()I"⟩ ∈ ce_GW := gT_8 _ (List.mem_of_getElem? (i := 106) rfl) rfl
theorem gw_1787 : Cond.selects "CarcasswrightModel" ⟨"CarcasswrightModel", "close", "()I"⟩ ⟨"CarcasswrightModel", "close", "()I"⟩ ∈ ce_GW := gT_8 _ (List.mem_of_getElem? (i := 107) rfl) rfl
theorem gw_1788 : Cond.code ⟨"CarcasswrightModel", "close", "()I"⟩ prog_14_method_11_code 6 (Option.some Jvm.ClassFile.FieldType.int) ∈ ce_GW := gT_8 _ (List.mem_of_getElem? (i := 108) rfl) rfl
theorem gw_1797 : Cond.methodLink "CarcasswrightModel" 86 ⟨"java/util/ArrayList", "iterator", "()Ljava/util/Iterator;"⟩ ∈ ce_GW := gT_8 _ (List.mem_of_getElem? (i := 117) rfl) rfl
theorem gw_1798 : Cond.instanceMethod ⟨"java/util/ArrayList", "iterator", "()Ljava/util/Iterator;"⟩ ∈ ce_GW := gT_8 _ (List.mem_of_getElem? (i := 118) rfl) rfl
theorem gw_1799 : Cond.selects "java/util/ArrayList" ⟨"java/util/ArrayList", "iterator", "()Ljava/util/Iterator;"⟩ ⟨"java/util/ArrayList", "iterator", "()Ljava/util/Iterator;"⟩ ∈ ce_GW := gT_8 _ (List.mem_of_getElem? (i := 119) rfl) rfl
theorem gw_1800 : Cond.code ⟨"java/util/ArrayList", "iterator", "()Ljava/util/Iterator;"⟩ prog_53_method_55_code 1 (Option.some (Jvm.ClassFile.FieldType.object "java/util/Iterator")) ∈ ce_GW := gT_8 _ (List.mem_of_getElem? (i := 120) rfl) rfl
theorem gw_1801 : Cond.classLink "java/util/ArrayList" 267 "java/util/ArrayList$Itr" ∈ ce_GW := gT_8 _ (List.mem_of_getElem? (i := 121) rfl) rfl
theorem gw_1802 : Cond.instantiable "java/util/ArrayList$Itr" 4 ∈ ce_GW := gT_8 _ (List.mem_of_getElem? (i := 122) rfl) rfl
theorem gw_1803 : Cond.methodLink "java/util/ArrayList" 269 ⟨"java/util/ArrayList$Itr", "<init>", "(Ljava/util/ArrayList;)V"⟩ ∈ ce_GW := gT_8 _ (List.mem_of_getElem? (i := 123) rfl) rfl
theorem gw_1804 : Cond.instanceMethod ⟨"java/util/ArrayList$Itr", "<init>", "(Ljava/util/ArrayList;)V"⟩ ∈ ce_GW := gT_8 _ (List.mem_of_getElem? (i := 124) rfl) rfl
theorem gw_1805 : Cond.code ⟨"java/util/ArrayList$Itr", "<init>", "(Ljava/util/ArrayList;)V"⟩ prog_54_method_1_code 2 Option.none ∈ ce_GW := gT_8 _ (List.mem_of_getElem? (i := 125) rfl) rfl
theorem gw_1806 : Cond.methodLink "java/util/ArrayList$Itr" 7 ⟨"java/lang/Object", "<init>", "()V"⟩ ∈ ce_GW := gT_8 _ (List.mem_of_getElem? (i := 126) rfl) rfl
theorem gw_1807 : Cond.fieldLink "java/util/ArrayList$Itr" 25 "java/util/ArrayList$Itr" "cursor" "I" ∈ ce_GW := gT_8 _ (List.mem_of_getElem? (i := 127) rfl) rfl
theorem gw_1808 : Cond.fieldLink "java/util/ArrayList$Itr" 13 "java/util/ArrayList$Itr" "lastRet" "I" ∈ ce_GW := gT_8 _ (List.mem_of_getElem? (i := 128) rfl) rfl
theorem gw_1809 : Cond.fieldLink "java/util/ArrayList$Itr" 22 "java/util/ArrayList$Itr" "expectedModCount" "I" ∈ ce_GW := gT_8 _ (List.mem_of_getElem? (i := 129) rfl) rfl
theorem gw_1810 : Cond.fieldLink "java/util/ArrayList$Itr" 1 "java/util/ArrayList$Itr" "this$0" "Ljava/util/ArrayList;" ∈ ce_GW := gT_8 _ (List.mem_of_getElem? (i := 130) rfl) rfl
theorem gw_1821 : Cond.methodLink "CarcasswrightModel" 90 ⟨"java/util/Iterator", "hasNext", "()Z"⟩ ∈ ce_GW := gT_8 _ (List.mem_of_getElem? (i := 141) rfl) rfl
theorem gw_1825 : Cond.selects "java/util/ArrayList$Itr" ⟨"java/util/Iterator", "hasNext", "()Z"⟩ ⟨"java/util/ArrayList$Itr", "hasNext", "()Z"⟩ ∈ ce_GW := gT_8 _ (List.mem_of_getElem? (i := 145) rfl) rfl
theorem gw_1827 : Cond.instanceMethod ⟨"java/util/ArrayList$Itr", "hasNext", "()Z"⟩ ∈ ce_GW := gT_8 _ (List.mem_of_getElem? (i := 147) rfl) rfl
theorem gw_1829 : Cond.code ⟨"java/util/ArrayList$Itr", "hasNext", "()Z"⟩ prog_54_method_2_code 1 (Option.some Jvm.ClassFile.FieldType.boolean) ∈ ce_GW := gT_8 _ (List.mem_of_getElem? (i := 149) rfl) rfl
theorem gw_1845 : Cond.methodLink "CarcasswrightModel" 125 ⟨"CarcasswrightModel", "raises", "(I)I"⟩ ∈ ce_GW := gT_8 _ (List.mem_of_getElem? (i := 165) rfl) rfl
theorem gw_1847 : Cond.instanceMethod ⟨"CarcasswrightModel", "raises", "(I)I"⟩ ∈ ce_GW := gT_8 _ (List.mem_of_getElem? (i := 167) rfl) rfl
theorem gw_1848 : Cond.code ⟨"CarcasswrightModel", "raises", "(I)I"⟩ prog_14_method_5_code 2 (Option.some Jvm.ClassFile.FieldType.int) ∈ ce_GW := gT_8 _ (List.mem_of_getElem? (i := 168) rfl) rfl
theorem gw_1862 : Cond.static ⟨"jdk/internal/util/Preconditions", "checkIndex", "(IILjava/util/function/BiFunction;)I"⟩ ∈ ce_GW := gT_8 _ (List.mem_of_getElem? (i := 182) rfl) rfl
theorem gw_1863 : Cond.code ⟨"jdk/internal/util/Preconditions", "checkIndex", "(IILjava/util/function/BiFunction;)I"⟩ prog_64_method_11_code 3 (Option.some Jvm.ClassFile.FieldType.int) ∈ ce_GW := gT_8 _ (List.mem_of_getElem? (i := 183) rfl) rfl
theorem gw_1869 : Cond.methodLink "CarcasswrightLaw" 190 ⟨"CarcasswrightModel", "lengthOf", "(I)I"⟩ ∈ ce_GW := gT_8 _ (List.mem_of_getElem? (i := 189) rfl) rfl
theorem gw_1870 : Cond.instanceMethod ⟨"CarcasswrightModel", "lengthOf", "(I)I"⟩ ∈ ce_GW := gT_8 _ (List.mem_of_getElem? (i := 190) rfl) rfl
theorem gw_1871 : Cond.selects "CarcasswrightModel" ⟨"CarcasswrightModel", "lengthOf", "(I)I"⟩ ⟨"CarcasswrightModel", "lengthOf", "(I)I"⟩ ∈ ce_GW := gT_8 _ (List.mem_of_getElem? (i := 191) rfl) rfl
theorem gw_1872 : Cond.code ⟨"CarcasswrightModel", "lengthOf", "(I)I"⟩ prog_14_method_13_code 2 (Option.some Jvm.ClassFile.FieldType.int) ∈ ce_GW := gT_8 _ (List.mem_of_getElem? (i := 192) rfl) rfl
theorem gw_1873 : Cond.methodLink "CarcasswrightModel" 136 ⟨"CarcasswrightModel", "noWall", "(I)Z"⟩ ∈ ce_GW := gT_8 _ (List.mem_of_getElem? (i := 193) rfl) rfl
theorem gw_1875 : Cond.instanceMethod ⟨"CarcasswrightModel", "noWall", "(I)Z"⟩ ∈ ce_GW := gT_8 _ (List.mem_of_getElem? (i := 195) rfl) rfl
theorem gw_1876 : Cond.code ⟨"CarcasswrightModel", "noWall", "(I)Z"⟩ prog_14_method_12_code 2 (Option.some Jvm.ClassFile.FieldType.boolean) ∈ ce_GW := gT_8 _ (List.mem_of_getElem? (i := 196) rfl) rfl
theorem gw_1877 : Cond.methodLink "CarcasswrightLaw" 195 ⟨"CarcasswrightModel", "isClosedRoom", "()Z"⟩ ∈ ce_GW := gT_8 _ (List.mem_of_getElem? (i := 197) rfl) rfl
theorem gw_1878 : Cond.instanceMethod ⟨"CarcasswrightModel", "isClosedRoom", "()Z"⟩ ∈ ce_GW := gT_8 _ (List.mem_of_getElem? (i := 198) rfl) rfl
theorem gw_1879 : Cond.selects "CarcasswrightModel" ⟨"CarcasswrightModel", "isClosedRoom", "()Z"⟩ ⟨"CarcasswrightModel", "isClosedRoom", "()Z"⟩ ∈ ce_GW := gT_8 _ (List.mem_of_getElem? (i := 199) rfl) rfl
theorem gw_1880 : Cond.code ⟨"CarcasswrightModel", "isClosedRoom", "()Z"⟩ prog_14_method_14_code 1 (Option.some Jvm.ClassFile.FieldType.boolean) ∈ ce_GW := gT_8 _ (List.mem_of_getElem? (i := 200) rfl) rfl
theorem gw_1885 : Cond.methodLink "CarcasswrightLaw" 199 ⟨"CarcasswrightModel", "setOff", "(III)I"⟩ ∈ ce_GW := gT_8 _ (List.mem_of_getElem? (i := 205) rfl) rfl
theorem gw_1886 : Cond.instanceMethod ⟨"CarcasswrightModel", "setOff", "(III)I"⟩ ∈ ce_GW := gT_8 _ (List.mem_of_getElem? (i := 206) rfl) rfl
theorem gw_1887 : Cond.selects "CarcasswrightModel" ⟨"CarcasswrightModel", "setOff", "(III)I"⟩ ⟨"CarcasswrightModel", "setOff", "(III)I"⟩ ∈ ce_GW := gT_8 _ (List.mem_of_getElem? (i := 207) rfl) rfl
theorem gw_1888 : Cond.code ⟨"CarcasswrightModel", "setOff", "(III)I"⟩ prog_14_method_15_code 6 (Option.some Jvm.ClassFile.FieldType.int) ∈ ce_GW := gT_8 _ (List.mem_of_getElem? (i := 208) rfl) rfl
theorem gw_1889 : Cond.methodLink "CarcasswrightLaw" 203 ⟨"CarcasswrightModel", "obstacle", "(IIIII)I"⟩ ∈ ce_GW := gT_8 _ (List.mem_of_getElem? (i := 209) rfl) rfl
theorem gw_1890 : Cond.instanceMethod ⟨"CarcasswrightModel", "obstacle", "(IIIII)I"⟩ ∈ ce_GW := gT_8 _ (List.mem_of_getElem? (i := 210) rfl) rfl
theorem gw_1891 : Cond.selects "CarcasswrightModel" ⟨"CarcasswrightModel", "obstacle", "(IIIII)I"⟩ ⟨"CarcasswrightModel", "obstacle", "(IIIII)I"⟩ ∈ ce_GW := gT_8 _ (List.mem_of_getElem? (i := 211) rfl) rfl
theorem gw_1892 : Cond.code ⟨"CarcasswrightModel", "obstacle", "(IIIII)I"⟩ prog_14_method_16_code 7 (Option.some Jvm.ClassFile.FieldType.int) ∈ ce_GW := gT_8 _ (List.mem_of_getElem? (i := 212) rfl) rfl
theorem gw_1920 : Cond.methodLink "CarcasswrightLaw" 207 ⟨"CarcasswrightModel", "type", "(C)I"⟩ ∈ ce_GW := gT_9 _ (List.mem_of_getElem? (i := 0) rfl) rfl
theorem gw_1921 : Cond.instanceMethod ⟨"CarcasswrightModel", "type", "(C)I"⟩ ∈ ce_GW := gT_9 _ (List.mem_of_getElem? (i := 1) rfl) rfl
theorem gw_1922 : Cond.selects "CarcasswrightModel" ⟨"CarcasswrightModel", "type", "(C)I"⟩ ⟨"CarcasswrightModel", "type", "(C)I"⟩ ∈ ce_GW := gT_9 _ (List.mem_of_getElem? (i := 2) rfl) rfl
theorem gw_1923 : Cond.code ⟨"CarcasswrightModel", "type", "(C)I"⟩ prog_14_method_17_code 2 (Option.some Jvm.ClassFile.FieldType.int) ∈ ce_GW := gT_9 _ (List.mem_of_getElem? (i := 3) rfl) rfl
theorem gw_1924 : Cond.methodLink "CarcasswrightModel" 154 ⟨"java/lang/String", "length", "()I"⟩ ∈ ce_GW := gT_9 _ (List.mem_of_getElem? (i := 4) rfl) rfl
theorem gw_1925 : Cond.classLink "CarcasswrightModel" 156 "java/lang/StringBuilder" ∈ ce_GW := gT_9 _ (List.mem_of_getElem? (i := 5) rfl) rfl
theorem gw_1926 : Cond.instantiable "java/lang/StringBuilder" 4 ∈ ce_GW := gT_9 _ (List.mem_of_getElem? (i := 6) rfl) rfl
theorem gw_1927 : Cond.methodLink "CarcasswrightModel" 158 ⟨"java/lang/StringBuilder", "<init>", "()V"⟩ ∈ ce_GW := gT_9 _ (List.mem_of_getElem? (i := 7) rfl) rfl
theorem gw_1928 : Cond.instanceMethod ⟨"java/lang/StringBuilder", "<init>", "()V"⟩ ∈ ce_GW := gT_9 _ (List.mem_of_getElem? (i := 8) rfl) rfl
theorem gw_1929 : Cond.code ⟨"java/lang/StringBuilder", "<init>", "()V"⟩ prog_43_method_1_code 1 Option.none ∈ ce_GW := gT_9 _ (List.mem_of_getElem? (i := 9) rfl) rfl
theorem gw_1930 : Cond.methodLink "java/lang/StringBuilder" 1 ⟨"java/lang/AbstractStringBuilder", "<init>", "(I)V"⟩ ∈ ce_GW := gT_9 _ (List.mem_of_getElem? (i := 10) rfl) rfl
theorem gw_1931 : Cond.instanceMethod ⟨"java/lang/AbstractStringBuilder", "<init>", "(I)V"⟩ ∈ ce_GW := gT_9 _ (List.mem_of_getElem? (i := 11) rfl) rfl
theorem gw_1932 : Cond.code ⟨"java/lang/AbstractStringBuilder", "<init>", "(I)V"⟩ prog_25_method_2_code 2 Option.none ∈ ce_GW := gT_9 _ (List.mem_of_getElem? (i := 12) rfl) rfl
theorem gw_1933 : Cond.methodLink "java/lang/AbstractStringBuilder" 3 ⟨"java/lang/Object", "<init>", "()V"⟩ ∈ ce_GW := gT_9 _ (List.mem_of_getElem? (i := 13) rfl) rfl
theorem gw_1934 : Cond.fieldLink "java/lang/AbstractStringBuilder" 18 "java/lang/String" "COMPACT_STRINGS" "Z" ∈ ce_GW := gT_9 _ (List.mem_of_getElem? (i := 14) rfl) rfl
theorem gw_1935 : Cond.methodLink "java/lang/AbstractStringBuilder" 26 ⟨"java/lang/StringUTF16", "newBytesFor", "(I)[B"⟩ ∈ ce_GW := gT_9 _ (List.mem_of_getElem? (i := 15) rfl) rfl
theorem gw_1936 : Cond.static ⟨"java/lang/StringUTF16", "newBytesFor", "(I)[B"⟩ ∈ ce_GW := gT_9 _ (List.mem_of_getElem? (i := 16) rfl) rfl
theorem gw_1937 : Cond.code ⟨"java/lang/StringUTF16", "newBytesFor", "(I)[B"⟩ prog_45_method_2_code 1 (Option.some (Jvm.ClassFile.FieldType.array Jvm.ClassFile.FieldType.byte)) ∈ ce_GW := gT_9 _ (List.mem_of_getElem? (i := 17) rfl) rfl
theorem gw_1938 : Cond.methodLink "java/lang/StringUTF16" 11 ⟨"java/lang/StringUTF16", "newBytesLength", "(I)I"⟩ ∈ ce_GW := gT_9 _ (List.mem_of_getElem? (i := 18) rfl) rfl
theorem gw_1939 : Cond.static ⟨"java/lang/StringUTF16", "newBytesLength", "(I)I"⟩ ∈ ce_GW := gT_9 _ (List.mem_of_getElem? (i := 19) rfl) rfl
theorem gw_1940 : Cond.code ⟨"java/lang/StringUTF16", "newBytesLength", "(I)I"⟩ prog_45_method_3_code 1 (Option.some Jvm.ClassFile.FieldType.int) ∈ ce_GW := gT_9 _ (List.mem_of_getElem? (i := 20) rfl) rfl
theorem gw_1941 : Cond.constant "java/lang/StringUTF16" 20 (Int32.ofInt 1073741823) ∈ ce_GW := gT_9 _ (List.mem_of_getElem? (i := 21) rfl) rfl
theorem gw_1942 : Cond.fieldLink "java/lang/AbstractStringBuilder" 15 "java/lang/AbstractStringBuilder" "value" "[B" ∈ ce_GW := gT_9 _ (List.mem_of_getElem? (i := 22) rfl) rfl
theorem gw_1943 : Cond.fieldLink "java/lang/AbstractStringBuilder" 22 "java/lang/AbstractStringBuilder" "coder" "B" ∈ ce_GW := gT_9 _ (List.mem_of_getElem? (i := 23) rfl) rfl
theorem gw_1944 : Cond.fieldLink "java/lang/String" 1048 "java/lang/AbstractStringBuilder" "maybeLatin1" "Z" ∈ ce_GW := gT_9 _ (List.mem_of_getElem? (i := 24) rfl) rfl
theorem gw_1945 : Cond.fieldLink "java/lang/AbstractStringBuilder" 79 "java/lang/AbstractStringBuilder" "count" "I" ∈ ce_GW := gT_9 _ (List.mem_of_getElem? (i := 25) rfl) rfl
theorem gw_1954 : Cond.superclass "java/lang/StringBuilder" "java/lang/AbstractStringBuilder" ∈ ce_GW := gT_9 _ (List.mem_of_getElem? (i := 34) rfl) rfl
theorem gw_1955 : Cond.methodLink "CarcasswrightModel" 159 ⟨"java/lang/StringBuilder", "append", "(Ljava/lang/String;)Ljava/lang/StringBuilder;"⟩ ∈ ce_GW := gT_9 _ (List.mem_of_getElem? (i := 35) rfl) rfl
theorem gw_1956 : Cond.instanceMethod ⟨"java/lang/StringBuilder", "append", "(Ljava/lang/String;)Ljava/lang/StringBuilder;"⟩ ∈ ce_GW := gT_9 _ (List.mem_of_getElem? (i := 36) rfl) rfl
theorem gw_1957 : Cond.selects "java/lang/StringBuilder" ⟨"java/lang/StringBuilder", "append", "(Ljava/lang/String;)Ljava/lang/StringBuilder;"⟩ ⟨"java/lang/StringBuilder", "append", "(Ljava/lang/String;)Ljava/lang/StringBuilder;"⟩ ∈ ce_GW := gT_9 _ (List.mem_of_getElem? (i := 37) rfl) rfl
theorem gw_1958 : Cond.code ⟨"java/lang/StringBuilder", "append", "(Ljava/lang/String;)Ljava/lang/StringBuilder;"⟩ prog_43_method_7_code 2 (Option.some (Jvm.ClassFile.FieldType.object "java/lang/StringBuilder")) ∈ ce_GW := gT_9 _ (List.mem_of_getElem? (i := 38) rfl) rfl
theorem gw_1959 : Cond.methodLink "java/lang/StringBuilder" 29 ⟨"java/lang/AbstractStringBuilder", "append", "(Ljava/lang/String;)Ljava/lang/AbstractStringBuilder;"⟩ ∈ ce_GW := gT_9 _ (List.mem_of_getElem? (i := 39) rfl) rfl
theorem gw_1960 : Cond.instanceMethod ⟨"java/lang/AbstractStringBuilder", "append", "(Ljava/lang/String;)Ljava/lang/AbstractStringBuilder;"⟩ ∈ ce_GW := gT_9 _ (List.mem_of_getElem? (i := 40) rfl) rfl
theorem gw_1961 : Cond.code ⟨"java/lang/AbstractStringBuilder", "append", "(Ljava/lang/String;)Ljava/lang/AbstractStringBuilder;"⟩ prog_25_method_22_code 3 (Option.some (Jvm.ClassFile.FieldType.object "java/lang/AbstractStringBuilder")) ∈ ce_GW := gT_9 _ (List.mem_of_getElem? (i := 41) rfl) rfl
theorem gw_1966 : Cond.methodLink "java/lang/AbstractStringBuilder" 100 ⟨"java/lang/AbstractStringBuilder", "ensureCapacityInternal", "(I)V"⟩ ∈ ce_GW := gT_9 _ (List.mem_of_getElem? (i := 46) rfl) rfl
theorem gw_1968 : Cond.instanceMethod ⟨"java/lang/AbstractStringBuilder", "ensureCapacityInternal", "(I)V"⟩ ∈ ce_GW := gT_9 _ (List.mem_of_getElem? (i := 48) rfl) rfl
theorem gw_1969 : Cond.code ⟨"java/lang/AbstractStringBuilder", "ensureCapacityInternal", "(I)V"⟩ prog_25_method_9_code 3 Option.none ∈ ce_GW := gT_9 _ (List.mem_of_getElem? (i := 49) rfl) rfl
theorem gw_1981 : Cond.native ⟨"java/lang/Object", "clone", "()Ljava/lang/Object;"⟩ ∈ ce_GW := gT_9 _ (List.mem_of_getElem? (i := 61) rfl) rfl
theorem gw_1982 : Cond.instanceMethod ⟨"java/lang/Object", "clone", "()Ljava/lang/Object;"⟩ ∈ ce_GW := gT_9 _ (List.mem_of_getElem? (i := 62) rfl) rfl
theorem gw_1986 : Cond.methodLink "java/lang/AbstractStringBuilder" 83 ⟨"java/lang/AbstractStringBuilder", "isLatin1", "()Z"⟩ ∈ ce_GW := gT_9 _ (List.mem_of_getElem? (i := 66) rfl) rfl
theorem gw_1987 : Cond.instanceMethod ⟨"java/lang/AbstractStringBuilder", "isLatin1", "()Z"⟩ ∈ ce_GW := gT_9 _ (List.mem_of_getElem? (i := 67) rfl) rfl
theorem gw_1988 : Cond.sameMethod "java/lang/AbstractStringBuilder" "java/lang/AbstractStringBuilder" "isLatin1" "()Z" ∈ ce_GW := gT_9 _ (List.mem_of_getElem? (i := 68) rfl) rfl
theorem gw_1989 : Cond.selects "java/lang/StringBuilder" ⟨"java/lang/AbstractStringBuilder", "isLatin1", "()Z"⟩ ⟨"java/lang/AbstractStringBuilder", "isLatin1", "()Z"⟩ ∈ ce_GW := gT_9 _ (List.mem_of_getElem? (i := 69) rfl) rfl
theorem gw_1990 : Cond.code ⟨"java/lang/AbstractStringBuilder", "isLatin1", "()Z"⟩ prog_25_method_68_code 1 (Option.some Jvm.ClassFile.FieldType.boolean) ∈ ce_GW := gT_9 _ (List.mem_of_getElem? (i := 70) rfl) rfl
theorem gw_1994 : Cond.methodLink "java/lang/StringUTF16" 111 ⟨"java/lang/StringUTF16", "putChar", "([BII)V"⟩ ∈ ce_GW := gT_9 _ (List.mem_of_getElem? (i := 74) rfl) rfl
theorem gw_1995 : Cond.static ⟨"java/lang/StringUTF16", "putChar", "([BII)V"⟩ ∈ ce_GW := gT_9 _ (List.mem_of_getElem? (i := 75) rfl) rfl
theorem gw_1996 : Cond.code ⟨"java/lang/StringUTF16", "putChar", "([BII)V"⟩ prog_45_method_4_code 3 Option.none ∈ ce_GW := gT_9 _ (List.mem_of_getElem? (i := 76) rfl) rfl
theorem gw_1997 : Cond.methodLink "java/lang/AbstractStringBuilder" 32 ⟨"java/lang/String", "length", "()I"⟩ ∈ ce_GW := gT_9 _ (List.mem_of_getElem? (i := 77) rfl) rfl
theorem gw_1998 : Cond.methodLink "java/lang/AbstractStringBuilder" 208 ⟨"java/lang/AbstractStringBuilder", "putStringAt", "(ILjava/lang/String;)V"⟩ ∈ ce_GW := gT_9 _ (List.mem_of_getElem? (i := 78) rfl) rfl
theorem gw_2000 : Cond.instanceMethod ⟨"java/lang/AbstractStringBuilder", "putStringAt", "(ILjava/lang/String;)V"⟩ ∈ ce_GW := gT_9 _ (List.mem_of_getElem? (i := 80) rfl) rfl
theorem gw_2001 : Cond.code ⟨"java/lang/AbstractStringBuilder", "putStringAt", "(ILjava/lang/String;)V"⟩ prog_25_method_73_code 3 Option.none ∈ ce_GW := gT_9 _ (List.mem_of_getElem? (i := 81) rfl) rfl
theorem gw_2002 : Cond.methodLink "java/lang/AbstractStringBuilder" 397 ⟨"java/lang/AbstractStringBuilder", "inflateIfNeededFor", "(Ljava/lang/String;)V"⟩ ∈ ce_GW := gT_9 _ (List.mem_of_getElem? (i := 82) rfl) rfl
theorem gw_2004 : Cond.instanceMethod ⟨"java/lang/AbstractStringBuilder", "inflateIfNeededFor", "(Ljava/lang/String;)V"⟩ ∈ ce_GW := gT_9 _ (List.mem_of_getElem? (i := 84) rfl) rfl
theorem gw_2005 : Cond.code ⟨"java/lang/AbstractStringBuilder", "inflateIfNeededFor", "(Ljava/lang/String;)V"⟩ prog_25_method_71_code 2 Option.none ∈ ce_GW := gT_9 _ (List.mem_of_getElem? (i := 85) rfl) rfl
theorem gw_2006 : Cond.methodLink "java/lang/AbstractStringBuilder" 40 ⟨"java/lang/String", "coder", "()B"⟩ ∈ ce_GW := gT_9 _ (List.mem_of_getElem? (i := 86) rfl) rfl
theorem gw_2007 : Cond.methodLink "java/lang/AbstractStringBuilder" 195 ⟨"java/lang/AbstractStringBuilder", "inflate", "()V"⟩ ∈ ce_GW := gT_9 _ (List.mem_of_getElem? (i := 87) rfl) rfl
theorem gw_2009 : Cond.instanceMethod ⟨"java/lang/AbstractStringBuilder", "inflate", "()V"⟩ ∈ ce_GW := gT_9 _ (List.mem_of_getElem? (i := 89) rfl) rfl
theorem gw_2010 : Cond.code ⟨"java/lang/AbstractStringBuilder", "inflate", "()V"⟩ prog_25_method_11_code 2 Option.none ∈ ce_GW := gT_9 _ (List.mem_of_getElem? (i := 90) rfl) rfl
theorem gw_2011 : Cond.methodLink "java/lang/AbstractStringBuilder" 125 ⟨"java/lang/StringLatin1", "inflate", "([BI[BII)V"⟩ ∈ ce_GW := gT_9 _ (List.mem_of_getElem? (i := 91) rfl) rfl
theorem gw_2012 : Cond.static ⟨"java/lang/StringLatin1", "inflate", "([BI[BII)V"⟩ ∈ ce_GW := gT_9 _ (List.mem_of_getElem? (i := 92) rfl) rfl
theorem gw_2013 : Cond.code ⟨"java/lang/StringLatin1", "inflate", "([BI[BII)V"⟩ prog_44_method_50_code 5 Option.none ∈ ce_GW := gT_9 _ (List.mem_of_getElem? (i := 93) rfl) rfl
theorem gw_2014 : Cond.methodLink "java/lang/StringLatin1" 240 ⟨"java/lang/StringUTF16", "inflate", "([BI[BII)V"⟩ ∈ ce_GW := gT_9 _ (List.mem_of_getElem? (i := 94) rfl) rfl
theorem gw_2015 : Cond.static ⟨"java/lang/StringUTF16", "inflate", "([BI[BII)V"⟩ ∈ ce_GW := gT_9 _ (List.mem_of_getElem? (i := 95) rfl) rfl
theorem gw_2016 : Cond.code ⟨"java/lang/StringUTF16", "inflate", "([BI[BII)V"⟩ prog_45_method_86_code 6 Option.none ∈ ce_GW := gT_9 _ (List.mem_of_getElem? (i := 96) rfl) rfl
theorem gw_2017 : Cond.methodLink "java/lang/StringUTF16" 173 ⟨"java/lang/StringUTF16", "checkBoundsOffCount", "(II[B)V"⟩ ∈ ce_GW := gT_9 _ (List.mem_of_getElem? (i := 97) rfl) rfl
theorem gw_2018 : Cond.static ⟨"java/lang/StringUTF16", "checkBoundsOffCount", "(II[B)V"⟩ ∈ ce_GW := gT_9 _ (List.mem_of_getElem? (i := 98) rfl) rfl
theorem gw_2019 : Cond.code ⟨"java/lang/StringUTF16", "checkBoundsOffCount", "(II[B)V"⟩ prog_45_method_94_code 3 Option.none ∈ ce_GW := gT_9 _ (List.mem_of_getElem? (i := 99) rfl) rfl
theorem gw_2020 : Cond.methodLink "java/lang/StringUTF16" 419 ⟨"java/lang/String", "checkBoundsOffCount", "(III)I"⟩ ∈ ce_GW := gT_9 _ (List.mem_of_getElem? (i := 100) rfl) rfl
theorem gw_2021 : Cond.static ⟨"java/lang/String", "checkBoundsOffCount", "(III)I"⟩ ∈ ce_GW := gT_9 _ (List.mem_of_getElem? (i := 101) rfl) rfl
theorem gw_2022 : Cond.code ⟨"java/lang/String", "checkBoundsOffCount", "(III)I"⟩ prog_42_method_157_code 3 (Option.some Jvm.ClassFile.FieldType.int) ∈ ce_GW := gT_9 _ (List.mem_of_getElem? (i := 102) rfl) rfl
theorem gw_2023 : Cond.methodLink "java/lang/String" 1065 ⟨"jdk/internal/util/Preconditions", "checkFromIndexSize", "(IIILjava/util/function/BiFunction;)I"⟩ ∈ ce_GW := gT_9 _ (List.mem_of_getElem? (i := 103) rfl) rfl
theorem gw_2024 : Cond.static ⟨"jdk/internal/util/Preconditions", "checkFromIndexSize", "(IIILjava/util/function/BiFunction;)I"⟩ ∈ ce_GW := gT_9 _ (List.mem_of_getElem? (i := 104) rfl) rfl
theorem gw_2025 : Cond.code ⟨"jdk/internal/util/Preconditions", "checkFromIndexSize", "(IIILjava/util/function/BiFunction;)I"⟩ prog_64_method_13_code 4 (Option.some Jvm.ClassFile.FieldType.int) ∈ ce_GW := gT_9 _ (List.mem_of_getElem? (i := 105) rfl) rfl
theorem gw_2026 : Cond.methodLink "java/lang/AbstractStringBuilder" 399 ⟨"java/lang/String", "getBytes", "([BIB)V"⟩ ∈ ce_GW := gT_9 _ (List.mem_of_getElem? (i := 106) rfl) rfl
theorem gw_2027 : Cond.instanceMethod ⟨"java/lang/String", "getBytes", "([BIB)V"⟩ ∈ ce_GW := gT_9 _ (List.mem_of_getElem? (i := 107) rfl) rfl
theorem gw_2028 : Cond.selects "java/lang/String" ⟨"java/lang/String", "getBytes", "([BIB)V"⟩ ⟨"java/lang/String", "getBytes", "([BIB)V"⟩ ∈ ce_GW := gT_9 _ (List.mem_of_getElem? (i := 108) rfl) rfl
theorem gw_2029 : Cond.code ⟨"java/lang/String", "getBytes", "([BIB)V"⟩ prog_42_method_147_code 4 Option.none ∈ ce_GW := gT_9 _ (List.mem_of_getElem? (i := 109) rfl) rfl
theorem gw_2030 : Cond.methodLink "java/lang/String" 212 ⟨"java/lang/System", "arraycopy", "(Ljava/lang/Object;ILjava/lang/Object;II)V"⟩ ∈ ce_GW := gT_9 _ (List.mem_of_getElem? (i := 110) rfl) rfl
theorem gw_2032 : Cond.methodLink "CarcasswrightModel" 163 ⟨"java/lang/StringBuilder", "append", "(C)Ljava/lang/StringBuilder;"⟩ ∈ ce_GW := gT_9 _ (List.mem_of_getElem? (i := 112) rfl) rfl
theorem gw_2033 : Cond.instanceMethod ⟨"java/lang/StringBuilder", "append", "(C)Ljava/lang/StringBuilder;"⟩ ∈ ce_GW := gT_9 _ (List.mem_of_getElem? (i := 113) rfl) rfl
theorem gw_2034 : Cond.selects "java/lang/StringBuilder" ⟨"java/lang/StringBuilder", "append", "(C)Ljava/lang/StringBuilder;"⟩ ⟨"java/lang/StringBuilder", "append", "(C)Ljava/lang/StringBuilder;"⟩ ∈ ce_GW := gT_9 _ (List.mem_of_getElem? (i := 114) rfl) rfl
theorem gw_2035 : Cond.code ⟨"java/lang/StringBuilder", "append", "(C)Ljava/lang/StringBuilder;"⟩ prog_43_method_14_code 2 (Option.some (Jvm.ClassFile.FieldType.object "java/lang/StringBuilder")) ∈ ce_GW := gT_9 _ (List.mem_of_getElem? (i := 115) rfl) rfl
theorem gw_2036 : Cond.methodLink "java/lang/StringBuilder" 50 ⟨"java/lang/AbstractStringBuilder", "append", "(C)Ljava/lang/AbstractStringBuilder;"⟩ ∈ ce_GW := gT_9 _ (List.mem_of_getElem? (i := 116) rfl) rfl
theorem gw_2037 : Cond.instanceMethod ⟨"java/lang/AbstractStringBuilder", "append", "(C)Ljava/lang/AbstractStringBuilder;"⟩ ∈ ce_GW := gT_9 _ (List.mem_of_getElem? (i := 117) rfl) rfl
theorem gw_2038 : Cond.code ⟨"java/lang/AbstractStringBuilder", "append", "(C)Ljava/lang/AbstractStringBuilder;"⟩ prog_25_method_31_code 2 (Option.some (Jvm.ClassFile.FieldType.object "java/lang/AbstractStringBuilder")) ∈ ce_GW := gT_9 _ (List.mem_of_getElem? (i := 118) rfl) rfl
theorem gw_2039 : Cond.methodLink "java/lang/AbstractStringBuilder" 191 ⟨"java/lang/StringLatin1", "canEncode", "(C)Z"⟩ ∈ ce_GW := gT_9 _ (List.mem_of_getElem? (i := 119) rfl) rfl
theorem gw_2040 : Cond.static ⟨"java/lang/StringLatin1", "canEncode", "(C)Z"⟩ ∈ ce_GW := gT_9 _ (List.mem_of_getElem? (i := 120) rfl) rfl
theorem gw_2041 : Cond.code ⟨"java/lang/StringLatin1", "canEncode", "(C)Z"⟩ prog_44_method_3_code 1 (Option.some Jvm.ClassFile.FieldType.boolean) ∈ ce_GW := gT_9 _ (List.mem_of_getElem? (i := 121) rfl) rfl
theorem gw_2042 : Cond.methodLink "java/lang/AbstractStringBuilder" 197 ⟨"java/lang/StringUTF16", "putCharSB", "([BII)V"⟩ ∈ ce_GW := gT_9 _ (List.mem_of_getElem? (i := 122) rfl) rfl
theorem gw_2043 : Cond.static ⟨"java/lang/StringUTF16", "putCharSB", "([BII)V"⟩ ∈ ce_GW := gT_9 _ (List.mem_of_getElem? (i := 123) rfl) rfl
theorem gw_2044 : Cond.code ⟨"java/lang/StringUTF16", "putCharSB", "([BII)V"⟩ prog_45_method_71_code 3 Option.none ∈ ce_GW := gT_9 _ (List.mem_of_getElem? (i := 124) rfl) rfl
theorem gw_2045 : Cond.methodLink "java/lang/StringUTF16" 67 ⟨"java/lang/StringUTF16", "checkIndex", "(I[B)V"⟩ ∈ ce_GW := gT_9 _ (List.mem_of_getElem? (i := 125) rfl) rfl
theorem gw_2046 : Cond.static ⟨"java/lang/StringUTF16", "checkIndex", "(I[B)V"⟩ ∈ ce_GW := gT_9 _ (List.mem_of_getElem? (i := 126) rfl) rfl
theorem gw_2047 : Cond.code ⟨"java/lang/StringUTF16", "checkIndex", "(I[B)V"⟩ prog_45_method_91_code 2 Option.none ∈ ce_GW := gT_9 _ (List.mem_of_getElem? (i := 127) rfl) rfl
theorem gw_2048 : Cond.methodLink "java/lang/StringUTF16" 414 ⟨"java/lang/String", "checkIndex", "(II)V"⟩ ∈ ce_GW := gT_9 _ (List.mem_of_getElem? (i := 128) rfl) rfl
theorem gw_2049 : Cond.static ⟨"java/lang/String", "checkIndex", "(II)V"⟩ ∈ ce_GW := gT_9 _ (List.mem_of_getElem? (i := 129) rfl) rfl
theorem gw_2050 : Cond.code ⟨"java/lang/String", "checkIndex", "(II)V"⟩ prog_42_method_155_code 2 Option.none ∈ ce_GW := gT_9 _ (List.mem_of_getElem? (i := 130) rfl) rfl
theorem gw_2051 : Cond.methodLink "java/lang/String" 1059 ⟨"jdk/internal/util/Preconditions", "checkIndex", "(IILjava/util/function/BiFunction;)I"⟩ ∈ ce_GW := gT_9 _ (List.mem_of_getElem? (i := 131) rfl) rfl
theorem gw_2052 : Cond.methodLink "CarcasswrightModel" 166 ⟨"java/lang/StringBuilder", "toString", "()Ljava/lang/String;"⟩ ∈ ce_GW := gT_9 _ (List.mem_of_getElem? (i := 132) rfl) rfl
theorem gw_2053 : Cond.instanceMethod ⟨"java/lang/StringBuilder", "toString", "()Ljava/lang/String;"⟩ ∈ ce_GW := gT_9 _ (List.mem_of_getElem? (i := 133) rfl) rfl
theorem gw_2054 : Cond.selects "java/lang/StringBuilder" ⟨"java/lang/StringBuilder", "toString", "()Ljava/lang/String;"⟩ ⟨"java/lang/StringBuilder", "toString", "()Ljava/lang/String;"⟩ ∈ ce_GW := gT_9 _ (List.mem_of_getElem? (i := 134) rfl) rfl
theorem gw_2055 : Cond.code ⟨"java/lang/StringBuilder", "toString", "()Ljava/lang/String;"⟩ prog_43_method_42_code 1 (Option.some (Jvm.ClassFile.FieldType.object "java/lang/String")) ∈ ce_GW := gT_9 _ (List.mem_of_getElem? (i := 135) rfl) rfl
theorem gw_2056 : Cond.classLink "java/lang/StringBuilder" 18 "java/lang/String" ∈ ce_GW := gT_9 _ (List.mem_of_getElem? (i := 136) rfl) rfl
theorem gw_2057 : Cond.instantiable "java/lang/String" 4 ∈ ce_GW := gT_9 _ (List.mem_of_getElem? (i := 137) rfl) rfl
theorem gw_2058 : Cond.methodLink "java/lang/StringBuilder" 137 ⟨"java/lang/String", "<init>", "(Ljava/lang/StringBuilder;)V"⟩ ∈ ce_GW := gT_9 _ (List.mem_of_getElem? (i := 138) rfl) rfl
theorem gw_2059 : Cond.instanceMethod ⟨"java/lang/String", "<init>", "(Ljava/lang/StringBuilder;)V"⟩ ∈ ce_GW := gT_9 _ (List.mem_of_getElem? (i := 139) rfl) rfl
theorem gw_2060 : Cond.code ⟨"java/lang/String", "<init>", "(Ljava/lang/StringBuilder;)V"⟩ prog_42_method_53_code 2 Option.none ∈ ce_GW := gT_9 _ (List.mem_of_getElem? (i := 140) rfl) rfl
theorem gw_2061 : Cond.methodLink "java/lang/String" 489 ⟨"java/lang/String", "<init>", "(Ljava/lang/AbstractStringBuilder;Ljava/lang/Void;)V"⟩ ∈ ce_GW := gT_9 _ (List.mem_of_getElem? (i := 141) rfl) rfl
theorem gw_2062 : Cond.instanceMethod ⟨"java/lang/String", "<init>", "(Ljava/lang/AbstractStringBuilder;Ljava/lang/Void;)V"⟩ ∈ ce_GW := gT_9 _ (List.mem_of_getElem? (i := 142) rfl) rfl
theorem gw_2063 : Cond.code ⟨"java/lang/String", "<init>", "(Ljava/lang/AbstractStringBuilder;Ljava/lang/Void;)V"⟩ prog_42_method_150_code 5 Option.none ∈ ce_GW := gT_9 _ (List.mem_of_getElem? (i := 143) rfl) rfl
theorem gw_2064 : Cond.methodLink "java/lang/String" 1 ⟨"java/lang/Object", "<init>", "()V"⟩ ∈ ce_GW := gT_9 _ (List.mem_of_getElem? (i := 144) rfl) rfl
theorem gw_2065 : Cond.methodLink "java/lang/String" 552 ⟨"java/lang/AbstractStringBuilder", "getValue", "()[B"⟩ ∈ ce_GW := gT_9 _ (List.mem_of_getElem? (i := 145) rfl) rfl
theorem gw_2066 : Cond.instanceMethod ⟨"java/lang/AbstractStringBuilder", "getValue", "()[B"⟩ ∈ ce_GW := gT_9 _ (List.mem_of_getElem? (i := 146) rfl) rfl
theorem gw_2067 : Cond.sameMethod "java/lang/AbstractStringBuilder" "java/lang/AbstractStringBuilder" "getValue" "()[B" ∈ ce_GW := gT_9 _ (List.mem_of_getElem? (i := 147) rfl) rfl
theorem gw_2068 : Cond.selects "java/lang/StringBuilder" ⟨"java/lang/AbstractStringBuilder", "getValue", "()[B"⟩ ⟨"java/lang/AbstractStringBuilder", "getValue", "()[B"⟩ ∈ ce_GW := gT_9 _ (List.mem_of_getElem? (i := 148) rfl) rfl
theorem gw_2069 : Cond.code ⟨"java/lang/AbstractStringBuilder", "getValue", "()[B"⟩ prog_25_method_64_code 1 (Option.some (Jvm.ClassFile.FieldType.array Jvm.ClassFile.FieldType.byte)) ∈ ce_GW := gT_9 _ (List.mem_of_getElem? (i := 149) rfl) rfl
theorem gw_2070 : Cond.methodLink "java/lang/String" 549 ⟨"java/lang/AbstractStringBuilder", "length", "()I"⟩ ∈ ce_GW := gT_9 _ (List.mem_of_getElem? (i := 150) rfl) rfl
theorem gw_2071 : Cond.instanceMethod ⟨"java/lang/AbstractStringBuilder", "length", "()I"⟩ ∈ ce_GW := gT_9 _ (List.mem_of_getElem? (i := 151) rfl) rfl
theorem gw_2072 : Cond.sameMethod "java/lang/AbstractStringBuilder" "java/lang/AbstractStringBuilder" "length" "()I" ∈ ce_GW := gT_9 _ (List.mem_of_getElem? (i := 152) rfl) rfl
theorem gw_2073 : Cond.selects "java/lang/StringBuilder" ⟨"java/lang/AbstractStringBuilder", "length", "()I"⟩ ⟨"java/lang/StringBuilder", "length", "()I"⟩ ∈ ce_GW := gT_9 _ (List.mem_of_getElem? (i := 153) rfl) rfl
theorem gw_2074 : Cond.instanceMethod ⟨"java/lang/StringBuilder", "length", "()I"⟩ ∈ ce_GW := gT_9 _ (List.mem_of_getElem? (i := 154) rfl) rfl
theorem gw_2075 : Cond.code ⟨"java/lang/StringBuilder", "length", "()I"⟩ prog_43_method_93_code 1 (Option.some Jvm.ClassFile.FieldType.int) ∈ ce_GW := gT_9 _ (List.mem_of_getElem? (i := 155) rfl) rfl
theorem gw_2076 : Cond.methodLink "java/lang/StringBuilder" 343 ⟨"java/lang/AbstractStringBuilder", "length", "()I"⟩ ∈ ce_GW := gT_9 _ (List.mem_of_getElem? (i := 156) rfl) rfl
theorem gw_2077 : Cond.code ⟨"java/lang/AbstractStringBuilder", "length", "()I"⟩ prog_25_method_6_code 1 (Option.some Jvm.ClassFile.FieldType.int) ∈ ce_GW := gT_9 _ (List.mem_of_getElem? (i := 157) rfl) rfl
theorem gw_2078 : Cond.methodLink "java/lang/String" 1047 ⟨"java/lang/AbstractStringBuilder", "isLatin1", "()Z"⟩ ∈ ce_GW := gT_9 _ (List.mem_of_getElem? (i := 158) rfl) rfl
theorem gw_2079 : Cond.methodLink "java/lang/String" 54 ⟨"java/util/Arrays", "copyOfRange", "([BII)[B"⟩ ∈ ce_GW := gT_9 _ (List.mem_of_getElem? (i := 159) rfl) rfl
theorem gw_2080 : Cond.static ⟨"java/util/Arrays", "copyOfRange", "([BII)[B"⟩ ∈ ce_GW := gT_9 _ (List.mem_of_getElem? (i := 160) rfl) rfl
theorem gw_2081 : Cond.code ⟨"java/util/Arrays", "copyOfRange", "([BII)[B"⟩ prog_55_method_132_code 3 (Option.some (Jvm.ClassFile.FieldType.array Jvm.ClassFile.FieldType.byte)) ∈ ce_GW := gT_9 _ (List.mem_of_getElem? (i := 161) rfl) rfl
theorem gw_2082 : Cond.methodLink "java/util/Arrays" 339 ⟨"java/util/Arrays", "copyOfRangeByte", "([BII)[B"⟩ ∈ ce_GW := gT_9 _ (List.mem_of_getElem? (i := 162) rfl) rfl
theorem gw_2083 : Cond.static ⟨"java/util/Arrays", "copyOfRangeByte", "([BII)[B"⟩ ∈ ce_GW := gT_9 _ (List.mem_of_getElem? (i := 163) rfl) rfl
theorem gw_2084 : Cond.code ⟨"java/util/Arrays", "copyOfRangeByte", "([BII)[B"⟩ prog_55_method_133_code 5 (Option.some (Jvm.ClassFile.FieldType.array Jvm.ClassFile.FieldType.byte)) ∈ ce_GW := gT_9 _ (List.mem_of_getElem? (i := 164) rfl) rfl
theorem gw_2085 : Cond.methodLink "java/util/Arrays" 343 ⟨"java/util/Arrays", "checkLength", "(II)V"⟩ ∈ ce_GW := gT_9 _ (List.mem_of_getElem? (i := 165) rfl) rfl
theorem gw_2086 : Cond.static ⟨"java/util/Arrays", "checkLength", "(II)V"⟩ ∈ ce_GW := gT_9 _ (List.mem_of_getElem? (i := 166) rfl) rfl
theorem gw_2087 : Cond.code ⟨"java/util/Arrays", "checkLength", "(II)V"⟩ prog_55_method_131_code 2 Option.none ∈ ce_GW := gT_9 _ (List.mem_of_getElem? (i := 167) rfl) rfl
theorem gw_2141 : Cond.fieldLink "java/lang/String" 9 "java/lang/String" "value" "[B" ∈ ce_GW := gT_9 _ (List.mem_of_getElem? (i := 221) rfl) rfl
theorem gw_2142 : Cond.fieldLink "java/lang/String" 15 "java/lang/String" "coder" "B" ∈ ce_GW := gT_9 _ (List.mem_of_getElem? (i := 222) rfl) rfl
theorem gw_2152 : Cond.methodLink "CarcasswrightLaw" 211 ⟨"CarcasswrightModel", "wipe", "()I"⟩ ∈ ce_GW := gT_9 _ (List.mem_of_getElem? (i := 232) rfl) rfl
theorem gw_2153 : Cond.instanceMethod ⟨"CarcasswrightModel", "wipe", "()I"⟩ ∈ ce_GW := gT_9 _ (List.mem_of_getElem? (i := 233) rfl) rfl
theorem gw_2154 : Cond.selects "CarcasswrightModel" ⟨"CarcasswrightModel", "wipe", "()I"⟩ ⟨"CarcasswrightModel", "wipe", "()I"⟩ ∈ ce_GW := gT_9 _ (List.mem_of_getElem? (i := 234) rfl) rfl
theorem gw_2155 : Cond.code ⟨"CarcasswrightModel", "wipe", "()I"⟩ prog_14_method_18_code 2 (Option.some Jvm.ClassFile.FieldType.int) ∈ ce_GW := gT_9 _ (List.mem_of_getElem? (i := 235) rfl) rfl
theorem gw_2156 : Cond.methodLink "CarcasswrightLaw" 214 ⟨"CarcasswrightModel", "fault", "()I"⟩ ∈ ce_GW := gT_9 _ (List.mem_of_getElem? (i := 236) rfl) rfl
theorem gw_2157 : Cond.instanceMethod ⟨"CarcasswrightModel", "fault", "()I"⟩ ∈ ce_GW := gT_9 _ (List.mem_of_getElem? (i := 237) rfl) rfl
theorem gw_2158 : Cond.selects "CarcasswrightModel" ⟨"CarcasswrightModel", "fault", "()I"⟩ ⟨"CarcasswrightModel", "fault", "()I"⟩ ∈ ce_GW := gT_9 _ (List.mem_of_getElem? (i := 238) rfl) rfl
theorem gw_2159 : Cond.code ⟨"CarcasswrightModel", "fault", "()I"⟩ prog_14_method_23_code 1 (Option.some Jvm.ClassFile.FieldType.int) ∈ ce_GW := gT_9 _ (List.mem_of_getElem? (i := 239) rfl) rfl
theorem gw_2160 : Cond.methodLink "CarcasswrightModel" 223 ⟨"CarcasswrightModel", "reads", "()V"⟩ ∈ ce_GW := gT_10 _ (List.mem_of_getElem? (i := 0) rfl) rfl
theorem gw_2162 : Cond.instanceMethod ⟨"CarcasswrightModel", "reads", "()V"⟩ ∈ ce_GW := gT_10 _ (List.mem_of_getElem? (i := 2) rfl) rfl
theorem gw_2163 : Cond.code ⟨"CarcasswrightModel", "reads", "()V"⟩ prog_14_method_21_code 4 Option.none ∈ ce_GW := gT_10 _ (List.mem_of_getElem? (i := 3) rfl) rfl
theorem gw_2164 : Cond.classLink "CarcasswrightModel" 182 "CarcasswrightModel$Type" ∈ ce_GW := gT_10 _ (List.mem_of_getElem? (i := 4) rfl) rfl
theorem gw_2165 : Cond.instantiable "CarcasswrightModel$Type" 5 ∈ ce_GW := gT_10 _ (List.mem_of_getElem? (i := 5) rfl) rfl
theorem gw_2167 : Cond.instanceMethod ⟨"CarcasswrightModel$Type", "<init>", "()V"⟩ ∈ ce_GW := gT_10 _ (List.mem_of_getElem? (i := 7) rfl) rfl
theorem gw_2168 : Cond.code ⟨"CarcasswrightModel$Type", "<init>", "()V"⟩ prog_22_method_1_code 1 Option.none ∈ ce_GW := gT_10 _ (List.mem_of_getElem? (i := 8) rfl) rfl
theorem gw_2169 : Cond.methodLink "CarcasswrightModel$Type" 1 ⟨"java/lang/Object", "<init>", "()V"⟩ ∈ ce_GW := gT_10 _ (List.mem_of_getElem? (i := 9) rfl) rfl
theorem gw_2173 : Cond.fieldLink "CarcasswrightModel$Type" 7 "CarcasswrightModel$Type" "width" "I" ∈ ce_GW := gT_10 _ (List.mem_of_getElem? (i := 13) rfl) rfl
theorem gw_2196 : Cond.methodLink "CarcasswrightModel" 189 ⟨"java/lang/String", "isEmpty", "()Z"⟩ ∈ ce_GW := gT_10 _ (List.mem_of_getElem? (i := 36) rfl) rfl
theorem gw_2197 : Cond.instanceMethod ⟨"java/lang/String", "isEmpty", "()Z"⟩ ∈ ce_GW := gT_10 _ (List.mem_of_getElem? (i := 37) rfl) rfl
theorem gw_2198 : Cond.selects "java/lang/String" ⟨"java/lang/String", "isEmpty", "()Z"⟩ ⟨"java/lang/String", "isEmpty", "()Z"⟩ ∈ ce_GW := gT_10 _ (List.mem_of_getElem? (i := 38) rfl) rfl
theorem gw_2199 : Cond.code ⟨"java/lang/String", "isEmpty", "()Z"⟩ prog_42_method_55_code 1 (Option.some Jvm.ClassFile.FieldType.boolean) ∈ ce_GW := gT_10 _ (List.mem_of_getElem? (i := 39) rfl) rfl
theorem gw_2216 : Cond.methodLink "CarcasswrightModel" 193 ⟨"CarcasswrightModel", "faults", "(CI)V"⟩ ∈ ce_GW := gT_10 _ (List.mem_of_getElem? (i := 56) rfl) rfl
theorem gw_2218 : Cond.instanceMethod ⟨"CarcasswrightModel", "faults", "(CI)V"⟩ ∈ ce_GW := gT_10 _ (List.mem_of_getElem? (i := 58) rfl) rfl
theorem gw_2219 : Cond.code ⟨"CarcasswrightModel", "faults", "(CI)V"⟩ prog_14_method_20_code 3 Option.none ∈ ce_GW := gT_10 _ (List.mem_of_getElem? (i := 59) rfl) rfl
theorem gw_2244 : Cond.methodLink "CarcasswrightLaw" 217 ⟨"CarcasswrightModel", "faultKind", "()C"⟩ ∈ ce_GW := gT_10 _ (List.mem_of_getElem? (i := 84) rfl) rfl
theorem gw_2245 : Cond.instanceMethod ⟨"CarcasswrightModel", "faultKind", "()C"⟩ ∈ ce_GW := gT_10 _ (List.mem_of_getElem? (i := 85) rfl) rfl
theorem gw_2246 : Cond.selects "CarcasswrightModel" ⟨"CarcasswrightModel", "faultKind", "()C"⟩ ⟨"CarcasswrightModel", "faultKind", "()C"⟩ ∈ ce_GW := gT_10 _ (List.mem_of_getElem? (i := 86) rfl) rfl
theorem gw_2247 : Cond.code ⟨"CarcasswrightModel", "faultKind", "()C"⟩ prog_14_method_24_code 1 (Option.some Jvm.ClassFile.FieldType.char) ∈ ce_GW := gT_10 _ (List.mem_of_getElem? (i := 87) rfl) rfl
theorem gw_2248 : Cond.methodLink "CarcasswrightLaw" 220 ⟨"CarcasswrightModel", "addType", "()I"⟩ ∈ ce_GW := gT_10 _ (List.mem_of_getElem? (i := 88) rfl) rfl
theorem gw_2249 : Cond.instanceMethod ⟨"CarcasswrightModel", "addType", "()I"⟩ ∈ ce_GW := gT_10 _ (List.mem_of_getElem? (i := 89) rfl) rfl
theorem gw_2250 : Cond.selects "CarcasswrightModel" ⟨"CarcasswrightModel", "addType", "()I"⟩ ⟨"CarcasswrightModel", "addType", "()I"⟩ ∈ ce_GW := gT_10 _ (List.mem_of_getElem? (i := 90) rfl) rfl
theorem gw_2251 : Cond.code ⟨"CarcasswrightModel", "addType", "()I"⟩ prog_14_method_25_code 1 (Option.some Jvm.ClassFile.FieldType.int) ∈ ce_GW := gT_10 _ (List.mem_of_getElem? (i := 91) rfl) rfl
theorem gw_2252 : Cond.methodLink "CarcasswrightLaw" 224 ⟨"CarcasswrightModel", "told", "(IC)I"⟩ ∈ ce_GW := gT_10 _ (List.mem_of_getElem? (i := 92) rfl) rfl
theorem gw_2253 : Cond.instanceMethod ⟨"CarcasswrightModel", "told", "(IC)I"⟩ ∈ ce_GW := gT_10 _ (List.mem_of_getElem? (i := 93) rfl) rfl
theorem gw_2254 : Cond.selects "CarcasswrightModel" ⟨"CarcasswrightModel", "told", "(IC)I"⟩ ⟨"CarcasswrightModel", "told", "(IC)I"⟩ ∈ ce_GW := gT_10 _ (List.mem_of_getElem? (i := 94) rfl) rfl
theorem gw_2255 : Cond.code ⟨"CarcasswrightModel", "told", "(IC)I"⟩ prog_14_method_27_code 4 (Option.some Jvm.ClassFile.FieldType.int) ∈ ce_GW := gT_10 _ (List.mem_of_getElem? (i := 95) rfl) rfl
theorem gw_2256 : Cond.methodLink "CarcasswrightModel" 226 ⟨"CarcasswrightModel", "isType", "(I)Z"⟩ ∈ ce_GW := gT_10 _ (List.mem_of_getElem? (i := 96) rfl) rfl
theorem gw_2258 : Cond.instanceMethod ⟨"CarcasswrightModel", "isType", "(I)Z"⟩ ∈ ce_GW := gT_10 _ (List.mem_of_getElem? (i := 98) rfl) rfl
theorem gw_2259 : Cond.code ⟨"CarcasswrightModel", "isType", "(I)Z"⟩ prog_14_method_26_code 2 (Option.some Jvm.ClassFile.FieldType.boolean) ∈ ce_GW := gT_10 _ (List.mem_of_getElem? (i := 99) rfl) rfl
theorem gw_2262 : Cond.methodLink "CarcasswrightLaw" 228 ⟨"CarcasswrightModel", "place", "(IIII)I"⟩ ∈ ce_GW := gT_10 _ (List.mem_of_getElem? (i := 102) rfl) rfl
theorem gw_2263 : Cond.instanceMethod ⟨"CarcasswrightModel", "place", "(IIII)I"⟩ ∈ ce_GW := gT_10 _ (List.mem_of_getElem? (i := 103) rfl) rfl
theorem gw_2264 : Cond.selects "CarcasswrightModel" ⟨"CarcasswrightModel", "place", "(IIII)I"⟩ ⟨"CarcasswrightModel", "place", "(IIII)I"⟩ ∈ ce_GW := gT_10 _ (List.mem_of_getElem? (i := 104) rfl) rfl
theorem gw_2265 : Cond.code ⟨"CarcasswrightModel", "place", "(IIII)I"⟩ prog_14_method_31_code 6 (Option.some Jvm.ClassFile.FieldType.int) ∈ ce_GW := gT_10 _ (List.mem_of_getElem? (i := 105) rfl) rfl
theorem gw_2330 : Cond.methodLink "CarcasswrightLaw" 232 ⟨"CarcasswrightModel", "shift", "(II)I"⟩ ∈ ce_GW := gT_10 _ (List.mem_of_getElem? (i := 170) rfl) rfl
theorem gw_2331 : Cond.instanceMethod ⟨"CarcasswrightModel", "shift", "(II)I"⟩ ∈ ce_GW := gT_10 _ (List.mem_of_getElem? (i := 171) rfl) rfl
theorem gw_2332 : Cond.selects "CarcasswrightModel" ⟨"CarcasswrightModel", "shift", "(II)I"⟩ ⟨"CarcasswrightModel", "shift", "(II)I"⟩ ∈ ce_GW := gT_10 _ (List.mem_of_getElem? (i := 172) rfl) rfl
theorem gw_2333 : Cond.code ⟨"CarcasswrightModel", "shift", "(II)I"⟩ prog_14_method_33_code 5 (Option.some Jvm.ClassFile.FieldType.int) ∈ ce_GW := gT_10 _ (List.mem_of_getElem? (i := 173) rfl) rfl
theorem gw_2334 : Cond.methodLink "CarcasswrightModel" 292 ⟨"CarcasswrightModel", "noModule", "(I)Z"⟩ ∈ ce_GW := gT_10 _ (List.mem_of_getElem? (i := 174) rfl) rfl
theorem gw_2336 : Cond.instanceMethod ⟨"CarcasswrightModel", "noModule", "(I)Z"⟩ ∈ ce_GW := gT_10 _ (List.mem_of_getElem? (i := 176) rfl) rfl
theorem gw_2337 : Cond.code ⟨"CarcasswrightModel", "noModule", "(I)Z"⟩ prog_14_method_32_code 2 (Option.some Jvm.ClassFile.FieldType.boolean) ∈ ce_GW := gT_10 _ (List.mem_of_getElem? (i := 177) rfl) rfl
theorem gw_2338 : Cond.methodLink "CarcasswrightLaw" 235 ⟨"CarcasswrightModel", "change", "(II)I"⟩ ∈ ce_GW := gT_10 _ (List.mem_of_getElem? (i := 178) rfl) rfl
theorem gw_2339 : Cond.instanceMethod ⟨"CarcasswrightModel", "change", "(II)I"⟩ ∈ ce_GW := gT_10 _ (List.mem_of_getElem? (i := 179) rfl) rfl
theorem gw_2340 : Cond.selects "CarcasswrightModel" ⟨"CarcasswrightModel", "change", "(II)I"⟩ ⟨"CarcasswrightModel", "change", "(II)I"⟩ ∈ ce_GW := gT_10 _ (List.mem_of_getElem? (i := 180) rfl) rfl
theorem gw_2341 : Cond.code ⟨"CarcasswrightModel", "change", "(II)I"⟩ prog_14_method_34_code 9 (Option.some Jvm.ClassFile.FieldType.int) ∈ ce_GW := gT_10 _ (List.mem_of_getElem? (i := 181) rfl) rfl
theorem gw_2434 : Cond.methodLink "CarcasswrightLaw" 238 ⟨"CarcasswrightModel", "clash", "(I)C"⟩ ∈ ce_GW := gT_11 _ (List.mem_of_getElem? (i := 34) rfl) rfl
theorem gw_2435 : Cond.instanceMethod ⟨"CarcasswrightModel", "clash", "(I)C"⟩ ∈ ce_GW := gT_11 _ (List.mem_of_getElem? (i := 35) rfl) rfl
theorem gw_2436 : Cond.selects "CarcasswrightModel" ⟨"CarcasswrightModel", "clash", "(I)C"⟩ ⟨"CarcasswrightModel", "clash", "(I)C"⟩ ∈ ce_GW := gT_11 _ (List.mem_of_getElem? (i := 36) rfl) rfl
theorem gw_2437 : Cond.code ⟨"CarcasswrightModel", "clash", "(I)C"⟩ prog_14_method_35_code 2 (Option.some Jvm.ClassFile.FieldType.char) ∈ ce_GW := gT_11 _ (List.mem_of_getElem? (i := 37) rfl) rfl
theorem gw_2438 : Cond.methodLink "CarcasswrightLaw" 241 ⟨"CarcasswrightModel", "clashNumber", "(I)I"⟩ ∈ ce_GW := gT_11 _ (List.mem_of_getElem? (i := 38) rfl) rfl
theorem gw_2439 : Cond.instanceMethod ⟨"CarcasswrightModel", "clashNumber", "(I)I"⟩ ∈ ce_GW := gT_11 _ (List.mem_of_getElem? (i := 39) rfl) rfl
theorem gw_2440 : Cond.selects "CarcasswrightModel" ⟨"CarcasswrightModel", "clashNumber", "(I)I"⟩ ⟨"CarcasswrightModel", "clashNumber", "(I)I"⟩ ∈ ce_GW := gT_11 _ (List.mem_of_getElem? (i := 40) rfl) rfl
theorem gw_2441 : Cond.code ⟨"CarcasswrightModel", "clashNumber", "(I)I"⟩ prog_14_method_36_code 2 (Option.some Jvm.ClassFile.FieldType.int) ∈ ce_GW := gT_11 _ (List.mem_of_getElem? (i := 41) rfl) rfl
theorem gw_2442 : Cond.methodLink "CarcasswrightLaw" 244 ⟨"CarcasswrightModel", "from", "(I)I"⟩ ∈ ce_GW := gT_11 _ (List.mem_of_getElem? (i := 42) rfl) rfl
theorem gw_2443 : Cond.instanceMethod ⟨"CarcasswrightModel", "from", "(I)I"⟩ ∈ ce_GW := gT_11 _ (List.mem_of_getElem? (i := 43) rfl) rfl
theorem gw_2444 : Cond.selects "CarcasswrightModel" ⟨"CarcasswrightModel", "from", "(I)I"⟩ ⟨"CarcasswrightModel", "from", "(I)I"⟩ ∈ ce_GW := gT_11 _ (List.mem_of_getElem? (i := 44) rfl) rfl
theorem gw_2445 : Cond.code ⟨"CarcasswrightModel", "from", "(I)I"⟩ prog_14_method_37_code 2 (Option.some Jvm.ClassFile.FieldType.int) ∈ ce_GW := gT_11 _ (List.mem_of_getElem? (i := 45) rfl) rfl
theorem gw_2446 : Cond.methodLink "CarcasswrightLaw" 248 ⟨"CarcasswrightModel", "free", "(IZ)I"⟩ ∈ ce_GW := gT_11 _ (List.mem_of_getElem? (i := 46) rfl) rfl
theorem gw_2447 : Cond.instanceMethod ⟨"CarcasswrightModel", "free", "(IZ)I"⟩ ∈ ce_GW := gT_11 _ (List.mem_of_getElem? (i := 47) rfl) rfl
theorem gw_2448 : Cond.selects "CarcasswrightModel" ⟨"CarcasswrightModel", "free", "(IZ)I"⟩ ⟨"CarcasswrightModel", "free", "(IZ)I"⟩ ∈ ce_GW := gT_11 _ (List.mem_of_getElem? (i := 48) rfl) rfl
theorem gw_2449 : Cond.code ⟨"CarcasswrightModel", "free", "(IZ)I"⟩ prog_14_method_39_code 3 (Option.some Jvm.ClassFile.FieldType.int) ∈ ce_GW := gT_11 _ (List.mem_of_getElem? (i := 49) rfl) rfl
theorem gw_2454 : Cond.methodLink "CarcasswrightLaw" 251 ⟨"CarcasswrightModel", "widest", "(IZ)I"⟩ ∈ ce_GW := gT_11 _ (List.mem_of_getElem? (i := 54) rfl) rfl
theorem gw_2455 : Cond.instanceMethod ⟨"CarcasswrightModel", "widest", "(IZ)I"⟩ ∈ ce_GW := gT_11 _ (List.mem_of_getElem? (i := 55) rfl) rfl
theorem gw_2456 : Cond.selects "CarcasswrightModel" ⟨"CarcasswrightModel", "widest", "(IZ)I"⟩ ⟨"CarcasswrightModel", "widest", "(IZ)I"⟩ ∈ ce_GW := gT_11 _ (List.mem_of_getElem? (i := 56) rfl) rfl
theorem gw_2457 : Cond.code ⟨"CarcasswrightModel", "widest", "(IZ)I"⟩ prog_14_method_40_code 3 (Option.some Jvm.ClassFile.FieldType.int) ∈ ce_GW := gT_11 _ (List.mem_of_getElem? (i := 57) rfl) rfl
theorem gw_2458 : Cond.methodLink "CarcasswrightLaw" 254 ⟨"CarcasswrightModel", "parts", "(I)I"⟩ ∈ ce_GW := gT_11 _ (List.mem_of_getElem? (i := 58) rfl) rfl
theorem gw_2459 : Cond.instanceMethod ⟨"CarcasswrightModel", "parts", "(I)I"⟩ ∈ ce_GW := gT_11 _ (List.mem_of_getElem? (i := 59) rfl) rfl
theorem gw_2460 : Cond.selects "CarcasswrightModel" ⟨"CarcasswrightModel", "parts", "(I)I"⟩ ⟨"CarcasswrightModel", "parts", "(I)I"⟩ ∈ ce_GW := gT_11 _ (List.mem_of_getElem? (i := 60) rfl) rfl
theorem gw_2461 : Cond.code ⟨"CarcasswrightModel", "parts", "(I)I"⟩ prog_14_method_41_code 2 (Option.some Jvm.ClassFile.FieldType.int) ∈ ce_GW := gT_11 _ (List.mem_of_getElem? (i := 61) rfl) rfl
theorem gw_2462 : Cond.methodLink "CarcasswrightLaw" 257 ⟨"CarcasswrightModel", "kindOf", "(II)C"⟩ ∈ ce_GW := gT_11 _ (List.mem_of_getElem? (i := 62) rfl) rfl
theorem gw_2463 : Cond.instanceMethod ⟨"CarcasswrightModel", "kindOf", "(II)C"⟩ ∈ ce_GW := gT_11 _ (List.mem_of_getElem? (i := 63) rfl) rfl
theorem gw_2464 : Cond.selects "CarcasswrightModel" ⟨"CarcasswrightModel", "kindOf", "(II)C"⟩ ⟨"CarcasswrightModel", "kindOf", "(II)C"⟩ ∈ ce_GW := gT_11 _ (List.mem_of_getElem? (i := 64) rfl) rfl
theorem gw_2465 : Cond.code ⟨"CarcasswrightModel", "kindOf", "(II)C"⟩ prog_14_method_43_code 4 (Option.some Jvm.ClassFile.FieldType.char) ∈ ce_GW := gT_11 _ (List.mem_of_getElem? (i := 65) rfl) rfl
theorem gw_2466 : Cond.methodLink "CarcasswrightModel" 332 ⟨"CarcasswrightModel", "part", "(II)LCarcasswrightModel$Part;"⟩ ∈ ce_GW := gT_11 _ (List.mem_of_getElem? (i := 66) rfl) rfl
theorem gw_2468 : Cond.instanceMethod ⟨"CarcasswrightModel", "part", "(II)LCarcasswrightModel$Part;"⟩ ∈ ce_GW := gT_11 _ (List.mem_of_getElem? (i := 68) rfl) rfl
theorem gw_2469 : Cond.code ⟨"CarcasswrightModel", "part", "(II)LCarcasswrightModel$Part;"⟩ prog_14_method_42_code 4 (Option.some (Jvm.ClassFile.FieldType.object "CarcasswrightModel$Part")) ∈ ce_GW := gT_11 _ (List.mem_of_getElem? (i := 69) rfl) rfl
theorem gw_2470 : Cond.methodLink "CarcasswrightLaw" 261 ⟨"CarcasswrightModel", "size", "(IIC)I"⟩ ∈ ce_GW := gT_11 _ (List.mem_of_getElem? (i := 70) rfl) rfl
theorem gw_2471 : Cond.instanceMethod ⟨"CarcasswrightModel", "size", "(IIC)I"⟩ ∈ ce_GW := gT_11 _ (List.mem_of_getElem? (i := 71) rfl) rfl
theorem gw_2472 : Cond.selects "CarcasswrightModel" ⟨"CarcasswrightModel", "size", "(IIC)I"⟩ ⟨"CarcasswrightModel", "size", "(IIC)I"⟩ ∈ ce_GW := gT_11 _ (List.mem_of_getElem? (i := 72) rfl) rfl
theorem gw_2473 : Cond.code ⟨"CarcasswrightModel", "size", "(IIC)I"⟩ prog_14_method_44_code 5 (Option.some Jvm.ClassFile.FieldType.int) ∈ ce_GW := gT_11 _ (List.mem_of_getElem? (i := 73) rfl) rfl
theorem gw_2475 : Cond.methodLink "CarcasswrightLaw" 264 ⟨"CarcasswrightModel", "weight", "(II)I"⟩ ∈ ce_GW := gT_11 _ (List.mem_of_getElem? (i := 75) rfl) rfl
theorem gw_2476 : Cond.instanceMethod ⟨"CarcasswrightModel", "weight", "(II)I"⟩ ∈ ce_GW := gT_11 _ (List.mem_of_getElem? (i := 76) rfl) rfl
theorem gw_2477 : Cond.selects "CarcasswrightModel" ⟨"CarcasswrightModel", "weight", "(II)I"⟩ ⟨"CarcasswrightModel", "weight", "(II)I"⟩ ∈ ce_GW := gT_11 _ (List.mem_of_getElem? (i := 77) rfl) rfl
theorem gw_2478 : Cond.code ⟨"CarcasswrightModel", "weight", "(II)I"⟩ prog_14_method_45_code 4 (Option.some Jvm.ClassFile.FieldType.int) ∈ ce_GW := gT_11 _ (List.mem_of_getElem? (i := 78) rfl) rfl
theorem gw_2486 : Cond.methodLink "CarcasswrightLaw" 267 ⟨"CarcasswrightModel", "hinges", "(I)I"⟩ ∈ ce_GW := gT_11 _ (List.mem_of_getElem? (i := 86) rfl) rfl
theorem gw_2487 : Cond.instanceMethod ⟨"CarcasswrightModel", "hinges", "(I)I"⟩ ∈ ce_GW := gT_11 _ (List.mem_of_getElem? (i := 87) rfl) rfl
theorem gw_2488 : Cond.selects "CarcasswrightModel" ⟨"CarcasswrightModel", "hinges", "(I)I"⟩ ⟨"CarcasswrightModel", "hinges", "(I)I"⟩ ∈ ce_GW := gT_11 _ (List.mem_of_getElem? (i := 88) rfl) rfl
theorem gw_2489 : Cond.code ⟨"CarcasswrightModel", "hinges", "(I)I"⟩ prog_14_method_47_code 2 (Option.some Jvm.ClassFile.FieldType.int) ∈ ce_GW := gT_11 _ (List.mem_of_getElem? (i := 89) rfl) rfl
theorem gw_2497 : Cond.methodLink "CarcasswrightLaw" 270 ⟨"CarcasswrightModel", "holes", "(II)I"⟩ ∈ ce_GW := gT_11 _ (List.mem_of_getElem? (i := 97) rfl) rfl
theorem gw_2498 : Cond.instanceMethod ⟨"CarcasswrightModel", "holes", "(II)I"⟩ ∈ ce_GW := gT_11 _ (List.mem_of_getElem? (i := 98) rfl) rfl
theorem gw_2499 : Cond.selects "CarcasswrightModel" ⟨"CarcasswrightModel", "holes", "(II)I"⟩ ⟨"CarcasswrightModel", "holes", "(II)I"⟩ ∈ ce_GW := gT_11 _ (List.mem_of_getElem? (i := 99) rfl) rfl
theorem gw_2500 : Cond.code ⟨"CarcasswrightModel", "holes", "(II)I"⟩ prog_14_method_48_code 3 (Option.some Jvm.ClassFile.FieldType.int) ∈ ce_GW := gT_11 _ (List.mem_of_getElem? (i := 100) rfl) rfl
theorem gw_2531 : Cond.methodLink "CarcasswrightLaw" 274 ⟨"CarcasswrightModel", "hole", "(IIIC)I"⟩ ∈ ce_GW := gT_11 _ (List.mem_of_getElem? (i := 131) rfl) rfl
theorem gw_2532 : Cond.instanceMethod ⟨"CarcasswrightModel", "hole", "(IIIC)I"⟩ ∈ ce_GW := gT_11 _ (List.mem_of_getElem? (i := 132) rfl) rfl
theorem gw_2533 : Cond.selects "CarcasswrightModel" ⟨"CarcasswrightModel", "hole", "(IIIC)I"⟩ ⟨"CarcasswrightModel", "hole", "(IIIC)I"⟩ ∈ ce_GW := gT_11 _ (List.mem_of_getElem? (i := 133) rfl) rfl
theorem gw_2534 : Cond.code ⟨"CarcasswrightModel", "hole", "(IIIC)I"⟩ prog_14_method_49_code 7 (Option.some Jvm.ClassFile.FieldType.int) ∈ ce_GW := gT_11 _ (List.mem_of_getElem? (i := 134) rfl) rfl
theorem gw_2537 : Cond.methodLink "CarcasswrightLaw" 277 ⟨"CarcasswrightModel", "drills", "(II)I"⟩ ∈ ce_GW := gT_11 _ (List.mem_of_getElem? (i := 137) rfl) rfl
theorem gw_2538 : Cond.instanceMethod ⟨"CarcasswrightModel", "drills", "(II)I"⟩ ∈ ce_GW := gT_11 _ (List.mem_of_getElem? (i := 138) rfl) rfl
theorem gw_2539 : Cond.selects "CarcasswrightModel" ⟨"CarcasswrightModel", "drills", "(II)I"⟩ ⟨"CarcasswrightModel", "drills", "(II)I"⟩ ∈ ce_GW := gT_11 _ (List.mem_of_getElem? (i := 139) rfl) rfl
theorem gw_2540 : Cond.code ⟨"CarcasswrightModel", "drills", "(II)I"⟩ prog_14_method_50_code 7 (Option.some Jvm.ClassFile.FieldType.int) ∈ ce_GW := gT_11 _ (List.mem_of_getElem? (i := 140) rfl) rfl
theorem gw_2542 : Cond.methodLink "CarcasswrightLaw" 281 ⟨"CarcasswrightModel", "clamp", "(IIZ)I"⟩ ∈ ce_GW := gT_11 _ (List.mem_of_getElem? (i := 142) rfl) rfl
theorem gw_2543 : Cond.instanceMethod ⟨"CarcasswrightModel", "clamp", "(IIZ)I"⟩ ∈ ce_GW := gT_11 _ (List.mem_of_getElem? (i := 143) rfl) rfl
theorem gw_2544 : Cond.selects "CarcasswrightModel" ⟨"CarcasswrightModel", "clamp", "(IIZ)I"⟩ ⟨"CarcasswrightModel", "clamp", "(IIZ)I"⟩ ∈ ce_GW := gT_11 _ (List.mem_of_getElem? (i := 144) rfl) rfl
theorem gw_2545 : Cond.code ⟨"CarcasswrightModel", "clamp", "(IIZ)I"⟩ prog_14_method_52_code 8 (Option.some Jvm.ClassFile.FieldType.int) ∈ ce_GW := gT_11 _ (List.mem_of_getElem? (i := 145) rfl) rfl
theorem gw_2549 : Cond.methodLink "CarcasswrightLaw" 284 ⟨"CarcasswrightModel", "addBoards", "(IIIII)I"⟩ ∈ ce_GW := gT_11 _ (List.mem_of_getElem? (i := 149) rfl) rfl
theorem gw_2550 : Cond.instanceMethod ⟨"CarcasswrightModel", "addBoards", "(IIIII)I"⟩ ∈ ce_GW := gT_11 _ (List.mem_of_getElem? (i := 150) rfl) rfl
theorem gw_2551 : Cond.selects "CarcasswrightModel" ⟨"CarcasswrightModel", "addBoards", "(IIIII)I"⟩ ⟨"CarcasswrightModel", "addBoards", "(IIIII)I"⟩ ∈ ce_GW := gT_11 _ (List.mem_of_getElem? (i := 151) rfl) rfl
theorem gw_2552 : Cond.code ⟨"CarcasswrightModel", "addBoards", "(IIIII)I"⟩ prog_14_method_53_code 9 (Option.some Jvm.ClassFile.FieldType.int) ∈ ce_GW := gT_11 _ (List.mem_of_getElem? (i := 152) rfl) rfl
theorem gw_2553 : Cond.classLink "CarcasswrightModel" 378 "CarcasswrightModel$Board" ∈ ce_GW := gT_11 _ (List.mem_of_getElem? (i := 153) rfl) rfl
theorem gw_2554 : Cond.instantiable "CarcasswrightModel$Board" 7 ∈ ce_GW := gT_11 _ (List.mem_of_getElem? (i := 154) rfl) rfl
theorem gw_2555 : Cond.methodLink "CarcasswrightModel" 380 ⟨"CarcasswrightModel$Board", "<init>", "(IIIIZ)V"⟩ ∈ ce_GW := gT_11 _ (List.mem_of_getElem? (i := 155) rfl) rfl
theorem gw_2556 : Cond.instanceMethod ⟨"CarcasswrightModel$Board", "<init>", "(IIIIZ)V"⟩ ∈ ce_GW := gT_11 _ (List.mem_of_getElem? (i := 156) rfl) rfl
theorem gw_2557 : Cond.code ⟨"CarcasswrightModel$Board", "<init>", "(IIIIZ)V"⟩ prog_15_method_1_code 6 Option.none ∈ ce_GW := gT_11 _ (List.mem_of_getElem? (i := 157) rfl) rfl
theorem gw_2558 : Cond.methodLink "CarcasswrightModel$Board" 3 ⟨"java/lang/Object", "<init>", "()V"⟩ ∈ ce_GW := gT_11 _ (List.mem_of_getElem? (i := 158) rfl) rfl
theorem gw_2559 : Cond.classLink "CarcasswrightModel$Board" 9 "java/util/ArrayList" ∈ ce_GW := gT_11 _ (List.mem_of_getElem? (i := 159) rfl) rfl
theorem gw_2560 : Cond.methodLink "CarcasswrightModel$Board" 11 ⟨"java/util/ArrayList", "<init>", "()V"⟩ ∈ ce_GW := gT_11 _ (List.mem_of_getElem? (i := 160) rfl) rfl
theorem gw_2561 : Cond.fieldLink "CarcasswrightModel$Board" 21 "CarcasswrightModel$Board" "colour" "I" ∈ ce_GW := gT_11 _ (List.mem_of_getElem? (i := 161) rfl) rfl
theorem gw_2563 : Cond.fieldLink "CarcasswrightModel$Board" 25 "CarcasswrightModel$Board" "thick" "I" ∈ ce_GW := gT_11 _ (List.mem_of_getElem? (i := 163) rfl) rfl
theorem gw_2565 : Cond.fieldLink "CarcasswrightModel$Board" 28 "CarcasswrightModel$Board" "length" "I" ∈ ce_GW := gT_11 _ (List.mem_of_getElem? (i := 165) rfl) rfl
theorem gw_2567 : Cond.fieldLink "CarcasswrightModel$Board" 31 "CarcasswrightModel$Board" "width" "I" ∈ ce_GW := gT_11 _ (List.mem_of_getElem? (i := 167) rfl) rfl
theorem gw_2569 : Cond.fieldLink "CarcasswrightModel$Board" 34 "CarcasswrightModel$Board" "isOffcut" "Z" ∈ ce_GW := gT_11 _ (List.mem_of_getElem? (i := 169) rfl) rfl
theorem gw_2571 : Cond.fieldLink "CarcasswrightModel$Board" 12 "CarcasswrightModel$Board" "wide" "Ljava/util/ArrayList;" ∈ ce_GW := gT_11 _ (List.mem_of_getElem? (i := 171) rfl) rfl
theorem gw_2572 : Cond.fieldLink "CarcasswrightModel$Board" 18 "CarcasswrightModel$Board" "used" "Ljava/util/ArrayList;" ∈ ce_GW := gT_11 _ (List.mem_of_getElem? (i := 172) rfl) rfl
theorem gw_2588 : Cond.methodLink "CarcasswrightModel" 386 ⟨"CarcasswrightModel$Board", "area", "()J"⟩ ∈ ce_GW := gT_11 _ (List.mem_of_getElem? (i := 188) rfl) rfl
theorem gw_2589 : Cond.instanceMethod ⟨"CarcasswrightModel$Board", "area", "()J"⟩ ∈ ce_GW := gT_11 _ (List.mem_of_getElem? (i := 189) rfl) rfl
theorem gw_2590 : Cond.selects "CarcasswrightModel$Board" ⟨"CarcasswrightModel$Board", "area", "()J"⟩ ⟨"CarcasswrightModel$Board", "area", "()J"⟩ ∈ ce_GW := gT_11 _ (List.mem_of_getElem? (i := 190) rfl) rfl
theorem gw_2591 : Cond.code ⟨"CarcasswrightModel$Board", "area", "()J"⟩ prog_15_method_2_code 1 (Option.some Jvm.ClassFile.FieldType.long) ∈ ce_GW := gT_11 _ (List.mem_of_getElem? (i := 191) rfl) rfl
theorem gw_2592 : Cond.methodLink "CarcasswrightLaw" 288 ⟨"CarcasswrightModel", "boards", "()I"⟩ ∈ ce_GW := gT_11 _ (List.mem_of_getElem? (i := 192) rfl) rfl
theorem gw_2593 : Cond.instanceMethod ⟨"CarcasswrightModel", "boards", "()I"⟩ ∈ ce_GW := gT_11 _ (List.mem_of_getElem? (i := 193) rfl) rfl
theorem gw_2594 : Cond.selects "CarcasswrightModel" ⟨"CarcasswrightModel", "boards", "()I"⟩ ⟨"CarcasswrightModel", "boards", "()I"⟩ ∈ ce_GW := gT_11 _ (List.mem_of_getElem? (i := 194) rfl) rfl
theorem gw_2595 : Cond.code ⟨"CarcasswrightModel", "boards", "()I"⟩ prog_14_method_54_code 1 (Option.some Jvm.ClassFile.FieldType.int) ∈ ce_GW := gT_11 _ (List.mem_of_getElem? (i := 195) rfl) rfl
theorem gw_2596 : Cond.methodLink "CarcasswrightLaw" 292 ⟨"CarcasswrightModel", "offcuts", "()I"⟩ ∈ ce_GW := gT_11 _ (List.mem_of_getElem? (i := 196) rfl) rfl
theorem gw_2597 : Cond.instanceMethod ⟨"CarcasswrightModel", "offcuts", "()I"⟩ ∈ ce_GW := gT_11 _ (List.mem_of_getElem? (i := 197) rfl) rfl
theorem gw_2598 : Cond.selects "CarcasswrightModel" ⟨"CarcasswrightModel", "offcuts", "()I"⟩ ⟨"CarcasswrightModel", "offcuts", "()I"⟩ ∈ ce_GW := gT_11 _ (List.mem_of_getElem? (i := 198) rfl) rfl
theorem gw_2599 : Cond.code ⟨"CarcasswrightModel", "offcuts", "()I"⟩ prog_14_method_55_code 4 (Option.some Jvm.ClassFile.FieldType.int) ∈ ce_GW := gT_11 _ (List.mem_of_getElem? (i := 199) rfl) rfl
theorem gw_2600 : Cond.methodLink "CarcasswrightLaw" 295 ⟨"CarcasswrightModel", "board", "(IC)I"⟩ ∈ ce_GW := gT_11 _ (List.mem_of_getElem? (i := 200) rfl) rfl
theorem gw_2601 : Cond.instanceMethod ⟨"CarcasswrightModel", "board", "(IC)I"⟩ ∈ ce_GW := gT_11 _ (List.mem_of_getElem? (i := 201) rfl) rfl
theorem gw_2602 : Cond.selects "CarcasswrightModel" ⟨"CarcasswrightModel", "board", "(IC)I"⟩ ⟨"CarcasswrightModel", "board", "(IC)I"⟩ ∈ ce_GW := gT_11 _ (List.mem_of_getElem? (i := 202) rfl) rfl
theorem gw_2603 : Cond.code ⟨"CarcasswrightModel", "board", "(IC)I"⟩ prog_14_method_56_code 4 (Option.some Jvm.ClassFile.FieldType.int) ∈ ce_GW := gT_11 _ (List.mem_of_getElem? (i := 203) rfl) rfl
theorem gw_2605 : Cond.methodLink "CarcasswrightLaw" 298 ⟨"CarcasswrightModel", "uncut", "(I)I"⟩ ∈ ce_GW := gT_11 _ (List.mem_of_getElem? (i := 205) rfl) rfl
theorem gw_2606 : Cond.instanceMethod ⟨"CarcasswrightModel", "uncut", "(I)I"⟩ ∈ ce_GW := gT_11 _ (List.mem_of_getElem? (i := 206) rfl) rfl
theorem gw_2607 : Cond.selects "CarcasswrightModel" ⟨"CarcasswrightModel", "uncut", "(I)I"⟩ ⟨"CarcasswrightModel", "uncut", "(I)I"⟩ ∈ ce_GW := gT_11 _ (List.mem_of_getElem? (i := 207) rfl) rfl
theorem gw_2608 : Cond.code ⟨"CarcasswrightModel", "uncut", "(I)I"⟩ prog_14_method_57_code 2 (Option.some Jvm.ClassFile.FieldType.int) ∈ ce_GW := gT_11 _ (List.mem_of_getElem? (i := 208) rfl) rfl
theorem gw_2621 : Cond.methodLink "CarcasswrightLaw" 301 ⟨"CarcasswrightModel", "cut", "(I)I"⟩ ∈ ce_GW := gT_11 _ (List.mem_of_getElem? (i := 221) rfl) rfl
theorem gw_2622 : Cond.instanceMethod ⟨"CarcasswrightModel", "cut", "(I)I"⟩ ∈ ce_GW := gT_11 _ (List.mem_of_getElem? (i := 222) rfl) rfl
theorem gw_2623 : Cond.selects "CarcasswrightModel" ⟨"CarcasswrightModel", "cut", "(I)I"⟩ ⟨"CarcasswrightModel", "cut", "(I)I"⟩ ∈ ce_GW := gT_11 _ (List.mem_of_getElem? (i := 223) rfl) rfl
theorem gw_2624 : Cond.code ⟨"CarcasswrightModel", "cut", "(I)I"⟩ prog_14_method_61_code 13 (Option.some Jvm.ClassFile.FieldType.int) ∈ ce_GW := gT_11 _ (List.mem_of_getElem? (i := 224) rfl) rfl
theorem gw_2739 : Cond.methodLink "CarcasswrightLaw" 304 ⟨"CarcasswrightModel", "lose", "(II)I"⟩ ∈ ce_GW := gT_12 _ (List.mem_of_getElem? (i := 99) rfl) rfl
theorem gw_2740 : Cond.instanceMethod ⟨"CarcasswrightModel", "lose", "(II)I"⟩ ∈ ce_GW := gT_12 _ (List.mem_of_getElem? (i := 100) rfl) rfl
theorem gw_2741 : Cond.selects "CarcasswrightModel" ⟨"CarcasswrightModel", "lose", "(II)I"⟩ ⟨"CarcasswrightModel", "lose", "(II)I"⟩ ∈ ce_GW := gT_12 _ (List.mem_of_getElem? (i := 101) rfl) rfl
theorem gw_2742 : Cond.code ⟨"CarcasswrightModel", "lose", "(II)I"⟩ prog_14_method_62_code 6 (Option.some Jvm.ClassFile.FieldType.int) ∈ ce_GW := gT_12 _ (List.mem_of_getElem? (i := 102) rfl) rfl
theorem gw_2743 : Cond.methodLink "CarcasswrightLaw" 307 ⟨"CarcasswrightModel", "edged", "(I)I"⟩ ∈ ce_GW := gT_12 _ (List.mem_of_getElem? (i := 103) rfl) rfl
theorem gw_2744 : Cond.instanceMethod ⟨"CarcasswrightModel", "edged", "(I)I"⟩ ∈ ce_GW := gT_12 _ (List.mem_of_getElem? (i := 104) rfl) rfl
theorem gw_2745 : Cond.selects "CarcasswrightModel" ⟨"CarcasswrightModel", "edged", "(I)I"⟩ ⟨"CarcasswrightModel", "edged", "(I)I"⟩ ∈ ce_GW := gT_12 _ (List.mem_of_getElem? (i := 105) rfl) rfl
theorem gw_2746 : Cond.code ⟨"CarcasswrightModel", "edged", "(I)I"⟩ prog_14_method_63_code 7 (Option.some Jvm.ClassFile.FieldType.int) ∈ ce_GW := gT_12 _ (List.mem_of_getElem? (i := 106) rfl) rfl
theorem gw_2751 : Cond.methodLink "CarcasswrightLaw" 310 ⟨"CarcasswrightModel", "setRate", "(II)I"⟩ ∈ ce_GW := gT_12 _ (List.mem_of_getElem? (i := 111) rfl) rfl
theorem gw_2752 : Cond.instanceMethod ⟨"CarcasswrightModel", "setRate", "(II)I"⟩ ∈ ce_GW := gT_12 _ (List.mem_of_getElem? (i := 112) rfl) rfl
theorem gw_2753 : Cond.selects "CarcasswrightModel" ⟨"CarcasswrightModel", "setRate", "(II)I"⟩ ⟨"CarcasswrightModel", "setRate", "(II)I"⟩ ∈ ce_GW := gT_12 _ (List.mem_of_getElem? (i := 113) rfl) rfl
theorem gw_2754 : Cond.code ⟨"CarcasswrightModel", "setRate", "(II)I"⟩ prog_14_method_64_code 4 (Option.some Jvm.ClassFile.FieldType.int) ∈ ce_GW := gT_12 _ (List.mem_of_getElem? (i := 114) rfl) rfl
theorem gw_2755 : Cond.methodLink "CarcasswrightLaw" 313 ⟨"CarcasswrightModel", "price", "(I)I"⟩ ∈ ce_GW := gT_12 _ (List.mem_of_getElem? (i := 115) rfl) rfl
theorem gw_2756 : Cond.instanceMethod ⟨"CarcasswrightModel", "price", "(I)I"⟩ ∈ ce_GW := gT_12 _ (List.mem_of_getElem? (i := 116) rfl) rfl
theorem gw_2757 : Cond.selects "CarcasswrightModel" ⟨"CarcasswrightModel", "price", "(I)I"⟩ ⟨"CarcasswrightModel", "price", "(I)I"⟩ ∈ ce_GW := gT_12 _ (List.mem_of_getElem? (i := 117) rfl) rfl
theorem gw_2758 : Cond.code ⟨"CarcasswrightModel", "price", "(I)I"⟩ prog_14_method_65_code 6 (Option.some Jvm.ClassFile.FieldType.int) ∈ ce_GW := gT_12 _ (List.mem_of_getElem? (i := 118) rfl) rfl
theorem gw_2761 : Cond.methodLink "CarcasswrightLaw" 316 ⟨"CarcasswrightModel", "packs", "(II)I"⟩ ∈ ce_GW := gT_12 _ (List.mem_of_getElem? (i := 121) rfl) rfl
theorem gw_2762 : Cond.instanceMethod ⟨"CarcasswrightModel", "packs", "(II)I"⟩ ∈ ce_GW := gT_12 _ (List.mem_of_getElem? (i := 122) rfl) rfl
theorem gw_2763 : Cond.selects "CarcasswrightModel" ⟨"CarcasswrightModel", "packs", "(II)I"⟩ ⟨"CarcasswrightModel", "packs", "(II)I"⟩ ∈ ce_GW := gT_12 _ (List.mem_of_getElem? (i := 123) rfl) rfl
theorem gw_2764 : Cond.code ⟨"CarcasswrightModel", "packs", "(II)I"⟩ prog_14_method_67_code 6 (Option.some Jvm.ClassFile.FieldType.int) ∈ ce_GW := gT_12 _ (List.mem_of_getElem? (i := 124) rfl) rfl
theorem gw_2769 : Cond.methodLink "CarcasswrightLaw" 319 ⟨"CarcasswrightModel", "packOf", "(III)I"⟩ ∈ ce_GW := gT_12 _ (List.mem_of_getElem? (i := 129) rfl) rfl
theorem gw_2770 : Cond.instanceMethod ⟨"CarcasswrightModel", "packOf", "(III)I"⟩ ∈ ce_GW := gT_12 _ (List.mem_of_getElem? (i := 130) rfl) rfl
theorem gw_2771 : Cond.selects "CarcasswrightModel" ⟨"CarcasswrightModel", "packOf", "(III)I"⟩ ⟨"CarcasswrightModel", "packOf", "(III)I"⟩ ∈ ce_GW := gT_12 _ (List.mem_of_getElem? (i := 131) rfl) rfl
theorem gw_2772 : Cond.code ⟨"CarcasswrightModel", "packOf", "(III)I"⟩ prog_14_method_68_code 5 (Option.some Jvm.ClassFile.FieldType.int) ∈ ce_GW := gT_12 _ (List.mem_of_getElem? (i := 132) rfl) rfl
theorem gw_2773 : Cond.methodLink "CarcasswrightLaw" 322 ⟨"CarcasswrightModel", "stepAt", "(II)I"⟩ ∈ ce_GW := gT_12 _ (List.mem_of_getElem? (i := 133) rfl) rfl
theorem gw_2774 : Cond.instanceMethod ⟨"CarcasswrightModel", "stepAt", "(II)I"⟩ ∈ ce_GW := gT_12 _ (List.mem_of_getElem? (i := 134) rfl) rfl
theorem gw_2775 : Cond.selects "CarcasswrightModel" ⟨"CarcasswrightModel", "stepAt", "(II)I"⟩ ⟨"CarcasswrightModel", "stepAt", "(II)I"⟩ ∈ ce_GW := gT_12 _ (List.mem_of_getElem? (i := 135) rfl) rfl
theorem gw_2776 : Cond.code ⟨"CarcasswrightModel", "stepAt", "(II)I"⟩ prog_14_method_69_code 3 (Option.some Jvm.ClassFile.FieldType.int) ∈ ce_GW := gT_12 _ (List.mem_of_getElem? (i := 136) rfl) rfl
theorem gw_2777 : Cond.methodLink "CarcasswrightLaw" 325 ⟨"CarcasswrightModel", "job", "(III)I"⟩ ∈ ce_GW := gT_12 _ (List.mem_of_getElem? (i := 137) rfl) rfl
theorem gw_2778 : Cond.instanceMethod ⟨"CarcasswrightModel", "job", "(III)I"⟩ ∈ ce_GW := gT_12 _ (List.mem_of_getElem? (i := 138) rfl) rfl
theorem gw_2779 : Cond.selects "CarcasswrightModel" ⟨"CarcasswrightModel", "job", "(III)I"⟩ ⟨"CarcasswrightModel", "job", "(III)I"⟩ ∈ ce_GW := gT_12 _ (List.mem_of_getElem? (i := 139) rfl) rfl
theorem gw_2780 : Cond.code ⟨"CarcasswrightModel", "job", "(III)I"⟩ prog_14_method_70_code 4 (Option.some Jvm.ClassFile.FieldType.int) ∈ ce_GW := gT_12 _ (List.mem_of_getElem? (i := 140) rfl) rfl
theorem gw_2781 : Cond.classLink "CarcasswrightModel" 455 "CarcasswrightModel$Job" ∈ ce_GW := gT_12 _ (List.mem_of_getElem? (i := 141) rfl) rfl
theorem gw_2782 : Cond.instantiable "CarcasswrightModel$Job" 3 ∈ ce_GW := gT_12 _ (List.mem_of_getElem? (i := 142) rfl) rfl
theorem gw_2783 : Cond.methodLink "CarcasswrightModel" 457 ⟨"CarcasswrightModel$Job", "<init>", "(III)V"⟩ ∈ ce_GW := gT_12 _ (List.mem_of_getElem? (i := 143) rfl) rfl
theorem gw_2784 : Cond.instanceMethod ⟨"CarcasswrightModel$Job", "<init>", "(III)V"⟩ ∈ ce_GW := gT_12 _ (List.mem_of_getElem? (i := 144) rfl) rfl
theorem gw_2785 : Cond.code ⟨"CarcasswrightModel$Job", "<init>", "(III)V"⟩ prog_17_method_1_code 4 Option.none ∈ ce_GW := gT_12 _ (List.mem_of_getElem? (i := 145) rfl) rfl
theorem gw_2786 : Cond.methodLink "CarcasswrightModel$Job" 1 ⟨"java/lang/Object", "<init>", "()V"⟩ ∈ ce_GW := gT_12 _ (List.mem_of_getElem? (i := 146) rfl) rfl
theorem gw_2787 : Cond.fieldLink "CarcasswrightModel$Job" 7 "CarcasswrightModel$Job" "colour" "I" ∈ ce_GW := gT_12 _ (List.mem_of_getElem? (i := 147) rfl) rfl
theorem gw_2789 : Cond.fieldLink "CarcasswrightModel$Job" 13 "CarcasswrightModel$Job" "hours" "I" ∈ ce_GW := gT_12 _ (List.mem_of_getElem? (i := 149) rfl) rfl
theorem gw_2791 : Cond.fieldLink "CarcasswrightModel$Job" 16 "CarcasswrightModel$Job" "due" "I" ∈ ce_GW := gT_12 _ (List.mem_of_getElem? (i := 151) rfl) rfl
theorem gw_2800 : Cond.methodLink "CarcasswrightLaw" 328 ⟨"CarcasswrightModel", "setSetup", "(I)I"⟩ ∈ ce_GW := gT_12 _ (List.mem_of_getElem? (i := 160) rfl) rfl
theorem gw_2801 : Cond.instanceMethod ⟨"CarcasswrightModel", "setSetup", "(I)I"⟩ ∈ ce_GW := gT_12 _ (List.mem_of_getElem? (i := 161) rfl) rfl
theorem gw_2802 : Cond.selects "CarcasswrightModel" ⟨"CarcasswrightModel", "setSetup", "(I)I"⟩ ⟨"CarcasswrightModel", "setSetup", "(I)I"⟩ ∈ ce_GW := gT_12 _ (List.mem_of_getElem? (i := 162) rfl) rfl
theorem gw_2803 : Cond.code ⟨"CarcasswrightModel", "setSetup", "(I)I"⟩ prog_14_method_71_code 3 (Option.some Jvm.ClassFile.FieldType.int) ∈ ce_GW := gT_12 _ (List.mem_of_getElem? (i := 163) rfl) rfl
theorem gw_2804 : Cond.methodLink "CarcasswrightLaw" 332 ⟨"CarcasswrightModel", "lateness", "()I"⟩ ∈ ce_GW := gT_12 _ (List.mem_of_getElem? (i := 164) rfl) rfl
theorem gw_2805 : Cond.instanceMethod ⟨"CarcasswrightModel", "lateness", "()I"⟩ ∈ ce_GW := gT_12 _ (List.mem_of_getElem? (i := 165) rfl) rfl
theorem gw_2806 : Cond.selects "CarcasswrightModel" ⟨"CarcasswrightModel", "lateness", "()I"⟩ ⟨"CarcasswrightModel", "lateness", "()I"⟩ ∈ ce_GW := gT_12 _ (List.mem_of_getElem? (i := 166) rfl) rfl
theorem gw_2807 : Cond.code ⟨"CarcasswrightModel", "lateness", "()I"⟩ prog_14_method_74_code 1 (Option.some Jvm.ClassFile.FieldType.int) ∈ ce_GW := gT_12 _ (List.mem_of_getElem? (i := 167) rfl) rfl
theorem gw_2808 : Cond.methodLink "CarcasswrightModel" 481 ⟨"CarcasswrightModel", "orders", "()V"⟩ ∈ ce_GW := gT_12 _ (List.mem_of_getElem? (i := 168) rfl) rfl
theorem gw_2810 : Cond.instanceMethod ⟨"CarcasswrightModel", "orders", "()V"⟩ ∈ ce_GW := gT_12 _ (List.mem_of_getElem? (i := 170) rfl) rfl
theorem gw_2811 : Cond.code ⟨"CarcasswrightModel", "orders", "()V"⟩ prog_14_method_73_code 1 Option.none ∈ ce_GW := gT_12 _ (List.mem_of_getElem? (i := 171) rfl) rfl
theorem gw_2812 : Cond.constant "CarcasswrightModel" 480 (Int32.ofInt 2147483647) ∈ ce_GW := gT_12 _ (List.mem_of_getElem? (i := 172) rfl) rfl
theorem gw_2813 : Cond.methodLink "CarcasswrightModel" 474 ⟨"CarcasswrightModel", "tries", "([IIIII)V"⟩ ∈ ce_GW := gT_12 _ (List.mem_of_getElem? (i := 173) rfl) rfl
theorem gw_2815 : Cond.instanceMethod ⟨"CarcasswrightModel", "tries", "([IIIII)V"⟩ ∈ ce_GW := gT_12 _ (List.mem_of_getElem? (i := 175) rfl) rfl
theorem gw_2816 : Cond.code ⟨"CarcasswrightModel", "tries", "([IIIII)V"⟩ prog_14_method_72_code 10 Option.none ∈ ce_GW := gT_12 _ (List.mem_of_getElem? (i := 176) rfl) rfl
theorem gw_2817 : Cond.methodLink "CarcasswrightModel" 463 ⟨"[I", "clone", "()Ljava/lang/Object;"⟩ ∈ ce_GW := gT_12 _ (List.mem_of_getElem? (i := 177) rfl) rfl
theorem gw_2818 : Cond.sameMethod "[I" "java/lang/Object" "clone" "()Ljava/lang/Object;" ∈ ce_GW := gT_12 _ (List.mem_of_getElem? (i := 178) rfl) rfl
theorem gw_2819 : Cond.selects "[I" ⟨"[I", "clone", "()Ljava/lang/Object;"⟩ ⟨"java/lang/Object", "clone", "()Ljava/lang/Object;"⟩ ∈ ce_GW := gT_12 _ (List.mem_of_getElem? (i := 179) rfl) rfl
theorem gw_2821 : Cond.classLink "CarcasswrightModel" 464 "[I" ∈ ce_GW := gT_12 _ (List.mem_of_getElem? (i := 181) rfl) rfl
theorem gw_2822 : Cond.methodLink "CarcasswrightLaw" 335 ⟨"CarcasswrightModel", "jobAt", "(I)I"⟩ ∈ ce_GW := gT_12 _ (List.mem_of_getElem? (i := 182) rfl) rfl
theorem gw_2823 : Cond.instanceMethod ⟨"CarcasswrightModel", "jobAt", "(I)I"⟩ ∈ ce_GW := gT_12 _ (List.mem_of_getElem? (i := 183) rfl) rfl
theorem gw_2824 : Cond.selects "CarcasswrightModel" ⟨"CarcasswrightModel", "jobAt", "(I)I"⟩ ⟨"CarcasswrightModel", "jobAt", "(I)I"⟩ ∈ ce_GW := gT_12 _ (List.mem_of_getElem? (i := 184) rfl) rfl
theorem gw_2825 : Cond.code ⟨"CarcasswrightModel", "jobAt", "(I)I"⟩ prog_14_method_75_code 2 (Option.some Jvm.ClassFile.FieldType.int) ∈ ce_GW := gT_12 _ (List.mem_of_getElem? (i := 185) rfl) rfl
theorem gw_2826 : Cond.methodLink "CarcasswrightLaw" 339 ⟨"CarcasswrightModel", "modules", "()I"⟩ ∈ ce_GW := gT_12 _ (List.mem_of_getElem? (i := 186) rfl) rfl
theorem gw_2827 : Cond.instanceMethod ⟨"CarcasswrightModel", "modules", "()I"⟩ ∈ ce_GW := gT_12 _ (List.mem_of_getElem? (i := 187) rfl) rfl
theorem gw_2828 : Cond.selects "CarcasswrightModel" ⟨"CarcasswrightModel", "modules", "()I"⟩ ⟨"CarcasswrightModel", "modules", "()I"⟩ ∈ ce_GW := gT_12 _ (List.mem_of_getElem? (i := 188) rfl) rfl
theorem gw_2829 : Cond.code ⟨"CarcasswrightModel", "modules", "()I"⟩ prog_14_method_76_code 1 (Option.some Jvm.ClassFile.FieldType.int) ∈ ce_GW := gT_12 _ (List.mem_of_getElem? (i := 189) rfl) rfl
theorem gw_2830 : Cond.methodLink "CarcasswrightLaw" 342 ⟨"CarcasswrightModel", "area", "(C)J"⟩ ∈ ce_GW := gT_12 _ (List.mem_of_getElem? (i := 190) rfl) rfl
theorem gw_2831 : Cond.instanceMethod ⟨"CarcasswrightModel", "area", "(C)J"⟩ ∈ ce_GW := gT_12 _ (List.mem_of_getElem? (i := 191) rfl) rfl
theorem gw_2832 : Cond.selects "CarcasswrightModel" ⟨"CarcasswrightModel", "area", "(C)J"⟩ ⟨"CarcasswrightModel", "area", "(C)J"⟩ ∈ ce_GW := gT_12 _ (List.mem_of_getElem? (i := 192) rfl) rfl
theorem gw_2833 : Cond.code ⟨"CarcasswrightModel", "area", "(C)J"⟩ prog_14_method_79_code 2 (Option.some Jvm.ClassFile.FieldType.long) ∈ ce_GW := gT_12 _ (List.mem_of_getElem? (i := 193) rfl) rfl
theorem gw_2834 : Cond.methodLink "CarcasswrightModel" 484 ⟨"CarcasswrightModel", "stocked", "()J"⟩ ∈ ce_GW := gT_12 _ (List.mem_of_getElem? (i := 194) rfl) rfl
theorem gw_2836 : Cond.instanceMethod ⟨"CarcasswrightModel", "stocked", "()J"⟩ ∈ ce_GW := gT_12 _ (List.mem_of_getElem? (i := 196) rfl) rfl
theorem gw_2837 : Cond.code ⟨"CarcasswrightModel", "stocked", "()J"⟩ prog_14_method_77_code 5 (Option.some Jvm.ClassFile.FieldType.long) ∈ ce_GW := gT_12 _ (List.mem_of_getElem? (i := 197) rfl) rfl
theorem gw_2838 : Cond.methodLink "CarcasswrightModel" 487 ⟨"CarcasswrightModel", "cutArea", "()J"⟩ ∈ ce_GW := gT_12 _ (List.mem_of_getElem? (i := 198) rfl) rfl
theorem gw_2840 : Cond.instanceMethod ⟨"CarcasswrightModel", "cutArea", "()J"⟩ ∈ ce_GW := gT_12 _ (List.mem_of_getElem? (i := 200) rfl) rfl
theorem gw_2841 : Cond.code ⟨"CarcasswrightModel", "cutArea", "()J"⟩ prog_14_method_78_code 7 (Option.some Jvm.ClassFile.FieldType.long) ∈ ce_GW := gT_12 _ (List.mem_of_getElem? (i := 201) rfl) rfl
theorem gw_2842 : Cond.methodLink "CarcasswrightLaw" 346 ⟨"CarcasswrightModel", "cutShare", "()F"⟩ ∈ ce_GW := gT_12 _ (List.mem_of_getElem? (i := 202) rfl) rfl
theorem gw_2843 : Cond.instanceMethod ⟨"CarcasswrightModel", "cutShare", "()F"⟩ ∈ ce_GW := gT_12 _ (List.mem_of_getElem? (i := 203) rfl) rfl
theorem gw_2844 : Cond.selects "CarcasswrightModel" ⟨"CarcasswrightModel", "cutShare", "()F"⟩ ⟨"CarcasswrightModel", "cutShare", "()F"⟩ ∈ ce_GW := gT_12 _ (List.mem_of_getElem? (i := 204) rfl) rfl
theorem gw_2845 : Cond.code ⟨"CarcasswrightModel", "cutShare", "()F"⟩ prog_14_method_80_code 5 (Option.some Jvm.ClassFile.FieldType.float) ∈ ce_GW := gT_12 _ (List.mem_of_getElem? (i := 205) rfl) rfl
theorem gw_2846 : Cond.methodLink "CarcasswrightLaw" 349 ⟨"CarcasswrightModel", "meanWidth", "()D"⟩ ∈ ce_GW := gT_12 _ (List.mem_of_getElem? (i := 206) rfl) rfl
theorem gw_2847 : Cond.instanceMethod ⟨"CarcasswrightModel", "meanWidth", "()D"⟩ ∈ ce_GW := gT_12 _ (List.mem_of_getElem? (i := 207) rfl) rfl
theorem gw_2848 : Cond.selects "CarcasswrightModel" ⟨"CarcasswrightModel", "meanWidth", "()D"⟩ ⟨"CarcasswrightModel", "meanWidth", "()D"⟩ ∈ ce_GW := gT_12 _ (List.mem_of_getElem? (i := 208) rfl) rfl
theorem gw_2849 : Cond.code ⟨"CarcasswrightModel", "meanWidth", "()D"⟩ prog_14_method_81_code 5 (Option.some Jvm.ClassFile.FieldType.double) ∈ ce_GW := gT_12 _ (List.mem_of_getElem? (i := 209) rfl) rfl
theorem gw_2850 : Cond.methodLink "CarcasswrightLaw" 353 ⟨"CarcasswrightModel", "isSound", "()Z"⟩ ∈ ce_GW := gT_12 _ (List.mem_of_getElem? (i := 210) rfl) rfl
theorem gw_2851 : Cond.instanceMethod ⟨"CarcasswrightModel", "isSound", "()Z"⟩ ∈ ce_GW := gT_12 _ (List.mem_of_getElem? (i := 211) rfl) rfl
theorem gw_2852 : Cond.selects "CarcasswrightModel" ⟨"CarcasswrightModel", "isSound", "()Z"⟩ ⟨"CarcasswrightModel", "isSound", "()Z"⟩ ∈ ce_GW := gT_12 _ (List.mem_of_getElem? (i := 212) rfl) rfl
theorem gw_2853 : Cond.code ⟨"CarcasswrightModel", "isSound", "()Z"⟩ prog_14_method_82_code 1 (Option.some Jvm.ClassFile.FieldType.boolean) ∈ ce_GW := gT_12 _ (List.mem_of_getElem? (i := 213) rfl) rfl
theorem gw_2854 : Cond.arrayClass Jvm.ClassFile.FieldType.long ∈ ce_GW := gT_12 _ (List.mem_of_getElem? (i := 214) rfl) rfl
theorem gw_2855 : Cond.arrayClass Jvm.ClassFile.FieldType.double ∈ ce_GW := gT_12 _ (List.mem_of_getElem? (i := 215) rfl) rfl
theorem gw_2857 : Cond.sameMethod "java/lang/AbstractStringBuilder" "java/lang/AbstractStringBuilder" "append" "(Ljava/lang/String;)Ljava/lang/AbstractStringBuilder;" ∈ ce_GW := gT_12 _ (List.mem_of_getElem? (i := 217) rfl) rfl
theorem gw_2859 : Cond.sameMethod "java/lang/AbstractStringBuilder" "java/lang/AbstractStringBuilder" "ensureCapacityInternal" "(I)V" ∈ ce_GW := gT_12 _ (List.mem_of_getElem? (i := 219) rfl) rfl
theorem gw_2861 : Cond.sameMethod "java/lang/AbstractStringBuilder" "java/lang/AbstractStringBuilder" "putStringAt" "(ILjava/lang/String;)V" ∈ ce_GW := gT_12 _ (List.mem_of_getElem? (i := 221) rfl) rfl
theorem gw_2862 : Cond.sameMethod "java/lang/AbstractStringBuilder" "java/lang/AbstractStringBuilder" "inflateIfNeededFor" "(Ljava/lang/String;)V" ∈ ce_GW := gT_12 _ (List.mem_of_getElem? (i := 222) rfl) rfl
theorem gw_2863 : Cond.sameMethod "java/lang/AbstractStringBuilder" "java/lang/AbstractStringBuilder" "inflate" "()V" ∈ ce_GW := gT_12 _ (List.mem_of_getElem? (i := 223) rfl) rfl
theorem gw_2864 : Cond.sameMethod "java/lang/AbstractStringBuilder" "java/lang/AbstractStringBuilder" "append" "(C)Ljava/lang/AbstractStringBuilder;" ∈ ce_GW := gT_12 _ (List.mem_of_getElem? (i := 224) rfl) rfl
theorem gw_2900 : Cond.selects "[Ljava/lang/Object;" ⟨"java/lang/Object", "getClass", "()Ljava/lang/Class;"⟩ ⟨"java/lang/Object", "getClass", "()Ljava/lang/Class;"⟩ ∈ ce_GW := gT_13 _ (List.mem_of_getElem? (i := 20) rfl) rfl
theorem gx_0 : ce_XS[0] ∈ ce_GW := List.mem_append_left _ (List.mem_of_getElem? (i := 0) rfl)
theorem gx_1 : ce_XS[1] ∈ ce_GW := List.mem_append_left _ (List.mem_of_getElem? (i := 1) rfl)
theorem gx_2 : ce_XS[2] ∈ ce_GW := List.mem_append_left _ (List.mem_of_getElem? (i := 2) rfl)
theorem gx_3 : ce_XS[3] ∈ ce_GW := List.mem_append_left _ (List.mem_of_getElem? (i := 3) rfl)
theorem gx_4 : ce_XS[4] ∈ ce_GW := List.mem_append_left _ (List.mem_of_getElem? (i := 4) rfl)
theorem gx_5 : ce_XS[5] ∈ ce_GW := List.mem_append_left _ (List.mem_of_getElem? (i := 5) rfl)
theorem gn_0 : Cond.castable "java/lang/IllegalArgumentException" "java/lang/IllegalArgumentException" ∈ ce_NG := List.mem_of_getElem? (i := 0) rfl
theorem gn_1 : Cond.castable "java/lang/IndexOutOfBoundsException" "java/lang/IndexOutOfBoundsException" ∈ ce_NG := List.mem_of_getElem? (i := 1) rfl
theorem gn_2 : Cond.castable "java/util/NoSuchElementException" "java/util/NoSuchElementException" ∈ ce_NG := List.mem_of_getElem? (i := 2) rfl
theorem gn_3 : Cond.castable "java/lang/UnsupportedOperationException" "java/lang/UnsupportedOperationException" ∈ ce_NG := List.mem_of_getElem? (i := 3) rfl
theorem gn_6 : Cond.castable "CarcasswrightModel$Board" "java/lang/Object" ∈ ce_NG := List.mem_of_getElem? (i := 6) rfl
theorem gn_7 : Cond.castable "[I" "java/lang/Cloneable" ∈ ce_NG := List.mem_of_getElem? (i := 7) rfl
theorem gn_8 : Cond.methodLinkNest "Carcasswright$Types" 19 ⟨"Carcasswright$ModuleType", "<init>", "()V"⟩ "Carcasswright" ∈ ce_NG := List.mem_of_getElem? (i := 8) rfl
theorem gn_9 : Cond.methodLinkNest "Carcasswright$Room" 35 ⟨"Carcasswright$Wall", "<init>", "()V"⟩ "Carcasswright" ∈ ce_NG := List.mem_of_getElem? (i := 9) rfl
theorem gn_10 : Cond.methodLinkNest "Carcasswright$Room" 36 ⟨"Carcasswright$Obstacle", "<init>", "()V"⟩ "Carcasswright" ∈ ce_NG := List.mem_of_getElem? (i := 10) rfl
theorem gn_11 : Cond.methodLinkNest "Carcasswright$Stock" 15 ⟨"Carcasswright$Board", "<init>", "()V"⟩ "Carcasswright" ∈ ce_NG := List.mem_of_getElem? (i := 11) rfl
theorem gn_12 : Cond.methodLinkNest "Carcasswright$Saw" 40 ⟨"Carcasswright$Board", "<init>", "()V"⟩ "Carcasswright" ∈ ce_NG := List.mem_of_getElem? (i := 12) rfl
theorem gn_13 : Cond.methodLinkNest "Carcasswright" 47 ⟨"Carcasswright$Packer", "<init>", "()V"⟩ "Carcasswright" ∈ ce_NG := List.mem_of_getElem? (i := 13) rfl
theorem gn_14 : Cond.methodLinkNest "Carcasswright" 54 ⟨"Carcasswright$Jobs", "<init>", "()V"⟩ "Carcasswright" ∈ ce_NG := List.mem_of_getElem? (i := 14) rfl
theorem gn_21 : Cond.fieldLinkNest "java/util/ArrayList$Itr" 28 "java/util/ArrayList" "size" "I" "java/util/ArrayList" ∈ ce_NG := List.mem_of_getElem? (i := 21) rfl
theorem gn_24 : Cond.methodLinkNest "CarcasswrightModel" 184 ⟨"CarcasswrightModel$Type", "<init>", "()V"⟩ "CarcasswrightModel" ∈ ce_NG := List.mem_of_getElem? (i := 24) rfl
