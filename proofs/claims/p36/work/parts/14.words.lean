-- codes and names of the methods that a run of one call reaches (rows of the claim's printed names), and the words that are used
abbrev cJ0_coder_7d493 : ByteArray := prog_42_method_152_code
def yJ0_coder_7d493 : MethodName := ⟨"java/lang/String", "coder", "()B"⟩
abbrev cJ0_isLatin1_aae02 : ByteArray := prog_42_method_154_code
def yJ0_isLatin1_aae02 : MethodName := ⟨"java/lang/String", "isLatin1", "()Z"⟩
abbrev cJ1_canEncode_9a6ad : ByteArray := prog_44_method_4_code
def yJ1_canEncode_9a6ad : MethodName := ⟨"java/lang/StringLatin1", "canEncode", "(I)Z"⟩
abbrev cJ1_indexOfChar_4cfef : ByteArray := prog_44_method_23_code
def yJ1_indexOfChar_4cfef : MethodName := ⟨"java/lang/StringLatin1", "indexOfChar", "([BIII)I"⟩
abbrev cJ3_checkIndex_8e157 : ByteArray := prog_64_method_11_code
def yJ3_checkIndex_8e157 : MethodName := ⟨"jdk/internal/util/Preconditions", "checkIndex", "(IILjava/util/function/BiFunction;)I"⟩
abbrev cJx35411_hasNext_aae02 : ByteArray := prog_54_method_2_code
abbrev cJx35411_init_45d68 : ByteArray := prog_54_method_1_code
def yJx35411_init_45d68 : MethodName := ⟨"java/util/ArrayList$Itr", "<init>", "(Ljava/util/ArrayList;)V"⟩
abbrev cJx4a65c_elementData_915e3 : ByteArray := prog_53_method_18_code
def yJx4a65c_elementData_915e3 : MethodName := ⟨"java/util/ArrayList", "elementData", "(I)Ljava/lang/Object;"⟩
abbrev cJx4a65c_grow_92f84 : ByteArray := prog_53_method_6_code
def yJx4a65c_grow_92f84 : MethodName := ⟨"java/util/ArrayList", "grow", "(I)[Ljava/lang/Object;"⟩
abbrev cJx4a65c_isEmpty_aae02 : ByteArray := prog_53_method_9_code
def yJx4a65c_isEmpty_aae02 : MethodName := ⟨"java/util/ArrayList", "isEmpty", "()Z"⟩
abbrev cJx4a65c_size_8abf5 : ByteArray := prog_53_method_8_code
def yJx4a65c_size_8abf5 : MethodName := ⟨"java/util/ArrayList", "size", "()I"⟩
abbrev cJxa1e45_init_da8c8 : ByteArray := prog_51_method_1_code
def yJxa1e45_init_da8c8 : MethodName := ⟨"java/util/AbstractCollection", "<init>", "()V"⟩
abbrev cX0_init : ByteArray := prog_2_method_1_code
def yX0_init : MethodName := ⟨"Carcasswright$Board", "<init>", "()V"⟩
abbrev cX10_init : ByteArray := prog_12_method_1_code
def yX10_init : MethodName := ⟨"Carcasswright$Wall", "<init>", "()V"⟩
abbrev cX11_isOutside : ByteArray := prog_1_method_53_code
def yX11_isOutside : MethodName := ⟨"Carcasswright", "isOutside", "(III)Z"⟩
abbrev cX1_init : ByteArray := prog_3_method_1_code
def yX1_init : MethodName := ⟨"Carcasswright$Jobs", "<init>", "()V"⟩
abbrev cX20_init : ByteArray := prog_23_method_1_code
def yX20_init : MethodName := ⟨"CarcasswrightModel$Wall", "<init>", "(CI)V"⟩
abbrev cX21_in : ByteArray := prog_14_method_1_code
def yX21_in : MethodName := ⟨"CarcasswrightModel", "in", "(III)Z"⟩
abbrev cX2_init : ByteArray := prog_4_method_1_code
def yX2_init : MethodName := ⟨"Carcasswright$ModuleType", "<init>", "()V"⟩
abbrev cX3_init : ByteArray := prog_5_method_1_code
def yX3_init : MethodName := ⟨"Carcasswright$Obstacle", "<init>", "()V"⟩
abbrev cX4_init : ByteArray := prog_6_method_1_code
def yX4_init : MethodName := ⟨"Carcasswright$Packer", "<init>", "()V"⟩
abbrev cX5_init : ByteArray := prog_7_method_1_code
def yX5_init : MethodName := ⟨"Carcasswright$PlacedModule", "<init>", "(LCarcasswright$ModuleType;)V"⟩
abbrev cX6_firstBehind : ByteArray := prog_8_method_22_code
def yX6_firstBehind : MethodName := ⟨"Carcasswright$Room", "firstBehind", "(IZI)LCarcasswright$PlacedModule;"⟩
abbrev cX6_wallAt : ByteArray := prog_8_method_2_code
def yX6_wallAt : MethodName := ⟨"Carcasswright$Room", "wallAt", "(I)LCarcasswright$Wall;"⟩
abbrev cX9_first : ByteArray := prog_11_method_2_code
def yX9_first : MethodName := ⟨"Carcasswright$Types", "first", "()LCarcasswright$ModuleType;"⟩
abbrev cJ0_length_8abf5 : ByteArray := prog_42_method_54_code
def yJ0_length_8abf5 : MethodName := ⟨"java/lang/String", "length", "()I"⟩
abbrev cJ15_checkIndex_7cf53 : ByteArray := prog_60_method_17_code
def yJ15_checkIndex_7cf53 : MethodName := ⟨"java/util/Objects", "checkIndex", "(II)I"⟩
abbrev cJ1_indexOf_4cfef : ByteArray := prog_44_method_22_code
def yJ1_indexOf_4cfef : MethodName := ⟨"java/lang/StringLatin1", "indexOf", "([BIII)I"⟩
abbrev cJx4a65c_grow_d5877 : ByteArray := prog_53_method_7_code
def yJx4a65c_grow_d5877 : MethodName := ⟨"java/util/ArrayList", "grow", "()[Ljava/lang/Object;"⟩
abbrev cJx4a65c_iterator_32c93 : ByteArray := prog_53_method_55_code
def yJx4a65c_iterator_32c93 : MethodName := ⟨"java/util/ArrayList", "iterator", "()Ljava/util/Iterator;"⟩
abbrev cJxc12de_init_da8c8 : ByteArray := prog_52_method_1_code
def yJxc12de_init_da8c8 : MethodName := ⟨"java/util/AbstractList", "<init>", "()V"⟩
abbrev cX21_noWall : ByteArray := prog_14_method_12_code
def yX21_noWall : MethodName := ⟨"CarcasswrightModel", "noWall", "(I)Z"⟩
abbrev cX6_build : ByteArray := prog_8_method_4_code
def yX6_build : MethodName := ⟨"Carcasswright$Room", "build", "(CI)I"⟩
abbrev cX6_freeRows : ByteArray := prog_8_method_21_code
def yX6_freeRows : MethodName := ⟨"Carcasswright$Room", "freeRows", "(IZZ)I"⟩
abbrev cX6_init : ByteArray := prog_8_method_1_code
def yX6_init : MethodName := ⟨"Carcasswright$Room", "<init>", "(LCarcasswright$ModuleType;)V"⟩
abbrev cX7_init : ByteArray := prog_9_method_1_code
def yX7_init : MethodName := ⟨"Carcasswright$Saw", "<init>", "(LCarcasswright$Stock;)V"⟩
abbrev cX8_init : ByteArray := prog_10_method_1_code
def yX8_init : MethodName := ⟨"Carcasswright$Stock", "<init>", "()V"⟩
abbrev cX9_init : ByteArray := prog_11_method_1_code
def yX9_init : MethodName := ⟨"Carcasswright$Types", "<init>", "()V"⟩
abbrev cJ0_indexOf_7cf53 : ByteArray := prog_42_method_80_code
def yJ0_indexOf_7cf53 : MethodName := ⟨"java/lang/String", "indexOf", "(II)I"⟩
abbrev cJx4a65c_add_72be8 : ByteArray := prog_53_method_24_code
def yJx4a65c_add_72be8 : MethodName := ⟨"java/util/ArrayList", "add", "(Ljava/lang/Object;[Ljava/lang/Object;I)V"⟩
abbrev cJx4a65c_get_915e3 : ByteArray := prog_53_method_20_code
def yJx4a65c_get_915e3 : MethodName := ⟨"java/util/ArrayList", "get", "(I)Ljava/lang/Object;"⟩
abbrev cJx4a65c_init_da8c8 : ByteArray := prog_53_method_2_code
def yJx4a65c_init_da8c8 : MethodName := ⟨"java/util/ArrayList", "<init>", "()V"⟩
abbrev cX11_addWall : ByteArray := prog_1_method_2_code
def yX11_addWall : MethodName := ⟨"Carcasswright", "addWall", "(CI)I"⟩
abbrev cX11_free : ByteArray := prog_1_method_20_code
def yX11_free : MethodName := ⟨"Carcasswright", "free", "(IZ)I"⟩
abbrev cX11_init : ByteArray := prog_1_method_1_code
def yX11_init : MethodName := ⟨"Carcasswright", "<init>", "()V"⟩
abbrev cJ0_indexOf_0f7a4 : ByteArray := prog_42_method_79_code
def yJ0_indexOf_0f7a4 : MethodName := ⟨"java/lang/String", "indexOf", "(I)I"⟩
abbrev cJx4a65c_add_9ea2d : ByteArray := prog_53_method_25_code
def yJx4a65c_add_9ea2d : MethodName := ⟨"java/util/ArrayList", "add", "(Ljava/lang/Object;)Z"⟩
abbrev cL_addWall : ByteArray := method_3_code
def yL_addWall : MethodName := ⟨"CarcasswrightLaw", "addWall", "(LCarcasswright;CI[J)I"⟩
abbrev cL_free : ByteArray := method_19_code
def yL_free : MethodName := ⟨"CarcasswrightLaw", "free", "(LCarcasswright;IZ[J)I"⟩
abbrev cX21_free : ByteArray := prog_14_method_38_code
def yX21_free : MethodName := ⟨"CarcasswrightModel", "free", "(IZZ)I"⟩
abbrev cX21_init : ByteArray := prog_14_method_3_code
def yX21_init : MethodName := ⟨"CarcasswrightModel", "<init>", "()V"⟩
abbrev cX21_addWall : ByteArray := prog_14_method_6_code
def yX21_addWall : MethodName := ⟨"CarcasswrightModel", "addWall", "(CI)I"⟩
abbrev cX21_free_ : ByteArray := prog_14_method_39_code
def yX21_free_ : MethodName := ⟨"CarcasswrightModel", "free", "(IZ)I"⟩
abbrev cL_law : ByteArray := code
def yL_law : MethodName := ⟨"CarcasswrightLaw", "law", "([I)Z"⟩
def dl_J0 : List ce_SV := [.inr (.inr (.inr .null)), .inl (.inl (0)), .inl (.inl (0)), .inl (.inl (0))]
theorem dv_J0 (z : ce_U) (ad : Nat → Nat) : ∀ j : Nat, j < 4 → defaultValue (tyJ0 j) = vp_V (dl_J0.map (ce_v z ad)) j
  | 0, _ => rfl
  | 1, _ => rfl
  | 2, _ => rfl
  | 3, _ => rfl
  | n + 4, h => absurd h (by omega)
def dl_J4 : List ce_SV := [.inr (.inr (.inr .null)), .inl (.inl (0)), .inl (.inl (0)), .inl (.inl (0))]
theorem dv_J4 (z : ce_U) (ad : Nat → Nat) : ∀ j : Nat, j < 4 → defaultValue (tyJ4 j) = vp_V (dl_J4.map (ce_v z ad)) j
  | 0, _ => rfl
  | 1, _ => rfl
  | 2, _ => rfl
  | 3, _ => rfl
  | n + 4, h => absurd h (by omega)
def dl_Jx35411 : List ce_SV := [.inl (.inl (0)), .inl (.inl (0)), .inl (.inl (0)), .inr (.inr (.inr .null))]
theorem dv_Jx35411 (z : ce_U) (ad : Nat → Nat) : ∀ j : Nat, j < 4 → defaultValue (tyJx35411 j) = vp_V (dl_Jx35411.map (ce_v z ad)) j
  | 0, _ => rfl
  | 1, _ => rfl
  | 2, _ => rfl
  | 3, _ => rfl
  | n + 4, h => absurd h (by omega)
def dl_Jx4a65c : List ce_SV := [.inl (.inl (0)), .inr (.inr (.inr .null)), .inl (.inl (0))]
theorem dv_Jx4a65c (z : ce_U) (ad : Nat → Nat) : ∀ j : Nat, j < 3 → defaultValue (tyJx4a65c j) = vp_V (dl_Jx4a65c.map (ce_v z ad)) j
  | 0, _ => rfl
  | 1, _ => rfl
  | 2, _ => rfl
  | n + 3, h => absurd h (by omega)
def dl_X0 : List ce_SV := [.inl (.inl (0)), .inl (.inl (0)), .inl (.inl (0)), .inl (.inl (0)), .inl (.inl (0)), .inl (.inl (0)), .inl (.inl (0))]
theorem dv_X0 (z : ce_U) (ad : Nat → Nat) : ∀ j : Nat, j < 7 → defaultValue (tyX0 j) = vp_V (dl_X0.map (ce_v z ad)) j
  | 0, _ => rfl
  | 1, _ => rfl
  | 2, _ => rfl
  | 3, _ => rfl
  | 4, _ => rfl
  | 5, _ => rfl
  | 6, _ => rfl
  | n + 7, h => absurd h (by omega)
def dl_X1 : List ce_SV := [.inr (.inr (.inr .null)), .inr (.inr (.inr .null)), .inr (.inr (.inr .null)), .inr (.inr (.inr .null)), .inr (.inr (.inr .null)), .inl (.inl (0)), .inl (.inl (0)), .inl (.inl (0))]
theorem dv_X1 (z : ce_U) (ad : Nat → Nat) : ∀ j : Nat, j < 8 → defaultValue (tyX1 j) = vp_V (dl_X1.map (ce_v z ad)) j
  | 0, _ => rfl
  | 1, _ => rfl
  | 2, _ => rfl
  | 3, _ => rfl
  | 4, _ => rfl
  | 5, _ => rfl
  | 6, _ => rfl
  | 7, _ => rfl
  | n + 8, h => absurd h (by omega)
def dl_X2 : List ce_SV := [.inl (.inl (0)), .inl (.inl (0)), .inl (.inl (0)), .inl (.inl (0)), .inl (.inl (0)), .inl (.inl (0)), .inl (.inl (0)), .inl (.inl (0)), .inl (.inl (0))]
theorem dv_X2 (z : ce_U) (ad : Nat → Nat) : ∀ j : Nat, j < 9 → defaultValue (tyX2 j) = vp_V (dl_X2.map (ce_v z ad)) j
  | 0, _ => rfl
  | 1, _ => rfl
  | 2, _ => rfl
  | 3, _ => rfl
  | 4, _ => rfl
  | 5, _ => rfl
  | 6, _ => rfl
  | 7, _ => rfl
  | 8, _ => rfl
  | n + 9, h => absurd h (by omega)
def dl_X3 : List ce_SV := [.inl (.inl (0)), .inl (.inl (0)), .inl (.inl (0)), .inl (.inl (0)), .inl (.inl (0))]
theorem dv_X3 (z : ce_U) (ad : Nat → Nat) : ∀ j : Nat, j < 5 → defaultValue (tyX3 j) = vp_V (dl_X3.map (ce_v z ad)) j
  | 0, _ => rfl
  | 1, _ => rfl
  | 2, _ => rfl
  | 3, _ => rfl
  | 4, _ => rfl
  | n + 5, h => absurd h (by omega)
def dl_X4 : List ce_SV := [.inr (.inr (.inr .null)), .inr (.inr (.inr .null)), .inr (.inr (.inr .null)), .inl (.inl (0))]
theorem dv_X4 (z : ce_U) (ad : Nat → Nat) : ∀ j : Nat, j < 4 → defaultValue (tyX4 j) = vp_V (dl_X4.map (ce_v z ad)) j
  | 0, _ => rfl
  | 1, _ => rfl
  | 2, _ => rfl
  | 3, _ => rfl
  | n + 4, h => absurd h (by omega)
def dl_X5 : List ce_SV := [.inr (.inr (.inr .null)), .inl (.inl (0)), .inl (.inl (0)), .inl (.inl (0)), .inl (.inl (0))]
theorem dv_X5 (z : ce_U) (ad : Nat → Nat) : ∀ j : Nat, j < 5 → defaultValue (tyX5 j) = vp_V (dl_X5.map (ce_v z ad)) j
  | 0, _ => rfl
  | 1, _ => rfl
  | 2, _ => rfl
  | 3, _ => rfl
  | 4, _ => rfl
  | n + 5, h => absurd h (by omega)
def dl_X6 : List ce_SV := [.inr (.inr (.inr .null)), .inr (.inr (.inr .null)), .inr (.inr (.inr .null)), .inr (.inr (.inr .null)), .inr (.inr (.inr .null)), .inr (.inr (.inr .null)), .inl (.inl (0)), .inl (.inl (0)), .inl (.inl (0)), .inl (.inl (0))]
theorem dv_X6 (z : ce_U) (ad : Nat → Nat) : ∀ j : Nat, j < 10 → defaultValue (tyX6 j) = vp_V (dl_X6.map (ce_v z ad)) j
  | 0, _ => rfl
  | 1, _ => rfl
  | 2, _ => rfl
  | 3, _ => rfl
  | 4, _ => rfl
  | 5, _ => rfl
  | 6, _ => rfl
  | 7, _ => rfl
  | 8, _ => rfl
  | 9, _ => rfl
  | n + 10, h => absurd h (by omega)
def dl_X7 : List ce_SV := [.inr (.inr (.inr .null)), .inr (.inr (.inr .null)), .inr (.inr (.inr .null)), .inl (.inl (0)), .inr (.inr (.inr .null)), .inl (.inl (0)), .inl (.inl (0)), .inr (.inr (.inr .null)), .inr (.inr (.inr .null)), .inr (.inr (.inr .null)), .inl (.inl (0)), .inr (.inr (.inr .null)), .inl (.inl (0))]
theorem dv_X7 (z : ce_U) (ad : Nat → Nat) : ∀ j : Nat, j < 13 → defaultValue (tyX7 j) = vp_V (dl_X7.map (ce_v z ad)) j
  | 0, _ => rfl
  | 1, _ => rfl
  | 2, _ => rfl
  | 3, _ => rfl
  | 4, _ => rfl
  | 5, _ => rfl
  | 6, _ => rfl
  | 7, _ => rfl
  | 8, _ => rfl
  | 9, _ => rfl
  | 10, _ => rfl
  | 11, _ => rfl
  | 12, _ => rfl
  | n + 13, h => absurd h (by omega)
def dl_X8 : List ce_SV := [.inr (.inr (.inr .null)), .inl (.inl (0)), .inr (.inl (.inl (0))), .inr (.inl (.inl (0))), .inr (.inl (.inl (0)))]
theorem dv_X8 (z : ce_U) (ad : Nat → Nat) : ∀ j : Nat, j < 5 → defaultValue (tyX8 j) = vp_V (dl_X8.map (ce_v z ad)) j
  | 0, _ => rfl
  | 1, _ => rfl
  | 2, _ => rfl
  | 3, _ => rfl
  | 4, _ => rfl
  | n + 5, h => absurd h (by omega)
def dl_X9 : List ce_SV := [.inr (.inr (.inr .null)), .inr (.inr (.inr .null)), .inr (.inr (.inr .null)), .inl (.inl (0)), .inl (.inl (0)), .inl (.inl (0)), .inl (.inl (0)), .inl (.inl (0)), .inl (.inl (0)), .inl (.inl (0))]
theorem dv_X9 (z : ce_U) (ad : Nat → Nat) : ∀ j : Nat, j < 10 → defaultValue (tyX9 j) = vp_V (dl_X9.map (ce_v z ad)) j
  | 0, _ => rfl
  | 1, _ => rfl
  | 2, _ => rfl
  | 3, _ => rfl
  | 4, _ => rfl
  | 5, _ => rfl
  | 6, _ => rfl
  | 7, _ => rfl
  | 8, _ => rfl
  | 9, _ => rfl
  | n + 10, h => absurd h (by omega)
def dl_X10 : List ce_SV := [.inl (.inl (0)), .inl (.inl (0)), .inl (.inl (0)), .inl (.inl (0)), .inl (.inl (0)), .inl (.inl (0))]
theorem dv_X10 (z : ce_U) (ad : Nat → Nat) : ∀ j : Nat, j < 6 → defaultValue (tyX10 j) = vp_V (dl_X10.map (ce_v z ad)) j
  | 0, _ => rfl
  | 1, _ => rfl
  | 2, _ => rfl
  | 3, _ => rfl
  | 4, _ => rfl
  | 5, _ => rfl
  | n + 6, h => absurd h (by omega)
def dl_X11 : List ce_SV := [.inr (.inr (.inr .null)), .inr (.inr (.inr .null)), .inr (.inr (.inr .null)), .inr (.inr (.inr .null)), .inr (.inr (.inr .null)), .inr (.inr (.inr .null)), .inr (.inr (.inr .null))]
theorem dv_X11 (z : ce_U) (ad : Nat → Nat) : ∀ j : Nat, j < 7 → defaultValue (tyX11 j) = vp_V (dl_X11.map (ce_v z ad)) j
  | 0, _ => rfl
  | 1, _ => rfl
  | 2, _ => rfl
  | 3, _ => rfl
  | 4, _ => rfl
  | 5, _ => rfl
  | 6, _ => rfl
  | n + 7, h => absurd h (by omega)
def dl_X12 : List ce_SV := [.inl (.inl (0)), .inl (.inl (0)), .inl (.inl (0)), .inl (.inl (0)), .inl (.inl (0)), .inr (.inr (.inr .null)), .inr (.inr (.inr .null))]
theorem dv_X12 (z : ce_U) (ad : Nat → Nat) : ∀ j : Nat, j < 7 → defaultValue (tyX12 j) = vp_V (dl_X12.map (ce_v z ad)) j
  | 0, _ => rfl
  | 1, _ => rfl
  | 2, _ => rfl
  | 3, _ => rfl
  | 4, _ => rfl
  | 5, _ => rfl
  | 6, _ => rfl
  | n + 7, h => absurd h (by omega)
def dl_X14 : List ce_SV := [.inl (.inl (0)), .inl (.inl (0)), .inl (.inl (0))]
theorem dv_X14 (z : ce_U) (ad : Nat → Nat) : ∀ j : Nat, j < 3 → defaultValue (tyX14 j) = vp_V (dl_X14.map (ce_v z ad)) j
  | 0, _ => rfl
  | 1, _ => rfl
  | 2, _ => rfl
  | n + 3, h => absurd h (by omega)
def dl_X19 : List ce_SV := [.inl (.inl (0)), .inl (.inl (0)), .inl (.inl (0)), .inl (.inl (0)), .inl (.inl (0))]
theorem dv_X19 (z : ce_U) (ad : Nat → Nat) : ∀ j : Nat, j < 5 → defaultValue (tyX19 j) = vp_V (dl_X19.map (ce_v z ad)) j
  | 0, _ => rfl
  | 1, _ => rfl
  | 2, _ => rfl
  | 3, _ => rfl
  | 4, _ => rfl
  | n + 5, h => absurd h (by omega)
def dl_X20 : List ce_SV := [.inl (.inl (0)), .inl (.inl (0)), .inl (.inl (0)), .inl (.inl (0)), .inl (.inl (0))]
theorem dv_X20 (z : ce_U) (ad : Nat → Nat) : ∀ j : Nat, j < 5 → defaultValue (tyX20 j) = vp_V (dl_X20.map (ce_v z ad)) j
  | 0, _ => rfl
  | 1, _ => rfl
  | 2, _ => rfl
  | 3, _ => rfl
  | 4, _ => rfl
  | n + 5, h => absurd h (by omega)
def dl_X21 : List ce_SV := [.inl (.inl (0)), .inr (.inr (.inr .null)), .inr (.inr (.inr .null)), .inr (.inr (.inr .null)), .inr (.inr (.inr .null)), .inr (.inr (.inr .null)), .inr (.inr (.inr .null)), .inr (.inr (.inr .null)), .inr (.inr (.inr .null)), .inl (.inl (0)), .inr (.inl (.inl (0))), .inr (.inl (.inl (0))), .inr (.inl (.inl (0))), .inr (.inr (.inr .null)), .inr (.inr (.inr .null)), .inr (.inr (.inr .null)), .inl (.inl (0)), .inl (.inl (0)), .inl (.inl (0)), .inr (.inr (.inr .null))]
theorem dv_X21 (z : ce_U) (ad : Nat → Nat) : ∀ j : Nat, j < 20 → defaultValue (tyX21 j) = vp_V (dl_X21.map (ce_v z ad)) j
  | 0, _ => rfl
  | 1, _ => rfl
  | 2, _ => rfl
  | 3, _ => rfl
  | 4, _ => rfl
  | 5, _ => rfl
  | 6, _ => rfl
  | 7, _ => rfl
  | 8, _ => rfl
  | 9, _ => rfl
  | 10, _ => rfl
  | 11, _ => rfl
  | 12, _ => rfl
  | 13, _ => rfl
  | 14, _ => rfl
  | 15, _ => rfl
  | 16, _ => rfl
  | 17, _ => rfl
  | 18, _ => rfl
  | 19, _ => rfl
  | n + 20, h => absurd h (by omega)
theorem gT_P : ∀ w ∈ k2_sels lw_privs, goodWord w = true → w ∈ ce_GW := fun w h g => ce_inF (List.mem_filter.mpr ⟨List.mem_append_left _ h, g⟩)
theorem gT_1 : ∀ w ∈ tables_1_1, goodWord w = true → w ∈ ce_GW := fun w h g => ce_inF (List.mem_filter.mpr ⟨List.mem_append_right _ (List.mem_append_left _ h), g⟩)
theorem gT_2 : ∀ w ∈ tables_1_2, goodWord w = true → w ∈ ce_GW := fun w h g => ce_inF (List.mem_filter.mpr ⟨List.mem_append_right _ (List.mem_append_right _ (List.mem_append_left _ h)), g⟩)
theorem gT_3 : ∀ w ∈ tables_1_3, goodWord w = true → w ∈ ce_GW := fun w h g => ce_inF (List.mem_filter.mpr ⟨List.mem_append_right _ (List.mem_append_right _ (List.mem_append_right _ (List.mem_append_left _ h))), g⟩)
theorem gT_4 : ∀ w ∈ tables_1_4, goodWord w = true → w ∈ ce_GW := fun w h g => ce_inF (List.mem_filter.mpr ⟨List.mem_append_right _ (List.mem_append_right _ (List.mem_append_right _ (List.mem_append_right _ (List.mem_append_left _ h)))), g⟩)
theorem gT_5 : ∀ w ∈ tables_1_5, goodWord w = true → w ∈ ce_GW := fun w h g => ce_inF (List.mem_filter.mpr ⟨List.mem_append_right _ (List.mem_append_right _ (List.mem_append_right _ (List.mem_append_right _ (List.mem_append_right _ (List.mem_append_left _ h))))), g⟩)
theorem gT_6 : ∀ w ∈ tables_1_6, goodWord w = true → w ∈ ce_GW := fun w h g => ce_inF (List.mem_filter.mpr ⟨List.mem_append_right _ (List.mem_append_right _ (List.mem_append_right _ (List.mem_append_right _ (List.mem_append_right _ (List.mem_append_right _ (List.mem_append_left _ h)))))), g⟩)
theorem gT_7 : ∀ w ∈ tables_1_7, goodWord w = true → w ∈ ce_GW := fun w h g => ce_inF (List.mem_filter.mpr ⟨List.mem_append_right _ (List.mem_append_right _ (List.mem_append_right _ (List.mem_append_right _ (List.mem_append_right _ (List.mem_append_right _ (List.mem_append_right _ (List.mem_append_left _ h))))))), g⟩)
theorem gT_8 : ∀ w ∈ tables_1_8, goodWord w = true → w ∈ ce_GW := fun w h g => ce_inF (List.mem_filter.mpr ⟨List.mem_append_right _ (List.mem_append_right _ (List.mem_append_right _ (List.mem_append_right _ (List.mem_append_right _ (List.mem_append_right _ (List.mem_append_right _ (List.mem_append_right _ (List.mem_append_left _ h)))))))), g⟩)
theorem gT_9 : ∀ w ∈ tables_1_9, goodWord w = true → w ∈ ce_GW := fun w h g => ce_inF (List.mem_filter.mpr ⟨List.mem_append_right _ (List.mem_append_right _ (List.mem_append_right _ (List.mem_append_right _ (List.mem_append_right _ (List.mem_append_right _ (List.mem_append_right _ (List.mem_append_right _ (List.mem_append_right _ (List.mem_append_left _ h))))))))), g⟩)
theorem gT_10 : ∀ w ∈ tables_1_10, goodWord w = true → w ∈ ce_GW := fun w h g => ce_inF (List.mem_filter.mpr ⟨List.mem_append_right _ (List.mem_append_right _ (List.mem_append_right _ (List.mem_append_right _ (List.mem_append_right _ (List.mem_append_right _ (List.mem_append_right _ (List.mem_append_right _ (List.mem_append_right _ (List.mem_append_right _ (List.mem_append_left _ h)))))))))), g⟩)
theorem gT_11 : ∀ w ∈ tables_1_11, goodWord w = true → w ∈ ce_GW := fun w h g => ce_inF (List.mem_filter.mpr ⟨List.mem_append_right _ (List.mem_append_right _ (List.mem_append_right _ (List.mem_append_right _ (List.mem_append_right _ (List.mem_append_right _ (List.mem_append_right _ (List.mem_append_right _ (List.mem_append_right _ (List.mem_append_right _ (List.mem_append_right _ (List.mem_append_left _ h))))))))))), g⟩)
theorem gT_12 : ∀ w ∈ tables_1_12, goodWord w = true → w ∈ ce_GW := fun w h g => ce_inF (List.mem_filter.mpr ⟨List.mem_append_right _ (List.mem_append_right _ (List.mem_append_right _ (List.mem_append_right _ (List.mem_append_right _ (List.mem_append_right _ (List.mem_append_right _ (List.mem_append_right _ (List.mem_append_right _ (List.mem_append_right _ (List.mem_append_right _ (List.mem_append_right _ (List.mem_append_left _ h)))))))))))), g⟩)
theorem gT_13 : ∀ w ∈ tables_1_13, goodWord w = true → w ∈ ce_GW := fun w h g => ce_inF (List.mem_filter.mpr ⟨List.mem_append_right _ (List.mem_append_right _ (List.mem_append_right _ (List.mem_append_right _ (List.mem_append_right _ (List.mem_append_right _ (List.mem_append_right _ (List.mem_append_right _ (List.mem_append_right _ (List.mem_append_right _ (List.mem_append_right _ (List.mem_append_right _ (List.mem_append_right _ (h))))))))))))), g⟩)
theorem gp_4 : Cond.selects "java/util/ArrayList" ⟨"java/util/ArrayList", "add", "(Ljava/lang/Object;[Ljava/lang/Object;I)V"⟩ ⟨"java/util/ArrayList", "add", "(Ljava/lang/Object;[Ljava/lang/Object;I)V"⟩ ∈ ce_GW := gT_P _ (List.mem_of_getElem? (i := 4) rfl) rfl
theorem gp_5 : Cond.selects "java/util/ArrayList" ⟨"java/util/ArrayList", "grow", "()[Ljava/lang/Object;"⟩ ⟨"java/util/ArrayList", "grow", "()[Ljava/lang/Object;"⟩ ∈ ce_GW := gT_P _ (List.mem_of_getElem? (i := 5) rfl) rfl
theorem gp_6 : Cond.selects "java/util/ArrayList" ⟨"java/util/ArrayList", "grow", "(I)[Ljava/lang/Object;"⟩ ⟨"java/util/ArrayList", "grow", "(I)[Ljava/lang/Object;"⟩ ∈ ce_GW := gT_P _ (List.mem_of_getElem? (i := 6) rfl) rfl
theorem gp_11 : Cond.selects "CarcasswrightModel" ⟨"CarcasswrightModel", "noWall", "(I)Z"⟩ ⟨"CarcasswrightModel", "noWall", "(I)Z"⟩ ∈ ce_GW := gT_P _ (List.mem_of_getElem? (i := 11) rfl) rfl
theorem gp_23 : Cond.selects "CarcasswrightModel" ⟨"CarcasswrightModel", "free", "(IZZ)I"⟩ ⟨"CarcasswrightModel", "free", "(IZZ)I"⟩ ∈ ce_GW := gT_P _ (List.mem_of_getElem? (i := 23) rfl) rfl
theorem gw_0 : Cond.initialized "CarcasswrightLaw" ∈ ce_GW := gT_1 _ (List.mem_of_getElem? (i := 0) rfl) rfl
theorem gw_1 : Cond.initialized "Carcasswright" ∈ ce_GW := gT_1 _ (List.mem_of_getElem? (i := 1) rfl) rfl
theorem gw_2 : Cond.initialized "Carcasswright$Types" ∈ ce_GW := gT_1 _ (List.mem_of_getElem? (i := 2) rfl) rfl
theorem gw_3 : Cond.initialized "Carcasswright$ModuleType" ∈ ce_GW := gT_1 _ (List.mem_of_getElem? (i := 3) rfl) rfl
theorem gw_4 : Cond.initialized "Carcasswright$Room" ∈ ce_GW := gT_1 _ (List.mem_of_getElem? (i := 4) rfl) rfl
theorem gw_5 : Cond.initialized "Carcasswright$Wall" ∈ ce_GW := gT_1 _ (List.mem_of_getElem? (i := 5) rfl) rfl
theorem gw_6 : Cond.initialized "Carcasswright$Obstacle" ∈ ce_GW := gT_1 _ (List.mem_of_getElem? (i := 6) rfl) rfl
theorem gw_7 : Cond.initialized "Carcasswright$PlacedModule" ∈ ce_GW := gT_1 _ (List.mem_of_getElem? (i := 7) rfl) rfl
theorem gw_8 : Cond.initialized "Carcasswright$Stock" ∈ ce_GW := gT_1 _ (List.mem_of_getElem? (i := 8) rfl) rfl
theorem gw_9 : Cond.initialized "Carcasswright$Board" ∈ ce_GW := gT_1 _ (List.mem_of_getElem? (i := 9) rfl) rfl
theorem gw_10 : Cond.initialized "Carcasswright$Saw" ∈ ce_GW := gT_1 _ (List.mem_of_getElem? (i := 10) rfl) rfl
theorem gw_11 : Cond.initialized "Carcasswright$Packer" ∈ ce_GW := gT_1 _ (List.mem_of_getElem? (i := 11) rfl) rfl
theorem gw_12 : Cond.initialized "Carcasswright$Jobs" ∈ ce_GW := gT_1 _ (List.mem_of_getElem? (i := 12) rfl) rfl
theorem gw_13 : Cond.initialized "CarcasswrightModel" ∈ ce_GW := gT_1 _ (List.mem_of_getElem? (i := 13) rfl) rfl
theorem gw_14 : Cond.initialized "java/util/AbstractCollection" ∈ ce_GW := gT_1 _ (List.mem_of_getElem? (i := 14) rfl) rfl
theorem gw_15 : Cond.initialized "java/util/AbstractList" ∈ ce_GW := gT_1 _ (List.mem_of_getElem? (i := 15) rfl) rfl
theorem gw_16 : Cond.initialized "java/util/ArrayList" ∈ ce_GW := gT_1 _ (List.mem_of_getElem? (i := 16) rfl) rfl
theorem gw_23 : Cond.initialized "java/lang/String" ∈ ce_GW := gT_1 _ (List.mem_of_getElem? (i := 23) rfl) rfl
theorem gw_24 : Cond.initialized "java/lang/StringLatin1" ∈ ce_GW := gT_1 _ (List.mem_of_getElem? (i := 24) rfl) rfl
theorem gw_25 : Cond.initialized "java/lang/Math" ∈ ce_GW := gT_1 _ (List.mem_of_getElem? (i := 25) rfl) rfl
theorem gw_27 : Cond.initialized "jdk/internal/util/Preconditions" ∈ ce_GW := gT_1 _ (List.mem_of_getElem? (i := 27) rfl) rfl
theorem gw_29 : Cond.initialized "CarcasswrightModel$Wall" ∈ ce_GW := gT_1 _ (List.mem_of_getElem? (i := 29) rfl) rfl
theorem gw_34 : Cond.initialized "java/util/ArrayList$Itr" ∈ ce_GW := gT_1 _ (List.mem_of_getElem? (i := 34) rfl) rfl
theorem gw_36 : Cond.initialized "java/util/Objects" ∈ ce_GW := gT_1 _ (List.mem_of_getElem? (i := 36) rfl) rfl
theorem gw_51 : Cond.classLink "CarcasswrightLaw" 8 "Carcasswright" ∈ ce_GW := gT_1 _ (List.mem_of_getElem? (i := 51) rfl) rfl
theorem gw_52 : Cond.instantiable "Carcasswright" 7 ∈ ce_GW := gT_1 _ (List.mem_of_getElem? (i := 52) rfl) rfl
theorem gw_53 : Cond.methodLink "CarcasswrightLaw" 170 ⟨"Carcasswright", "<init>", "()V"⟩ ∈ ce_GW := gT_1 _ (List.mem_of_getElem? (i := 53) rfl) rfl
theorem gw_54 : Cond.instanceMethod ⟨"Carcasswright", "<init>", "()V"⟩ ∈ ce_GW := gT_1 _ (List.mem_of_getElem? (i := 54) rfl) rfl
theorem gw_55 : Cond.code ⟨"Carcasswright", "<init>", "()V"⟩ prog_1_method_1_code 1 Option.none ∈ ce_GW := gT_1 _ (List.mem_of_getElem? (i := 55) rfl) rfl
theorem gw_56 : Cond.methodLink "Carcasswright" 1 ⟨"java/lang/Object", "<init>", "()V"⟩ ∈ ce_GW := gT_1 _ (List.mem_of_getElem? (i := 56) rfl) rfl
theorem gw_57 : Cond.instanceMethod ⟨"java/lang/Object", "<init>", "()V"⟩ ∈ ce_GW := gT_1 _ (List.mem_of_getElem? (i := 57) rfl) rfl
theorem gw_58 : Cond.code ⟨"java/lang/Object", "<init>", "()V"⟩ object_method_1_code 1 Option.none ∈ ce_GW := gT_1 _ (List.mem_of_getElem? (i := 58) rfl) rfl
theorem gw_59 : Cond.classLink "Carcasswright" 7 "Carcasswright$Types" ∈ ce_GW := gT_1 _ (List.mem_of_getElem? (i := 59) rfl) rfl
theorem gw_60 : Cond.instantiable "Carcasswright$Types" 10 ∈ ce_GW := gT_1 _ (List.mem_of_getElem? (i := 60) rfl) rfl
theorem gw_61 : Cond.methodLink "Carcasswright" 9 ⟨"Carcasswright$Types", "<init>", "()V"⟩ ∈ ce_GW := gT_1 _ (List.mem_of_getElem? (i := 61) rfl) rfl
theorem gw_62 : Cond.instanceMethod ⟨"Carcasswright$Types", "<init>", "()V"⟩ ∈ ce_GW := gT_1 _ (List.mem_of_getElem? (i := 62) rfl) rfl
theorem gw_63 : Cond.code ⟨"Carcasswright$Types", "<init>", "()V"⟩ prog_11_method_1_code 2 Option.none ∈ ce_GW := gT_1 _ (List.mem_of_getElem? (i := 63) rfl) rfl
theorem gw_64 : Cond.methodLink "Carcasswright$Types" 1 ⟨"java/lang/Object", "<init>", "()V"⟩ ∈ ce_GW := gT_1 _ (List.mem_of_getElem? (i := 64) rfl) rfl
theorem gw_65 : Cond.classLink "Carcasswright$Types" 13 "Carcasswright$ModuleType" ∈ ce_GW := gT_1 _ (List.mem_of_getElem? (i := 65) rfl) rfl
theorem gw_67 : Cond.instantiable "Carcasswright$ModuleType" 9 ∈ ce_GW := gT_1 _ (List.mem_of_getElem? (i := 67) rfl) rfl
theorem gw_69 : Cond.instanceMethod ⟨"Carcasswright$ModuleType", "<init>", "()V"⟩ ∈ ce_GW := gT_1 _ (List.mem_of_getElem? (i := 69) rfl) rfl
theorem gw_70 : Cond.code ⟨"Carcasswright$ModuleType", "<init>", "()V"⟩ prog_4_method_1_code 1 Option.none ∈ ce_GW := gT_1 _ (List.mem_of_getElem? (i := 70) rfl) rfl
theorem gw_71 : Cond.methodLink "Carcasswright$ModuleType" 1 ⟨"java/lang/Object", "<init>", "()V"⟩ ∈ ce_GW := gT_1 _ (List.mem_of_getElem? (i := 71) rfl) rfl
theorem gw_72 : Cond.fieldLink "Carcasswright$ModuleType" 7 "Carcasswright$ModuleType" "body" "C" ∈ ce_GW := gT_1 _ (List.mem_of_getElem? (i := 72) rfl) rfl
theorem gw_113 : Cond.arrayClass Jvm.ClassFile.FieldType.char ∈ ce_GW := gT_1 _ (List.mem_of_getElem? (i := 113) rfl) rfl
theorem gw_114 : Cond.fieldLink "Carcasswright$Types" 9 "Carcasswright$Types" "signs" "[C" ∈ ce_GW := gT_1 _ (List.mem_of_getElem? (i := 114) rfl) rfl
theorem gw_115 : Cond.fieldLink "Carcasswright$Types" 15 "Carcasswright$Types" "types" "[LCarcasswright$ModuleType;" ∈ ce_GW := gT_1 _ (List.mem_of_getElem? (i := 115) rfl) rfl
theorem gw_116 : Cond.fieldLink "Carcasswright$Types" 20 "Carcasswright$Types" "draft" "LCarcasswright$ModuleType;" ∈ ce_GW := gT_1 _ (List.mem_of_getElem? (i := 116) rfl) rfl
theorem gw_149 : Cond.classLink "Carcasswright" 16 "Carcasswright$Room" ∈ ce_GW := gT_1 _ (List.mem_of_getElem? (i := 149) rfl) rfl
theorem gw_150 : Cond.instantiable "Carcasswright$Room" 10 ∈ ce_GW := gT_1 _ (List.mem_of_getElem? (i := 150) rfl) rfl
theorem gw_151 : Cond.methodLink "Carcasswright" 18 ⟨"Carcasswright$Types", "first", "()LCarcasswright$ModuleType;"⟩ ∈ ce_GW := gT_1 _ (List.mem_of_getElem? (i := 151) rfl) rfl
theorem gw_152 : Cond.instanceMethod ⟨"Carcasswright$Types", "first", "()LCarcasswright$ModuleType;"⟩ ∈ ce_GW := gT_1 _ (List.mem_of_getElem? (i := 152) rfl) rfl
theorem gw_153 : Cond.selects "Carcasswright$Types" ⟨"Carcasswright$Types", "first", "()LCarcasswright$ModuleType;"⟩ ⟨"Carcasswright$Types", "first", "()LCarcasswright$ModuleType;"⟩ ∈ ce_GW := gT_1 _ (List.mem_of_getElem? (i := 153) rfl) rfl
theorem gw_154 : Cond.code ⟨"Carcasswright$Types", "first", "()LCarcasswright$ModuleType;"⟩ prog_11_method_2_code 1 (Option.some (Jvm.ClassFile.FieldType.object "Carcasswright$ModuleType")) ∈ ce_GW := gT_1 _ (List.mem_of_getElem? (i := 154) rfl) rfl
theorem gw_155 : Cond.methodLink "Carcasswright" 22 ⟨"Carcasswright$Room", "<init>", "(LCarcasswright$ModuleType;)V"⟩ ∈ ce_GW := gT_1 _ (List.mem_of_getElem? (i := 155) rfl) rfl
theorem gw_156 : Cond.instanceMethod ⟨"Carcasswright$Room", "<init>", "(LCarcasswright$ModuleType;)V"⟩ ∈ ce_GW := gT_1 _ (List.mem_of_getElem? (i := 156) rfl) rfl
theorem gw_157 : Cond.code ⟨"Carcasswright$Room", "<init>", "(LCarcasswright$ModuleType;)V"⟩ prog_8_method_1_code 3 Option.none ∈ ce_GW := gT_1 _ (List.mem_of_getElem? (i := 157) rfl) rfl
theorem gw_158 : Cond.methodLink "Carcasswright$Room" 1 ⟨"java/lang/Object", "<init>", "()V"⟩ ∈ ce_GW := gT_1 _ (List.mem_of_getElem? (i := 158) rfl) rfl
theorem gw_159 : Cond.classLink "Carcasswright$Room" 9 "Carcasswright$Wall" ∈ ce_GW := gT_1 _ (List.mem_of_getElem? (i := 159) rfl) rfl
theorem gw_161 : Cond.classLink "Carcasswright$Room" 15 "Carcasswright$Obstacle" ∈ ce_GW := gT_1 _ (List.mem_of_getElem? (i := 161) rfl) rfl
theorem gw_163 : Cond.classLink "Carcasswright$Room" 21 "Carcasswright$PlacedModule" ∈ ce_GW := gT_1 _ (List.mem_of_getElem? (i := 163) rfl) rfl
theorem gw_165 : Cond.instantiable "Carcasswright$Wall" 6 ∈ ce_GW := gT_1 _ (List.mem_of_getElem? (i := 165) rfl) rfl
theorem gw_167 : Cond.instanceMethod ⟨"Carcasswright$Wall", "<init>", "()V"⟩ ∈ ce_GW := gT_1 _ (List.mem_of_getElem? (i := 167) rfl) rfl
theorem gw_168 : Cond.code ⟨"Carcasswright$Wall", "<init>", "()V"⟩ prog_12_method_1_code 1 Option.none ∈ ce_GW := gT_1 _ (List.mem_of_getElem? (i := 168) rfl) rfl
theorem gw_169 : Cond.methodLink "Carcasswright$Wall" 1 ⟨"java/lang/Object", "<init>", "()V"⟩ ∈ ce_GW := gT_1 _ (List.mem_of_getElem? (i := 169) rfl) rfl
theorem gw_170 : Cond.fieldLink "Carcasswright$Wall" 7 "Carcasswright$Wall" "way" "C" ∈ ce_GW := gT_1 _ (List.mem_of_getElem? (i := 170) rfl) rfl
theorem gw_171 : Cond.fieldLink "Carcasswright$Room" 58 "Carcasswright$Wall" "way" "C" ∈ ce_GW := gT_1 _ (List.mem_of_getElem? (i := 171) rfl) rfl
theorem gw_172 : Cond.fieldLink "Carcasswright$Room" 62 "Carcasswright$Wall" "measured" "I" ∈ ce_GW := gT_1 _ (List.mem_of_getElem? (i := 172) rfl) rfl
theorem gw_174 : Cond.fieldLink "Carcasswright$Room" 65 "Carcasswright$Wall" "length" "I" ∈ ce_GW := gT_1 _ (List.mem_of_getElem? (i := 174) rfl) rfl
theorem gw_193 : Cond.arrayClass Jvm.ClassFile.FieldType.int ∈ ce_GW := gT_1 _ (List.mem_of_getElem? (i := 193) rfl) rfl
theorem gw_194 : Cond.instantiable "Carcasswright$Obstacle" 5 ∈ ce_GW := gT_1 _ (List.mem_of_getElem? (i := 194) rfl) rfl
theorem gw_196 : Cond.instanceMethod ⟨"Carcasswright$Obstacle", "<init>", "()V"⟩ ∈ ce_GW := gT_1 _ (List.mem_of_getElem? (i := 196) rfl) rfl
theorem gw_197 : Cond.code ⟨"Carcasswright$Obstacle", "<init>", "()V"⟩ prog_5_method_1_code 1 Option.none ∈ ce_GW := gT_1 _ (List.mem_of_getElem? (i := 197) rfl) rfl
theorem gw_198 : Cond.methodLink "Carcasswright$Obstacle" 1 ⟨"java/lang/Object", "<init>", "()V"⟩ ∈ ce_GW := gT_1 _ (List.mem_of_getElem? (i := 198) rfl) rfl
theorem gw_215 : Cond.instantiable "Carcasswright$PlacedModule" 5 ∈ ce_GW := gT_1 _ (List.mem_of_getElem? (i := 215) rfl) rfl
theorem gw_216 : Cond.methodLink "Carcasswright$Room" 37 ⟨"Carcasswright$PlacedModule", "<init>", "(LCarcasswright$ModuleType;)V"⟩ ∈ ce_GW := gT_1 _ (List.mem_of_getElem? (i := 216) rfl) rfl
theorem gw_217 : Cond.instanceMethod ⟨"Carcasswright$PlacedModule", "<init>", "(LCarcasswright$ModuleType;)V"⟩ ∈ ce_GW := gT_1 _ (List.mem_of_getElem? (i := 217) rfl) rfl
theorem gw_218 : Cond.code ⟨"Carcasswright$PlacedModule", "<init>", "(LCarcasswright$ModuleType;)V"⟩ prog_7_method_1_code 2 Option.none ∈ ce_GW := gT_1 _ (List.mem_of_getElem? (i := 218) rfl) rfl
theorem gw_219 : Cond.methodLink "Carcasswright$PlacedModule" 1 ⟨"java/lang/Object", "<init>", "()V"⟩ ∈ ce_GW := gT_1 _ (List.mem_of_getElem? (i := 219) rfl) rfl
theorem gw_220 : Cond.fieldLink "Carcasswright$PlacedModule" 7 "Carcasswright$PlacedModule" "type" "LCarcasswright$ModuleType;" ∈ ce_GW := gT_1 _ (List.mem_of_getElem? (i := 220) rfl) rfl
theorem gw_247 : Cond.fieldLink "Carcasswright$Room" 11 "Carcasswright$Room" "walls" "[LCarcasswright$Wall;" ∈ ce_GW := gT_2 _ (List.mem_of_getElem? (i := 7) rfl) rfl
theorem gw_248 : Cond.fieldLink "Carcasswright$Room" 17 "Carcasswright$Room" "obstacles" "[LCarcasswright$Obstacle;" ∈ ce_GW := gT_2 _ (List.mem_of_getElem? (i := 8) rfl) rfl
theorem gw_249 : Cond.fieldLink "Carcasswright$Room" 23 "Carcasswright$Room" "modules" "[LCarcasswright$PlacedModule;" ∈ ce_GW := gT_2 _ (List.mem_of_getElem? (i := 9) rfl) rfl
theorem gw_250 : Cond.fieldLink "Carcasswright$Room" 40 "Carcasswright$Room" "trial" "LCarcasswright$PlacedModule;" ∈ ce_GW := gT_2 _ (List.mem_of_getElem? (i := 10) rfl) rfl
theorem gw_251 : Cond.fieldLink "Carcasswright$Room" 27 "Carcasswright$Room" "causes" "[C" ∈ ce_GW := gT_2 _ (List.mem_of_getElem? (i := 11) rfl) rfl
theorem gw_253 : Cond.fieldLink "Carcasswright$Room" 31 "Carcasswright$Room" "causeNumbers" "[I" ∈ ce_GW := gT_2 _ (List.mem_of_getElem? (i := 13) rfl) rfl
theorem gw_255 : Cond.fieldLink "Carcasswright$Room" 44 "Carcasswright$Room" "wallCount" "I" ∈ ce_GW := gT_2 _ (List.mem_of_getElem? (i := 15) rfl) rfl
theorem gw_256 : Cond.fieldLink "Carcasswright" 70 "Carcasswright$Room" "wallCount" "I" ∈ ce_GW := gT_2 _ (List.mem_of_getElem? (i := 16) rfl) rfl
theorem gw_259 : Cond.fieldLink "Carcasswright" 74 "Carcasswright$Room" "moduleCount" "I" ∈ ce_GW := gT_2 _ (List.mem_of_getElem? (i := 19) rfl) rfl
theorem gw_260 : Cond.fieldLink "Carcasswright$Room" 51 "Carcasswright$Room" "moduleCount" "I" ∈ ce_GW := gT_2 _ (List.mem_of_getElem? (i := 20) rfl) rfl
theorem gw_284 : Cond.classLink "Carcasswright" 29 "Carcasswright$Stock" ∈ ce_GW := gT_2 _ (List.mem_of_getElem? (i := 44) rfl) rfl
theorem gw_285 : Cond.instantiable "Carcasswright$Stock" 5 ∈ ce_GW := gT_2 _ (List.mem_of_getElem? (i := 45) rfl) rfl
theorem gw_286 : Cond.methodLink "Carcasswright" 31 ⟨"Carcasswright$Stock", "<init>", "()V"⟩ ∈ ce_GW := gT_2 _ (List.mem_of_getElem? (i := 46) rfl) rfl
theorem gw_287 : Cond.instanceMethod ⟨"Carcasswright$Stock", "<init>", "()V"⟩ ∈ ce_GW := gT_2 _ (List.mem_of_getElem? (i := 47) rfl) rfl
theorem gw_288 : Cond.code ⟨"Carcasswright$Stock", "<init>", "()V"⟩ prog_10_method_1_code 2 Option.none ∈ ce_GW := gT_2 _ (List.mem_of_getElem? (i := 48) rfl) rfl
theorem gw_289 : Cond.methodLink "Carcasswright$Stock" 1 ⟨"java/lang/Object", "<init>", "()V"⟩ ∈ ce_GW := gT_2 _ (List.mem_of_getElem? (i := 49) rfl) rfl
theorem gw_290 : Cond.classLink "Carcasswright$Stock" 9 "Carcasswright$Board" ∈ ce_GW := gT_2 _ (List.mem_of_getElem? (i := 50) rfl) rfl
theorem gw_292 : Cond.instantiable "Carcasswright$Board" 7 ∈ ce_GW := gT_2 _ (List.mem_of_getElem? (i := 52) rfl) rfl
theorem gw_294 : Cond.instanceMethod ⟨"Carcasswright$Board", "<init>", "()V"⟩ ∈ ce_GW := gT_2 _ (List.mem_of_getElem? (i := 54) rfl) rfl
theorem gw_295 : Cond.code ⟨"Carcasswright$Board", "<init>", "()V"⟩ prog_2_method_1_code 1 Option.none ∈ ce_GW := gT_2 _ (List.mem_of_getElem? (i := 55) rfl) rfl
theorem gw_296 : Cond.methodLink "Carcasswright$Board" 3 ⟨"java/lang/Object", "<init>", "()V"⟩ ∈ ce_GW := gT_2 _ (List.mem_of_getElem? (i := 56) rfl) rfl
theorem gw_332 : Cond.fieldLink "Carcasswright$Stock" 11 "Carcasswright$Stock" "boards" "[LCarcasswright$Board;" ∈ ce_GW := gT_2 _ (List.mem_of_getElem? (i := 92) rfl) rfl
theorem gw_350 : Cond.classLink "Carcasswright" 36 "Carcasswright$Saw" ∈ ce_GW := gT_2 _ (List.mem_of_getElem? (i := 110) rfl) rfl
theorem gw_351 : Cond.instantiable "Carcasswright$Saw" 13 ∈ ce_GW := gT_2 _ (List.mem_of_getElem? (i := 111) rfl) rfl
theorem gw_352 : Cond.methodLink "Carcasswright" 38 ⟨"Carcasswright$Saw", "<init>", "(LCarcasswright$Stock;)V"⟩ ∈ ce_GW := gT_2 _ (List.mem_of_getElem? (i := 112) rfl) rfl
theorem gw_353 : Cond.instanceMethod ⟨"Carcasswright$Saw", "<init>", "(LCarcasswright$Stock;)V"⟩ ∈ ce_GW := gT_2 _ (List.mem_of_getElem? (i := 113) rfl) rfl
theorem gw_354 : Cond.code ⟨"Carcasswright$Saw", "<init>", "(LCarcasswright$Stock;)V"⟩ prog_9_method_1_code 3 Option.none ∈ ce_GW := gT_2 _ (List.mem_of_getElem? (i := 114) rfl) rfl
theorem gw_355 : Cond.methodLink "Carcasswright$Saw" 3 ⟨"java/lang/Object", "<init>", "()V"⟩ ∈ ce_GW := gT_2 _ (List.mem_of_getElem? (i := 115) rfl) rfl
theorem gw_356 : Cond.classLink "Carcasswright$Saw" 30 "Carcasswright$Board" ∈ ce_GW := gT_2 _ (List.mem_of_getElem? (i := 116) rfl) rfl
theorem gw_358 : Cond.fieldLink "Carcasswright$Saw" 36 "Carcasswright$Saw" "stock" "LCarcasswright$Stock;" ∈ ce_GW := gT_2 _ (List.mem_of_getElem? (i := 118) rfl) rfl
theorem gw_359 : Cond.fieldLink "Carcasswright$Saw" 9 "Carcasswright$Saw" "lengths" "[I" ∈ ce_GW := gT_2 _ (List.mem_of_getElem? (i := 119) rfl) rfl
theorem gw_360 : Cond.fieldLink "Carcasswright$Saw" 15 "Carcasswright$Saw" "widths" "[I" ∈ ce_GW := gT_2 _ (List.mem_of_getElem? (i := 120) rfl) rfl
theorem gw_362 : Cond.fieldLink "Carcasswright$Saw" 18 "Carcasswright$Saw" "opened" "[I" ∈ ce_GW := gT_2 _ (List.mem_of_getElem? (i := 122) rfl) rfl
theorem gw_366 : Cond.fieldLink "Carcasswright$Saw" 21 "Carcasswright$Saw" "stripBoards" "[I" ∈ ce_GW := gT_2 _ (List.mem_of_getElem? (i := 126) rfl) rfl
theorem gw_367 : Cond.fieldLink "Carcasswright$Saw" 24 "Carcasswright$Saw" "stripWidths" "[I" ∈ ce_GW := gT_2 _ (List.mem_of_getElem? (i := 127) rfl) rfl
theorem gw_368 : Cond.fieldLink "Carcasswright$Saw" 27 "Carcasswright$Saw" "stripEnds" "[I" ∈ ce_GW := gT_2 _ (List.mem_of_getElem? (i := 128) rfl) rfl
theorem gw_370 : Cond.fieldLink "Carcasswright$Saw" 32 "Carcasswright$Saw" "left" "[LCarcasswright$Board;" ∈ ce_GW := gT_2 _ (List.mem_of_getElem? (i := 130) rfl) rfl
theorem gw_399 : Cond.classLink "Carcasswright" 45 "Carcasswright$Packer" ∈ ce_GW := gT_2 _ (List.mem_of_getElem? (i := 159) rfl) rfl
theorem gw_400 : Cond.instantiable "Carcasswright$Packer" 4 ∈ ce_GW := gT_2 _ (List.mem_of_getElem? (i := 160) rfl) rfl
theorem gw_402 : Cond.instanceMethod ⟨"Carcasswright$Packer", "<init>", "()V"⟩ ∈ ce_GW := gT_2 _ (List.mem_of_getElem? (i := 162) rfl) rfl
theorem gw_403 : Cond.code ⟨"Carcasswright$Packer", "<init>", "()V"⟩ prog_6_method_1_code 1 Option.none ∈ ce_GW := gT_2 _ (List.mem_of_getElem? (i := 163) rfl) rfl
theorem gw_404 : Cond.methodLink "Carcasswright$Packer" 3 ⟨"java/lang/Object", "<init>", "()V"⟩ ∈ ce_GW := gT_2 _ (List.mem_of_getElem? (i := 164) rfl) rfl
theorem gw_405 : Cond.fieldLink "Carcasswright$Packer" 9 "Carcasswright$Packer" "weights" "[I" ∈ ce_GW := gT_2 _ (List.mem_of_getElem? (i := 165) rfl) rfl
theorem gw_406 : Cond.fieldLink "Carcasswright$Packer" 15 "Carcasswright$Packer" "packs" "[I" ∈ ce_GW := gT_2 _ (List.mem_of_getElem? (i := 166) rfl) rfl
theorem gw_407 : Cond.fieldLink "Carcasswright$Packer" 18 "Carcasswright$Packer" "loads" "[I" ∈ ce_GW := gT_2 _ (List.mem_of_getElem? (i := 167) rfl) rfl
theorem gw_419 : Cond.classLink "Carcasswright" 52 "Carcasswright$Jobs" ∈ ce_GW := gT_2 _ (List.mem_of_getElem? (i := 179) rfl) rfl
theorem gw_420 : Cond.instantiable "Carcasswright$Jobs" 8 ∈ ce_GW := gT_2 _ (List.mem_of_getElem? (i := 180) rfl) rfl
theorem gw_422 : Cond.instanceMethod ⟨"Carcasswright$Jobs", "<init>", "()V"⟩ ∈ ce_GW := gT_2 _ (List.mem_of_getElem? (i := 182) rfl) rfl
theorem gw_423 : Cond.code ⟨"Carcasswright$Jobs", "<init>", "()V"⟩ prog_3_method_1_code 1 Option.none ∈ ce_GW := gT_2 _ (List.mem_of_getElem? (i := 183) rfl) rfl
theorem gw_424 : Cond.methodLink "Carcasswright$Jobs" 1 ⟨"java/lang/Object", "<init>", "()V"⟩ ∈ ce_GW := gT_2 _ (List.mem_of_getElem? (i := 184) rfl) rfl
theorem gw_425 : Cond.fieldLink "Carcasswright$Jobs" 9 "Carcasswright$Jobs" "colours" "[I" ∈ ce_GW := gT_2 _ (List.mem_of_getElem? (i := 185) rfl) rfl
theorem gw_426 : Cond.fieldLink "Carcasswright$Jobs" 13 "Carcasswright$Jobs" "hours" "[I" ∈ ce_GW := gT_2 _ (List.mem_of_getElem? (i := 186) rfl) rfl
theorem gw_427 : Cond.fieldLink "Carcasswright$Jobs" 16 "Carcasswright$Jobs" "dues" "[I" ∈ ce_GW := gT_2 _ (List.mem_of_getElem? (i := 187) rfl) rfl
theorem gw_428 : Cond.fieldLink "Carcasswright$Jobs" 19 "Carcasswright$Jobs" "order" "[I" ∈ ce_GW := gT_2 _ (List.mem_of_getElem? (i := 188) rfl) rfl
theorem gw_429 : Cond.fieldLink "Carcasswright$Jobs" 22 "Carcasswright$Jobs" "best" "[I" ∈ ce_GW := gT_2 _ (List.mem_of_getElem? (i := 189) rfl) rfl
theorem gw_433 : Cond.fieldLink "Carcasswright$Jobs" 25 "Carcasswright$Jobs" "setup" "I" ∈ ce_GW := gT_2 _ (List.mem_of_getElem? (i := 193) rfl) rfl
theorem gw_454 : Cond.fieldLink "Carcasswright" 10 "Carcasswright" "types" "LCarcasswright$Types;" ∈ ce_GW := gT_2 _ (List.mem_of_getElem? (i := 214) rfl) rfl
theorem gw_455 : Cond.fieldLink "Carcasswright" 25 "Carcasswright" "room" "LCarcasswright$Room;" ∈ ce_GW := gT_2 _ (List.mem_of_getElem? (i := 215) rfl) rfl
theorem gw_456 : Cond.fieldLink "Carcasswright" 32 "Carcasswright" "stock" "LCarcasswright$Stock;" ∈ ce_GW := gT_2 _ (List.mem_of_getElem? (i := 216) rfl) rfl
theorem gw_457 : Cond.fieldLink "Carcasswright" 41 "Carcasswright" "saw" "LCarcasswright$Saw;" ∈ ce_GW := gT_2 _ (List.mem_of_getElem? (i := 217) rfl) rfl
theorem gw_458 : Cond.fieldLink "Carcasswright" 48 "Carcasswright" "packer" "LCarcasswright$Packer;" ∈ ce_GW := gT_2 _ (List.mem_of_getElem? (i := 218) rfl) rfl
theorem gw_459 : Cond.fieldLink "Carcasswright" 55 "Carcasswright" "jobs" "LCarcasswright$Jobs;" ∈ ce_GW := gT_2 _ (List.mem_of_getElem? (i := 219) rfl) rfl
theorem gw_460 : Cond.fieldLink "Carcasswright" 59 "Carcasswright" "rates" "[I" ∈ ce_GW := gT_2 _ (List.mem_of_getElem? (i := 220) rfl) rfl
theorem gw_484 : Cond.methodLink "Carcasswright$Room" 54 ⟨"Carcasswright$Room", "wallAt", "(I)LCarcasswright$Wall;"⟩ ∈ ce_GW := gT_3 _ (List.mem_of_getElem? (i := 4) rfl) rfl
theorem gw_485 : Cond.instanceMethod ⟨"Carcasswright$Room", "wallAt", "(I)LCarcasswright$Wall;"⟩ ∈ ce_GW := gT_3 _ (List.mem_of_getElem? (i := 5) rfl) rfl
theorem gw_486 : Cond.selects "Carcasswright$Room" ⟨"Carcasswright$Room", "wallAt", "(I)LCarcasswright$Wall;"⟩ ⟨"Carcasswright$Room", "wallAt", "(I)LCarcasswright$Wall;"⟩ ∈ ce_GW := gT_3 _ (List.mem_of_getElem? (i := 6) rfl) rfl
theorem gw_487 : Cond.code ⟨"Carcasswright$Room", "wallAt", "(I)LCarcasswright$Wall;"⟩ prog_8_method_2_code 2 (Option.some (Jvm.ClassFile.FieldType.object "Carcasswright$Wall")) ∈ ce_GW := gT_3 _ (List.mem_of_getElem? (i := 7) rfl) rfl
theorem gw_593 : Cond.static ⟨"java/lang/Math", "max", "(II)I"⟩ ∈ ce_GW := gT_3 _ (List.mem_of_getElem? (i := 113) rfl) rfl
theorem gw_594 : Cond.code ⟨"java/lang/Math", "max", "(II)I"⟩ prog_39_method_65_code 2 (Option.some Jvm.ClassFile.FieldType.int) ∈ ce_GW := gT_3 _ (List.mem_of_getElem? (i := 114) rfl) rfl
theorem gw_604 : Cond.static ⟨"java/lang/Math", "min", "(II)I"⟩ ∈ ce_GW := gT_3 _ (List.mem_of_getElem? (i := 124) rfl) rfl
theorem gw_605 : Cond.code ⟨"java/lang/Math", "min", "(II)I"⟩ prog_39_method_69_code 2 (Option.some Jvm.ClassFile.FieldType.int) ∈ ce_GW := gT_3 _ (List.mem_of_getElem? (i := 125) rfl) rfl
theorem gw_713 : Cond.methodLink "CarcasswrightLaw" 174 ⟨"CarcasswrightLaw", "addWall", "(LCarcasswright;CI[J)I"⟩ ∈ ce_GW := gT_3 _ (List.mem_of_getElem? (i := 233) rfl) rfl
theorem gw_714 : Cond.static ⟨"CarcasswrightLaw", "addWall", "(LCarcasswright;CI[J)I"⟩ ∈ ce_GW := gT_3 _ (List.mem_of_getElem? (i := 234) rfl) rfl
theorem gw_715 : Cond.codeWith ⟨"CarcasswrightLaw", "addWall", "(LCarcasswright;CI[J)I"⟩ method_3_code 5 (Option.some Jvm.ClassFile.FieldType.int) [(0, 10, 13, 13), (0, 10, 17, 15)] ∈ ce_GW := gT_3 _ (List.mem_of_getElem? (i := 235) rfl) rfl
theorem gw_716 : Cond.classLink "CarcasswrightLaw" 13 "java/lang/IllegalArgumentException" ∈ ce_GW := gT_3 _ (List.mem_of_getElem? (i := 236) rfl) rfl
theorem gw_718 : Cond.methodLink "CarcasswrightLaw" 7 ⟨"Carcasswright", "addWall", "(CI)I"⟩ ∈ ce_GW := gT_3 _ (List.mem_of_getElem? (i := 238) rfl) rfl
theorem gw_719 : Cond.instanceMethod ⟨"Carcasswright", "addWall", "(CI)I"⟩ ∈ ce_GW := gT_3 _ (List.mem_of_getElem? (i := 239) rfl) rfl
theorem gw_720 : Cond.selects "Carcasswright" ⟨"Carcasswright", "addWall", "(CI)I"⟩ ⟨"Carcasswright", "addWall", "(CI)I"⟩ ∈ ce_GW := gT_4 _ (List.mem_of_getElem? (i := 0) rfl) rfl
theorem gw_721 : Cond.code ⟨"Carcasswright", "addWall", "(CI)I"⟩ prog_1_method_2_code 4 (Option.some Jvm.ClassFile.FieldType.int) ∈ ce_GW := gT_4 _ (List.mem_of_getElem? (i := 1) rfl) rfl
theorem gw_722 : Cond.methodLink "Carcasswright" 63 ⟨"Carcasswright", "isOutside", "(III)Z"⟩ ∈ ce_GW := gT_4 _ (List.mem_of_getElem? (i := 2) rfl) rfl
theorem gw_723 : Cond.static ⟨"Carcasswright", "isOutside", "(III)Z"⟩ ∈ ce_GW := gT_4 _ (List.mem_of_getElem? (i := 3) rfl) rfl
theorem gw_724 : Cond.code ⟨"Carcasswright", "isOutside", "(III)Z"⟩ prog_1_method_53_code 3 (Option.some Jvm.ClassFile.FieldType.boolean) ∈ ce_GW := gT_4 _ (List.mem_of_getElem? (i := 4) rfl) rfl
theorem gw_755 : Cond.methodLink "Carcasswright" 80 ⟨"Carcasswright$Room", "build", "(CI)I"⟩ ∈ ce_GW := gT_4 _ (List.mem_of_getElem? (i := 35) rfl) rfl
theorem gw_756 : Cond.instanceMethod ⟨"Carcasswright$Room", "build", "(CI)I"⟩ ∈ ce_GW := gT_4 _ (List.mem_of_getElem? (i := 36) rfl) rfl
theorem gw_757 : Cond.selects "Carcasswright$Room" ⟨"Carcasswright$Room", "build", "(CI)I"⟩ ⟨"Carcasswright$Room", "build", "(CI)I"⟩ ∈ ce_GW := gT_4 _ (List.mem_of_getElem? (i := 37) rfl) rfl
theorem gw_758 : Cond.code ⟨"Carcasswright$Room", "build", "(CI)I"⟩ prog_8_method_4_code 5 (Option.some Jvm.ClassFile.FieldType.int) ∈ ce_GW := gT_4 _ (List.mem_of_getElem? (i := 38) rfl) rfl
theorem gw_797 : Cond.methodLink "Carcasswright$Room" 81 ⟨"java/lang/Math", "max", "(II)I"⟩ ∈ ce_GW := gT_4 _ (List.mem_of_getElem? (i := 77) rfl) rfl
theorem gw_810 : Cond.classLink "CarcasswrightLaw" 27 "java/lang/IndexOutOfBoundsException" ∈ ce_GW := gT_4 _ (List.mem_of_getElem? (i := 90) rfl) rfl
theorem gw_1046 : Cond.methodLink "CarcasswrightLaw" 242 ⟨"CarcasswrightLaw", "free", "(LCarcasswright;IZ[J)I"⟩ ∈ ce_GW := gT_5 _ (List.mem_of_getElem? (i := 86) rfl) rfl
theorem gw_1047 : Cond.static ⟨"CarcasswrightLaw", "free", "(LCarcasswright;IZ[J)I"⟩ ∈ ce_GW := gT_5 _ (List.mem_of_getElem? (i := 87) rfl) rfl
theorem gw_1048 : Cond.codeWith ⟨"CarcasswrightLaw", "free", "(LCarcasswright;IZ[J)I"⟩ method_19_code 5 (Option.some Jvm.ClassFile.FieldType.int) [(0, 10, 13, 27)] ∈ ce_GW := gT_5 _ (List.mem_of_getElem? (i := 88) rfl) rfl
theorem gw_1049 : Cond.methodLink "CarcasswrightLaw" 78 ⟨"Carcasswright", "free", "(IZ)I"⟩ ∈ ce_GW := gT_5 _ (List.mem_of_getElem? (i := 89) rfl) rfl
theorem gw_1050 : Cond.instanceMethod ⟨"Carcasswright", "free", "(IZ)I"⟩ ∈ ce_GW := gT_5 _ (List.mem_of_getElem? (i := 90) rfl) rfl
theorem gw_1051 : Cond.selects "Carcasswright" ⟨"Carcasswright", "free", "(IZ)I"⟩ ⟨"Carcasswright", "free", "(IZ)I"⟩ ∈ ce_GW := gT_5 _ (List.mem_of_getElem? (i := 91) rfl) rfl
theorem gw_1052 : Cond.code ⟨"Carcasswright", "free", "(IZ)I"⟩ prog_1_method_20_code 3 (Option.some Jvm.ClassFile.FieldType.int) ∈ ce_GW := gT_5 _ (List.mem_of_getElem? (i := 92) rfl) rfl
theorem gw_1053 : Cond.methodLink "Carcasswright" 245 ⟨"Carcasswright$Room", "freeRows", "(IZZ)I"⟩ ∈ ce_GW := gT_5 _ (List.mem_of_getElem? (i := 93) rfl) rfl
theorem gw_1054 : Cond.instanceMethod ⟨"Carcasswright$Room", "freeRows", "(IZZ)I"⟩ ∈ ce_GW := gT_5 _ (List.mem_of_getElem? (i := 94) rfl) rfl
theorem gw_1055 : Cond.selects "Carcasswright$Room" ⟨"Carcasswright$Room", "freeRows", "(IZZ)I"⟩ ⟨"Carcasswright$Room", "freeRows", "(IZZ)I"⟩ ∈ ce_GW := gT_5 _ (List.mem_of_getElem? (i := 95) rfl) rfl
theorem gw_1056 : Cond.code ⟨"Carcasswright$Room", "freeRows", "(IZZ)I"⟩ prog_8_method_21_code 11 (Option.some Jvm.ClassFile.FieldType.int) ∈ ce_GW := gT_5 _ (List.mem_of_getElem? (i := 96) rfl) rfl
theorem gw_1057 : Cond.methodLink "Carcasswright$Room" 188 ⟨"Carcasswright$Room", "firstBehind", "(IZI)LCarcasswright$PlacedModule;"⟩ ∈ ce_GW := gT_5 _ (List.mem_of_getElem? (i := 97) rfl) rfl
theorem gw_1058 : Cond.instanceMethod ⟨"Carcasswright$Room", "firstBehind", "(IZI)LCarcasswright$PlacedModule;"⟩ ∈ ce_GW := gT_5 _ (List.mem_of_getElem? (i := 98) rfl) rfl
theorem gw_1059 : Cond.selects "Carcasswright$Room" ⟨"Carcasswright$Room", "firstBehind", "(IZI)LCarcasswright$PlacedModule;"⟩ ⟨"Carcasswright$Room", "firstBehind", "(IZI)LCarcasswright$PlacedModule;"⟩ ∈ ce_GW := gT_5 _ (List.mem_of_getElem? (i := 99) rfl) rfl
theorem gw_1060 : Cond.code ⟨"Carcasswright$Room", "firstBehind", "(IZI)LCarcasswright$PlacedModule;"⟩ prog_8_method_22_code 9 (Option.some (Jvm.ClassFile.FieldType.object "Carcasswright$PlacedModule")) ∈ ce_GW := gT_5 _ (List.mem_of_getElem? (i := 100) rfl) rfl
theorem gw_1485 : Cond.classLink "CarcasswrightLaw" 171 "CarcasswrightModel" ∈ ce_GW := gT_7 _ (List.mem_of_getElem? (i := 45) rfl) rfl
theorem gw_1486 : Cond.instantiable "CarcasswrightModel" 20 ∈ ce_GW := gT_7 _ (List.mem_of_getElem? (i := 46) rfl) rfl
theorem gw_1487 : Cond.methodLink "CarcasswrightLaw" 173 ⟨"CarcasswrightModel", "<init>", "()V"⟩ ∈ ce_GW := gT_7 _ (List.mem_of_getElem? (i := 47) rfl) rfl
theorem gw_1488 : Cond.instanceMethod ⟨"CarcasswrightModel", "<init>", "()V"⟩ ∈ ce_GW := gT_7 _ (List.mem_of_getElem? (i := 48) rfl) rfl
theorem gw_1489 : Cond.code ⟨"CarcasswrightModel", "<init>", "()V"⟩ prog_14_method_3_code 1 Option.none ∈ ce_GW := gT_7 _ (List.mem_of_getElem? (i := 49) rfl) rfl
theorem gw_1490 : Cond.methodLink "CarcasswrightModel" 1 ⟨"java/lang/Object", "<init>", "()V"⟩ ∈ ce_GW := gT_7 _ (List.mem_of_getElem? (i := 50) rfl) rfl
theorem gw_1491 : Cond.classLink "CarcasswrightModel" 7 "java/util/ArrayList" ∈ ce_GW := gT_7 _ (List.mem_of_getElem? (i := 51) rfl) rfl
theorem gw_1492 : Cond.instantiable "java/util/ArrayList" 3 ∈ ce_GW := gT_7 _ (List.mem_of_getElem? (i := 52) rfl) rfl
theorem gw_1493 : Cond.methodLink "CarcasswrightModel" 9 ⟨"java/util/ArrayList", "<init>", "()V"⟩ ∈ ce_GW := gT_7 _ (List.mem_of_getElem? (i := 53) rfl) rfl
theorem gw_1494 : Cond.instanceMethod ⟨"java/util/ArrayList", "<init>", "()V"⟩ ∈ ce_GW := gT_7 _ (List.mem_of_getElem? (i := 54) rfl) rfl
theorem gw_1495 : Cond.code ⟨"java/util/ArrayList", "<init>", "()V"⟩ prog_53_method_2_code 1 Option.none ∈ ce_GW := gT_7 _ (List.mem_of_getElem? (i := 55) rfl) rfl
theorem gw_1496 : Cond.methodLink "java/util/ArrayList" 1 ⟨"java/util/AbstractList", "<init>", "()V"⟩ ∈ ce_GW := gT_7 _ (List.mem_of_getElem? (i := 56) rfl) rfl
theorem gw_1497 : Cond.instanceMethod ⟨"java/util/AbstractList", "<init>", "()V"⟩ ∈ ce_GW := gT_7 _ (List.mem_of_getElem? (i := 57) rfl) rfl
theorem gw_1498 : Cond.code ⟨"java/util/AbstractList", "<init>", "()V"⟩ prog_52_method_1_code 1 Option.none ∈ ce_GW := gT_7 _ (List.mem_of_getElem? (i := 58) rfl) rfl
theorem gw_1499 : Cond.methodLink "java/util/AbstractList" 1 ⟨"java/util/AbstractCollection", "<init>", "()V"⟩ ∈ ce_GW := gT_7 _ (List.mem_of_getElem? (i := 59) rfl) rfl
theorem gw_1500 : Cond.instanceMethod ⟨"java/util/AbstractCollection", "<init>", "()V"⟩ ∈ ce_GW := gT_7 _ (List.mem_of_getElem? (i := 60) rfl) rfl
theorem gw_1501 : Cond.code ⟨"java/util/AbstractCollection", "<init>", "()V"⟩ prog_51_method_1_code 1 Option.none ∈ ce_GW := gT_7 _ (List.mem_of_getElem? (i := 61) rfl) rfl
theorem gw_1502 : Cond.methodLink "java/util/AbstractCollection" 1 ⟨"java/lang/Object", "<init>", "()V"⟩ ∈ ce_GW := gT_7 _ (List.mem_of_getElem? (i := 62) rfl) rfl
theorem gw_1503 : Cond.fieldLink "java/util/ArrayList" 39 "java/util/ArrayList" "DEFAULTCAPACITY_EMPTY_ELEMENTDATA" "[Ljava/lang/Object;" ∈ ce_GW := gT_7 _ (List.mem_of_getElem? (i := 63) rfl) rfl
theorem gw_1505 : Cond.fieldLink "java/util/ArrayList" 9 "java/util/ArrayList" "elementData" "[Ljava/lang/Object;" ∈ ce_GW := gT_7 _ (List.mem_of_getElem? (i := 65) rfl) rfl
theorem gw_1508 : Cond.fieldLink "java/util/ArrayList" 48 "java/util/ArrayList" "size" "I" ∈ ce_GW := gT_7 _ (List.mem_of_getElem? (i := 68) rfl) rfl
theorem gw_1509 : Cond.fieldLink "java/util/AbstractList" 7 "java/util/AbstractList" "modCount" "I" ∈ ce_GW := gT_7 _ (List.mem_of_getElem? (i := 69) rfl) rfl
theorem gw_1510 : Cond.fieldLink "java/util/ArrayList$Itr" 17 "java/util/ArrayList" "modCount" "I" ∈ ce_GW := gT_7 _ (List.mem_of_getElem? (i := 70) rfl) rfl
theorem gw_1511 : Cond.sameField "java/util/ArrayList" "java/util/AbstractList" "modCount" "I" ∈ ce_GW := gT_7 _ (List.mem_of_getElem? (i := 71) rfl) rfl
theorem gw_1512 : Cond.fieldLink "java/util/ArrayList" 63 "java/util/ArrayList" "modCount" "I" ∈ ce_GW := gT_7 _ (List.mem_of_getElem? (i := 72) rfl) rfl
theorem gw_1521 : Cond.fieldLink "CarcasswrightModel" 54 "CarcasswrightModel" "thrown" "I" ∈ ce_GW := gT_7 _ (List.mem_of_getElem? (i := 81) rfl) rfl
theorem gw_1522 : Cond.fieldLink "CarcasswrightModel" 10 "CarcasswrightModel" "walls" "Ljava/util/ArrayList;" ∈ ce_GW := gT_7 _ (List.mem_of_getElem? (i := 82) rfl) rfl
theorem gw_1523 : Cond.fieldLink "CarcasswrightModel" 16 "CarcasswrightModel" "obstacles" "Ljava/util/ArrayList;" ∈ ce_GW := gT_7 _ (List.mem_of_getElem? (i := 83) rfl) rfl
theorem gw_1524 : Cond.fieldLink "CarcasswrightModel" 21 "CarcasswrightModel" "text" "Ljava/lang/String;" ∈ ce_GW := gT_7 _ (List.mem_of_getElem? (i := 84) rfl) rfl
theorem gw_1525 : Cond.fieldLink "CarcasswrightModel" 25 "CarcasswrightModel" "types" "Ljava/util/ArrayList;" ∈ ce_GW := gT_7 _ (List.mem_of_getElem? (i := 85) rfl) rfl
theorem gw_1526 : Cond.fieldLink "CarcasswrightModel" 28 "CarcasswrightModel" "modules" "Ljava/util/ArrayList;" ∈ ce_GW := gT_7 _ (List.mem_of_getElem? (i := 86) rfl) rfl
theorem gw_1527 : Cond.fieldLink "CarcasswrightModel" 31 "CarcasswrightModel" "stock" "Ljava/util/ArrayList;" ∈ ce_GW := gT_7 _ (List.mem_of_getElem? (i := 87) rfl) rfl
theorem gw_1528 : Cond.fieldLink "CarcasswrightModel" 34 "CarcasswrightModel" "jobs" "Ljava/util/ArrayList;" ∈ ce_GW := gT_7 _ (List.mem_of_getElem? (i := 88) rfl) rfl
theorem gw_1529 : Cond.fieldLink "CarcasswrightModel" 37 "CarcasswrightModel" "rates" "[I" ∈ ce_GW := gT_7 _ (List.mem_of_getElem? (i := 89) rfl) rfl
theorem gw_1530 : Cond.fieldLink "CarcasswrightModel" 41 "CarcasswrightModel" "setup" "I" ∈ ce_GW := gT_7 _ (List.mem_of_getElem? (i := 90) rfl) rfl
theorem gw_1534 : Cond.fieldLink "CarcasswrightModel" 45 "CarcasswrightModel" "clashes" "Ljava/lang/String;" ∈ ce_GW := gT_7 _ (List.mem_of_getElem? (i := 94) rfl) rfl
theorem gw_1535 : Cond.fieldLink "CarcasswrightModel" 48 "CarcasswrightModel" "clashNumbers" "[I" ∈ ce_GW := gT_7 _ (List.mem_of_getElem? (i := 95) rfl) rfl
theorem gw_1540 : Cond.fieldLink "CarcasswrightModel" 51 "CarcasswrightModel" "order" "[I" ∈ ce_GW := gT_7 _ (List.mem_of_getElem? (i := 100) rfl) rfl
theorem gw_1587 : Cond.methodLink "CarcasswrightLaw" 179 ⟨"CarcasswrightModel", "addWall", "(CI)I"⟩ ∈ ce_GW := gT_7 _ (List.mem_of_getElem? (i := 147) rfl) rfl
theorem gw_1588 : Cond.instanceMethod ⟨"CarcasswrightModel", "addWall", "(CI)I"⟩ ∈ ce_GW := gT_7 _ (List.mem_of_getElem? (i := 148) rfl) rfl
theorem gw_1589 : Cond.selects "CarcasswrightModel" ⟨"CarcasswrightModel", "addWall", "(CI)I"⟩ ⟨"CarcasswrightModel", "addWall", "(CI)I"⟩ ∈ ce_GW := gT_7 _ (List.mem_of_getElem? (i := 149) rfl) rfl
theorem gw_1590 : Cond.code ⟨"CarcasswrightModel", "addWall", "(CI)I"⟩ prog_14_method_6_code 3 (Option.some Jvm.ClassFile.FieldType.int) ∈ ce_GW := gT_7 _ (List.mem_of_getElem? (i := 150) rfl) rfl
theorem gw_1592 : Cond.methodLink "CarcasswrightModel" 59 ⟨"java/lang/String", "indexOf", "(I)I"⟩ ∈ ce_GW := gT_7 _ (List.mem_of_getElem? (i := 152) rfl) rfl
theorem gw_1593 : Cond.instanceMethod ⟨"java/lang/String", "indexOf", "(I)I"⟩ ∈ ce_GW := gT_7 _ (List.mem_of_getElem? (i := 153) rfl) rfl
theorem gw_1594 : Cond.selects "java/lang/String" ⟨"java/lang/String", "indexOf", "(I)I"⟩ ⟨"java/lang/String", "indexOf", "(I)I"⟩ ∈ ce_GW := gT_7 _ (List.mem_of_getElem? (i := 154) rfl) rfl
theorem gw_1595 : Cond.code ⟨"java/lang/String", "indexOf", "(I)I"⟩ prog_42_method_79_code 2 (Option.some Jvm.ClassFile.FieldType.int) ∈ ce_GW := gT_7 _ (List.mem_of_getElem? (i := 155) rfl) rfl
theorem gw_1596 : Cond.methodLink "java/lang/String" 633 ⟨"java/lang/String", "indexOf", "(II)I"⟩ ∈ ce_GW := gT_7 _ (List.mem_of_getElem? (i := 156) rfl) rfl
theorem gw_1597 : Cond.instanceMethod ⟨"java/lang/String", "indexOf", "(II)I"⟩ ∈ ce_GW := gT_7 _ (List.mem_of_getElem? (i := 157) rfl) rfl
theorem gw_1598 : Cond.selects "java/lang/String" ⟨"java/lang/String", "indexOf", "(II)I"⟩ ⟨"java/lang/String", "indexOf", "(II)I"⟩ ∈ ce_GW := gT_7 _ (List.mem_of_getElem? (i := 158) rfl) rfl
theorem gw_1599 : Cond.code ⟨"java/lang/String", "indexOf", "(II)I"⟩ prog_42_method_80_code 3 (Option.some Jvm.ClassFile.FieldType.int) ∈ ce_GW := gT_7 _ (List.mem_of_getElem? (i := 159) rfl) rfl
theorem gw_1600 : Cond.methodLink "java/lang/String" 492 ⟨"java/lang/String", "isLatin1", "()Z"⟩ ∈ ce_GW := gT_7 _ (List.mem_of_getElem? (i := 160) rfl) rfl
theorem gw_1601 : Cond.instanceMethod ⟨"java/lang/String", "isLatin1", "()Z"⟩ ∈ ce_GW := gT_7 _ (List.mem_of_getElem? (i := 161) rfl) rfl
theorem gw_1602 : Cond.selects "java/lang/String" ⟨"java/lang/String", "isLatin1", "()Z"⟩ ⟨"java/lang/String", "isLatin1", "()Z"⟩ ∈ ce_GW := gT_7 _ (List.mem_of_getElem? (i := 162) rfl) rfl
theorem gw_1603 : Cond.code ⟨"java/lang/String", "isLatin1", "()Z"⟩ prog_42_method_154_code 1 (Option.some Jvm.ClassFile.FieldType.boolean) ∈ ce_GW := gT_7 _ (List.mem_of_getElem? (i := 163) rfl) rfl
theorem gw_1604 : Cond.fieldLink "java/lang/String" 38 "java/lang/String" "COMPACT_STRINGS" "Z" ∈ ce_GW := gT_7 _ (List.mem_of_getElem? (i := 164) rfl) rfl
theorem gw_1606 : Cond.methodLink "java/lang/String" 505 ⟨"java/lang/String", "length", "()I"⟩ ∈ ce_GW := gT_7 _ (List.mem_of_getElem? (i := 166) rfl) rfl
theorem gw_1607 : Cond.instanceMethod ⟨"java/lang/String", "length", "()I"⟩ ∈ ce_GW := gT_7 _ (List.mem_of_getElem? (i := 167) rfl) rfl
theorem gw_1608 : Cond.selects "java/lang/String" ⟨"java/lang/String", "length", "()I"⟩ ⟨"java/lang/String", "length", "()I"⟩ ∈ ce_GW := gT_7 _ (List.mem_of_getElem? (i := 168) rfl) rfl
theorem gw_1609 : Cond.code ⟨"java/lang/String", "length", "()I"⟩ prog_42_method_54_code 1 (Option.some Jvm.ClassFile.FieldType.int) ∈ ce_GW := gT_7 _ (List.mem_of_getElem? (i := 169) rfl) rfl
theorem gw_1610 : Cond.methodLink "java/lang/String" 335 ⟨"java/lang/String", "coder", "()B"⟩ ∈ ce_GW := gT_7 _ (List.mem_of_getElem? (i := 170) rfl) rfl
theorem gw_1611 : Cond.instanceMethod ⟨"java/lang/String", "coder", "()B"⟩ ∈ ce_GW := gT_7 _ (List.mem_of_getElem? (i := 171) rfl) rfl
theorem gw_1612 : Cond.selects "java/lang/String" ⟨"java/lang/String", "coder", "()B"⟩ ⟨"java/lang/String", "coder", "()B"⟩ ∈ ce_GW := gT_7 _ (List.mem_of_getElem? (i := 172) rfl) rfl
theorem gw_1613 : Cond.code ⟨"java/lang/String", "coder", "()B"⟩ prog_42_method_152_code 1 (Option.some Jvm.ClassFile.FieldType.byte) ∈ ce_GW := gT_7 _ (List.mem_of_getElem? (i := 173) rfl) rfl
theorem gw_1614 : Cond.methodLink "java/lang/String" 637 ⟨"java/lang/StringLatin1", "indexOf", "([BIII)I"⟩ ∈ ce_GW := gT_7 _ (List.mem_of_getElem? (i := 174) rfl) rfl
theorem gw_1615 : Cond.static ⟨"java/lang/StringLatin1", "indexOf", "([BIII)I"⟩ ∈ ce_GW := gT_7 _ (List.mem_of_getElem? (i := 175) rfl) rfl
theorem gw_1616 : Cond.code ⟨"java/lang/StringLatin1", "indexOf", "([BIII)I"⟩ prog_44_method_22_code 4 (Option.some Jvm.ClassFile.FieldType.int) ∈ ce_GW := gT_7 _ (List.mem_of_getElem? (i := 176) rfl) rfl
theorem gw_1617 : Cond.methodLink "java/lang/StringLatin1" 88 ⟨"java/lang/StringLatin1", "canEncode", "(I)Z"⟩ ∈ ce_GW := gT_7 _ (List.mem_of_getElem? (i := 177) rfl) rfl
theorem gw_1618 : Cond.static ⟨"java/lang/StringLatin1", "canEncode", "(I)Z"⟩ ∈ ce_GW := gT_7 _ (List.mem_of_getElem? (i := 178) rfl) rfl
theorem gw_1619 : Cond.code ⟨"java/lang/StringLatin1", "canEncode", "(I)Z"⟩ prog_44_method_4_code 1 (Option.some Jvm.ClassFile.FieldType.boolean) ∈ ce_GW := gT_7 _ (List.mem_of_getElem? (i := 179) rfl) rfl
theorem gw_1620 : Cond.methodLink "java/lang/StringLatin1" 92 ⟨"java/lang/Math", "max", "(II)I"⟩ ∈ ce_GW := gT_7 _ (List.mem_of_getElem? (i := 180) rfl) rfl
theorem gw_1621 : Cond.methodLink "java/lang/StringLatin1" 38 ⟨"java/lang/Math", "min", "(II)I"⟩ ∈ ce_GW := gT_7 _ (List.mem_of_getElem? (i := 181) rfl) rfl
theorem gw_1622 : Cond.methodLink "java/lang/StringLatin1" 95 ⟨"java/lang/StringLatin1", "indexOfChar", "([BIII)I"⟩ ∈ ce_GW := gT_7 _ (List.mem_of_getElem? (i := 182) rfl) rfl
theorem gw_1623 : Cond.static ⟨"java/lang/StringLatin1", "indexOfChar", "([BIII)I"⟩ ∈ ce_GW := gT_7 _ (List.mem_of_getElem? (i := 183) rfl) rfl
theorem gw_1624 : Cond.code ⟨"java/lang/StringLatin1", "indexOfChar", "([BIII)I"⟩ prog_44_method_23_code 6 (Option.some Jvm.ClassFile.FieldType.int) ∈ ce_GW := gT_7 _ (List.mem_of_getElem? (i := 184) rfl) rfl
theorem gw_1674 : Cond.methodLink "CarcasswrightModel" 65 ⟨"CarcasswrightModel", "in", "(III)Z"⟩ ∈ ce_GW := gT_7 _ (List.mem_of_getElem? (i := 234) rfl) rfl
theorem gw_1675 : Cond.static ⟨"CarcasswrightModel", "in", "(III)Z"⟩ ∈ ce_GW := gT_7 _ (List.mem_of_getElem? (i := 235) rfl) rfl
theorem gw_1676 : Cond.code ⟨"CarcasswrightModel", "in", "(III)Z"⟩ prog_14_method_1_code 3 (Option.some Jvm.ClassFile.FieldType.boolean) ∈ ce_GW := gT_7 _ (List.mem_of_getElem? (i := 236) rfl) rfl
theorem gw_1677 : Cond.methodLink "CarcasswrightModel" 69 ⟨"java/util/ArrayList", "size", "()I"⟩ ∈ ce_GW := gT_7 _ (List.mem_of_getElem? (i := 237) rfl) rfl
theorem gw_1678 : Cond.instanceMethod ⟨"java/util/ArrayList", "size", "()I"⟩ ∈ ce_GW := gT_7 _ (List.mem_of_getElem? (i := 238) rfl) rfl
theorem gw_1679 : Cond.selects "java/util/ArrayList" ⟨"java/util/ArrayList", "size", "()I"⟩ ⟨"java/util/ArrayList", "size", "()I"⟩ ∈ ce_GW := gT_7 _ (List.mem_of_getElem? (i := 239) rfl) rfl
theorem gw_1680 : Cond.code ⟨"java/util/ArrayList", "size", "()I"⟩ prog_53_method_8_code 1 (Option.some Jvm.ClassFile.FieldType.int) ∈ ce_GW := gT_8 _ (List.mem_of_getElem? (i := 0) rfl) rfl
theorem gw_1681 : Cond.methodLink "CarcasswrightModel" 73 ⟨"java/util/ArrayList", "isEmpty", "()Z"⟩ ∈ ce_GW := gT_8 _ (List.mem_of_getElem? (i := 1) rfl) rfl
theorem gw_1682 : Cond.instanceMethod ⟨"java/util/ArrayList", "isEmpty", "()Z"⟩ ∈ ce_GW := gT_8 _ (List.mem_of_getElem? (i := 2) rfl) rfl
theorem gw_1683 : Cond.selects "java/util/ArrayList" ⟨"java/util/ArrayList", "isEmpty", "()Z"⟩ ⟨"java/util/ArrayList", "isEmpty", "()Z"⟩ ∈ ce_GW := gT_8 _ (List.mem_of_getElem? (i := 3) rfl) rfl
theorem gw_1684 : Cond.code ⟨"java/util/ArrayList", "isEmpty", "()Z"⟩ prog_53_method_9_code 1 (Option.some Jvm.ClassFile.FieldType.boolean) ∈ ce_GW := gT_8 _ (List.mem_of_getElem? (i := 4) rfl) rfl
theorem gw_1685 : Cond.classLink "CarcasswrightModel" 77 "CarcasswrightModel$Wall" ∈ ce_GW := gT_8 _ (List.mem_of_getElem? (i := 5) rfl) rfl
theorem gw_1686 : Cond.instantiable "CarcasswrightModel$Wall" 5 ∈ ce_GW := gT_8 _ (List.mem_of_getElem? (i := 6) rfl) rfl
theorem gw_1687 : Cond.methodLink "CarcasswrightModel" 79 ⟨"CarcasswrightModel$Wall", "<init>", "(CI)V"⟩ ∈ ce_GW := gT_8 _ (List.mem_of_getElem? (i := 7) rfl) rfl
theorem gw_1688 : Cond.instanceMethod ⟨"CarcasswrightModel$Wall", "<init>", "(CI)V"⟩ ∈ ce_GW := gT_8 _ (List.mem_of_getElem? (i := 8) rfl) rfl
theorem gw_1689 : Cond.code ⟨"CarcasswrightModel$Wall", "<init>", "(CI)V"⟩ prog_23_method_1_code 3 Option.none ∈ ce_GW := gT_8 _ (List.mem_of_getElem? (i := 9) rfl) rfl
theorem gw_1690 : Cond.methodLink "CarcasswrightModel$Wall" 1 ⟨"java/lang/Object", "<init>", "()V"⟩ ∈ ce_GW := gT_8 _ (List.mem_of_getElem? (i := 10) rfl) rfl
theorem gw_1691 : Cond.fieldLink "CarcasswrightModel$Wall" 7 "CarcasswrightModel$Wall" "way" "C" ∈ ce_GW := gT_8 _ (List.mem_of_getElem? (i := 11) rfl) rfl
theorem gw_1693 : Cond.fieldLink "CarcasswrightModel$Wall" 13 "CarcasswrightModel$Wall" "measured" "I" ∈ ce_GW := gT_8 _ (List.mem_of_getElem? (i := 13) rfl) rfl
theorem gw_1695 : Cond.fieldLink "CarcasswrightModel$Wall" 17 "CarcasswrightModel$Wall" "length" "I" ∈ ce_GW := gT_8 _ (List.mem_of_getElem? (i := 15) rfl) rfl
theorem gw_1710 : Cond.methodLink "CarcasswrightModel" 82 ⟨"java/util/ArrayList", "add", "(Ljava/lang/Object;)Z"⟩ ∈ ce_GW := gT_8 _ (List.mem_of_getElem? (i := 30) rfl) rfl
theorem gw_1711 : Cond.instanceMethod ⟨"java/util/ArrayList", "add", "(Ljava/lang/Object;)Z"⟩ ∈ ce_GW := gT_8 _ (List.mem_of_getElem? (i := 31) rfl) rfl
theorem gw_1712 : Cond.selects "java/util/ArrayList" ⟨"java/util/ArrayList", "add", "(Ljava/lang/Object;)Z"⟩ ⟨"java/util/ArrayList", "add", "(Ljava/lang/Object;)Z"⟩ ∈ ce_GW := gT_8 _ (List.mem_of_getElem? (i := 32) rfl) rfl
theorem gw_1713 : Cond.code ⟨"java/util/ArrayList", "add", "(Ljava/lang/Object;)Z"⟩ prog_53_method_25_code 2 (Option.some Jvm.ClassFile.FieldType.boolean) ∈ ce_GW := gT_8 _ (List.mem_of_getElem? (i := 33) rfl) rfl
theorem gw_1714 : Cond.methodLink "java/util/ArrayList" 131 ⟨"java/util/ArrayList", "add", "(Ljava/lang/Object;[Ljava/lang/Object;I)V"⟩ ∈ ce_GW := gT_8 _ (List.mem_of_getElem? (i := 34) rfl) rfl
theorem gw_1716 : Cond.instanceMethod ⟨"java/util/ArrayList", "add", "(Ljava/lang/Object;[Ljava/lang/Object;I)V"⟩ ∈ ce_GW := gT_8 _ (List.mem_of_getElem? (i := 36) rfl) rfl
theorem gw_1717 : Cond.code ⟨"java/util/ArrayList", "add", "(Ljava/lang/Object;[Ljava/lang/Object;I)V"⟩ prog_53_method_24_code 4 Option.none ∈ ce_GW := gT_8 _ (List.mem_of_getElem? (i := 37) rfl) rfl
theorem gw_1718 : Cond.methodLink "java/util/ArrayList" 129 ⟨"java/util/ArrayList", "grow", "()[Ljava/lang/Object;"⟩ ∈ ce_GW := gT_8 _ (List.mem_of_getElem? (i := 38) rfl) rfl
theorem gw_1720 : Cond.instanceMethod ⟨"java/util/ArrayList", "grow", "()[Ljava/lang/Object;"⟩ ∈ ce_GW := gT_8 _ (List.mem_of_getElem? (i := 40) rfl) rfl
theorem gw_1721 : Cond.code ⟨"java/util/ArrayList", "grow", "()[Ljava/lang/Object;"⟩ prog_53_method_7_code 1 (Option.some (Jvm.ClassFile.FieldType.array (Jvm.ClassFile.FieldType.object "java/lang/Object"))) ∈ ce_GW := gT_8 _ (List.mem_of_getElem? (i := 41) rfl) rfl
theorem gw_1722 : Cond.methodLink "java/util/ArrayList" 69 ⟨"java/util/ArrayList", "grow", "(I)[Ljava/lang/Object;"⟩ ∈ ce_GW := gT_8 _ (List.mem_of_getElem? (i := 42) rfl) rfl
theorem gw_1724 : Cond.instanceMethod ⟨"java/util/ArrayList", "grow", "(I)[Ljava/lang/Object;"⟩ ∈ ce_GW := gT_8 _ (List.mem_of_getElem? (i := 44) rfl) rfl
theorem gw_1725 : Cond.code ⟨"java/util/ArrayList", "grow", "(I)[Ljava/lang/Object;"⟩ prog_53_method_6_code 4 (Option.some (Jvm.ClassFile.FieldType.array (Jvm.ClassFile.FieldType.object "java/lang/Object"))) ∈ ce_GW := gT_8 _ (List.mem_of_getElem? (i := 45) rfl) rfl
theorem gw_1783 : Cond.methodLink "java/util/ArrayList" 79 ⟨"java/lang/Math", "max", "(II)I"⟩ ∈ ce_GW := gT_8 _ (List.mem_of_getElem? (i := 103) rfl) rfl
theorem gw_1784 : Cond.classLink "java/util/ArrayList" 7 "java/lang/Object" ∈ ce_GW := gT_8 _ (List.mem_of_getElem? (i := 104) rfl) rfl
theorem gw_1797 : Cond.methodLink "CarcasswrightModel" 86 ⟨"java/util/ArrayList", "iterator", "()Ljava/util/Iterator;"⟩ ∈ ce_GW := gT_8 _ (List.mem_of_getElem? (i := 117) rfl) rfl
theorem gw_1798 : Cond.instanceMethod ⟨"java/util/ArrayList", "iterator", "()Ljava/util/Iterator;"⟩ ∈ ce_GW := gT_8 _ (List.mem_of_getElem? (i := 118) rfl) rfl
theorem gw_1799 : Cond.selects "java/util/ArrayList" ⟨"java/util/ArrayList", "iterator", "()Ljava/util/Iterator;"⟩ ⟨"java/util/ArrayList", "iterator", "()Ljava/util/Iterator;"⟩ ∈ ce_GW := gT_8 _ (List.mem_of_getElem? (i := 119) rfl) rfl
theorem gw_1800 : Cond.code ⟨"java/util/ArrayList", "iterator", "()Ljava/util/Iterator;"⟩ prog_53_method_55_code 1 (Option.some (Jvm.ClassFile.FieldType.object "java/util/Iterator")) ∈ ce_GW := gT_8 _ (List.mem_of_getElem? (i := 120) rfl) rfl
theorem gw_1801 : Cond.classLink "java/util/ArrayList" 267 "java/util/ArrayList$Itr" ∈ ce_GW := gT_8 _ (List.mem_of_getElem? (i := 121) rfl) rfl
theorem gw_1802 : Cond.instantiable "java/util/ArrayList$Itr" 4 ∈ ce_GW := gT_8 _ (List.mem_of_getElem? (i := 122) rfl) rfl
theorem gw_1803 : Cond.methodLink "java/util/ArrayList" 269 ⟨"java/util/ArrayList$Itr", "<init>", "(Ljava/util/ArrayList;)V"⟩ ∈ ce_GW := gT_8 _ (List.mem_of_getElem? (i := 123) rfl) rfl
theorem gw_1804 : Cond.instanceMethod ⟨"java/util/ArrayList$Itr", "<init>", "(Ljava/util/ArrayList;)V"⟩ ∈ ce_GW := gT_8 _ (List.mem_of_getElem? (i := 124) rfl) rfl
theorem gw_1805 : Cond.code ⟨"java/util/ArrayList$Itr", "<init>", "(Ljava/util/ArrayList;)V"⟩ prog_54_method_1_code 2 Option.none ∈ ce_GW := gT_8 _ (List.mem_of_getElem? (i := 125) rfl) rfl
theorem gw_1806 : Cond.methodLink "java/util/ArrayList$Itr" 7 ⟨"java/lang/Object", "<init>", "()V"⟩ ∈ ce_GW := gT_8 _ (List.mem_of_getElem? (i := 126) rfl) rfl
theorem gw_1807 : Cond.fieldLink "java/util/ArrayList$Itr" 25 "java/util/ArrayList$Itr" "cursor" "I" ∈ ce_GW := gT_8 _ (List.mem_of_getElem? (i := 127) rfl) rfl
theorem gw_1808 : Cond.fieldLink "java/util/ArrayList$Itr" 13 "java/util/ArrayList$Itr" "lastRet" "I" ∈ ce_GW := gT_8 _ (List.mem_of_getElem? (i := 128) rfl) rfl
theorem gw_1809 : Cond.fieldLink "java/util/ArrayList$Itr" 22 "java/util/ArrayList$Itr" "expectedModCount" "I" ∈ ce_GW := gT_8 _ (List.mem_of_getElem? (i := 129) rfl) rfl
theorem gw_1810 : Cond.fieldLink "java/util/ArrayList$Itr" 1 "java/util/ArrayList$Itr" "this$0" "Ljava/util/ArrayList;" ∈ ce_GW := gT_8 _ (List.mem_of_getElem? (i := 130) rfl) rfl
theorem gw_1821 : Cond.methodLink "CarcasswrightModel" 90 ⟨"java/util/Iterator", "hasNext", "()Z"⟩ ∈ ce_GW := gT_8 _ (List.mem_of_getElem? (i := 141) rfl) rfl
theorem gw_1825 : Cond.selects "java/util/ArrayList$Itr" ⟨"java/util/Iterator", "hasNext", "()Z"⟩ ⟨"java/util/ArrayList$Itr", "hasNext", "()Z"⟩ ∈ ce_GW := gT_8 _ (List.mem_of_getElem? (i := 145) rfl) rfl
theorem gw_1827 : Cond.instanceMethod ⟨"java/util/ArrayList$Itr", "hasNext", "()Z"⟩ ∈ ce_GW := gT_8 _ (List.mem_of_getElem? (i := 147) rfl) rfl
theorem gw_1829 : Cond.code ⟨"java/util/ArrayList$Itr", "hasNext", "()Z"⟩ prog_54_method_2_code 1 (Option.some Jvm.ClassFile.FieldType.boolean) ∈ ce_GW := gT_8 _ (List.mem_of_getElem? (i := 149) rfl) rfl
theorem gw_1854 : Cond.methodLink "CarcasswrightModel" 117 ⟨"java/util/ArrayList", "get", "(I)Ljava/lang/Object;"⟩ ∈ ce_GW := gT_8 _ (List.mem_of_getElem? (i := 174) rfl) rfl
theorem gw_1855 : Cond.instanceMethod ⟨"java/util/ArrayList", "get", "(I)Ljava/lang/Object;"⟩ ∈ ce_GW := gT_8 _ (List.mem_of_getElem? (i := 175) rfl) rfl
theorem gw_1856 : Cond.selects "java/util/ArrayList" ⟨"java/util/ArrayList", "get", "(I)Ljava/lang/Object;"⟩ ⟨"java/util/ArrayList", "get", "(I)Ljava/lang/Object;"⟩ ∈ ce_GW := gT_8 _ (List.mem_of_getElem? (i := 176) rfl) rfl
theorem gw_1857 : Cond.code ⟨"java/util/ArrayList", "get", "(I)Ljava/lang/Object;"⟩ prog_53_method_20_code 2 (Option.some (Jvm.ClassFile.FieldType.object "java/lang/Object")) ∈ ce_GW := gT_8 _ (List.mem_of_getElem? (i := 177) rfl) rfl
theorem gw_1858 : Cond.methodLink "java/util/ArrayList" 118 ⟨"java/util/Objects", "checkIndex", "(II)I"⟩ ∈ ce_GW := gT_8 _ (List.mem_of_getElem? (i := 178) rfl) rfl
theorem gw_1859 : Cond.static ⟨"java/util/Objects", "checkIndex", "(II)I"⟩ ∈ ce_GW := gT_8 _ (List.mem_of_getElem? (i := 179) rfl) rfl
theorem gw_1860 : Cond.code ⟨"java/util/Objects", "checkIndex", "(II)I"⟩ prog_60_method_17_code 2 (Option.some Jvm.ClassFile.FieldType.int) ∈ ce_GW := gT_8 _ (List.mem_of_getElem? (i := 180) rfl) rfl
theorem gw_1861 : Cond.methodLink "java/util/Objects" 105 ⟨"jdk/internal/util/Preconditions", "checkIndex", "(IILjava/util/function/BiFunction;)I"⟩ ∈ ce_GW := gT_8 _ (List.mem_of_getElem? (i := 181) rfl) rfl
theorem gw_1862 : Cond.static ⟨"jdk/internal/util/Preconditions", "checkIndex", "(IILjava/util/function/BiFunction;)I"⟩ ∈ ce_GW := gT_8 _ (List.mem_of_getElem? (i := 182) rfl) rfl
theorem gw_1863 : Cond.code ⟨"jdk/internal/util/Preconditions", "checkIndex", "(IILjava/util/function/BiFunction;)I"⟩ prog_64_method_11_code 3 (Option.some Jvm.ClassFile.FieldType.int) ∈ ce_GW := gT_8 _ (List.mem_of_getElem? (i := 183) rfl) rfl
theorem gw_1864 : Cond.methodLink "java/util/ArrayList" 123 ⟨"java/util/ArrayList", "elementData", "(I)Ljava/lang/Object;"⟩ ∈ ce_GW := gT_8 _ (List.mem_of_getElem? (i := 184) rfl) rfl
theorem gw_1865 : Cond.instanceMethod ⟨"java/util/ArrayList", "elementData", "(I)Ljava/lang/Object;"⟩ ∈ ce_GW := gT_8 _ (List.mem_of_getElem? (i := 185) rfl) rfl
theorem gw_1866 : Cond.selects "java/util/ArrayList" ⟨"java/util/ArrayList", "elementData", "(I)Ljava/lang/Object;"⟩ ⟨"java/util/ArrayList", "elementData", "(I)Ljava/lang/Object;"⟩ ∈ ce_GW := gT_8 _ (List.mem_of_getElem? (i := 186) rfl) rfl
theorem gw_1867 : Cond.code ⟨"java/util/ArrayList", "elementData", "(I)Ljava/lang/Object;"⟩ prog_53_method_18_code 2 (Option.some (Jvm.ClassFile.FieldType.object "java/lang/Object")) ∈ ce_GW := gT_8 _ (List.mem_of_getElem? (i := 187) rfl) rfl
theorem gw_1868 : Cond.methodLink "CarcasswrightModel" 132 ⟨"java/lang/Math", "max", "(II)I"⟩ ∈ ce_GW := gT_8 _ (List.mem_of_getElem? (i := 188) rfl) rfl
theorem gw_1873 : Cond.methodLink "CarcasswrightModel" 136 ⟨"CarcasswrightModel", "noWall", "(I)Z"⟩ ∈ ce_GW := gT_8 _ (List.mem_of_getElem? (i := 193) rfl) rfl
theorem gw_1875 : Cond.instanceMethod ⟨"CarcasswrightModel", "noWall", "(I)Z"⟩ ∈ ce_GW := gT_8 _ (List.mem_of_getElem? (i := 195) rfl) rfl
theorem gw_1876 : Cond.code ⟨"CarcasswrightModel", "noWall", "(I)Z"⟩ prog_14_method_12_code 2 (Option.some Jvm.ClassFile.FieldType.boolean) ∈ ce_GW := gT_8 _ (List.mem_of_getElem? (i := 196) rfl) rfl
theorem gw_2141 : Cond.fieldLink "java/lang/String" 9 "java/lang/String" "value" "[B" ∈ ce_GW := gT_9 _ (List.mem_of_getElem? (i := 221) rfl) rfl
theorem gw_2142 : Cond.fieldLink "java/lang/String" 15 "java/lang/String" "coder" "B" ∈ ce_GW := gT_9 _ (List.mem_of_getElem? (i := 222) rfl) rfl
theorem gw_2446 : Cond.methodLink "CarcasswrightLaw" 245 ⟨"CarcasswrightModel", "free", "(IZ)I"⟩ ∈ ce_GW := gT_11 _ (List.mem_of_getElem? (i := 46) rfl) rfl
theorem gw_2447 : Cond.instanceMethod ⟨"CarcasswrightModel", "free", "(IZ)I"⟩ ∈ ce_GW := gT_11 _ (List.mem_of_getElem? (i := 47) rfl) rfl
theorem gw_2448 : Cond.selects "CarcasswrightModel" ⟨"CarcasswrightModel", "free", "(IZ)I"⟩ ⟨"CarcasswrightModel", "free", "(IZ)I"⟩ ∈ ce_GW := gT_11 _ (List.mem_of_getElem? (i := 48) rfl) rfl
theorem gw_2449 : Cond.code ⟨"CarcasswrightModel", "free", "(IZ)I"⟩ prog_14_method_39_code 3 (Option.some Jvm.ClassFile.FieldType.int) ∈ ce_GW := gT_11 _ (List.mem_of_getElem? (i := 49) rfl) rfl
theorem gw_2450 : Cond.methodLink "CarcasswrightModel" 328 ⟨"CarcasswrightModel", "free", "(IZZ)I"⟩ ∈ ce_GW := gT_11 _ (List.mem_of_getElem? (i := 50) rfl) rfl
theorem gw_2452 : Cond.instanceMethod ⟨"CarcasswrightModel", "free", "(IZZ)I"⟩ ∈ ce_GW := gT_11 _ (List.mem_of_getElem? (i := 52) rfl) rfl
theorem gw_2453 : Cond.code ⟨"CarcasswrightModel", "free", "(IZZ)I"⟩ prog_14_method_38_code 13 (Option.some Jvm.ClassFile.FieldType.int) ∈ ce_GW := gT_11 _ (List.mem_of_getElem? (i := 53) rfl) rfl
theorem gw_2854 : Cond.arrayClass Jvm.ClassFile.FieldType.long ∈ ce_GW := gT_12 _ (List.mem_of_getElem? (i := 214) rfl) rfl
theorem gw_2855 : Cond.arrayClass Jvm.ClassFile.FieldType.double ∈ ce_GW := gT_12 _ (List.mem_of_getElem? (i := 215) rfl) rfl
theorem gx_0 : ce_XS[0] ∈ ce_GW := List.mem_append_left _ (List.mem_of_getElem? (i := 0) rfl)
theorem gx_1 : ce_XS[1] ∈ ce_GW := List.mem_append_left _ (List.mem_of_getElem? (i := 1) rfl)
theorem gx_2 : ce_XS[2] ∈ ce_GW := List.mem_append_left _ (List.mem_of_getElem? (i := 2) rfl)
theorem gx_3 : ce_XS[3] ∈ ce_GW := List.mem_append_left _ (List.mem_of_getElem? (i := 3) rfl)
theorem gx_4 : ce_XS[4] ∈ ce_GW := List.mem_append_left _ (List.mem_of_getElem? (i := 4) rfl)
theorem gx_5 : ce_XS[5] ∈ ce_GW := List.mem_append_left _ (List.mem_of_getElem? (i := 5) rfl)
theorem gn_0 : Cond.castable "java/lang/IllegalArgumentException" "java/lang/IllegalArgumentException" ∈ ce_NG := List.mem_of_getElem? (i := 0) rfl
theorem gn_1 : Cond.castable "java/lang/IndexOutOfBoundsException" "java/lang/IndexOutOfBoundsException" ∈ ce_NG := List.mem_of_getElem? (i := 1) rfl
theorem gn_8 : Cond.methodLinkNest "Carcasswright$Types" 19 ⟨"Carcasswright$ModuleType", "<init>", "()V"⟩ "Carcasswright" ∈ ce_NG := List.mem_of_getElem? (i := 8) rfl
theorem gn_9 : Cond.methodLinkNest "Carcasswright$Room" 35 ⟨"Carcasswright$Wall", "<init>", "()V"⟩ "Carcasswright" ∈ ce_NG := List.mem_of_getElem? (i := 9) rfl
theorem gn_10 : Cond.methodLinkNest "Carcasswright$Room" 36 ⟨"Carcasswright$Obstacle", "<init>", "()V"⟩ "Carcasswright" ∈ ce_NG := List.mem_of_getElem? (i := 10) rfl
theorem gn_11 : Cond.methodLinkNest "Carcasswright$Stock" 15 ⟨"Carcasswright$Board", "<init>", "()V"⟩ "Carcasswright" ∈ ce_NG := List.mem_of_getElem? (i := 11) rfl
theorem gn_12 : Cond.methodLinkNest "Carcasswright$Saw" 40 ⟨"Carcasswright$Board", "<init>", "()V"⟩ "Carcasswright" ∈ ce_NG := List.mem_of_getElem? (i := 12) rfl
theorem gn_13 : Cond.methodLinkNest "Carcasswright" 47 ⟨"Carcasswright$Packer", "<init>", "()V"⟩ "Carcasswright" ∈ ce_NG := List.mem_of_getElem? (i := 13) rfl
theorem gn_14 : Cond.methodLinkNest "Carcasswright" 54 ⟨"Carcasswright$Jobs", "<init>", "()V"⟩ "Carcasswright" ∈ ce_NG := List.mem_of_getElem? (i := 14) rfl
theorem gn_21 : Cond.fieldLinkNest "java/util/ArrayList$Itr" 28 "java/util/ArrayList" "size" "I" "java/util/ArrayList" ∈ ce_NG := List.mem_of_getElem? (i := 21) rfl
theorem gn_27 : Cond.fieldLinkNest "CarcasswrightModel" 103 "CarcasswrightModel$Wall" "length" "I" "CarcasswrightModel" ∈ ce_NG := List.mem_of_getElem? (i := 27) rfl
