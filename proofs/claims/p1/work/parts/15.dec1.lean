-- the rows that decode the steps (rows of the claim's printed names)
theorem dJ0_coder_7d493_0 : decode cJ0_coder_7d493 0 = .ok (.getstatic 38, 3) := by decide +kernel
theorem dJ0_coder_7d493_3 : decode cJ0_coder_7d493 3 = .ok (.ifCond .eq 10, 3) := by decide +kernel
theorem dJ0_coder_7d493_6 : decode cJ0_coder_7d493 6 = .ok (.aload_n 0, 1) := by decide +kernel
theorem dJ0_coder_7d493_7 : decode cJ0_coder_7d493 7 = .ok (.getfield 15, 3) := by decide +kernel
theorem dJ0_coder_7d493_10 : decode cJ0_coder_7d493 10 = .ok (.goto 4, 3) := by decide +kernel
theorem dJ0_coder_7d493_14 : decode cJ0_coder_7d493 14 = .ok (.ireturn, 1) := by decide +kernel
theorem dJ0_isEmpty_aae02_0 : decode cJ0_isEmpty_aae02 0 = .ok (.aload_n 0, 1) := by decide +kernel
theorem dJ0_isEmpty_aae02_1 : decode cJ0_isEmpty_aae02 1 = .ok (.getfield 9, 3) := by decide +kernel
theorem dJ0_isEmpty_aae02_4 : decode cJ0_isEmpty_aae02 4 = .ok (.arraylength, 1) := by decide +kernel
theorem dJ0_isEmpty_aae02_5 : decode cJ0_isEmpty_aae02 5 = .ok (.ifCond .ne 7, 3) := by decide +kernel
theorem dJ0_isEmpty_aae02_8 : decode cJ0_isEmpty_aae02 8 = .ok (.iconst 1, 1) := by decide +kernel
theorem dJ0_isEmpty_aae02_9 : decode cJ0_isEmpty_aae02 9 = .ok (.goto 4, 3) := by decide +kernel
theorem dJ0_isEmpty_aae02_13 : decode cJ0_isEmpty_aae02 13 = .ok (.ireturn, 1) := by decide +kernel
theorem dJ0_isLatin1_aae02_0 : decode cJ0_isLatin1_aae02 0 = .ok (.getstatic 38, 3) := by decide +kernel
theorem dJ0_isLatin1_aae02_3 : decode cJ0_isLatin1_aae02 3 = .ok (.ifCond .eq 14, 3) := by decide +kernel
theorem dJ0_isLatin1_aae02_6 : decode cJ0_isLatin1_aae02 6 = .ok (.aload_n 0, 1) := by decide +kernel
theorem dJ0_isLatin1_aae02_7 : decode cJ0_isLatin1_aae02 7 = .ok (.getfield 15, 3) := by decide +kernel
theorem dJ0_isLatin1_aae02_10 : decode cJ0_isLatin1_aae02 10 = .ok (.ifCond .ne 7, 3) := by decide +kernel
theorem dJ0_isLatin1_aae02_13 : decode cJ0_isLatin1_aae02 13 = .ok (.iconst 1, 1) := by decide +kernel
theorem dJ0_isLatin1_aae02_14 : decode cJ0_isLatin1_aae02 14 = .ok (.goto 4, 3) := by decide +kernel
theorem dJ0_isLatin1_aae02_18 : decode cJ0_isLatin1_aae02 18 = .ok (.ireturn, 1) := by decide +kernel
theorem dJ1_canEncode_9a6ad_0 : decode cJ1_canEncode_9a6ad 0 = .ok (.iload_n 0, 1) := by decide +kernel
theorem dJ1_canEncode_9a6ad_1 : decode cJ1_canEncode_9a6ad 1 = .ok (.ifCond .lt 14, 3) := by decide +kernel
theorem dJ1_canEncode_9a6ad_4 : decode cJ1_canEncode_9a6ad 4 = .ok (.iload_n 0, 1) := by decide +kernel
theorem dJ1_canEncode_9a6ad_5 : decode cJ1_canEncode_9a6ad 5 = .ok (.sipush 255, 3) := by decide +kernel
theorem dJ1_canEncode_9a6ad_8 : decode cJ1_canEncode_9a6ad 8 = .ok (.if_icmp .gt 7, 3) := by decide +kernel
theorem dJ1_canEncode_9a6ad_11 : decode cJ1_canEncode_9a6ad 11 = .ok (.iconst 1, 1) := by decide +kernel
theorem dJ1_canEncode_9a6ad_12 : decode cJ1_canEncode_9a6ad 12 = .ok (.goto 4, 3) := by decide +kernel
theorem dJ1_canEncode_9a6ad_15 : decode cJ1_canEncode_9a6ad 15 = .ok (.iconst 0, 1) := by decide +kernel
theorem dJ1_canEncode_9a6ad_16 : decode cJ1_canEncode_9a6ad 16 = .ok (.ireturn, 1) := by decide +kernel
theorem dJ1_canEncode_fc78d_0 : decode cJ1_canEncode_fc78d 0 = .ok (.iload_n 0, 1) := by decide +kernel
theorem dJ1_canEncode_fc78d_1 : decode cJ1_canEncode_fc78d 1 = .ok (.sipush 255, 3) := by decide +kernel
theorem dJ1_canEncode_fc78d_4 : decode cJ1_canEncode_fc78d 4 = .ok (.if_icmp .gt 7, 3) := by decide +kernel
theorem dJ1_canEncode_fc78d_7 : decode cJ1_canEncode_fc78d 7 = .ok (.iconst 1, 1) := by decide +kernel
theorem dJ1_canEncode_fc78d_8 : decode cJ1_canEncode_fc78d 8 = .ok (.goto 4, 3) := by decide +kernel
theorem dJ1_canEncode_fc78d_11 : decode cJ1_canEncode_fc78d 11 = .ok (.iconst 0, 1) := by decide +kernel
theorem dJ1_canEncode_fc78d_12 : decode cJ1_canEncode_fc78d 12 = .ok (.ireturn, 1) := by decide +kernel
theorem dJ1_indexOfChar_4cfef_0 : decode cJ1_indexOfChar_4cfef 0 = .ok (.iload_n 1, 1) := by decide +kernel
theorem dJ1_indexOfChar_4cfef_1 : decode cJ1_indexOfChar_4cfef 1 = .ok (.i2b, 1) := by decide +kernel
theorem dJ1_indexOfChar_4cfef_2 : decode cJ1_indexOfChar_4cfef 2 = .ok (.istore 4, 2) := by decide +kernel
theorem dJ1_indexOfChar_4cfef_4 : decode cJ1_indexOfChar_4cfef 4 = .ok (.iload_n 2, 1) := by decide +kernel
theorem dJ1_indexOfChar_4cfef_5 : decode cJ1_indexOfChar_4cfef 5 = .ok (.istore 5, 2) := by decide +kernel
theorem dJ1_indexOfChar_4cfef_7 : decode cJ1_indexOfChar_4cfef 7 = .ok (.iload 5, 2) := by decide +kernel
theorem dJ1_indexOfChar_4cfef_9 : decode cJ1_indexOfChar_4cfef 9 = .ok (.iload_n 3, 1) := by decide +kernel
theorem dJ1_indexOfChar_4cfef_10 : decode cJ1_indexOfChar_4cfef 10 = .ok (.if_icmp .ge 21, 3) := by decide +kernel
theorem dJ1_indexOfChar_4cfef_13 : decode cJ1_indexOfChar_4cfef 13 = .ok (.aload_n 0, 1) := by decide +kernel
theorem dJ1_indexOfChar_4cfef_14 : decode cJ1_indexOfChar_4cfef 14 = .ok (.iload 5, 2) := by decide +kernel
theorem dJ1_indexOfChar_4cfef_16 : decode cJ1_indexOfChar_4cfef 16 = .ok (.baload, 1) := by decide +kernel
theorem dJ1_indexOfChar_4cfef_17 : decode cJ1_indexOfChar_4cfef 17 = .ok (.iload 4, 2) := by decide +kernel
theorem dJ1_indexOfChar_4cfef_19 : decode cJ1_indexOfChar_4cfef 19 = .ok (.if_icmp .ne 6, 3) := by decide +kernel
theorem dJ1_indexOfChar_4cfef_22 : decode cJ1_indexOfChar_4cfef 22 = .ok (.iload 5, 2) := by decide +kernel
theorem dJ1_indexOfChar_4cfef_24 : decode cJ1_indexOfChar_4cfef 24 = .ok (.ireturn, 1) := by decide +kernel
theorem dJ1_indexOfChar_4cfef_25 : decode cJ1_indexOfChar_4cfef 25 = .ok (.iinc 5 1, 3) := by decide +kernel
theorem dJ1_indexOfChar_4cfef_28 : decode cJ1_indexOfChar_4cfef 28 = .ok (.goto (-21), 3) := by decide +kernel
theorem dJ1_indexOfChar_4cfef_31 : decode cJ1_indexOfChar_4cfef 31 = .ok (.iconst (-1), 1) := by decide +kernel
theorem dJ1_indexOfChar_4cfef_32 : decode cJ1_indexOfChar_4cfef 32 = .ok (.ireturn, 1) := by decide +kernel
theorem dJ2_length_9d52b_0 : decode cJ2_length_9d52b 0 = .ok (.aload_n 0, 1) := by decide +kernel
theorem dJ2_length_9d52b_1 : decode cJ2_length_9d52b 1 = .ok (.arraylength, 1) := by decide +kernel
theorem dJ2_length_9d52b_2 : decode cJ2_length_9d52b 2 = .ok (.iconst 1, 1) := by decide +kernel
theorem dJ2_length_9d52b_3 : decode cJ2_length_9d52b 3 = .ok (.ishr, 1) := by decide +kernel
theorem dJ2_length_9d52b_4 : decode cJ2_length_9d52b 4 = .ok (.ireturn, 1) := by decide +kernel
theorem dJ2_newBytesLength_0f7a4_0 : decode cJ2_newBytesLength_0f7a4 0 = .ok (.iload_n 0, 1) := by decide +kernel
theorem dJ2_newBytesLength_0f7a4_1 : decode cJ2_newBytesLength_0f7a4 1 = .ok (.ifCond .ge 11, 3) := by decide +kernel
theorem dJ2_newBytesLength_0f7a4_12 : decode cJ2_newBytesLength_0f7a4 12 = .ok (.iload_n 0, 1) := by decide +kernel
theorem dJ2_newBytesLength_0f7a4_13 : decode cJ2_newBytesLength_0f7a4 13 = .ok (.ldc 20, 2) := by decide +kernel
theorem dJ2_newBytesLength_0f7a4_15 : decode cJ2_newBytesLength_0f7a4 15 = .ok (.if_icmp .lt 40, 3) := by decide +kernel
theorem dJ2_newBytesLength_0f7a4_55 : decode cJ2_newBytesLength_0f7a4 55 = .ok (.iload_n 0, 1) := by decide +kernel
theorem dJ2_newBytesLength_0f7a4_56 : decode cJ2_newBytesLength_0f7a4 56 = .ok (.iconst 1, 1) := by decide +kernel
theorem dJ2_newBytesLength_0f7a4_57 : decode cJ2_newBytesLength_0f7a4 57 = .ok (.ishl, 1) := by decide +kernel
theorem dJ2_newBytesLength_0f7a4_58 : decode cJ2_newBytesLength_0f7a4 58 = .ok (.ireturn, 1) := by decide +kernel
theorem dJ2_putChar_b72d1_0 : decode cJ2_putChar_b72d1 0 = .ok (.getstatic 44, 3) := by decide +kernel
theorem dJ2_putChar_b72d1_3 : decode cJ2_putChar_b72d1 3 = .ok (.ifCond .ne 25, 3) := by decide +kernel
theorem dJ2_putChar_b72d1_28 : decode cJ2_putChar_b72d1 28 = .ok (.iload_n 1, 1) := by decide +kernel
theorem dJ2_putChar_b72d1_29 : decode cJ2_putChar_b72d1 29 = .ok (.iconst 1, 1) := by decide +kernel
theorem dJ2_putChar_b72d1_30 : decode cJ2_putChar_b72d1 30 = .ok (.ishl, 1) := by decide +kernel
theorem dJ2_putChar_b72d1_31 : decode cJ2_putChar_b72d1 31 = .ok (.istore_n 1, 1) := by decide +kernel
theorem dJ2_putChar_b72d1_32 : decode cJ2_putChar_b72d1 32 = .ok (.aload_n 0, 1) := by decide +kernel
theorem dJ2_putChar_b72d1_33 : decode cJ2_putChar_b72d1 33 = .ok (.iload_n 1, 1) := by decide +kernel
theorem dJ2_putChar_b72d1_34 : decode cJ2_putChar_b72d1 34 = .ok (.iinc 1 1, 3) := by decide +kernel
theorem dJ2_putChar_b72d1_37 : decode cJ2_putChar_b72d1 37 = .ok (.iload_n 2, 1) := by decide +kernel
theorem dJ2_putChar_b72d1_38 : decode cJ2_putChar_b72d1 38 = .ok (.getstatic 59, 3) := by decide +kernel
theorem dJ2_putChar_b72d1_41 : decode cJ2_putChar_b72d1 41 = .ok (.ishr, 1) := by decide +kernel
theorem dJ2_putChar_b72d1_42 : decode cJ2_putChar_b72d1 42 = .ok (.i2b, 1) := by decide +kernel
theorem dJ2_putChar_b72d1_43 : decode cJ2_putChar_b72d1 43 = .ok (.bastore, 1) := by decide +kernel
theorem dJ2_putChar_b72d1_44 : decode cJ2_putChar_b72d1 44 = .ok (.aload_n 0, 1) := by decide +kernel
theorem dJ2_putChar_b72d1_45 : decode cJ2_putChar_b72d1 45 = .ok (.iload_n 1, 1) := by decide +kernel
theorem dJ2_putChar_b72d1_46 : decode cJ2_putChar_b72d1 46 = .ok (.iload_n 2, 1) := by decide +kernel
theorem dJ2_putChar_b72d1_47 : decode cJ2_putChar_b72d1 47 = .ok (.getstatic 63, 3) := by decide +kernel
theorem dJ2_putChar_b72d1_50 : decode cJ2_putChar_b72d1 50 = .ok (.ishr, 1) := by decide +kernel
theorem dJ2_putChar_b72d1_51 : decode cJ2_putChar_b72d1 51 = .ok (.i2b, 1) := by decide +kernel
theorem dJ2_putChar_b72d1_52 : decode cJ2_putChar_b72d1 52 = .ok (.bastore, 1) := by decide +kernel
theorem dJ2_putChar_b72d1_53 : decode cJ2_putChar_b72d1 53 = .ok (.return_, 1) := by decide +kernel
theorem dJ3_checkFromIndexSize_8c36e_0 : decode cJ3_checkFromIndexSize_8c36e 0 = .ok (.iload_n 2, 1) := by decide +kernel
theorem dJ3_checkFromIndexSize_8c36e_1 : decode cJ3_checkFromIndexSize_8c36e 1 = .ok (.iload_n 0, 1) := by decide +kernel
theorem dJ3_checkFromIndexSize_8c36e_2 : decode cJ3_checkFromIndexSize_8c36e 2 = .ok (.ior, 1) := by decide +kernel
theorem dJ3_checkFromIndexSize_8c36e_3 : decode cJ3_checkFromIndexSize_8c36e 3 = .ok (.iload_n 1, 1) := by decide +kernel
theorem dJ3_checkFromIndexSize_8c36e_4 : decode cJ3_checkFromIndexSize_8c36e 4 = .ok (.ior, 1) := by decide +kernel
theorem dJ3_checkFromIndexSize_8c36e_5 : decode cJ3_checkFromIndexSize_8c36e 5 = .ok (.ifCond .lt 10, 3) := by decide +kernel
theorem dJ3_checkFromIndexSize_8c36e_8 : decode cJ3_checkFromIndexSize_8c36e 8 = .ok (.iload_n 1, 1) := by decide +kernel
theorem dJ3_checkFromIndexSize_8c36e_9 : decode cJ3_checkFromIndexSize_8c36e 9 = .ok (.iload_n 2, 1) := by decide +kernel
theorem dJ3_checkFromIndexSize_8c36e_10 : decode cJ3_checkFromIndexSize_8c36e 10 = .ok (.iload_n 0, 1) := by decide +kernel
theorem dJ3_checkFromIndexSize_8c36e_11 : decode cJ3_checkFromIndexSize_8c36e 11 = .ok (.isub, 1) := by decide +kernel
theorem dJ3_checkFromIndexSize_8c36e_12 : decode cJ3_checkFromIndexSize_8c36e 12 = .ok (.if_icmp .le 11, 3) := by decide +kernel
theorem dJ3_checkFromIndexSize_8c36e_23 : decode cJ3_checkFromIndexSize_8c36e 23 = .ok (.iload_n 0, 1) := by decide +kernel
theorem dJ3_checkFromIndexSize_8c36e_24 : decode cJ3_checkFromIndexSize_8c36e 24 = .ok (.ireturn, 1) := by decide +kernel
theorem dJ3_checkIndex_8e157_0 : decode cJ3_checkIndex_8e157 0 = .ok (.iload_n 0, 1) := by decide +kernel
theorem dJ3_checkIndex_8e157_1 : decode cJ3_checkIndex_8e157 1 = .ok (.ifCond .lt 8, 3) := by decide +kernel
theorem dJ3_checkIndex_8e157_4 : decode cJ3_checkIndex_8e157 4 = .ok (.iload_n 0, 1) := by decide +kernel
theorem dJ3_checkIndex_8e157_5 : decode cJ3_checkIndex_8e157 5 = .ok (.iload_n 1, 1) := by decide +kernel
theorem dJ3_checkIndex_8e157_6 : decode cJ3_checkIndex_8e157 6 = .ok (.if_icmp .lt 10, 3) := by decide +kernel
theorem dJ3_checkIndex_8e157_16 : decode cJ3_checkIndex_8e157 16 = .ok (.iload_n 0, 1) := by decide +kernel
theorem dJ3_checkIndex_8e157_17 : decode cJ3_checkIndex_8e157 17 = .ok (.ireturn, 1) := by decide +kernel
theorem dJ5_ensureCapacityInternal_d00df_0 : decode cJ5_ensureCapacityInternal_d00df 0 = .ok (.aload_n 0, 1) := by decide +kernel
theorem dJ5_ensureCapacityInternal_d00df_1 : decode cJ5_ensureCapacityInternal_d00df 1 = .ok (.getfield 15, 3) := by decide +kernel
theorem dJ5_ensureCapacityInternal_d00df_4 : decode cJ5_ensureCapacityInternal_d00df 4 = .ok (.arraylength, 1) := by decide +kernel
theorem dJ5_ensureCapacityInternal_d00df_5 : decode cJ5_ensureCapacityInternal_d00df 5 = .ok (.aload_n 0, 1) := by decide +kernel
theorem dJ5_ensureCapacityInternal_d00df_6 : decode cJ5_ensureCapacityInternal_d00df 6 = .ok (.getfield 22, 3) := by decide +kernel
theorem dJ5_ensureCapacityInternal_d00df_9 : decode cJ5_ensureCapacityInternal_d00df 9 = .ok (.ishr, 1) := by decide +kernel
theorem dJ5_ensureCapacityInternal_d00df_10 : decode cJ5_ensureCapacityInternal_d00df 10 = .ok (.istore_n 2, 1) := by decide +kernel
theorem dJ5_ensureCapacityInternal_d00df_11 : decode cJ5_ensureCapacityInternal_d00df 11 = .ok (.iload_n 1, 1) := by decide +kernel
theorem dJ5_ensureCapacityInternal_d00df_12 : decode cJ5_ensureCapacityInternal_d00df 12 = .ok (.iload_n 2, 1) := by decide +kernel
theorem dJ5_ensureCapacityInternal_d00df_13 : decode cJ5_ensureCapacityInternal_d00df 13 = .ok (.isub, 1) := by decide +kernel
theorem dJ5_ensureCapacityInternal_d00df_14 : decode cJ5_ensureCapacityInternal_d00df 14 = .ok (.ifCond .le 24, 3) := by decide +kernel
theorem dJ5_ensureCapacityInternal_d00df_38 : decode cJ5_ensureCapacityInternal_d00df 38 = .ok (.return_, 1) := by decide +kernel
theorem dJ5_getValue_6d5f1_0 : decode cJ5_getValue_6d5f1 0 = .ok (.aload_n 0, 1) := by decide +kernel
theorem dJ5_getValue_6d5f1_1 : decode cJ5_getValue_6d5f1 1 = .ok (.getfield 15, 3) := by decide +kernel
theorem dJ5_getValue_6d5f1_4 : decode cJ5_getValue_6d5f1 4 = .ok (.areturn, 1) := by decide +kernel
theorem dJ5_init_d00df_0 : decode cJ5_init_d00df 0 = .ok (.aload_n 0, 1) := by decide +kernel
theorem dJ5_init_d00df_1 : decode cJ5_init_d00df 1 = .ok (.invokespecial 3, 3) := by decide +kernel
theorem dJ5_init_d00df_4 : decode cJ5_init_d00df 4 = .ok (.getstatic 18, 3) := by decide +kernel
theorem dJ5_init_d00df_7 : decode cJ5_init_d00df 7 = .ok (.ifCond .eq 18, 3) := by decide +kernel
theorem dJ5_init_d00df_10 : decode cJ5_init_d00df 10 = .ok (.aload_n 0, 1) := by decide +kernel
theorem dJ5_init_d00df_11 : decode cJ5_init_d00df 11 = .ok (.iload_n 1, 1) := by decide +kernel
theorem dJ5_init_d00df_12 : decode cJ5_init_d00df 12 = .ok (.newarray .byte, 2) := by decide +kernel
theorem dJ5_init_d00df_14 : decode cJ5_init_d00df 14 = .ok (.putfield 15, 3) := by decide +kernel
theorem dJ5_init_d00df_17 : decode cJ5_init_d00df 17 = .ok (.aload_n 0, 1) := by decide +kernel
theorem dJ5_init_d00df_18 : decode cJ5_init_d00df 18 = .ok (.iconst 0, 1) := by decide +kernel
theorem dJ5_init_d00df_19 : decode cJ5_init_d00df 19 = .ok (.putfield 22, 3) := by decide +kernel
theorem dJ5_init_d00df_22 : decode cJ5_init_d00df 22 = .ok (.goto 16, 3) := by decide +kernel
theorem dJ5_init_d00df_38 : decode cJ5_init_d00df 38 = .ok (.return_, 1) := by decide +kernel
theorem dJ5_isLatin1_aae02_0 : decode cJ5_isLatin1_aae02 0 = .ok (.getstatic 18, 3) := by decide +kernel
theorem dJ5_isLatin1_aae02_3 : decode cJ5_isLatin1_aae02 3 = .ok (.ifCond .eq 14, 3) := by decide +kernel
theorem dJ5_isLatin1_aae02_6 : decode cJ5_isLatin1_aae02 6 = .ok (.aload_n 0, 1) := by decide +kernel
theorem dJ5_isLatin1_aae02_7 : decode cJ5_isLatin1_aae02 7 = .ok (.getfield 22, 3) := by decide +kernel
theorem dJ5_isLatin1_aae02_10 : decode cJ5_isLatin1_aae02 10 = .ok (.ifCond .ne 7, 3) := by decide +kernel
theorem dJ5_isLatin1_aae02_13 : decode cJ5_isLatin1_aae02 13 = .ok (.iconst 1, 1) := by decide +kernel
theorem dJ5_isLatin1_aae02_14 : decode cJ5_isLatin1_aae02 14 = .ok (.goto 4, 3) := by decide +kernel
theorem dJ5_isLatin1_aae02_17 : decode cJ5_isLatin1_aae02 17 = .ok (.iconst 0, 1) := by decide +kernel
theorem dJ5_isLatin1_aae02_18 : decode cJ5_isLatin1_aae02 18 = .ok (.ireturn, 1) := by decide +kernel
theorem dJ5_length_8abf5_0 : decode cJ5_length_8abf5 0 = .ok (.aload_n 0, 1) := by decide +kernel
theorem dJ5_length_8abf5_1 : decode cJ5_length_8abf5 1 = .ok (.getfield 79, 3) := by decide +kernel
theorem dJ5_length_8abf5_4 : decode cJ5_length_8abf5 4 = .ok (.ireturn, 1) := by decide +kernel
theorem dJ7_checkLength_df160_0 : decode cJ7_checkLength_df160 0 = .ok (.iload_n 1, 1) := by decide +kernel
theorem dJ7_checkLength_df160_1 : decode cJ7_checkLength_df160 1 = .ok (.iload_n 0, 1) := by decide +kernel
theorem dJ7_checkLength_df160_2 : decode cJ7_checkLength_df160 2 = .ok (.if_icmp .ge 35, 3) := by decide +kernel
theorem dJ7_checkLength_df160_37 : decode cJ7_checkLength_df160 37 = .ok (.return_, 1) := by decide +kernel
theorem dJ9_max_7cf53_0 : decode cJ9_max_7cf53 0 = .ok (.iload_n 0, 1) := by decide +kernel
theorem dJ9_max_7cf53_1 : decode cJ9_max_7cf53 1 = .ok (.iload_n 1, 1) := by decide +kernel
theorem dJ9_max_7cf53_2 : decode cJ9_max_7cf53 2 = .ok (.if_icmp .lt 7, 3) := by decide +kernel
theorem dJ9_max_7cf53_5 : decode cJ9_max_7cf53 5 = .ok (.iload_n 0, 1) := by decide +kernel
theorem dJ9_max_7cf53_6 : decode cJ9_max_7cf53 6 = .ok (.goto 4, 3) := by decide +kernel
theorem dJ9_max_7cf53_9 : decode cJ9_max_7cf53 9 = .ok (.iload_n 1, 1) := by decide +kernel
theorem dJ9_max_7cf53_10 : decode cJ9_max_7cf53 10 = .ok (.ireturn, 1) := by decide +kernel
theorem dJ9_min_7cf53_0 : decode cJ9_min_7cf53 0 = .ok (.iload_n 0, 1) := by decide +kernel
theorem dJ9_min_7cf53_1 : decode cJ9_min_7cf53 1 = .ok (.iload_n 1, 1) := by decide +kernel
theorem dJ9_min_7cf53_2 : decode cJ9_min_7cf53 2 = .ok (.if_icmp .gt 7, 3) := by decide +kernel
theorem dJ9_min_7cf53_5 : decode cJ9_min_7cf53 5 = .ok (.iload_n 0, 1) := by decide +kernel
theorem dJ9_min_7cf53_6 : decode cJ9_min_7cf53 6 = .ok (.goto 4, 3) := by decide +kernel
theorem dJ9_min_7cf53_9 : decode cJ9_min_7cf53 9 = .ok (.iload_n 1, 1) := by decide +kernel
theorem dJ9_min_7cf53_10 : decode cJ9_min_7cf53 10 = .ok (.ireturn, 1) := by decide +kernel
theorem dJx35411_hasNext_aae02_0 : decode cJx35411_hasNext_aae02 0 = .ok (.aload_n 0, 1) := by decide +kernel
theorem dJx35411_hasNext_aae02_1 : decode cJx35411_hasNext_aae02 1 = .ok (.getfield 25, 3) := by decide +kernel
theorem dJx35411_hasNext_aae02_4 : decode cJx35411_hasNext_aae02 4 = .ok (.aload_n 0, 1) := by decide +kernel
theorem dJx35411_hasNext_aae02_5 : decode cJx35411_hasNext_aae02 5 = .ok (.getfield 1, 3) := by decide +kernel
theorem dJx35411_hasNext_aae02_8 : decode cJx35411_hasNext_aae02 8 = .ok (.getfield 28, 3) := by decide +kernel
theorem dJx35411_hasNext_aae02_11 : decode cJx35411_hasNext_aae02 11 = .ok (.if_icmp .eq 7, 3) := by decide +kernel
theorem dJx35411_hasNext_aae02_18 : decode cJx35411_hasNext_aae02 18 = .ok (.iconst 0, 1) := by decide +kernel
theorem dJx35411_hasNext_aae02_19 : decode cJx35411_hasNext_aae02 19 = .ok (.ireturn, 1) := by decide +kernel
theorem dJx35411_init_45d68_0 : decode cJx35411_init_45d68 0 = .ok (.aload_n 0, 1) := by decide +kernel
theorem dJx35411_init_45d68_1 : decode cJx35411_init_45d68 1 = .ok (.aload_n 1, 1) := by decide +kernel
theorem dJx35411_init_45d68_2 : decode cJx35411_init_45d68 2 = .ok (.putfield 1, 3) := by decide +kernel
theorem dJx35411_init_45d68_5 : decode cJx35411_init_45d68 5 = .ok (.aload_n 0, 1) := by decide +kernel
theorem dJx35411_init_45d68_6 : decode cJx35411_init_45d68 6 = .ok (.invokespecial 7, 3) := by decide +kernel
theorem dJx35411_init_45d68_9 : decode cJx35411_init_45d68 9 = .ok (.aload_n 0, 1) := by decide +kernel
theorem dJx35411_init_45d68_10 : decode cJx35411_init_45d68 10 = .ok (.iconst (-1), 1) := by decide +kernel
theorem dJx35411_init_45d68_11 : decode cJx35411_init_45d68 11 = .ok (.putfield 13, 3) := by decide +kernel
theorem dJx35411_init_45d68_14 : decode cJx35411_init_45d68 14 = .ok (.aload_n 0, 1) := by decide +kernel
theorem dJx35411_init_45d68_15 : decode cJx35411_init_45d68 15 = .ok (.aload_n 0, 1) := by decide +kernel
theorem dJx35411_init_45d68_16 : decode cJx35411_init_45d68 16 = .ok (.getfield 1, 3) := by decide +kernel
theorem dJx35411_init_45d68_19 : decode cJx35411_init_45d68 19 = .ok (.getfield 17, 3) := by decide +kernel
theorem dJx35411_init_45d68_22 : decode cJx35411_init_45d68 22 = .ok (.putfield 22, 3) := by decide +kernel
theorem dJx35411_init_45d68_25 : decode cJx35411_init_45d68 25 = .ok (.return_, 1) := by decide +kernel
theorem dJx4a65c_isEmpty_aae02_0 : decode cJx4a65c_isEmpty_aae02 0 = .ok (.aload_n 0, 1) := by decide +kernel
theorem dJx4a65c_isEmpty_aae02_1 : decode cJx4a65c_isEmpty_aae02 1 = .ok (.getfield 48, 3) := by decide +kernel
theorem dJx4a65c_isEmpty_aae02_4 : decode cJx4a65c_isEmpty_aae02 4 = .ok (.ifCond .ne 7, 3) := by decide +kernel
theorem dJx4a65c_isEmpty_aae02_7 : decode cJx4a65c_isEmpty_aae02 7 = .ok (.iconst 1, 1) := by decide +kernel
theorem dJx4a65c_isEmpty_aae02_8 : decode cJx4a65c_isEmpty_aae02 8 = .ok (.goto 4, 3) := by decide +kernel
theorem dJx4a65c_isEmpty_aae02_12 : decode cJx4a65c_isEmpty_aae02 12 = .ok (.ireturn, 1) := by decide +kernel
theorem dJx4a65c_size_8abf5_0 : decode cJx4a65c_size_8abf5 0 = .ok (.aload_n 0, 1) := by decide +kernel
theorem dJx4a65c_size_8abf5_1 : decode cJx4a65c_size_8abf5 1 = .ok (.getfield 48, 3) := by decide +kernel
theorem dJx4a65c_size_8abf5_4 : decode cJx4a65c_size_8abf5 4 = .ok (.ireturn, 1) := by decide +kernel
theorem dJxa1e45_init_da8c8_0 : decode cJxa1e45_init_da8c8 0 = .ok (.aload_n 0, 1) := by decide +kernel
theorem dJxa1e45_init_da8c8_1 : decode cJxa1e45_init_da8c8 1 = .ok (.invokespecial 1, 3) := by decide +kernel
theorem dJxa1e45_init_da8c8_4 : decode cJxa1e45_init_da8c8 4 = .ok (.return_, 1) := by decide +kernel
theorem dX0_become_0 : decode cX0_become 0 = .ok (.aload_n 0, 1) := by decide +kernel
theorem dX0_become_1 : decode cX0_become 1 = .ok (.iload_n 1, 1) := by decide +kernel
theorem dX0_become_2 : decode cX0_become 2 = .ok (.putfield 9, 3) := by decide +kernel
theorem dX0_become_5 : decode cX0_become 5 = .ok (.aload_n 0, 1) := by decide +kernel
theorem dX0_become_6 : decode cX0_become 6 = .ok (.iload_n 2, 1) := by decide +kernel
theorem dX0_become_7 : decode cX0_become 7 = .ok (.putfield 15, 3) := by decide +kernel
theorem dX0_become_10 : decode cX0_become 10 = .ok (.aload_n 0, 1) := by decide +kernel
theorem dX0_become_11 : decode cX0_become 11 = .ok (.iload_n 3, 1) := by decide +kernel
theorem dX0_become_12 : decode cX0_become 12 = .ok (.putfield 18, 3) := by decide +kernel
theorem dX0_become_15 : decode cX0_become 15 = .ok (.aload_n 0, 1) := by decide +kernel
theorem dX0_become_16 : decode cX0_become 16 = .ok (.iload 4, 2) := by decide +kernel
theorem dX0_become_18 : decode cX0_become 18 = .ok (.putfield 21, 3) := by decide +kernel
theorem dX0_become_21 : decode cX0_become 21 = .ok (.return_, 1) := by decide +kernel
theorem dX0_init_0 : decode cX0_init 0 = .ok (.aload_n 0, 1) := by decide +kernel
theorem dX0_init_1 : decode cX0_init 1 = .ok (.invokespecial 3, 3) := by decide +kernel
theorem dX0_init_4 : decode cX0_init 4 = .ok (.return_, 1) := by decide +kernel
theorem dX10_init_0 : decode cX10_init 0 = .ok (.aload_n 0, 1) := by decide +kernel
theorem dX10_init_1 : decode cX10_init 1 = .ok (.invokespecial 1, 3) := by decide +kernel
theorem dX10_init_4 : decode cX10_init 4 = .ok (.aload_n 0, 1) := by decide +kernel
theorem dX10_init_5 : decode cX10_init 5 = .ok (.bipush 101, 2) := by decide +kernel
theorem dX10_init_7 : decode cX10_init 7 = .ok (.putfield 7, 3) := by decide +kernel
theorem dX10_init_10 : decode cX10_init 10 = .ok (.return_, 1) := by decide +kernel
theorem dX11_boards_0 : decode cX11_boards 0 = .ok (.aload_n 0, 1) := by decide +kernel
theorem dX11_boards_1 : decode cX11_boards 1 = .ok (.getfield 32, 3) := by decide +kernel
theorem dX11_boards_4 : decode cX11_boards 4 = .ok (.getfield 299, 3) := by decide +kernel
theorem dX11_boards_7 : decode cX11_boards 7 = .ok (.ireturn, 1) := by decide +kernel
theorem dX11_clash_0 : decode cX11_clash 0 = .ok (.iload_n 1, 1) := by decide +kernel
theorem dX11_clash_1 : decode cX11_clash 1 = .ok (.ifCond .lt 19, 3) := by decide +kernel
theorem dX11_clash_4 : decode cX11_clash 4 = .ok (.iload_n 1, 1) := by decide +kernel
theorem dX11_clash_5 : decode cX11_clash 5 = .ok (.aload_n 0, 1) := by decide +kernel
theorem dX11_clash_6 : decode cX11_clash 6 = .ok (.getfield 25, 3) := by decide +kernel
theorem dX11_clash_9 : decode cX11_clash 9 = .ok (.getfield 235, 3) := by decide +kernel
theorem dX11_clash_12 : decode cX11_clash 12 = .ok (.if_icmp .ge 8, 3) := by decide +kernel
theorem dX11_clash_20 : decode cX11_clash 20 = .ok (.new 149, 3) := by decide +kernel
theorem dX11_clash_23 : decode cX11_clash 23 = .ok (.dup, 1) := by decide +kernel
theorem dX11_clash_24 : decode cX11_clash 24 = .ok (.invokespecial 151, 3) := by decide +kernel
theorem dX11_clash_27 : decode cX11_clash 27 = .ok (.athrow, 1) := by decide +kernel
theorem dX11_clashNumber_0 : decode cX11_clashNumber 0 = .ok (.iload_n 1, 1) := by decide +kernel
theorem dX11_clashNumber_1 : decode cX11_clashNumber 1 = .ok (.ifCond .lt 19, 3) := by decide +kernel
theorem dX11_clashNumber_4 : decode cX11_clashNumber 4 = .ok (.iload_n 1, 1) := by decide +kernel
theorem dX11_clashNumber_5 : decode cX11_clashNumber 5 = .ok (.aload_n 0, 1) := by decide +kernel
theorem dX11_clashNumber_6 : decode cX11_clashNumber 6 = .ok (.getfield 25, 3) := by decide +kernel
theorem dX11_clashNumber_9 : decode cX11_clashNumber 9 = .ok (.getfield 235, 3) := by decide +kernel
theorem dX11_clashNumber_12 : decode cX11_clashNumber 12 = .ok (.if_icmp .ge 8, 3) := by decide +kernel
theorem dX11_clashNumber_20 : decode cX11_clashNumber 20 = .ok (.new 149, 3) := by decide +kernel
theorem dX11_clashNumber_23 : decode cX11_clashNumber 23 = .ok (.dup, 1) := by decide +kernel
theorem dX11_clashNumber_24 : decode cX11_clashNumber 24 = .ok (.invokespecial 151, 3) := by decide +kernel
theorem dX11_clashNumber_27 : decode cX11_clashNumber 27 = .ok (.athrow, 1) := by decide +kernel
theorem dX11_close_0 : decode cX11_close 0 = .ok (.aload_n 0, 1) := by decide +kernel
theorem dX11_close_1 : decode cX11_close 1 = .ok (.getfield 25, 3) := by decide +kernel
theorem dX11_close_4 : decode cX11_close 4 = .ok (.getfield 70, 3) := by decide +kernel
theorem dX11_close_7 : decode cX11_close 7 = .ok (.iconst 4, 1) := by decide +kernel
theorem dX11_close_8 : decode cX11_close 8 = .ok (.if_icmp .lt 23, 3) := by decide +kernel
theorem dX11_close_31 : decode cX11_close 31 = .ok (.new 88, 3) := by decide +kernel
theorem dX11_close_34 : decode cX11_close 34 = .ok (.dup, 1) := by decide +kernel
theorem dX11_close_35 : decode cX11_close 35 = .ok (.invokespecial 90, 3) := by decide +kernel
theorem dX11_close_38 : decode cX11_close 38 = .ok (.athrow, 1) := by decide +kernel
theorem dX11_cutShare_0 : decode cX11_cutShare 0 = .ok (.iconst 0, 1) := by decide +kernel
theorem dX11_cutShare_1 : decode cX11_cutShare 1 = .ok (.istore_n 1, 1) := by decide +kernel
theorem dX11_cutShare_2 : decode cX11_cutShare 2 = .ok (.iconst 0, 1) := by decide +kernel
theorem dX11_cutShare_3 : decode cX11_cutShare 3 = .ok (.istore_n 2, 1) := by decide +kernel
theorem dX11_cutShare_4 : decode cX11_cutShare 4 = .ok (.iconst 0, 1) := by decide +kernel
theorem dX11_cutShare_5 : decode cX11_cutShare 5 = .ok (.istore_n 3, 1) := by decide +kernel
theorem dX11_cutShare_6 : decode cX11_cutShare 6 = .ok (.iload_n 3, 1) := by decide +kernel
theorem dX11_cutShare_7 : decode cX11_cutShare 7 = .ok (.aload_n 0, 1) := by decide +kernel
theorem dX11_cutShare_8 : decode cX11_cutShare 8 = .ok (.getfield 25, 3) := by decide +kernel
theorem dX11_cutShare_11 : decode cX11_cutShare 11 = .ok (.getfield 74, 3) := by decide +kernel
theorem dX11_cutShare_14 : decode cX11_cutShare 14 = .ok (.if_icmp .ge 41, 3) := by decide +kernel
theorem dX11_cutShare_55 : decode cX11_cutShare 55 = .ok (.iload_n 1, 1) := by decide +kernel
theorem dX11_cutShare_56 : decode cX11_cutShare 56 = .ok (.ifCond .ne 11, 3) := by decide +kernel
theorem dX11_cutShare_59 : decode cX11_cutShare 59 = .ok (.new 149, 3) := by decide +kernel
theorem dX11_cutShare_62 : decode cX11_cutShare 62 = .ok (.dup, 1) := by decide +kernel
theorem dX11_cutShare_63 : decode cX11_cutShare 63 = .ok (.invokespecial 151, 3) := by decide +kernel
theorem dX11_cutShare_66 : decode cX11_cutShare 66 = .ok (.athrow, 1) := by decide +kernel
theorem dX11_isClosedRoom_0 : decode cX11_isClosedRoom 0 = .ok (.aload_n 0, 1) := by decide +kernel
theorem dX11_isClosedRoom_1 : decode cX11_isClosedRoom 1 = .ok (.getfield 25, 3) := by decide +kernel
theorem dX11_isClosedRoom_4 : decode cX11_isClosedRoom 4 = .ok (.getfield 70, 3) := by decide +kernel
theorem dX11_isClosedRoom_7 : decode cX11_isClosedRoom 7 = .ok (.ifCond .le 35, 3) := by decide +kernel
theorem dX11_isClosedRoom_42 : decode cX11_isClosedRoom 42 = .ok (.iconst 0, 1) := by decide +kernel
theorem dX11_isClosedRoom_43 : decode cX11_isClosedRoom 43 = .ok (.ireturn, 1) := by decide +kernel
theorem dX11_isNoColour_0 : decode cX11_isNoColour 0 = .ok (.iload_n 0, 1) := by decide +kernel
theorem dX11_isNoColour_1 : decode cX11_isNoColour 1 = .ok (.ifCond .lt 8, 3) := by decide +kernel
theorem dX11_isNoColour_4 : decode cX11_isNoColour 4 = .ok (.iload_n 0, 1) := by decide +kernel
theorem dX11_isNoColour_5 : decode cX11_isNoColour 5 = .ok (.iconst 3, 1) := by decide +kernel
theorem dX11_isNoColour_6 : decode cX11_isNoColour 6 = .ok (.if_icmp .lt 7, 3) := by decide +kernel
theorem dX11_isNoColour_9 : decode cX11_isNoColour 9 = .ok (.iconst 1, 1) := by decide +kernel
theorem dX11_isNoColour_10 : decode cX11_isNoColour 10 = .ok (.goto 4, 3) := by decide +kernel
theorem dX11_isNoColour_13 : decode cX11_isNoColour 13 = .ok (.iconst 0, 1) := by decide +kernel
theorem dX11_isNoColour_14 : decode cX11_isNoColour 14 = .ok (.ireturn, 1) := by decide +kernel
theorem dX11_isOutside_0 : decode cX11_isOutside 0 = .ok (.iload_n 0, 1) := by decide +kernel
theorem dX11_isOutside_1 : decode cX11_isOutside 1 = .ok (.iload_n 1, 1) := by decide +kernel
theorem dX11_isOutside_2 : decode cX11_isOutside 2 = .ok (.if_icmp .lt 8, 3) := by decide +kernel
theorem dX11_isOutside_5 : decode cX11_isOutside 5 = .ok (.iload_n 0, 1) := by decide +kernel
theorem dX11_isOutside_6 : decode cX11_isOutside 6 = .ok (.iload_n 2, 1) := by decide +kernel
theorem dX11_isOutside_7 : decode cX11_isOutside 7 = .ok (.if_icmp .le 7, 3) := by decide +kernel
theorem dX11_isOutside_10 : decode cX11_isOutside 10 = .ok (.iconst 1, 1) := by decide +kernel
theorem dX11_isOutside_11 : decode cX11_isOutside 11 = .ok (.goto 4, 3) := by decide +kernel
theorem dX11_isOutside_14 : decode cX11_isOutside 14 = .ok (.iconst 0, 1) := by decide +kernel
theorem dX11_isOutside_15 : decode cX11_isOutside 15 = .ok (.ireturn, 1) := by decide +kernel
theorem dX11_jobAt_0 : decode cX11_jobAt 0 = .ok (.iload_n 1, 1) := by decide +kernel
theorem dX11_jobAt_1 : decode cX11_jobAt 1 = .ok (.ifCond .lt 20, 3) := by decide +kernel
theorem dX11_jobAt_4 : decode cX11_jobAt 4 = .ok (.iload_n 1, 1) := by decide +kernel
theorem dX11_jobAt_5 : decode cX11_jobAt 5 = .ok (.aload_n 0, 1) := by decide +kernel
theorem dX11_jobAt_6 : decode cX11_jobAt 6 = .ok (.getfield 55, 3) := by decide +kernel
theorem dX11_jobAt_9 : decode cX11_jobAt 9 = .ok (.getfield 369, 3) := by decide +kernel
theorem dX11_jobAt_12 : decode cX11_jobAt 12 = .ok (.if_icmp .ge 9, 3) := by decide +kernel
theorem dX11_jobAt_21 : decode cX11_jobAt 21 = .ok (.new 278, 3) := by decide +kernel
theorem dX11_jobAt_24 : decode cX11_jobAt 24 = .ok (.dup, 1) := by decide +kernel
theorem dX11_jobAt_25 : decode cX11_jobAt 25 = .ok (.invokespecial 280, 3) := by decide +kernel
theorem dX11_jobAt_28 : decode cX11_jobAt 28 = .ok (.athrow, 1) := by decide +kernel
theorem dX11_meanWidth_0 : decode cX11_meanWidth 0 = .ok (.iconst 0, 1) := by decide +kernel
theorem dX11_meanWidth_1 : decode cX11_meanWidth 1 = .ok (.istore_n 1, 1) := by decide +kernel
theorem dX11_meanWidth_2 : decode cX11_meanWidth 2 = .ok (.iconst 0, 1) := by decide +kernel
theorem dX11_meanWidth_3 : decode cX11_meanWidth 3 = .ok (.istore_n 2, 1) := by decide +kernel
theorem dX11_meanWidth_4 : decode cX11_meanWidth 4 = .ok (.iload_n 2, 1) := by decide +kernel
theorem dX11_meanWidth_5 : decode cX11_meanWidth 5 = .ok (.aload_n 0, 1) := by decide +kernel
theorem dX11_meanWidth_6 : decode cX11_meanWidth 6 = .ok (.getfield 25, 3) := by decide +kernel
theorem dX11_meanWidth_9 : decode cX11_meanWidth 9 = .ok (.getfield 74, 3) := by decide +kernel
theorem dX11_meanWidth_12 : decode cX11_meanWidth 12 = .ok (.if_icmp .ge 26, 3) := by decide +kernel
theorem dX11_meanWidth_38 : decode cX11_meanWidth 38 = .ok (.aload_n 0, 1) := by decide +kernel
theorem dX11_meanWidth_39 : decode cX11_meanWidth 39 = .ok (.getfield 25, 3) := by decide +kernel
theorem dX11_meanWidth_42 : decode cX11_meanWidth 42 = .ok (.getfield 74, 3) := by decide +kernel
theorem dX11_meanWidth_45 : decode cX11_meanWidth 45 = .ok (.ifCond .ne 11, 3) := by decide +kernel
theorem dX11_meanWidth_48 : decode cX11_meanWidth 48 = .ok (.new 149, 3) := by decide +kernel
theorem dX11_meanWidth_51 : decode cX11_meanWidth 51 = .ok (.dup, 1) := by decide +kernel
theorem dX11_meanWidth_52 : decode cX11_meanWidth 52 = .ok (.invokespecial 151, 3) := by decide +kernel
theorem dX11_meanWidth_55 : decode cX11_meanWidth 55 = .ok (.athrow, 1) := by decide +kernel
theorem dX11_modules_0 : decode cX11_modules 0 = .ok (.aload_n 0, 1) := by decide +kernel
theorem dX11_modules_1 : decode cX11_modules 1 = .ok (.getfield 25, 3) := by decide +kernel
theorem dX11_modules_4 : decode cX11_modules 4 = .ok (.getfield 74, 3) := by decide +kernel
theorem dX11_modules_7 : decode cX11_modules 7 = .ok (.ireturn, 1) := by decide +kernel
theorem dX12_area_0 : decode cX12_area 0 = .ok (.aload_n 0, 1) := by decide +kernel
theorem dX12_area_1 : decode cX12_area 1 = .ok (.getfield 28, 3) := by decide +kernel
theorem dX12_area_4 : decode cX12_area 4 = .ok (.i2l, 1) := by decide +kernel
theorem dX12_area_5 : decode cX12_area 5 = .ok (.aload_n 0, 1) := by decide +kernel
theorem dX12_area_6 : decode cX12_area 6 = .ok (.getfield 31, 3) := by decide +kernel
theorem dX12_area_9 : decode cX12_area 9 = .ok (.i2l, 1) := by decide +kernel
theorem dX12_area_10 : decode cX12_area 10 = .ok (.lmul, 1) := by decide +kernel
theorem dX12_area_11 : decode cX12_area 11 = .ok (.lreturn, 1) := by decide +kernel
theorem dX14_init_0 : decode cX14_init 0 = .ok (.aload_n 0, 1) := by decide +kernel
theorem dX14_init_1 : decode cX14_init 1 = .ok (.invokespecial 1, 3) := by decide +kernel
theorem dX14_init_4 : decode cX14_init 4 = .ok (.aload_n 0, 1) := by decide +kernel
theorem dX14_init_5 : decode cX14_init 5 = .ok (.iload_n 1, 1) := by decide +kernel
theorem dX14_init_6 : decode cX14_init 6 = .ok (.putfield 7, 3) := by decide +kernel
theorem dX14_init_9 : decode cX14_init 9 = .ok (.aload_n 0, 1) := by decide +kernel
theorem dX14_init_10 : decode cX14_init 10 = .ok (.iload_n 2, 1) := by decide +kernel
theorem dX14_init_11 : decode cX14_init 11 = .ok (.putfield 13, 3) := by decide +kernel
theorem dX14_init_14 : decode cX14_init 14 = .ok (.aload_n 0, 1) := by decide +kernel
theorem dX14_init_15 : decode cX14_init 15 = .ok (.iload_n 3, 1) := by decide +kernel
theorem dX14_init_16 : decode cX14_init 16 = .ok (.putfield 16, 3) := by decide +kernel
theorem dX14_init_19 : decode cX14_init 19 = .ok (.return_, 1) := by decide +kernel
theorem dX19_init_0 : decode cX19_init 0 = .ok (.aload_n 0, 1) := by decide +kernel
theorem dX19_init_1 : decode cX19_init 1 = .ok (.invokespecial 1, 3) := by decide +kernel
theorem dX19_init_4 : decode cX19_init 4 = .ok (.aload_n 0, 1) := by decide +kernel
theorem dX19_init_5 : decode cX19_init 5 = .ok (.sipush 600, 3) := by decide +kernel
theorem dX19_init_8 : decode cX19_init 8 = .ok (.putfield 7, 3) := by decide +kernel
theorem dX19_init_11 : decode cX19_init 11 = .ok (.return_, 1) := by decide +kernel
theorem dX1_append_0 : decode cX1_append 0 = .ok (.aload_n 0, 1) := by decide +kernel
theorem dX1_append_1 : decode cX1_append 1 = .ok (.getfield 29, 3) := by decide +kernel
theorem dX1_append_4 : decode cX1_append 4 = .ok (.istore 4, 2) := by decide +kernel
theorem dX1_append_6 : decode cX1_append 6 = .ok (.iload 4, 2) := by decide +kernel
theorem dX1_append_8 : decode cX1_append 8 = .ok (.ifCond .lt 10, 3) := by decide +kernel
theorem dX1_append_11 : decode cX1_append 11 = .ok (.iload 4, 2) := by decide +kernel
theorem dX1_append_13 : decode cX1_append 13 = .ok (.bipush 6, 2) := by decide +kernel
theorem dX1_append_15 : decode cX1_append 15 = .ok (.if_icmp .lt 5, 3) := by decide +kernel
theorem dX1_append_20 : decode cX1_append 20 = .ok (.aload_n 0, 1) := by decide +kernel
theorem dX1_append_21 : decode cX1_append 21 = .ok (.getfield 9, 3) := by decide +kernel
theorem dX1_append_24 : decode cX1_append 24 = .ok (.iload 4, 2) := by decide +kernel
theorem dX1_append_26 : decode cX1_append 26 = .ok (.iload_n 1, 1) := by decide +kernel
theorem dX1_append_27 : decode cX1_append 27 = .ok (.iastore, 1) := by decide +kernel
theorem dX1_append_28 : decode cX1_append 28 = .ok (.aload_n 0, 1) := by decide +kernel
theorem dX1_append_29 : decode cX1_append 29 = .ok (.getfield 13, 3) := by decide +kernel
theorem dX1_append_32 : decode cX1_append 32 = .ok (.iload 4, 2) := by decide +kernel
theorem dX1_append_34 : decode cX1_append 34 = .ok (.iload_n 2, 1) := by decide +kernel
theorem dX1_append_35 : decode cX1_append 35 = .ok (.iastore, 1) := by decide +kernel
theorem dX1_append_36 : decode cX1_append 36 = .ok (.aload_n 0, 1) := by decide +kernel
theorem dX1_append_37 : decode cX1_append 37 = .ok (.getfield 16, 3) := by decide +kernel
theorem dX1_append_40 : decode cX1_append 40 = .ok (.iload 4, 2) := by decide +kernel
theorem dX1_append_42 : decode cX1_append 42 = .ok (.iload_n 3, 1) := by decide +kernel
theorem dX1_append_43 : decode cX1_append 43 = .ok (.iastore, 1) := by decide +kernel
theorem dX1_append_44 : decode cX1_append 44 = .ok (.aload_n 0, 1) := by decide +kernel
theorem dX1_append_45 : decode cX1_append 45 = .ok (.dup, 1) := by decide +kernel
theorem dX1_append_46 : decode cX1_append 46 = .ok (.getfield 29, 3) := by decide +kernel
theorem dX1_append_49 : decode cX1_append 49 = .ok (.iconst 1, 1) := by decide +kernel
theorem dX1_append_50 : decode cX1_append 50 = .ok (.iadd, 1) := by decide +kernel
theorem dX1_append_51 : decode cX1_append 51 = .ok (.putfield 29, 3) := by decide +kernel
theorem dX1_append_54 : decode cX1_append 54 = .ok (.iload 4, 2) := by decide +kernel
theorem dX1_append_56 : decode cX1_append 56 = .ok (.ireturn, 1) := by decide +kernel
theorem dX1_init_0 : decode cX1_init 0 = .ok (.aload_n 0, 1) := by decide +kernel
theorem dX1_init_1 : decode cX1_init 1 = .ok (.invokespecial 1, 3) := by decide +kernel
theorem dX1_init_4 : decode cX1_init 4 = .ok (.aload_n 0, 1) := by decide +kernel
theorem dX1_init_5 : decode cX1_init 5 = .ok (.bipush 6, 2) := by decide +kernel
theorem dX1_init_7 : decode cX1_init 7 = .ok (.newarray .int, 2) := by decide +kernel
theorem dX1_init_9 : decode cX1_init 9 = .ok (.putfield 9, 3) := by decide +kernel
theorem dX1_init_12 : decode cX1_init 12 = .ok (.aload_n 0, 1) := by decide +kernel
theorem dX1_init_13 : decode cX1_init 13 = .ok (.bipush 6, 2) := by decide +kernel
theorem dX1_init_15 : decode cX1_init 15 = .ok (.newarray .int, 2) := by decide +kernel
theorem dX1_init_17 : decode cX1_init 17 = .ok (.putfield 13, 3) := by decide +kernel
theorem dX1_init_20 : decode cX1_init 20 = .ok (.aload_n 0, 1) := by decide +kernel
theorem dX1_init_21 : decode cX1_init 21 = .ok (.bipush 6, 2) := by decide +kernel
theorem dX1_init_23 : decode cX1_init 23 = .ok (.newarray .int, 2) := by decide +kernel
theorem dX1_init_25 : decode cX1_init 25 = .ok (.putfield 16, 3) := by decide +kernel
theorem dX1_init_28 : decode cX1_init 28 = .ok (.aload_n 0, 1) := by decide +kernel
theorem dX1_init_29 : decode cX1_init 29 = .ok (.bipush 6, 2) := by decide +kernel
theorem dX1_init_31 : decode cX1_init 31 = .ok (.newarray .int, 2) := by decide +kernel
theorem dX1_init_33 : decode cX1_init 33 = .ok (.putfield 19, 3) := by decide +kernel
theorem dX1_init_36 : decode cX1_init 36 = .ok (.aload_n 0, 1) := by decide +kernel
theorem dX1_init_37 : decode cX1_init 37 = .ok (.bipush 6, 2) := by decide +kernel
theorem dX1_init_39 : decode cX1_init 39 = .ok (.newarray .int, 2) := by decide +kernel
theorem dX1_init_41 : decode cX1_init 41 = .ok (.putfield 22, 3) := by decide +kernel
theorem dX1_init_44 : decode cX1_init 44 = .ok (.aload_n 0, 1) := by decide +kernel
theorem dX1_init_45 : decode cX1_init 45 = .ok (.iconst 2, 1) := by decide +kernel
theorem dX1_init_46 : decode cX1_init 46 = .ok (.putfield 25, 3) := by decide +kernel
theorem dX1_init_49 : decode cX1_init 49 = .ok (.return_, 1) := by decide +kernel
theorem dX1_keepOrder_0 : decode cX1_keepOrder 0 = .ok (.iconst 0, 1) := by decide +kernel
theorem dX1_keepOrder_1 : decode cX1_keepOrder 1 = .ok (.istore_n 1, 1) := by decide +kernel
theorem dX1_keepOrder_2 : decode cX1_keepOrder 2 = .ok (.iload_n 1, 1) := by decide +kernel
theorem dX1_keepOrder_3 : decode cX1_keepOrder 3 = .ok (.bipush 6, 2) := by decide +kernel
theorem dX1_keepOrder_5 : decode cX1_keepOrder 5 = .ok (.if_icmp .ge 21, 3) := by decide +kernel
theorem dX1_keepOrder_8 : decode cX1_keepOrder 8 = .ok (.aload_n 0, 1) := by decide +kernel
theorem dX1_keepOrder_9 : decode cX1_keepOrder 9 = .ok (.getfield 22, 3) := by decide +kernel
theorem dX1_keepOrder_12 : decode cX1_keepOrder 12 = .ok (.iload_n 1, 1) := by decide +kernel
theorem dX1_keepOrder_13 : decode cX1_keepOrder 13 = .ok (.aload_n 0, 1) := by decide +kernel
theorem dX1_keepOrder_14 : decode cX1_keepOrder 14 = .ok (.getfield 19, 3) := by decide +kernel
theorem dX1_keepOrder_17 : decode cX1_keepOrder 17 = .ok (.iload_n 1, 1) := by decide +kernel
theorem dX1_keepOrder_18 : decode cX1_keepOrder 18 = .ok (.iaload, 1) := by decide +kernel
theorem dX1_keepOrder_19 : decode cX1_keepOrder 19 = .ok (.iastore, 1) := by decide +kernel
theorem dX1_keepOrder_20 : decode cX1_keepOrder 20 = .ok (.iinc 1 1, 3) := by decide +kernel
theorem dX1_keepOrder_23 : decode cX1_keepOrder 23 = .ok (.goto (-21), 3) := by decide +kernel
theorem dX1_keepOrder_26 : decode cX1_keepOrder 26 = .ok (.return_, 1) := by decide +kernel
theorem dX1_lateInOrder_0 : decode cX1_lateInOrder 0 = .ok (.iconst 0, 1) := by decide +kernel
theorem dX1_lateInOrder_1 : decode cX1_lateInOrder 1 = .ok (.istore_n 1, 1) := by decide +kernel
theorem dX1_lateInOrder_2 : decode cX1_lateInOrder 2 = .ok (.iconst 0, 1) := by decide +kernel
theorem dX1_lateInOrder_3 : decode cX1_lateInOrder 3 = .ok (.istore_n 2, 1) := by decide +kernel
theorem dX1_lateInOrder_4 : decode cX1_lateInOrder 4 = .ok (.iconst (-1), 1) := by decide +kernel
theorem dX1_lateInOrder_5 : decode cX1_lateInOrder 5 = .ok (.istore_n 3, 1) := by decide +kernel
theorem dX1_lateInOrder_6 : decode cX1_lateInOrder 6 = .ok (.iconst 0, 1) := by decide +kernel
theorem dX1_lateInOrder_7 : decode cX1_lateInOrder 7 = .ok (.istore 4, 2) := by decide +kernel
theorem dX1_lateInOrder_9 : decode cX1_lateInOrder 9 = .ok (.iload 4, 2) := by decide +kernel
theorem dX1_lateInOrder_11 : decode cX1_lateInOrder 11 = .ok (.aload_n 0, 1) := by decide +kernel
theorem dX1_lateInOrder_12 : decode cX1_lateInOrder 12 = .ok (.getfield 29, 3) := by decide +kernel
theorem dX1_lateInOrder_15 : decode cX1_lateInOrder 15 = .ok (.if_icmp .ge 94, 3) := by decide +kernel
theorem dX1_lateInOrder_109 : decode cX1_lateInOrder 109 = .ok (.iload_n 1, 1) := by decide +kernel
theorem dX1_lateInOrder_110 : decode cX1_lateInOrder 110 = .ok (.ireturn, 1) := by decide +kernel
theorem dX20_init_0 : decode cX20_init 0 = .ok (.aload_n 0, 1) := by decide +kernel
theorem dX20_init_1 : decode cX20_init 1 = .ok (.invokespecial 1, 3) := by decide +kernel
theorem dX20_init_4 : decode cX20_init 4 = .ok (.aload_n 0, 1) := by decide +kernel
theorem dX20_init_5 : decode cX20_init 5 = .ok (.iload_n 1, 1) := by decide +kernel
theorem dX20_init_6 : decode cX20_init 6 = .ok (.putfield 7, 3) := by decide +kernel
theorem dX20_init_9 : decode cX20_init 9 = .ok (.aload_n 0, 1) := by decide +kernel
theorem dX20_init_10 : decode cX20_init 10 = .ok (.iload_n 2, 1) := by decide +kernel
theorem dX20_init_11 : decode cX20_init 11 = .ok (.putfield 13, 3) := by decide +kernel
theorem dX20_init_14 : decode cX20_init 14 = .ok (.aload_n 0, 1) := by decide +kernel
theorem dX20_init_15 : decode cX20_init 15 = .ok (.iload_n 2, 1) := by decide +kernel
theorem dX20_init_16 : decode cX20_init 16 = .ok (.putfield 17, 3) := by decide +kernel
theorem dX20_init_19 : decode cX20_init 19 = .ok (.return_, 1) := by decide +kernel
theorem dX21_faults_0 : decode cX21_faults 0 = .ok (.aload_n 0, 1) := by decide +kernel
theorem dX21_faults_1 : decode cX21_faults 1 = .ok (.aload_n 0, 1) := by decide +kernel
theorem dX21_faults_2 : decode cX21_faults 2 = .ok (.getfield 176, 3) := by decide +kernel
theorem dX21_faults_5 : decode cX21_faults 5 = .ok (.bipush 32, 2) := by decide +kernel
theorem dX21_faults_7 : decode cX21_faults 7 = .ok (.if_icmp .ne 7, 3) := by decide +kernel
theorem dX21_faults_10 : decode cX21_faults 10 = .ok (.iload_n 1, 1) := by decide +kernel
theorem dX21_faults_11 : decode cX21_faults 11 = .ok (.goto 7, 3) := by decide +kernel
theorem dX21_faults_18 : decode cX21_faults 18 = .ok (.putfield 176, 3) := by decide +kernel
theorem dX21_faults_21 : decode cX21_faults 21 = .ok (.aload_n 0, 1) := by decide +kernel
theorem dX21_faults_22 : decode cX21_faults 22 = .ok (.iload_n 2, 1) := by decide +kernel
theorem dX21_faults_23 : decode cX21_faults 23 = .ok (.putfield 179, 3) := by decide +kernel
theorem dX21_faults_26 : decode cX21_faults 26 = .ok (.return_, 1) := by decide +kernel
theorem dX21_in_0 : decode cX21_in 0 = .ok (.iload_n 0, 1) := by decide +kernel
theorem dX21_in_1 : decode cX21_in 1 = .ok (.iload_n 1, 1) := by decide +kernel
theorem dX21_in_2 : decode cX21_in 2 = .ok (.if_icmp .lt 12, 3) := by decide +kernel
theorem dX21_in_5 : decode cX21_in 5 = .ok (.iload_n 0, 1) := by decide +kernel
theorem dX21_in_6 : decode cX21_in 6 = .ok (.iload_n 2, 1) := by decide +kernel
theorem dX21_in_7 : decode cX21_in 7 = .ok (.if_icmp .gt 7, 3) := by decide +kernel
theorem dX21_in_10 : decode cX21_in 10 = .ok (.iconst 1, 1) := by decide +kernel
theorem dX21_in_11 : decode cX21_in 11 = .ok (.goto 4, 3) := by decide +kernel
theorem dX21_in_14 : decode cX21_in 14 = .ok (.iconst 0, 1) := by decide +kernel
theorem dX21_in_15 : decode cX21_in 15 = .ok (.ireturn, 1) := by decide +kernel
theorem dX21_isSound_0 : decode cX21_isSound 0 = .ok (.aload_n 0, 1) := by decide +kernel
theorem dX21_isSound_1 : decode cX21_isSound 1 = .ok (.iconst 0, 1) := by decide +kernel
theorem dX21_isSound_2 : decode cX21_isSound 2 = .ok (.putfield 54, 3) := by decide +kernel
theorem dX21_isSound_5 : decode cX21_isSound 5 = .ok (.iconst 1, 1) := by decide +kernel
theorem dX21_isSound_6 : decode cX21_isSound 6 = .ok (.ireturn, 1) := by decide +kernel
theorem dX21_raises_0 : decode cX21_raises 0 = .ok (.aload_n 0, 1) := by decide +kernel
theorem dX21_raises_1 : decode cX21_raises 1 = .ok (.iload_n 1, 1) := by decide +kernel
theorem dX21_raises_2 : decode cX21_raises 2 = .ok (.putfield 54, 3) := by decide +kernel
theorem dX21_raises_5 : decode cX21_raises 5 = .ok (.iconst 0, 1) := by decide +kernel
theorem dX21_raises_6 : decode cX21_raises 6 = .ok (.ireturn, 1) := by decide +kernel
theorem dX21_thrown_0 : decode cX21_thrown 0 = .ok (.aload_n 0, 1) := by decide +kernel
theorem dX21_thrown_1 : decode cX21_thrown 1 = .ok (.getfield 54, 3) := by decide +kernel
theorem dX21_thrown_4 : decode cX21_thrown 4 = .ok (.ireturn, 1) := by decide +kernel
theorem dX21_tries_0 : decode cX21_tries 0 = .ok (.iload_n 2, 1) := by decide +kernel
theorem dX21_tries_1 : decode cX21_tries 1 = .ok (.aload_n 1, 1) := by decide +kernel
theorem dX21_tries_2 : decode cX21_tries 2 = .ok (.arraylength, 1) := by decide +kernel
theorem dX21_tries_3 : decode cX21_tries 3 = .ok (.if_icmp .ne 30, 3) := by decide +kernel
theorem dX21_tries_6 : decode cX21_tries 6 = .ok (.iload 5, 2) := by decide +kernel
theorem dX21_tries_8 : decode cX21_tries 8 = .ok (.aload_n 0, 1) := by decide +kernel
theorem dX21_tries_9 : decode cX21_tries 9 = .ok (.getfield 460, 3) := by decide +kernel
theorem dX21_tries_12 : decode cX21_tries 12 = .ok (.if_icmp .ge 20, 3) := by decide +kernel
theorem dX21_tries_15 : decode cX21_tries 15 = .ok (.aload_n 0, 1) := by decide +kernel
theorem dX21_tries_16 : decode cX21_tries 16 = .ok (.iload 5, 2) := by decide +kernel
theorem dX21_tries_18 : decode cX21_tries 18 = .ok (.putfield 460, 3) := by decide +kernel
theorem dX21_tries_21 : decode cX21_tries 21 = .ok (.aload_n 0, 1) := by decide +kernel
theorem dX21_tries_22 : decode cX21_tries 22 = .ok (.aload_n 1, 1) := by decide +kernel
theorem dX21_tries_23 : decode cX21_tries 23 = .ok (.invokevirtual 463, 3) := by decide +kernel
theorem dX21_tries_26 : decode cX21_tries 26 = .ok (.checkcast 464, 3) := by decide +kernel
theorem dX21_tries_29 : decode cX21_tries 29 = .ok (.putfield 51, 3) := by decide +kernel
theorem dX21_tries_32 : decode cX21_tries 32 = .ok (.return_, 1) := by decide +kernel
theorem dX2_init_0 : decode cX2_init 0 = .ok (.aload_n 0, 1) := by decide +kernel
theorem dX2_init_1 : decode cX2_init 1 = .ok (.invokespecial 1, 3) := by decide +kernel
theorem dX2_init_4 : decode cX2_init 4 = .ok (.aload_n 0, 1) := by decide +kernel
theorem dX2_init_5 : decode cX2_init 5 = .ok (.bipush 98, 2) := by decide +kernel
theorem dX2_init_7 : decode cX2_init 7 = .ok (.putfield 7, 3) := by decide +kernel
theorem dX2_init_10 : decode cX2_init 10 = .ok (.return_, 1) := by decide +kernel
theorem dX2_reset_0 : decode cX2_reset 0 = .ok (.aload_n 0, 1) := by decide +kernel
theorem dX2_reset_1 : decode cX2_reset 1 = .ok (.iload_n 1, 1) := by decide +kernel
theorem dX2_reset_2 : decode cX2_reset 2 = .ok (.putfield 7, 3) := by decide +kernel
theorem dX2_reset_5 : decode cX2_reset 5 = .ok (.aload_n 0, 1) := by decide +kernel
theorem dX2_reset_6 : decode cX2_reset 6 = .ok (.aload_n 0, 1) := by decide +kernel
theorem dX2_reset_7 : decode cX2_reset 7 = .ok (.getfield 7, 3) := by decide +kernel
theorem dX2_reset_10 : decode cX2_reset 10 = .ok (.bipush 117, 2) := by decide +kernel
theorem dX2_reset_12 : decode cX2_reset 12 = .ok (.if_icmp .ne 9, 3) := by decide +kernel
theorem dX2_reset_21 : decode cX2_reset 21 = .ok (.aload_n 0, 1) := by decide +kernel
theorem dX2_reset_22 : decode cX2_reset 22 = .ok (.getfield 7, 3) := by decide +kernel
theorem dX2_reset_25 : decode cX2_reset 25 = .ok (.bipush 116, 2) := by decide +kernel
theorem dX2_reset_27 : decode cX2_reset 27 = .ok (.if_icmp .ne 9, 3) := by decide +kernel
theorem dX2_reset_36 : decode cX2_reset 36 = .ok (.sipush 720, 3) := by decide +kernel
theorem dX2_reset_39 : decode cX2_reset 39 = .ok (.putfield 13, 3) := by decide +kernel
theorem dX2_reset_42 : decode cX2_reset 42 = .ok (.aload_n 0, 1) := by decide +kernel
theorem dX2_reset_43 : decode cX2_reset 43 = .ok (.aload_n 0, 1) := by decide +kernel
theorem dX2_reset_44 : decode cX2_reset 44 = .ok (.getfield 7, 3) := by decide +kernel
theorem dX2_reset_47 : decode cX2_reset 47 = .ok (.bipush 117, 2) := by decide +kernel
theorem dX2_reset_49 : decode cX2_reset 49 = .ok (.if_icmp .ne 9, 3) := by decide +kernel
theorem dX2_reset_58 : decode cX2_reset 58 = .ok (.sipush 560, 3) := by decide +kernel
theorem dX2_reset_61 : decode cX2_reset 61 = .ok (.putfield 17, 3) := by decide +kernel
theorem dX2_reset_64 : decode cX2_reset 64 = .ok (.aload_n 0, 1) := by decide +kernel
theorem dX2_reset_65 : decode cX2_reset 65 = .ok (.aload_n 0, 1) := by decide +kernel
theorem dX2_reset_66 : decode cX2_reset 66 = .ok (.getfield 7, 3) := by decide +kernel
theorem dX2_reset_69 : decode cX2_reset 69 = .ok (.bipush 117, 2) := by decide +kernel
theorem dX2_reset_71 : decode cX2_reset 71 = .ok (.if_icmp .ne 9, 3) := by decide +kernel
theorem dX2_reset_80 : decode cX2_reset 80 = .ok (.iconst 0, 1) := by decide +kernel
theorem dX2_reset_81 : decode cX2_reset 81 = .ok (.putfield 20, 3) := by decide +kernel
theorem dX2_reset_84 : decode cX2_reset 84 = .ok (.aload_n 0, 1) := by decide +kernel
theorem dX2_reset_85 : decode cX2_reset 85 = .ok (.aload_n 0, 1) := by decide +kernel
theorem dX2_reset_86 : decode cX2_reset 86 = .ok (.getfield 7, 3) := by decide +kernel
theorem dX2_reset_89 : decode cX2_reset 89 = .ok (.bipush 117, 2) := by decide +kernel
theorem dX2_reset_91 : decode cX2_reset 91 = .ok (.if_icmp .ne 9, 3) := by decide +kernel
theorem dX2_reset_100 : decode cX2_reset 100 = .ok (.aload_n 0, 1) := by decide +kernel
theorem dX2_reset_101 : decode cX2_reset 101 = .ok (.getfield 7, 3) := by decide +kernel
theorem dX2_reset_104 : decode cX2_reset 104 = .ok (.bipush 116, 2) := by decide +kernel
theorem dX2_reset_106 : decode cX2_reset 106 = .ok (.if_icmp .ne 9, 3) := by decide +kernel
theorem dX2_reset_115 : decode cX2_reset 115 = .ok (.sipush 820, 3) := by decide +kernel
theorem dX2_reset_118 : decode cX2_reset 118 = .ok (.putfield 23, 3) := by decide +kernel
theorem dX2_reset_121 : decode cX2_reset 121 = .ok (.aload_n 0, 1) := by decide +kernel
theorem dX2_reset_122 : decode cX2_reset 122 = .ok (.sipush 600, 3) := by decide +kernel
theorem dX2_reset_125 : decode cX2_reset 125 = .ok (.putfield 26, 3) := by decide +kernel
theorem dX2_reset_128 : decode cX2_reset 128 = .ok (.aload_n 0, 1) := by decide +kernel
theorem dX2_reset_129 : decode cX2_reset 129 = .ok (.iconst 0, 1) := by decide +kernel
theorem dX2_reset_130 : decode cX2_reset 130 = .ok (.putfield 29, 3) := by decide +kernel
theorem dX2_reset_133 : decode cX2_reset 133 = .ok (.aload_n 0, 1) := by decide +kernel
theorem dX2_reset_134 : decode cX2_reset 134 = .ok (.iconst 0, 1) := by decide +kernel
theorem dX2_reset_135 : decode cX2_reset 135 = .ok (.putfield 32, 3) := by decide +kernel
theorem dX2_reset_138 : decode cX2_reset 138 = .ok (.aload_n 0, 1) := by decide +kernel
theorem dX2_reset_139 : decode cX2_reset 139 = .ok (.iconst 0, 1) := by decide +kernel
theorem dX2_reset_140 : decode cX2_reset 140 = .ok (.putfield 35, 3) := by decide +kernel
theorem dX2_reset_143 : decode cX2_reset 143 = .ok (.return_, 1) := by decide +kernel
theorem dX3_init_0 : decode cX3_init 0 = .ok (.aload_n 0, 1) := by decide +kernel
theorem dX3_init_1 : decode cX3_init 1 = .ok (.invokespecial 1, 3) := by decide +kernel
theorem dX3_init_4 : decode cX3_init 4 = .ok (.return_, 1) := by decide +kernel
theorem dX4_init_0 : decode cX4_init 0 = .ok (.aload_n 0, 1) := by decide +kernel
theorem dX4_init_1 : decode cX4_init 1 = .ok (.invokespecial 3, 3) := by decide +kernel
theorem dX4_init_4 : decode cX4_init 4 = .ok (.aload_n 0, 1) := by decide +kernel
theorem dX4_init_5 : decode cX4_init 5 = .ok (.bipush 25, 2) := by decide +kernel
theorem dX4_init_7 : decode cX4_init 7 = .ok (.newarray .int, 2) := by decide +kernel
theorem dX4_init_9 : decode cX4_init 9 = .ok (.putfield 9, 3) := by decide +kernel
theorem dX4_init_12 : decode cX4_init 12 = .ok (.aload_n 0, 1) := by decide +kernel
theorem dX4_init_13 : decode cX4_init 13 = .ok (.bipush 25, 2) := by decide +kernel
theorem dX4_init_15 : decode cX4_init 15 = .ok (.newarray .int, 2) := by decide +kernel
theorem dX4_init_17 : decode cX4_init 17 = .ok (.putfield 15, 3) := by decide +kernel
theorem dX4_init_20 : decode cX4_init 20 = .ok (.aload_n 0, 1) := by decide +kernel
theorem dX4_init_21 : decode cX4_init 21 = .ok (.bipush 25, 2) := by decide +kernel
theorem dX4_init_23 : decode cX4_init 23 = .ok (.newarray .int, 2) := by decide +kernel
theorem dX4_init_25 : decode cX4_init 25 = .ok (.putfield 18, 3) := by decide +kernel
theorem dX4_init_28 : decode cX4_init 28 = .ok (.return_, 1) := by decide +kernel
theorem dX5_init_0 : decode cX5_init 0 = .ok (.aload_n 0, 1) := by decide +kernel
theorem dX5_init_1 : decode cX5_init 1 = .ok (.invokespecial 1, 3) := by decide +kernel
theorem dX5_init_4 : decode cX5_init 4 = .ok (.aload_n 0, 1) := by decide +kernel
theorem dX5_init_5 : decode cX5_init 5 = .ok (.aload_n 1, 1) := by decide +kernel
theorem dX5_init_6 : decode cX5_init 6 = .ok (.putfield 7, 3) := by decide +kernel
theorem dX5_init_9 : decode cX5_init 9 = .ok (.return_, 1) := by decide +kernel
theorem dX6_cutSquares_0 : decode cX6_cutSquares 0 = .ok (.lconst 0, 1) := by decide +kernel
theorem dX6_cutSquares_1 : decode cX6_cutSquares 1 = .ok (.lstore_n 1, 1) := by decide +kernel
theorem dX6_cutSquares_2 : decode cX6_cutSquares 2 = .ok (.iconst 0, 1) := by decide +kernel
theorem dX6_cutSquares_3 : decode cX6_cutSquares 3 = .ok (.istore_n 3, 1) := by decide +kernel
theorem dX6_cutSquares_4 : decode cX6_cutSquares 4 = .ok (.iload_n 3, 1) := by decide +kernel
theorem dX6_cutSquares_5 : decode cX6_cutSquares 5 = .ok (.aload_n 0, 1) := by decide +kernel
theorem dX6_cutSquares_6 : decode cX6_cutSquares 6 = .ok (.getfield 51, 3) := by decide +kernel
theorem dX6_cutSquares_9 : decode cX6_cutSquares 9 = .ok (.if_icmp .ge 29, 3) := by decide +kernel
theorem dX6_cutSquares_38 : decode cX6_cutSquares 38 = .ok (.lload_n 1, 1) := by decide +kernel
theorem dX6_cutSquares_39 : decode cX6_cutSquares 39 = .ok (.lreturn, 1) := by decide +kernel
theorem dX6_hasModulesInTheWay_0 : decode cX6_hasModulesInTheWay 0 = .ok (.iconst 0, 1) := by decide +kernel
theorem dX6_hasModulesInTheWay_1 : decode cX6_hasModulesInTheWay 1 = .ok (.istore_n 1, 1) := by decide +kernel
theorem dX6_hasModulesInTheWay_2 : decode cX6_hasModulesInTheWay 2 = .ok (.iload_n 1, 1) := by decide +kernel
theorem dX6_hasModulesInTheWay_3 : decode cX6_hasModulesInTheWay 3 = .ok (.aload_n 0, 1) := by decide +kernel
theorem dX6_hasModulesInTheWay_4 : decode cX6_hasModulesInTheWay 4 = .ok (.getfield 51, 3) := by decide +kernel
theorem dX6_hasModulesInTheWay_7 : decode cX6_hasModulesInTheWay 7 = .ok (.if_icmp .ge 56, 3) := by decide +kernel
theorem dX6_hasModulesInTheWay_63 : decode cX6_hasModulesInTheWay 63 = .ok (.iconst 0, 1) := by decide +kernel
theorem dX6_hasModulesInTheWay_64 : decode cX6_hasModulesInTheWay 64 = .ok (.ireturn, 1) := by decide +kernel
theorem dX6_hasOnlyOwnParts_0 : decode cX6_hasOnlyOwnParts 0 = .ok (.iconst 0, 1) := by decide +kernel
theorem dX6_hasOnlyOwnParts_1 : decode cX6_hasOnlyOwnParts 1 = .ok (.istore_n 1, 1) := by decide +kernel
theorem dX6_hasOnlyOwnParts_2 : decode cX6_hasOnlyOwnParts 2 = .ok (.iload_n 1, 1) := by decide +kernel
theorem dX6_hasOnlyOwnParts_3 : decode cX6_hasOnlyOwnParts 3 = .ok (.aload_n 0, 1) := by decide +kernel
theorem dX6_hasOnlyOwnParts_4 : decode cX6_hasOnlyOwnParts 4 = .ok (.getfield 51, 3) := by decide +kernel
theorem dX6_hasOnlyOwnParts_7 : decode cX6_hasOnlyOwnParts 7 = .ok (.if_icmp .ge 34, 3) := by decide +kernel
theorem dX6_hasOnlyOwnParts_41 : decode cX6_hasOnlyOwnParts 41 = .ok (.iconst 1, 1) := by decide +kernel
theorem dX6_hasOnlyOwnParts_42 : decode cX6_hasOnlyOwnParts 42 = .ok (.ireturn, 1) := by decide +kernel
theorem dX6_moduleAt_0 : decode cX6_moduleAt 0 = .ok (.iload_n 1, 1) := by decide +kernel
theorem dX6_moduleAt_1 : decode cX6_moduleAt 1 = .ok (.ifCond .lt 17, 3) := by decide +kernel
theorem dX6_moduleAt_4 : decode cX6_moduleAt 4 = .ok (.iload_n 1, 1) := by decide +kernel
theorem dX6_moduleAt_5 : decode cX6_moduleAt 5 = .ok (.aload_n 0, 1) := by decide +kernel
theorem dX6_moduleAt_6 : decode cX6_moduleAt 6 = .ok (.getfield 51, 3) := by decide +kernel
theorem dX6_moduleAt_9 : decode cX6_moduleAt 9 = .ok (.if_icmp .ge 9, 3) := by decide +kernel
theorem dX6_moduleAt_18 : decode cX6_moduleAt 18 = .ok (.new 48, 3) := by decide +kernel
theorem dX6_moduleAt_21 : decode cX6_moduleAt 21 = .ok (.dup, 1) := by decide +kernel
theorem dX6_moduleAt_22 : decode cX6_moduleAt 22 = .ok (.invokespecial 50, 3) := by decide +kernel
theorem dX6_moduleAt_25 : decode cX6_moduleAt 25 = .ok (.athrow, 1) := by decide +kernel
theorem dX6_wallAt_0 : decode cX6_wallAt 0 = .ok (.iload_n 1, 1) := by decide +kernel
theorem dX6_wallAt_1 : decode cX6_wallAt 1 = .ok (.ifCond .lt 17, 3) := by decide +kernel
theorem dX6_wallAt_4 : decode cX6_wallAt 4 = .ok (.iload_n 1, 1) := by decide +kernel
theorem dX6_wallAt_5 : decode cX6_wallAt 5 = .ok (.aload_n 0, 1) := by decide +kernel
theorem dX6_wallAt_6 : decode cX6_wallAt 6 = .ok (.getfield 44, 3) := by decide +kernel
theorem dX6_wallAt_9 : decode cX6_wallAt 9 = .ok (.if_icmp .ge 9, 3) := by decide +kernel
theorem dX6_wallAt_12 : decode cX6_wallAt 12 = .ok (.iload_n 1, 1) := by decide +kernel
theorem dX6_wallAt_13 : decode cX6_wallAt 13 = .ok (.bipush 6, 2) := by decide +kernel
theorem dX6_wallAt_15 : decode cX6_wallAt 15 = .ok (.if_icmp .lt 11, 3) := by decide +kernel
theorem dX6_wallAt_18 : decode cX6_wallAt 18 = .ok (.new 48, 3) := by decide +kernel
theorem dX6_wallAt_21 : decode cX6_wallAt 21 = .ok (.dup, 1) := by decide +kernel
theorem dX6_wallAt_22 : decode cX6_wallAt 22 = .ok (.invokespecial 50, 3) := by decide +kernel
theorem dX6_wallAt_25 : decode cX6_wallAt 25 = .ok (.athrow, 1) := by decide +kernel
theorem dX6_wallAt_26 : decode cX6_wallAt 26 = .ok (.aload_n 0, 1) := by decide +kernel
theorem dX6_wallAt_27 : decode cX6_wallAt 27 = .ok (.getfield 11, 3) := by decide +kernel
theorem dX6_wallAt_30 : decode cX6_wallAt 30 = .ok (.iload_n 1, 1) := by decide +kernel
theorem dX6_wallAt_31 : decode cX6_wallAt 31 = .ok (.aaload, 1) := by decide +kernel
theorem dX6_wallAt_32 : decode cX6_wallAt 32 = .ok (.areturn, 1) := by decide +kernel
theorem dX8_boardAt_0 : decode cX8_boardAt 0 = .ok (.iload_n 1, 1) := by decide +kernel
theorem dX8_boardAt_1 : decode cX8_boardAt 1 = .ok (.ifCond .lt 17, 3) := by decide +kernel
theorem dX8_boardAt_4 : decode cX8_boardAt 4 = .ok (.iload_n 1, 1) := by decide +kernel
theorem dX8_boardAt_5 : decode cX8_boardAt 5 = .ok (.aload_n 0, 1) := by decide +kernel
theorem dX8_boardAt_6 : decode cX8_boardAt 6 = .ok (.getfield 16, 3) := by decide +kernel
theorem dX8_boardAt_9 : decode cX8_boardAt 9 = .ok (.if_icmp .ge 9, 3) := by decide +kernel
theorem dX8_boardAt_18 : decode cX8_boardAt 18 = .ok (.new 20, 3) := by decide +kernel
theorem dX8_boardAt_21 : decode cX8_boardAt 21 = .ok (.dup, 1) := by decide +kernel
theorem dX8_boardAt_22 : decode cX8_boardAt 22 = .ok (.invokespecial 22, 3) := by decide +kernel
theorem dX8_boardAt_25 : decode cX8_boardAt 25 = .ok (.athrow, 1) := by decide +kernel
theorem dX8_offcutCount_0 : decode cX8_offcutCount 0 = .ok (.iconst 0, 1) := by decide +kernel
theorem dX8_offcutCount_1 : decode cX8_offcutCount 1 = .ok (.istore_n 1, 1) := by decide +kernel
theorem dX8_offcutCount_2 : decode cX8_offcutCount 2 = .ok (.iconst 0, 1) := by decide +kernel
theorem dX8_offcutCount_3 : decode cX8_offcutCount 3 = .ok (.istore_n 2, 1) := by decide +kernel
theorem dX8_offcutCount_4 : decode cX8_offcutCount 4 = .ok (.iload_n 2, 1) := by decide +kernel
theorem dX8_offcutCount_5 : decode cX8_offcutCount 5 = .ok (.aload_n 0, 1) := by decide +kernel
theorem dX8_offcutCount_6 : decode cX8_offcutCount 6 = .ok (.getfield 16, 3) := by decide +kernel
theorem dX8_offcutCount_9 : decode cX8_offcutCount 9 = .ok (.if_icmp .ge 28, 3) := by decide +kernel
theorem dX8_offcutCount_37 : decode cX8_offcutCount 37 = .ok (.iload_n 1, 1) := by decide +kernel
theorem dX8_offcutCount_38 : decode cX8_offcutCount 38 = .ok (.ireturn, 1) := by decide +kernel
theorem dX8_squares_0 : decode cX8_squares 0 = .ok (.lconst 0, 1) := by decide +kernel
theorem dX8_squares_1 : decode cX8_squares 1 = .ok (.lstore_n 1, 1) := by decide +kernel
theorem dX8_squares_2 : decode cX8_squares 2 = .ok (.iconst 0, 1) := by decide +kernel
theorem dX8_squares_3 : decode cX8_squares 3 = .ok (.istore_n 3, 1) := by decide +kernel
theorem dX8_squares_4 : decode cX8_squares 4 = .ok (.iload_n 3, 1) := by decide +kernel
theorem dX8_squares_5 : decode cX8_squares 5 = .ok (.aload_n 0, 1) := by decide +kernel
theorem dX8_squares_6 : decode cX8_squares 6 = .ok (.getfield 16, 3) := by decide +kernel
theorem dX8_squares_9 : decode cX8_squares 9 = .ok (.if_icmp .ge 21, 3) := by decide +kernel
theorem dX8_squares_30 : decode cX8_squares 30 = .ok (.lload_n 1, 1) := by decide +kernel
theorem dX8_squares_31 : decode cX8_squares 31 = .ok (.lreturn, 1) := by decide +kernel
theorem dX9_append_0 : decode cX9_append 0 = .ok (.aload_n 0, 1) := by decide +kernel
theorem dX9_append_1 : decode cX9_append 1 = .ok (.getfield 31, 3) := by decide +kernel
theorem dX9_append_4 : decode cX9_append 4 = .ok (.ifCond .lt 32, 3) := by decide +kernel
theorem dX9_append_7 : decode cX9_append 7 = .ok (.aload_n 0, 1) := by decide +kernel
theorem dX9_append_8 : decode cX9_append 8 = .ok (.getfield 31, 3) := by decide +kernel
theorem dX9_append_11 : decode cX9_append 11 = .ok (.bipush 30, 2) := by decide +kernel
theorem dX9_append_13 : decode cX9_append 13 = .ok (.if_icmp .ge 23, 3) := by decide +kernel
theorem dX9_append_16 : decode cX9_append 16 = .ok (.aload_n 0, 1) := by decide +kernel
theorem dX9_append_17 : decode cX9_append 17 = .ok (.getfield 9, 3) := by decide +kernel
theorem dX9_append_20 : decode cX9_append 20 = .ok (.aload_n 0, 1) := by decide +kernel
theorem dX9_append_21 : decode cX9_append 21 = .ok (.getfield 31, 3) := by decide +kernel
theorem dX9_append_24 : decode cX9_append 24 = .ok (.iload_n 1, 1) := by decide +kernel
theorem dX9_append_25 : decode cX9_append 25 = .ok (.castore, 1) := by decide +kernel
theorem dX9_append_26 : decode cX9_append 26 = .ok (.aload_n 0, 1) := by decide +kernel
theorem dX9_append_27 : decode cX9_append 27 = .ok (.dup, 1) := by decide +kernel
theorem dX9_append_28 : decode cX9_append 28 = .ok (.getfield 31, 3) := by decide +kernel
theorem dX9_append_31 : decode cX9_append 31 = .ok (.iconst 1, 1) := by decide +kernel
theorem dX9_append_32 : decode cX9_append 32 = .ok (.iadd, 1) := by decide +kernel
theorem dX9_append_33 : decode cX9_append 33 = .ok (.putfield 31, 3) := by decide +kernel
theorem dX9_append_36 : decode cX9_append 36 = .ok (.aload_n 0, 1) := by decide +kernel
theorem dX9_append_37 : decode cX9_append 37 = .ok (.getfield 31, 3) := by decide +kernel
theorem dX9_append_40 : decode cX9_append 40 = .ok (.ireturn, 1) := by decide +kernel
theorem dX9_clearText_0 : decode cX9_clearText 0 = .ok (.aload_n 0, 1) := by decide +kernel
theorem dX9_clearText_1 : decode cX9_clearText 1 = .ok (.getfield 31, 3) := by decide +kernel
theorem dX9_clearText_4 : decode cX9_clearText 4 = .ok (.istore_n 1, 1) := by decide +kernel
theorem dX9_clearText_5 : decode cX9_clearText 5 = .ok (.aload_n 0, 1) := by decide +kernel
theorem dX9_clearText_6 : decode cX9_clearText 6 = .ok (.iconst 0, 1) := by decide +kernel
theorem dX9_clearText_7 : decode cX9_clearText 7 = .ok (.putfield 31, 3) := by decide +kernel
theorem dX9_clearText_10 : decode cX9_clearText 10 = .ok (.iload_n 1, 1) := by decide +kernel
theorem dX9_clearText_11 : decode cX9_clearText 11 = .ok (.ireturn, 1) := by decide +kernel
theorem dX9_fail_0 : decode cX9_fail 0 = .ok (.aload_n 0, 1) := by decide +kernel
theorem dX9_fail_1 : decode cX9_fail 1 = .ok (.iload_n 1, 1) := by decide +kernel
theorem dX9_fail_2 : decode cX9_fail 2 = .ok (.putfield 75, 3) := by decide +kernel
theorem dX9_fail_5 : decode cX9_fail 5 = .ok (.aload_n 0, 1) := by decide +kernel
theorem dX9_fail_6 : decode cX9_fail 6 = .ok (.iload_n 2, 1) := by decide +kernel
theorem dX9_fail_7 : decode cX9_fail 7 = .ok (.putfield 78, 3) := by decide +kernel
theorem dX9_fail_10 : decode cX9_fail 10 = .ok (.aload_n 0, 1) := by decide +kernel
theorem dX9_fail_11 : decode cX9_fail 11 = .ok (.iconst 0, 1) := by decide +kernel
theorem dX9_fail_12 : decode cX9_fail 12 = .ok (.putfield 46, 3) := by decide +kernel
theorem dX9_fail_15 : decode cX9_fail 15 = .ok (.return_, 1) := by decide +kernel
theorem dX9_first_0 : decode cX9_first 0 = .ok (.aload_n 0, 1) := by decide +kernel
theorem dX9_first_1 : decode cX9_first 1 = .ok (.getfield 15, 3) := by decide +kernel
theorem dX9_first_4 : decode cX9_first 4 = .ok (.iconst 0, 1) := by decide +kernel
theorem dX9_first_5 : decode cX9_first 5 = .ok (.aaload, 1) := by decide +kernel
theorem dX9_first_6 : decode cX9_first 6 = .ok (.areturn, 1) := by decide +kernel
theorem dX9_hasFault_0 : decode cX9_hasFault 0 = .ok (.aload_n 0, 1) := by decide +kernel
theorem dX9_hasFault_1 : decode cX9_hasFault 1 = .ok (.getfield 46, 3) := by decide +kernel
theorem dX9_hasFault_4 : decode cX9_hasFault 4 = .ok (.ifCond .ne 7, 3) := by decide +kernel
theorem dX9_hasFault_7 : decode cX9_hasFault 7 = .ok (.iconst 1, 1) := by decide +kernel
theorem dX9_hasFault_8 : decode cX9_hasFault 8 = .ok (.goto 4, 3) := by decide +kernel
theorem dX9_hasFault_11 : decode cX9_hasFault 11 = .ok (.iconst 0, 1) := by decide +kernel
theorem dX9_hasFault_12 : decode cX9_hasFault 12 = .ok (.ireturn, 1) := by decide +kernel
theorem dX9_typeAt_0 : decode cX9_typeAt 0 = .ok (.iload_n 1, 1) := by decide +kernel
theorem dX9_typeAt_1 : decode cX9_typeAt 1 = .ok (.ifCond .lt 17, 3) := by decide +kernel
theorem dX9_typeAt_4 : decode cX9_typeAt 4 = .ok (.iload_n 1, 1) := by decide +kernel
theorem dX9_typeAt_5 : decode cX9_typeAt 5 = .ok (.aload_n 0, 1) := by decide +kernel
theorem dX9_typeAt_6 : decode cX9_typeAt 6 = .ok (.getfield 24, 3) := by decide +kernel
theorem dX9_typeAt_9 : decode cX9_typeAt 9 = .ok (.if_icmp .ge 9, 3) := by decide +kernel
theorem dX9_typeAt_18 : decode cX9_typeAt 18 = .ok (.new 28, 3) := by decide +kernel
theorem dX9_typeAt_21 : decode cX9_typeAt 21 = .ok (.dup, 1) := by decide +kernel
theorem dX9_typeAt_22 : decode cX9_typeAt 22 = .ok (.invokespecial 30, 3) := by decide +kernel
theorem dX9_typeAt_25 : decode cX9_typeAt 25 = .ok (.athrow, 1) := by decide +kernel
theorem dJ0_checkBoundsOffCount_cabcc_0 : decode cJ0_checkBoundsOffCount_cabcc 0 = .ok (.iload_n 0, 1) := by decide +kernel
theorem dJ0_checkBoundsOffCount_cabcc_1 : decode cJ0_checkBoundsOffCount_cabcc 1 = .ok (.iload_n 1, 1) := by decide +kernel
theorem dJ0_checkBoundsOffCount_cabcc_2 : decode cJ0_checkBoundsOffCount_cabcc 2 = .ok (.iload_n 2, 1) := by decide +kernel
theorem dJ0_checkBoundsOffCount_cabcc_3 : decode cJ0_checkBoundsOffCount_cabcc 3 = .ok (.getstatic 1053, 3) := by decide +kernel
theorem dJ0_checkBoundsOffCount_cabcc_6 : decode cJ0_checkBoundsOffCount_cabcc 6 = .ok (.invokestatic 1065, 3) := by decide +kernel
theorem dJ0_checkBoundsOffCount_cabcc_9 : decode cJ0_checkBoundsOffCount_cabcc 9 = .ok (.ireturn, 1) := by decide +kernel
theorem dJ0_checkIndex_df160_0 : decode cJ0_checkIndex_df160 0 = .ok (.iload_n 0, 1) := by decide +kernel
theorem dJ0_checkIndex_df160_1 : decode cJ0_checkIndex_df160 1 = .ok (.iload_n 1, 1) := by decide +kernel
theorem dJ0_checkIndex_df160_2 : decode cJ0_checkIndex_df160 2 = .ok (.getstatic 1053, 3) := by decide +kernel
theorem dJ0_checkIndex_df160_5 : decode cJ0_checkIndex_df160 5 = .ok (.invokestatic 1059, 3) := by decide +kernel
theorem dJ0_checkIndex_df160_8 : decode cJ0_checkIndex_df160 8 = .ok (.pop, 1) := by decide +kernel
theorem dJ0_checkIndex_df160_9 : decode cJ0_checkIndex_df160 9 = .ok (.return_, 1) := by decide +kernel
theorem dJ0_getBytes_840e7_0 : decode cJ0_getBytes_840e7 0 = .ok (.aload_n 0, 1) := by decide +kernel
theorem dJ0_getBytes_840e7_1 : decode cJ0_getBytes_840e7 1 = .ok (.invokevirtual 335, 3) := by decide +kernel
theorem dJ0_getBytes_840e7_4 : decode cJ0_getBytes_840e7 4 = .ok (.iload_n 3, 1) := by decide +kernel
theorem dJ0_getBytes_840e7_5 : decode cJ0_getBytes_840e7 5 = .ok (.if_icmp .ne 23, 3) := by decide +kernel
theorem dJ0_getBytes_840e7_8 : decode cJ0_getBytes_840e7 8 = .ok (.aload_n 0, 1) := by decide +kernel
theorem dJ0_getBytes_840e7_9 : decode cJ0_getBytes_840e7 9 = .ok (.getfield 9, 3) := by decide +kernel
theorem dJ0_getBytes_840e7_12 : decode cJ0_getBytes_840e7 12 = .ok (.iconst 0, 1) := by decide +kernel
theorem dJ0_getBytes_840e7_13 : decode cJ0_getBytes_840e7 13 = .ok (.aload_n 1, 1) := by decide +kernel
theorem dJ0_getBytes_840e7_14 : decode cJ0_getBytes_840e7 14 = .ok (.iload_n 2, 1) := by decide +kernel
theorem dJ0_getBytes_840e7_15 : decode cJ0_getBytes_840e7 15 = .ok (.iload_n 3, 1) := by decide +kernel
theorem dJ0_getBytes_840e7_16 : decode cJ0_getBytes_840e7 16 = .ok (.ishl, 1) := by decide +kernel
theorem dJ0_getBytes_840e7_17 : decode cJ0_getBytes_840e7 17 = .ok (.aload_n 0, 1) := by decide +kernel
theorem dJ0_getBytes_840e7_18 : decode cJ0_getBytes_840e7 18 = .ok (.getfield 9, 3) := by decide +kernel
theorem dJ0_getBytes_840e7_21 : decode cJ0_getBytes_840e7 21 = .ok (.arraylength, 1) := by decide +kernel
theorem dJ0_getBytes_840e7_22 : decode cJ0_getBytes_840e7 22 = .ok (.invokestatic 212, 3) := by decide +kernel
theorem dJ0_getBytes_840e7_25 : decode cJ0_getBytes_840e7 25 = .ok (.goto 18, 3) := by decide +kernel
theorem dJ0_getBytes_840e7_43 : decode cJ0_getBytes_840e7 43 = .ok (.return_, 1) := by decide +kernel
theorem dJ0_length_8abf5_0 : decode cJ0_length_8abf5 0 = .ok (.aload_n 0, 1) := by decide +kernel
theorem dJ0_length_8abf5_1 : decode cJ0_length_8abf5 1 = .ok (.getfield 9, 3) := by decide +kernel
theorem dJ0_length_8abf5_4 : decode cJ0_length_8abf5 4 = .ok (.arraylength, 1) := by decide +kernel
theorem dJ0_length_8abf5_5 : decode cJ0_length_8abf5 5 = .ok (.aload_n 0, 1) := by decide +kernel
theorem dJ0_length_8abf5_6 : decode cJ0_length_8abf5 6 = .ok (.invokevirtual 335, 3) := by decide +kernel
theorem dJ0_length_8abf5_9 : decode cJ0_length_8abf5 9 = .ok (.ishr, 1) := by decide +kernel
theorem dJ0_length_8abf5_10 : decode cJ0_length_8abf5 10 = .ok (.ireturn, 1) := by decide +kernel
theorem dJ1_indexOf_4cfef_0 : decode cJ1_indexOf_4cfef 0 = .ok (.iload_n 1, 1) := by decide +kernel
theorem dJ1_indexOf_4cfef_1 : decode cJ1_indexOf_4cfef 1 = .ok (.invokestatic 88, 3) := by decide +kernel
theorem dJ1_indexOf_4cfef_4 : decode cJ1_indexOf_4cfef 4 = .ok (.ifCond .ne 5, 3) := by decide +kernel
theorem dJ1_indexOf_4cfef_7 : decode cJ1_indexOf_4cfef 7 = .ok (.iconst (-1), 1) := by decide +kernel
theorem dJ1_indexOf_4cfef_8 : decode cJ1_indexOf_4cfef 8 = .ok (.ireturn, 1) := by decide +kernel
theorem dJ1_indexOf_4cfef_9 : decode cJ1_indexOf_4cfef 9 = .ok (.iload_n 2, 1) := by decide +kernel
theorem dJ1_indexOf_4cfef_10 : decode cJ1_indexOf_4cfef 10 = .ok (.iconst 0, 1) := by decide +kernel
theorem dJ1_indexOf_4cfef_11 : decode cJ1_indexOf_4cfef 11 = .ok (.invokestatic 92, 3) := by decide +kernel
theorem dJ1_indexOf_4cfef_14 : decode cJ1_indexOf_4cfef 14 = .ok (.istore_n 2, 1) := by decide +kernel
theorem dJ1_indexOf_4cfef_15 : decode cJ1_indexOf_4cfef 15 = .ok (.iload_n 3, 1) := by decide +kernel
theorem dJ1_indexOf_4cfef_16 : decode cJ1_indexOf_4cfef 16 = .ok (.aload_n 0, 1) := by decide +kernel
theorem dJ1_indexOf_4cfef_17 : decode cJ1_indexOf_4cfef 17 = .ok (.arraylength, 1) := by decide +kernel
theorem dJ1_indexOf_4cfef_18 : decode cJ1_indexOf_4cfef 18 = .ok (.invokestatic 38, 3) := by decide +kernel
theorem dJ1_indexOf_4cfef_21 : decode cJ1_indexOf_4cfef 21 = .ok (.istore_n 3, 1) := by decide +kernel
theorem dJ1_indexOf_4cfef_22 : decode cJ1_indexOf_4cfef 22 = .ok (.iload_n 2, 1) := by decide +kernel
theorem dJ1_indexOf_4cfef_23 : decode cJ1_indexOf_4cfef 23 = .ok (.iload_n 3, 1) := by decide +kernel
theorem dJ1_indexOf_4cfef_24 : decode cJ1_indexOf_4cfef 24 = .ok (.if_icmp .lt 5, 3) := by decide +kernel
theorem dJ1_indexOf_4cfef_29 : decode cJ1_indexOf_4cfef 29 = .ok (.aload_n 0, 1) := by decide +kernel
theorem dJ1_indexOf_4cfef_30 : decode cJ1_indexOf_4cfef 30 = .ok (.iload_n 1, 1) := by decide +kernel
theorem dJ1_indexOf_4cfef_31 : decode cJ1_indexOf_4cfef 31 = .ok (.iload_n 2, 1) := by decide +kernel
theorem dJ1_indexOf_4cfef_32 : decode cJ1_indexOf_4cfef 32 = .ok (.iload_n 3, 1) := by decide +kernel
theorem dJ1_indexOf_4cfef_33 : decode cJ1_indexOf_4cfef 33 = .ok (.invokestatic 95, 3) := by decide +kernel
theorem dJ1_indexOf_4cfef_36 : decode cJ1_indexOf_4cfef 36 = .ok (.ireturn, 1) := by decide +kernel
theorem dJ2_newBytesFor_77867_0 : decode cJ2_newBytesFor_77867 0 = .ok (.iload_n 0, 1) := by decide +kernel
theorem dJ2_newBytesFor_77867_1 : decode cJ2_newBytesFor_77867 1 = .ok (.invokestatic 11, 3) := by decide +kernel
theorem dJ2_newBytesFor_77867_4 : decode cJ2_newBytesFor_77867 4 = .ok (.newarray .byte, 2) := by decide +kernel
theorem dJ2_newBytesFor_77867_6 : decode cJ2_newBytesFor_77867 6 = .ok (.areturn, 1) := by decide +kernel
theorem dJ4_init_da8c8_0 : decode cJ4_init_da8c8 0 = .ok (.aload_n 0, 1) := by decide +kernel
theorem dJ4_init_da8c8_1 : decode cJ4_init_da8c8 1 = .ok (.bipush 16, 2) := by decide +kernel
theorem dJ4_init_da8c8_3 : decode cJ4_init_da8c8 3 = .ok (.invokespecial 1, 3) := by decide +kernel
theorem dJ4_init_da8c8_6 : decode cJ4_init_da8c8 6 = .ok (.return_, 1) := by decide +kernel
theorem dJ4_length_8abf5_0 : decode cJ4_length_8abf5 0 = .ok (.aload_n 0, 1) := by decide +kernel
theorem dJ4_length_8abf5_1 : decode cJ4_length_8abf5 1 = .ok (.invokespecial 343, 3) := by decide +kernel
theorem dJ4_length_8abf5_4 : decode cJ4_length_8abf5 4 = .ok (.ireturn, 1) := by decide +kernel
theorem dJ7_copyOfRangeByte_39247_0 : decode cJ7_copyOfRangeByte_39247 0 = .ok (.iload_n 1, 1) := by decide +kernel
theorem dJ7_copyOfRangeByte_39247_1 : decode cJ7_copyOfRangeByte_39247 1 = .ok (.iload_n 2, 1) := by decide +kernel
theorem dJ7_copyOfRangeByte_39247_2 : decode cJ7_copyOfRangeByte_39247 2 = .ok (.invokestatic 343, 3) := by decide +kernel
theorem dJ7_copyOfRangeByte_39247_5 : decode cJ7_copyOfRangeByte_39247 5 = .ok (.iload_n 2, 1) := by decide +kernel
theorem dJ7_copyOfRangeByte_39247_6 : decode cJ7_copyOfRangeByte_39247 6 = .ok (.iload_n 1, 1) := by decide +kernel
theorem dJ7_copyOfRangeByte_39247_7 : decode cJ7_copyOfRangeByte_39247 7 = .ok (.isub, 1) := by decide +kernel
theorem dJ7_copyOfRangeByte_39247_8 : decode cJ7_copyOfRangeByte_39247 8 = .ok (.istore_n 3, 1) := by decide +kernel
theorem dJ7_copyOfRangeByte_39247_9 : decode cJ7_copyOfRangeByte_39247 9 = .ok (.iload_n 3, 1) := by decide +kernel
theorem dJ7_copyOfRangeByte_39247_10 : decode cJ7_copyOfRangeByte_39247 10 = .ok (.newarray .byte, 2) := by decide +kernel
theorem dJ7_copyOfRangeByte_39247_12 : decode cJ7_copyOfRangeByte_39247 12 = .ok (.astore 4, 2) := by decide +kernel
theorem dJ7_copyOfRangeByte_39247_14 : decode cJ7_copyOfRangeByte_39247 14 = .ok (.aload_n 0, 1) := by decide +kernel
theorem dJ7_copyOfRangeByte_39247_15 : decode cJ7_copyOfRangeByte_39247 15 = .ok (.iload_n 1, 1) := by decide +kernel
theorem dJ7_copyOfRangeByte_39247_16 : decode cJ7_copyOfRangeByte_39247 16 = .ok (.aload 4, 2) := by decide +kernel
theorem dJ7_copyOfRangeByte_39247_18 : decode cJ7_copyOfRangeByte_39247 18 = .ok (.iconst 0, 1) := by decide +kernel
theorem dJ7_copyOfRangeByte_39247_19 : decode cJ7_copyOfRangeByte_39247 19 = .ok (.aload_n 0, 1) := by decide +kernel
theorem dJ7_copyOfRangeByte_39247_20 : decode cJ7_copyOfRangeByte_39247 20 = .ok (.arraylength, 1) := by decide +kernel
theorem dJ7_copyOfRangeByte_39247_21 : decode cJ7_copyOfRangeByte_39247 21 = .ok (.iload_n 1, 1) := by decide +kernel
theorem dJ7_copyOfRangeByte_39247_22 : decode cJ7_copyOfRangeByte_39247 22 = .ok (.isub, 1) := by decide +kernel
theorem dJ7_copyOfRangeByte_39247_23 : decode cJ7_copyOfRangeByte_39247 23 = .ok (.iload_n 3, 1) := by decide +kernel
theorem dJ7_copyOfRangeByte_39247_24 : decode cJ7_copyOfRangeByte_39247 24 = .ok (.invokestatic 304, 3) := by decide +kernel
theorem dJ7_copyOfRangeByte_39247_27 : decode cJ7_copyOfRangeByte_39247 27 = .ok (.invokestatic 150, 3) := by decide +kernel
theorem dJ7_copyOfRangeByte_39247_30 : decode cJ7_copyOfRangeByte_39247 30 = .ok (.aload 4, 2) := by decide +kernel
theorem dJ7_copyOfRangeByte_39247_32 : decode cJ7_copyOfRangeByte_39247 32 = .ok (.areturn, 1) := by decide +kernel
theorem dJ7_copyOf_6403c_0 : decode cJ7_copyOf_6403c 0 = .ok (.aload_n 2, 1) := by decide +kernel
theorem dJ7_copyOf_6403c_1 : decode cJ7_copyOf_6403c 1 = .ok (.ldc 110, 2) := by decide +kernel
theorem dJ7_copyOf_6403c_3 : decode cJ7_copyOf_6403c 3 = .ok (.if_acmp .ne 10, 3) := by decide +kernel
theorem dJ7_copyOf_6403c_6 : decode cJ7_copyOf_6403c 6 = .ok (.iload_n 1, 1) := by decide +kernel
theorem dJ7_copyOf_6403c_7 : decode cJ7_copyOf_6403c 7 = .ok (.anewarray 2, 3) := by decide +kernel
theorem dJ7_copyOf_6403c_10 : decode cJ7_copyOf_6403c 10 = .ok (.goto 14, 3) := by decide +kernel
theorem dJ7_copyOf_6403c_24 : decode cJ7_copyOf_6403c 24 = .ok (.astore_n 3, 1) := by decide +kernel
theorem dJ7_copyOf_6403c_25 : decode cJ7_copyOf_6403c 25 = .ok (.aload_n 0, 1) := by decide +kernel
theorem dJ7_copyOf_6403c_26 : decode cJ7_copyOf_6403c 26 = .ok (.iconst 0, 1) := by decide +kernel
theorem dJ7_copyOf_6403c_27 : decode cJ7_copyOf_6403c 27 = .ok (.aload_n 3, 1) := by decide +kernel
theorem dJ7_copyOf_6403c_28 : decode cJ7_copyOf_6403c 28 = .ok (.iconst 0, 1) := by decide +kernel
theorem dJ7_copyOf_6403c_29 : decode cJ7_copyOf_6403c 29 = .ok (.aload_n 0, 1) := by decide +kernel
theorem dJ7_copyOf_6403c_30 : decode cJ7_copyOf_6403c 30 = .ok (.arraylength, 1) := by decide +kernel
theorem dJ7_copyOf_6403c_31 : decode cJ7_copyOf_6403c 31 = .ok (.iload_n 1, 1) := by decide +kernel
theorem dJ7_copyOf_6403c_32 : decode cJ7_copyOf_6403c 32 = .ok (.invokestatic 304, 3) := by decide +kernel
theorem dJ7_copyOf_6403c_35 : decode cJ7_copyOf_6403c 35 = .ok (.invokestatic 150, 3) := by decide +kernel
theorem dJ7_copyOf_6403c_38 : decode cJ7_copyOf_6403c 38 = .ok (.aload_n 3, 1) := by decide +kernel
theorem dJ7_copyOf_6403c_39 : decode cJ7_copyOf_6403c 39 = .ok (.areturn, 1) := by decide +kernel
theorem dJ8_newLength_cabcc_0 : decode cJ8_newLength_cabcc 0 = .ok (.iload_n 0, 1) := by decide +kernel
theorem dJ8_newLength_cabcc_1 : decode cJ8_newLength_cabcc 1 = .ok (.iload_n 1, 1) := by decide +kernel
theorem dJ8_newLength_cabcc_2 : decode cJ8_newLength_cabcc 2 = .ok (.iload_n 2, 1) := by decide +kernel
theorem dJ8_newLength_cabcc_3 : decode cJ8_newLength_cabcc 3 = .ok (.invokestatic 194, 3) := by decide +kernel
theorem dJ8_newLength_cabcc_6 : decode cJ8_newLength_cabcc 6 = .ok (.iadd, 1) := by decide +kernel
theorem dJ8_newLength_cabcc_7 : decode cJ8_newLength_cabcc 7 = .ok (.istore_n 3, 1) := by decide +kernel
theorem dJ8_newLength_cabcc_8 : decode cJ8_newLength_cabcc 8 = .ok (.iconst 0, 1) := by decide +kernel
theorem dJ8_newLength_cabcc_9 : decode cJ8_newLength_cabcc 9 = .ok (.iload_n 3, 1) := by decide +kernel
theorem dJ8_newLength_cabcc_10 : decode cJ8_newLength_cabcc 10 = .ok (.if_icmp .ge 11, 3) := by decide +kernel
theorem dJ8_newLength_cabcc_13 : decode cJ8_newLength_cabcc 13 = .ok (.iload_n 3, 1) := by decide +kernel
theorem dJ8_newLength_cabcc_14 : decode cJ8_newLength_cabcc 14 = .ok (.ldc 200, 2) := by decide +kernel
theorem dJ8_newLength_cabcc_16 : decode cJ8_newLength_cabcc 16 = .ok (.if_icmp .gt 5, 3) := by decide +kernel
theorem dJ8_newLength_cabcc_19 : decode cJ8_newLength_cabcc 19 = .ok (.iload_n 3, 1) := by decide +kernel
theorem dJ8_newLength_cabcc_20 : decode cJ8_newLength_cabcc 20 = .ok (.ireturn, 1) := by decide +kernel
theorem dJx4a65c_iterator_32c93_0 : decode cJx4a65c_iterator_32c93 0 = .ok (.new 267, 3) := by decide +kernel
theorem dJx4a65c_iterator_32c93_3 : decode cJx4a65c_iterator_32c93 3 = .ok (.dup, 1) := by decide +kernel
theorem dJx4a65c_iterator_32c93_4 : decode cJx4a65c_iterator_32c93 4 = .ok (.aload_n 0, 1) := by decide +kernel
theorem dJx4a65c_iterator_32c93_5 : decode cJx4a65c_iterator_32c93 5 = .ok (.invokespecial 269, 3) := by decide +kernel
theorem dJx4a65c_iterator_32c93_8 : decode cJx4a65c_iterator_32c93 8 = .ok (.areturn, 1) := by decide +kernel
theorem dJxc12de_init_da8c8_0 : decode cJxc12de_init_da8c8 0 = .ok (.aload_n 0, 1) := by decide +kernel
theorem dJxc12de_init_da8c8_1 : decode cJxc12de_init_da8c8 1 = .ok (.invokespecial 1, 3) := by decide +kernel
theorem dJxc12de_init_da8c8_4 : decode cJxc12de_init_da8c8 4 = .ok (.aload_n 0, 1) := by decide +kernel
theorem dJxc12de_init_da8c8_5 : decode cJxc12de_init_da8c8 5 = .ok (.iconst 0, 1) := by decide +kernel
theorem dJxc12de_init_da8c8_6 : decode cJxc12de_init_da8c8 6 = .ok (.putfield 7, 3) := by decide +kernel
theorem dJxc12de_init_da8c8_9 : decode cJxc12de_init_da8c8 9 = .ok (.return_, 1) := by decide +kernel
theorem dL_clash_0 : decode cL_clash 0 = .ok (.aload_n 2, 1) := by decide +kernel
theorem dL_clash_1 : decode cL_clash 1 = .ok (.iconst 0, 1) := by decide +kernel
theorem dL_clash_2 : decode cL_clash 2 = .ok (.aload_n 0, 1) := by decide +kernel
theorem dL_clash_3 : decode cL_clash 3 = .ok (.iload_n 1, 1) := by decide +kernel
theorem dL_clash_4 : decode cL_clash 4 = .ok (.invokevirtual 68, 3) := by decide +kernel
theorem dL_clash_12 : decode cL_clash 12 = .ok (.astore_n 3, 1) := by decide +kernel
theorem dL_clash_13 : decode cL_clash 13 = .ok (.iconst 1, 1) := by decide +kernel
theorem dL_clash_14 : decode cL_clash 14 = .ok (.ireturn, 1) := by decide +kernel
theorem dL_clashNumber_0 : decode cL_clashNumber 0 = .ok (.aload_n 2, 1) := by decide +kernel
theorem dL_clashNumber_1 : decode cL_clashNumber 1 = .ok (.iconst 0, 1) := by decide +kernel
theorem dL_clashNumber_2 : decode cL_clashNumber 2 = .ok (.aload_n 0, 1) := by decide +kernel
theorem dL_clashNumber_3 : decode cL_clashNumber 3 = .ok (.iload_n 1, 1) := by decide +kernel
theorem dL_clashNumber_4 : decode cL_clashNumber 4 = .ok (.invokevirtual 72, 3) := by decide +kernel
theorem dL_clashNumber_12 : decode cL_clashNumber 12 = .ok (.astore_n 3, 1) := by decide +kernel
theorem dL_clashNumber_13 : decode cL_clashNumber 13 = .ok (.iconst 1, 1) := by decide +kernel
theorem dL_clashNumber_14 : decode cL_clashNumber 14 = .ok (.ireturn, 1) := by decide +kernel
theorem dL_close_0 : decode cL_close 0 = .ok (.aload_n 1, 1) := by decide +kernel
theorem dL_close_1 : decode cL_close 1 = .ok (.iconst 0, 1) := by decide +kernel
theorem dL_close_2 : decode cL_close 2 = .ok (.aload_n 0, 1) := by decide +kernel
theorem dL_close_3 : decode cL_close 3 = .ok (.invokevirtual 17, 3) := by decide +kernel
theorem dL_close_11 : decode cL_close 11 = .ok (.astore_n 2, 1) := by decide +kernel
theorem dL_close_12 : decode cL_close 12 = .ok (.iconst 1, 1) := by decide +kernel
theorem dL_close_13 : decode cL_close 13 = .ok (.ireturn, 1) := by decide +kernel
theorem dL_cutShare_0 : decode cL_cutShare 0 = .ok (.aload_n 1, 1) := by decide +kernel
theorem dL_cutShare_1 : decode cL_cutShare 1 = .ok (.iconst 0, 1) := by decide +kernel
theorem dL_cutShare_2 : decode cL_cutShare 2 = .ok (.aload_n 0, 1) := by decide +kernel
theorem dL_cutShare_3 : decode cL_cutShare 3 = .ok (.invokevirtual 162, 3) := by decide +kernel
theorem dL_cutShare_11 : decode cL_cutShare 11 = .ok (.astore_n 2, 1) := by decide +kernel
theorem dL_cutShare_12 : decode cL_cutShare 12 = .ok (.iconst 1, 1) := by decide +kernel
theorem dL_cutShare_13 : decode cL_cutShare 13 = .ok (.ireturn, 1) := by decide +kernel
theorem dL_jobAt_0 : decode cL_jobAt 0 = .ok (.aload_n 2, 1) := by decide +kernel
theorem dL_jobAt_1 : decode cL_jobAt 1 = .ok (.iconst 0, 1) := by decide +kernel
theorem dL_jobAt_2 : decode cL_jobAt 2 = .ok (.aload_n 0, 1) := by decide +kernel
theorem dL_jobAt_3 : decode cL_jobAt 3 = .ok (.iload_n 1, 1) := by decide +kernel
theorem dL_jobAt_4 : decode cL_jobAt 4 = .ok (.invokevirtual 155, 3) := by decide +kernel
theorem dL_jobAt_12 : decode cL_jobAt 12 = .ok (.astore_n 3, 1) := by decide +kernel
theorem dL_jobAt_13 : decode cL_jobAt 13 = .ok (.iconst 1, 1) := by decide +kernel
theorem dL_jobAt_14 : decode cL_jobAt 14 = .ok (.ireturn, 1) := by decide +kernel
theorem dL_meanWidth_0 : decode cL_meanWidth 0 = .ok (.aload_n 1, 1) := by decide +kernel
theorem dL_meanWidth_1 : decode cL_meanWidth 1 = .ok (.iconst 0, 1) := by decide +kernel
theorem dL_meanWidth_2 : decode cL_meanWidth 2 = .ok (.aload_n 0, 1) := by decide +kernel
theorem dL_meanWidth_3 : decode cL_meanWidth 3 = .ok (.invokevirtual 166, 3) := by decide +kernel
theorem dL_meanWidth_10 : decode cL_meanWidth 10 = .ok (.astore_n 2, 1) := by decide +kernel
theorem dL_meanWidth_11 : decode cL_meanWidth 11 = .ok (.iconst 1, 1) := by decide +kernel
theorem dL_meanWidth_12 : decode cL_meanWidth 12 = .ok (.ireturn, 1) := by decide +kernel
theorem dX11_area_0 : decode cX11_area 0 = .ok (.iload_n 1, 1) := by decide +kernel
theorem dX11_area_1 : decode cX11_area 1 = .ok (.lookupswitch 91 #[(99, 51), (100, 75), (112, 67), (115, 59), (120, 83)], 51) := by decide +kernel
theorem dX11_area_52 : decode cX11_area 52 = .ok (.aload_n 0, 1) := by decide +kernel
theorem dX11_area_53 : decode cX11_area 53 = .ok (.getfield 32, 3) := by decide +kernel
theorem dX11_area_56 : decode cX11_area 56 = .ok (.getfield 305, 3) := by decide +kernel
theorem dX11_area_59 : decode cX11_area 59 = .ok (.lreturn, 1) := by decide +kernel
theorem dX11_area_60 : decode cX11_area 60 = .ok (.aload_n 0, 1) := by decide +kernel
theorem dX11_area_61 : decode cX11_area 61 = .ok (.getfield 32, 3) := by decide +kernel
theorem dX11_area_64 : decode cX11_area 64 = .ok (.invokevirtual 385, 3) := by decide +kernel
theorem dX11_area_67 : decode cX11_area 67 = .ok (.lreturn, 1) := by decide +kernel
theorem dX11_area_68 : decode cX11_area 68 = .ok (.aload_n 0, 1) := by decide +kernel
theorem dX11_area_69 : decode cX11_area 69 = .ok (.getfield 25, 3) := by decide +kernel
theorem dX11_area_72 : decode cX11_area 72 = .ok (.invokevirtual 388, 3) := by decide +kernel
theorem dX11_area_75 : decode cX11_area 75 = .ok (.lreturn, 1) := by decide +kernel
theorem dX11_area_76 : decode cX11_area 76 = .ok (.aload_n 0, 1) := by decide +kernel
theorem dX11_area_77 : decode cX11_area 77 = .ok (.getfield 32, 3) := by decide +kernel
theorem dX11_area_80 : decode cX11_area 80 = .ok (.getfield 391, 3) := by decide +kernel
theorem dX11_area_83 : decode cX11_area 83 = .ok (.lreturn, 1) := by decide +kernel
theorem dX11_area_84 : decode cX11_area 84 = .ok (.aload_n 0, 1) := by decide +kernel
theorem dX11_area_85 : decode cX11_area 85 = .ok (.getfield 32, 3) := by decide +kernel
theorem dX11_area_88 : decode cX11_area 88 = .ok (.getfield 224, 3) := by decide +kernel
theorem dX11_area_91 : decode cX11_area 91 = .ok (.lreturn, 1) := by decide +kernel
theorem dX11_area_92 : decode cX11_area 92 = .ok (.new 67, 3) := by decide +kernel
theorem dX11_area_95 : decode cX11_area 95 = .ok (.dup, 1) := by decide +kernel
theorem dX11_area_96 : decode cX11_area 96 = .ok (.invokespecial 69, 3) := by decide +kernel
theorem dX11_area_99 : decode cX11_area 99 = .ok (.athrow, 1) := by decide +kernel
theorem dX11_board_0 : decode cX11_board 0 = .ok (.aload_n 0, 1) := by decide +kernel
theorem dX11_board_1 : decode cX11_board 1 = .ok (.getfield 32, 3) := by decide +kernel
theorem dX11_board_4 : decode cX11_board 4 = .ok (.iload_n 1, 1) := by decide +kernel
theorem dX11_board_5 : decode cX11_board 5 = .ok (.invokevirtual 311, 3) := by decide +kernel
theorem dX11_change_0 : decode cX11_change 0 = .ok (.aload_n 0, 1) := by decide +kernel
theorem dX11_change_1 : decode cX11_change 1 = .ok (.getfield 25, 3) := by decide +kernel
theorem dX11_change_4 : decode cX11_change 4 = .ok (.iload_n 1, 1) := by decide +kernel
theorem dX11_change_5 : decode cX11_change 5 = .ok (.invokevirtual 198, 3) := by decide +kernel
theorem dX11_cut_0 : decode cX11_cut 0 = .ok (.aload_n 0, 1) := by decide +kernel
theorem dX11_cut_1 : decode cX11_cut 1 = .ok (.getfield 25, 3) := by decide +kernel
theorem dX11_cut_4 : decode cX11_cut 4 = .ok (.iload_n 1, 1) := by decide +kernel
theorem dX11_cut_5 : decode cX11_cut 5 = .ok (.invokevirtual 198, 3) := by decide +kernel
theorem dX11_edged_0 : decode cX11_edged 0 = .ok (.iload_n 1, 1) := by decide +kernel
theorem dX11_edged_1 : decode cX11_edged 1 = .ok (.invokestatic 186, 3) := by decide +kernel
theorem dX11_edged_4 : decode cX11_edged 4 = .ok (.ifCond .eq 11, 3) := by decide +kernel
theorem dX11_edged_7 : decode cX11_edged 7 = .ok (.new 67, 3) := by decide +kernel
theorem dX11_edged_10 : decode cX11_edged 10 = .ok (.dup, 1) := by decide +kernel
theorem dX11_edged_11 : decode cX11_edged 11 = .ok (.invokespecial 69, 3) := by decide +kernel
theorem dX11_edged_14 : decode cX11_edged 14 = .ok (.athrow, 1) := by decide +kernel
theorem dX11_edged_15 : decode cX11_edged 15 = .ok (.iconst 0, 1) := by decide +kernel
theorem dX11_edged_16 : decode cX11_edged 16 = .ok (.istore_n 2, 1) := by decide +kernel
theorem dX11_edged_17 : decode cX11_edged 17 = .ok (.iconst 0, 1) := by decide +kernel
theorem dX11_edged_18 : decode cX11_edged 18 = .ok (.istore_n 3, 1) := by decide +kernel
theorem dX11_edged_19 : decode cX11_edged 19 = .ok (.iload_n 3, 1) := by decide +kernel
theorem dX11_edged_20 : decode cX11_edged 20 = .ok (.aload_n 0, 1) := by decide +kernel
theorem dX11_edged_21 : decode cX11_edged 21 = .ok (.getfield 25, 3) := by decide +kernel
theorem dX11_edged_24 : decode cX11_edged 24 = .ok (.getfield 74, 3) := by decide +kernel
theorem dX11_edged_27 : decode cX11_edged 27 = .ok (.if_icmp .ge 24, 3) := by decide +kernel
theorem dX11_edged_51 : decode cX11_edged 51 = .ok (.iload_n 2, 1) := by decide +kernel
theorem dX11_edged_52 : decode cX11_edged 52 = .ok (.ireturn, 1) := by decide +kernel
theorem dX11_from_0 : decode cX11_from 0 = .ok (.aload_n 0, 1) := by decide +kernel
theorem dX11_from_1 : decode cX11_from 1 = .ok (.getfield 25, 3) := by decide +kernel
theorem dX11_from_4 : decode cX11_from 4 = .ok (.iload_n 1, 1) := by decide +kernel
theorem dX11_from_5 : decode cX11_from 5 = .ok (.invokevirtual 198, 3) := by decide +kernel
theorem dX11_hinges_0 : decode cX11_hinges 0 = .ok (.aload_n 0, 1) := by decide +kernel
theorem dX11_hinges_1 : decode cX11_hinges 1 = .ok (.getfield 25, 3) := by decide +kernel
theorem dX11_hinges_4 : decode cX11_hinges 4 = .ok (.iload_n 1, 1) := by decide +kernel
theorem dX11_hinges_5 : decode cX11_hinges 5 = .ok (.invokevirtual 198, 3) := by decide +kernel
theorem dX11_isSound_0 : decode cX11_isSound 0 = .ok (.aload_n 0, 1) := by decide +kernel
theorem dX11_isSound_1 : decode cX11_isSound 1 = .ok (.getfield 32, 3) := by decide +kernel
theorem dX11_isSound_4 : decode cX11_isSound 4 = .ok (.invokevirtual 385, 3) := by decide +kernel
theorem dX11_isSound_7 : decode cX11_isSound 7 = .ok (.aload_n 0, 1) := by decide +kernel
theorem dX11_isSound_8 : decode cX11_isSound 8 = .ok (.getfield 25, 3) := by decide +kernel
theorem dX11_isSound_11 : decode cX11_isSound 11 = .ok (.invokevirtual 388, 3) := by decide +kernel
theorem dX11_isSound_14 : decode cX11_isSound 14 = .ok (.ladd, 1) := by decide +kernel
theorem dX11_isSound_15 : decode cX11_isSound 15 = .ok (.aload_n 0, 1) := by decide +kernel
theorem dX11_isSound_16 : decode cX11_isSound 16 = .ok (.getfield 32, 3) := by decide +kernel
theorem dX11_isSound_19 : decode cX11_isSound 19 = .ok (.getfield 391, 3) := by decide +kernel
theorem dX11_isSound_22 : decode cX11_isSound 22 = .ok (.ladd, 1) := by decide +kernel
theorem dX11_isSound_23 : decode cX11_isSound 23 = .ok (.aload_n 0, 1) := by decide +kernel
theorem dX11_isSound_24 : decode cX11_isSound 24 = .ok (.getfield 32, 3) := by decide +kernel
theorem dX11_isSound_27 : decode cX11_isSound 27 = .ok (.getfield 224, 3) := by decide +kernel
theorem dX11_isSound_30 : decode cX11_isSound 30 = .ok (.ladd, 1) := by decide +kernel
theorem dX11_isSound_31 : decode cX11_isSound 31 = .ok (.lstore_n 1, 1) := by decide +kernel
theorem dX11_isSound_32 : decode cX11_isSound 32 = .ok (.lload_n 1, 1) := by decide +kernel
theorem dX11_isSound_33 : decode cX11_isSound 33 = .ok (.aload_n 0, 1) := by decide +kernel
theorem dX11_isSound_34 : decode cX11_isSound 34 = .ok (.getfield 32, 3) := by decide +kernel
theorem dX11_isSound_37 : decode cX11_isSound 37 = .ok (.getfield 305, 3) := by decide +kernel
theorem dX11_isSound_40 : decode cX11_isSound 40 = .ok (.lcmp, 1) := by decide +kernel
theorem dX11_isSound_41 : decode cX11_isSound 41 = .ok (.ifCond .ne 27, 3) := by decide +kernel
theorem dX11_isSound_44 : decode cX11_isSound 44 = .ok (.aload_n 0, 1) := by decide +kernel
theorem dX11_isSound_45 : decode cX11_isSound 45 = .ok (.getfield 25, 3) := by decide +kernel
theorem dX11_isSound_48 : decode cX11_isSound 48 = .ok (.invokevirtual 394, 3) := by decide +kernel
theorem dX11_isSound_51 : decode cX11_isSound 51 = .ok (.ifCond .eq 17, 3) := by decide +kernel
theorem dX11_isSound_54 : decode cX11_isSound 54 = .ok (.aload_n 0, 1) := by decide +kernel
theorem dX11_isSound_55 : decode cX11_isSound 55 = .ok (.getfield 25, 3) := by decide +kernel
theorem dX11_isSound_58 : decode cX11_isSound 58 = .ok (.invokevirtual 397, 3) := by decide +kernel
theorem dX11_isSound_61 : decode cX11_isSound 61 = .ok (.ifCond .ne 7, 3) := by decide +kernel
theorem dX11_isSound_64 : decode cX11_isSound 64 = .ok (.iconst 1, 1) := by decide +kernel
theorem dX11_isSound_65 : decode cX11_isSound 65 = .ok (.goto 4, 3) := by decide +kernel
theorem dX11_isSound_69 : decode cX11_isSound 69 = .ok (.ireturn, 1) := by decide +kernel
theorem dX11_job_0 : decode cX11_job 0 = .ok (.iload_n 1, 1) := by decide +kernel
theorem dX11_job_1 : decode cX11_job 1 = .ok (.invokestatic 186, 3) := by decide +kernel
theorem dX11_job_4 : decode cX11_job 4 = .ok (.ifCond .ne 24, 3) := by decide +kernel
theorem dX11_job_7 : decode cX11_job 7 = .ok (.iload_n 2, 1) := by decide +kernel
theorem dX11_job_8 : decode cX11_job 8 = .ok (.iconst 1, 1) := by decide +kernel
theorem dX11_job_9 : decode cX11_job 9 = .ok (.bipush 99, 2) := by decide +kernel
theorem dX11_job_11 : decode cX11_job 11 = .ok (.invokestatic 63, 3) := by decide +kernel
theorem dX11_job_14 : decode cX11_job 14 = .ok (.ifCond .ne 14, 3) := by decide +kernel
theorem dX11_job_17 : decode cX11_job 17 = .ok (.iload_n 3, 1) := by decide +kernel
theorem dX11_job_18 : decode cX11_job 18 = .ok (.iconst 0, 1) := by decide +kernel
theorem dX11_job_19 : decode cX11_job 19 = .ok (.sipush 999, 3) := by decide +kernel
theorem dX11_job_22 : decode cX11_job 22 = .ok (.invokestatic 63, 3) := by decide +kernel
theorem dX11_job_25 : decode cX11_job 25 = .ok (.ifCond .eq 11, 3) := by decide +kernel
theorem dX11_job_28 : decode cX11_job 28 = .ok (.new 67, 3) := by decide +kernel
theorem dX11_job_31 : decode cX11_job 31 = .ok (.dup, 1) := by decide +kernel
theorem dX11_job_32 : decode cX11_job 32 = .ok (.invokespecial 69, 3) := by decide +kernel
theorem dX11_job_35 : decode cX11_job 35 = .ok (.athrow, 1) := by decide +kernel
theorem dX11_job_36 : decode cX11_job 36 = .ok (.aload_n 0, 1) := by decide +kernel
theorem dX11_job_37 : decode cX11_job 37 = .ok (.getfield 55, 3) := by decide +kernel
theorem dX11_job_40 : decode cX11_job 40 = .ok (.getfield 369, 3) := by decide +kernel
theorem dX11_job_43 : decode cX11_job 43 = .ok (.bipush 6, 2) := by decide +kernel
theorem dX11_job_45 : decode cX11_job 45 = .ok (.if_icmp .lt 11, 3) := by decide +kernel
theorem dX11_job_56 : decode cX11_job 56 = .ok (.aload_n 0, 1) := by decide +kernel
theorem dX11_job_57 : decode cX11_job 57 = .ok (.getfield 55, 3) := by decide +kernel
theorem dX11_job_60 : decode cX11_job 60 = .ok (.iload_n 1, 1) := by decide +kernel
theorem dX11_job_61 : decode cX11_job 61 = .ok (.iload_n 2, 1) := by decide +kernel
theorem dX11_job_62 : decode cX11_job 62 = .ok (.iload_n 3, 1) := by decide +kernel
theorem dX11_job_63 : decode cX11_job 63 = .ok (.invokevirtual 370, 3) := by decide +kernel
theorem dX11_job_66 : decode cX11_job 66 = .ok (.ireturn, 1) := by decide +kernel
theorem dX11_lengthOf_0 : decode cX11_lengthOf 0 = .ok (.aload_n 0, 1) := by decide +kernel
theorem dX11_lengthOf_1 : decode cX11_lengthOf 1 = .ok (.getfield 25, 3) := by decide +kernel
theorem dX11_lengthOf_4 : decode cX11_lengthOf 4 = .ok (.iload_n 1, 1) := by decide +kernel
theorem dX11_lengthOf_5 : decode cX11_lengthOf 5 = .ok (.invokevirtual 107, 3) := by decide +kernel
theorem dX11_moduleWithPart_0 : decode cX11_moduleWithPart 0 = .ok (.aload_n 0, 1) := by decide +kernel
theorem dX11_moduleWithPart_1 : decode cX11_moduleWithPart 1 = .ok (.getfield 25, 3) := by decide +kernel
theorem dX11_moduleWithPart_4 : decode cX11_moduleWithPart 4 = .ok (.iload_n 1, 1) := by decide +kernel
theorem dX11_moduleWithPart_5 : decode cX11_moduleWithPart 5 = .ok (.invokevirtual 198, 3) := by decide +kernel
theorem dX11_obstacle_0 : decode cX11_obstacle 0 = .ok (.aload_n 0, 1) := by decide +kernel
theorem dX11_obstacle_1 : decode cX11_obstacle 1 = .ok (.getfield 25, 3) := by decide +kernel
theorem dX11_obstacle_4 : decode cX11_obstacle 4 = .ok (.iload_n 1, 1) := by decide +kernel
theorem dX11_obstacle_5 : decode cX11_obstacle 5 = .ok (.invokevirtual 107, 3) := by decide +kernel
theorem dX11_offcuts_0 : decode cX11_offcuts 0 = .ok (.aload_n 0, 1) := by decide +kernel
theorem dX11_offcuts_1 : decode cX11_offcuts 1 = .ok (.getfield 32, 3) := by decide +kernel
theorem dX11_offcuts_4 : decode cX11_offcuts 4 = .ok (.invokevirtual 308, 3) := by decide +kernel
theorem dX11_offcuts_7 : decode cX11_offcuts 7 = .ok (.ireturn, 1) := by decide +kernel
theorem dX11_packs_0 : decode cX11_packs 0 = .ok (.aload_n 0, 1) := by decide +kernel
theorem dX11_packs_1 : decode cX11_packs 1 = .ok (.aload_n 0, 1) := by decide +kernel
theorem dX11_packs_2 : decode cX11_packs 2 = .ok (.getfield 25, 3) := by decide +kernel
theorem dX11_packs_5 : decode cX11_packs 5 = .ok (.iload_n 1, 1) := by decide +kernel
theorem dX11_packs_6 : decode cX11_packs 6 = .ok (.invokevirtual 198, 3) := by decide +kernel
theorem dX11_parts_0 : decode cX11_parts 0 = .ok (.aload_n 0, 1) := by decide +kernel
theorem dX11_parts_1 : decode cX11_parts 1 = .ok (.getfield 25, 3) := by decide +kernel
theorem dX11_parts_4 : decode cX11_parts 4 = .ok (.iload_n 1, 1) := by decide +kernel
theorem dX11_parts_5 : decode cX11_parts 5 = .ok (.invokevirtual 198, 3) := by decide +kernel
theorem dX11_place_0 : decode cX11_place 0 = .ok (.aload_n 0, 1) := by decide +kernel
theorem dX11_place_1 : decode cX11_place 1 = .ok (.getfield 10, 3) := by decide +kernel
theorem dX11_place_4 : decode cX11_place 4 = .ok (.iload_n 1, 1) := by decide +kernel
theorem dX11_place_5 : decode cX11_place 5 = .ok (.invokevirtual 165, 3) := by decide +kernel
theorem dX11_price_0 : decode cX11_price 0 = .ok (.aload_n 0, 1) := by decide +kernel
theorem dX11_price_1 : decode cX11_price 1 = .ok (.getfield 25, 3) := by decide +kernel
theorem dX11_price_4 : decode cX11_price 4 = .ok (.iload_n 1, 1) := by decide +kernel
theorem dX11_price_5 : decode cX11_price 5 = .ok (.invokevirtual 198, 3) := by decide +kernel
theorem dX11_setOff_0 : decode cX11_setOff 0 = .ok (.aload_n 0, 1) := by decide +kernel
theorem dX11_setOff_1 : decode cX11_setOff 1 = .ok (.getfield 25, 3) := by decide +kernel
theorem dX11_setOff_4 : decode cX11_setOff 4 = .ok (.iload_n 1, 1) := by decide +kernel
theorem dX11_setOff_5 : decode cX11_setOff 5 = .ok (.invokevirtual 107, 3) := by decide +kernel
theorem dX11_setRate_0 : decode cX11_setRate 0 = .ok (.iload_n 1, 1) := by decide +kernel
theorem dX11_setRate_1 : decode cX11_setRate 1 = .ok (.invokestatic 186, 3) := by decide +kernel
theorem dX11_setRate_4 : decode cX11_setRate 4 = .ok (.ifCond .ne 13, 3) := by decide +kernel
theorem dX11_setRate_7 : decode cX11_setRate 7 = .ok (.iload_n 2, 1) := by decide +kernel
theorem dX11_setRate_8 : decode cX11_setRate 8 = .ok (.iconst 0, 1) := by decide +kernel
theorem dX11_setRate_9 : decode cX11_setRate 9 = .ok (.bipush 100, 2) := by decide +kernel
theorem dX11_setRate_11 : decode cX11_setRate 11 = .ok (.invokestatic 63, 3) := by decide +kernel
theorem dX11_setRate_14 : decode cX11_setRate 14 = .ok (.ifCond .eq 11, 3) := by decide +kernel
theorem dX11_setRate_17 : decode cX11_setRate 17 = .ok (.new 67, 3) := by decide +kernel
theorem dX11_setRate_20 : decode cX11_setRate 20 = .ok (.dup, 1) := by decide +kernel
theorem dX11_setRate_21 : decode cX11_setRate 21 = .ok (.invokespecial 69, 3) := by decide +kernel
theorem dX11_setRate_24 : decode cX11_setRate 24 = .ok (.athrow, 1) := by decide +kernel
theorem dX11_setRate_25 : decode cX11_setRate 25 = .ok (.aload_n 0, 1) := by decide +kernel
theorem dX11_setRate_26 : decode cX11_setRate 26 = .ok (.getfield 59, 3) := by decide +kernel
theorem dX11_setRate_29 : decode cX11_setRate 29 = .ok (.iload_n 1, 1) := by decide +kernel
theorem dX11_setRate_30 : decode cX11_setRate 30 = .ok (.iaload, 1) := by decide +kernel
theorem dX11_setRate_31 : decode cX11_setRate 31 = .ok (.istore_n 3, 1) := by decide +kernel
theorem dX11_setRate_32 : decode cX11_setRate 32 = .ok (.aload_n 0, 1) := by decide +kernel
theorem dX11_setRate_33 : decode cX11_setRate 33 = .ok (.getfield 59, 3) := by decide +kernel
theorem dX11_setRate_36 : decode cX11_setRate 36 = .ok (.iload_n 1, 1) := by decide +kernel
theorem dX11_setRate_37 : decode cX11_setRate 37 = .ok (.iload_n 2, 1) := by decide +kernel
theorem dX11_setRate_38 : decode cX11_setRate 38 = .ok (.iastore, 1) := by decide +kernel
theorem dX11_setRate_39 : decode cX11_setRate 39 = .ok (.iload_n 3, 1) := by decide +kernel
theorem dX11_setRate_40 : decode cX11_setRate 40 = .ok (.ireturn, 1) := by decide +kernel
theorem dX11_setSetup_0 : decode cX11_setSetup 0 = .ok (.iload_n 1, 1) := by decide +kernel
theorem dX11_setSetup_1 : decode cX11_setSetup 1 = .ok (.iconst 0, 1) := by decide +kernel
theorem dX11_setSetup_2 : decode cX11_setSetup 2 = .ok (.bipush 99, 2) := by decide +kernel
theorem dX11_setSetup_4 : decode cX11_setSetup 4 = .ok (.invokestatic 63, 3) := by decide +kernel
theorem dX11_setSetup_7 : decode cX11_setSetup 7 = .ok (.ifCond .eq 11, 3) := by decide +kernel
theorem dX11_setSetup_10 : decode cX11_setSetup 10 = .ok (.new 67, 3) := by decide +kernel
theorem dX11_setSetup_13 : decode cX11_setSetup 13 = .ok (.dup, 1) := by decide +kernel
theorem dX11_setSetup_14 : decode cX11_setSetup 14 = .ok (.invokespecial 69, 3) := by decide +kernel
theorem dX11_setSetup_17 : decode cX11_setSetup 17 = .ok (.athrow, 1) := by decide +kernel
theorem dX11_setSetup_18 : decode cX11_setSetup 18 = .ok (.aload_n 0, 1) := by decide +kernel
theorem dX11_setSetup_19 : decode cX11_setSetup 19 = .ok (.getfield 55, 3) := by decide +kernel
theorem dX11_setSetup_22 : decode cX11_setSetup 22 = .ok (.getfield 373, 3) := by decide +kernel
theorem dX11_setSetup_25 : decode cX11_setSetup 25 = .ok (.istore_n 2, 1) := by decide +kernel
theorem dX11_setSetup_26 : decode cX11_setSetup 26 = .ok (.aload_n 0, 1) := by decide +kernel
theorem dX11_setSetup_27 : decode cX11_setSetup 27 = .ok (.getfield 55, 3) := by decide +kernel
theorem dX11_setSetup_30 : decode cX11_setSetup 30 = .ok (.iload_n 1, 1) := by decide +kernel
theorem dX11_setSetup_31 : decode cX11_setSetup 31 = .ok (.putfield 373, 3) := by decide +kernel
theorem dX11_setSetup_34 : decode cX11_setSetup 34 = .ok (.iload_n 2, 1) := by decide +kernel
theorem dX11_setSetup_35 : decode cX11_setSetup 35 = .ok (.ireturn, 1) := by decide +kernel
theorem dX11_shift_0 : decode cX11_shift 0 = .ok (.aload_n 0, 1) := by decide +kernel
theorem dX11_shift_1 : decode cX11_shift 1 = .ok (.getfield 25, 3) := by decide +kernel
theorem dX11_shift_4 : decode cX11_shift 4 = .ok (.iload_n 1, 1) := by decide +kernel
theorem dX11_shift_5 : decode cX11_shift 5 = .ok (.invokevirtual 198, 3) := by decide +kernel
theorem dX11_told_0 : decode cX11_told 0 = .ok (.aload_n 0, 1) := by decide +kernel
theorem dX11_told_1 : decode cX11_told 1 = .ok (.getfield 10, 3) := by decide +kernel
theorem dX11_told_4 : decode cX11_told 4 = .ok (.iload_n 1, 1) := by decide +kernel
theorem dX11_told_5 : decode cX11_told 5 = .ok (.invokevirtual 165, 3) := by decide +kernel
theorem dX11_type_0 : decode cX11_type 0 = .ok (.aload_n 0, 1) := by decide +kernel
theorem dX11_type_1 : decode cX11_type 1 = .ok (.getfield 10, 3) := by decide +kernel
theorem dX11_type_4 : decode cX11_type 4 = .ok (.getfield 132, 3) := by decide +kernel
theorem dX11_type_7 : decode cX11_type 7 = .ok (.bipush 30, 2) := by decide +kernel
theorem dX11_type_9 : decode cX11_type 9 = .ok (.if_icmp .lt 11, 3) := by decide +kernel
theorem dX11_type_20 : decode cX11_type 20 = .ok (.aload_n 0, 1) := by decide +kernel
theorem dX11_type_21 : decode cX11_type 21 = .ok (.getfield 10, 3) := by decide +kernel
theorem dX11_type_24 : decode cX11_type 24 = .ok (.iload_n 1, 1) := by decide +kernel
theorem dX11_type_25 : decode cX11_type 25 = .ok (.invokevirtual 135, 3) := by decide +kernel
theorem dX11_type_28 : decode cX11_type 28 = .ok (.ireturn, 1) := by decide +kernel
theorem dX11_uncut_0 : decode cX11_uncut 0 = .ok (.aload_n 0, 1) := by decide +kernel
theorem dX11_uncut_1 : decode cX11_uncut 1 = .ok (.getfield 25, 3) := by decide +kernel
theorem dX11_uncut_4 : decode cX11_uncut 4 = .ok (.iload_n 1, 1) := by decide +kernel
theorem dX11_uncut_5 : decode cX11_uncut 5 = .ok (.invokevirtual 198, 3) := by decide +kernel
theorem dX11_wipe_0 : decode cX11_wipe 0 = .ok (.aload_n 0, 1) := by decide +kernel
theorem dX11_wipe_1 : decode cX11_wipe 1 = .ok (.getfield 10, 3) := by decide +kernel
theorem dX11_wipe_4 : decode cX11_wipe 4 = .ok (.invokevirtual 139, 3) := by decide +kernel
theorem dX11_wipe_7 : decode cX11_wipe 7 = .ok (.ireturn, 1) := by decide +kernel
theorem dX1_goToNextOrder_0 : decode cX1_goToNextOrder 0 = .ok (.aload_n 0, 1) := by decide +kernel
theorem dX1_goToNextOrder_1 : decode cX1_goToNextOrder 1 = .ok (.getfield 29, 3) := by decide +kernel
theorem dX1_goToNextOrder_4 : decode cX1_goToNextOrder 4 = .ok (.bipush 6, 2) := by decide +kernel
theorem dX1_goToNextOrder_6 : decode cX1_goToNextOrder 6 = .ok (.invokestatic 52, 3) := by decide +kernel
theorem dX1_goToNextOrder_9 : decode cX1_goToNextOrder 9 = .ok (.iconst 1, 1) := by decide +kernel
theorem dX1_goToNextOrder_10 : decode cX1_goToNextOrder 10 = .ok (.isub, 1) := by decide +kernel
theorem dX1_goToNextOrder_11 : decode cX1_goToNextOrder 11 = .ok (.istore_n 1, 1) := by decide +kernel
theorem dX1_goToNextOrder_12 : decode cX1_goToNextOrder 12 = .ok (.iload_n 1, 1) := by decide +kernel
theorem dX1_goToNextOrder_13 : decode cX1_goToNextOrder 13 = .ok (.iconst 1, 1) := by decide +kernel
theorem dX1_goToNextOrder_14 : decode cX1_goToNextOrder 14 = .ok (.isub, 1) := by decide +kernel
theorem dX1_goToNextOrder_15 : decode cX1_goToNextOrder 15 = .ok (.istore_n 2, 1) := by decide +kernel
theorem dX1_goToNextOrder_16 : decode cX1_goToNextOrder 16 = .ok (.iload_n 2, 1) := by decide +kernel
theorem dX1_goToNextOrder_17 : decode cX1_goToNextOrder 17 = .ok (.ifCond .lt 42, 3) := by decide +kernel
theorem dX1_goToNextOrder_59 : decode cX1_goToNextOrder 59 = .ok (.iconst 0, 1) := by decide +kernel
theorem dX1_goToNextOrder_60 : decode cX1_goToNextOrder 60 = .ok (.ireturn, 1) := by decide +kernel
theorem dX21_board_0 : decode cX21_board 0 = .ok (.aload_n 0, 1) := by decide +kernel
theorem dX21_board_1 : decode cX21_board 1 = .ok (.iload_n 1, 1) := by decide +kernel
theorem dX21_board_2 : decode cX21_board 2 = .ok (.iconst 0, 1) := by decide +kernel
theorem dX21_board_3 : decode cX21_board 3 = .ok (.aload_n 0, 1) := by decide +kernel
theorem dX21_board_4 : decode cX21_board 4 = .ok (.getfield 31, 3) := by decide +kernel
theorem dX21_board_7 : decode cX21_board 7 = .ok (.invokevirtual 69, 3) := by decide +kernel
theorem dX21_board_10 : decode cX21_board 10 = .ok (.iconst 1, 1) := by decide +kernel
theorem dX21_board_11 : decode cX21_board 11 = .ok (.isub, 1) := by decide +kernel
theorem dX21_board_12 : decode cX21_board 12 = .ok (.invokestatic 65, 3) := by decide +kernel
theorem dX21_board_15 : decode cX21_board 15 = .ok (.ifCond .ne 7, 3) := by decide +kernel
theorem dX21_board_18 : decode cX21_board 18 = .ok (.iconst 1, 1) := by decide +kernel
theorem dX21_board_19 : decode cX21_board 19 = .ok (.goto 18, 3) := by decide +kernel
theorem dX21_board_37 : decode cX21_board 37 = .ok (.putfield 54, 3) := by decide +kernel
theorem dX21_board_40 : decode cX21_board 40 = .ok (.aload_n 0, 1) := by decide +kernel
theorem dX21_board_41 : decode cX21_board 41 = .ok (.getfield 54, 3) := by decide +kernel
theorem dX21_board_44 : decode cX21_board 44 = .ok (.ifCond .le 5, 3) := by decide +kernel
theorem dX21_board_47 : decode cX21_board 47 = .ok (.iconst 0, 1) := by decide +kernel
theorem dX21_board_48 : decode cX21_board 48 = .ok (.ireturn, 1) := by decide +kernel
theorem dX21_boards_0 : decode cX21_boards 0 = .ok (.aload_n 0, 1) := by decide +kernel
theorem dX21_boards_1 : decode cX21_boards 1 = .ok (.iconst 0, 1) := by decide +kernel
theorem dX21_boards_2 : decode cX21_boards 2 = .ok (.putfield 54, 3) := by decide +kernel
theorem dX21_boards_5 : decode cX21_boards 5 = .ok (.aload_n 0, 1) := by decide +kernel
theorem dX21_boards_6 : decode cX21_boards 6 = .ok (.getfield 31, 3) := by decide +kernel
theorem dX21_boards_9 : decode cX21_boards 9 = .ok (.invokevirtual 69, 3) := by decide +kernel
theorem dX21_boards_12 : decode cX21_boards 12 = .ok (.ireturn, 1) := by decide +kernel
theorem dX21_close_0 : decode cX21_close 0 = .ok (.aload_n 0, 1) := by decide +kernel
theorem dX21_close_1 : decode cX21_close 1 = .ok (.getfield 10, 3) := by decide +kernel
theorem dX21_close_4 : decode cX21_close 4 = .ok (.invokevirtual 69, 3) := by decide +kernel
theorem dX21_close_7 : decode cX21_close 7 = .ok (.iconst 4, 1) := by decide +kernel
theorem dX21_close_8 : decode cX21_close 8 = .ok (.if_icmp .lt 49, 3) := by decide +kernel
theorem dX21_close_57 : decode cX21_close 57 = .ok (.aload_n 0, 1) := by decide +kernel
theorem dX21_close_58 : decode cX21_close 58 = .ok (.iconst 1, 1) := by decide +kernel
theorem dX21_close_59 : decode cX21_close 59 = .ok (.invokevirtual 125, 3) := by decide +kernel
theorem dX21_close_62 : decode cX21_close 62 = .ok (.ireturn, 1) := by decide +kernel
theorem dX21_isClosedRoom_0 : decode cX21_isClosedRoom 0 = .ok (.aload_n 0, 1) := by decide +kernel
theorem dX21_isClosedRoom_1 : decode cX21_isClosedRoom 1 = .ok (.iconst 0, 1) := by decide +kernel
theorem dX21_isClosedRoom_2 : decode cX21_isClosedRoom 2 = .ok (.putfield 54, 3) := by decide +kernel
theorem dX21_isClosedRoom_5 : decode cX21_isClosedRoom 5 = .ok (.aload_n 0, 1) := by decide +kernel
theorem dX21_isClosedRoom_6 : decode cX21_isClosedRoom 6 = .ok (.getfield 10, 3) := by decide +kernel
theorem dX21_isClosedRoom_9 : decode cX21_isClosedRoom 9 = .ok (.invokevirtual 73, 3) := by decide +kernel
theorem dX21_isClosedRoom_12 : decode cX21_isClosedRoom 12 = .ok (.ifCond .ne 37, 3) := by decide +kernel
theorem dX21_isClosedRoom_49 : decode cX21_isClosedRoom 49 = .ok (.iconst 0, 1) := by decide +kernel
theorem dX21_isClosedRoom_50 : decode cX21_isClosedRoom 50 = .ok (.ireturn, 1) := by decide +kernel
theorem dX21_isType_0 : decode cX21_isType 0 = .ok (.iload_n 1, 1) := by decide +kernel
theorem dX21_isType_1 : decode cX21_isType 1 = .ok (.iconst 0, 1) := by decide +kernel
theorem dX21_isType_2 : decode cX21_isType 2 = .ok (.aload_n 0, 1) := by decide +kernel
theorem dX21_isType_3 : decode cX21_isType 3 = .ok (.getfield 25, 3) := by decide +kernel
theorem dX21_isType_6 : decode cX21_isType 6 = .ok (.invokevirtual 69, 3) := by decide +kernel
theorem dX21_isType_9 : decode cX21_isType 9 = .ok (.iconst 1, 1) := by decide +kernel
theorem dX21_isType_10 : decode cX21_isType 10 = .ok (.isub, 1) := by decide +kernel
theorem dX21_isType_11 : decode cX21_isType 11 = .ok (.invokestatic 65, 3) := by decide +kernel
theorem dX21_isType_14 : decode cX21_isType 14 = .ok (.ireturn, 1) := by decide +kernel
theorem dX21_modules_0 : decode cX21_modules 0 = .ok (.aload_n 0, 1) := by decide +kernel
theorem dX21_modules_1 : decode cX21_modules 1 = .ok (.iconst 0, 1) := by decide +kernel
theorem dX21_modules_2 : decode cX21_modules 2 = .ok (.putfield 54, 3) := by decide +kernel
theorem dX21_modules_5 : decode cX21_modules 5 = .ok (.aload_n 0, 1) := by decide +kernel
theorem dX21_modules_6 : decode cX21_modules 6 = .ok (.getfield 28, 3) := by decide +kernel
theorem dX21_modules_9 : decode cX21_modules 9 = .ok (.invokevirtual 69, 3) := by decide +kernel
theorem dX21_modules_12 : decode cX21_modules 12 = .ok (.ireturn, 1) := by decide +kernel
theorem dX21_noModule_0 : decode cX21_noModule 0 = .ok (.aload_n 0, 1) := by decide +kernel
theorem dX21_noModule_1 : decode cX21_noModule 1 = .ok (.iload_n 1, 1) := by decide +kernel
theorem dX21_noModule_2 : decode cX21_noModule 2 = .ok (.iconst 0, 1) := by decide +kernel
theorem dX21_noModule_3 : decode cX21_noModule 3 = .ok (.aload_n 0, 1) := by decide +kernel
theorem dX21_noModule_4 : decode cX21_noModule 4 = .ok (.getfield 28, 3) := by decide +kernel
theorem dX21_noModule_7 : decode cX21_noModule 7 = .ok (.invokevirtual 69, 3) := by decide +kernel
theorem dX21_noModule_10 : decode cX21_noModule 10 = .ok (.iconst 1, 1) := by decide +kernel
theorem dX21_noModule_11 : decode cX21_noModule 11 = .ok (.isub, 1) := by decide +kernel
theorem dX21_noModule_12 : decode cX21_noModule 12 = .ok (.invokestatic 65, 3) := by decide +kernel
theorem dX21_noModule_15 : decode cX21_noModule 15 = .ok (.ifCond .eq 7, 3) := by decide +kernel
theorem dX21_noModule_22 : decode cX21_noModule 22 = .ok (.iconst 1, 1) := by decide +kernel
theorem dX21_noModule_23 : decode cX21_noModule 23 = .ok (.putfield 54, 3) := by decide +kernel
theorem dX21_noModule_26 : decode cX21_noModule 26 = .ok (.aload_n 0, 1) := by decide +kernel
theorem dX21_noModule_27 : decode cX21_noModule 27 = .ok (.getfield 54, 3) := by decide +kernel
theorem dX21_noModule_30 : decode cX21_noModule 30 = .ok (.ifCond .le 7, 3) := by decide +kernel
theorem dX21_noModule_33 : decode cX21_noModule 33 = .ok (.iconst 1, 1) := by decide +kernel
theorem dX21_noModule_34 : decode cX21_noModule 34 = .ok (.goto 4, 3) := by decide +kernel
theorem dX21_noModule_38 : decode cX21_noModule 38 = .ok (.ireturn, 1) := by decide +kernel
theorem dX21_noWall_0 : decode cX21_noWall 0 = .ok (.aload_n 0, 1) := by decide +kernel
theorem dX21_noWall_1 : decode cX21_noWall 1 = .ok (.iload_n 1, 1) := by decide +kernel
theorem dX21_noWall_2 : decode cX21_noWall 2 = .ok (.iconst 0, 1) := by decide +kernel
theorem dX21_noWall_3 : decode cX21_noWall 3 = .ok (.aload_n 0, 1) := by decide +kernel
theorem dX21_noWall_4 : decode cX21_noWall 4 = .ok (.getfield 10, 3) := by decide +kernel
theorem dX21_noWall_7 : decode cX21_noWall 7 = .ok (.invokevirtual 69, 3) := by decide +kernel
theorem dX21_noWall_10 : decode cX21_noWall 10 = .ok (.iconst 1, 1) := by decide +kernel
theorem dX21_noWall_11 : decode cX21_noWall 11 = .ok (.isub, 1) := by decide +kernel
theorem dX21_noWall_12 : decode cX21_noWall 12 = .ok (.invokestatic 65, 3) := by decide +kernel
theorem dX21_noWall_15 : decode cX21_noWall 15 = .ok (.ifCond .eq 7, 3) := by decide +kernel
theorem dX21_noWall_22 : decode cX21_noWall 22 = .ok (.iconst 1, 1) := by decide +kernel
theorem dX21_noWall_23 : decode cX21_noWall 23 = .ok (.putfield 54, 3) := by decide +kernel
theorem dX21_noWall_26 : decode cX21_noWall 26 = .ok (.aload_n 0, 1) := by decide +kernel
theorem dX21_noWall_27 : decode cX21_noWall 27 = .ok (.getfield 54, 3) := by decide +kernel
theorem dX21_noWall_30 : decode cX21_noWall 30 = .ok (.ifCond .le 7, 3) := by decide +kernel
theorem dX21_noWall_33 : decode cX21_noWall 33 = .ok (.iconst 1, 1) := by decide +kernel
theorem dX21_noWall_34 : decode cX21_noWall 34 = .ok (.goto 4, 3) := by decide +kernel
theorem dX21_noWall_38 : decode cX21_noWall 38 = .ok (.ireturn, 1) := by decide +kernel
theorem dX21_orders_0 : decode cX21_orders 0 = .ok (.aload_n 0, 1) := by decide +kernel
theorem dX21_orders_1 : decode cX21_orders 1 = .ok (.iconst 0, 1) := by decide +kernel
theorem dX21_orders_2 : decode cX21_orders 2 = .ok (.putfield 54, 3) := by decide +kernel
theorem dX21_orders_5 : decode cX21_orders 5 = .ok (.aload_n 0, 1) := by decide +kernel
theorem dX21_orders_6 : decode cX21_orders 6 = .ok (.ldc_w 480, 3) := by decide +kernel
theorem dX21_orders_9 : decode cX21_orders 9 = .ok (.putfield 460, 3) := by decide +kernel
theorem dX21_orders_12 : decode cX21_orders 12 = .ok (.aload_n 0, 1) := by decide +kernel
theorem dX21_orders_13 : decode cX21_orders 13 = .ok (.aload_n 0, 1) := by decide +kernel
theorem dX21_orders_14 : decode cX21_orders 14 = .ok (.getfield 34, 3) := by decide +kernel
theorem dX21_orders_17 : decode cX21_orders 17 = .ok (.invokevirtual 69, 3) := by decide +kernel
theorem dX21_orders_20 : decode cX21_orders 20 = .ok (.newarray .int, 2) := by decide +kernel
theorem dX21_orders_22 : decode cX21_orders 22 = .ok (.iconst 0, 1) := by decide +kernel
theorem dX21_orders_23 : decode cX21_orders 23 = .ok (.iconst 0, 1) := by decide +kernel
theorem dX21_orders_24 : decode cX21_orders 24 = .ok (.iconst 0, 1) := by decide +kernel
theorem dX21_orders_25 : decode cX21_orders 25 = .ok (.iconst 0, 1) := by decide +kernel
theorem dX21_orders_26 : decode cX21_orders 26 = .ok (.invokevirtual 474, 3) := by decide +kernel
theorem dX21_orders_29 : decode cX21_orders 29 = .ok (.return_, 1) := by decide +kernel
theorem dX21_reads_0 : decode cX21_reads 0 = .ok (.aload_n 0, 1) := by decide +kernel
theorem dX21_reads_1 : decode cX21_reads 1 = .ok (.bipush 32, 2) := by decide +kernel
theorem dX21_reads_3 : decode cX21_reads 3 = .ok (.putfield 176, 3) := by decide +kernel
theorem dX21_reads_6 : decode cX21_reads 6 = .ok (.aload_n 0, 1) := by decide +kernel
theorem dX21_reads_7 : decode cX21_reads 7 = .ok (.new 182, 3) := by decide +kernel
theorem dX21_reads_10 : decode cX21_reads 10 = .ok (.dup, 1) := by decide +kernel
theorem dX21_reads_11 : decode cX21_reads 11 = .ok (.invokespecial 184, 3) := by decide +kernel
theorem dX21_reads_14 : decode cX21_reads 14 = .ok (.putfield 185, 3) := by decide +kernel
theorem dX21_reads_17 : decode cX21_reads 17 = .ok (.iconst 1, 1) := by decide +kernel
theorem dX21_reads_18 : decode cX21_reads 18 = .ok (.istore_n 1, 1) := by decide +kernel
theorem dX21_reads_19 : decode cX21_reads 19 = .ok (.aload_n 0, 1) := by decide +kernel
theorem dX21_reads_20 : decode cX21_reads 20 = .ok (.getfield 21, 3) := by decide +kernel
theorem dX21_reads_23 : decode cX21_reads 23 = .ok (.invokevirtual 189, 3) := by decide +kernel
theorem dX21_reads_26 : decode cX21_reads 26 = .ok (.ifCond .eq 8, 3) := by decide +kernel
theorem dX21_reads_29 : decode cX21_reads 29 = .ok (.bipush 32, 2) := by decide +kernel
theorem dX21_reads_31 : decode cX21_reads 31 = .ok (.goto 11, 3) := by decide +kernel
theorem dX21_reads_42 : decode cX21_reads 42 = .ok (.istore_n 2, 1) := by decide +kernel
theorem dX21_reads_43 : decode cX21_reads 43 = .ok (.iload_n 2, 1) := by decide +kernel
theorem dX21_reads_44 : decode cX21_reads 44 = .ok (.bipush 64, 2) := by decide +kernel
theorem dX21_reads_46 : decode cX21_reads 46 = .ok (.if_icmp .ne 57, 3) := by decide +kernel
theorem dX21_reads_103 : decode cX21_reads 103 = .ok (.iload_n 2, 1) := by decide +kernel
theorem dX21_reads_104 : decode cX21_reads 104 = .ok (.bipush 98, 2) := by decide +kernel
theorem dX21_reads_106 : decode cX21_reads 106 = .ok (.if_icmp .eq 15, 3) := by decide +kernel
theorem dX21_reads_109 : decode cX21_reads 109 = .ok (.iload_n 2, 1) := by decide +kernel
theorem dX21_reads_110 : decode cX21_reads 110 = .ok (.bipush 117, 2) := by decide +kernel
theorem dX21_reads_112 : decode cX21_reads 112 = .ok (.if_icmp .eq 9, 3) := by decide +kernel
theorem dX21_reads_115 : decode cX21_reads 115 = .ok (.iload_n 2, 1) := by decide +kernel
theorem dX21_reads_116 : decode cX21_reads 116 = .ok (.bipush 116, 2) := by decide +kernel
theorem dX21_reads_118 : decode cX21_reads 118 = .ok (.if_icmp .ne 14, 3) := by decide +kernel
theorem dX21_reads_132 : decode cX21_reads 132 = .ok (.aload_n 0, 1) := by decide +kernel
theorem dX21_reads_133 : decode cX21_reads 133 = .ok (.bipush 107, 2) := by decide +kernel
theorem dX21_reads_135 : decode cX21_reads 135 = .ok (.iconst 0, 1) := by decide +kernel
theorem dX21_reads_136 : decode cX21_reads 136 = .ok (.invokevirtual 193, 3) := by decide +kernel
theorem dX21_reads_139 : decode cX21_reads 139 = .ok (.return_, 1) := by decide +kernel
theorem dX21_setRate_0 : decode cX21_setRate 0 = .ok (.aload_n 0, 1) := by decide +kernel
theorem dX21_setRate_1 : decode cX21_setRate 1 = .ok (.iload_n 1, 1) := by decide +kernel
theorem dX21_setRate_2 : decode cX21_setRate 2 = .ok (.iconst 0, 1) := by decide +kernel
theorem dX21_setRate_3 : decode cX21_setRate 3 = .ok (.iconst 2, 1) := by decide +kernel
theorem dX21_setRate_4 : decode cX21_setRate 4 = .ok (.invokestatic 65, 3) := by decide +kernel
theorem dX21_setRate_7 : decode cX21_setRate 7 = .ok (.ifCond .eq 17, 3) := by decide +kernel
theorem dX21_setRate_10 : decode cX21_setRate 10 = .ok (.iload_n 2, 1) := by decide +kernel
theorem dX21_setRate_11 : decode cX21_setRate 11 = .ok (.iconst 0, 1) := by decide +kernel
theorem dX21_setRate_12 : decode cX21_setRate 12 = .ok (.bipush 100, 2) := by decide +kernel
theorem dX21_setRate_14 : decode cX21_setRate 14 = .ok (.invokestatic 65, 3) := by decide +kernel
theorem dX21_setRate_17 : decode cX21_setRate 17 = .ok (.ifCond .eq 7, 3) := by decide +kernel
theorem dX21_setRate_20 : decode cX21_setRate 20 = .ok (.iconst 0, 1) := by decide +kernel
theorem dX21_setRate_21 : decode cX21_setRate 21 = .ok (.goto 4, 3) := by decide +kernel
theorem dX21_setRate_24 : decode cX21_setRate 24 = .ok (.iconst 1, 1) := by decide +kernel
theorem dX21_setRate_25 : decode cX21_setRate 25 = .ok (.putfield 54, 3) := by decide +kernel
theorem dX21_setRate_28 : decode cX21_setRate 28 = .ok (.aload_n 0, 1) := by decide +kernel
theorem dX21_setRate_29 : decode cX21_setRate 29 = .ok (.getfield 54, 3) := by decide +kernel
theorem dX21_setRate_32 : decode cX21_setRate 32 = .ok (.ifCond .le 5, 3) := by decide +kernel
theorem dX21_setRate_35 : decode cX21_setRate 35 = .ok (.iconst 0, 1) := by decide +kernel
theorem dX21_setRate_36 : decode cX21_setRate 36 = .ok (.ireturn, 1) := by decide +kernel
theorem dX21_setRate_37 : decode cX21_setRate 37 = .ok (.aload_n 0, 1) := by decide +kernel
theorem dX21_setRate_38 : decode cX21_setRate 38 = .ok (.getfield 37, 3) := by decide +kernel
theorem dX21_setRate_41 : decode cX21_setRate 41 = .ok (.iload_n 1, 1) := by decide +kernel
theorem dX21_setRate_42 : decode cX21_setRate 42 = .ok (.iaload, 1) := by decide +kernel
theorem dX21_setRate_43 : decode cX21_setRate 43 = .ok (.istore_n 3, 1) := by decide +kernel
theorem dX21_setRate_44 : decode cX21_setRate 44 = .ok (.aload_n 0, 1) := by decide +kernel
theorem dX21_setRate_45 : decode cX21_setRate 45 = .ok (.getfield 37, 3) := by decide +kernel
theorem dX21_setRate_48 : decode cX21_setRate 48 = .ok (.iload_n 1, 1) := by decide +kernel
theorem dX21_setRate_49 : decode cX21_setRate 49 = .ok (.iload_n 2, 1) := by decide +kernel
theorem dX21_setRate_50 : decode cX21_setRate 50 = .ok (.iastore, 1) := by decide +kernel
theorem dX21_setRate_51 : decode cX21_setRate 51 = .ok (.iload_n 3, 1) := by decide +kernel
theorem dX21_setRate_52 : decode cX21_setRate 52 = .ok (.ireturn, 1) := by decide +kernel
theorem dX21_setSetup_0 : decode cX21_setSetup 0 = .ok (.aload_n 0, 1) := by decide +kernel
theorem dX21_setSetup_1 : decode cX21_setSetup 1 = .ok (.iload_n 1, 1) := by decide +kernel
theorem dX21_setSetup_2 : decode cX21_setSetup 2 = .ok (.iconst 0, 1) := by decide +kernel
theorem dX21_setSetup_3 : decode cX21_setSetup 3 = .ok (.bipush 99, 2) := by decide +kernel
theorem dX21_setSetup_5 : decode cX21_setSetup 5 = .ok (.invokestatic 65, 3) := by decide +kernel
theorem dX21_setSetup_8 : decode cX21_setSetup 8 = .ok (.ifCond .eq 7, 3) := by decide +kernel
theorem dX21_setSetup_11 : decode cX21_setSetup 11 = .ok (.iconst 0, 1) := by decide +kernel
theorem dX21_setSetup_12 : decode cX21_setSetup 12 = .ok (.goto 4, 3) := by decide +kernel
theorem dX21_setSetup_15 : decode cX21_setSetup 15 = .ok (.iconst 1, 1) := by decide +kernel
theorem dX21_setSetup_16 : decode cX21_setSetup 16 = .ok (.putfield 54, 3) := by decide +kernel
theorem dX21_setSetup_19 : decode cX21_setSetup 19 = .ok (.aload_n 0, 1) := by decide +kernel
theorem dX21_setSetup_20 : decode cX21_setSetup 20 = .ok (.getfield 54, 3) := by decide +kernel
theorem dX21_setSetup_23 : decode cX21_setSetup 23 = .ok (.ifCond .le 5, 3) := by decide +kernel
theorem dX21_setSetup_26 : decode cX21_setSetup 26 = .ok (.iconst 0, 1) := by decide +kernel
theorem dX21_setSetup_27 : decode cX21_setSetup 27 = .ok (.ireturn, 1) := by decide +kernel
theorem dX21_setSetup_28 : decode cX21_setSetup 28 = .ok (.aload_n 0, 1) := by decide +kernel
theorem dX21_setSetup_29 : decode cX21_setSetup 29 = .ok (.getfield 41, 3) := by decide +kernel
theorem dX21_setSetup_32 : decode cX21_setSetup 32 = .ok (.istore_n 2, 1) := by decide +kernel
theorem dX21_setSetup_33 : decode cX21_setSetup 33 = .ok (.aload_n 0, 1) := by decide +kernel
theorem dX21_setSetup_34 : decode cX21_setSetup 34 = .ok (.iload_n 1, 1) := by decide +kernel
theorem dX21_setSetup_35 : decode cX21_setSetup 35 = .ok (.putfield 41, 3) := by decide +kernel
theorem dX21_setSetup_38 : decode cX21_setSetup 38 = .ok (.iload_n 2, 1) := by decide +kernel
theorem dX21_setSetup_39 : decode cX21_setSetup 39 = .ok (.ireturn, 1) := by decide +kernel
theorem dX6_build_0 : decode cX6_build 0 = .ok (.aload_n 0, 1) := by decide +kernel
theorem dX6_build_1 : decode cX6_build 1 = .ok (.getfield 44, 3) := by decide +kernel
theorem dX6_build_4 : decode cX6_build 4 = .ok (.istore_n 3, 1) := by decide +kernel
theorem dX6_build_5 : decode cX6_build 5 = .ok (.aload_n 0, 1) := by decide +kernel
theorem dX6_build_6 : decode cX6_build 6 = .ok (.dup, 1) := by decide +kernel
theorem dX6_build_7 : decode cX6_build 7 = .ok (.getfield 44, 3) := by decide +kernel
theorem dX6_build_10 : decode cX6_build 10 = .ok (.iconst 1, 1) := by decide +kernel
theorem dX6_build_11 : decode cX6_build 11 = .ok (.iadd, 1) := by decide +kernel
theorem dX6_build_12 : decode cX6_build 12 = .ok (.putfield 44, 3) := by decide +kernel
theorem dX6_build_15 : decode cX6_build 15 = .ok (.aload_n 0, 1) := by decide +kernel
theorem dX6_build_16 : decode cX6_build 16 = .ok (.iload_n 3, 1) := by decide +kernel
theorem dX6_build_17 : decode cX6_build 17 = .ok (.invokevirtual 54, 3) := by decide +kernel
theorem dX6_build_20 : decode cX6_build 20 = .ok (.astore 4, 2) := by decide +kernel
theorem dX6_build_22 : decode cX6_build 22 = .ok (.aload 4, 2) := by decide +kernel
theorem dX6_build_24 : decode cX6_build 24 = .ok (.iload_n 1, 1) := by decide +kernel
theorem dX6_build_25 : decode cX6_build 25 = .ok (.putfield 58, 3) := by decide +kernel
theorem dX6_build_28 : decode cX6_build 28 = .ok (.aload 4, 2) := by decide +kernel
theorem dX6_build_30 : decode cX6_build 30 = .ok (.iload_n 2, 1) := by decide +kernel
theorem dX6_build_31 : decode cX6_build 31 = .ok (.putfield 62, 3) := by decide +kernel
theorem dX6_build_34 : decode cX6_build 34 = .ok (.aload 4, 2) := by decide +kernel
theorem dX6_build_36 : decode cX6_build 36 = .ok (.iload_n 2, 1) := by decide +kernel
theorem dX6_build_37 : decode cX6_build 37 = .ok (.putfield 65, 3) := by decide +kernel
theorem dX6_build_40 : decode cX6_build 40 = .ok (.iload_n 3, 1) := by decide +kernel
theorem dX6_build_41 : decode cX6_build 41 = .ok (.ireturn, 1) := by decide +kernel
theorem dX6_freeRows_0 : decode cX6_freeRows 0 = .ok (.aload_n 0, 1) := by decide +kernel
theorem dX6_freeRows_1 : decode cX6_freeRows 1 = .ok (.iload_n 1, 1) := by decide +kernel
theorem dX6_freeRows_2 : decode cX6_freeRows 2 = .ok (.invokevirtual 54, 3) := by decide +kernel
theorem dX6_init_0 : decode cX6_init 0 = .ok (.aload_n 0, 1) := by decide +kernel
theorem dX6_init_1 : decode cX6_init 1 = .ok (.invokespecial 1, 3) := by decide +kernel
theorem dX6_init_4 : decode cX6_init 4 = .ok (.aload_n 0, 1) := by decide +kernel
theorem dX6_init_5 : decode cX6_init 5 = .ok (.bipush 6, 2) := by decide +kernel
theorem dX6_init_7 : decode cX6_init 7 = .ok (.anewarray 9, 3) := by decide +kernel
theorem dX6_init_10 : decode cX6_init 10 = .ok (.putfield 11, 3) := by decide +kernel
theorem dX6_init_13 : decode cX6_init 13 = .ok (.aload_n 0, 1) := by decide +kernel
theorem dX6_init_14 : decode cX6_init 14 = .ok (.bipush 8, 2) := by decide +kernel
theorem dX6_init_16 : decode cX6_init 16 = .ok (.anewarray 15, 3) := by decide +kernel
theorem dX6_init_19 : decode cX6_init 19 = .ok (.putfield 17, 3) := by decide +kernel
theorem dX6_init_22 : decode cX6_init 22 = .ok (.aload_n 0, 1) := by decide +kernel
theorem dX6_init_23 : decode cX6_init 23 = .ok (.bipush 16, 2) := by decide +kernel
theorem dX6_init_25 : decode cX6_init 25 = .ok (.anewarray 21, 3) := by decide +kernel
theorem dX6_init_28 : decode cX6_init 28 = .ok (.putfield 23, 3) := by decide +kernel
theorem dX6_init_31 : decode cX6_init 31 = .ok (.aload_n 0, 1) := by decide +kernel
theorem dX6_init_32 : decode cX6_init 32 = .ok (.iconst 2, 1) := by decide +kernel
theorem dX6_init_33 : decode cX6_init 33 = .ok (.newarray .char, 2) := by decide +kernel
theorem dX6_init_35 : decode cX6_init 35 = .ok (.putfield 27, 3) := by decide +kernel
theorem dX6_init_38 : decode cX6_init 38 = .ok (.aload_n 0, 1) := by decide +kernel
theorem dX6_init_39 : decode cX6_init 39 = .ok (.iconst 2, 1) := by decide +kernel
theorem dX6_init_40 : decode cX6_init 40 = .ok (.newarray .int, 2) := by decide +kernel
theorem dX6_init_42 : decode cX6_init 42 = .ok (.putfield 31, 3) := by decide +kernel
theorem dX6_init_45 : decode cX6_init 45 = .ok (.iconst 0, 1) := by decide +kernel
theorem dX6_init_46 : decode cX6_init 46 = .ok (.istore_n 2, 1) := by decide +kernel
theorem dX6_init_47 : decode cX6_init 47 = .ok (.iload_n 2, 1) := by decide +kernel
theorem dX6_init_48 : decode cX6_init 48 = .ok (.bipush 6, 2) := by decide +kernel
theorem dX6_init_50 : decode cX6_init 50 = .ok (.if_icmp .ge 22, 3) := by decide +kernel
theorem dX6_init_53 : decode cX6_init 53 = .ok (.aload_n 0, 1) := by decide +kernel
theorem dX6_init_54 : decode cX6_init 54 = .ok (.getfield 11, 3) := by decide +kernel
theorem dX6_init_57 : decode cX6_init 57 = .ok (.iload_n 2, 1) := by decide +kernel
theorem dX6_init_58 : decode cX6_init 58 = .ok (.new 9, 3) := by decide +kernel
theorem dX6_init_61 : decode cX6_init 61 = .ok (.dup, 1) := by decide +kernel
theorem dX6_init_62 : decode cX6_init 62 = .ok (.invokespecial 35, 3) := by decide +kernel
theorem dX6_init_65 : decode cX6_init 65 = .ok (.aastore, 1) := by decide +kernel
theorem dX6_init_66 : decode cX6_init 66 = .ok (.iinc 2 1, 3) := by decide +kernel
theorem dX6_init_69 : decode cX6_init 69 = .ok (.goto (-22), 3) := by decide +kernel
theorem dX6_init_72 : decode cX6_init 72 = .ok (.iconst 0, 1) := by decide +kernel
theorem dX6_init_73 : decode cX6_init 73 = .ok (.istore_n 2, 1) := by decide +kernel
theorem dX6_init_74 : decode cX6_init 74 = .ok (.iload_n 2, 1) := by decide +kernel
theorem dX6_init_75 : decode cX6_init 75 = .ok (.bipush 8, 2) := by decide +kernel
theorem dX6_init_77 : decode cX6_init 77 = .ok (.if_icmp .ge 22, 3) := by decide +kernel
theorem dX6_init_80 : decode cX6_init 80 = .ok (.aload_n 0, 1) := by decide +kernel
theorem dX6_init_81 : decode cX6_init 81 = .ok (.getfield 17, 3) := by decide +kernel
theorem dX6_init_84 : decode cX6_init 84 = .ok (.iload_n 2, 1) := by decide +kernel
theorem dX6_init_85 : decode cX6_init 85 = .ok (.new 15, 3) := by decide +kernel
theorem dX6_init_88 : decode cX6_init 88 = .ok (.dup, 1) := by decide +kernel
theorem dX6_init_89 : decode cX6_init 89 = .ok (.invokespecial 36, 3) := by decide +kernel
theorem dX6_init_92 : decode cX6_init 92 = .ok (.aastore, 1) := by decide +kernel
theorem dX6_init_93 : decode cX6_init 93 = .ok (.iinc 2 1, 3) := by decide +kernel
theorem dX6_init_96 : decode cX6_init 96 = .ok (.goto (-22), 3) := by decide +kernel
theorem dX6_init_99 : decode cX6_init 99 = .ok (.iconst 0, 1) := by decide +kernel
theorem dX6_init_100 : decode cX6_init 100 = .ok (.istore_n 2, 1) := by decide +kernel
theorem dX6_init_101 : decode cX6_init 101 = .ok (.iload_n 2, 1) := by decide +kernel
theorem dX6_init_102 : decode cX6_init 102 = .ok (.bipush 16, 2) := by decide +kernel
theorem dX6_init_104 : decode cX6_init 104 = .ok (.if_icmp .ge 23, 3) := by decide +kernel
theorem dX6_init_107 : decode cX6_init 107 = .ok (.aload_n 0, 1) := by decide +kernel
theorem dX6_init_108 : decode cX6_init 108 = .ok (.getfield 23, 3) := by decide +kernel
theorem dX6_init_111 : decode cX6_init 111 = .ok (.iload_n 2, 1) := by decide +kernel
theorem dX6_init_112 : decode cX6_init 112 = .ok (.new 21, 3) := by decide +kernel
theorem dX6_init_115 : decode cX6_init 115 = .ok (.dup, 1) := by decide +kernel
theorem dX6_init_116 : decode cX6_init 116 = .ok (.aload_n 1, 1) := by decide +kernel
theorem dX6_init_117 : decode cX6_init 117 = .ok (.invokespecial 37, 3) := by decide +kernel
theorem dX6_init_120 : decode cX6_init 120 = .ok (.aastore, 1) := by decide +kernel
theorem dX6_init_121 : decode cX6_init 121 = .ok (.iinc 2 1, 3) := by decide +kernel
theorem dX6_init_124 : decode cX6_init 124 = .ok (.goto (-23), 3) := by decide +kernel
theorem dX6_init_127 : decode cX6_init 127 = .ok (.aload_n 0, 1) := by decide +kernel
theorem dX6_init_128 : decode cX6_init 128 = .ok (.new 21, 3) := by decide +kernel
theorem dX6_init_131 : decode cX6_init 131 = .ok (.dup, 1) := by decide +kernel
theorem dX6_init_132 : decode cX6_init 132 = .ok (.aload_n 1, 1) := by decide +kernel
theorem dX6_init_133 : decode cX6_init 133 = .ok (.invokespecial 37, 3) := by decide +kernel
theorem dX6_init_136 : decode cX6_init 136 = .ok (.putfield 40, 3) := by decide +kernel
theorem dX6_init_139 : decode cX6_init 139 = .ok (.return_, 1) := by decide +kernel
theorem dX7_init_0 : decode cX7_init 0 = .ok (.aload_n 0, 1) := by decide +kernel
theorem dX7_init_1 : decode cX7_init 1 = .ok (.invokespecial 3, 3) := by decide +kernel
theorem dX7_init_4 : decode cX7_init 4 = .ok (.aload_n 0, 1) := by decide +kernel
theorem dX7_init_5 : decode cX7_init 5 = .ok (.bipush 25, 2) := by decide +kernel
theorem dX7_init_7 : decode cX7_init 7 = .ok (.newarray .int, 2) := by decide +kernel
theorem dX7_init_9 : decode cX7_init 9 = .ok (.putfield 9, 3) := by decide +kernel
theorem dX7_init_12 : decode cX7_init 12 = .ok (.aload_n 0, 1) := by decide +kernel
theorem dX7_init_13 : decode cX7_init 13 = .ok (.bipush 25, 2) := by decide +kernel
theorem dX7_init_15 : decode cX7_init 15 = .ok (.newarray .int, 2) := by decide +kernel
theorem dX7_init_17 : decode cX7_init 17 = .ok (.putfield 15, 3) := by decide +kernel
theorem dX7_init_20 : decode cX7_init 20 = .ok (.aload_n 0, 1) := by decide +kernel
theorem dX7_init_21 : decode cX7_init 21 = .ok (.bipush 25, 2) := by decide +kernel
theorem dX7_init_23 : decode cX7_init 23 = .ok (.newarray .int, 2) := by decide +kernel
theorem dX7_init_25 : decode cX7_init 25 = .ok (.putfield 18, 3) := by decide +kernel
theorem dX7_init_28 : decode cX7_init 28 = .ok (.aload_n 0, 1) := by decide +kernel
theorem dX7_init_29 : decode cX7_init 29 = .ok (.bipush 25, 2) := by decide +kernel
theorem dX7_init_31 : decode cX7_init 31 = .ok (.newarray .int, 2) := by decide +kernel
theorem dX7_init_33 : decode cX7_init 33 = .ok (.putfield 21, 3) := by decide +kernel
theorem dX7_init_36 : decode cX7_init 36 = .ok (.aload_n 0, 1) := by decide +kernel
theorem dX7_init_37 : decode cX7_init 37 = .ok (.bipush 25, 2) := by decide +kernel
theorem dX7_init_39 : decode cX7_init 39 = .ok (.newarray .int, 2) := by decide +kernel
theorem dX7_init_41 : decode cX7_init 41 = .ok (.putfield 24, 3) := by decide +kernel
theorem dX7_init_44 : decode cX7_init 44 = .ok (.aload_n 0, 1) := by decide +kernel
theorem dX7_init_45 : decode cX7_init 45 = .ok (.bipush 25, 2) := by decide +kernel
theorem dX7_init_47 : decode cX7_init 47 = .ok (.newarray .int, 2) := by decide +kernel
theorem dX7_init_49 : decode cX7_init 49 = .ok (.putfield 27, 3) := by decide +kernel
theorem dX7_init_52 : decode cX7_init 52 = .ok (.aload_n 0, 1) := by decide +kernel
theorem dX7_init_53 : decode cX7_init 53 = .ok (.bipush 50, 2) := by decide +kernel
theorem dX7_init_55 : decode cX7_init 55 = .ok (.anewarray 30, 3) := by decide +kernel
theorem dX7_init_58 : decode cX7_init 58 = .ok (.putfield 32, 3) := by decide +kernel
theorem dX7_init_61 : decode cX7_init 61 = .ok (.aload_n 0, 1) := by decide +kernel
theorem dX7_init_62 : decode cX7_init 62 = .ok (.aload_n 1, 1) := by decide +kernel
theorem dX7_init_63 : decode cX7_init 63 = .ok (.putfield 36, 3) := by decide +kernel
theorem dX7_init_66 : decode cX7_init 66 = .ok (.iconst 0, 1) := by decide +kernel
theorem dX7_init_67 : decode cX7_init 67 = .ok (.istore_n 2, 1) := by decide +kernel
theorem dX7_init_68 : decode cX7_init 68 = .ok (.iload_n 2, 1) := by decide +kernel
theorem dX7_init_69 : decode cX7_init 69 = .ok (.bipush 50, 2) := by decide +kernel
theorem dX7_init_71 : decode cX7_init 71 = .ok (.if_icmp .ge 22, 3) := by decide +kernel
theorem dX7_init_74 : decode cX7_init 74 = .ok (.aload_n 0, 1) := by decide +kernel
theorem dX7_init_75 : decode cX7_init 75 = .ok (.getfield 32, 3) := by decide +kernel
theorem dX7_init_78 : decode cX7_init 78 = .ok (.iload_n 2, 1) := by decide +kernel
theorem dX7_init_79 : decode cX7_init 79 = .ok (.new 30, 3) := by decide +kernel
theorem dX7_init_82 : decode cX7_init 82 = .ok (.dup, 1) := by decide +kernel
theorem dX7_init_83 : decode cX7_init 83 = .ok (.invokespecial 40, 3) := by decide +kernel
theorem dX7_init_86 : decode cX7_init 86 = .ok (.aastore, 1) := by decide +kernel
theorem dX7_init_87 : decode cX7_init 87 = .ok (.iinc 2 1, 3) := by decide +kernel
theorem dX7_init_90 : decode cX7_init 90 = .ok (.goto (-22), 3) := by decide +kernel
theorem dX7_init_93 : decode cX7_init 93 = .ok (.return_, 1) := by decide +kernel
theorem dX8_append_0 : decode cX8_append 0 = .ok (.aload_n 0, 1) := by decide +kernel
theorem dX8_append_1 : decode cX8_append 1 = .ok (.getfield 16, 3) := by decide +kernel
theorem dX8_append_4 : decode cX8_append 4 = .ok (.ifCond .lt 12, 3) := by decide +kernel
theorem dX8_append_7 : decode cX8_append 7 = .ok (.aload_n 0, 1) := by decide +kernel
theorem dX8_append_8 : decode cX8_append 8 = .ok (.getfield 16, 3) := by decide +kernel
theorem dX8_append_11 : decode cX8_append 11 = .ok (.bipush 60, 2) := by decide +kernel
theorem dX8_append_13 : decode cX8_append 13 = .ok (.if_icmp .lt 5, 3) := by decide +kernel
theorem dX8_append_18 : decode cX8_append 18 = .ok (.aload_n 0, 1) := by decide +kernel
theorem dX8_append_19 : decode cX8_append 19 = .ok (.getfield 11, 3) := by decide +kernel
theorem dX8_append_22 : decode cX8_append 22 = .ok (.aload_n 0, 1) := by decide +kernel
theorem dX8_append_23 : decode cX8_append 23 = .ok (.getfield 16, 3) := by decide +kernel
theorem dX8_append_26 : decode cX8_append 26 = .ok (.aaload, 1) := by decide +kernel
theorem dX8_append_27 : decode cX8_append 27 = .ok (.astore 6, 2) := by decide +kernel
theorem dX8_append_29 : decode cX8_append 29 = .ok (.aload 6, 2) := by decide +kernel
theorem dX8_append_31 : decode cX8_append 31 = .ok (.iload_n 1, 1) := by decide +kernel
theorem dX8_append_32 : decode cX8_append 32 = .ok (.iload_n 2, 1) := by decide +kernel
theorem dX8_append_33 : decode cX8_append 33 = .ok (.iload_n 3, 1) := by decide +kernel
theorem dX8_append_34 : decode cX8_append 34 = .ok (.iload 4, 2) := by decide +kernel
theorem dX8_append_36 : decode cX8_append 36 = .ok (.invokevirtual 23, 3) := by decide +kernel
theorem dX8_append_39 : decode cX8_append 39 = .ok (.aload 6, 2) := by decide +kernel
theorem dX8_append_41 : decode cX8_append 41 = .ok (.iload 5, 2) := by decide +kernel
theorem dX8_append_43 : decode cX8_append 43 = .ok (.putfield 27, 3) := by decide +kernel
theorem dX8_append_46 : decode cX8_append 46 = .ok (.aload 6, 2) := by decide +kernel
theorem dX8_append_48 : decode cX8_append 48 = .ok (.iconst 0, 1) := by decide +kernel
theorem dX8_append_49 : decode cX8_append 49 = .ok (.putfield 31, 3) := by decide +kernel
theorem dX8_append_52 : decode cX8_append 52 = .ok (.aload 6, 2) := by decide +kernel
theorem dX8_append_54 : decode cX8_append 54 = .ok (.iconst 0, 1) := by decide +kernel
theorem dX8_append_55 : decode cX8_append 55 = .ok (.putfield 34, 3) := by decide +kernel
theorem dX8_append_58 : decode cX8_append 58 = .ok (.aload_n 0, 1) := by decide +kernel
theorem dX8_append_59 : decode cX8_append 59 = .ok (.dup, 1) := by decide +kernel
theorem dX8_append_60 : decode cX8_append 60 = .ok (.getfield 16, 3) := by decide +kernel
theorem dX8_append_63 : decode cX8_append 63 = .ok (.iconst 1, 1) := by decide +kernel
theorem dX8_append_64 : decode cX8_append 64 = .ok (.iadd, 1) := by decide +kernel
theorem dX8_append_65 : decode cX8_append 65 = .ok (.putfield 16, 3) := by decide +kernel
theorem dX8_append_68 : decode cX8_append 68 = .ok (.iconst 1, 1) := by decide +kernel
theorem dX8_append_69 : decode cX8_append 69 = .ok (.ireturn, 1) := by decide +kernel
theorem dX8_init_0 : decode cX8_init 0 = .ok (.aload_n 0, 1) := by decide +kernel
theorem dX8_init_1 : decode cX8_init 1 = .ok (.invokespecial 1, 3) := by decide +kernel
theorem dX8_init_4 : decode cX8_init 4 = .ok (.aload_n 0, 1) := by decide +kernel
theorem dX8_init_5 : decode cX8_init 5 = .ok (.bipush 60, 2) := by decide +kernel
theorem dX8_init_7 : decode cX8_init 7 = .ok (.anewarray 9, 3) := by decide +kernel
theorem dX8_init_10 : decode cX8_init 10 = .ok (.putfield 11, 3) := by decide +kernel
theorem dX8_init_13 : decode cX8_init 13 = .ok (.iconst 0, 1) := by decide +kernel
theorem dX8_init_14 : decode cX8_init 14 = .ok (.istore_n 1, 1) := by decide +kernel
theorem dX8_init_15 : decode cX8_init 15 = .ok (.iload_n 1, 1) := by decide +kernel
theorem dX8_init_16 : decode cX8_init 16 = .ok (.bipush 60, 2) := by decide +kernel
theorem dX8_init_18 : decode cX8_init 18 = .ok (.if_icmp .ge 22, 3) := by decide +kernel
theorem dX8_init_21 : decode cX8_init 21 = .ok (.aload_n 0, 1) := by decide +kernel
theorem dX8_init_22 : decode cX8_init 22 = .ok (.getfield 11, 3) := by decide +kernel
theorem dX8_init_25 : decode cX8_init 25 = .ok (.iload_n 1, 1) := by decide +kernel
theorem dX8_init_26 : decode cX8_init 26 = .ok (.new 9, 3) := by decide +kernel
theorem dX8_init_29 : decode cX8_init 29 = .ok (.dup, 1) := by decide +kernel
theorem dX8_init_30 : decode cX8_init 30 = .ok (.invokespecial 15, 3) := by decide +kernel
theorem dX8_init_33 : decode cX8_init 33 = .ok (.aastore, 1) := by decide +kernel
theorem dX8_init_34 : decode cX8_init 34 = .ok (.iinc 1 1, 3) := by decide +kernel
theorem dX8_init_37 : decode cX8_init 37 = .ok (.goto (-22), 3) := by decide +kernel
theorem dX8_init_40 : decode cX8_init 40 = .ok (.return_, 1) := by decide +kernel
theorem dX9_init_0 : decode cX9_init 0 = .ok (.aload_n 0, 1) := by decide +kernel
theorem dX9_init_1 : decode cX9_init 1 = .ok (.invokespecial 1, 3) := by decide +kernel
theorem dX9_init_4 : decode cX9_init 4 = .ok (.aload_n 0, 1) := by decide +kernel
theorem dX9_init_5 : decode cX9_init 5 = .ok (.bipush 30, 2) := by decide +kernel
theorem dX9_init_7 : decode cX9_init 7 = .ok (.newarray .char, 2) := by decide +kernel
theorem dX9_init_9 : decode cX9_init 9 = .ok (.putfield 9, 3) := by decide +kernel
theorem dX9_init_12 : decode cX9_init 12 = .ok (.aload_n 0, 1) := by decide +kernel
theorem dX9_init_13 : decode cX9_init 13 = .ok (.bipush 8, 2) := by decide +kernel
theorem dX9_init_15 : decode cX9_init 15 = .ok (.anewarray 13, 3) := by decide +kernel
theorem dX9_init_18 : decode cX9_init 18 = .ok (.putfield 15, 3) := by decide +kernel
theorem dX9_init_21 : decode cX9_init 21 = .ok (.aload_n 0, 1) := by decide +kernel
theorem dX9_init_22 : decode cX9_init 22 = .ok (.new 13, 3) := by decide +kernel
theorem dX9_init_25 : decode cX9_init 25 = .ok (.dup, 1) := by decide +kernel
theorem dX9_init_26 : decode cX9_init 26 = .ok (.invokespecial 19, 3) := by decide +kernel
theorem dX9_init_29 : decode cX9_init 29 = .ok (.putfield 20, 3) := by decide +kernel
theorem dX9_init_32 : decode cX9_init 32 = .ok (.iconst 0, 1) := by decide +kernel
theorem dX9_init_33 : decode cX9_init 33 = .ok (.istore_n 1, 1) := by decide +kernel
theorem dX9_init_34 : decode cX9_init 34 = .ok (.iload_n 1, 1) := by decide +kernel
theorem dX9_init_35 : decode cX9_init 35 = .ok (.bipush 8, 2) := by decide +kernel
theorem dX9_init_37 : decode cX9_init 37 = .ok (.if_icmp .ge 22, 3) := by decide +kernel
theorem dX9_init_40 : decode cX9_init 40 = .ok (.aload_n 0, 1) := by decide +kernel
theorem dX9_init_41 : decode cX9_init 41 = .ok (.getfield 15, 3) := by decide +kernel
theorem dX9_init_44 : decode cX9_init 44 = .ok (.iload_n 1, 1) := by decide +kernel
theorem dX9_init_45 : decode cX9_init 45 = .ok (.new 13, 3) := by decide +kernel
theorem dX9_init_48 : decode cX9_init 48 = .ok (.dup, 1) := by decide +kernel
theorem dX9_init_49 : decode cX9_init 49 = .ok (.invokespecial 19, 3) := by decide +kernel
theorem dX9_init_52 : decode cX9_init 52 = .ok (.aastore, 1) := by decide +kernel
theorem dX9_init_53 : decode cX9_init 53 = .ok (.iinc 1 1, 3) := by decide +kernel
theorem dX9_init_56 : decode cX9_init 56 = .ok (.goto (-22), 3) := by decide +kernel
theorem dX9_init_59 : decode cX9_init 59 = .ok (.return_, 1) := by decide +kernel
theorem dX9_read_0 : decode cX9_read 0 = .ok (.aload_n 0, 1) := by decide +kernel
theorem dX9_read_1 : decode cX9_read 1 = .ok (.getfield 20, 3) := by decide +kernel
theorem dX9_read_4 : decode cX9_read 4 = .ok (.bipush 98, 2) := by decide +kernel
theorem dX9_read_6 : decode cX9_read 6 = .ok (.invokevirtual 50, 3) := by decide +kernel
theorem dX9_read_9 : decode cX9_read 9 = .ok (.aload_n 0, 1) := by decide +kernel
theorem dX9_read_10 : decode cX9_read 10 = .ok (.bipush 107, 2) := by decide +kernel
theorem dX9_read_12 : decode cX9_read 12 = .ok (.putfield 46, 3) := by decide +kernel
theorem dX9_read_15 : decode cX9_read 15 = .ok (.aload_n 0, 1) := by decide +kernel
theorem dX9_read_16 : decode cX9_read 16 = .ok (.bipush 107, 2) := by decide +kernel
theorem dX9_read_18 : decode cX9_read 18 = .ok (.putfield 54, 3) := by decide +kernel
theorem dX9_read_21 : decode cX9_read 21 = .ok (.aload_n 0, 1) := by decide +kernel
theorem dX9_read_22 : decode cX9_read 22 = .ok (.iconst 0, 1) := by decide +kernel
theorem dX9_read_23 : decode cX9_read 23 = .ok (.putfield 57, 3) := by decide +kernel
theorem dX9_read_26 : decode cX9_read 26 = .ok (.iconst 0, 1) := by decide +kernel
theorem dX9_read_27 : decode cX9_read 27 = .ok (.istore_n 1, 1) := by decide +kernel
theorem dX9_read_28 : decode cX9_read 28 = .ok (.iload_n 1, 1) := by decide +kernel
theorem dX9_read_29 : decode cX9_read 29 = .ok (.aload_n 0, 1) := by decide +kernel
theorem dX9_read_30 : decode cX9_read 30 = .ok (.getfield 31, 3) := by decide +kernel
theorem dX9_read_33 : decode cX9_read 33 = .ok (.if_icmp .ge 44, 3) := by decide +kernel
theorem dX9_read_77 : decode cX9_read 77 = .ok (.aload_n 0, 1) := by decide +kernel
theorem dX9_read_78 : decode cX9_read 78 = .ok (.invokevirtual 60, 3) := by decide +kernel
theorem dX9_read_81 : decode cX9_read 81 = .ok (.ifCond .eq 4, 3) := by decide +kernel
theorem dX9_read_85 : decode cX9_read 85 = .ok (.aload_n 0, 1) := by decide +kernel
theorem dX9_read_86 : decode cX9_read 86 = .ok (.getfield 46, 3) := by decide +kernel
theorem dX9_read_89 : decode cX9_read 89 = .ok (.bipush 105, 2) := by decide +kernel
theorem dX9_read_91 : decode cX9_read 91 = .ok (.if_icmp .eq 18, 3) := by decide +kernel
theorem dX9_read_94 : decode cX9_read 94 = .ok (.aload_n 0, 1) := by decide +kernel
theorem dX9_read_95 : decode cX9_read 95 = .ok (.aload_n 0, 1) := by decide +kernel
theorem dX9_read_96 : decode cX9_read 96 = .ok (.getfield 31, 3) := by decide +kernel
theorem dX9_read_99 : decode cX9_read 99 = .ok (.aload_n 0, 1) := by decide +kernel
theorem dX9_read_100 : decode cX9_read 100 = .ok (.getfield 46, 3) := by decide +kernel
theorem dX9_read_103 : decode cX9_read 103 = .ok (.invokevirtual 68, 3) := by decide +kernel
theorem dX9_read_106 : decode cX9_read 106 = .ok (.goto 23, 3) := by decide +kernel
theorem dX9_read_129 : decode cX9_read 129 = .ok (.return_, 1) := by decide +kernel
theorem dJ0_indexOf_7cf53_0 : decode cJ0_indexOf_7cf53 0 = .ok (.aload_n 0, 1) := by decide +kernel
theorem dJ0_indexOf_7cf53_1 : decode cJ0_indexOf_7cf53 1 = .ok (.invokevirtual 492, 3) := by decide +kernel
theorem dJ0_indexOf_7cf53_4 : decode cJ0_indexOf_7cf53 4 = .ok (.ifCond .eq 19, 3) := by decide +kernel
theorem dJ0_indexOf_7cf53_7 : decode cJ0_indexOf_7cf53 7 = .ok (.aload_n 0, 1) := by decide +kernel
theorem dJ0_indexOf_7cf53_8 : decode cJ0_indexOf_7cf53 8 = .ok (.getfield 9, 3) := by decide +kernel
theorem dJ0_indexOf_7cf53_11 : decode cJ0_indexOf_7cf53 11 = .ok (.iload_n 1, 1) := by decide +kernel
theorem dJ0_indexOf_7cf53_12 : decode cJ0_indexOf_7cf53 12 = .ok (.iload_n 2, 1) := by decide +kernel
theorem dJ0_indexOf_7cf53_13 : decode cJ0_indexOf_7cf53 13 = .ok (.aload_n 0, 1) := by decide +kernel
theorem dJ0_indexOf_7cf53_14 : decode cJ0_indexOf_7cf53 14 = .ok (.invokevirtual 505, 3) := by decide +kernel
theorem dJ0_indexOf_7cf53_17 : decode cJ0_indexOf_7cf53 17 = .ok (.invokestatic 637, 3) := by decide +kernel
theorem dJ0_indexOf_7cf53_20 : decode cJ0_indexOf_7cf53 20 = .ok (.goto 16, 3) := by decide +kernel
theorem dJ0_indexOf_7cf53_36 : decode cJ0_indexOf_7cf53 36 = .ok (.ireturn, 1) := by decide +kernel
theorem dJ2_checkBoundsOffCount_d044e_0 : decode cJ2_checkBoundsOffCount_d044e 0 = .ok (.iload_n 0, 1) := by decide +kernel
theorem dJ2_checkBoundsOffCount_d044e_1 : decode cJ2_checkBoundsOffCount_d044e 1 = .ok (.iload_n 1, 1) := by decide +kernel
theorem dJ2_checkBoundsOffCount_d044e_2 : decode cJ2_checkBoundsOffCount_d044e 2 = .ok (.aload_n 2, 1) := by decide +kernel
theorem dJ2_checkBoundsOffCount_d044e_3 : decode cJ2_checkBoundsOffCount_d044e 3 = .ok (.invokestatic 48, 3) := by decide +kernel
theorem dJ2_checkBoundsOffCount_d044e_6 : decode cJ2_checkBoundsOffCount_d044e 6 = .ok (.invokestatic 419, 3) := by decide +kernel
theorem dJ2_checkBoundsOffCount_d044e_9 : decode cJ2_checkBoundsOffCount_d044e 9 = .ok (.pop, 1) := by decide +kernel
theorem dJ2_checkBoundsOffCount_d044e_10 : decode cJ2_checkBoundsOffCount_d044e 10 = .ok (.return_, 1) := by decide +kernel
theorem dJ2_checkIndex_2214a_0 : decode cJ2_checkIndex_2214a 0 = .ok (.iload_n 0, 1) := by decide +kernel
theorem dJ2_checkIndex_2214a_1 : decode cJ2_checkIndex_2214a 1 = .ok (.aload_n 1, 1) := by decide +kernel
theorem dJ2_checkIndex_2214a_2 : decode cJ2_checkIndex_2214a 2 = .ok (.invokestatic 48, 3) := by decide +kernel
theorem dJ2_checkIndex_2214a_5 : decode cJ2_checkIndex_2214a 5 = .ok (.invokestatic 414, 3) := by decide +kernel
theorem dJ2_checkIndex_2214a_8 : decode cJ2_checkIndex_2214a 8 = .ok (.return_, 1) := by decide +kernel
theorem dJ7_copyOfRange_39247_0 : decode cJ7_copyOfRange_39247 0 = .ok (.iload_n 1, 1) := by decide +kernel
theorem dJ7_copyOfRange_39247_1 : decode cJ7_copyOfRange_39247 1 = .ok (.ifCond .ne 9, 3) := by decide +kernel
theorem dJ7_copyOfRange_39247_4 : decode cJ7_copyOfRange_39247 4 = .ok (.iload_n 2, 1) := by decide +kernel
theorem dJ7_copyOfRange_39247_5 : decode cJ7_copyOfRange_39247 5 = .ok (.aload_n 0, 1) := by decide +kernel
theorem dJ7_copyOfRange_39247_6 : decode cJ7_copyOfRange_39247 6 = .ok (.arraylength, 1) := by decide +kernel
theorem dJ7_copyOfRange_39247_7 : decode cJ7_copyOfRange_39247 7 = .ok (.if_icmp .eq 10, 3) := by decide +kernel
theorem dJ7_copyOfRange_39247_10 : decode cJ7_copyOfRange_39247 10 = .ok (.aload_n 0, 1) := by decide +kernel
theorem dJ7_copyOfRange_39247_11 : decode cJ7_copyOfRange_39247 11 = .ok (.iload_n 1, 1) := by decide +kernel
theorem dJ7_copyOfRange_39247_12 : decode cJ7_copyOfRange_39247 12 = .ok (.iload_n 2, 1) := by decide +kernel
theorem dJ7_copyOfRange_39247_13 : decode cJ7_copyOfRange_39247 13 = .ok (.invokestatic 339, 3) := by decide +kernel
theorem dJ7_copyOfRange_39247_16 : decode cJ7_copyOfRange_39247 16 = .ok (.areturn, 1) := by decide +kernel
theorem dJ7_copyOf_1904c_0 : decode cJ7_copyOf_1904c 0 = .ok (.aload_n 0, 1) := by decide +kernel
theorem dJ7_copyOf_1904c_1 : decode cJ7_copyOf_1904c 1 = .ok (.iload_n 1, 1) := by decide +kernel
theorem dJ7_copyOf_1904c_2 : decode cJ7_copyOf_1904c 2 = .ok (.aload_n 0, 1) := by decide +kernel
theorem dJ7_copyOf_1904c_3 : decode cJ7_copyOf_1904c 3 = .ok (.invokevirtual 86, 3) := by decide +kernel
theorem dJ7_copyOf_1904c_6 : decode cJ7_copyOf_1904c 6 = .ok (.invokestatic 300, 3) := by decide +kernel
theorem dJ7_copyOf_1904c_9 : decode cJ7_copyOf_1904c 9 = .ok (.areturn, 1) := by decide +kernel
theorem dJx4a65c_init_da8c8_0 : decode cJx4a65c_init_da8c8 0 = .ok (.aload_n 0, 1) := by decide +kernel
theorem dJx4a65c_init_da8c8_1 : decode cJx4a65c_init_da8c8 1 = .ok (.invokespecial 1, 3) := by decide +kernel
theorem dJx4a65c_init_da8c8_4 : decode cJx4a65c_init_da8c8 4 = .ok (.aload_n 0, 1) := by decide +kernel
theorem dJx4a65c_init_da8c8_5 : decode cJx4a65c_init_da8c8 5 = .ok (.getstatic 39, 3) := by decide +kernel
theorem dJx4a65c_init_da8c8_8 : decode cJx4a65c_init_da8c8 8 = .ok (.putfield 9, 3) := by decide +kernel
theorem dJx4a65c_init_da8c8_11 : decode cJx4a65c_init_da8c8 11 = .ok (.return_, 1) := by decide +kernel
theorem dL_area_0 : decode cL_area 0 = .ok (.aload_n 2, 1) := by decide +kernel
theorem dL_area_1 : decode cL_area 1 = .ok (.iconst 0, 1) := by decide +kernel
theorem dL_area_2 : decode cL_area 2 = .ok (.aload_n 0, 1) := by decide +kernel
theorem dL_area_3 : decode cL_area 3 = .ok (.iload_n 1, 1) := by decide +kernel
theorem dL_area_4 : decode cL_area 4 = .ok (.invokevirtual 158, 3) := by decide +kernel
theorem dL_area_7 : decode cL_area 7 = .ok (.lastore, 1) := by decide +kernel
theorem dL_area_8 : decode cL_area 8 = .ok (.goto 6, 3) := by decide +kernel
theorem dL_area_11 : decode cL_area 11 = .ok (.astore_n 3, 1) := by decide +kernel
theorem dL_area_12 : decode cL_area 12 = .ok (.iconst 1, 1) := by decide +kernel
theorem dL_area_13 : decode cL_area 13 = .ok (.ireturn, 1) := by decide +kernel
theorem dL_area_14 : decode cL_area 14 = .ok (.iconst 0, 1) := by decide +kernel
theorem dL_area_15 : decode cL_area 15 = .ok (.ireturn, 1) := by decide +kernel
theorem dL_board_0 : decode cL_board 0 = .ok (.aload_n 3, 1) := by decide +kernel
theorem dL_board_1 : decode cL_board 1 = .ok (.iconst 0, 1) := by decide +kernel
theorem dL_board_2 : decode cL_board 2 = .ok (.aload_n 0, 1) := by decide +kernel
theorem dL_board_3 : decode cL_board 3 = .ok (.iload_n 1, 1) := by decide +kernel
theorem dL_board_4 : decode cL_board 4 = .ok (.iload_n 2, 1) := by decide +kernel
theorem dL_board_5 : decode cL_board 5 = .ok (.invokevirtual 119, 3) := by decide +kernel
theorem dL_board_13 : decode cL_board 13 = .ok (.astore 4, 2) := by decide +kernel
theorem dL_board_15 : decode cL_board 15 = .ok (.iconst 1, 1) := by decide +kernel
theorem dL_board_16 : decode cL_board 16 = .ok (.ireturn, 1) := by decide +kernel
theorem dL_change_0 : decode cL_change 0 = .ok (.aload_n 3, 1) := by decide +kernel
theorem dL_change_1 : decode cL_change 1 = .ok (.iconst 0, 1) := by decide +kernel
theorem dL_change_2 : decode cL_change 2 = .ok (.aload_n 0, 1) := by decide +kernel
theorem dL_change_3 : decode cL_change 3 = .ok (.iload_n 1, 1) := by decide +kernel
theorem dL_change_4 : decode cL_change 4 = .ok (.iload_n 2, 1) := by decide +kernel
theorem dL_change_5 : decode cL_change 5 = .ok (.invokevirtual 65, 3) := by decide +kernel
theorem dL_change_13 : decode cL_change 13 = .ok (.astore 4, 2) := by decide +kernel
theorem dL_change_15 : decode cL_change 15 = .ok (.iconst 1, 1) := by decide +kernel
theorem dL_change_16 : decode cL_change 16 = .ok (.ireturn, 1) := by decide +kernel
theorem dL_cut_0 : decode cL_cut 0 = .ok (.aload_n 2, 1) := by decide +kernel
theorem dL_cut_1 : decode cL_cut 1 = .ok (.iconst 0, 1) := by decide +kernel
theorem dL_cut_2 : decode cL_cut 2 = .ok (.aload_n 0, 1) := by decide +kernel
theorem dL_cut_3 : decode cL_cut 3 = .ok (.iload_n 1, 1) := by decide +kernel
theorem dL_cut_4 : decode cL_cut 4 = .ok (.invokevirtual 125, 3) := by decide +kernel
theorem dL_cut_12 : decode cL_cut 12 = .ok (.astore_n 3, 1) := by decide +kernel
theorem dL_cut_13 : decode cL_cut 13 = .ok (.iconst 1, 1) := by decide +kernel
theorem dL_cut_14 : decode cL_cut 14 = .ok (.ireturn, 1) := by decide +kernel
theorem dL_edged_0 : decode cL_edged 0 = .ok (.aload_n 2, 1) := by decide +kernel
theorem dL_edged_1 : decode cL_edged 1 = .ok (.iconst 0, 1) := by decide +kernel
theorem dL_edged_2 : decode cL_edged 2 = .ok (.aload_n 0, 1) := by decide +kernel
theorem dL_edged_3 : decode cL_edged 3 = .ok (.iload_n 1, 1) := by decide +kernel
theorem dL_edged_4 : decode cL_edged 4 = .ok (.invokevirtual 131, 3) := by decide +kernel
theorem dL_edged_7 : decode cL_edged 7 = .ok (.i2l, 1) := by decide +kernel
theorem dL_edged_8 : decode cL_edged 8 = .ok (.lastore, 1) := by decide +kernel
theorem dL_edged_9 : decode cL_edged 9 = .ok (.goto 6, 3) := by decide +kernel
theorem dL_edged_12 : decode cL_edged 12 = .ok (.astore_n 3, 1) := by decide +kernel
theorem dL_edged_13 : decode cL_edged 13 = .ok (.iconst 1, 1) := by decide +kernel
theorem dL_edged_14 : decode cL_edged 14 = .ok (.ireturn, 1) := by decide +kernel
theorem dL_edged_15 : decode cL_edged 15 = .ok (.iconst 0, 1) := by decide +kernel
theorem dL_edged_16 : decode cL_edged 16 = .ok (.ireturn, 1) := by decide +kernel
theorem dL_from_0 : decode cL_from 0 = .ok (.aload_n 2, 1) := by decide +kernel
theorem dL_from_1 : decode cL_from 1 = .ok (.iconst 0, 1) := by decide +kernel
theorem dL_from_2 : decode cL_from 2 = .ok (.aload_n 0, 1) := by decide +kernel
theorem dL_from_3 : decode cL_from 3 = .ok (.iload_n 1, 1) := by decide +kernel
theorem dL_from_4 : decode cL_from 4 = .ok (.invokevirtual 75, 3) := by decide +kernel
theorem dL_from_12 : decode cL_from 12 = .ok (.astore_n 3, 1) := by decide +kernel
theorem dL_from_13 : decode cL_from 13 = .ok (.iconst 1, 1) := by decide +kernel
theorem dL_from_14 : decode cL_from 14 = .ok (.ireturn, 1) := by decide +kernel
theorem dL_hinges_0 : decode cL_hinges 0 = .ok (.aload_n 2, 1) := by decide +kernel
theorem dL_hinges_1 : decode cL_hinges 1 = .ok (.iconst 0, 1) := by decide +kernel
theorem dL_hinges_2 : decode cL_hinges 2 = .ok (.aload_n 0, 1) := by decide +kernel
theorem dL_hinges_3 : decode cL_hinges 3 = .ok (.iload_n 1, 1) := by decide +kernel
theorem dL_hinges_4 : decode cL_hinges 4 = .ok (.invokevirtual 99, 3) := by decide +kernel
theorem dL_hinges_12 : decode cL_hinges 12 = .ok (.astore_n 3, 1) := by decide +kernel
theorem dL_hinges_13 : decode cL_hinges 13 = .ok (.iconst 1, 1) := by decide +kernel
theorem dL_hinges_14 : decode cL_hinges 14 = .ok (.ireturn, 1) := by decide +kernel
theorem dL_job_0 : decode cL_job 0 = .ok (.aload 4, 2) := by decide +kernel
theorem dL_job_2 : decode cL_job 2 = .ok (.iconst 0, 1) := by decide +kernel
theorem dL_job_3 : decode cL_job 3 = .ok (.aload_n 0, 1) := by decide +kernel
theorem dL_job_4 : decode cL_job 4 = .ok (.iload_n 1, 1) := by decide +kernel
theorem dL_job_5 : decode cL_job 5 = .ok (.iload_n 2, 1) := by decide +kernel
theorem dL_job_6 : decode cL_job 6 = .ok (.iload_n 3, 1) := by decide +kernel
theorem dL_job_7 : decode cL_job 7 = .ok (.invokevirtual 149, 3) := by decide +kernel
theorem dL_job_10 : decode cL_job 10 = .ok (.i2l, 1) := by decide +kernel
theorem dL_job_11 : decode cL_job 11 = .ok (.lastore, 1) := by decide +kernel
theorem dL_job_12 : decode cL_job 12 = .ok (.goto 11, 3) := by decide +kernel
theorem dL_job_15 : decode cL_job 15 = .ok (.astore 5, 2) := by decide +kernel
theorem dL_job_17 : decode cL_job 17 = .ok (.iconst 1, 1) := by decide +kernel
theorem dL_job_18 : decode cL_job 18 = .ok (.ireturn, 1) := by decide +kernel
theorem dL_job_23 : decode cL_job 23 = .ok (.iconst 0, 1) := by decide +kernel
theorem dL_job_24 : decode cL_job 24 = .ok (.ireturn, 1) := by decide +kernel
theorem dL_lengthOf_0 : decode cL_lengthOf 0 = .ok (.aload_n 2, 1) := by decide +kernel
theorem dL_lengthOf_1 : decode cL_lengthOf 1 = .ok (.iconst 0, 1) := by decide +kernel
theorem dL_lengthOf_2 : decode cL_lengthOf 2 = .ok (.aload_n 0, 1) := by decide +kernel
theorem dL_lengthOf_3 : decode cL_lengthOf 3 = .ok (.iload_n 1, 1) := by decide +kernel
theorem dL_lengthOf_4 : decode cL_lengthOf 4 = .ok (.invokevirtual 23, 3) := by decide +kernel
theorem dL_lengthOf_12 : decode cL_lengthOf 12 = .ok (.astore_n 3, 1) := by decide +kernel
theorem dL_lengthOf_13 : decode cL_lengthOf 13 = .ok (.iconst 1, 1) := by decide +kernel
theorem dL_lengthOf_14 : decode cL_lengthOf 14 = .ok (.ireturn, 1) := by decide +kernel
theorem dL_obstacle_0 : decode cL_obstacle 0 = .ok (.aload 6, 2) := by decide +kernel
theorem dL_obstacle_2 : decode cL_obstacle 2 = .ok (.iconst 0, 1) := by decide +kernel
theorem dL_obstacle_3 : decode cL_obstacle 3 = .ok (.aload_n 0, 1) := by decide +kernel
theorem dL_obstacle_4 : decode cL_obstacle 4 = .ok (.iload_n 1, 1) := by decide +kernel
theorem dL_obstacle_5 : decode cL_obstacle 5 = .ok (.iload_n 2, 1) := by decide +kernel
theorem dL_obstacle_6 : decode cL_obstacle 6 = .ok (.iload_n 3, 1) := by decide +kernel
theorem dL_obstacle_7 : decode cL_obstacle 7 = .ok (.iload 4, 2) := by decide +kernel
theorem dL_obstacle_9 : decode cL_obstacle 9 = .ok (.iload 5, 2) := by decide +kernel
theorem dL_obstacle_11 : decode cL_obstacle 11 = .ok (.invokevirtual 33, 3) := by decide +kernel
theorem dL_obstacle_19 : decode cL_obstacle 19 = .ok (.astore 7, 2) := by decide +kernel
theorem dL_obstacle_21 : decode cL_obstacle 21 = .ok (.iconst 1, 1) := by decide +kernel
theorem dL_obstacle_22 : decode cL_obstacle 22 = .ok (.ireturn, 1) := by decide +kernel
theorem dL_packs_0 : decode cL_packs 0 = .ok (.aload_n 3, 1) := by decide +kernel
theorem dL_packs_1 : decode cL_packs 1 = .ok (.iconst 0, 1) := by decide +kernel
theorem dL_packs_2 : decode cL_packs 2 = .ok (.aload_n 0, 1) := by decide +kernel
theorem dL_packs_3 : decode cL_packs 3 = .ok (.iload_n 1, 1) := by decide +kernel
theorem dL_packs_4 : decode cL_packs 4 = .ok (.iload_n 2, 1) := by decide +kernel
theorem dL_packs_5 : decode cL_packs 5 = .ok (.invokevirtual 140, 3) := by decide +kernel
theorem dL_packs_13 : decode cL_packs 13 = .ok (.astore 4, 2) := by decide +kernel
theorem dL_packs_15 : decode cL_packs 15 = .ok (.iconst 1, 1) := by decide +kernel
theorem dL_packs_16 : decode cL_packs 16 = .ok (.ireturn, 1) := by decide +kernel
theorem dL_parts_0 : decode cL_parts 0 = .ok (.aload_n 2, 1) := by decide +kernel
theorem dL_parts_1 : decode cL_parts 1 = .ok (.iconst 0, 1) := by decide +kernel
theorem dL_parts_2 : decode cL_parts 2 = .ok (.aload_n 0, 1) := by decide +kernel
theorem dL_parts_3 : decode cL_parts 3 = .ok (.iload_n 1, 1) := by decide +kernel
theorem dL_parts_4 : decode cL_parts 4 = .ok (.invokevirtual 85, 3) := by decide +kernel
theorem dL_parts_12 : decode cL_parts 12 = .ok (.astore_n 3, 1) := by decide +kernel
theorem dL_parts_13 : decode cL_parts 13 = .ok (.iconst 1, 1) := by decide +kernel
theorem dL_parts_14 : decode cL_parts 14 = .ok (.ireturn, 1) := by decide +kernel
theorem dL_place_0 : decode cL_place 0 = .ok (.aload 5, 2) := by decide +kernel
theorem dL_place_2 : decode cL_place 2 = .ok (.iconst 0, 1) := by decide +kernel
theorem dL_place_3 : decode cL_place 3 = .ok (.aload_n 0, 1) := by decide +kernel
theorem dL_place_4 : decode cL_place 4 = .ok (.iload_n 1, 1) := by decide +kernel
theorem dL_place_5 : decode cL_place 5 = .ok (.iload_n 2, 1) := by decide +kernel
theorem dL_place_6 : decode cL_place 6 = .ok (.iload_n 3, 1) := by decide +kernel
theorem dL_place_7 : decode cL_place 7 = .ok (.iload 4, 2) := by decide +kernel
theorem dL_place_9 : decode cL_place 9 = .ok (.invokevirtual 57, 3) := by decide +kernel
theorem dL_place_17 : decode cL_place 17 = .ok (.astore 6, 2) := by decide +kernel
theorem dL_place_19 : decode cL_place 19 = .ok (.iconst 1, 1) := by decide +kernel
theorem dL_place_20 : decode cL_place 20 = .ok (.ireturn, 1) := by decide +kernel
theorem dL_price_0 : decode cL_price 0 = .ok (.aload_n 2, 1) := by decide +kernel
theorem dL_price_1 : decode cL_price 1 = .ok (.iconst 0, 1) := by decide +kernel
theorem dL_price_2 : decode cL_price 2 = .ok (.aload_n 0, 1) := by decide +kernel
theorem dL_price_3 : decode cL_price 3 = .ok (.iload_n 1, 1) := by decide +kernel
theorem dL_price_4 : decode cL_price 4 = .ok (.invokevirtual 137, 3) := by decide +kernel
theorem dL_price_12 : decode cL_price 12 = .ok (.astore_n 3, 1) := by decide +kernel
theorem dL_price_13 : decode cL_price 13 = .ok (.iconst 1, 1) := by decide +kernel
theorem dL_price_14 : decode cL_price 14 = .ok (.ireturn, 1) := by decide +kernel
theorem dL_setOff_0 : decode cL_setOff 0 = .ok (.aload 4, 2) := by decide +kernel
theorem dL_setOff_2 : decode cL_setOff 2 = .ok (.iconst 0, 1) := by decide +kernel
theorem dL_setOff_3 : decode cL_setOff 3 = .ok (.aload_n 0, 1) := by decide +kernel
theorem dL_setOff_4 : decode cL_setOff 4 = .ok (.iload_n 1, 1) := by decide +kernel
theorem dL_setOff_5 : decode cL_setOff 5 = .ok (.iload_n 2, 1) := by decide +kernel
theorem dL_setOff_6 : decode cL_setOff 6 = .ok (.iload_n 3, 1) := by decide +kernel
theorem dL_setOff_7 : decode cL_setOff 7 = .ok (.invokevirtual 29, 3) := by decide +kernel
theorem dL_setOff_15 : decode cL_setOff 15 = .ok (.astore 5, 2) := by decide +kernel
theorem dL_setOff_17 : decode cL_setOff 17 = .ok (.iconst 1, 1) := by decide +kernel
theorem dL_setOff_18 : decode cL_setOff 18 = .ok (.ireturn, 1) := by decide +kernel
theorem dL_setRate_0 : decode cL_setRate 0 = .ok (.aload_n 3, 1) := by decide +kernel
theorem dL_setRate_1 : decode cL_setRate 1 = .ok (.iconst 0, 1) := by decide +kernel
theorem dL_setRate_2 : decode cL_setRate 2 = .ok (.aload_n 0, 1) := by decide +kernel
theorem dL_setRate_3 : decode cL_setRate 3 = .ok (.iload_n 1, 1) := by decide +kernel
theorem dL_setRate_4 : decode cL_setRate 4 = .ok (.iload_n 2, 1) := by decide +kernel
theorem dL_setRate_5 : decode cL_setRate 5 = .ok (.invokevirtual 134, 3) := by decide +kernel
theorem dL_setRate_8 : decode cL_setRate 8 = .ok (.i2l, 1) := by decide +kernel
theorem dL_setRate_9 : decode cL_setRate 9 = .ok (.lastore, 1) := by decide +kernel
theorem dL_setRate_10 : decode cL_setRate 10 = .ok (.goto 7, 3) := by decide +kernel
theorem dL_setRate_13 : decode cL_setRate 13 = .ok (.astore 4, 2) := by decide +kernel
theorem dL_setRate_15 : decode cL_setRate 15 = .ok (.iconst 1, 1) := by decide +kernel
theorem dL_setRate_16 : decode cL_setRate 16 = .ok (.ireturn, 1) := by decide +kernel
theorem dL_setRate_17 : decode cL_setRate 17 = .ok (.iconst 0, 1) := by decide +kernel
theorem dL_setRate_18 : decode cL_setRate 18 = .ok (.ireturn, 1) := by decide +kernel
theorem dL_setSetup_0 : decode cL_setSetup 0 = .ok (.aload_n 2, 1) := by decide +kernel
theorem dL_setSetup_1 : decode cL_setSetup 1 = .ok (.iconst 0, 1) := by decide +kernel
theorem dL_setSetup_2 : decode cL_setSetup 2 = .ok (.aload_n 0, 1) := by decide +kernel
theorem dL_setSetup_3 : decode cL_setSetup 3 = .ok (.iload_n 1, 1) := by decide +kernel
theorem dL_setSetup_4 : decode cL_setSetup 4 = .ok (.invokevirtual 152, 3) := by decide +kernel
theorem dL_setSetup_7 : decode cL_setSetup 7 = .ok (.i2l, 1) := by decide +kernel
theorem dL_setSetup_8 : decode cL_setSetup 8 = .ok (.lastore, 1) := by decide +kernel
theorem dL_setSetup_9 : decode cL_setSetup 9 = .ok (.goto 6, 3) := by decide +kernel
theorem dL_setSetup_12 : decode cL_setSetup 12 = .ok (.astore_n 3, 1) := by decide +kernel
theorem dL_setSetup_13 : decode cL_setSetup 13 = .ok (.iconst 1, 1) := by decide +kernel
theorem dL_setSetup_14 : decode cL_setSetup 14 = .ok (.ireturn, 1) := by decide +kernel
theorem dL_setSetup_15 : decode cL_setSetup 15 = .ok (.iconst 0, 1) := by decide +kernel
theorem dL_setSetup_16 : decode cL_setSetup 16 = .ok (.ireturn, 1) := by decide +kernel
theorem dL_shift_0 : decode cL_shift 0 = .ok (.aload_n 3, 1) := by decide +kernel
theorem dL_shift_1 : decode cL_shift 1 = .ok (.iconst 0, 1) := by decide +kernel
theorem dL_shift_2 : decode cL_shift 2 = .ok (.aload_n 0, 1) := by decide +kernel
theorem dL_shift_3 : decode cL_shift 3 = .ok (.iload_n 1, 1) := by decide +kernel
theorem dL_shift_4 : decode cL_shift 4 = .ok (.iload_n 2, 1) := by decide +kernel
theorem dL_shift_5 : decode cL_shift 5 = .ok (.invokevirtual 61, 3) := by decide +kernel
theorem dL_shift_13 : decode cL_shift 13 = .ok (.astore 4, 2) := by decide +kernel
theorem dL_shift_15 : decode cL_shift 15 = .ok (.iconst 1, 1) := by decide +kernel
theorem dL_shift_16 : decode cL_shift 16 = .ok (.ireturn, 1) := by decide +kernel
theorem dL_told_0 : decode cL_told 0 = .ok (.aload_n 3, 1) := by decide +kernel
theorem dL_told_1 : decode cL_told 1 = .ok (.iconst 0, 1) := by decide +kernel
theorem dL_told_2 : decode cL_told 2 = .ok (.aload_n 0, 1) := by decide +kernel
theorem dL_told_3 : decode cL_told 3 = .ok (.iload_n 1, 1) := by decide +kernel
theorem dL_told_4 : decode cL_told 4 = .ok (.iload_n 2, 1) := by decide +kernel
theorem dL_told_5 : decode cL_told 5 = .ok (.invokevirtual 53, 3) := by decide +kernel
theorem dL_told_13 : decode cL_told 13 = .ok (.astore 4, 2) := by decide +kernel
theorem dL_told_15 : decode cL_told 15 = .ok (.iconst 1, 1) := by decide +kernel
theorem dL_told_16 : decode cL_told 16 = .ok (.ireturn, 1) := by decide +kernel
theorem dL_type_0 : decode cL_type 0 = .ok (.aload_n 2, 1) := by decide +kernel
theorem dL_type_1 : decode cL_type 1 = .ok (.iconst 0, 1) := by decide +kernel
theorem dL_type_2 : decode cL_type 2 = .ok (.aload_n 0, 1) := by decide +kernel
theorem dL_type_3 : decode cL_type 3 = .ok (.iload_n 1, 1) := by decide +kernel
theorem dL_type_4 : decode cL_type 4 = .ok (.invokevirtual 37, 3) := by decide +kernel
theorem dL_type_7 : decode cL_type 7 = .ok (.i2l, 1) := by decide +kernel
theorem dL_type_8 : decode cL_type 8 = .ok (.lastore, 1) := by decide +kernel
theorem dL_type_9 : decode cL_type 9 = .ok (.goto 6, 3) := by decide +kernel
theorem dL_type_15 : decode cL_type 15 = .ok (.iconst 0, 1) := by decide +kernel
theorem dL_type_16 : decode cL_type 16 = .ok (.ireturn, 1) := by decide +kernel
theorem dL_uncut_0 : decode cL_uncut 0 = .ok (.aload_n 2, 1) := by decide +kernel
theorem dL_uncut_1 : decode cL_uncut 1 = .ok (.iconst 0, 1) := by decide +kernel
theorem dL_uncut_2 : decode cL_uncut 2 = .ok (.aload_n 0, 1) := by decide +kernel
theorem dL_uncut_3 : decode cL_uncut 3 = .ok (.iload_n 1, 1) := by decide +kernel
theorem dL_uncut_4 : decode cL_uncut 4 = .ok (.invokevirtual 122, 3) := by decide +kernel
theorem dL_uncut_12 : decode cL_uncut 12 = .ok (.astore_n 3, 1) := by decide +kernel
theorem dL_uncut_13 : decode cL_uncut 13 = .ok (.iconst 1, 1) := by decide +kernel
theorem dL_uncut_14 : decode cL_uncut 14 = .ok (.ireturn, 1) := by decide +kernel
theorem dX11_addBoards_0 : decode cX11_addBoards 0 = .ok (.iload_n 1, 1) := by decide +kernel
theorem dX11_addBoards_1 : decode cX11_addBoards 1 = .ok (.invokestatic 186, 3) := by decide +kernel
theorem dX11_addBoards_4 : decode cX11_addBoards 4 = .ok (.ifCond .ne 28, 3) := by decide +kernel
theorem dX11_addBoards_7 : decode cX11_addBoards 7 = .ok (.iload_n 2, 1) := by decide +kernel
theorem dX11_addBoards_8 : decode cX11_addBoards 8 = .ok (.bipush 18, 2) := by decide +kernel
theorem dX11_addBoards_10 : decode cX11_addBoards 10 = .ok (.if_icmp .eq 9, 3) := by decide +kernel
theorem dX11_addBoards_13 : decode cX11_addBoards 13 = .ok (.iload_n 2, 1) := by decide +kernel
theorem dX11_addBoards_14 : decode cX11_addBoards 14 = .ok (.bipush 8, 2) := by decide +kernel
theorem dX11_addBoards_16 : decode cX11_addBoards 16 = .ok (.if_icmp .ne 16, 3) := by decide +kernel
theorem dX11_addBoards_19 : decode cX11_addBoards 19 = .ok (.iload_n 3, 1) := by decide +kernel
theorem dX11_addBoards_20 : decode cX11_addBoards 20 = .ok (.sipush 300, 3) := by decide +kernel
theorem dX11_addBoards_23 : decode cX11_addBoards 23 = .ok (.sipush 2800, 3) := by decide +kernel
theorem dX11_addBoards_26 : decode cX11_addBoards 26 = .ok (.invokestatic 63, 3) := by decide +kernel
theorem dX11_addBoards_29 : decode cX11_addBoards 29 = .ok (.ifCond .eq 11, 3) := by decide +kernel
theorem dX11_addBoards_32 : decode cX11_addBoards 32 = .ok (.new 67, 3) := by decide +kernel
theorem dX11_addBoards_35 : decode cX11_addBoards 35 = .ok (.dup, 1) := by decide +kernel
theorem dX11_addBoards_36 : decode cX11_addBoards 36 = .ok (.invokespecial 69, 3) := by decide +kernel
theorem dX11_addBoards_39 : decode cX11_addBoards 39 = .ok (.athrow, 1) := by decide +kernel
theorem dX11_addBoards_40 : decode cX11_addBoards 40 = .ok (.iload 4, 2) := by decide +kernel
theorem dX11_addBoards_42 : decode cX11_addBoards 42 = .ok (.sipush 300, 3) := by decide +kernel
theorem dX11_addBoards_45 : decode cX11_addBoards 45 = .ok (.sipush 2100, 3) := by decide +kernel
theorem dX11_addBoards_48 : decode cX11_addBoards 48 = .ok (.invokestatic 63, 3) := by decide +kernel
theorem dX11_addBoards_51 : decode cX11_addBoards 51 = .ok (.ifCond .ne 14, 3) := by decide +kernel
theorem dX11_addBoards_54 : decode cX11_addBoards 54 = .ok (.iload 5, 2) := by decide +kernel
theorem dX11_addBoards_56 : decode cX11_addBoards 56 = .ok (.iconst 1, 1) := by decide +kernel
theorem dX11_addBoards_57 : decode cX11_addBoards 57 = .ok (.bipush 20, 2) := by decide +kernel
theorem dX11_addBoards_59 : decode cX11_addBoards 59 = .ok (.invokestatic 63, 3) := by decide +kernel
theorem dX11_addBoards_62 : decode cX11_addBoards 62 = .ok (.ifCond .eq 11, 3) := by decide +kernel
theorem dX11_addBoards_65 : decode cX11_addBoards 65 = .ok (.new 67, 3) := by decide +kernel
theorem dX11_addBoards_68 : decode cX11_addBoards 68 = .ok (.dup, 1) := by decide +kernel
theorem dX11_addBoards_69 : decode cX11_addBoards 69 = .ok (.invokespecial 69, 3) := by decide +kernel
theorem dX11_addBoards_72 : decode cX11_addBoards 72 = .ok (.athrow, 1) := by decide +kernel
theorem dX11_addBoards_73 : decode cX11_addBoards 73 = .ok (.aload_n 0, 1) := by decide +kernel
theorem dX11_addBoards_74 : decode cX11_addBoards 74 = .ok (.getfield 32, 3) := by decide +kernel
theorem dX11_addBoards_77 : decode cX11_addBoards 77 = .ok (.getfield 299, 3) := by decide +kernel
theorem dX11_addBoards_80 : decode cX11_addBoards 80 = .ok (.iload 5, 2) := by decide +kernel
theorem dX11_addBoards_82 : decode cX11_addBoards 82 = .ok (.iadd, 1) := by decide +kernel
theorem dX11_addBoards_83 : decode cX11_addBoards 83 = .ok (.bipush 60, 2) := by decide +kernel
theorem dX11_addBoards_85 : decode cX11_addBoards 85 = .ok (.if_icmp .le 11, 3) := by decide +kernel
theorem dX11_addBoards_96 : decode cX11_addBoards 96 = .ok (.iconst 0, 1) := by decide +kernel
theorem dX11_addBoards_97 : decode cX11_addBoards 97 = .ok (.istore 6, 2) := by decide +kernel
theorem dX11_addBoards_99 : decode cX11_addBoards 99 = .ok (.iload 6, 2) := by decide +kernel
theorem dX11_addBoards_101 : decode cX11_addBoards 101 = .ok (.iload 5, 2) := by decide +kernel
theorem dX11_addBoards_103 : decode cX11_addBoards 103 = .ok (.if_icmp .ge 23, 3) := by decide +kernel
theorem dX11_addBoards_106 : decode cX11_addBoards 106 = .ok (.aload_n 0, 1) := by decide +kernel
theorem dX11_addBoards_107 : decode cX11_addBoards 107 = .ok (.getfield 32, 3) := by decide +kernel
theorem dX11_addBoards_110 : decode cX11_addBoards 110 = .ok (.iload_n 1, 1) := by decide +kernel
theorem dX11_addBoards_111 : decode cX11_addBoards 111 = .ok (.iload_n 2, 1) := by decide +kernel
theorem dX11_addBoards_112 : decode cX11_addBoards 112 = .ok (.iload_n 3, 1) := by decide +kernel
theorem dX11_addBoards_113 : decode cX11_addBoards 113 = .ok (.iload 4, 2) := by decide +kernel
theorem dX11_addBoards_115 : decode cX11_addBoards 115 = .ok (.iconst 0, 1) := by decide +kernel
theorem dX11_addBoards_116 : decode cX11_addBoards 116 = .ok (.invokevirtual 302, 3) := by decide +kernel
theorem dX11_addBoards_119 : decode cX11_addBoards 119 = .ok (.pop, 1) := by decide +kernel
theorem dX11_addBoards_120 : decode cX11_addBoards 120 = .ok (.iinc 6 1, 3) := by decide +kernel
theorem dX11_addBoards_123 : decode cX11_addBoards 123 = .ok (.goto (-24), 3) := by decide +kernel
theorem dX11_addBoards_126 : decode cX11_addBoards 126 = .ok (.aload_n 0, 1) := by decide +kernel
theorem dX11_addBoards_127 : decode cX11_addBoards 127 = .ok (.getfield 32, 3) := by decide +kernel
theorem dX11_addBoards_130 : decode cX11_addBoards 130 = .ok (.dup, 1) := by decide +kernel
theorem dX11_addBoards_131 : decode cX11_addBoards 131 = .ok (.getfield 305, 3) := by decide +kernel
theorem dX11_addBoards_134 : decode cX11_addBoards 134 = .ok (.iload 5, 2) := by decide +kernel
theorem dX11_addBoards_136 : decode cX11_addBoards 136 = .ok (.i2l, 1) := by decide +kernel
theorem dX11_addBoards_137 : decode cX11_addBoards 137 = .ok (.iload_n 3, 1) := by decide +kernel
theorem dX11_addBoards_138 : decode cX11_addBoards 138 = .ok (.i2l, 1) := by decide +kernel
theorem dX11_addBoards_139 : decode cX11_addBoards 139 = .ok (.lmul, 1) := by decide +kernel
theorem dX11_addBoards_140 : decode cX11_addBoards 140 = .ok (.iload 4, 2) := by decide +kernel
theorem dX11_addBoards_142 : decode cX11_addBoards 142 = .ok (.i2l, 1) := by decide +kernel
theorem dX11_addBoards_143 : decode cX11_addBoards 143 = .ok (.lmul, 1) := by decide +kernel
theorem dX11_addBoards_144 : decode cX11_addBoards 144 = .ok (.ladd, 1) := by decide +kernel
theorem dX11_addBoards_145 : decode cX11_addBoards 145 = .ok (.putfield 305, 3) := by decide +kernel
theorem dX11_addBoards_148 : decode cX11_addBoards 148 = .ok (.aload_n 0, 1) := by decide +kernel
theorem dX11_addBoards_149 : decode cX11_addBoards 149 = .ok (.getfield 32, 3) := by decide +kernel
theorem dX11_addBoards_152 : decode cX11_addBoards 152 = .ok (.getfield 299, 3) := by decide +kernel
theorem dX11_addBoards_155 : decode cX11_addBoards 155 = .ok (.ireturn, 1) := by decide +kernel
theorem dX11_addType_0 : decode cX11_addType 0 = .ok (.aload_n 0, 1) := by decide +kernel
theorem dX11_addType_1 : decode cX11_addType 1 = .ok (.getfield 10, 3) := by decide +kernel
theorem dX11_addType_4 : decode cX11_addType 4 = .ok (.invokevirtual 143, 3) := by decide +kernel
theorem dX11_addType_7 : decode cX11_addType 7 = .ok (.aload_n 0, 1) := by decide +kernel
theorem dX11_addType_8 : decode cX11_addType 8 = .ok (.getfield 10, 3) := by decide +kernel
theorem dX11_addType_11 : decode cX11_addType 11 = .ok (.invokevirtual 146, 3) := by decide +kernel
theorem dX11_addType_14 : decode cX11_addType 14 = .ok (.ifCond .eq 11, 3) := by decide +kernel
theorem dX11_addType_17 : decode cX11_addType 17 = .ok (.new 67, 3) := by decide +kernel
theorem dX11_addType_20 : decode cX11_addType 20 = .ok (.dup, 1) := by decide +kernel
theorem dX11_addType_21 : decode cX11_addType 21 = .ok (.invokespecial 69, 3) := by decide +kernel
theorem dX11_addType_24 : decode cX11_addType 24 = .ok (.athrow, 1) := by decide +kernel
theorem dX11_addWall_0 : decode cX11_addWall 0 = .ok (.iload_n 1, 1) := by decide +kernel
theorem dX11_addWall_1 : decode cX11_addWall 1 = .ok (.bipush 101, 2) := by decide +kernel
theorem dX11_addWall_3 : decode cX11_addWall 3 = .ok (.if_icmp .eq 21, 3) := by decide +kernel
theorem dX11_addWall_6 : decode cX11_addWall 6 = .ok (.iload_n 1, 1) := by decide +kernel
theorem dX11_addWall_7 : decode cX11_addWall 7 = .ok (.bipush 119, 2) := by decide +kernel
theorem dX11_addWall_9 : decode cX11_addWall 9 = .ok (.if_icmp .eq 15, 3) := by decide +kernel
theorem dX11_addWall_12 : decode cX11_addWall 12 = .ok (.iload_n 1, 1) := by decide +kernel
theorem dX11_addWall_13 : decode cX11_addWall 13 = .ok (.bipush 110, 2) := by decide +kernel
theorem dX11_addWall_15 : decode cX11_addWall 15 = .ok (.if_icmp .eq 9, 3) := by decide +kernel
theorem dX11_addWall_18 : decode cX11_addWall 18 = .ok (.iload_n 1, 1) := by decide +kernel
theorem dX11_addWall_19 : decode cX11_addWall 19 = .ok (.bipush 115, 2) := by decide +kernel
theorem dX11_addWall_21 : decode cX11_addWall 21 = .ok (.if_icmp .ne 7, 3) := by decide +kernel
theorem dX11_addWall_24 : decode cX11_addWall 24 = .ok (.iconst 1, 1) := by decide +kernel
theorem dX11_addWall_25 : decode cX11_addWall 25 = .ok (.goto 4, 3) := by decide +kernel
theorem dX11_addWall_28 : decode cX11_addWall 28 = .ok (.iconst 0, 1) := by decide +kernel
theorem dX11_addWall_29 : decode cX11_addWall 29 = .ok (.istore_n 3, 1) := by decide +kernel
theorem dX11_addWall_30 : decode cX11_addWall 30 = .ok (.iload_n 3, 1) := by decide +kernel
theorem dX11_addWall_31 : decode cX11_addWall 31 = .ok (.ifCond .eq 16, 3) := by decide +kernel
theorem dX11_addWall_34 : decode cX11_addWall 34 = .ok (.iload_n 2, 1) := by decide +kernel
theorem dX11_addWall_35 : decode cX11_addWall 35 = .ok (.sipush 500, 3) := by decide +kernel
theorem dX11_addWall_38 : decode cX11_addWall 38 = .ok (.sipush 9999, 3) := by decide +kernel
theorem dX11_addWall_41 : decode cX11_addWall 41 = .ok (.invokestatic 63, 3) := by decide +kernel
theorem dX11_addWall_44 : decode cX11_addWall 44 = .ok (.ifCond .eq 11, 3) := by decide +kernel
theorem dX11_addWall_47 : decode cX11_addWall 47 = .ok (.new 67, 3) := by decide +kernel
theorem dX11_addWall_50 : decode cX11_addWall 50 = .ok (.dup, 1) := by decide +kernel
theorem dX11_addWall_51 : decode cX11_addWall 51 = .ok (.invokespecial 69, 3) := by decide +kernel
theorem dX11_addWall_54 : decode cX11_addWall 54 = .ok (.athrow, 1) := by decide +kernel
theorem dX11_addWall_55 : decode cX11_addWall 55 = .ok (.aload_n 0, 1) := by decide +kernel
theorem dX11_addWall_56 : decode cX11_addWall 56 = .ok (.getfield 25, 3) := by decide +kernel
theorem dX11_addWall_59 : decode cX11_addWall 59 = .ok (.getfield 70, 3) := by decide +kernel
theorem dX11_addWall_62 : decode cX11_addWall 62 = .ok (.bipush 6, 2) := by decide +kernel
theorem dX11_addWall_64 : decode cX11_addWall 64 = .ok (.if_icmp .ge 13, 3) := by decide +kernel
theorem dX11_addWall_67 : decode cX11_addWall 67 = .ok (.aload_n 0, 1) := by decide +kernel
theorem dX11_addWall_68 : decode cX11_addWall 68 = .ok (.getfield 25, 3) := by decide +kernel
theorem dX11_addWall_71 : decode cX11_addWall 71 = .ok (.getfield 74, 3) := by decide +kernel
theorem dX11_addWall_74 : decode cX11_addWall 74 = .ok (.ifCond .le 11, 3) := by decide +kernel
theorem dX11_addWall_85 : decode cX11_addWall 85 = .ok (.aload_n 0, 1) := by decide +kernel
theorem dX11_addWall_86 : decode cX11_addWall 86 = .ok (.getfield 25, 3) := by decide +kernel
theorem dX11_addWall_89 : decode cX11_addWall 89 = .ok (.iload_n 1, 1) := by decide +kernel
theorem dX11_addWall_90 : decode cX11_addWall 90 = .ok (.iload_n 2, 1) := by decide +kernel
theorem dX11_addWall_91 : decode cX11_addWall 91 = .ok (.invokevirtual 80, 3) := by decide +kernel
theorem dX11_addWall_94 : decode cX11_addWall 94 = .ok (.ireturn, 1) := by decide +kernel
theorem dX11_clamp_0 : decode cX11_clamp 0 = .ok (.aload_n 0, 1) := by decide +kernel
theorem dX11_clamp_1 : decode cX11_clamp 1 = .ok (.iload_n 1, 1) := by decide +kernel
theorem dX11_clamp_2 : decode cX11_clamp 2 = .ok (.iload_n 2, 1) := by decide +kernel
theorem dX11_clamp_3 : decode cX11_clamp 3 = .ok (.invokevirtual 249, 3) := by decide +kernel
theorem dX11_drills_0 : decode cX11_drills 0 = .ok (.aload_n 0, 1) := by decide +kernel
theorem dX11_drills_1 : decode cX11_drills 1 = .ok (.iload_n 1, 1) := by decide +kernel
theorem dX11_drills_2 : decode cX11_drills 2 = .ok (.iload_n 2, 1) := by decide +kernel
theorem dX11_drills_3 : decode cX11_drills 3 = .ok (.invokevirtual 249, 3) := by decide +kernel
theorem dX11_fault_0 : decode cX11_fault 0 = .ok (.aload_n 0, 1) := by decide +kernel
theorem dX11_fault_1 : decode cX11_fault 1 = .ok (.getfield 10, 3) := by decide +kernel
theorem dX11_fault_4 : decode cX11_fault 4 = .ok (.invokevirtual 143, 3) := by decide +kernel
theorem dX11_fault_7 : decode cX11_fault 7 = .ok (.aload_n 0, 1) := by decide +kernel
theorem dX11_fault_8 : decode cX11_fault 8 = .ok (.getfield 10, 3) := by decide +kernel
theorem dX11_fault_11 : decode cX11_fault 11 = .ok (.invokevirtual 146, 3) := by decide +kernel
theorem dX11_fault_14 : decode cX11_fault 14 = .ok (.ifCond .ne 11, 3) := by decide +kernel
theorem dX11_fault_25 : decode cX11_fault 25 = .ok (.aload_n 0, 1) := by decide +kernel
theorem dX11_fault_26 : decode cX11_fault 26 = .ok (.getfield 10, 3) := by decide +kernel
theorem dX11_fault_29 : decode cX11_fault 29 = .ok (.getfield 152, 3) := by decide +kernel
theorem dX11_fault_32 : decode cX11_fault 32 = .ok (.ireturn, 1) := by decide +kernel
theorem dX11_faultKind_0 : decode cX11_faultKind 0 = .ok (.aload_n 0, 1) := by decide +kernel
theorem dX11_faultKind_1 : decode cX11_faultKind 1 = .ok (.getfield 10, 3) := by decide +kernel
theorem dX11_faultKind_4 : decode cX11_faultKind 4 = .ok (.invokevirtual 143, 3) := by decide +kernel
theorem dX11_faultKind_7 : decode cX11_faultKind 7 = .ok (.aload_n 0, 1) := by decide +kernel
theorem dX11_faultKind_8 : decode cX11_faultKind 8 = .ok (.getfield 10, 3) := by decide +kernel
theorem dX11_faultKind_11 : decode cX11_faultKind 11 = .ok (.invokevirtual 146, 3) := by decide +kernel
theorem dX11_faultKind_14 : decode cX11_faultKind 14 = .ok (.ifCond .ne 11, 3) := by decide +kernel
theorem dX11_faultKind_25 : decode cX11_faultKind 25 = .ok (.aload_n 0, 1) := by decide +kernel
theorem dX11_faultKind_26 : decode cX11_faultKind 26 = .ok (.getfield 10, 3) := by decide +kernel
theorem dX11_faultKind_29 : decode cX11_faultKind 29 = .ok (.getfield 155, 3) := by decide +kernel
theorem dX11_faultKind_32 : decode cX11_faultKind 32 = .ok (.ireturn, 1) := by decide +kernel
theorem dX11_free_0 : decode cX11_free 0 = .ok (.aload_n 0, 1) := by decide +kernel
theorem dX11_free_1 : decode cX11_free 1 = .ok (.getfield 25, 3) := by decide +kernel
theorem dX11_free_4 : decode cX11_free 4 = .ok (.iload_n 1, 1) := by decide +kernel
theorem dX11_free_5 : decode cX11_free 5 = .ok (.iload_n 2, 1) := by decide +kernel
theorem dX11_free_6 : decode cX11_free 6 = .ok (.iconst 0, 1) := by decide +kernel
theorem dX11_free_7 : decode cX11_free 7 = .ok (.invokevirtual 245, 3) := by decide +kernel
theorem dX11_hole_0 : decode cX11_hole 0 = .ok (.aload_n 0, 1) := by decide +kernel
theorem dX11_hole_1 : decode cX11_hole 1 = .ok (.iload_n 1, 1) := by decide +kernel
theorem dX11_hole_2 : decode cX11_hole 2 = .ok (.iload_n 2, 1) := by decide +kernel
theorem dX11_hole_3 : decode cX11_hole 3 = .ok (.invokevirtual 249, 3) := by decide +kernel
theorem dX11_holes_0 : decode cX11_holes 0 = .ok (.aload_n 0, 1) := by decide +kernel
theorem dX11_holes_1 : decode cX11_holes 1 = .ok (.iload_n 1, 1) := by decide +kernel
theorem dX11_holes_2 : decode cX11_holes 2 = .ok (.iload_n 2, 1) := by decide +kernel
theorem dX11_holes_3 : decode cX11_holes 3 = .ok (.invokevirtual 249, 3) := by decide +kernel
theorem dX11_init_0 : decode cX11_init 0 = .ok (.aload_n 0, 1) := by decide +kernel
theorem dX11_init_1 : decode cX11_init 1 = .ok (.invokespecial 1, 3) := by decide +kernel
theorem dX11_init_4 : decode cX11_init 4 = .ok (.aload_n 0, 1) := by decide +kernel
theorem dX11_init_5 : decode cX11_init 5 = .ok (.new 7, 3) := by decide +kernel
theorem dX11_init_8 : decode cX11_init 8 = .ok (.dup, 1) := by decide +kernel
theorem dX11_init_9 : decode cX11_init 9 = .ok (.invokespecial 9, 3) := by decide +kernel
theorem dX11_init_12 : decode cX11_init 12 = .ok (.putfield 10, 3) := by decide +kernel
theorem dX11_init_15 : decode cX11_init 15 = .ok (.aload_n 0, 1) := by decide +kernel
theorem dX11_init_16 : decode cX11_init 16 = .ok (.new 16, 3) := by decide +kernel
theorem dX11_init_19 : decode cX11_init 19 = .ok (.dup, 1) := by decide +kernel
theorem dX11_init_20 : decode cX11_init 20 = .ok (.aload_n 0, 1) := by decide +kernel
theorem dX11_init_21 : decode cX11_init 21 = .ok (.getfield 10, 3) := by decide +kernel
theorem dX11_init_24 : decode cX11_init 24 = .ok (.invokevirtual 18, 3) := by decide +kernel
theorem dX11_init_27 : decode cX11_init 27 = .ok (.invokespecial 22, 3) := by decide +kernel
theorem dX11_init_30 : decode cX11_init 30 = .ok (.putfield 25, 3) := by decide +kernel
theorem dX11_init_33 : decode cX11_init 33 = .ok (.aload_n 0, 1) := by decide +kernel
theorem dX11_init_34 : decode cX11_init 34 = .ok (.new 29, 3) := by decide +kernel
theorem dX11_init_37 : decode cX11_init 37 = .ok (.dup, 1) := by decide +kernel
theorem dX11_init_38 : decode cX11_init 38 = .ok (.invokespecial 31, 3) := by decide +kernel
theorem dX11_init_41 : decode cX11_init 41 = .ok (.putfield 32, 3) := by decide +kernel
theorem dX11_init_44 : decode cX11_init 44 = .ok (.aload_n 0, 1) := by decide +kernel
theorem dX11_init_45 : decode cX11_init 45 = .ok (.new 36, 3) := by decide +kernel
theorem dX11_init_48 : decode cX11_init 48 = .ok (.dup, 1) := by decide +kernel
theorem dX11_init_49 : decode cX11_init 49 = .ok (.aload_n 0, 1) := by decide +kernel
theorem dX11_init_50 : decode cX11_init 50 = .ok (.getfield 32, 3) := by decide +kernel
theorem dX11_init_53 : decode cX11_init 53 = .ok (.invokespecial 38, 3) := by decide +kernel
theorem dX11_init_56 : decode cX11_init 56 = .ok (.putfield 41, 3) := by decide +kernel
theorem dX11_init_59 : decode cX11_init 59 = .ok (.aload_n 0, 1) := by decide +kernel
theorem dX11_init_60 : decode cX11_init 60 = .ok (.new 45, 3) := by decide +kernel
theorem dX11_init_63 : decode cX11_init 63 = .ok (.dup, 1) := by decide +kernel
theorem dX11_init_64 : decode cX11_init 64 = .ok (.invokespecial 47, 3) := by decide +kernel
theorem dX11_init_67 : decode cX11_init 67 = .ok (.putfield 48, 3) := by decide +kernel
theorem dX11_init_70 : decode cX11_init 70 = .ok (.aload_n 0, 1) := by decide +kernel
theorem dX11_init_71 : decode cX11_init 71 = .ok (.new 52, 3) := by decide +kernel
theorem dX11_init_74 : decode cX11_init 74 = .ok (.dup, 1) := by decide +kernel
theorem dX11_init_75 : decode cX11_init 75 = .ok (.invokespecial 54, 3) := by decide +kernel
theorem dX11_init_78 : decode cX11_init 78 = .ok (.putfield 55, 3) := by decide +kernel
theorem dX11_init_81 : decode cX11_init 81 = .ok (.aload_n 0, 1) := by decide +kernel
theorem dX11_init_82 : decode cX11_init 82 = .ok (.iconst 3, 1) := by decide +kernel
theorem dX11_init_83 : decode cX11_init 83 = .ok (.newarray .int, 2) := by decide +kernel
theorem dX11_init_85 : decode cX11_init 85 = .ok (.dup, 1) := by decide +kernel
theorem dX11_init_86 : decode cX11_init 86 = .ok (.iconst 0, 1) := by decide +kernel
theorem dX11_init_87 : decode cX11_init 87 = .ok (.iconst 2, 1) := by decide +kernel
theorem dX11_init_88 : decode cX11_init 88 = .ok (.iastore, 1) := by decide +kernel
theorem dX11_init_89 : decode cX11_init 89 = .ok (.dup, 1) := by decide +kernel
theorem dX11_init_90 : decode cX11_init 90 = .ok (.iconst 1, 1) := by decide +kernel
theorem dX11_init_91 : decode cX11_init 91 = .ok (.iconst 5, 1) := by decide +kernel
theorem dX11_init_92 : decode cX11_init 92 = .ok (.iastore, 1) := by decide +kernel
theorem dX11_init_93 : decode cX11_init 93 = .ok (.dup, 1) := by decide +kernel
theorem dX11_init_94 : decode cX11_init 94 = .ok (.iconst 2, 1) := by decide +kernel
theorem dX11_init_95 : decode cX11_init 95 = .ok (.bipush 9, 2) := by decide +kernel
theorem dX11_init_97 : decode cX11_init 97 = .ok (.iastore, 1) := by decide +kernel
theorem dX11_init_98 : decode cX11_init 98 = .ok (.putfield 59, 3) := by decide +kernel
theorem dX11_init_101 : decode cX11_init 101 = .ok (.return_, 1) := by decide +kernel
theorem dX11_kindOf_0 : decode cX11_kindOf 0 = .ok (.aload_n 0, 1) := by decide +kernel
theorem dX11_kindOf_1 : decode cX11_kindOf 1 = .ok (.iload_n 1, 1) := by decide +kernel
theorem dX11_kindOf_2 : decode cX11_kindOf 2 = .ok (.iload_n 2, 1) := by decide +kernel
theorem dX11_kindOf_3 : decode cX11_kindOf 3 = .ok (.invokevirtual 249, 3) := by decide +kernel
theorem dX11_lose_0 : decode cX11_lose 0 = .ok (.aload_n 0, 1) := by decide +kernel
theorem dX11_lose_1 : decode cX11_lose 1 = .ok (.iload_n 1, 1) := by decide +kernel
theorem dX11_lose_2 : decode cX11_lose 2 = .ok (.iload_n 2, 1) := by decide +kernel
theorem dX11_lose_3 : decode cX11_lose 3 = .ok (.invokevirtual 249, 3) := by decide +kernel
theorem dX11_packOf_0 : decode cX11_packOf 0 = .ok (.aload_n 0, 1) := by decide +kernel
theorem dX11_packOf_1 : decode cX11_packOf 1 = .ok (.aload_n 0, 1) := by decide +kernel
theorem dX11_packOf_2 : decode cX11_packOf 2 = .ok (.iload_n 1, 1) := by decide +kernel
theorem dX11_packOf_3 : decode cX11_packOf 3 = .ok (.iload_n 3, 1) := by decide +kernel
theorem dX11_packOf_4 : decode cX11_packOf 4 = .ok (.invokevirtual 249, 3) := by decide +kernel
theorem dX11_size_0 : decode cX11_size 0 = .ok (.aload_n 0, 1) := by decide +kernel
theorem dX11_size_1 : decode cX11_size 1 = .ok (.iload_n 1, 1) := by decide +kernel
theorem dX11_size_2 : decode cX11_size 2 = .ok (.iload_n 2, 1) := by decide +kernel
theorem dX11_size_3 : decode cX11_size 3 = .ok (.invokevirtual 249, 3) := by decide +kernel
theorem dX11_stepAt_0 : decode cX11_stepAt 0 = .ok (.aload_n 0, 1) := by decide +kernel
theorem dX11_stepAt_1 : decode cX11_stepAt 1 = .ok (.iload_n 1, 1) := by decide +kernel
theorem dX11_stepAt_2 : decode cX11_stepAt 2 = .ok (.iload_n 2, 1) := by decide +kernel
theorem dX11_stepAt_3 : decode cX11_stepAt 3 = .ok (.invokevirtual 249, 3) := by decide +kernel
theorem dX11_weight_0 : decode cX11_weight 0 = .ok (.aload_n 0, 1) := by decide +kernel
theorem dX11_weight_1 : decode cX11_weight 1 = .ok (.iload_n 1, 1) := by decide +kernel
theorem dX11_weight_2 : decode cX11_weight 2 = .ok (.iload_n 2, 1) := by decide +kernel
theorem dX11_weight_3 : decode cX11_weight 3 = .ok (.invokevirtual 249, 3) := by decide +kernel
theorem dX11_widest_0 : decode cX11_widest 0 = .ok (.aload_n 0, 1) := by decide +kernel
theorem dX11_widest_1 : decode cX11_widest 1 = .ok (.getfield 25, 3) := by decide +kernel
theorem dX11_widest_4 : decode cX11_widest 4 = .ok (.iload_n 1, 1) := by decide +kernel
theorem dX11_widest_5 : decode cX11_widest 5 = .ok (.iload_n 2, 1) := by decide +kernel
theorem dX11_widest_6 : decode cX11_widest 6 = .ok (.iconst 1, 1) := by decide +kernel
theorem dX11_widest_7 : decode cX11_widest 7 = .ok (.invokevirtual 245, 3) := by decide +kernel
theorem dX1_plan_0 : decode cX1_plan 0 = .ok (.iconst 0, 1) := by decide +kernel
theorem dX1_plan_1 : decode cX1_plan 1 = .ok (.istore_n 1, 1) := by decide +kernel
theorem dX1_plan_2 : decode cX1_plan 2 = .ok (.iload_n 1, 1) := by decide +kernel
theorem dX1_plan_3 : decode cX1_plan 3 = .ok (.bipush 6, 2) := by decide +kernel
theorem dX1_plan_5 : decode cX1_plan 5 = .ok (.if_icmp .ge 16, 3) := by decide +kernel
theorem dX1_plan_8 : decode cX1_plan 8 = .ok (.aload_n 0, 1) := by decide +kernel
theorem dX1_plan_9 : decode cX1_plan 9 = .ok (.getfield 19, 3) := by decide +kernel
theorem dX1_plan_12 : decode cX1_plan 12 = .ok (.iload_n 1, 1) := by decide +kernel
theorem dX1_plan_13 : decode cX1_plan 13 = .ok (.iload_n 1, 1) := by decide +kernel
theorem dX1_plan_14 : decode cX1_plan 14 = .ok (.iastore, 1) := by decide +kernel
theorem dX1_plan_15 : decode cX1_plan 15 = .ok (.iinc 1 1, 3) := by decide +kernel
theorem dX1_plan_18 : decode cX1_plan 18 = .ok (.goto (-16), 3) := by decide +kernel
theorem dX1_plan_21 : decode cX1_plan 21 = .ok (.aload_n 0, 1) := by decide +kernel
theorem dX1_plan_22 : decode cX1_plan 22 = .ok (.aload_n 0, 1) := by decide +kernel
theorem dX1_plan_23 : decode cX1_plan 23 = .ok (.invokevirtual 32, 3) := by decide +kernel
theorem dX1_plan_26 : decode cX1_plan 26 = .ok (.putfield 36, 3) := by decide +kernel
theorem dX1_plan_29 : decode cX1_plan 29 = .ok (.aload_n 0, 1) := by decide +kernel
theorem dX1_plan_30 : decode cX1_plan 30 = .ok (.invokevirtual 39, 3) := by decide +kernel
theorem dX1_plan_33 : decode cX1_plan 33 = .ok (.iconst 0, 1) := by decide +kernel
theorem dX1_plan_34 : decode cX1_plan 34 = .ok (.istore_n 1, 1) := by decide +kernel
theorem dX1_plan_35 : decode cX1_plan 35 = .ok (.iload_n 1, 1) := by decide +kernel
theorem dX1_plan_36 : decode cX1_plan 36 = .ok (.sipush 1000, 3) := by decide +kernel
theorem dX1_plan_39 : decode cX1_plan 39 = .ok (.if_icmp .ge 38, 3) := by decide +kernel
theorem dX1_plan_42 : decode cX1_plan 42 = .ok (.aload_n 0, 1) := by decide +kernel
theorem dX1_plan_43 : decode cX1_plan 43 = .ok (.invokevirtual 42, 3) := by decide +kernel
theorem dX1_plan_46 : decode cX1_plan 46 = .ok (.ifCond .eq 31, 3) := by decide +kernel
theorem dX1_plan_77 : decode cX1_plan 77 = .ok (.return_, 1) := by decide +kernel
theorem dX21_addType_0 : decode cX21_addType 0 = .ok (.aload_n 0, 1) := by decide +kernel
theorem dX21_addType_1 : decode cX21_addType 1 = .ok (.invokevirtual 223, 3) := by decide +kernel
theorem dX21_addType_4 : decode cX21_addType 4 = .ok (.aload_n 0, 1) := by decide +kernel
theorem dX21_addType_5 : decode cX21_addType 5 = .ok (.aload_n 0, 1) := by decide +kernel
theorem dX21_addType_6 : decode cX21_addType 6 = .ok (.getfield 176, 3) := by decide +kernel
theorem dX21_addType_9 : decode cX21_addType 9 = .ok (.bipush 32, 2) := by decide +kernel
theorem dX21_addType_11 : decode cX21_addType 11 = .ok (.if_icmp .eq 7, 3) := by decide +kernel
theorem dX21_addType_14 : decode cX21_addType 14 = .ok (.iconst 1, 1) := by decide +kernel
theorem dX21_addType_15 : decode cX21_addType 15 = .ok (.goto 20, 3) := by decide +kernel
theorem dX21_addType_35 : decode cX21_addType 35 = .ok (.putfield 54, 3) := by decide +kernel
theorem dX21_addType_38 : decode cX21_addType 38 = .ok (.aload_n 0, 1) := by decide +kernel
theorem dX21_addType_39 : decode cX21_addType 39 = .ok (.getfield 54, 3) := by decide +kernel
theorem dX21_addType_42 : decode cX21_addType 42 = .ok (.ifCond .le 5, 3) := by decide +kernel
theorem dX21_addType_45 : decode cX21_addType 45 = .ok (.iconst 0, 1) := by decide +kernel
theorem dX21_addType_46 : decode cX21_addType 46 = .ok (.ireturn, 1) := by decide +kernel
theorem dX21_change_0 : decode cX21_change 0 = .ok (.aload_n 0, 1) := by decide +kernel
theorem dX21_change_1 : decode cX21_change 1 = .ok (.iload_n 2, 1) := by decide +kernel
theorem dX21_change_2 : decode cX21_change 2 = .ok (.invokevirtual 226, 3) := by decide +kernel
theorem dX21_change_5 : decode cX21_change 5 = .ok (.ifCond .eq 11, 3) := by decide +kernel
theorem dX21_change_16 : decode cX21_change 16 = .ok (.aload_n 0, 1) := by decide +kernel
theorem dX21_change_17 : decode cX21_change 17 = .ok (.iconst 1, 1) := by decide +kernel
theorem dX21_change_18 : decode cX21_change 18 = .ok (.invokevirtual 125, 3) := by decide +kernel
theorem dX21_change_21 : decode cX21_change 21 = .ok (.ireturn, 1) := by decide +kernel
theorem dX21_clash_0 : decode cX21_clash 0 = .ok (.aload_n 0, 1) := by decide +kernel
theorem dX21_clash_1 : decode cX21_clash 1 = .ok (.iload_n 1, 1) := by decide +kernel
theorem dX21_clash_2 : decode cX21_clash 2 = .ok (.iconst 0, 1) := by decide +kernel
theorem dX21_clash_3 : decode cX21_clash 3 = .ok (.aload_n 0, 1) := by decide +kernel
theorem dX21_clash_4 : decode cX21_clash 4 = .ok (.getfield 45, 3) := by decide +kernel
theorem dX21_clash_7 : decode cX21_clash 7 = .ok (.invokevirtual 154, 3) := by decide +kernel
theorem dX21_clash_10 : decode cX21_clash 10 = .ok (.iconst 1, 1) := by decide +kernel
theorem dX21_clash_11 : decode cX21_clash 11 = .ok (.isub, 1) := by decide +kernel
theorem dX21_clash_12 : decode cX21_clash 12 = .ok (.invokestatic 65, 3) := by decide +kernel
theorem dX21_clash_15 : decode cX21_clash 15 = .ok (.ifCond .eq 7, 3) := by decide +kernel
theorem dX21_clash_22 : decode cX21_clash 22 = .ok (.iconst 1, 1) := by decide +kernel
theorem dX21_clash_23 : decode cX21_clash 23 = .ok (.putfield 54, 3) := by decide +kernel
theorem dX21_clash_26 : decode cX21_clash 26 = .ok (.aload_n 0, 1) := by decide +kernel
theorem dX21_clash_27 : decode cX21_clash 27 = .ok (.getfield 54, 3) := by decide +kernel
theorem dX21_clash_30 : decode cX21_clash 30 = .ok (.ifCond .le 8, 3) := by decide +kernel
theorem dX21_clash_33 : decode cX21_clash 33 = .ok (.bipush 32, 2) := by decide +kernel
theorem dX21_clash_35 : decode cX21_clash 35 = .ok (.goto 11, 3) := by decide +kernel
theorem dX21_clash_46 : decode cX21_clash 46 = .ok (.ireturn, 1) := by decide +kernel
theorem dX21_clashNumber_0 : decode cX21_clashNumber 0 = .ok (.aload_n 0, 1) := by decide +kernel
theorem dX21_clashNumber_1 : decode cX21_clashNumber 1 = .ok (.iload_n 1, 1) := by decide +kernel
theorem dX21_clashNumber_2 : decode cX21_clashNumber 2 = .ok (.iconst 0, 1) := by decide +kernel
theorem dX21_clashNumber_3 : decode cX21_clashNumber 3 = .ok (.aload_n 0, 1) := by decide +kernel
theorem dX21_clashNumber_4 : decode cX21_clashNumber 4 = .ok (.getfield 45, 3) := by decide +kernel
theorem dX21_clashNumber_7 : decode cX21_clashNumber 7 = .ok (.invokevirtual 154, 3) := by decide +kernel
theorem dX21_clashNumber_10 : decode cX21_clashNumber 10 = .ok (.iconst 1, 1) := by decide +kernel
theorem dX21_clashNumber_11 : decode cX21_clashNumber 11 = .ok (.isub, 1) := by decide +kernel
theorem dX21_clashNumber_12 : decode cX21_clashNumber 12 = .ok (.invokestatic 65, 3) := by decide +kernel
theorem dX21_clashNumber_15 : decode cX21_clashNumber 15 = .ok (.ifCond .eq 7, 3) := by decide +kernel
theorem dX21_clashNumber_22 : decode cX21_clashNumber 22 = .ok (.iconst 1, 1) := by decide +kernel
theorem dX21_clashNumber_23 : decode cX21_clashNumber 23 = .ok (.putfield 54, 3) := by decide +kernel
theorem dX21_clashNumber_26 : decode cX21_clashNumber 26 = .ok (.aload_n 0, 1) := by decide +kernel
theorem dX21_clashNumber_27 : decode cX21_clashNumber 27 = .ok (.getfield 54, 3) := by decide +kernel
theorem dX21_clashNumber_30 : decode cX21_clashNumber 30 = .ok (.ifCond .le 7, 3) := by decide +kernel
theorem dX21_clashNumber_33 : decode cX21_clashNumber 33 = .ok (.iconst 0, 1) := by decide +kernel
theorem dX21_clashNumber_34 : decode cX21_clashNumber 34 = .ok (.goto 9, 3) := by decide +kernel
theorem dX21_clashNumber_43 : decode cX21_clashNumber 43 = .ok (.ireturn, 1) := by decide +kernel
theorem dX21_cut_0 : decode cX21_cut 0 = .ok (.aload_n 0, 1) := by decide +kernel
theorem dX21_cut_1 : decode cX21_cut 1 = .ok (.iload_n 1, 1) := by decide +kernel
theorem dX21_cut_2 : decode cX21_cut 2 = .ok (.invokevirtual 292, 3) := by decide +kernel
theorem dX21_cut_5 : decode cX21_cut 5 = .ok (.ifCond .eq 5, 3) := by decide +kernel
theorem dX21_cut_8 : decode cX21_cut 8 = .ok (.iconst 0, 1) := by decide +kernel
theorem dX21_cut_9 : decode cX21_cut 9 = .ok (.ireturn, 1) := by decide +kernel
theorem dX21_cutArea_0 : decode cX21_cutArea 0 = .ok (.lconst 0, 1) := by decide +kernel
theorem dX21_cutArea_1 : decode cX21_cutArea 1 = .ok (.lstore_n 1, 1) := by decide +kernel
theorem dX21_cutArea_2 : decode cX21_cutArea 2 = .ok (.aload_n 0, 1) := by decide +kernel
theorem dX21_cutArea_3 : decode cX21_cutArea 3 = .ok (.getfield 28, 3) := by decide +kernel
theorem dX21_cutArea_6 : decode cX21_cutArea 6 = .ok (.invokevirtual 86, 3) := by decide +kernel
theorem dX21_cutArea_9 : decode cX21_cutArea 9 = .ok (.astore_n 3, 1) := by decide +kernel
theorem dX21_cutArea_10 : decode cX21_cutArea 10 = .ok (.aload_n 3, 1) := by decide +kernel
theorem dX21_cutArea_11 : decode cX21_cutArea 11 = .ok (.invokeinterface 90 1, 5) := by decide +kernel
theorem dX21_cutArea_16 : decode cX21_cutArea 16 = .ok (.ifCond .eq 60, 3) := by decide +kernel
theorem dX21_cutArea_76 : decode cX21_cutArea 76 = .ok (.lload_n 1, 1) := by decide +kernel
theorem dX21_cutArea_77 : decode cX21_cutArea 77 = .ok (.lreturn, 1) := by decide +kernel
theorem dX21_cutShare_0 : decode cX21_cutShare 0 = .ok (.aload_n 0, 1) := by decide +kernel
theorem dX21_cutShare_1 : decode cX21_cutShare 1 = .ok (.aload_n 0, 1) := by decide +kernel
theorem dX21_cutShare_2 : decode cX21_cutShare 2 = .ok (.getfield 28, 3) := by decide +kernel
theorem dX21_cutShare_5 : decode cX21_cutShare 5 = .ok (.invokevirtual 73, 3) := by decide +kernel
theorem dX21_cutShare_8 : decode cX21_cutShare 8 = .ok (.ifCond .eq 7, 3) := by decide +kernel
theorem dX21_cutShare_11 : decode cX21_cutShare 11 = .ok (.iconst 1, 1) := by decide +kernel
theorem dX21_cutShare_12 : decode cX21_cutShare 12 = .ok (.goto 4, 3) := by decide +kernel
theorem dX21_cutShare_16 : decode cX21_cutShare 16 = .ok (.putfield 54, 3) := by decide +kernel
theorem dX21_cutShare_19 : decode cX21_cutShare 19 = .ok (.iconst 0, 1) := by decide +kernel
theorem dX21_cutShare_20 : decode cX21_cutShare 20 = .ok (.istore_n 1, 1) := by decide +kernel
theorem dX21_cutShare_21 : decode cX21_cutShare 21 = .ok (.iconst 0, 1) := by decide +kernel
theorem dX21_cutShare_22 : decode cX21_cutShare 22 = .ok (.istore_n 2, 1) := by decide +kernel
theorem dX21_cutShare_23 : decode cX21_cutShare 23 = .ok (.aload_n 0, 1) := by decide +kernel
theorem dX21_cutShare_24 : decode cX21_cutShare 24 = .ok (.getfield 28, 3) := by decide +kernel
theorem dX21_cutShare_27 : decode cX21_cutShare 27 = .ok (.invokevirtual 86, 3) := by decide +kernel
theorem dX21_cutShare_30 : decode cX21_cutShare 30 = .ok (.astore_n 3, 1) := by decide +kernel
theorem dX21_cutShare_31 : decode cX21_cutShare 31 = .ok (.aload_n 3, 1) := by decide +kernel
theorem dX21_cutShare_32 : decode cX21_cutShare 32 = .ok (.invokeinterface 90 1, 5) := by decide +kernel
theorem dX21_cutShare_37 : decode cX21_cutShare 37 = .ok (.ifCond .eq 39, 3) := by decide +kernel
theorem dX21_cutShare_76 : decode cX21_cutShare 76 = .ok (.aload_n 0, 1) := by decide +kernel
theorem dX21_cutShare_77 : decode cX21_cutShare 77 = .ok (.getfield 54, 3) := by decide +kernel
theorem dX21_cutShare_80 : decode cX21_cutShare 80 = .ok (.ifCond .le 7, 3) := by decide +kernel
theorem dX21_cutShare_83 : decode cX21_cutShare 83 = .ok (.fconst 0, 1) := by decide +kernel
theorem dX21_cutShare_84 : decode cX21_cutShare 84 = .ok (.goto 8, 3) := by decide +kernel
theorem dX21_cutShare_92 : decode cX21_cutShare 92 = .ok (.freturn, 1) := by decide +kernel
theorem dX21_edged_0 : decode cX21_edged 0 = .ok (.aload_n 0, 1) := by decide +kernel
theorem dX21_edged_1 : decode cX21_edged 1 = .ok (.iload_n 1, 1) := by decide +kernel
theorem dX21_edged_2 : decode cX21_edged 2 = .ok (.iconst 0, 1) := by decide +kernel
theorem dX21_edged_3 : decode cX21_edged 3 = .ok (.iconst 2, 1) := by decide +kernel
theorem dX21_edged_4 : decode cX21_edged 4 = .ok (.invokestatic 65, 3) := by decide +kernel
theorem dX21_edged_7 : decode cX21_edged 7 = .ok (.ifCond .eq 7, 3) := by decide +kernel
theorem dX21_edged_10 : decode cX21_edged 10 = .ok (.iconst 0, 1) := by decide +kernel
theorem dX21_edged_11 : decode cX21_edged 11 = .ok (.goto 4, 3) := by decide +kernel
theorem dX21_edged_14 : decode cX21_edged 14 = .ok (.iconst 1, 1) := by decide +kernel
theorem dX21_edged_15 : decode cX21_edged 15 = .ok (.putfield 54, 3) := by decide +kernel
theorem dX21_edged_18 : decode cX21_edged 18 = .ok (.iconst 0, 1) := by decide +kernel
theorem dX21_edged_19 : decode cX21_edged 19 = .ok (.istore_n 2, 1) := by decide +kernel
theorem dX21_edged_20 : decode cX21_edged 20 = .ok (.aload_n 0, 1) := by decide +kernel
theorem dX21_edged_21 : decode cX21_edged 21 = .ok (.getfield 28, 3) := by decide +kernel
theorem dX21_edged_24 : decode cX21_edged 24 = .ok (.invokevirtual 86, 3) := by decide +kernel
theorem dX21_edged_27 : decode cX21_edged 27 = .ok (.astore_n 3, 1) := by decide +kernel
theorem dX21_edged_28 : decode cX21_edged 28 = .ok (.aload_n 3, 1) := by decide +kernel
theorem dX21_edged_29 : decode cX21_edged 29 = .ok (.invokeinterface 90 1, 5) := by decide +kernel
theorem dX21_edged_34 : decode cX21_edged 34 = .ok (.ifCond .eq 80, 3) := by decide +kernel
theorem dX21_edged_114 : decode cX21_edged 114 = .ok (.iload_n 2, 1) := by decide +kernel
theorem dX21_edged_115 : decode cX21_edged 115 = .ok (.ireturn, 1) := by decide +kernel
theorem dX21_fault_0 : decode cX21_fault 0 = .ok (.aload_n 0, 1) := by decide +kernel
theorem dX21_fault_1 : decode cX21_fault 1 = .ok (.invokevirtual 223, 3) := by decide +kernel
theorem dX21_fault_4 : decode cX21_fault 4 = .ok (.aload_n 0, 1) := by decide +kernel
theorem dX21_fault_5 : decode cX21_fault 5 = .ok (.aload_n 0, 1) := by decide +kernel
theorem dX21_fault_6 : decode cX21_fault 6 = .ok (.getfield 176, 3) := by decide +kernel
theorem dX21_fault_9 : decode cX21_fault 9 = .ok (.bipush 32, 2) := by decide +kernel
theorem dX21_fault_11 : decode cX21_fault 11 = .ok (.if_icmp .ne 7, 3) := by decide +kernel
theorem dX21_fault_18 : decode cX21_fault 18 = .ok (.iconst 0, 1) := by decide +kernel
theorem dX21_fault_19 : decode cX21_fault 19 = .ok (.putfield 54, 3) := by decide +kernel
theorem dX21_fault_22 : decode cX21_fault 22 = .ok (.aload_n 0, 1) := by decide +kernel
theorem dX21_fault_23 : decode cX21_fault 23 = .ok (.getfield 54, 3) := by decide +kernel
theorem dX21_fault_26 : decode cX21_fault 26 = .ok (.ifCond .le 7, 3) := by decide +kernel
theorem dX21_fault_33 : decode cX21_fault 33 = .ok (.aload_n 0, 1) := by decide +kernel
theorem dX21_fault_34 : decode cX21_fault 34 = .ok (.getfield 179, 3) := by decide +kernel
theorem dX21_fault_37 : decode cX21_fault 37 = .ok (.ireturn, 1) := by decide +kernel
theorem dX21_faultKind_0 : decode cX21_faultKind 0 = .ok (.aload_n 0, 1) := by decide +kernel
theorem dX21_faultKind_1 : decode cX21_faultKind 1 = .ok (.invokevirtual 223, 3) := by decide +kernel
theorem dX21_faultKind_4 : decode cX21_faultKind 4 = .ok (.aload_n 0, 1) := by decide +kernel
theorem dX21_faultKind_5 : decode cX21_faultKind 5 = .ok (.aload_n 0, 1) := by decide +kernel
theorem dX21_faultKind_6 : decode cX21_faultKind 6 = .ok (.getfield 176, 3) := by decide +kernel
theorem dX21_faultKind_9 : decode cX21_faultKind 9 = .ok (.bipush 32, 2) := by decide +kernel
theorem dX21_faultKind_11 : decode cX21_faultKind 11 = .ok (.if_icmp .ne 7, 3) := by decide +kernel
theorem dX21_faultKind_18 : decode cX21_faultKind 18 = .ok (.iconst 0, 1) := by decide +kernel
theorem dX21_faultKind_19 : decode cX21_faultKind 19 = .ok (.putfield 54, 3) := by decide +kernel
theorem dX21_faultKind_22 : decode cX21_faultKind 22 = .ok (.aload_n 0, 1) := by decide +kernel
theorem dX21_faultKind_23 : decode cX21_faultKind 23 = .ok (.getfield 54, 3) := by decide +kernel
theorem dX21_faultKind_26 : decode cX21_faultKind 26 = .ok (.ifCond .le 8, 3) := by decide +kernel
theorem dX21_faultKind_34 : decode cX21_faultKind 34 = .ok (.aload_n 0, 1) := by decide +kernel
theorem dX21_faultKind_35 : decode cX21_faultKind 35 = .ok (.getfield 176, 3) := by decide +kernel
theorem dX21_faultKind_38 : decode cX21_faultKind 38 = .ok (.ireturn, 1) := by decide +kernel
theorem dX21_free__0 : decode cX21_free_ 0 = .ok (.aload_n 0, 1) := by decide +kernel
theorem dX21_free__1 : decode cX21_free_ 1 = .ok (.iload_n 1, 1) := by decide +kernel
theorem dX21_free__2 : decode cX21_free_ 2 = .ok (.invokevirtual 136, 3) := by decide +kernel
theorem dX21_free__5 : decode cX21_free_ 5 = .ok (.ifCond .eq 7, 3) := by decide +kernel
theorem dX21_free__8 : decode cX21_free_ 8 = .ok (.iconst 0, 1) := by decide +kernel
theorem dX21_free__9 : decode cX21_free_ 9 = .ok (.goto 10, 3) := by decide +kernel
theorem dX21_free__19 : decode cX21_free_ 19 = .ok (.ireturn, 1) := by decide +kernel
theorem dX21_from_0 : decode cX21_from 0 = .ok (.aload_n 0, 1) := by decide +kernel
theorem dX21_from_1 : decode cX21_from 1 = .ok (.iload_n 1, 1) := by decide +kernel
theorem dX21_from_2 : decode cX21_from 2 = .ok (.invokevirtual 292, 3) := by decide +kernel
theorem dX21_from_5 : decode cX21_from 5 = .ok (.ifCond .eq 7, 3) := by decide +kernel
theorem dX21_from_8 : decode cX21_from 8 = .ok (.iconst 0, 1) := by decide +kernel
theorem dX21_from_9 : decode cX21_from 9 = .ok (.goto 17, 3) := by decide +kernel
theorem dX21_from_26 : decode cX21_from 26 = .ok (.ireturn, 1) := by decide +kernel
theorem dX21_hinges_0 : decode cX21_hinges 0 = .ok (.aload_n 0, 1) := by decide +kernel
theorem dX21_hinges_1 : decode cX21_hinges 1 = .ok (.iload_n 1, 1) := by decide +kernel
theorem dX21_hinges_2 : decode cX21_hinges 2 = .ok (.invokevirtual 292, 3) := by decide +kernel
theorem dX21_hinges_5 : decode cX21_hinges 5 = .ok (.ifCond .eq 7, 3) := by decide +kernel
theorem dX21_hinges_8 : decode cX21_hinges 8 = .ok (.iconst 0, 1) := by decide +kernel
theorem dX21_hinges_9 : decode cX21_hinges 9 = .ok (.goto 20, 3) := by decide +kernel
theorem dX21_hinges_29 : decode cX21_hinges 29 = .ok (.ireturn, 1) := by decide +kernel
theorem dX21_jobAt_0 : decode cX21_jobAt 0 = .ok (.aload_n 0, 1) := by decide +kernel
theorem dX21_jobAt_1 : decode cX21_jobAt 1 = .ok (.invokevirtual 481, 3) := by decide +kernel
theorem dX21_jobAt_4 : decode cX21_jobAt 4 = .ok (.aload_n 0, 1) := by decide +kernel
theorem dX21_jobAt_5 : decode cX21_jobAt 5 = .ok (.iload_n 1, 1) := by decide +kernel
theorem dX21_jobAt_6 : decode cX21_jobAt 6 = .ok (.iconst 0, 1) := by decide +kernel
theorem dX21_jobAt_7 : decode cX21_jobAt 7 = .ok (.aload_n 0, 1) := by decide +kernel
theorem dX21_jobAt_8 : decode cX21_jobAt 8 = .ok (.getfield 51, 3) := by decide +kernel
theorem dX21_jobAt_11 : decode cX21_jobAt 11 = .ok (.arraylength, 1) := by decide +kernel
theorem dX21_jobAt_12 : decode cX21_jobAt 12 = .ok (.iconst 1, 1) := by decide +kernel
theorem dX21_jobAt_13 : decode cX21_jobAt 13 = .ok (.isub, 1) := by decide +kernel
theorem dX21_jobAt_14 : decode cX21_jobAt 14 = .ok (.invokestatic 65, 3) := by decide +kernel
theorem dX21_jobAt_17 : decode cX21_jobAt 17 = .ok (.ifCond .eq 7, 3) := by decide +kernel
theorem dX21_jobAt_24 : decode cX21_jobAt 24 = .ok (.iconst 1, 1) := by decide +kernel
theorem dX21_jobAt_25 : decode cX21_jobAt 25 = .ok (.putfield 54, 3) := by decide +kernel
theorem dX21_jobAt_28 : decode cX21_jobAt 28 = .ok (.aload_n 0, 1) := by decide +kernel
theorem dX21_jobAt_29 : decode cX21_jobAt 29 = .ok (.getfield 54, 3) := by decide +kernel
theorem dX21_jobAt_32 : decode cX21_jobAt 32 = .ok (.ifCond .le 7, 3) := by decide +kernel
theorem dX21_jobAt_35 : decode cX21_jobAt 35 = .ok (.iconst 0, 1) := by decide +kernel
theorem dX21_jobAt_36 : decode cX21_jobAt 36 = .ok (.goto 9, 3) := by decide +kernel
theorem dX21_jobAt_45 : decode cX21_jobAt 45 = .ok (.ireturn, 1) := by decide +kernel
theorem dX21_lateness_0 : decode cX21_lateness 0 = .ok (.aload_n 0, 1) := by decide +kernel
theorem dX21_lateness_1 : decode cX21_lateness 1 = .ok (.invokevirtual 481, 3) := by decide +kernel
theorem dX21_lateness_4 : decode cX21_lateness 4 = .ok (.aload_n 0, 1) := by decide +kernel
theorem dX21_lateness_5 : decode cX21_lateness 5 = .ok (.getfield 460, 3) := by decide +kernel
theorem dX21_lateness_8 : decode cX21_lateness 8 = .ok (.ireturn, 1) := by decide +kernel
theorem dX21_lengthOf_0 : decode cX21_lengthOf 0 = .ok (.aload_n 0, 1) := by decide +kernel
theorem dX21_lengthOf_1 : decode cX21_lengthOf 1 = .ok (.iload_n 1, 1) := by decide +kernel
theorem dX21_lengthOf_2 : decode cX21_lengthOf 2 = .ok (.invokevirtual 136, 3) := by decide +kernel
theorem dX21_lengthOf_5 : decode cX21_lengthOf 5 = .ok (.ifCond .eq 7, 3) := by decide +kernel
theorem dX21_lengthOf_8 : decode cX21_lengthOf 8 = .ok (.iconst 0, 1) := by decide +kernel
theorem dX21_lengthOf_9 : decode cX21_lengthOf 9 = .ok (.goto 17, 3) := by decide +kernel
theorem dX21_lengthOf_26 : decode cX21_lengthOf 26 = .ok (.ireturn, 1) := by decide +kernel
theorem dX21_meanWidth_0 : decode cX21_meanWidth 0 = .ok (.aload_n 0, 1) := by decide +kernel
theorem dX21_meanWidth_1 : decode cX21_meanWidth 1 = .ok (.aload_n 0, 1) := by decide +kernel
theorem dX21_meanWidth_2 : decode cX21_meanWidth 2 = .ok (.getfield 28, 3) := by decide +kernel
theorem dX21_meanWidth_5 : decode cX21_meanWidth 5 = .ok (.invokevirtual 73, 3) := by decide +kernel
theorem dX21_meanWidth_8 : decode cX21_meanWidth 8 = .ok (.ifCond .eq 7, 3) := by decide +kernel
theorem dX21_meanWidth_11 : decode cX21_meanWidth 11 = .ok (.iconst 1, 1) := by decide +kernel
theorem dX21_meanWidth_12 : decode cX21_meanWidth 12 = .ok (.goto 4, 3) := by decide +kernel
theorem dX21_meanWidth_16 : decode cX21_meanWidth 16 = .ok (.putfield 54, 3) := by decide +kernel
theorem dX21_meanWidth_19 : decode cX21_meanWidth 19 = .ok (.lconst 0, 1) := by decide +kernel
theorem dX21_meanWidth_20 : decode cX21_meanWidth 20 = .ok (.lstore_n 1, 1) := by decide +kernel
theorem dX21_meanWidth_21 : decode cX21_meanWidth 21 = .ok (.aload_n 0, 1) := by decide +kernel
theorem dX21_meanWidth_22 : decode cX21_meanWidth 22 = .ok (.getfield 28, 3) := by decide +kernel
theorem dX21_meanWidth_25 : decode cX21_meanWidth 25 = .ok (.invokevirtual 86, 3) := by decide +kernel
theorem dX21_meanWidth_28 : decode cX21_meanWidth 28 = .ok (.astore_n 3, 1) := by decide +kernel
theorem dX21_meanWidth_29 : decode cX21_meanWidth 29 = .ok (.aload_n 3, 1) := by decide +kernel
theorem dX21_meanWidth_30 : decode cX21_meanWidth 30 = .ok (.invokeinterface 90 1, 5) := by decide +kernel
theorem dX21_meanWidth_35 : decode cX21_meanWidth 35 = .ok (.ifCond .eq 29, 3) := by decide +kernel
theorem dX21_meanWidth_64 : decode cX21_meanWidth 64 = .ok (.aload_n 0, 1) := by decide +kernel
theorem dX21_meanWidth_65 : decode cX21_meanWidth 65 = .ok (.getfield 54, 3) := by decide +kernel
theorem dX21_meanWidth_68 : decode cX21_meanWidth 68 = .ok (.ifCond .le 7, 3) := by decide +kernel
theorem dX21_meanWidth_71 : decode cX21_meanWidth 71 = .ok (.dconst 0, 1) := by decide +kernel
theorem dX21_meanWidth_72 : decode cX21_meanWidth 72 = .ok (.goto 14, 3) := by decide +kernel
theorem dX21_meanWidth_86 : decode cX21_meanWidth 86 = .ok (.dreturn, 1) := by decide +kernel
theorem dX21_obstacle_0 : decode cX21_obstacle 0 = .ok (.aload_n 0, 1) := by decide +kernel
theorem dX21_obstacle_1 : decode cX21_obstacle 1 = .ok (.iload_n 1, 1) := by decide +kernel
theorem dX21_obstacle_2 : decode cX21_obstacle 2 = .ok (.invokevirtual 136, 3) := by decide +kernel
theorem dX21_obstacle_5 : decode cX21_obstacle 5 = .ok (.ifCond .eq 5, 3) := by decide +kernel
theorem dX21_obstacle_8 : decode cX21_obstacle 8 = .ok (.iconst 0, 1) := by decide +kernel
theorem dX21_obstacle_9 : decode cX21_obstacle 9 = .ok (.ireturn, 1) := by decide +kernel
theorem dX21_offcuts_0 : decode cX21_offcuts 0 = .ok (.aload_n 0, 1) := by decide +kernel
theorem dX21_offcuts_1 : decode cX21_offcuts 1 = .ok (.iconst 0, 1) := by decide +kernel
theorem dX21_offcuts_2 : decode cX21_offcuts 2 = .ok (.putfield 54, 3) := by decide +kernel
theorem dX21_offcuts_5 : decode cX21_offcuts 5 = .ok (.iconst 0, 1) := by decide +kernel
theorem dX21_offcuts_6 : decode cX21_offcuts 6 = .ok (.istore_n 1, 1) := by decide +kernel
theorem dX21_offcuts_7 : decode cX21_offcuts 7 = .ok (.aload_n 0, 1) := by decide +kernel
theorem dX21_offcuts_8 : decode cX21_offcuts 8 = .ok (.getfield 31, 3) := by decide +kernel
theorem dX21_offcuts_11 : decode cX21_offcuts 11 = .ok (.invokevirtual 86, 3) := by decide +kernel
theorem dX21_offcuts_14 : decode cX21_offcuts 14 = .ok (.astore_n 2, 1) := by decide +kernel
theorem dX21_offcuts_15 : decode cX21_offcuts 15 = .ok (.aload_n 2, 1) := by decide +kernel
theorem dX21_offcuts_16 : decode cX21_offcuts 16 = .ok (.invokeinterface 90 1, 5) := by decide +kernel
theorem dX21_offcuts_21 : decode cX21_offcuts 21 = .ok (.ifCond .eq 31, 3) := by decide +kernel
theorem dX21_offcuts_52 : decode cX21_offcuts 52 = .ok (.iload_n 1, 1) := by decide +kernel
theorem dX21_offcuts_53 : decode cX21_offcuts 53 = .ok (.ireturn, 1) := by decide +kernel
theorem dX21_packs_0 : decode cX21_packs 0 = .ok (.aload_n 0, 1) := by decide +kernel
theorem dX21_packs_1 : decode cX21_packs 1 = .ok (.iload_n 1, 1) := by decide +kernel
theorem dX21_packs_2 : decode cX21_packs 2 = .ok (.invokevirtual 292, 3) := by decide +kernel
theorem dX21_packs_5 : decode cX21_packs 5 = .ok (.ifCond .eq 5, 3) := by decide +kernel
theorem dX21_packs_8 : decode cX21_packs 8 = .ok (.iconst 0, 1) := by decide +kernel
theorem dX21_packs_9 : decode cX21_packs 9 = .ok (.ireturn, 1) := by decide +kernel
theorem dX21_part_0 : decode cX21_part 0 = .ok (.aload_n 0, 1) := by decide +kernel
theorem dX21_part_1 : decode cX21_part 1 = .ok (.iload_n 1, 1) := by decide +kernel
theorem dX21_part_2 : decode cX21_part 2 = .ok (.invokevirtual 292, 3) := by decide +kernel
theorem dX21_part_5 : decode cX21_part 5 = .ok (.ifCond .eq 5, 3) := by decide +kernel
theorem dX21_part_8 : decode cX21_part 8 = .ok (.aconst_null, 1) := by decide +kernel
theorem dX21_part_9 : decode cX21_part 9 = .ok (.areturn, 1) := by decide +kernel
theorem dX21_parts_0 : decode cX21_parts 0 = .ok (.aload_n 0, 1) := by decide +kernel
theorem dX21_parts_1 : decode cX21_parts 1 = .ok (.iload_n 1, 1) := by decide +kernel
theorem dX21_parts_2 : decode cX21_parts 2 = .ok (.invokevirtual 292, 3) := by decide +kernel
theorem dX21_parts_5 : decode cX21_parts 5 = .ok (.ifCond .eq 7, 3) := by decide +kernel
theorem dX21_parts_8 : decode cX21_parts 8 = .ok (.iconst 0, 1) := by decide +kernel
theorem dX21_parts_9 : decode cX21_parts 9 = .ok (.goto 20, 3) := by decide +kernel
theorem dX21_parts_29 : decode cX21_parts 29 = .ok (.ireturn, 1) := by decide +kernel
theorem dX21_place_0 : decode cX21_place 0 = .ok (.aload_n 0, 1) := by decide +kernel
theorem dX21_place_1 : decode cX21_place 1 = .ok (.iload_n 1, 1) := by decide +kernel
theorem dX21_place_2 : decode cX21_place 2 = .ok (.invokevirtual 226, 3) := by decide +kernel
theorem dX21_place_5 : decode cX21_place 5 = .ok (.ifCond .eq 20, 3) := by decide +kernel
theorem dX21_place_25 : decode cX21_place 25 = .ok (.aload_n 0, 1) := by decide +kernel
theorem dX21_place_26 : decode cX21_place 26 = .ok (.iconst 1, 1) := by decide +kernel
theorem dX21_place_27 : decode cX21_place 27 = .ok (.invokevirtual 125, 3) := by decide +kernel
theorem dX21_place_30 : decode cX21_place 30 = .ok (.ireturn, 1) := by decide +kernel
theorem dX21_price_0 : decode cX21_price 0 = .ok (.aload_n 0, 1) := by decide +kernel
theorem dX21_price_1 : decode cX21_price 1 = .ok (.iload_n 1, 1) := by decide +kernel
theorem dX21_price_2 : decode cX21_price 2 = .ok (.invokevirtual 292, 3) := by decide +kernel
theorem dX21_price_5 : decode cX21_price 5 = .ok (.ifCond .eq 5, 3) := by decide +kernel
theorem dX21_price_8 : decode cX21_price 8 = .ok (.iconst 0, 1) := by decide +kernel
theorem dX21_price_9 : decode cX21_price 9 = .ok (.ireturn, 1) := by decide +kernel
theorem dX21_setOff_0 : decode cX21_setOff 0 = .ok (.aload_n 0, 1) := by decide +kernel
theorem dX21_setOff_1 : decode cX21_setOff 1 = .ok (.iload_n 1, 1) := by decide +kernel
theorem dX21_setOff_2 : decode cX21_setOff 2 = .ok (.invokevirtual 136, 3) := by decide +kernel
theorem dX21_setOff_5 : decode cX21_setOff 5 = .ok (.ifCond .eq 5, 3) := by decide +kernel
theorem dX21_setOff_8 : decode cX21_setOff 8 = .ok (.iconst 0, 1) := by decide +kernel
theorem dX21_setOff_9 : decode cX21_setOff 9 = .ok (.ireturn, 1) := by decide +kernel
theorem dX21_shift_0 : decode cX21_shift 0 = .ok (.aload_n 0, 1) := by decide +kernel
theorem dX21_shift_1 : decode cX21_shift 1 = .ok (.iload_n 1, 1) := by decide +kernel
theorem dX21_shift_2 : decode cX21_shift 2 = .ok (.invokevirtual 292, 3) := by decide +kernel
theorem dX21_shift_5 : decode cX21_shift 5 = .ok (.ifCond .eq 5, 3) := by decide +kernel
