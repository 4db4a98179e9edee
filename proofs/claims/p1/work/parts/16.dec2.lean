theorem dX21_shift_8 : decode cX21_shift 8 = .ok (.iconst 0, 1) := by decide +kernel
theorem dX21_shift_9 : decode cX21_shift 9 = .ok (.ireturn, 1) := by decide +kernel
theorem dX21_stocked_0 : decode cX21_stocked 0 = .ok (.lconst 0, 1) := by decide +kernel
theorem dX21_stocked_1 : decode cX21_stocked 1 = .ok (.lstore_n 1, 1) := by decide +kernel
theorem dX21_stocked_2 : decode cX21_stocked 2 = .ok (.aload_n 0, 1) := by decide +kernel
theorem dX21_stocked_3 : decode cX21_stocked 3 = .ok (.getfield 31, 3) := by decide +kernel
theorem dX21_stocked_6 : decode cX21_stocked 6 = .ok (.invokevirtual 86, 3) := by decide +kernel
theorem dX21_stocked_9 : decode cX21_stocked 9 = .ok (.astore_n 3, 1) := by decide +kernel
theorem dX21_stocked_10 : decode cX21_stocked 10 = .ok (.aload_n 3, 1) := by decide +kernel
theorem dX21_stocked_11 : decode cX21_stocked 11 = .ok (.invokeinterface 90 1, 5) := by decide +kernel
theorem dX21_stocked_16 : decode cX21_stocked 16 = .ok (.ifCond .eq 25, 3) := by decide +kernel
theorem dX21_stocked_41 : decode cX21_stocked 41 = .ok (.lload_n 1, 1) := by decide +kernel
theorem dX21_stocked_42 : decode cX21_stocked 42 = .ok (.lreturn, 1) := by decide +kernel
theorem dX21_told_0 : decode cX21_told 0 = .ok (.aload_n 0, 1) := by decide +kernel
theorem dX21_told_1 : decode cX21_told 1 = .ok (.iload_n 1, 1) := by decide +kernel
theorem dX21_told_2 : decode cX21_told 2 = .ok (.invokevirtual 226, 3) := by decide +kernel
theorem dX21_told_5 : decode cX21_told 5 = .ok (.ifCond .ne 9, 3) := by decide +kernel
theorem dX21_told_8 : decode cX21_told 8 = .ok (.aload_n 0, 1) := by decide +kernel
theorem dX21_told_9 : decode cX21_told 9 = .ok (.iconst 1, 1) := by decide +kernel
theorem dX21_told_10 : decode cX21_told 10 = .ok (.invokevirtual 125, 3) := by decide +kernel
theorem dX21_told_13 : decode cX21_told 13 = .ok (.ireturn, 1) := by decide +kernel
theorem dX21_uncut_0 : decode cX21_uncut 0 = .ok (.aload_n 0, 1) := by decide +kernel
theorem dX21_uncut_1 : decode cX21_uncut 1 = .ok (.iload_n 1, 1) := by decide +kernel
theorem dX21_uncut_2 : decode cX21_uncut 2 = .ok (.invokevirtual 292, 3) := by decide +kernel
theorem dX21_uncut_5 : decode cX21_uncut 5 = .ok (.ifCond .eq 7, 3) := by decide +kernel
theorem dX21_uncut_8 : decode cX21_uncut 8 = .ok (.iconst 0, 1) := by decide +kernel
theorem dX21_uncut_9 : decode cX21_uncut 9 = .ok (.goto 20, 3) := by decide +kernel
theorem dX21_uncut_29 : decode cX21_uncut 29 = .ok (.ireturn, 1) := by decide +kernel
theorem dX21_widest_0 : decode cX21_widest 0 = .ok (.aload_n 0, 1) := by decide +kernel
theorem dX21_widest_1 : decode cX21_widest 1 = .ok (.iload_n 1, 1) := by decide +kernel
theorem dX21_widest_2 : decode cX21_widest 2 = .ok (.invokevirtual 136, 3) := by decide +kernel
theorem dX21_widest_5 : decode cX21_widest 5 = .ok (.ifCond .eq 7, 3) := by decide +kernel
theorem dX21_widest_8 : decode cX21_widest 8 = .ok (.iconst 0, 1) := by decide +kernel
theorem dX21_widest_9 : decode cX21_widest 9 = .ok (.goto 10, 3) := by decide +kernel
theorem dX21_widest_19 : decode cX21_widest 19 = .ok (.ireturn, 1) := by decide +kernel
theorem dX21_wipe_0 : decode cX21_wipe 0 = .ok (.aload_n 0, 1) := by decide +kernel
theorem dX21_wipe_1 : decode cX21_wipe 1 = .ok (.iconst 0, 1) := by decide +kernel
theorem dX21_wipe_2 : decode cX21_wipe 2 = .ok (.putfield 54, 3) := by decide +kernel
theorem dX21_wipe_5 : decode cX21_wipe 5 = .ok (.aload_n 0, 1) := by decide +kernel
theorem dX21_wipe_6 : decode cX21_wipe 6 = .ok (.getfield 21, 3) := by decide +kernel
theorem dX21_wipe_9 : decode cX21_wipe 9 = .ok (.invokevirtual 154, 3) := by decide +kernel
theorem dX21_wipe_12 : decode cX21_wipe 12 = .ok (.istore_n 1, 1) := by decide +kernel
theorem dX21_wipe_13 : decode cX21_wipe 13 = .ok (.aload_n 0, 1) := by decide +kernel
theorem dX21_wipe_14 : decode cX21_wipe 14 = .ok (.ldc 19, 2) := by decide +kernel
theorem dX21_wipe_16 : decode cX21_wipe 16 = .ok (.putfield 21, 3) := by decide +kernel
theorem dX21_wipe_19 : decode cX21_wipe 19 = .ok (.iload_n 1, 1) := by decide +kernel
theorem dX21_wipe_20 : decode cX21_wipe 20 = .ok (.ireturn, 1) := by decide +kernel
theorem dJ0_indexOf_0f7a4_0 : decode cJ0_indexOf_0f7a4 0 = .ok (.aload_n 0, 1) := by decide +kernel
theorem dJ0_indexOf_0f7a4_1 : decode cJ0_indexOf_0f7a4 1 = .ok (.iload_n 1, 1) := by decide +kernel
theorem dJ0_indexOf_0f7a4_2 : decode cJ0_indexOf_0f7a4 2 = .ok (.iconst 0, 1) := by decide +kernel
theorem dJ0_indexOf_0f7a4_3 : decode cJ0_indexOf_0f7a4 3 = .ok (.invokevirtual 633, 3) := by decide +kernel
theorem dJ0_indexOf_0f7a4_6 : decode cJ0_indexOf_0f7a4 6 = .ok (.ireturn, 1) := by decide +kernel
theorem dJ0_init_db425_0 : decode cJ0_init_db425 0 = .ok (.aload_n 0, 1) := by decide +kernel
theorem dJ0_init_db425_1 : decode cJ0_init_db425 1 = .ok (.invokespecial 1, 3) := by decide +kernel
theorem dJ0_init_db425_4 : decode cJ0_init_db425 4 = .ok (.aload_n 1, 1) := by decide +kernel
theorem dJ0_init_db425_5 : decode cJ0_init_db425 5 = .ok (.invokevirtual 552, 3) := by decide +kernel
theorem dJ0_init_db425_8 : decode cJ0_init_db425 8 = .ok (.astore_n 3, 1) := by decide +kernel
theorem dJ0_init_db425_9 : decode cJ0_init_db425 9 = .ok (.aload_n 1, 1) := by decide +kernel
theorem dJ0_init_db425_10 : decode cJ0_init_db425 10 = .ok (.invokevirtual 549, 3) := by decide +kernel
theorem dJ0_init_db425_13 : decode cJ0_init_db425 13 = .ok (.istore 4, 2) := by decide +kernel
theorem dJ0_init_db425_15 : decode cJ0_init_db425 15 = .ok (.aload_n 1, 1) := by decide +kernel
theorem dJ0_init_db425_16 : decode cJ0_init_db425 16 = .ok (.invokevirtual 1047, 3) := by decide +kernel
theorem dJ0_init_db425_19 : decode cJ0_init_db425 19 = .ok (.ifCond .eq 22, 3) := by decide +kernel
theorem dJ0_init_db425_22 : decode cJ0_init_db425 22 = .ok (.aload_n 0, 1) := by decide +kernel
theorem dJ0_init_db425_23 : decode cJ0_init_db425 23 = .ok (.iconst 0, 1) := by decide +kernel
theorem dJ0_init_db425_24 : decode cJ0_init_db425 24 = .ok (.putfield 15, 3) := by decide +kernel
theorem dJ0_init_db425_27 : decode cJ0_init_db425 27 = .ok (.aload_n 0, 1) := by decide +kernel
theorem dJ0_init_db425_28 : decode cJ0_init_db425 28 = .ok (.aload_n 3, 1) := by decide +kernel
theorem dJ0_init_db425_29 : decode cJ0_init_db425 29 = .ok (.iconst 0, 1) := by decide +kernel
theorem dJ0_init_db425_30 : decode cJ0_init_db425 30 = .ok (.iload 4, 2) := by decide +kernel
theorem dJ0_init_db425_32 : decode cJ0_init_db425 32 = .ok (.invokestatic 54, 3) := by decide +kernel
theorem dJ0_init_db425_35 : decode cJ0_init_db425 35 = .ok (.putfield 9, 3) := by decide +kernel
theorem dJ0_init_db425_38 : decode cJ0_init_db425 38 = .ok (.goto 59, 3) := by decide +kernel
theorem dJ0_init_db425_41 : decode cJ0_init_db425 41 = .ok (.getstatic 38, 3) := by decide +kernel
theorem dJ0_init_db425_44 : decode cJ0_init_db425 44 = .ok (.ifCond .eq 35, 3) := by decide +kernel
theorem dJ0_init_db425_47 : decode cJ0_init_db425 47 = .ok (.aload_n 1, 1) := by decide +kernel
theorem dJ0_init_db425_48 : decode cJ0_init_db425 48 = .ok (.getfield 1048, 3) := by decide +kernel
theorem dJ0_init_db425_51 : decode cJ0_init_db425 51 = .ok (.ifCond .eq 28, 3) := by decide +kernel
theorem dJ0_init_db425_79 : decode cJ0_init_db425 79 = .ok (.aload_n 0, 1) := by decide +kernel
theorem dJ0_init_db425_80 : decode cJ0_init_db425 80 = .ok (.iconst 1, 1) := by decide +kernel
theorem dJ0_init_db425_81 : decode cJ0_init_db425 81 = .ok (.putfield 15, 3) := by decide +kernel
theorem dJ0_init_db425_84 : decode cJ0_init_db425 84 = .ok (.aload_n 0, 1) := by decide +kernel
theorem dJ0_init_db425_85 : decode cJ0_init_db425 85 = .ok (.aload_n 3, 1) := by decide +kernel
theorem dJ0_init_db425_86 : decode cJ0_init_db425 86 = .ok (.iconst 0, 1) := by decide +kernel
theorem dJ0_init_db425_87 : decode cJ0_init_db425 87 = .ok (.iload 4, 2) := by decide +kernel
theorem dJ0_init_db425_89 : decode cJ0_init_db425 89 = .ok (.iconst 1, 1) := by decide +kernel
theorem dJ0_init_db425_90 : decode cJ0_init_db425 90 = .ok (.ishl, 1) := by decide +kernel
theorem dJ0_init_db425_91 : decode cJ0_init_db425 91 = .ok (.invokestatic 54, 3) := by decide +kernel
theorem dJ0_init_db425_94 : decode cJ0_init_db425 94 = .ok (.putfield 9, 3) := by decide +kernel
theorem dJ0_init_db425_97 : decode cJ0_init_db425 97 = .ok (.return_, 1) := by decide +kernel
theorem dJ2_inflate_0e8fd_0 : decode cJ2_inflate_0e8fd 0 = .ok (.iload_n 3, 1) := by decide +kernel
theorem dJ2_inflate_0e8fd_1 : decode cJ2_inflate_0e8fd 1 = .ok (.iload 4, 2) := by decide +kernel
theorem dJ2_inflate_0e8fd_3 : decode cJ2_inflate_0e8fd 3 = .ok (.aload_n 2, 1) := by decide +kernel
theorem dJ2_inflate_0e8fd_4 : decode cJ2_inflate_0e8fd 4 = .ok (.invokestatic 173, 3) := by decide +kernel
theorem dJ2_inflate_0e8fd_7 : decode cJ2_inflate_0e8fd 7 = .ok (.iconst 0, 1) := by decide +kernel
theorem dJ2_inflate_0e8fd_8 : decode cJ2_inflate_0e8fd 8 = .ok (.istore 5, 2) := by decide +kernel
theorem dJ2_inflate_0e8fd_10 : decode cJ2_inflate_0e8fd 10 = .ok (.iload 5, 2) := by decide +kernel
theorem dJ2_inflate_0e8fd_12 : decode cJ2_inflate_0e8fd 12 = .ok (.iload 4, 2) := by decide +kernel
theorem dJ2_inflate_0e8fd_14 : decode cJ2_inflate_0e8fd 14 = .ok (.if_icmp .ge 27, 3) := by decide +kernel
theorem dJ2_inflate_0e8fd_41 : decode cJ2_inflate_0e8fd 41 = .ok (.return_, 1) := by decide +kernel
theorem dJ2_putCharSB_b72d1_0 : decode cJ2_putCharSB_b72d1 0 = .ok (.iload_n 1, 1) := by decide +kernel
theorem dJ2_putCharSB_b72d1_1 : decode cJ2_putCharSB_b72d1 1 = .ok (.aload_n 0, 1) := by decide +kernel
theorem dJ2_putCharSB_b72d1_2 : decode cJ2_putCharSB_b72d1 2 = .ok (.invokestatic 67, 3) := by decide +kernel
theorem dJ2_putCharSB_b72d1_5 : decode cJ2_putCharSB_b72d1 5 = .ok (.aload_n 0, 1) := by decide +kernel
theorem dJ2_putCharSB_b72d1_6 : decode cJ2_putCharSB_b72d1 6 = .ok (.iload_n 1, 1) := by decide +kernel
theorem dJ2_putCharSB_b72d1_7 : decode cJ2_putCharSB_b72d1 7 = .ok (.iload_n 2, 1) := by decide +kernel
theorem dJ2_putCharSB_b72d1_8 : decode cJ2_putCharSB_b72d1 8 = .ok (.invokestatic 111, 3) := by decide +kernel
theorem dJ2_putCharSB_b72d1_11 : decode cJ2_putCharSB_b72d1 11 = .ok (.return_, 1) := by decide +kernel
theorem dJx4a65c_grow_92f84_0 : decode cJx4a65c_grow_92f84 0 = .ok (.aload_n 0, 1) := by decide +kernel
theorem dJx4a65c_grow_92f84_1 : decode cJx4a65c_grow_92f84 1 = .ok (.getfield 9, 3) := by decide +kernel
theorem dJx4a65c_grow_92f84_4 : decode cJx4a65c_grow_92f84 4 = .ok (.arraylength, 1) := by decide +kernel
theorem dJx4a65c_grow_92f84_5 : decode cJx4a65c_grow_92f84 5 = .ok (.istore_n 2, 1) := by decide +kernel
theorem dJx4a65c_grow_92f84_6 : decode cJx4a65c_grow_92f84 6 = .ok (.iload_n 2, 1) := by decide +kernel
theorem dJx4a65c_grow_92f84_7 : decode cJx4a65c_grow_92f84 7 = .ok (.ifCond .gt 13, 3) := by decide +kernel
theorem dJx4a65c_grow_92f84_10 : decode cJx4a65c_grow_92f84 10 = .ok (.aload_n 0, 1) := by decide +kernel
theorem dJx4a65c_grow_92f84_11 : decode cJx4a65c_grow_92f84 11 = .ok (.getfield 9, 3) := by decide +kernel
theorem dJx4a65c_grow_92f84_14 : decode cJx4a65c_grow_92f84 14 = .ok (.getstatic 39, 3) := by decide +kernel
theorem dJx4a65c_grow_92f84_17 : decode cJx4a65c_grow_92f84 17 = .ok (.if_acmp .eq 28, 3) := by decide +kernel
theorem dJx4a65c_grow_92f84_20 : decode cJx4a65c_grow_92f84 20 = .ok (.iload_n 2, 1) := by decide +kernel
theorem dJx4a65c_grow_92f84_21 : decode cJx4a65c_grow_92f84 21 = .ok (.iload_n 1, 1) := by decide +kernel
theorem dJx4a65c_grow_92f84_22 : decode cJx4a65c_grow_92f84 22 = .ok (.iload_n 2, 1) := by decide +kernel
theorem dJx4a65c_grow_92f84_23 : decode cJx4a65c_grow_92f84 23 = .ok (.isub, 1) := by decide +kernel
theorem dJx4a65c_grow_92f84_24 : decode cJx4a65c_grow_92f84 24 = .ok (.iload_n 2, 1) := by decide +kernel
theorem dJx4a65c_grow_92f84_25 : decode cJx4a65c_grow_92f84 25 = .ok (.iconst 1, 1) := by decide +kernel
theorem dJx4a65c_grow_92f84_26 : decode cJx4a65c_grow_92f84 26 = .ok (.ishr, 1) := by decide +kernel
theorem dJx4a65c_grow_92f84_27 : decode cJx4a65c_grow_92f84 27 = .ok (.invokestatic 73, 3) := by decide +kernel
theorem dJx4a65c_grow_92f84_30 : decode cJx4a65c_grow_92f84 30 = .ok (.istore_n 3, 1) := by decide +kernel
theorem dJx4a65c_grow_92f84_31 : decode cJx4a65c_grow_92f84 31 = .ok (.aload_n 0, 1) := by decide +kernel
theorem dJx4a65c_grow_92f84_32 : decode cJx4a65c_grow_92f84 32 = .ok (.aload_n 0, 1) := by decide +kernel
theorem dJx4a65c_grow_92f84_33 : decode cJx4a65c_grow_92f84 33 = .ok (.getfield 9, 3) := by decide +kernel
theorem dJx4a65c_grow_92f84_36 : decode cJx4a65c_grow_92f84 36 = .ok (.iload_n 3, 1) := by decide +kernel
theorem dJx4a65c_grow_92f84_37 : decode cJx4a65c_grow_92f84 37 = .ok (.invokestatic 66, 3) := by decide +kernel
theorem dJx4a65c_grow_92f84_40 : decode cJx4a65c_grow_92f84 40 = .ok (.dup_x1, 1) := by decide +kernel
theorem dJx4a65c_grow_92f84_41 : decode cJx4a65c_grow_92f84 41 = .ok (.putfield 9, 3) := by decide +kernel
theorem dJx4a65c_grow_92f84_44 : decode cJx4a65c_grow_92f84 44 = .ok (.areturn, 1) := by decide +kernel
theorem dJx4a65c_grow_92f84_45 : decode cJx4a65c_grow_92f84 45 = .ok (.aload_n 0, 1) := by decide +kernel
theorem dJx4a65c_grow_92f84_46 : decode cJx4a65c_grow_92f84 46 = .ok (.bipush 10, 2) := by decide +kernel
theorem dJx4a65c_grow_92f84_48 : decode cJx4a65c_grow_92f84 48 = .ok (.iload_n 1, 1) := by decide +kernel
theorem dJx4a65c_grow_92f84_49 : decode cJx4a65c_grow_92f84 49 = .ok (.invokestatic 79, 3) := by decide +kernel
theorem dJx4a65c_grow_92f84_52 : decode cJx4a65c_grow_92f84 52 = .ok (.anewarray 7, 3) := by decide +kernel
theorem dJx4a65c_grow_92f84_55 : decode cJx4a65c_grow_92f84 55 = .ok (.dup_x1, 1) := by decide +kernel
theorem dJx4a65c_grow_92f84_56 : decode cJx4a65c_grow_92f84 56 = .ok (.putfield 9, 3) := by decide +kernel
theorem dJx4a65c_grow_92f84_59 : decode cJx4a65c_grow_92f84 59 = .ok (.areturn, 1) := by decide +kernel
theorem dL_addBoards_0 : decode cL_addBoards 0 = .ok (.aload 6, 2) := by decide +kernel
theorem dL_addBoards_2 : decode cL_addBoards 2 = .ok (.iconst 0, 1) := by decide +kernel
theorem dL_addBoards_3 : decode cL_addBoards 3 = .ok (.aload_n 0, 1) := by decide +kernel
theorem dL_addBoards_4 : decode cL_addBoards 4 = .ok (.iload_n 1, 1) := by decide +kernel
theorem dL_addBoards_5 : decode cL_addBoards 5 = .ok (.iload_n 2, 1) := by decide +kernel
theorem dL_addBoards_6 : decode cL_addBoards 6 = .ok (.iload_n 3, 1) := by decide +kernel
theorem dL_addBoards_7 : decode cL_addBoards 7 = .ok (.iload 4, 2) := by decide +kernel
theorem dL_addBoards_9 : decode cL_addBoards 9 = .ok (.iload 5, 2) := by decide +kernel
theorem dL_addBoards_11 : decode cL_addBoards 11 = .ok (.invokevirtual 116, 3) := by decide +kernel
theorem dL_addBoards_14 : decode cL_addBoards 14 = .ok (.i2l, 1) := by decide +kernel
theorem dL_addBoards_15 : decode cL_addBoards 15 = .ok (.lastore, 1) := by decide +kernel
theorem dL_addBoards_16 : decode cL_addBoards 16 = .ok (.goto 11, 3) := by decide +kernel
theorem dL_addBoards_19 : decode cL_addBoards 19 = .ok (.astore 7, 2) := by decide +kernel
theorem dL_addBoards_21 : decode cL_addBoards 21 = .ok (.iconst 1, 1) := by decide +kernel
theorem dL_addBoards_22 : decode cL_addBoards 22 = .ok (.ireturn, 1) := by decide +kernel
theorem dL_addBoards_27 : decode cL_addBoards 27 = .ok (.iconst 0, 1) := by decide +kernel
theorem dL_addBoards_28 : decode cL_addBoards 28 = .ok (.ireturn, 1) := by decide +kernel
theorem dL_addType_0 : decode cL_addType 0 = .ok (.aload_n 1, 1) := by decide +kernel
theorem dL_addType_1 : decode cL_addType 1 = .ok (.iconst 0, 1) := by decide +kernel
theorem dL_addType_2 : decode cL_addType 2 = .ok (.aload_n 0, 1) := by decide +kernel
theorem dL_addType_3 : decode cL_addType 3 = .ok (.invokevirtual 50, 3) := by decide +kernel
theorem dL_addType_11 : decode cL_addType 11 = .ok (.astore_n 2, 1) := by decide +kernel
theorem dL_addType_12 : decode cL_addType 12 = .ok (.iconst 1, 1) := by decide +kernel
theorem dL_addType_13 : decode cL_addType 13 = .ok (.ireturn, 1) := by decide +kernel
theorem dL_addWall_0 : decode cL_addWall 0 = .ok (.aload_n 3, 1) := by decide +kernel
theorem dL_addWall_1 : decode cL_addWall 1 = .ok (.iconst 0, 1) := by decide +kernel
theorem dL_addWall_2 : decode cL_addWall 2 = .ok (.aload_n 0, 1) := by decide +kernel
theorem dL_addWall_3 : decode cL_addWall 3 = .ok (.iload_n 1, 1) := by decide +kernel
theorem dL_addWall_4 : decode cL_addWall 4 = .ok (.iload_n 2, 1) := by decide +kernel
theorem dL_addWall_5 : decode cL_addWall 5 = .ok (.invokevirtual 7, 3) := by decide +kernel
theorem dL_addWall_8 : decode cL_addWall 8 = .ok (.i2l, 1) := by decide +kernel
theorem dL_addWall_9 : decode cL_addWall 9 = .ok (.lastore, 1) := by decide +kernel
theorem dL_addWall_10 : decode cL_addWall 10 = .ok (.goto 11, 3) := by decide +kernel
theorem dL_addWall_13 : decode cL_addWall 13 = .ok (.astore 4, 2) := by decide +kernel
theorem dL_addWall_15 : decode cL_addWall 15 = .ok (.iconst 1, 1) := by decide +kernel
theorem dL_addWall_16 : decode cL_addWall 16 = .ok (.ireturn, 1) := by decide +kernel
theorem dL_addWall_21 : decode cL_addWall 21 = .ok (.iconst 0, 1) := by decide +kernel
theorem dL_addWall_22 : decode cL_addWall 22 = .ok (.ireturn, 1) := by decide +kernel
theorem dL_clamp_0 : decode cL_clamp 0 = .ok (.aload 4, 2) := by decide +kernel
theorem dL_clamp_2 : decode cL_clamp 2 = .ok (.iconst 0, 1) := by decide +kernel
theorem dL_clamp_3 : decode cL_clamp 3 = .ok (.aload_n 0, 1) := by decide +kernel
theorem dL_clamp_4 : decode cL_clamp 4 = .ok (.iload_n 1, 1) := by decide +kernel
theorem dL_clamp_5 : decode cL_clamp 5 = .ok (.iload_n 2, 1) := by decide +kernel
theorem dL_clamp_6 : decode cL_clamp 6 = .ok (.iload_n 3, 1) := by decide +kernel
theorem dL_clamp_7 : decode cL_clamp 7 = .ok (.invokevirtual 112, 3) := by decide +kernel
theorem dL_clamp_15 : decode cL_clamp 15 = .ok (.astore 5, 2) := by decide +kernel
theorem dL_clamp_17 : decode cL_clamp 17 = .ok (.iconst 1, 1) := by decide +kernel
theorem dL_clamp_18 : decode cL_clamp 18 = .ok (.ireturn, 1) := by decide +kernel
theorem dL_drills_0 : decode cL_drills 0 = .ok (.aload_n 3, 1) := by decide +kernel
theorem dL_drills_1 : decode cL_drills 1 = .ok (.iconst 0, 1) := by decide +kernel
theorem dL_drills_2 : decode cL_drills 2 = .ok (.aload_n 0, 1) := by decide +kernel
theorem dL_drills_3 : decode cL_drills 3 = .ok (.iload_n 1, 1) := by decide +kernel
theorem dL_drills_4 : decode cL_drills 4 = .ok (.iload_n 2, 1) := by decide +kernel
theorem dL_drills_5 : decode cL_drills 5 = .ok (.invokevirtual 109, 3) := by decide +kernel
theorem dL_drills_13 : decode cL_drills 13 = .ok (.astore 4, 2) := by decide +kernel
theorem dL_drills_15 : decode cL_drills 15 = .ok (.iconst 1, 1) := by decide +kernel
theorem dL_drills_16 : decode cL_drills 16 = .ok (.ireturn, 1) := by decide +kernel
theorem dL_fault_0 : decode cL_fault 0 = .ok (.aload_n 1, 1) := by decide +kernel
theorem dL_fault_1 : decode cL_fault 1 = .ok (.iconst 0, 1) := by decide +kernel
theorem dL_fault_2 : decode cL_fault 2 = .ok (.aload_n 0, 1) := by decide +kernel
theorem dL_fault_3 : decode cL_fault 3 = .ok (.invokevirtual 41, 3) := by decide +kernel
theorem dL_fault_6 : decode cL_fault 6 = .ok (.i2l, 1) := by decide +kernel
theorem dL_fault_7 : decode cL_fault 7 = .ok (.lastore, 1) := by decide +kernel
theorem dL_fault_8 : decode cL_fault 8 = .ok (.goto 6, 3) := by decide +kernel
theorem dL_fault_11 : decode cL_fault 11 = .ok (.astore_n 2, 1) := by decide +kernel
theorem dL_fault_14 : decode cL_fault 14 = .ok (.iconst 0, 1) := by decide +kernel
theorem dL_fault_15 : decode cL_fault 15 = .ok (.ireturn, 1) := by decide +kernel
theorem dL_faultKind_0 : decode cL_faultKind 0 = .ok (.aload_n 1, 1) := by decide +kernel
theorem dL_faultKind_1 : decode cL_faultKind 1 = .ok (.iconst 0, 1) := by decide +kernel
theorem dL_faultKind_2 : decode cL_faultKind 2 = .ok (.aload_n 0, 1) := by decide +kernel
theorem dL_faultKind_3 : decode cL_faultKind 3 = .ok (.invokevirtual 46, 3) := by decide +kernel
theorem dL_faultKind_6 : decode cL_faultKind 6 = .ok (.i2l, 1) := by decide +kernel
theorem dL_faultKind_7 : decode cL_faultKind 7 = .ok (.lastore, 1) := by decide +kernel
theorem dL_faultKind_8 : decode cL_faultKind 8 = .ok (.goto 6, 3) := by decide +kernel
theorem dL_faultKind_11 : decode cL_faultKind 11 = .ok (.astore_n 2, 1) := by decide +kernel
theorem dL_faultKind_14 : decode cL_faultKind 14 = .ok (.iconst 0, 1) := by decide +kernel
theorem dL_faultKind_15 : decode cL_faultKind 15 = .ok (.ireturn, 1) := by decide +kernel
theorem dL_free_0 : decode cL_free 0 = .ok (.aload_n 3, 1) := by decide +kernel
theorem dL_free_1 : decode cL_free 1 = .ok (.iconst 0, 1) := by decide +kernel
theorem dL_free_2 : decode cL_free 2 = .ok (.aload_n 0, 1) := by decide +kernel
theorem dL_free_3 : decode cL_free 3 = .ok (.iload_n 1, 1) := by decide +kernel
theorem dL_free_4 : decode cL_free 4 = .ok (.iload_n 2, 1) := by decide +kernel
theorem dL_free_5 : decode cL_free 5 = .ok (.invokevirtual 78, 3) := by decide +kernel
theorem dL_free_13 : decode cL_free 13 = .ok (.astore 4, 2) := by decide +kernel
theorem dL_free_15 : decode cL_free 15 = .ok (.iconst 1, 1) := by decide +kernel
theorem dL_free_16 : decode cL_free 16 = .ok (.ireturn, 1) := by decide +kernel
theorem dL_hole_0 : decode cL_hole 0 = .ok (.aload 5, 2) := by decide +kernel
theorem dL_hole_2 : decode cL_hole 2 = .ok (.iconst 0, 1) := by decide +kernel
theorem dL_hole_3 : decode cL_hole 3 = .ok (.aload_n 0, 1) := by decide +kernel
theorem dL_hole_4 : decode cL_hole 4 = .ok (.iload_n 1, 1) := by decide +kernel
theorem dL_hole_5 : decode cL_hole 5 = .ok (.iload_n 2, 1) := by decide +kernel
theorem dL_hole_6 : decode cL_hole 6 = .ok (.iload_n 3, 1) := by decide +kernel
theorem dL_hole_7 : decode cL_hole 7 = .ok (.iload 4, 2) := by decide +kernel
theorem dL_hole_9 : decode cL_hole 9 = .ok (.invokevirtual 105, 3) := by decide +kernel
theorem dL_hole_17 : decode cL_hole 17 = .ok (.astore 6, 2) := by decide +kernel
theorem dL_hole_19 : decode cL_hole 19 = .ok (.iconst 1, 1) := by decide +kernel
theorem dL_hole_20 : decode cL_hole 20 = .ok (.ireturn, 1) := by decide +kernel
theorem dL_holes_0 : decode cL_holes 0 = .ok (.aload_n 3, 1) := by decide +kernel
theorem dL_holes_1 : decode cL_holes 1 = .ok (.iconst 0, 1) := by decide +kernel
theorem dL_holes_2 : decode cL_holes 2 = .ok (.aload_n 0, 1) := by decide +kernel
theorem dL_holes_3 : decode cL_holes 3 = .ok (.iload_n 1, 1) := by decide +kernel
theorem dL_holes_4 : decode cL_holes 4 = .ok (.iload_n 2, 1) := by decide +kernel
theorem dL_holes_5 : decode cL_holes 5 = .ok (.invokevirtual 102, 3) := by decide +kernel
theorem dL_holes_13 : decode cL_holes 13 = .ok (.astore 4, 2) := by decide +kernel
theorem dL_holes_15 : decode cL_holes 15 = .ok (.iconst 1, 1) := by decide +kernel
theorem dL_holes_16 : decode cL_holes 16 = .ok (.ireturn, 1) := by decide +kernel
theorem dL_kindOf_0 : decode cL_kindOf 0 = .ok (.aload_n 3, 1) := by decide +kernel
theorem dL_kindOf_1 : decode cL_kindOf 1 = .ok (.iconst 0, 1) := by decide +kernel
theorem dL_kindOf_2 : decode cL_kindOf 2 = .ok (.aload_n 0, 1) := by decide +kernel
theorem dL_kindOf_3 : decode cL_kindOf 3 = .ok (.iload_n 1, 1) := by decide +kernel
theorem dL_kindOf_4 : decode cL_kindOf 4 = .ok (.iload_n 2, 1) := by decide +kernel
theorem dL_kindOf_5 : decode cL_kindOf 5 = .ok (.invokevirtual 88, 3) := by decide +kernel
theorem dL_kindOf_13 : decode cL_kindOf 13 = .ok (.astore 4, 2) := by decide +kernel
theorem dL_kindOf_15 : decode cL_kindOf 15 = .ok (.iconst 1, 1) := by decide +kernel
theorem dL_kindOf_16 : decode cL_kindOf 16 = .ok (.ireturn, 1) := by decide +kernel
theorem dL_lose_0 : decode cL_lose 0 = .ok (.aload_n 3, 1) := by decide +kernel
theorem dL_lose_1 : decode cL_lose 1 = .ok (.iconst 0, 1) := by decide +kernel
theorem dL_lose_2 : decode cL_lose 2 = .ok (.aload_n 0, 1) := by decide +kernel
theorem dL_lose_3 : decode cL_lose 3 = .ok (.iload_n 1, 1) := by decide +kernel
theorem dL_lose_4 : decode cL_lose 4 = .ok (.iload_n 2, 1) := by decide +kernel
theorem dL_lose_5 : decode cL_lose 5 = .ok (.invokevirtual 128, 3) := by decide +kernel
theorem dL_lose_13 : decode cL_lose 13 = .ok (.astore 4, 2) := by decide +kernel
theorem dL_lose_15 : decode cL_lose 15 = .ok (.iconst 1, 1) := by decide +kernel
theorem dL_lose_16 : decode cL_lose 16 = .ok (.ireturn, 1) := by decide +kernel
theorem dL_packOf_0 : decode cL_packOf 0 = .ok (.aload 4, 2) := by decide +kernel
theorem dL_packOf_2 : decode cL_packOf 2 = .ok (.iconst 0, 1) := by decide +kernel
theorem dL_packOf_3 : decode cL_packOf 3 = .ok (.aload_n 0, 1) := by decide +kernel
theorem dL_packOf_4 : decode cL_packOf 4 = .ok (.iload_n 1, 1) := by decide +kernel
theorem dL_packOf_5 : decode cL_packOf 5 = .ok (.iload_n 2, 1) := by decide +kernel
theorem dL_packOf_6 : decode cL_packOf 6 = .ok (.iload_n 3, 1) := by decide +kernel
theorem dL_packOf_7 : decode cL_packOf 7 = .ok (.invokevirtual 143, 3) := by decide +kernel
theorem dL_packOf_15 : decode cL_packOf 15 = .ok (.astore 5, 2) := by decide +kernel
theorem dL_packOf_17 : decode cL_packOf 17 = .ok (.iconst 1, 1) := by decide +kernel
theorem dL_packOf_18 : decode cL_packOf 18 = .ok (.ireturn, 1) := by decide +kernel
theorem dL_size_0 : decode cL_size 0 = .ok (.aload 4, 2) := by decide +kernel
theorem dL_size_2 : decode cL_size 2 = .ok (.iconst 0, 1) := by decide +kernel
theorem dL_size_3 : decode cL_size 3 = .ok (.aload_n 0, 1) := by decide +kernel
theorem dL_size_4 : decode cL_size 4 = .ok (.iload_n 1, 1) := by decide +kernel
theorem dL_size_5 : decode cL_size 5 = .ok (.iload_n 2, 1) := by decide +kernel
theorem dL_size_6 : decode cL_size 6 = .ok (.iload_n 3, 1) := by decide +kernel
theorem dL_size_7 : decode cL_size 7 = .ok (.invokevirtual 92, 3) := by decide +kernel
theorem dL_size_15 : decode cL_size 15 = .ok (.astore 5, 2) := by decide +kernel
theorem dL_size_17 : decode cL_size 17 = .ok (.iconst 1, 1) := by decide +kernel
theorem dL_size_18 : decode cL_size 18 = .ok (.ireturn, 1) := by decide +kernel
theorem dL_stepAt_0 : decode cL_stepAt 0 = .ok (.aload_n 3, 1) := by decide +kernel
theorem dL_stepAt_1 : decode cL_stepAt 1 = .ok (.iconst 0, 1) := by decide +kernel
theorem dL_stepAt_2 : decode cL_stepAt 2 = .ok (.aload_n 0, 1) := by decide +kernel
theorem dL_stepAt_3 : decode cL_stepAt 3 = .ok (.iload_n 1, 1) := by decide +kernel
theorem dL_stepAt_4 : decode cL_stepAt 4 = .ok (.iload_n 2, 1) := by decide +kernel
theorem dL_stepAt_5 : decode cL_stepAt 5 = .ok (.invokevirtual 146, 3) := by decide +kernel
theorem dL_stepAt_13 : decode cL_stepAt 13 = .ok (.astore 4, 2) := by decide +kernel
theorem dL_stepAt_15 : decode cL_stepAt 15 = .ok (.iconst 1, 1) := by decide +kernel
theorem dL_stepAt_16 : decode cL_stepAt 16 = .ok (.ireturn, 1) := by decide +kernel
theorem dL_weight_0 : decode cL_weight 0 = .ok (.aload_n 3, 1) := by decide +kernel
theorem dL_weight_1 : decode cL_weight 1 = .ok (.iconst 0, 1) := by decide +kernel
theorem dL_weight_2 : decode cL_weight 2 = .ok (.aload_n 0, 1) := by decide +kernel
theorem dL_weight_3 : decode cL_weight 3 = .ok (.iload_n 1, 1) := by decide +kernel
theorem dL_weight_4 : decode cL_weight 4 = .ok (.iload_n 2, 1) := by decide +kernel
theorem dL_weight_5 : decode cL_weight 5 = .ok (.invokevirtual 96, 3) := by decide +kernel
theorem dL_weight_13 : decode cL_weight 13 = .ok (.astore 4, 2) := by decide +kernel
theorem dL_weight_15 : decode cL_weight 15 = .ok (.iconst 1, 1) := by decide +kernel
theorem dL_weight_16 : decode cL_weight 16 = .ok (.ireturn, 1) := by decide +kernel
theorem dL_widest_0 : decode cL_widest 0 = .ok (.aload_n 3, 1) := by decide +kernel
theorem dL_widest_1 : decode cL_widest 1 = .ok (.iconst 0, 1) := by decide +kernel
theorem dL_widest_2 : decode cL_widest 2 = .ok (.aload_n 0, 1) := by decide +kernel
theorem dL_widest_3 : decode cL_widest 3 = .ok (.iload_n 1, 1) := by decide +kernel
theorem dL_widest_4 : decode cL_widest 4 = .ok (.iload_n 2, 1) := by decide +kernel
theorem dL_widest_5 : decode cL_widest 5 = .ok (.invokevirtual 82, 3) := by decide +kernel
theorem dL_widest_13 : decode cL_widest 13 = .ok (.astore 4, 2) := by decide +kernel
theorem dL_widest_15 : decode cL_widest 15 = .ok (.iconst 1, 1) := by decide +kernel
theorem dL_widest_16 : decode cL_widest 16 = .ok (.ireturn, 1) := by decide +kernel
theorem dX11_lateness_0 : decode cX11_lateness 0 = .ok (.aload_n 0, 1) := by decide +kernel
theorem dX11_lateness_1 : decode cX11_lateness 1 = .ok (.getfield 55, 3) := by decide +kernel
theorem dX11_lateness_4 : decode cX11_lateness 4 = .ok (.invokevirtual 376, 3) := by decide +kernel
theorem dX11_lateness_7 : decode cX11_lateness 7 = .ok (.aload_n 0, 1) := by decide +kernel
theorem dX11_lateness_8 : decode cX11_lateness 8 = .ok (.getfield 55, 3) := by decide +kernel
theorem dX11_lateness_11 : decode cX11_lateness 11 = .ok (.getfield 379, 3) := by decide +kernel
theorem dX11_lateness_14 : decode cX11_lateness 14 = .ok (.ireturn, 1) := by decide +kernel
theorem dX12_init_0 : decode cX12_init 0 = .ok (.aload_n 0, 1) := by decide +kernel
theorem dX12_init_1 : decode cX12_init 1 = .ok (.invokespecial 3, 3) := by decide +kernel
theorem dX12_init_4 : decode cX12_init 4 = .ok (.aload_n 0, 1) := by decide +kernel
theorem dX12_init_5 : decode cX12_init 5 = .ok (.new 9, 3) := by decide +kernel
theorem dX12_init_8 : decode cX12_init 8 = .ok (.dup, 1) := by decide +kernel
theorem dX12_init_9 : decode cX12_init 9 = .ok (.invokespecial 11, 3) := by decide +kernel
theorem dX12_init_12 : decode cX12_init 12 = .ok (.putfield 12, 3) := by decide +kernel
theorem dX12_init_15 : decode cX12_init 15 = .ok (.aload_n 0, 1) := by decide +kernel
theorem dX12_init_16 : decode cX12_init 16 = .ok (.new 9, 3) := by decide +kernel
theorem dX12_init_19 : decode cX12_init 19 = .ok (.dup, 1) := by decide +kernel
theorem dX12_init_20 : decode cX12_init 20 = .ok (.invokespecial 11, 3) := by decide +kernel
theorem dX12_init_23 : decode cX12_init 23 = .ok (.putfield 18, 3) := by decide +kernel
theorem dX12_init_26 : decode cX12_init 26 = .ok (.aload_n 0, 1) := by decide +kernel
theorem dX12_init_27 : decode cX12_init 27 = .ok (.iload_n 1, 1) := by decide +kernel
theorem dX12_init_28 : decode cX12_init 28 = .ok (.putfield 21, 3) := by decide +kernel
theorem dX12_init_31 : decode cX12_init 31 = .ok (.aload_n 0, 1) := by decide +kernel
theorem dX12_init_32 : decode cX12_init 32 = .ok (.iload_n 2, 1) := by decide +kernel
theorem dX12_init_33 : decode cX12_init 33 = .ok (.putfield 25, 3) := by decide +kernel
theorem dX12_init_36 : decode cX12_init 36 = .ok (.aload_n 0, 1) := by decide +kernel
theorem dX12_init_37 : decode cX12_init 37 = .ok (.iload_n 3, 1) := by decide +kernel
theorem dX12_init_38 : decode cX12_init 38 = .ok (.putfield 28, 3) := by decide +kernel
theorem dX12_init_41 : decode cX12_init 41 = .ok (.aload_n 0, 1) := by decide +kernel
theorem dX12_init_42 : decode cX12_init 42 = .ok (.iload 4, 2) := by decide +kernel
theorem dX12_init_44 : decode cX12_init 44 = .ok (.putfield 31, 3) := by decide +kernel
theorem dX12_init_47 : decode cX12_init 47 = .ok (.aload_n 0, 1) := by decide +kernel
theorem dX12_init_48 : decode cX12_init 48 = .ok (.iload 5, 2) := by decide +kernel
theorem dX12_init_50 : decode cX12_init 50 = .ok (.putfield 34, 3) := by decide +kernel
theorem dX12_init_53 : decode cX12_init 53 = .ok (.return_, 1) := by decide +kernel
theorem dX21_area_0 : decode cX21_area 0 = .ok (.aload_n 0, 1) := by decide +kernel
theorem dX21_area_1 : decode cX21_area 1 = .ok (.iconst 0, 1) := by decide +kernel
theorem dX21_area_2 : decode cX21_area 2 = .ok (.putfield 54, 3) := by decide +kernel
theorem dX21_area_5 : decode cX21_area 5 = .ok (.iload_n 1, 1) := by decide +kernel
theorem dX21_area_6 : decode cX21_area 6 = .ok (.lookupswitch 75 #[(99, 50), (100, 65), (112, 60), (115, 55), (120, 70)], 50) := by decide +kernel
theorem dX21_area_56 : decode cX21_area 56 = .ok (.aload_n 0, 1) := by decide +kernel
theorem dX21_area_57 : decode cX21_area 57 = .ok (.getfield 383, 3) := by decide +kernel
theorem dX21_area_60 : decode cX21_area 60 = .ok (.lreturn, 1) := by decide +kernel
theorem dX21_area_61 : decode cX21_area 61 = .ok (.aload_n 0, 1) := by decide +kernel
theorem dX21_area_62 : decode cX21_area 62 = .ok (.invokevirtual 484, 3) := by decide +kernel
theorem dX21_area_65 : decode cX21_area 65 = .ok (.lreturn, 1) := by decide +kernel
theorem dX21_area_66 : decode cX21_area 66 = .ok (.aload_n 0, 1) := by decide +kernel
theorem dX21_area_67 : decode cX21_area 67 = .ok (.invokevirtual 487, 3) := by decide +kernel
theorem dX21_area_70 : decode cX21_area 70 = .ok (.lreturn, 1) := by decide +kernel
theorem dX21_area_71 : decode cX21_area 71 = .ok (.aload_n 0, 1) := by decide +kernel
theorem dX21_area_72 : decode cX21_area 72 = .ok (.getfield 440, 3) := by decide +kernel
theorem dX21_area_75 : decode cX21_area 75 = .ok (.lreturn, 1) := by decide +kernel
theorem dX21_area_76 : decode cX21_area 76 = .ok (.aload_n 0, 1) := by decide +kernel
theorem dX21_area_77 : decode cX21_area 77 = .ok (.getfield 320, 3) := by decide +kernel
theorem dX21_area_80 : decode cX21_area 80 = .ok (.lreturn, 1) := by decide +kernel
theorem dX21_area_81 : decode cX21_area 81 = .ok (.aload_n 0, 1) := by decide +kernel
theorem dX21_area_82 : decode cX21_area 82 = .ok (.iconst 1, 1) := by decide +kernel
theorem dX21_area_83 : decode cX21_area 83 = .ok (.putfield 54, 3) := by decide +kernel
theorem dX21_area_86 : decode cX21_area 86 = .ok (.lconst 0, 1) := by decide +kernel
theorem dX21_area_87 : decode cX21_area 87 = .ok (.lreturn, 1) := by decide +kernel
theorem dX21_clamp_0 : decode cX21_clamp 0 = .ok (.aload_n 0, 1) := by decide +kernel
theorem dX21_clamp_1 : decode cX21_clamp 1 = .ok (.iload_n 1, 1) := by decide +kernel
theorem dX21_clamp_2 : decode cX21_clamp 2 = .ok (.iload_n 2, 1) := by decide +kernel
theorem dX21_clamp_3 : decode cX21_clamp 3 = .ok (.invokevirtual 332, 3) := by decide +kernel
theorem dX21_clamp_6 : decode cX21_clamp 6 = .ok (.astore 4, 2) := by decide +kernel
theorem dX21_clamp_8 : decode cX21_clamp 8 = .ok (.aload 4, 2) := by decide +kernel
theorem dX21_clamp_10 : decode cX21_clamp 10 = .ok (.ifnonnull 5, 3) := by decide +kernel
theorem dX21_clamp_13 : decode cX21_clamp 13 = .ok (.iconst 0, 1) := by decide +kernel
theorem dX21_clamp_14 : decode cX21_clamp 14 = .ok (.ireturn, 1) := by decide +kernel
theorem dX21_drills_0 : decode cX21_drills 0 = .ok (.aload_n 0, 1) := by decide +kernel
theorem dX21_drills_1 : decode cX21_drills 1 = .ok (.iload_n 1, 1) := by decide +kernel
theorem dX21_drills_2 : decode cX21_drills 2 = .ok (.iload_n 2, 1) := by decide +kernel
theorem dX21_drills_3 : decode cX21_drills 3 = .ok (.invokevirtual 332, 3) := by decide +kernel
theorem dX21_drills_6 : decode cX21_drills 6 = .ok (.ifnonnull 5, 3) := by decide +kernel
theorem dX21_drills_9 : decode cX21_drills 9 = .ok (.iconst 0, 1) := by decide +kernel
theorem dX21_drills_10 : decode cX21_drills 10 = .ok (.ireturn, 1) := by decide +kernel
theorem dX21_hole_0 : decode cX21_hole 0 = .ok (.aload_n 0, 1) := by decide +kernel
theorem dX21_hole_1 : decode cX21_hole 1 = .ok (.iload_n 1, 1) := by decide +kernel
theorem dX21_hole_2 : decode cX21_hole 2 = .ok (.iload_n 2, 1) := by decide +kernel
theorem dX21_hole_3 : decode cX21_hole 3 = .ok (.invokevirtual 332, 3) := by decide +kernel
theorem dX21_hole_6 : decode cX21_hole 6 = .ok (.ifnonnull 5, 3) := by decide +kernel
theorem dX21_hole_9 : decode cX21_hole 9 = .ok (.iconst 0, 1) := by decide +kernel
theorem dX21_hole_10 : decode cX21_hole 10 = .ok (.ireturn, 1) := by decide +kernel
theorem dX21_holes_0 : decode cX21_holes 0 = .ok (.aload_n 0, 1) := by decide +kernel
theorem dX21_holes_1 : decode cX21_holes 1 = .ok (.iload_n 1, 1) := by decide +kernel
theorem dX21_holes_2 : decode cX21_holes 2 = .ok (.iload_n 2, 1) := by decide +kernel
theorem dX21_holes_3 : decode cX21_holes 3 = .ok (.invokevirtual 332, 3) := by decide +kernel
theorem dX21_holes_6 : decode cX21_holes 6 = .ok (.ifnonnull 7, 3) := by decide +kernel
theorem dX21_holes_9 : decode cX21_holes 9 = .ok (.iconst 0, 1) := by decide +kernel
theorem dX21_holes_10 : decode cX21_holes 10 = .ok (.goto 21, 3) := by decide +kernel
theorem dX21_holes_31 : decode cX21_holes 31 = .ok (.ireturn, 1) := by decide +kernel
theorem dX21_init_0 : decode cX21_init 0 = .ok (.aload_n 0, 1) := by decide +kernel
theorem dX21_init_1 : decode cX21_init 1 = .ok (.invokespecial 1, 3) := by decide +kernel
theorem dX21_init_4 : decode cX21_init 4 = .ok (.aload_n 0, 1) := by decide +kernel
theorem dX21_init_5 : decode cX21_init 5 = .ok (.new 7, 3) := by decide +kernel
theorem dX21_init_8 : decode cX21_init 8 = .ok (.dup, 1) := by decide +kernel
theorem dX21_init_9 : decode cX21_init 9 = .ok (.invokespecial 9, 3) := by decide +kernel
theorem dX21_init_12 : decode cX21_init 12 = .ok (.putfield 10, 3) := by decide +kernel
theorem dX21_init_15 : decode cX21_init 15 = .ok (.aload_n 0, 1) := by decide +kernel
theorem dX21_init_16 : decode cX21_init 16 = .ok (.new 7, 3) := by decide +kernel
theorem dX21_init_19 : decode cX21_init 19 = .ok (.dup, 1) := by decide +kernel
theorem dX21_init_20 : decode cX21_init 20 = .ok (.invokespecial 9, 3) := by decide +kernel
theorem dX21_init_23 : decode cX21_init 23 = .ok (.putfield 16, 3) := by decide +kernel
theorem dX21_init_26 : decode cX21_init 26 = .ok (.aload_n 0, 1) := by decide +kernel
theorem dX21_init_27 : decode cX21_init 27 = .ok (.ldc 19, 2) := by decide +kernel
theorem dX21_init_29 : decode cX21_init 29 = .ok (.putfield 21, 3) := by decide +kernel
theorem dX21_init_32 : decode cX21_init 32 = .ok (.aload_n 0, 1) := by decide +kernel
theorem dX21_init_33 : decode cX21_init 33 = .ok (.new 7, 3) := by decide +kernel
theorem dX21_init_36 : decode cX21_init 36 = .ok (.dup, 1) := by decide +kernel
theorem dX21_init_37 : decode cX21_init 37 = .ok (.invokespecial 9, 3) := by decide +kernel
theorem dX21_init_40 : decode cX21_init 40 = .ok (.putfield 25, 3) := by decide +kernel
theorem dX21_init_43 : decode cX21_init 43 = .ok (.aload_n 0, 1) := by decide +kernel
theorem dX21_init_44 : decode cX21_init 44 = .ok (.new 7, 3) := by decide +kernel
theorem dX21_init_47 : decode cX21_init 47 = .ok (.dup, 1) := by decide +kernel
theorem dX21_init_48 : decode cX21_init 48 = .ok (.invokespecial 9, 3) := by decide +kernel
theorem dX21_init_51 : decode cX21_init 51 = .ok (.putfield 28, 3) := by decide +kernel
theorem dX21_init_54 : decode cX21_init 54 = .ok (.aload_n 0, 1) := by decide +kernel
theorem dX21_init_55 : decode cX21_init 55 = .ok (.new 7, 3) := by decide +kernel
theorem dX21_init_58 : decode cX21_init 58 = .ok (.dup, 1) := by decide +kernel
theorem dX21_init_59 : decode cX21_init 59 = .ok (.invokespecial 9, 3) := by decide +kernel
theorem dX21_init_62 : decode cX21_init 62 = .ok (.putfield 31, 3) := by decide +kernel
theorem dX21_init_65 : decode cX21_init 65 = .ok (.aload_n 0, 1) := by decide +kernel
theorem dX21_init_66 : decode cX21_init 66 = .ok (.new 7, 3) := by decide +kernel
theorem dX21_init_69 : decode cX21_init 69 = .ok (.dup, 1) := by decide +kernel
theorem dX21_init_70 : decode cX21_init 70 = .ok (.invokespecial 9, 3) := by decide +kernel
theorem dX21_init_73 : decode cX21_init 73 = .ok (.putfield 34, 3) := by decide +kernel
theorem dX21_init_76 : decode cX21_init 76 = .ok (.aload_n 0, 1) := by decide +kernel
theorem dX21_init_77 : decode cX21_init 77 = .ok (.iconst 3, 1) := by decide +kernel
theorem dX21_init_78 : decode cX21_init 78 = .ok (.newarray .int, 2) := by decide +kernel
theorem dX21_init_80 : decode cX21_init 80 = .ok (.dup, 1) := by decide +kernel
theorem dX21_init_81 : decode cX21_init 81 = .ok (.iconst 0, 1) := by decide +kernel
theorem dX21_init_82 : decode cX21_init 82 = .ok (.iconst 2, 1) := by decide +kernel
theorem dX21_init_83 : decode cX21_init 83 = .ok (.iastore, 1) := by decide +kernel
theorem dX21_init_84 : decode cX21_init 84 = .ok (.dup, 1) := by decide +kernel
theorem dX21_init_85 : decode cX21_init 85 = .ok (.iconst 1, 1) := by decide +kernel
theorem dX21_init_86 : decode cX21_init 86 = .ok (.iconst 5, 1) := by decide +kernel
theorem dX21_init_87 : decode cX21_init 87 = .ok (.iastore, 1) := by decide +kernel
theorem dX21_init_88 : decode cX21_init 88 = .ok (.dup, 1) := by decide +kernel
theorem dX21_init_89 : decode cX21_init 89 = .ok (.iconst 2, 1) := by decide +kernel
theorem dX21_init_90 : decode cX21_init 90 = .ok (.bipush 9, 2) := by decide +kernel
theorem dX21_init_92 : decode cX21_init 92 = .ok (.iastore, 1) := by decide +kernel
theorem dX21_init_93 : decode cX21_init 93 = .ok (.putfield 37, 3) := by decide +kernel
theorem dX21_init_96 : decode cX21_init 96 = .ok (.aload_n 0, 1) := by decide +kernel
theorem dX21_init_97 : decode cX21_init 97 = .ok (.iconst 2, 1) := by decide +kernel
theorem dX21_init_98 : decode cX21_init 98 = .ok (.putfield 41, 3) := by decide +kernel
theorem dX21_init_101 : decode cX21_init 101 = .ok (.aload_n 0, 1) := by decide +kernel
theorem dX21_init_102 : decode cX21_init 102 = .ok (.ldc 19, 2) := by decide +kernel
theorem dX21_init_104 : decode cX21_init 104 = .ok (.putfield 45, 3) := by decide +kernel
theorem dX21_init_107 : decode cX21_init 107 = .ok (.aload_n 0, 1) := by decide +kernel
theorem dX21_init_108 : decode cX21_init 108 = .ok (.iconst 2, 1) := by decide +kernel
theorem dX21_init_109 : decode cX21_init 109 = .ok (.newarray .int, 2) := by decide +kernel
theorem dX21_init_111 : decode cX21_init 111 = .ok (.putfield 48, 3) := by decide +kernel
theorem dX21_init_114 : decode cX21_init 114 = .ok (.aload_n 0, 1) := by decide +kernel
theorem dX21_init_115 : decode cX21_init 115 = .ok (.iconst 0, 1) := by decide +kernel
theorem dX21_init_116 : decode cX21_init 116 = .ok (.newarray .int, 2) := by decide +kernel
theorem dX21_init_118 : decode cX21_init 118 = .ok (.putfield 51, 3) := by decide +kernel
theorem dX21_init_121 : decode cX21_init 121 = .ok (.return_, 1) := by decide +kernel
theorem dX21_kindOf_0 : decode cX21_kindOf 0 = .ok (.aload_n 0, 1) := by decide +kernel
theorem dX21_kindOf_1 : decode cX21_kindOf 1 = .ok (.iload_n 1, 1) := by decide +kernel
theorem dX21_kindOf_2 : decode cX21_kindOf 2 = .ok (.iload_n 2, 1) := by decide +kernel
theorem dX21_kindOf_3 : decode cX21_kindOf 3 = .ok (.invokevirtual 332, 3) := by decide +kernel
theorem dX21_kindOf_6 : decode cX21_kindOf 6 = .ok (.astore_n 3, 1) := by decide +kernel
theorem dX21_kindOf_7 : decode cX21_kindOf 7 = .ok (.aload_n 3, 1) := by decide +kernel
theorem dX21_kindOf_8 : decode cX21_kindOf 8 = .ok (.ifnonnull 8, 3) := by decide +kernel
theorem dX21_kindOf_11 : decode cX21_kindOf 11 = .ok (.bipush 32, 2) := by decide +kernel
theorem dX21_kindOf_13 : decode cX21_kindOf 13 = .ok (.goto 7, 3) := by decide +kernel
theorem dX21_kindOf_20 : decode cX21_kindOf 20 = .ok (.ireturn, 1) := by decide +kernel
theorem dX21_lose_0 : decode cX21_lose 0 = .ok (.aload_n 0, 1) := by decide +kernel
theorem dX21_lose_1 : decode cX21_lose 1 = .ok (.iload_n 1, 1) := by decide +kernel
theorem dX21_lose_2 : decode cX21_lose 2 = .ok (.iload_n 2, 1) := by decide +kernel
theorem dX21_lose_3 : decode cX21_lose 3 = .ok (.invokevirtual 332, 3) := by decide +kernel
theorem dX21_lose_6 : decode cX21_lose 6 = .ok (.astore_n 3, 1) := by decide +kernel
theorem dX21_lose_7 : decode cX21_lose 7 = .ok (.aload_n 3, 1) := by decide +kernel
theorem dX21_lose_8 : decode cX21_lose 8 = .ok (.ifnonnull 5, 3) := by decide +kernel
theorem dX21_lose_11 : decode cX21_lose 11 = .ok (.iconst 0, 1) := by decide +kernel
theorem dX21_lose_12 : decode cX21_lose 12 = .ok (.ireturn, 1) := by decide +kernel
theorem dX21_packOf_0 : decode cX21_packOf 0 = .ok (.aload_n 0, 1) := by decide +kernel
theorem dX21_packOf_1 : decode cX21_packOf 1 = .ok (.iload_n 1, 1) := by decide +kernel
theorem dX21_packOf_2 : decode cX21_packOf 2 = .ok (.iload_n 3, 1) := by decide +kernel
theorem dX21_packOf_3 : decode cX21_packOf 3 = .ok (.invokevirtual 332, 3) := by decide +kernel
theorem dX21_packOf_6 : decode cX21_packOf 6 = .ok (.ifnonnull 5, 3) := by decide +kernel
theorem dX21_packOf_9 : decode cX21_packOf 9 = .ok (.iconst 0, 1) := by decide +kernel
theorem dX21_packOf_10 : decode cX21_packOf 10 = .ok (.ireturn, 1) := by decide +kernel
theorem dX21_size_0 : decode cX21_size 0 = .ok (.aload_n 0, 1) := by decide +kernel
theorem dX21_size_1 : decode cX21_size 1 = .ok (.iload_n 1, 1) := by decide +kernel
theorem dX21_size_2 : decode cX21_size 2 = .ok (.iload_n 2, 1) := by decide +kernel
theorem dX21_size_3 : decode cX21_size 3 = .ok (.invokevirtual 332, 3) := by decide +kernel
theorem dX21_size_6 : decode cX21_size 6 = .ok (.astore 4, 2) := by decide +kernel
theorem dX21_size_8 : decode cX21_size 8 = .ok (.aload 4, 2) := by decide +kernel
theorem dX21_size_10 : decode cX21_size 10 = .ok (.ifnonnull 5, 3) := by decide +kernel
theorem dX21_size_13 : decode cX21_size 13 = .ok (.iconst 0, 1) := by decide +kernel
theorem dX21_size_14 : decode cX21_size 14 = .ok (.ireturn, 1) := by decide +kernel
theorem dX21_stepAt_0 : decode cX21_stepAt 0 = .ok (.aload_n 0, 1) := by decide +kernel
theorem dX21_stepAt_1 : decode cX21_stepAt 1 = .ok (.iload_n 1, 1) := by decide +kernel
theorem dX21_stepAt_2 : decode cX21_stepAt 2 = .ok (.iload_n 2, 1) := by decide +kernel
theorem dX21_stepAt_3 : decode cX21_stepAt 3 = .ok (.invokevirtual 332, 3) := by decide +kernel
theorem dX21_stepAt_6 : decode cX21_stepAt 6 = .ok (.ifnonnull 7, 3) := by decide +kernel
theorem dX21_stepAt_9 : decode cX21_stepAt 9 = .ok (.iconst 0, 1) := by decide +kernel
theorem dX21_stepAt_10 : decode cX21_stepAt 10 = .ok (.goto 4, 3) := by decide +kernel
theorem dX21_stepAt_14 : decode cX21_stepAt 14 = .ok (.ireturn, 1) := by decide +kernel
theorem dX21_weight_0 : decode cX21_weight 0 = .ok (.aload_n 0, 1) := by decide +kernel
theorem dX21_weight_1 : decode cX21_weight 1 = .ok (.iload_n 1, 1) := by decide +kernel
theorem dX21_weight_2 : decode cX21_weight 2 = .ok (.iload_n 2, 1) := by decide +kernel
theorem dX21_weight_3 : decode cX21_weight 3 = .ok (.invokevirtual 332, 3) := by decide +kernel
theorem dX21_weight_6 : decode cX21_weight 6 = .ok (.astore_n 3, 1) := by decide +kernel
theorem dX21_weight_7 : decode cX21_weight 7 = .ok (.aload_n 3, 1) := by decide +kernel
theorem dX21_weight_8 : decode cX21_weight 8 = .ok (.ifnonnull 7, 3) := by decide +kernel
theorem dX21_weight_11 : decode cX21_weight 11 = .ok (.iconst 0, 1) := by decide +kernel
theorem dX21_weight_12 : decode cX21_weight 12 = .ok (.goto 7, 3) := by decide +kernel
theorem dX21_weight_19 : decode cX21_weight 19 = .ok (.ireturn, 1) := by decide +kernel
theorem dJ0_init_81219_0 : decode cJ0_init_81219 0 = .ok (.aload_n 0, 1) := by decide +kernel
theorem dJ0_init_81219_1 : decode cJ0_init_81219 1 = .ok (.aload_n 1, 1) := by decide +kernel
theorem dJ0_init_81219_2 : decode cJ0_init_81219 2 = .ok (.aconst_null, 1) := by decide +kernel
theorem dJ0_init_81219_3 : decode cJ0_init_81219 3 = .ok (.invokespecial 489, 3) := by decide +kernel
theorem dJ0_init_81219_6 : decode cJ0_init_81219 6 = .ok (.return_, 1) := by decide +kernel
theorem dJ1_inflate_0e8fd_0 : decode cJ1_inflate_0e8fd 0 = .ok (.aload_n 0, 1) := by decide +kernel
theorem dJ1_inflate_0e8fd_1 : decode cJ1_inflate_0e8fd 1 = .ok (.iload_n 1, 1) := by decide +kernel
theorem dJ1_inflate_0e8fd_2 : decode cJ1_inflate_0e8fd 2 = .ok (.aload_n 2, 1) := by decide +kernel
theorem dJ1_inflate_0e8fd_3 : decode cJ1_inflate_0e8fd 3 = .ok (.iload_n 3, 1) := by decide +kernel
theorem dJ1_inflate_0e8fd_4 : decode cJ1_inflate_0e8fd 4 = .ok (.iload 4, 2) := by decide +kernel
theorem dJ1_inflate_0e8fd_6 : decode cJ1_inflate_0e8fd 6 = .ok (.invokestatic 240, 3) := by decide +kernel
theorem dJ1_inflate_0e8fd_9 : decode cJ1_inflate_0e8fd 9 = .ok (.return_, 1) := by decide +kernel
theorem dJx4a65c_grow_d5877_0 : decode cJx4a65c_grow_d5877 0 = .ok (.aload_n 0, 1) := by decide +kernel
theorem dJx4a65c_grow_d5877_1 : decode cJx4a65c_grow_d5877 1 = .ok (.aload_n 0, 1) := by decide +kernel
theorem dJx4a65c_grow_d5877_2 : decode cJx4a65c_grow_d5877 2 = .ok (.getfield 48, 3) := by decide +kernel
theorem dJx4a65c_grow_d5877_5 : decode cJx4a65c_grow_d5877 5 = .ok (.iconst 1, 1) := by decide +kernel
theorem dJx4a65c_grow_d5877_6 : decode cJx4a65c_grow_d5877 6 = .ok (.iadd, 1) := by decide +kernel
theorem dJx4a65c_grow_d5877_7 : decode cJx4a65c_grow_d5877 7 = .ok (.invokevirtual 69, 3) := by decide +kernel
theorem dJx4a65c_grow_d5877_10 : decode cJx4a65c_grow_d5877 10 = .ok (.areturn, 1) := by decide +kernel
theorem dJ4_toString_0e30d_0 : decode cJ4_toString_0e30d 0 = .ok (.new 18, 3) := by decide +kernel
theorem dJ4_toString_0e30d_3 : decode cJ4_toString_0e30d 3 = .ok (.dup, 1) := by decide +kernel
theorem dJ4_toString_0e30d_4 : decode cJ4_toString_0e30d 4 = .ok (.aload_n 0, 1) := by decide +kernel
theorem dJ4_toString_0e30d_5 : decode cJ4_toString_0e30d 5 = .ok (.invokespecial 137, 3) := by decide +kernel
theorem dJ4_toString_0e30d_8 : decode cJ4_toString_0e30d 8 = .ok (.areturn, 1) := by decide +kernel
theorem dJ5_inflate_da8c8_0 : decode cJ5_inflate_da8c8 0 = .ok (.aload_n 0, 1) := by decide +kernel
theorem dJ5_inflate_da8c8_1 : decode cJ5_inflate_da8c8 1 = .ok (.invokevirtual 83, 3) := by decide +kernel
theorem dJ5_inflate_da8c8_4 : decode cJ5_inflate_da8c8 4 = .ok (.ifCond .ne 4, 3) := by decide +kernel
theorem dJ5_inflate_da8c8_8 : decode cJ5_inflate_da8c8 8 = .ok (.aload_n 0, 1) := by decide +kernel
theorem dJ5_inflate_da8c8_9 : decode cJ5_inflate_da8c8 9 = .ok (.getfield 15, 3) := by decide +kernel
theorem dJ5_inflate_da8c8_12 : decode cJ5_inflate_da8c8 12 = .ok (.arraylength, 1) := by decide +kernel
theorem dJ5_inflate_da8c8_13 : decode cJ5_inflate_da8c8 13 = .ok (.invokestatic 26, 3) := by decide +kernel
theorem dJ5_inflate_da8c8_16 : decode cJ5_inflate_da8c8 16 = .ok (.astore_n 1, 1) := by decide +kernel
theorem dJ5_inflate_da8c8_17 : decode cJ5_inflate_da8c8 17 = .ok (.aload_n 0, 1) := by decide +kernel
theorem dJ5_inflate_da8c8_18 : decode cJ5_inflate_da8c8 18 = .ok (.getfield 15, 3) := by decide +kernel
theorem dJ5_inflate_da8c8_21 : decode cJ5_inflate_da8c8 21 = .ok (.iconst 0, 1) := by decide +kernel
theorem dJ5_inflate_da8c8_22 : decode cJ5_inflate_da8c8 22 = .ok (.aload_n 1, 1) := by decide +kernel
theorem dJ5_inflate_da8c8_23 : decode cJ5_inflate_da8c8 23 = .ok (.iconst 0, 1) := by decide +kernel
theorem dJ5_inflate_da8c8_24 : decode cJ5_inflate_da8c8 24 = .ok (.aload_n 0, 1) := by decide +kernel
theorem dJ5_inflate_da8c8_25 : decode cJ5_inflate_da8c8 25 = .ok (.getfield 79, 3) := by decide +kernel
theorem dJ5_inflate_da8c8_28 : decode cJ5_inflate_da8c8 28 = .ok (.invokestatic 125, 3) := by decide +kernel
theorem dJ5_inflate_da8c8_31 : decode cJ5_inflate_da8c8 31 = .ok (.aload_n 0, 1) := by decide +kernel
theorem dJ5_inflate_da8c8_32 : decode cJ5_inflate_da8c8 32 = .ok (.aload_n 1, 1) := by decide +kernel
theorem dJ5_inflate_da8c8_33 : decode cJ5_inflate_da8c8 33 = .ok (.putfield 15, 3) := by decide +kernel
theorem dJ5_inflate_da8c8_36 : decode cJ5_inflate_da8c8 36 = .ok (.aload_n 0, 1) := by decide +kernel
theorem dJ5_inflate_da8c8_37 : decode cJ5_inflate_da8c8 37 = .ok (.iconst 1, 1) := by decide +kernel
theorem dJ5_inflate_da8c8_38 : decode cJ5_inflate_da8c8 38 = .ok (.putfield 22, 3) := by decide +kernel
theorem dJ5_inflate_da8c8_41 : decode cJ5_inflate_da8c8 41 = .ok (.return_, 1) := by decide +kernel
theorem dJx4a65c_add_72be8_0 : decode cJx4a65c_add_72be8 0 = .ok (.iload_n 3, 1) := by decide +kernel
theorem dJx4a65c_add_72be8_1 : decode cJx4a65c_add_72be8 1 = .ok (.aload_n 2, 1) := by decide +kernel
theorem dJx4a65c_add_72be8_2 : decode cJx4a65c_add_72be8 2 = .ok (.arraylength, 1) := by decide +kernel
theorem dJx4a65c_add_72be8_3 : decode cJx4a65c_add_72be8 3 = .ok (.if_icmp .ne 8, 3) := by decide +kernel
theorem dJx4a65c_add_72be8_6 : decode cJx4a65c_add_72be8 6 = .ok (.aload_n 0, 1) := by decide +kernel
theorem dJx4a65c_add_72be8_7 : decode cJx4a65c_add_72be8 7 = .ok (.invokevirtual 129, 3) := by decide +kernel
theorem dJx4a65c_add_72be8_10 : decode cJx4a65c_add_72be8 10 = .ok (.astore_n 2, 1) := by decide +kernel
theorem dJx4a65c_add_72be8_11 : decode cJx4a65c_add_72be8 11 = .ok (.aload_n 2, 1) := by decide +kernel
theorem dJx4a65c_add_72be8_12 : decode cJx4a65c_add_72be8 12 = .ok (.iload_n 3, 1) := by decide +kernel
theorem dJx4a65c_add_72be8_13 : decode cJx4a65c_add_72be8 13 = .ok (.aload_n 1, 1) := by decide +kernel
theorem dJx4a65c_add_72be8_14 : decode cJx4a65c_add_72be8 14 = .ok (.aastore, 1) := by decide +kernel
theorem dJx4a65c_add_72be8_15 : decode cJx4a65c_add_72be8 15 = .ok (.aload_n 0, 1) := by decide +kernel
theorem dJx4a65c_add_72be8_16 : decode cJx4a65c_add_72be8 16 = .ok (.iload_n 3, 1) := by decide +kernel
theorem dJx4a65c_add_72be8_17 : decode cJx4a65c_add_72be8 17 = .ok (.iconst 1, 1) := by decide +kernel
theorem dJx4a65c_add_72be8_18 : decode cJx4a65c_add_72be8 18 = .ok (.iadd, 1) := by decide +kernel
theorem dJx4a65c_add_72be8_19 : decode cJx4a65c_add_72be8 19 = .ok (.putfield 48, 3) := by decide +kernel
theorem dJx4a65c_add_72be8_22 : decode cJx4a65c_add_72be8 22 = .ok (.return_, 1) := by decide +kernel
theorem dJ5_append_3fe6f_0 : decode cJ5_append_3fe6f 0 = .ok (.aload_n 0, 1) := by decide +kernel
theorem dJ5_append_3fe6f_1 : decode cJ5_append_3fe6f 1 = .ok (.aload_n 0, 1) := by decide +kernel
theorem dJ5_append_3fe6f_2 : decode cJ5_append_3fe6f 2 = .ok (.getfield 79, 3) := by decide +kernel
theorem dJ5_append_3fe6f_5 : decode cJ5_append_3fe6f 5 = .ok (.iconst 1, 1) := by decide +kernel
theorem dJ5_append_3fe6f_6 : decode cJ5_append_3fe6f 6 = .ok (.iadd, 1) := by decide +kernel
theorem dJ5_append_3fe6f_7 : decode cJ5_append_3fe6f 7 = .ok (.invokevirtual 100, 3) := by decide +kernel
theorem dJ5_append_3fe6f_10 : decode cJ5_append_3fe6f 10 = .ok (.aload_n 0, 1) := by decide +kernel
theorem dJ5_append_3fe6f_11 : decode cJ5_append_3fe6f 11 = .ok (.invokevirtual 83, 3) := by decide +kernel
theorem dJ5_append_3fe6f_14 : decode cJ5_append_3fe6f 14 = .ok (.ifCond .eq 31, 3) := by decide +kernel
theorem dJ5_append_3fe6f_17 : decode cJ5_append_3fe6f 17 = .ok (.iload_n 1, 1) := by decide +kernel
theorem dJ5_append_3fe6f_18 : decode cJ5_append_3fe6f 18 = .ok (.invokestatic 191, 3) := by decide +kernel
theorem dJ5_append_3fe6f_21 : decode cJ5_append_3fe6f 21 = .ok (.ifCond .eq 24, 3) := by decide +kernel
theorem dJ5_append_3fe6f_24 : decode cJ5_append_3fe6f 24 = .ok (.aload_n 0, 1) := by decide +kernel
theorem dJ5_append_3fe6f_25 : decode cJ5_append_3fe6f 25 = .ok (.getfield 15, 3) := by decide +kernel
theorem dJ5_append_3fe6f_28 : decode cJ5_append_3fe6f 28 = .ok (.aload_n 0, 1) := by decide +kernel
theorem dJ5_append_3fe6f_29 : decode cJ5_append_3fe6f 29 = .ok (.dup, 1) := by decide +kernel
theorem dJ5_append_3fe6f_30 : decode cJ5_append_3fe6f 30 = .ok (.getfield 79, 3) := by decide +kernel
theorem dJ5_append_3fe6f_33 : decode cJ5_append_3fe6f 33 = .ok (.dup_x1, 1) := by decide +kernel
theorem dJ5_append_3fe6f_34 : decode cJ5_append_3fe6f 34 = .ok (.iconst 1, 1) := by decide +kernel
theorem dJ5_append_3fe6f_35 : decode cJ5_append_3fe6f 35 = .ok (.iadd, 1) := by decide +kernel
theorem dJ5_append_3fe6f_36 : decode cJ5_append_3fe6f 36 = .ok (.putfield 79, 3) := by decide +kernel
theorem dJ5_append_3fe6f_39 : decode cJ5_append_3fe6f 39 = .ok (.iload_n 1, 1) := by decide +kernel
theorem dJ5_append_3fe6f_40 : decode cJ5_append_3fe6f 40 = .ok (.i2b, 1) := by decide +kernel
theorem dJ5_append_3fe6f_41 : decode cJ5_append_3fe6f 41 = .ok (.bastore, 1) := by decide +kernel
theorem dJ5_append_3fe6f_42 : decode cJ5_append_3fe6f 42 = .ok (.goto 33, 3) := by decide +kernel
theorem dJ5_append_3fe6f_45 : decode cJ5_append_3fe6f 45 = .ok (.aload_n 0, 1) := by decide +kernel
theorem dJ5_append_3fe6f_46 : decode cJ5_append_3fe6f 46 = .ok (.invokevirtual 83, 3) := by decide +kernel
theorem dJ5_append_3fe6f_49 : decode cJ5_append_3fe6f 49 = .ok (.ifCond .eq 7, 3) := by decide +kernel
theorem dJ5_append_3fe6f_52 : decode cJ5_append_3fe6f 52 = .ok (.aload_n 0, 1) := by decide +kernel
theorem dJ5_append_3fe6f_53 : decode cJ5_append_3fe6f 53 = .ok (.invokevirtual 195, 3) := by decide +kernel
theorem dJ5_append_3fe6f_56 : decode cJ5_append_3fe6f 56 = .ok (.aload_n 0, 1) := by decide +kernel
theorem dJ5_append_3fe6f_57 : decode cJ5_append_3fe6f 57 = .ok (.getfield 15, 3) := by decide +kernel
theorem dJ5_append_3fe6f_60 : decode cJ5_append_3fe6f 60 = .ok (.aload_n 0, 1) := by decide +kernel
theorem dJ5_append_3fe6f_61 : decode cJ5_append_3fe6f 61 = .ok (.dup, 1) := by decide +kernel
theorem dJ5_append_3fe6f_62 : decode cJ5_append_3fe6f 62 = .ok (.getfield 79, 3) := by decide +kernel
theorem dJ5_append_3fe6f_65 : decode cJ5_append_3fe6f 65 = .ok (.dup_x1, 1) := by decide +kernel
theorem dJ5_append_3fe6f_66 : decode cJ5_append_3fe6f 66 = .ok (.iconst 1, 1) := by decide +kernel
theorem dJ5_append_3fe6f_67 : decode cJ5_append_3fe6f 67 = .ok (.iadd, 1) := by decide +kernel
theorem dJ5_append_3fe6f_68 : decode cJ5_append_3fe6f 68 = .ok (.putfield 79, 3) := by decide +kernel
theorem dJ5_append_3fe6f_71 : decode cJ5_append_3fe6f 71 = .ok (.iload_n 1, 1) := by decide +kernel
theorem dJ5_append_3fe6f_72 : decode cJ5_append_3fe6f 72 = .ok (.invokestatic 197, 3) := by decide +kernel
theorem dJ5_append_3fe6f_75 : decode cJ5_append_3fe6f 75 = .ok (.aload_n 0, 1) := by decide +kernel
theorem dJ5_append_3fe6f_76 : decode cJ5_append_3fe6f 76 = .ok (.areturn, 1) := by decide +kernel
theorem dJ5_inflateIfNeededFor_a7421_0 : decode cJ5_inflateIfNeededFor_a7421 0 = .ok (.getstatic 18, 3) := by decide +kernel
theorem dJ5_inflateIfNeededFor_a7421_3 : decode cJ5_inflateIfNeededFor_a7421 3 = .ok (.ifCond .eq 18, 3) := by decide +kernel
theorem dJ5_inflateIfNeededFor_a7421_6 : decode cJ5_inflateIfNeededFor_a7421 6 = .ok (.aload_n 0, 1) := by decide +kernel
theorem dJ5_inflateIfNeededFor_a7421_7 : decode cJ5_inflateIfNeededFor_a7421 7 = .ok (.getfield 22, 3) := by decide +kernel
theorem dJ5_inflateIfNeededFor_a7421_10 : decode cJ5_inflateIfNeededFor_a7421 10 = .ok (.aload_n 1, 1) := by decide +kernel
theorem dJ5_inflateIfNeededFor_a7421_11 : decode cJ5_inflateIfNeededFor_a7421 11 = .ok (.invokevirtual 40, 3) := by decide +kernel
theorem dJ5_inflateIfNeededFor_a7421_14 : decode cJ5_inflateIfNeededFor_a7421 14 = .ok (.if_icmp .eq 7, 3) := by decide +kernel
theorem dJ5_inflateIfNeededFor_a7421_17 : decode cJ5_inflateIfNeededFor_a7421 17 = .ok (.aload_n 0, 1) := by decide +kernel
theorem dJ5_inflateIfNeededFor_a7421_18 : decode cJ5_inflateIfNeededFor_a7421 18 = .ok (.invokevirtual 195, 3) := by decide +kernel
theorem dJ5_inflateIfNeededFor_a7421_21 : decode cJ5_inflateIfNeededFor_a7421 21 = .ok (.return_, 1) := by decide +kernel
theorem dJx4a65c_add_9ea2d_0 : decode cJx4a65c_add_9ea2d 0 = .ok (.aload_n 0, 1) := by decide +kernel
theorem dJx4a65c_add_9ea2d_1 : decode cJx4a65c_add_9ea2d 1 = .ok (.dup, 1) := by decide +kernel
theorem dJx4a65c_add_9ea2d_2 : decode cJx4a65c_add_9ea2d 2 = .ok (.getfield 63, 3) := by decide +kernel
theorem dJx4a65c_add_9ea2d_5 : decode cJx4a65c_add_9ea2d 5 = .ok (.iconst 1, 1) := by decide +kernel
theorem dJx4a65c_add_9ea2d_6 : decode cJx4a65c_add_9ea2d 6 = .ok (.iadd, 1) := by decide +kernel
theorem dJx4a65c_add_9ea2d_7 : decode cJx4a65c_add_9ea2d 7 = .ok (.putfield 63, 3) := by decide +kernel
theorem dJx4a65c_add_9ea2d_10 : decode cJx4a65c_add_9ea2d 10 = .ok (.aload_n 0, 1) := by decide +kernel
theorem dJx4a65c_add_9ea2d_11 : decode cJx4a65c_add_9ea2d 11 = .ok (.aload_n 1, 1) := by decide +kernel
theorem dJx4a65c_add_9ea2d_12 : decode cJx4a65c_add_9ea2d 12 = .ok (.aload_n 0, 1) := by decide +kernel
theorem dJx4a65c_add_9ea2d_13 : decode cJx4a65c_add_9ea2d 13 = .ok (.getfield 9, 3) := by decide +kernel
theorem dJx4a65c_add_9ea2d_16 : decode cJx4a65c_add_9ea2d 16 = .ok (.aload_n 0, 1) := by decide +kernel
theorem dJx4a65c_add_9ea2d_17 : decode cJx4a65c_add_9ea2d 17 = .ok (.getfield 48, 3) := by decide +kernel
theorem dJx4a65c_add_9ea2d_20 : decode cJx4a65c_add_9ea2d 20 = .ok (.invokevirtual 131, 3) := by decide +kernel
theorem dJx4a65c_add_9ea2d_23 : decode cJx4a65c_add_9ea2d 23 = .ok (.iconst 1, 1) := by decide +kernel
theorem dJx4a65c_add_9ea2d_24 : decode cJx4a65c_add_9ea2d 24 = .ok (.ireturn, 1) := by decide +kernel
theorem dJ4_append_cf468_0 : decode cJ4_append_cf468 0 = .ok (.aload_n 0, 1) := by decide +kernel
theorem dJ4_append_cf468_1 : decode cJ4_append_cf468 1 = .ok (.iload_n 1, 1) := by decide +kernel
theorem dJ4_append_cf468_2 : decode cJ4_append_cf468 2 = .ok (.invokespecial 50, 3) := by decide +kernel
theorem dJ4_append_cf468_5 : decode cJ4_append_cf468 5 = .ok (.pop, 1) := by decide +kernel
theorem dJ4_append_cf468_6 : decode cJ4_append_cf468 6 = .ok (.aload_n 0, 1) := by decide +kernel
theorem dJ4_append_cf468_7 : decode cJ4_append_cf468 7 = .ok (.areturn, 1) := by decide +kernel
theorem dJ5_putStringAt_47b60_0 : decode cJ5_putStringAt_47b60 0 = .ok (.aload_n 0, 1) := by decide +kernel
theorem dJ5_putStringAt_47b60_1 : decode cJ5_putStringAt_47b60 1 = .ok (.aload_n 2, 1) := by decide +kernel
theorem dJ5_putStringAt_47b60_2 : decode cJ5_putStringAt_47b60 2 = .ok (.invokevirtual 397, 3) := by decide +kernel
theorem dJ5_putStringAt_47b60_5 : decode cJ5_putStringAt_47b60 5 = .ok (.aload_n 2, 1) := by decide +kernel
theorem dJ5_putStringAt_47b60_6 : decode cJ5_putStringAt_47b60 6 = .ok (.aload_n 0, 1) := by decide +kernel
theorem dJ5_putStringAt_47b60_7 : decode cJ5_putStringAt_47b60 7 = .ok (.getfield 15, 3) := by decide +kernel
theorem dJ5_putStringAt_47b60_10 : decode cJ5_putStringAt_47b60 10 = .ok (.iload_n 1, 1) := by decide +kernel
theorem dJ5_putStringAt_47b60_11 : decode cJ5_putStringAt_47b60 11 = .ok (.aload_n 0, 1) := by decide +kernel
theorem dJ5_putStringAt_47b60_12 : decode cJ5_putStringAt_47b60 12 = .ok (.getfield 22, 3) := by decide +kernel
theorem dJ5_putStringAt_47b60_15 : decode cJ5_putStringAt_47b60 15 = .ok (.invokevirtual 399, 3) := by decide +kernel
theorem dJ5_putStringAt_47b60_18 : decode cJ5_putStringAt_47b60 18 = .ok (.return_, 1) := by decide +kernel
theorem dX21_addBoards_0 : decode cX21_addBoards 0 = .ok (.iload_n 1, 1) := by decide +kernel
theorem dX21_addBoards_1 : decode cX21_addBoards 1 = .ok (.iconst 0, 1) := by decide +kernel
theorem dX21_addBoards_2 : decode cX21_addBoards 2 = .ok (.iconst 2, 1) := by decide +kernel
theorem dX21_addBoards_3 : decode cX21_addBoards 3 = .ok (.invokestatic 65, 3) := by decide +kernel
theorem dX21_addBoards_6 : decode cX21_addBoards 6 = .ok (.ifCond .eq 57, 3) := by decide +kernel
theorem dX21_addBoards_9 : decode cX21_addBoards 9 = .ok (.iload_n 2, 1) := by decide +kernel
theorem dX21_addBoards_10 : decode cX21_addBoards 10 = .ok (.bipush 18, 2) := by decide +kernel
theorem dX21_addBoards_12 : decode cX21_addBoards 12 = .ok (.if_icmp .eq 9, 3) := by decide +kernel
theorem dX21_addBoards_15 : decode cX21_addBoards 15 = .ok (.iload_n 2, 1) := by decide +kernel
theorem dX21_addBoards_16 : decode cX21_addBoards 16 = .ok (.bipush 8, 2) := by decide +kernel
theorem dX21_addBoards_18 : decode cX21_addBoards 18 = .ok (.if_icmp .ne 45, 3) := by decide +kernel
theorem dX21_addBoards_21 : decode cX21_addBoards 21 = .ok (.iload_n 3, 1) := by decide +kernel
theorem dX21_addBoards_22 : decode cX21_addBoards 22 = .ok (.sipush 300, 3) := by decide +kernel
theorem dX21_addBoards_25 : decode cX21_addBoards 25 = .ok (.sipush 2800, 3) := by decide +kernel
theorem dX21_addBoards_28 : decode cX21_addBoards 28 = .ok (.invokestatic 65, 3) := by decide +kernel
theorem dX21_addBoards_31 : decode cX21_addBoards 31 = .ok (.ifCond .eq 32, 3) := by decide +kernel
theorem dX21_addBoards_34 : decode cX21_addBoards 34 = .ok (.iload 4, 2) := by decide +kernel
theorem dX21_addBoards_36 : decode cX21_addBoards 36 = .ok (.sipush 300, 3) := by decide +kernel
theorem dX21_addBoards_39 : decode cX21_addBoards 39 = .ok (.sipush 2100, 3) := by decide +kernel
theorem dX21_addBoards_42 : decode cX21_addBoards 42 = .ok (.invokestatic 65, 3) := by decide +kernel
theorem dX21_addBoards_45 : decode cX21_addBoards 45 = .ok (.ifCond .eq 18, 3) := by decide +kernel
theorem dX21_addBoards_48 : decode cX21_addBoards 48 = .ok (.iload 5, 2) := by decide +kernel
theorem dX21_addBoards_50 : decode cX21_addBoards 50 = .ok (.iconst 1, 1) := by decide +kernel
theorem dX21_addBoards_51 : decode cX21_addBoards 51 = .ok (.bipush 20, 2) := by decide +kernel
theorem dX21_addBoards_53 : decode cX21_addBoards 53 = .ok (.invokestatic 65, 3) := by decide +kernel
theorem dX21_addBoards_56 : decode cX21_addBoards 56 = .ok (.ifCond .eq 7, 3) := by decide +kernel
theorem dX21_addBoards_59 : decode cX21_addBoards 59 = .ok (.iconst 1, 1) := by decide +kernel
theorem dX21_addBoards_60 : decode cX21_addBoards 60 = .ok (.goto 4, 3) := by decide +kernel
theorem dX21_addBoards_63 : decode cX21_addBoards 63 = .ok (.iconst 0, 1) := by decide +kernel
theorem dX21_addBoards_64 : decode cX21_addBoards 64 = .ok (.istore 6, 2) := by decide +kernel
theorem dX21_addBoards_66 : decode cX21_addBoards 66 = .ok (.aload_n 0, 1) := by decide +kernel
theorem dX21_addBoards_67 : decode cX21_addBoards 67 = .ok (.iload 6, 2) := by decide +kernel
theorem dX21_addBoards_69 : decode cX21_addBoards 69 = .ok (.ifCond .ne 7, 3) := by decide +kernel
theorem dX21_addBoards_72 : decode cX21_addBoards 72 = .ok (.iconst 1, 1) := by decide +kernel
theorem dX21_addBoards_73 : decode cX21_addBoards 73 = .ok (.goto 23, 3) := by decide +kernel
theorem dX21_addBoards_76 : decode cX21_addBoards 76 = .ok (.aload_n 0, 1) := by decide +kernel
theorem dX21_addBoards_77 : decode cX21_addBoards 77 = .ok (.getfield 31, 3) := by decide +kernel
theorem dX21_addBoards_80 : decode cX21_addBoards 80 = .ok (.invokevirtual 69, 3) := by decide +kernel
theorem dX21_addBoards_83 : decode cX21_addBoards 83 = .ok (.iload 5, 2) := by decide +kernel
theorem dX21_addBoards_85 : decode cX21_addBoards 85 = .ok (.iadd, 1) := by decide +kernel
theorem dX21_addBoards_86 : decode cX21_addBoards 86 = .ok (.bipush 60, 2) := by decide +kernel
theorem dX21_addBoards_88 : decode cX21_addBoards 88 = .ok (.if_icmp .le 7, 3) := by decide +kernel
theorem dX21_addBoards_95 : decode cX21_addBoards 95 = .ok (.iconst 0, 1) := by decide +kernel
theorem dX21_addBoards_96 : decode cX21_addBoards 96 = .ok (.putfield 54, 3) := by decide +kernel
theorem dX21_addBoards_99 : decode cX21_addBoards 99 = .ok (.aload_n 0, 1) := by decide +kernel
theorem dX21_addBoards_100 : decode cX21_addBoards 100 = .ok (.getfield 54, 3) := by decide +kernel
theorem dX21_addBoards_103 : decode cX21_addBoards 103 = .ok (.ifCond .le 5, 3) := by decide +kernel
theorem dX21_addBoards_106 : decode cX21_addBoards 106 = .ok (.iconst 0, 1) := by decide +kernel
theorem dX21_addBoards_107 : decode cX21_addBoards 107 = .ok (.ireturn, 1) := by decide +kernel
theorem dX21_addBoards_108 : decode cX21_addBoards 108 = .ok (.iconst 0, 1) := by decide +kernel
theorem dX21_addBoards_109 : decode cX21_addBoards 109 = .ok (.istore 7, 2) := by decide +kernel
theorem dX21_addBoards_111 : decode cX21_addBoards 111 = .ok (.iload 7, 2) := by decide +kernel
theorem dX21_addBoards_113 : decode cX21_addBoards 113 = .ok (.iload 5, 2) := by decide +kernel
theorem dX21_addBoards_115 : decode cX21_addBoards 115 = .ok (.if_icmp .ge 48, 3) := by decide +kernel
theorem dX21_addBoards_118 : decode cX21_addBoards 118 = .ok (.new 378, 3) := by decide +kernel
theorem dX21_addBoards_121 : decode cX21_addBoards 121 = .ok (.dup, 1) := by decide +kernel
theorem dX21_addBoards_122 : decode cX21_addBoards 122 = .ok (.iload_n 1, 1) := by decide +kernel
theorem dX21_addBoards_123 : decode cX21_addBoards 123 = .ok (.iload_n 2, 1) := by decide +kernel
theorem dX21_addBoards_124 : decode cX21_addBoards 124 = .ok (.iload_n 3, 1) := by decide +kernel
theorem dX21_addBoards_125 : decode cX21_addBoards 125 = .ok (.iload 4, 2) := by decide +kernel
theorem dX21_addBoards_127 : decode cX21_addBoards 127 = .ok (.iconst 0, 1) := by decide +kernel
theorem dX21_addBoards_128 : decode cX21_addBoards 128 = .ok (.invokespecial 380, 3) := by decide +kernel
theorem dX21_addBoards_131 : decode cX21_addBoards 131 = .ok (.astore 8, 2) := by decide +kernel
theorem dX21_addBoards_133 : decode cX21_addBoards 133 = .ok (.aload_n 0, 1) := by decide +kernel
theorem dX21_addBoards_134 : decode cX21_addBoards 134 = .ok (.getfield 31, 3) := by decide +kernel
theorem dX21_addBoards_137 : decode cX21_addBoards 137 = .ok (.aload 8, 2) := by decide +kernel
theorem dX21_addBoards_139 : decode cX21_addBoards 139 = .ok (.invokevirtual 82, 3) := by decide +kernel
theorem dX21_addBoards_142 : decode cX21_addBoards 142 = .ok (.pop, 1) := by decide +kernel
theorem dX21_addBoards_143 : decode cX21_addBoards 143 = .ok (.aload_n 0, 1) := by decide +kernel
theorem dX21_addBoards_144 : decode cX21_addBoards 144 = .ok (.dup, 1) := by decide +kernel
theorem dX21_addBoards_145 : decode cX21_addBoards 145 = .ok (.getfield 383, 3) := by decide +kernel
theorem dX21_addBoards_148 : decode cX21_addBoards 148 = .ok (.aload 8, 2) := by decide +kernel
theorem dX21_addBoards_150 : decode cX21_addBoards 150 = .ok (.invokevirtual 386, 3) := by decide +kernel
theorem dX21_addBoards_153 : decode cX21_addBoards 153 = .ok (.ladd, 1) := by decide +kernel
theorem dX21_addBoards_154 : decode cX21_addBoards 154 = .ok (.putfield 383, 3) := by decide +kernel
theorem dX21_addBoards_157 : decode cX21_addBoards 157 = .ok (.iinc 7 1, 3) := by decide +kernel
theorem dX21_addBoards_160 : decode cX21_addBoards 160 = .ok (.goto (-49), 3) := by decide +kernel
theorem dX21_addBoards_163 : decode cX21_addBoards 163 = .ok (.aload_n 0, 1) := by decide +kernel
theorem dX21_addBoards_164 : decode cX21_addBoards 164 = .ok (.getfield 31, 3) := by decide +kernel
theorem dX21_addBoards_167 : decode cX21_addBoards 167 = .ok (.invokevirtual 69, 3) := by decide +kernel
theorem dX21_addBoards_170 : decode cX21_addBoards 170 = .ok (.ireturn, 1) := by decide +kernel
theorem dX21_addWall_0 : decode cX21_addWall 0 = .ok (.aload_n 0, 1) := by decide +kernel
theorem dX21_addWall_1 : decode cX21_addWall 1 = .ok (.ldc 57, 2) := by decide +kernel
theorem dX21_addWall_3 : decode cX21_addWall 3 = .ok (.iload_n 1, 1) := by decide +kernel
theorem dX21_addWall_4 : decode cX21_addWall 4 = .ok (.invokevirtual 59, 3) := by decide +kernel
theorem dX21_addWall_7 : decode cX21_addWall 7 = .ok (.ifCond .lt 16, 3) := by decide +kernel
theorem dX21_addWall_10 : decode cX21_addWall 10 = .ok (.iload_n 2, 1) := by decide +kernel
theorem dX21_addWall_11 : decode cX21_addWall 11 = .ok (.sipush 500, 3) := by decide +kernel
theorem dX21_addWall_14 : decode cX21_addWall 14 = .ok (.sipush 9999, 3) := by decide +kernel
theorem dX21_addWall_17 : decode cX21_addWall 17 = .ok (.invokestatic 65, 3) := by decide +kernel
theorem dX21_addWall_20 : decode cX21_addWall 20 = .ok (.ifCond .ne 7, 3) := by decide +kernel
theorem dX21_addWall_23 : decode cX21_addWall 23 = .ok (.iconst 1, 1) := by decide +kernel
theorem dX21_addWall_24 : decode cX21_addWall 24 = .ok (.goto 30, 3) := by decide +kernel
theorem dX21_addWall_27 : decode cX21_addWall 27 = .ok (.aload_n 0, 1) := by decide +kernel
theorem dX21_addWall_28 : decode cX21_addWall 28 = .ok (.getfield 10, 3) := by decide +kernel
theorem dX21_addWall_31 : decode cX21_addWall 31 = .ok (.invokevirtual 69, 3) := by decide +kernel
theorem dX21_addWall_34 : decode cX21_addWall 34 = .ok (.bipush 6, 2) := by decide +kernel
theorem dX21_addWall_36 : decode cX21_addWall 36 = .ok (.if_icmp .eq 13, 3) := by decide +kernel
theorem dX21_addWall_39 : decode cX21_addWall 39 = .ok (.aload_n 0, 1) := by decide +kernel
theorem dX21_addWall_40 : decode cX21_addWall 40 = .ok (.getfield 28, 3) := by decide +kernel
theorem dX21_addWall_43 : decode cX21_addWall 43 = .ok (.invokevirtual 73, 3) := by decide +kernel
theorem dX21_addWall_46 : decode cX21_addWall 46 = .ok (.ifCond .ne 7, 3) := by decide +kernel
theorem dX21_addWall_53 : decode cX21_addWall 53 = .ok (.iconst 0, 1) := by decide +kernel
theorem dX21_addWall_54 : decode cX21_addWall 54 = .ok (.putfield 54, 3) := by decide +kernel
theorem dX21_addWall_57 : decode cX21_addWall 57 = .ok (.aload_n 0, 1) := by decide +kernel
theorem dX21_addWall_58 : decode cX21_addWall 58 = .ok (.getfield 54, 3) := by decide +kernel
theorem dX21_addWall_61 : decode cX21_addWall 61 = .ok (.ifCond .le 5, 3) := by decide +kernel
theorem dX21_addWall_64 : decode cX21_addWall 64 = .ok (.iconst 0, 1) := by decide +kernel
theorem dX21_addWall_65 : decode cX21_addWall 65 = .ok (.ireturn, 1) := by decide +kernel
theorem dX21_addWall_66 : decode cX21_addWall 66 = .ok (.aload_n 0, 1) := by decide +kernel
theorem dX21_addWall_67 : decode cX21_addWall 67 = .ok (.getfield 10, 3) := by decide +kernel
theorem dX21_addWall_70 : decode cX21_addWall 70 = .ok (.new 77, 3) := by decide +kernel
theorem dX21_addWall_73 : decode cX21_addWall 73 = .ok (.dup, 1) := by decide +kernel
theorem dX21_addWall_74 : decode cX21_addWall 74 = .ok (.iload_n 1, 1) := by decide +kernel
theorem dX21_addWall_75 : decode cX21_addWall 75 = .ok (.iload_n 2, 1) := by decide +kernel
theorem dX21_addWall_76 : decode cX21_addWall 76 = .ok (.invokespecial 79, 3) := by decide +kernel
theorem dX21_addWall_79 : decode cX21_addWall 79 = .ok (.invokevirtual 82, 3) := by decide +kernel
theorem dX21_addWall_82 : decode cX21_addWall 82 = .ok (.pop, 1) := by decide +kernel
theorem dX21_addWall_83 : decode cX21_addWall 83 = .ok (.aload_n 0, 1) := by decide +kernel
theorem dX21_addWall_84 : decode cX21_addWall 84 = .ok (.getfield 10, 3) := by decide +kernel
theorem dX21_addWall_87 : decode cX21_addWall 87 = .ok (.invokevirtual 69, 3) := by decide +kernel
theorem dX21_addWall_90 : decode cX21_addWall 90 = .ok (.iconst 1, 1) := by decide +kernel
theorem dX21_addWall_91 : decode cX21_addWall 91 = .ok (.isub, 1) := by decide +kernel
theorem dX21_addWall_92 : decode cX21_addWall 92 = .ok (.ireturn, 1) := by decide +kernel
theorem dX21_job_0 : decode cX21_job 0 = .ok (.aload_n 0, 1) := by decide +kernel
theorem dX21_job_1 : decode cX21_job 1 = .ok (.iload_n 1, 1) := by decide +kernel
theorem dX21_job_2 : decode cX21_job 2 = .ok (.iconst 0, 1) := by decide +kernel
theorem dX21_job_3 : decode cX21_job 3 = .ok (.iconst 2, 1) := by decide +kernel
theorem dX21_job_4 : decode cX21_job 4 = .ok (.invokestatic 65, 3) := by decide +kernel
theorem dX21_job_7 : decode cX21_job 7 = .ok (.ifCond .eq 24, 3) := by decide +kernel
theorem dX21_job_10 : decode cX21_job 10 = .ok (.iload_n 2, 1) := by decide +kernel
theorem dX21_job_11 : decode cX21_job 11 = .ok (.iconst 1, 1) := by decide +kernel
theorem dX21_job_12 : decode cX21_job 12 = .ok (.bipush 99, 2) := by decide +kernel
theorem dX21_job_14 : decode cX21_job 14 = .ok (.invokestatic 65, 3) := by decide +kernel
theorem dX21_job_17 : decode cX21_job 17 = .ok (.ifCond .eq 14, 3) := by decide +kernel
theorem dX21_job_20 : decode cX21_job 20 = .ok (.iload_n 3, 1) := by decide +kernel
theorem dX21_job_21 : decode cX21_job 21 = .ok (.iconst 0, 1) := by decide +kernel
theorem dX21_job_22 : decode cX21_job 22 = .ok (.sipush 999, 3) := by decide +kernel
theorem dX21_job_25 : decode cX21_job 25 = .ok (.invokestatic 65, 3) := by decide +kernel
theorem dX21_job_28 : decode cX21_job 28 = .ok (.ifCond .ne 7, 3) := by decide +kernel
theorem dX21_job_31 : decode cX21_job 31 = .ok (.iconst 1, 1) := by decide +kernel
theorem dX21_job_32 : decode cX21_job 32 = .ok (.goto 20, 3) := by decide +kernel
theorem dX21_job_35 : decode cX21_job 35 = .ok (.aload_n 0, 1) := by decide +kernel
theorem dX21_job_36 : decode cX21_job 36 = .ok (.getfield 34, 3) := by decide +kernel
theorem dX21_job_39 : decode cX21_job 39 = .ok (.invokevirtual 69, 3) := by decide +kernel
theorem dX21_job_42 : decode cX21_job 42 = .ok (.bipush 6, 2) := by decide +kernel
theorem dX21_job_44 : decode cX21_job 44 = .ok (.if_icmp .ne 7, 3) := by decide +kernel
theorem dX21_job_51 : decode cX21_job 51 = .ok (.iconst 0, 1) := by decide +kernel
theorem dX21_job_52 : decode cX21_job 52 = .ok (.putfield 54, 3) := by decide +kernel
theorem dX21_job_55 : decode cX21_job 55 = .ok (.aload_n 0, 1) := by decide +kernel
theorem dX21_job_56 : decode cX21_job 56 = .ok (.getfield 54, 3) := by decide +kernel
theorem dX21_job_59 : decode cX21_job 59 = .ok (.ifCond .le 5, 3) := by decide +kernel
theorem dX21_job_62 : decode cX21_job 62 = .ok (.iconst 0, 1) := by decide +kernel
theorem dX21_job_63 : decode cX21_job 63 = .ok (.ireturn, 1) := by decide +kernel
theorem dX21_job_64 : decode cX21_job 64 = .ok (.aload_n 0, 1) := by decide +kernel
theorem dX21_job_65 : decode cX21_job 65 = .ok (.getfield 34, 3) := by decide +kernel
theorem dX21_job_68 : decode cX21_job 68 = .ok (.new 455, 3) := by decide +kernel
theorem dX21_job_71 : decode cX21_job 71 = .ok (.dup, 1) := by decide +kernel
theorem dX21_job_72 : decode cX21_job 72 = .ok (.iload_n 1, 1) := by decide +kernel
theorem dX21_job_73 : decode cX21_job 73 = .ok (.iload_n 2, 1) := by decide +kernel
theorem dX21_job_74 : decode cX21_job 74 = .ok (.iload_n 3, 1) := by decide +kernel
theorem dX21_job_75 : decode cX21_job 75 = .ok (.invokespecial 457, 3) := by decide +kernel
theorem dX21_job_78 : decode cX21_job 78 = .ok (.invokevirtual 82, 3) := by decide +kernel
theorem dX21_job_81 : decode cX21_job 81 = .ok (.pop, 1) := by decide +kernel
theorem dX21_job_82 : decode cX21_job 82 = .ok (.aload_n 0, 1) := by decide +kernel
theorem dX21_job_83 : decode cX21_job 83 = .ok (.getfield 34, 3) := by decide +kernel
theorem dX21_job_86 : decode cX21_job 86 = .ok (.invokevirtual 69, 3) := by decide +kernel
theorem dX21_job_89 : decode cX21_job 89 = .ok (.iconst 1, 1) := by decide +kernel
theorem dX21_job_90 : decode cX21_job 90 = .ok (.isub, 1) := by decide +kernel
theorem dX21_job_91 : decode cX21_job 91 = .ok (.ireturn, 1) := by decide +kernel
theorem dJ5_append_cf1ce_0 : decode cJ5_append_cf1ce 0 = .ok (.aload_n 1, 1) := by decide +kernel
theorem dJ5_append_cf1ce_1 : decode cJ5_append_cf1ce 1 = .ok (.ifnonnull 8, 3) := by decide +kernel
theorem dJ5_append_cf1ce_9 : decode cJ5_append_cf1ce 9 = .ok (.aload_n 1, 1) := by decide +kernel
theorem dJ5_append_cf1ce_10 : decode cJ5_append_cf1ce 10 = .ok (.invokevirtual 32, 3) := by decide +kernel
theorem dJ5_append_cf1ce_13 : decode cJ5_append_cf1ce 13 = .ok (.istore_n 2, 1) := by decide +kernel
theorem dJ5_append_cf1ce_14 : decode cJ5_append_cf1ce 14 = .ok (.aload_n 0, 1) := by decide +kernel
theorem dJ5_append_cf1ce_15 : decode cJ5_append_cf1ce 15 = .ok (.aload_n 0, 1) := by decide +kernel
theorem dJ5_append_cf1ce_16 : decode cJ5_append_cf1ce 16 = .ok (.getfield 79, 3) := by decide +kernel
theorem dJ5_append_cf1ce_19 : decode cJ5_append_cf1ce 19 = .ok (.iload_n 2, 1) := by decide +kernel
theorem dJ5_append_cf1ce_20 : decode cJ5_append_cf1ce 20 = .ok (.iadd, 1) := by decide +kernel
theorem dJ5_append_cf1ce_21 : decode cJ5_append_cf1ce 21 = .ok (.invokevirtual 100, 3) := by decide +kernel
theorem dJ5_append_cf1ce_24 : decode cJ5_append_cf1ce 24 = .ok (.aload_n 0, 1) := by decide +kernel
theorem dJ5_append_cf1ce_25 : decode cJ5_append_cf1ce 25 = .ok (.aload_n 0, 1) := by decide +kernel
theorem dJ5_append_cf1ce_26 : decode cJ5_append_cf1ce 26 = .ok (.getfield 79, 3) := by decide +kernel
theorem dJ5_append_cf1ce_29 : decode cJ5_append_cf1ce 29 = .ok (.aload_n 1, 1) := by decide +kernel
theorem dJ5_append_cf1ce_30 : decode cJ5_append_cf1ce 30 = .ok (.invokevirtual 208, 3) := by decide +kernel
theorem dJ5_append_cf1ce_33 : decode cJ5_append_cf1ce 33 = .ok (.aload_n 0, 1) := by decide +kernel
theorem dJ5_append_cf1ce_34 : decode cJ5_append_cf1ce 34 = .ok (.dup, 1) := by decide +kernel
theorem dJ5_append_cf1ce_35 : decode cJ5_append_cf1ce 35 = .ok (.getfield 79, 3) := by decide +kernel
theorem dJ5_append_cf1ce_38 : decode cJ5_append_cf1ce 38 = .ok (.iload_n 2, 1) := by decide +kernel
theorem dJ5_append_cf1ce_39 : decode cJ5_append_cf1ce 39 = .ok (.iadd, 1) := by decide +kernel
theorem dJ5_append_cf1ce_40 : decode cJ5_append_cf1ce 40 = .ok (.putfield 79, 3) := by decide +kernel
theorem dJ5_append_cf1ce_43 : decode cJ5_append_cf1ce 43 = .ok (.aload_n 0, 1) := by decide +kernel
theorem dJ5_append_cf1ce_44 : decode cJ5_append_cf1ce 44 = .ok (.areturn, 1) := by decide +kernel
theorem dJ4_append_15ec4_0 : decode cJ4_append_15ec4 0 = .ok (.aload_n 0, 1) := by decide +kernel
theorem dJ4_append_15ec4_1 : decode cJ4_append_15ec4 1 = .ok (.aload_n 1, 1) := by decide +kernel
theorem dJ4_append_15ec4_2 : decode cJ4_append_15ec4 2 = .ok (.invokespecial 29, 3) := by decide +kernel
theorem dJ4_append_15ec4_5 : decode cJ4_append_15ec4 5 = .ok (.pop, 1) := by decide +kernel
theorem dJ4_append_15ec4_6 : decode cJ4_append_15ec4 6 = .ok (.aload_n 0, 1) := by decide +kernel
theorem dJ4_append_15ec4_7 : decode cJ4_append_15ec4 7 = .ok (.areturn, 1) := by decide +kernel
theorem dX21_type_0 : decode cX21_type 0 = .ok (.aload_n 0, 1) := by decide +kernel
theorem dX21_type_1 : decode cX21_type 1 = .ok (.aload_n 0, 1) := by decide +kernel
theorem dX21_type_2 : decode cX21_type 2 = .ok (.getfield 21, 3) := by decide +kernel
theorem dX21_type_5 : decode cX21_type 5 = .ok (.invokevirtual 154, 3) := by decide +kernel
theorem dX21_type_8 : decode cX21_type 8 = .ok (.bipush 30, 2) := by decide +kernel
theorem dX21_type_10 : decode cX21_type 10 = .ok (.if_icmp .ne 7, 3) := by decide +kernel
theorem dX21_type_17 : decode cX21_type 17 = .ok (.iconst 0, 1) := by decide +kernel
theorem dX21_type_18 : decode cX21_type 18 = .ok (.putfield 54, 3) := by decide +kernel
theorem dX21_type_21 : decode cX21_type 21 = .ok (.new 156, 3) := by decide +kernel
theorem dX21_type_24 : decode cX21_type 24 = .ok (.dup, 1) := by decide +kernel
theorem dX21_type_25 : decode cX21_type 25 = .ok (.invokespecial 158, 3) := by decide +kernel
theorem dX21_type_28 : decode cX21_type 28 = .ok (.aload_n 0, 1) := by decide +kernel
theorem dX21_type_29 : decode cX21_type 29 = .ok (.dup_x1, 1) := by decide +kernel
theorem dX21_type_30 : decode cX21_type 30 = .ok (.getfield 21, 3) := by decide +kernel
theorem dX21_type_33 : decode cX21_type 33 = .ok (.invokevirtual 159, 3) := by decide +kernel
theorem dX21_type_36 : decode cX21_type 36 = .ok (.aload_n 0, 1) := by decide +kernel
theorem dX21_type_37 : decode cX21_type 37 = .ok (.getfield 54, 3) := by decide +kernel
theorem dX21_type_40 : decode cX21_type 40 = .ok (.ifCond .le 8, 3) := by decide +kernel
theorem dX21_type_48 : decode cX21_type 48 = .ok (.new 156, 3) := by decide +kernel
theorem dX21_type_51 : decode cX21_type 51 = .ok (.dup, 1) := by decide +kernel
theorem dX21_type_52 : decode cX21_type 52 = .ok (.invokespecial 158, 3) := by decide +kernel
theorem dX21_type_55 : decode cX21_type 55 = .ok (.ldc 19, 2) := by decide +kernel
theorem dX21_type_57 : decode cX21_type 57 = .ok (.invokevirtual 159, 3) := by decide +kernel
theorem dX21_type_60 : decode cX21_type 60 = .ok (.iload_n 1, 1) := by decide +kernel
theorem dX21_type_61 : decode cX21_type 61 = .ok (.invokevirtual 163, 3) := by decide +kernel
theorem dX21_type_64 : decode cX21_type 64 = .ok (.invokevirtual 166, 3) := by decide +kernel
theorem dX21_type_67 : decode cX21_type 67 = .ok (.invokevirtual 159, 3) := by decide +kernel
theorem dX21_type_70 : decode cX21_type 70 = .ok (.invokevirtual 166, 3) := by decide +kernel
theorem dX21_type_73 : decode cX21_type 73 = .ok (.putfield 21, 3) := by decide +kernel
theorem dX21_type_76 : decode cX21_type 76 = .ok (.aload_n 0, 1) := by decide +kernel
theorem dX21_type_77 : decode cX21_type 77 = .ok (.getfield 54, 3) := by decide +kernel
theorem dX21_type_80 : decode cX21_type 80 = .ok (.ifCond .le 7, 3) := by decide +kernel
theorem dX21_type_87 : decode cX21_type 87 = .ok (.aload_n 0, 1) := by decide +kernel
theorem dX21_type_88 : decode cX21_type 88 = .ok (.getfield 21, 3) := by decide +kernel
theorem dX21_type_91 : decode cX21_type 91 = .ok (.invokevirtual 154, 3) := by decide +kernel
theorem dX21_type_94 : decode cX21_type 94 = .ok (.ireturn, 1) := by decide +kernel
