theorem dX8_init_1 : decode cX8_init 1 = .ok (.invokespecial 1, 3) := by decide +kernel
theorem dX8_init_4 : decode cX8_init 4 = .ok (.aload_n 0, 1) := by decide +kernel
theorem dX8_init_5 : decode cX8_init 5 = .ok (.bipush 60, 2) := by decide +kernel
theorem dX8_init_7 : decode cX8_init 7 = .ok (.anewarray 9, 3) := by decide +kernel
theorem dX8_init_10 : decode cX8_init 10 = .ok (.putfield 11, 3) := by decide +kernel
theorem dX8_init_13 : decode cX8_init 13 = .ok (.iconst 0, 1) := by decide +kernel
theorem dX8_init_14 : decode cX8_init 14 = .ok (.istore_n 1, 1) := by decide +kernel
theorem dX8_init_15 : decode cX8_init 15 = .ok (.iload_n 1, 1) := by decide +kernel
theorem dX8_init_16 : decode cX8_init 16 = .ok (.bipush 60, 2) := by decide +kernel
theorem dX8_init_18 : decode cX8_init 18 = .ok (.if_icmp .ge 22, 3) := by decide +kernel
theorem dX8_init_21 : decode cX8_init 21 = .ok (.aload_n 0, 1) := by decide +kernel
theorem dX8_init_22 : decode cX8_init 22 = .ok (.getfield 11, 3) := by decide +kernel
theorem dX8_init_25 : decode cX8_init 25 = .ok (.iload_n 1, 1) := by decide +kernel
theorem dX8_init_26 : decode cX8_init 26 = .ok (.new 9, 3) := by decide +kernel
theorem dX8_init_29 : decode cX8_init 29 = .ok (.dup, 1) := by decide +kernel
theorem dX8_init_30 : decode cX8_init 30 = .ok (.invokespecial 15, 3) := by decide +kernel
theorem dX8_init_33 : decode cX8_init 33 = .ok (.aastore, 1) := by decide +kernel
theorem dX8_init_34 : decode cX8_init 34 = .ok (.iinc 1 1, 3) := by decide +kernel
theorem dX8_init_37 : decode cX8_init 37 = .ok (.goto (-22), 3) := by decide +kernel
theorem dX8_init_40 : decode cX8_init 40 = .ok (.return_, 1) := by decide +kernel
theorem dX9_init_0 : decode cX9_init 0 = .ok (.aload_n 0, 1) := by decide +kernel
theorem dX9_init_1 : decode cX9_init 1 = .ok (.invokespecial 1, 3) := by decide +kernel
theorem dX9_init_4 : decode cX9_init 4 = .ok (.aload_n 0, 1) := by decide +kernel
theorem dX9_init_5 : decode cX9_init 5 = .ok (.bipush 30, 2) := by decide +kernel
theorem dX9_init_7 : decode cX9_init 7 = .ok (.newarray .char, 2) := by decide +kernel
theorem dX9_init_9 : decode cX9_init 9 = .ok (.putfield 9, 3) := by decide +kernel
theorem dX9_init_12 : decode cX9_init 12 = .ok (.aload_n 0, 1) := by decide +kernel
theorem dX9_init_13 : decode cX9_init 13 = .ok (.bipush 8, 2) := by decide +kernel
theorem dX9_init_15 : decode cX9_init 15 = .ok (.anewarray 13, 3) := by decide +kernel
theorem dX9_init_18 : decode cX9_init 18 = .ok (.putfield 15, 3) := by decide +kernel
theorem dX9_init_21 : decode cX9_init 21 = .ok (.aload_n 0, 1) := by decide +kernel
theorem dX9_init_22 : decode cX9_init 22 = .ok (.new 13, 3) := by decide +kernel
theorem dX9_init_25 : decode cX9_init 25 = .ok (.dup, 1) := by decide +kernel
theorem dX9_init_26 : decode cX9_init 26 = .ok (.invokespecial 19, 3) := by decide +kernel
theorem dX9_init_29 : decode cX9_init 29 = .ok (.putfield 20, 3) := by decide +kernel
theorem dX9_init_32 : decode cX9_init 32 = .ok (.iconst 0, 1) := by decide +kernel
theorem dX9_init_33 : decode cX9_init 33 = .ok (.istore_n 1, 1) := by decide +kernel
theorem dX9_init_34 : decode cX9_init 34 = .ok (.iload_n 1, 1) := by decide +kernel
theorem dX9_init_35 : decode cX9_init 35 = .ok (.bipush 8, 2) := by decide +kernel
theorem dX9_init_37 : decode cX9_init 37 = .ok (.if_icmp .ge 22, 3) := by decide +kernel
theorem dX9_init_40 : decode cX9_init 40 = .ok (.aload_n 0, 1) := by decide +kernel
theorem dX9_init_41 : decode cX9_init 41 = .ok (.getfield 15, 3) := by decide +kernel
theorem dX9_init_44 : decode cX9_init 44 = .ok (.iload_n 1, 1) := by decide +kernel
theorem dX9_init_45 : decode cX9_init 45 = .ok (.new 13, 3) := by decide +kernel
theorem dX9_init_48 : decode cX9_init 48 = .ok (.dup, 1) := by decide +kernel
theorem dX9_init_49 : decode cX9_init 49 = .ok (.invokespecial 19, 3) := by decide +kernel
theorem dX9_init_52 : decode cX9_init 52 = .ok (.aastore, 1) := by decide +kernel
theorem dX9_init_53 : decode cX9_init 53 = .ok (.iinc 1 1, 3) := by decide +kernel
theorem dX9_init_56 : decode cX9_init 56 = .ok (.goto (-22), 3) := by decide +kernel
theorem dX9_init_59 : decode cX9_init 59 = .ok (.return_, 1) := by decide +kernel
theorem dJ0_indexOf_7cf53_0 : decode cJ0_indexOf_7cf53 0 = .ok (.aload_n 0, 1) := by decide +kernel
theorem dJ0_indexOf_7cf53_1 : decode cJ0_indexOf_7cf53 1 = .ok (.invokevirtual 492, 3) := by decide +kernel
theorem dJ0_indexOf_7cf53_4 : decode cJ0_indexOf_7cf53 4 = .ok (.ifCond .eq 19, 3) := by decide +kernel
theorem dJ0_indexOf_7cf53_7 : decode cJ0_indexOf_7cf53 7 = .ok (.aload_n 0, 1) := by decide +kernel
theorem dJ0_indexOf_7cf53_8 : decode cJ0_indexOf_7cf53 8 = .ok (.getfield 9, 3) := by decide +kernel
theorem dJ0_indexOf_7cf53_11 : decode cJ0_indexOf_7cf53 11 = .ok (.iload_n 1, 1) := by decide +kernel
theorem dJ0_indexOf_7cf53_12 : decode cJ0_indexOf_7cf53 12 = .ok (.iload_n 2, 1) := by decide +kernel
theorem dJ0_indexOf_7cf53_13 : decode cJ0_indexOf_7cf53 13 = .ok (.aload_n 0, 1) := by decide +kernel
theorem dJ0_indexOf_7cf53_14 : decode cJ0_indexOf_7cf53 14 = .ok (.invokevirtual 505, 3) := by decide +kernel
theorem dJ0_indexOf_7cf53_17 : decode cJ0_indexOf_7cf53 17 = .ok (.invokestatic 637, 3) := by decide +kernel
theorem dJ0_indexOf_7cf53_20 : decode cJ0_indexOf_7cf53 20 = .ok (.goto 16, 3) := by decide +kernel
theorem dJ0_indexOf_7cf53_36 : decode cJ0_indexOf_7cf53 36 = .ok (.ireturn, 1) := by decide +kernel
theorem dJx4a65c_add_72be8_0 : decode cJx4a65c_add_72be8 0 = .ok (.iload_n 3, 1) := by decide +kernel
theorem dJx4a65c_add_72be8_1 : decode cJx4a65c_add_72be8 1 = .ok (.aload_n 2, 1) := by decide +kernel
theorem dJx4a65c_add_72be8_2 : decode cJx4a65c_add_72be8 2 = .ok (.arraylength, 1) := by decide +kernel
theorem dJx4a65c_add_72be8_3 : decode cJx4a65c_add_72be8 3 = .ok (.if_icmp .ne 8, 3) := by decide +kernel
theorem dJx4a65c_add_72be8_6 : decode cJx4a65c_add_72be8 6 = .ok (.aload_n 0, 1) := by decide +kernel
theorem dJx4a65c_add_72be8_7 : decode cJx4a65c_add_72be8 7 = .ok (.invokevirtual 129, 3) := by decide +kernel
theorem dJx4a65c_add_72be8_10 : decode cJx4a65c_add_72be8 10 = .ok (.astore_n 2, 1) := by decide +kernel
theorem dJx4a65c_add_72be8_11 : decode cJx4a65c_add_72be8 11 = .ok (.aload_n 2, 1) := by decide +kernel
theorem dJx4a65c_add_72be8_12 : decode cJx4a65c_add_72be8 12 = .ok (.iload_n 3, 1) := by decide +kernel
theorem dJx4a65c_add_72be8_13 : decode cJx4a65c_add_72be8 13 = .ok (.aload_n 1, 1) := by decide +kernel
theorem dJx4a65c_add_72be8_14 : decode cJx4a65c_add_72be8 14 = .ok (.aastore, 1) := by decide +kernel
theorem dJx4a65c_add_72be8_15 : decode cJx4a65c_add_72be8 15 = .ok (.aload_n 0, 1) := by decide +kernel
theorem dJx4a65c_add_72be8_16 : decode cJx4a65c_add_72be8 16 = .ok (.iload_n 3, 1) := by decide +kernel
theorem dJx4a65c_add_72be8_17 : decode cJx4a65c_add_72be8 17 = .ok (.iconst 1, 1) := by decide +kernel
theorem dJx4a65c_add_72be8_18 : decode cJx4a65c_add_72be8 18 = .ok (.iadd, 1) := by decide +kernel
theorem dJx4a65c_add_72be8_19 : decode cJx4a65c_add_72be8 19 = .ok (.putfield 48, 3) := by decide +kernel
theorem dJx4a65c_add_72be8_22 : decode cJx4a65c_add_72be8 22 = .ok (.return_, 1) := by decide +kernel
theorem dJx4a65c_get_915e3_0 : decode cJx4a65c_get_915e3 0 = .ok (.iload_n 1, 1) := by decide +kernel
theorem dJx4a65c_get_915e3_1 : decode cJx4a65c_get_915e3 1 = .ok (.aload_n 0, 1) := by decide +kernel
theorem dJx4a65c_get_915e3_2 : decode cJx4a65c_get_915e3 2 = .ok (.getfield 48, 3) := by decide +kernel
theorem dJx4a65c_get_915e3_5 : decode cJx4a65c_get_915e3 5 = .ok (.invokestatic 118, 3) := by decide +kernel
theorem dJx4a65c_get_915e3_8 : decode cJx4a65c_get_915e3 8 = .ok (.pop, 1) := by decide +kernel
theorem dJx4a65c_get_915e3_9 : decode cJx4a65c_get_915e3 9 = .ok (.aload_n 0, 1) := by decide +kernel
theorem dJx4a65c_get_915e3_10 : decode cJx4a65c_get_915e3 10 = .ok (.iload_n 1, 1) := by decide +kernel
theorem dJx4a65c_get_915e3_11 : decode cJx4a65c_get_915e3 11 = .ok (.invokevirtual 123, 3) := by decide +kernel
theorem dJx4a65c_get_915e3_14 : decode cJx4a65c_get_915e3 14 = .ok (.areturn, 1) := by decide +kernel
theorem dJx4a65c_init_da8c8_0 : decode cJx4a65c_init_da8c8 0 = .ok (.aload_n 0, 1) := by decide +kernel
theorem dJx4a65c_init_da8c8_1 : decode cJx4a65c_init_da8c8 1 = .ok (.invokespecial 1, 3) := by decide +kernel
theorem dJx4a65c_init_da8c8_4 : decode cJx4a65c_init_da8c8 4 = .ok (.aload_n 0, 1) := by decide +kernel
theorem dJx4a65c_init_da8c8_5 : decode cJx4a65c_init_da8c8 5 = .ok (.getstatic 39, 3) := by decide +kernel
theorem dJx4a65c_init_da8c8_8 : decode cJx4a65c_init_da8c8 8 = .ok (.putfield 9, 3) := by decide +kernel
theorem dJx4a65c_init_da8c8_11 : decode cJx4a65c_init_da8c8 11 = .ok (.return_, 1) := by decide +kernel
theorem dX11_addWall_0 : decode cX11_addWall 0 = .ok (.iload_n 1, 1) := by decide +kernel
theorem dX11_addWall_1 : decode cX11_addWall 1 = .ok (.bipush 101, 2) := by decide +kernel
theorem dX11_addWall_3 : decode cX11_addWall 3 = .ok (.if_icmp .eq 21, 3) := by decide +kernel
theorem dX11_addWall_24 : decode cX11_addWall 24 = .ok (.iconst 1, 1) := by decide +kernel
theorem dX11_addWall_25 : decode cX11_addWall 25 = .ok (.goto 4, 3) := by decide +kernel
theorem dX11_addWall_29 : decode cX11_addWall 29 = .ok (.istore_n 3, 1) := by decide +kernel
theorem dX11_addWall_30 : decode cX11_addWall 30 = .ok (.iload_n 3, 1) := by decide +kernel
theorem dX11_addWall_31 : decode cX11_addWall 31 = .ok (.ifCond .eq 16, 3) := by decide +kernel
theorem dX11_addWall_34 : decode cX11_addWall 34 = .ok (.iload_n 2, 1) := by decide +kernel
theorem dX11_addWall_35 : decode cX11_addWall 35 = .ok (.sipush 500, 3) := by decide +kernel
theorem dX11_addWall_38 : decode cX11_addWall 38 = .ok (.sipush 9999, 3) := by decide +kernel
theorem dX11_addWall_41 : decode cX11_addWall 41 = .ok (.invokestatic 63, 3) := by decide +kernel
theorem dX11_addWall_44 : decode cX11_addWall 44 = .ok (.ifCond .eq 11, 3) := by decide +kernel
theorem dX11_addWall_55 : decode cX11_addWall 55 = .ok (.aload_n 0, 1) := by decide +kernel
theorem dX11_addWall_56 : decode cX11_addWall 56 = .ok (.getfield 25, 3) := by decide +kernel
theorem dX11_addWall_59 : decode cX11_addWall 59 = .ok (.getfield 70, 3) := by decide +kernel
theorem dX11_addWall_62 : decode cX11_addWall 62 = .ok (.bipush 6, 2) := by decide +kernel
theorem dX11_addWall_64 : decode cX11_addWall 64 = .ok (.if_icmp .ge 13, 3) := by decide +kernel
theorem dX11_addWall_67 : decode cX11_addWall 67 = .ok (.aload_n 0, 1) := by decide +kernel
theorem dX11_addWall_68 : decode cX11_addWall 68 = .ok (.getfield 25, 3) := by decide +kernel
theorem dX11_addWall_71 : decode cX11_addWall 71 = .ok (.getfield 74, 3) := by decide +kernel
theorem dX11_addWall_74 : decode cX11_addWall 74 = .ok (.ifCond .le 11, 3) := by decide +kernel
theorem dX11_addWall_85 : decode cX11_addWall 85 = .ok (.aload_n 0, 1) := by decide +kernel
theorem dX11_addWall_86 : decode cX11_addWall 86 = .ok (.getfield 25, 3) := by decide +kernel
theorem dX11_addWall_89 : decode cX11_addWall 89 = .ok (.iload_n 1, 1) := by decide +kernel
theorem dX11_addWall_90 : decode cX11_addWall 90 = .ok (.iload_n 2, 1) := by decide +kernel
theorem dX11_addWall_91 : decode cX11_addWall 91 = .ok (.invokevirtual 80, 3) := by decide +kernel
theorem dX11_addWall_94 : decode cX11_addWall 94 = .ok (.ireturn, 1) := by decide +kernel
theorem dX11_free_0 : decode cX11_free 0 = .ok (.aload_n 0, 1) := by decide +kernel
theorem dX11_free_1 : decode cX11_free 1 = .ok (.getfield 25, 3) := by decide +kernel
theorem dX11_free_4 : decode cX11_free 4 = .ok (.iload_n 1, 1) := by decide +kernel
theorem dX11_free_5 : decode cX11_free 5 = .ok (.iload_n 2, 1) := by decide +kernel
theorem dX11_free_6 : decode cX11_free 6 = .ok (.iconst 0, 1) := by decide +kernel
theorem dX11_free_7 : decode cX11_free 7 = .ok (.invokevirtual 245, 3) := by decide +kernel
theorem dX11_free_10 : decode cX11_free 10 = .ok (.ireturn, 1) := by decide +kernel
theorem dX11_init_0 : decode cX11_init 0 = .ok (.aload_n 0, 1) := by decide +kernel
theorem dX11_init_1 : decode cX11_init 1 = .ok (.invokespecial 1, 3) := by decide +kernel
theorem dX11_init_4 : decode cX11_init 4 = .ok (.aload_n 0, 1) := by decide +kernel
theorem dX11_init_5 : decode cX11_init 5 = .ok (.new 7, 3) := by decide +kernel
theorem dX11_init_8 : decode cX11_init 8 = .ok (.dup, 1) := by decide +kernel
theorem dX11_init_9 : decode cX11_init 9 = .ok (.invokespecial 9, 3) := by decide +kernel
theorem dX11_init_12 : decode cX11_init 12 = .ok (.putfield 10, 3) := by decide +kernel
theorem dX11_init_15 : decode cX11_init 15 = .ok (.aload_n 0, 1) := by decide +kernel
theorem dX11_init_16 : decode cX11_init 16 = .ok (.new 16, 3) := by decide +kernel
theorem dX11_init_19 : decode cX11_init 19 = .ok (.dup, 1) := by decide +kernel
theorem dX11_init_20 : decode cX11_init 20 = .ok (.aload_n 0, 1) := by decide +kernel
theorem dX11_init_21 : decode cX11_init 21 = .ok (.getfield 10, 3) := by decide +kernel
theorem dX11_init_24 : decode cX11_init 24 = .ok (.invokevirtual 18, 3) := by decide +kernel
theorem dX11_init_27 : decode cX11_init 27 = .ok (.invokespecial 22, 3) := by decide +kernel
theorem dX11_init_30 : decode cX11_init 30 = .ok (.putfield 25, 3) := by decide +kernel
theorem dX11_init_33 : decode cX11_init 33 = .ok (.aload_n 0, 1) := by decide +kernel
theorem dX11_init_34 : decode cX11_init 34 = .ok (.new 29, 3) := by decide +kernel
theorem dX11_init_37 : decode cX11_init 37 = .ok (.dup, 1) := by decide +kernel
theorem dX11_init_38 : decode cX11_init 38 = .ok (.invokespecial 31, 3) := by decide +kernel
theorem dX11_init_41 : decode cX11_init 41 = .ok (.putfield 32, 3) := by decide +kernel
theorem dX11_init_44 : decode cX11_init 44 = .ok (.aload_n 0, 1) := by decide +kernel
theorem dX11_init_45 : decode cX11_init 45 = .ok (.new 36, 3) := by decide +kernel
theorem dX11_init_48 : decode cX11_init 48 = .ok (.dup, 1) := by decide +kernel
theorem dX11_init_49 : decode cX11_init 49 = .ok (.aload_n 0, 1) := by decide +kernel
theorem dX11_init_50 : decode cX11_init 50 = .ok (.getfield 32, 3) := by decide +kernel
theorem dX11_init_53 : decode cX11_init 53 = .ok (.invokespecial 38, 3) := by decide +kernel
theorem dX11_init_56 : decode cX11_init 56 = .ok (.putfield 41, 3) := by decide +kernel
theorem dX11_init_59 : decode cX11_init 59 = .ok (.aload_n 0, 1) := by decide +kernel
theorem dX11_init_60 : decode cX11_init 60 = .ok (.new 45, 3) := by decide +kernel
theorem dX11_init_63 : decode cX11_init 63 = .ok (.dup, 1) := by decide +kernel
theorem dX11_init_64 : decode cX11_init 64 = .ok (.invokespecial 47, 3) := by decide +kernel
theorem dX11_init_67 : decode cX11_init 67 = .ok (.putfield 48, 3) := by decide +kernel
theorem dX11_init_70 : decode cX11_init 70 = .ok (.aload_n 0, 1) := by decide +kernel
theorem dX11_init_71 : decode cX11_init 71 = .ok (.new 52, 3) := by decide +kernel
theorem dX11_init_74 : decode cX11_init 74 = .ok (.dup, 1) := by decide +kernel
theorem dX11_init_75 : decode cX11_init 75 = .ok (.invokespecial 54, 3) := by decide +kernel
theorem dX11_init_78 : decode cX11_init 78 = .ok (.putfield 55, 3) := by decide +kernel
theorem dX11_init_81 : decode cX11_init 81 = .ok (.aload_n 0, 1) := by decide +kernel
theorem dX11_init_82 : decode cX11_init 82 = .ok (.iconst 3, 1) := by decide +kernel
theorem dX11_init_83 : decode cX11_init 83 = .ok (.newarray .int, 2) := by decide +kernel
theorem dX11_init_85 : decode cX11_init 85 = .ok (.dup, 1) := by decide +kernel
theorem dX11_init_86 : decode cX11_init 86 = .ok (.iconst 0, 1) := by decide +kernel
theorem dX11_init_87 : decode cX11_init 87 = .ok (.iconst 2, 1) := by decide +kernel
theorem dX11_init_88 : decode cX11_init 88 = .ok (.iastore, 1) := by decide +kernel
theorem dX11_init_89 : decode cX11_init 89 = .ok (.dup, 1) := by decide +kernel
theorem dX11_init_90 : decode cX11_init 90 = .ok (.iconst 1, 1) := by decide +kernel
theorem dX11_init_91 : decode cX11_init 91 = .ok (.iconst 5, 1) := by decide +kernel
theorem dX11_init_92 : decode cX11_init 92 = .ok (.iastore, 1) := by decide +kernel
theorem dX11_init_93 : decode cX11_init 93 = .ok (.dup, 1) := by decide +kernel
theorem dX11_init_94 : decode cX11_init 94 = .ok (.iconst 2, 1) := by decide +kernel
theorem dX11_init_95 : decode cX11_init 95 = .ok (.bipush 9, 2) := by decide +kernel
theorem dX11_init_97 : decode cX11_init 97 = .ok (.iastore, 1) := by decide +kernel
theorem dX11_init_98 : decode cX11_init 98 = .ok (.putfield 59, 3) := by decide +kernel
theorem dX11_init_101 : decode cX11_init 101 = .ok (.return_, 1) := by decide +kernel
theorem dJ0_indexOf_0f7a4_0 : decode cJ0_indexOf_0f7a4 0 = .ok (.aload_n 0, 1) := by decide +kernel
theorem dJ0_indexOf_0f7a4_1 : decode cJ0_indexOf_0f7a4 1 = .ok (.iload_n 1, 1) := by decide +kernel
theorem dJ0_indexOf_0f7a4_2 : decode cJ0_indexOf_0f7a4 2 = .ok (.iconst 0, 1) := by decide +kernel
theorem dJ0_indexOf_0f7a4_3 : decode cJ0_indexOf_0f7a4 3 = .ok (.invokevirtual 633, 3) := by decide +kernel
theorem dJ0_indexOf_0f7a4_6 : decode cJ0_indexOf_0f7a4 6 = .ok (.ireturn, 1) := by decide +kernel
theorem dJx4a65c_add_9ea2d_0 : decode cJx4a65c_add_9ea2d 0 = .ok (.aload_n 0, 1) := by decide +kernel
theorem dJx4a65c_add_9ea2d_1 : decode cJx4a65c_add_9ea2d 1 = .ok (.dup, 1) := by decide +kernel
theorem dJx4a65c_add_9ea2d_2 : decode cJx4a65c_add_9ea2d 2 = .ok (.getfield 63, 3) := by decide +kernel
theorem dJx4a65c_add_9ea2d_5 : decode cJx4a65c_add_9ea2d 5 = .ok (.iconst 1, 1) := by decide +kernel
theorem dJx4a65c_add_9ea2d_6 : decode cJx4a65c_add_9ea2d 6 = .ok (.iadd, 1) := by decide +kernel
theorem dJx4a65c_add_9ea2d_7 : decode cJx4a65c_add_9ea2d 7 = .ok (.putfield 63, 3) := by decide +kernel
theorem dJx4a65c_add_9ea2d_10 : decode cJx4a65c_add_9ea2d 10 = .ok (.aload_n 0, 1) := by decide +kernel
theorem dJx4a65c_add_9ea2d_11 : decode cJx4a65c_add_9ea2d 11 = .ok (.aload_n 1, 1) := by decide +kernel
theorem dJx4a65c_add_9ea2d_12 : decode cJx4a65c_add_9ea2d 12 = .ok (.aload_n 0, 1) := by decide +kernel
theorem dJx4a65c_add_9ea2d_13 : decode cJx4a65c_add_9ea2d 13 = .ok (.getfield 9, 3) := by decide +kernel
theorem dJx4a65c_add_9ea2d_16 : decode cJx4a65c_add_9ea2d 16 = .ok (.aload_n 0, 1) := by decide +kernel
theorem dJx4a65c_add_9ea2d_17 : decode cJx4a65c_add_9ea2d 17 = .ok (.getfield 48, 3) := by decide +kernel
theorem dJx4a65c_add_9ea2d_20 : decode cJx4a65c_add_9ea2d 20 = .ok (.invokevirtual 131, 3) := by decide +kernel
theorem dJx4a65c_add_9ea2d_23 : decode cJx4a65c_add_9ea2d 23 = .ok (.iconst 1, 1) := by decide +kernel
theorem dJx4a65c_add_9ea2d_24 : decode cJx4a65c_add_9ea2d 24 = .ok (.ireturn, 1) := by decide +kernel
theorem dL_addWall_0 : decode cL_addWall 0 = .ok (.aload_n 3, 1) := by decide +kernel
theorem dL_addWall_1 : decode cL_addWall 1 = .ok (.iconst 0, 1) := by decide +kernel
theorem dL_addWall_2 : decode cL_addWall 2 = .ok (.aload_n 0, 1) := by decide +kernel
theorem dL_addWall_3 : decode cL_addWall 3 = .ok (.iload_n 1, 1) := by decide +kernel
theorem dL_addWall_4 : decode cL_addWall 4 = .ok (.iload_n 2, 1) := by decide +kernel
theorem dL_addWall_5 : decode cL_addWall 5 = .ok (.invokevirtual 7, 3) := by decide +kernel
theorem dL_addWall_8 : decode cL_addWall 8 = .ok (.i2l, 1) := by decide +kernel
theorem dL_addWall_9 : decode cL_addWall 9 = .ok (.lastore, 1) := by decide +kernel
theorem dL_addWall_10 : decode cL_addWall 10 = .ok (.goto 11, 3) := by decide +kernel
theorem dL_addWall_13 : decode cL_addWall 13 = .ok (.astore 4, 2) := by decide +kernel
theorem dL_addWall_21 : decode cL_addWall 21 = .ok (.iconst 0, 1) := by decide +kernel
theorem dL_addWall_22 : decode cL_addWall 22 = .ok (.ireturn, 1) := by decide +kernel
theorem dL_free_0 : decode cL_free 0 = .ok (.aload_n 3, 1) := by decide +kernel
theorem dL_free_1 : decode cL_free 1 = .ok (.iconst 0, 1) := by decide +kernel
theorem dL_free_2 : decode cL_free 2 = .ok (.aload_n 0, 1) := by decide +kernel
theorem dL_free_3 : decode cL_free 3 = .ok (.iload_n 1, 1) := by decide +kernel
theorem dL_free_4 : decode cL_free 4 = .ok (.iload_n 2, 1) := by decide +kernel
theorem dL_free_5 : decode cL_free 5 = .ok (.invokevirtual 78, 3) := by decide +kernel
theorem dL_free_8 : decode cL_free 8 = .ok (.i2l, 1) := by decide +kernel
theorem dL_free_9 : decode cL_free 9 = .ok (.lastore, 1) := by decide +kernel
theorem dL_free_10 : decode cL_free 10 = .ok (.goto 7, 3) := by decide +kernel
theorem dL_free_13 : decode cL_free 13 = .ok (.astore 4, 2) := by decide +kernel
theorem dL_free_17 : decode cL_free 17 = .ok (.iconst 0, 1) := by decide +kernel
theorem dL_free_18 : decode cL_free 18 = .ok (.ireturn, 1) := by decide +kernel
theorem dX21_free_0 : decode cX21_free 0 = .ok (.aload_n 0, 1) := by decide +kernel
theorem dX21_free_1 : decode cX21_free 1 = .ok (.getfield 10, 3) := by decide +kernel
theorem dX21_free_4 : decode cX21_free 4 = .ok (.iload_n 1, 1) := by decide +kernel
theorem dX21_free_5 : decode cX21_free 5 = .ok (.invokevirtual 117, 3) := by decide +kernel
theorem dX21_free_8 : decode cX21_free 8 = .ok (.checkcast 77, 3) := by decide +kernel
theorem dX21_free_11 : decode cX21_free 11 = .ok (.astore 4, 2) := by decide +kernel
theorem dX21_free_13 : decode cX21_free 13 = .ok (.iconst 0, 1) := by decide +kernel
theorem dX21_free_14 : decode cX21_free 14 = .ok (.istore 5, 2) := by decide +kernel
theorem dX21_free_16 : decode cX21_free 16 = .ok (.iconst 0, 1) := by decide +kernel
theorem dX21_free_17 : decode cX21_free 17 = .ok (.istore 6, 2) := by decide +kernel
theorem dX21_free_19 : decode cX21_free 19 = .ok (.iconst 0, 1) := by decide +kernel
theorem dX21_free_20 : decode cX21_free 20 = .ok (.istore 7, 2) := by decide +kernel
theorem dX21_free_22 : decode cX21_free 22 = .ok (.iconst 0, 1) := by decide +kernel
theorem dX21_free_23 : decode cX21_free 23 = .ok (.istore 8, 2) := by decide +kernel
theorem dX21_free_25 : decode cX21_free 25 = .ok (.iload 8, 2) := by decide +kernel
theorem dX21_free_27 : decode cX21_free 27 = .ok (.aload 4, 2) := by decide +kernel
theorem dX21_free_29 : decode cX21_free 29 = .ok (.getfield 103, 3) := by decide +kernel
theorem dX21_free_32 : decode cX21_free 32 = .ok (.if_icmp .ge 169, 3) := by decide +kernel
theorem dX21_free_35 : decode cX21_free 35 = .ok (.iconst 1, 1) := by decide +kernel
theorem dX21_free_36 : decode cX21_free 36 = .ok (.istore 9, 2) := by decide +kernel
theorem dX21_free_38 : decode cX21_free 38 = .ok (.aload_n 0, 1) := by decide +kernel
theorem dX21_free_39 : decode cX21_free 39 = .ok (.getfield 28, 3) := by decide +kernel
theorem dX21_free_42 : decode cX21_free 42 = .ok (.invokevirtual 86, 3) := by decide +kernel
theorem dX21_free_45 : decode cX21_free 45 = .ok (.astore 10, 2) := by decide +kernel
theorem dX21_free_47 : decode cX21_free 47 = .ok (.aload 10, 2) := by decide +kernel
theorem dX21_free_49 : decode cX21_free 49 = .ok (.invokeinterface 90 1, 5) := by decide +kernel
theorem dX21_free_54 : decode cX21_free 54 = .ok (.ifCond .eq 102, 3) := by decide +kernel
theorem dX21_free_156 : decode cX21_free 156 = .ok (.iload 9, 2) := by decide +kernel
theorem dX21_free_158 : decode cX21_free 158 = .ok (.ifCond .eq 10, 3) := by decide +kernel
theorem dX21_free_161 : decode cX21_free 161 = .ok (.iload 7, 2) := by decide +kernel
theorem dX21_free_163 : decode cX21_free 163 = .ok (.iconst 1, 1) := by decide +kernel
theorem dX21_free_164 : decode cX21_free 164 = .ok (.iadd, 1) := by decide +kernel
theorem dX21_free_165 : decode cX21_free 165 = .ok (.goto 4, 3) := by decide +kernel
theorem dX21_free_169 : decode cX21_free 169 = .ok (.istore 7, 2) := by decide +kernel
theorem dX21_free_171 : decode cX21_free 171 = .ok (.iload 5, 2) := by decide +kernel
theorem dX21_free_173 : decode cX21_free 173 = .ok (.iload 9, 2) := by decide +kernel
theorem dX21_free_175 : decode cX21_free 175 = .ok (.ifCond .eq 7, 3) := by decide +kernel
theorem dX21_free_178 : decode cX21_free 178 = .ok (.iconst 1, 1) := by decide +kernel
theorem dX21_free_179 : decode cX21_free 179 = .ok (.goto 4, 3) := by decide +kernel
theorem dX21_free_183 : decode cX21_free 183 = .ok (.iadd, 1) := by decide +kernel
theorem dX21_free_184 : decode cX21_free 184 = .ok (.istore 5, 2) := by decide +kernel
theorem dX21_free_186 : decode cX21_free 186 = .ok (.iload 6, 2) := by decide +kernel
theorem dX21_free_188 : decode cX21_free 188 = .ok (.iload 7, 2) := by decide +kernel
theorem dX21_free_190 : decode cX21_free 190 = .ok (.invokestatic 132, 3) := by decide +kernel
theorem dX21_free_193 : decode cX21_free 193 = .ok (.istore 6, 2) := by decide +kernel
theorem dX21_free_195 : decode cX21_free 195 = .ok (.iinc 8 1, 3) := by decide +kernel
theorem dX21_free_198 : decode cX21_free 198 = .ok (.goto (-173), 3) := by decide +kernel
theorem dX21_free_201 : decode cX21_free 201 = .ok (.iload_n 3, 1) := by decide +kernel
theorem dX21_free_202 : decode cX21_free 202 = .ok (.ifCond .eq 8, 3) := by decide +kernel
theorem dX21_free_210 : decode cX21_free 210 = .ok (.iload 5, 2) := by decide +kernel
theorem dX21_free_212 : decode cX21_free 212 = .ok (.ireturn, 1) := by decide +kernel
theorem dX21_init_0 : decode cX21_init 0 = .ok (.aload_n 0, 1) := by decide +kernel
theorem dX21_init_1 : decode cX21_init 1 = .ok (.invokespecial 1, 3) := by decide +kernel
theorem dX21_init_4 : decode cX21_init 4 = .ok (.aload_n 0, 1) := by decide +kernel
theorem dX21_init_5 : decode cX21_init 5 = .ok (.new 7, 3) := by decide +kernel
theorem dX21_init_8 : decode cX21_init 8 = .ok (.dup, 1) := by decide +kernel
theorem dX21_init_9 : decode cX21_init 9 = .ok (.invokespecial 9, 3) := by decide +kernel
theorem dX21_init_12 : decode cX21_init 12 = .ok (.putfield 10, 3) := by decide +kernel
theorem dX21_init_15 : decode cX21_init 15 = .ok (.aload_n 0, 1) := by decide +kernel
theorem dX21_init_16 : decode cX21_init 16 = .ok (.new 7, 3) := by decide +kernel
theorem dX21_init_19 : decode cX21_init 19 = .ok (.dup, 1) := by decide +kernel
theorem dX21_init_20 : decode cX21_init 20 = .ok (.invokespecial 9, 3) := by decide +kernel
theorem dX21_init_23 : decode cX21_init 23 = .ok (.putfield 16, 3) := by decide +kernel
theorem dX21_init_26 : decode cX21_init 26 = .ok (.aload_n 0, 1) := by decide +kernel
theorem dX21_init_27 : decode cX21_init 27 = .ok (.ldc 19, 2) := by decide +kernel
theorem dX21_init_29 : decode cX21_init 29 = .ok (.putfield 21, 3) := by decide +kernel
theorem dX21_init_32 : decode cX21_init 32 = .ok (.aload_n 0, 1) := by decide +kernel
theorem dX21_init_33 : decode cX21_init 33 = .ok (.new 7, 3) := by decide +kernel
theorem dX21_init_36 : decode cX21_init 36 = .ok (.dup, 1) := by decide +kernel
theorem dX21_init_37 : decode cX21_init 37 = .ok (.invokespecial 9, 3) := by decide +kernel
theorem dX21_init_40 : decode cX21_init 40 = .ok (.putfield 25, 3) := by decide +kernel
theorem dX21_init_43 : decode cX21_init 43 = .ok (.aload_n 0, 1) := by decide +kernel
theorem dX21_init_44 : decode cX21_init 44 = .ok (.new 7, 3) := by decide +kernel
theorem dX21_init_47 : decode cX21_init 47 = .ok (.dup, 1) := by decide +kernel
theorem dX21_init_48 : decode cX21_init 48 = .ok (.invokespecial 9, 3) := by decide +kernel
theorem dX21_init_51 : decode cX21_init 51 = .ok (.putfield 28, 3) := by decide +kernel
theorem dX21_init_54 : decode cX21_init 54 = .ok (.aload_n 0, 1) := by decide +kernel
theorem dX21_init_55 : decode cX21_init 55 = .ok (.new 7, 3) := by decide +kernel
theorem dX21_init_58 : decode cX21_init 58 = .ok (.dup, 1) := by decide +kernel
theorem dX21_init_59 : decode cX21_init 59 = .ok (.invokespecial 9, 3) := by decide +kernel
theorem dX21_init_62 : decode cX21_init 62 = .ok (.putfield 31, 3) := by decide +kernel
theorem dX21_init_65 : decode cX21_init 65 = .ok (.aload_n 0, 1) := by decide +kernel
theorem dX21_init_66 : decode cX21_init 66 = .ok (.new 7, 3) := by decide +kernel
theorem dX21_init_69 : decode cX21_init 69 = .ok (.dup, 1) := by decide +kernel
theorem dX21_init_70 : decode cX21_init 70 = .ok (.invokespecial 9, 3) := by decide +kernel
theorem dX21_init_73 : decode cX21_init 73 = .ok (.putfield 34, 3) := by decide +kernel
theorem dX21_init_76 : decode cX21_init 76 = .ok (.aload_n 0, 1) := by decide +kernel
theorem dX21_init_77 : decode cX21_init 77 = .ok (.iconst 3, 1) := by decide +kernel
theorem dX21_init_78 : decode cX21_init 78 = .ok (.newarray .int, 2) := by decide +kernel
theorem dX21_init_80 : decode cX21_init 80 = .ok (.dup, 1) := by decide +kernel
theorem dX21_init_81 : decode cX21_init 81 = .ok (.iconst 0, 1) := by decide +kernel
theorem dX21_init_82 : decode cX21_init 82 = .ok (.iconst 2, 1) := by decide +kernel
theorem dX21_init_83 : decode cX21_init 83 = .ok (.iastore, 1) := by decide +kernel
theorem dX21_init_84 : decode cX21_init 84 = .ok (.dup, 1) := by decide +kernel
theorem dX21_init_85 : decode cX21_init 85 = .ok (.iconst 1, 1) := by decide +kernel
theorem dX21_init_86 : decode cX21_init 86 = .ok (.iconst 5, 1) := by decide +kernel
theorem dX21_init_87 : decode cX21_init 87 = .ok (.iastore, 1) := by decide +kernel
theorem dX21_init_88 : decode cX21_init 88 = .ok (.dup, 1) := by decide +kernel
theorem dX21_init_89 : decode cX21_init 89 = .ok (.iconst 2, 1) := by decide +kernel
theorem dX21_init_90 : decode cX21_init 90 = .ok (.bipush 9, 2) := by decide +kernel
theorem dX21_init_92 : decode cX21_init 92 = .ok (.iastore, 1) := by decide +kernel
theorem dX21_init_93 : decode cX21_init 93 = .ok (.putfield 37, 3) := by decide +kernel
theorem dX21_init_96 : decode cX21_init 96 = .ok (.aload_n 0, 1) := by decide +kernel
theorem dX21_init_97 : decode cX21_init 97 = .ok (.iconst 2, 1) := by decide +kernel
theorem dX21_init_98 : decode cX21_init 98 = .ok (.putfield 41, 3) := by decide +kernel
theorem dX21_init_101 : decode cX21_init 101 = .ok (.aload_n 0, 1) := by decide +kernel
theorem dX21_init_102 : decode cX21_init 102 = .ok (.ldc 19, 2) := by decide +kernel
theorem dX21_init_104 : decode cX21_init 104 = .ok (.putfield 45, 3) := by decide +kernel
theorem dX21_init_107 : decode cX21_init 107 = .ok (.aload_n 0, 1) := by decide +kernel
theorem dX21_init_108 : decode cX21_init 108 = .ok (.iconst 2, 1) := by decide +kernel
theorem dX21_init_109 : decode cX21_init 109 = .ok (.newarray .int, 2) := by decide +kernel
theorem dX21_init_111 : decode cX21_init 111 = .ok (.putfield 48, 3) := by decide +kernel
theorem dX21_init_114 : decode cX21_init 114 = .ok (.aload_n 0, 1) := by decide +kernel
theorem dX21_init_115 : decode cX21_init 115 = .ok (.iconst 0, 1) := by decide +kernel
theorem dX21_init_116 : decode cX21_init 116 = .ok (.newarray .int, 2) := by decide +kernel
theorem dX21_init_118 : decode cX21_init 118 = .ok (.putfield 51, 3) := by decide +kernel
theorem dX21_init_121 : decode cX21_init 121 = .ok (.return_, 1) := by decide +kernel
theorem dX21_addWall_0 : decode cX21_addWall 0 = .ok (.aload_n 0, 1) := by decide +kernel
theorem dX21_addWall_1 : decode cX21_addWall 1 = .ok (.ldc 57, 2) := by decide +kernel
theorem dX21_addWall_3 : decode cX21_addWall 3 = .ok (.iload_n 1, 1) := by decide +kernel
theorem dX21_addWall_4 : decode cX21_addWall 4 = .ok (.invokevirtual 59, 3) := by decide +kernel
theorem dX21_addWall_7 : decode cX21_addWall 7 = .ok (.ifCond .lt 16, 3) := by decide +kernel
theorem dX21_addWall_10 : decode cX21_addWall 10 = .ok (.iload_n 2, 1) := by decide +kernel
theorem dX21_addWall_11 : decode cX21_addWall 11 = .ok (.sipush 500, 3) := by decide +kernel
theorem dX21_addWall_14 : decode cX21_addWall 14 = .ok (.sipush 9999, 3) := by decide +kernel
theorem dX21_addWall_17 : decode cX21_addWall 17 = .ok (.invokestatic 65, 3) := by decide +kernel
theorem dX21_addWall_20 : decode cX21_addWall 20 = .ok (.ifCond .ne 7, 3) := by decide +kernel
theorem dX21_addWall_27 : decode cX21_addWall 27 = .ok (.aload_n 0, 1) := by decide +kernel
theorem dX21_addWall_28 : decode cX21_addWall 28 = .ok (.getfield 10, 3) := by decide +kernel
theorem dX21_addWall_31 : decode cX21_addWall 31 = .ok (.invokevirtual 69, 3) := by decide +kernel
theorem dX21_addWall_34 : decode cX21_addWall 34 = .ok (.bipush 6, 2) := by decide +kernel
theorem dX21_addWall_36 : decode cX21_addWall 36 = .ok (.if_icmp .eq 13, 3) := by decide +kernel
theorem dX21_addWall_39 : decode cX21_addWall 39 = .ok (.aload_n 0, 1) := by decide +kernel
theorem dX21_addWall_40 : decode cX21_addWall 40 = .ok (.getfield 28, 3) := by decide +kernel
theorem dX21_addWall_43 : decode cX21_addWall 43 = .ok (.invokevirtual 73, 3) := by decide +kernel
theorem dX21_addWall_46 : decode cX21_addWall 46 = .ok (.ifCond .ne 7, 3) := by decide +kernel
theorem dX21_addWall_53 : decode cX21_addWall 53 = .ok (.iconst 0, 1) := by decide +kernel
theorem dX21_addWall_54 : decode cX21_addWall 54 = .ok (.putfield 54, 3) := by decide +kernel
theorem dX21_addWall_57 : decode cX21_addWall 57 = .ok (.aload_n 0, 1) := by decide +kernel
theorem dX21_addWall_58 : decode cX21_addWall 58 = .ok (.getfield 54, 3) := by decide +kernel
theorem dX21_addWall_61 : decode cX21_addWall 61 = .ok (.ifCond .le 5, 3) := by decide +kernel
theorem dX21_addWall_66 : decode cX21_addWall 66 = .ok (.aload_n 0, 1) := by decide +kernel
theorem dX21_addWall_67 : decode cX21_addWall 67 = .ok (.getfield 10, 3) := by decide +kernel
theorem dX21_addWall_70 : decode cX21_addWall 70 = .ok (.new 77, 3) := by decide +kernel
theorem dX21_addWall_73 : decode cX21_addWall 73 = .ok (.dup, 1) := by decide +kernel
theorem dX21_addWall_74 : decode cX21_addWall 74 = .ok (.iload_n 1, 1) := by decide +kernel
theorem dX21_addWall_75 : decode cX21_addWall 75 = .ok (.iload_n 2, 1) := by decide +kernel
theorem dX21_addWall_76 : decode cX21_addWall 76 = .ok (.invokespecial 79, 3) := by decide +kernel
theorem dX21_addWall_79 : decode cX21_addWall 79 = .ok (.invokevirtual 82, 3) := by decide +kernel
theorem dX21_addWall_82 : decode cX21_addWall 82 = .ok (.pop, 1) := by decide +kernel
theorem dX21_addWall_83 : decode cX21_addWall 83 = .ok (.aload_n 0, 1) := by decide +kernel
theorem dX21_addWall_84 : decode cX21_addWall 84 = .ok (.getfield 10, 3) := by decide +kernel
theorem dX21_addWall_87 : decode cX21_addWall 87 = .ok (.invokevirtual 69, 3) := by decide +kernel
theorem dX21_addWall_90 : decode cX21_addWall 90 = .ok (.iconst 1, 1) := by decide +kernel
theorem dX21_addWall_91 : decode cX21_addWall 91 = .ok (.isub, 1) := by decide +kernel
theorem dX21_addWall_92 : decode cX21_addWall 92 = .ok (.ireturn, 1) := by decide +kernel
theorem dX21_free__0 : decode cX21_free_ 0 = .ok (.aload_n 0, 1) := by decide +kernel
theorem dX21_free__1 : decode cX21_free_ 1 = .ok (.iload_n 1, 1) := by decide +kernel
theorem dX21_free__2 : decode cX21_free_ 2 = .ok (.invokevirtual 136, 3) := by decide +kernel
theorem dX21_free__5 : decode cX21_free_ 5 = .ok (.ifCond .eq 7, 3) := by decide +kernel
theorem dX21_free__12 : decode cX21_free_ 12 = .ok (.aload_n 0, 1) := by decide +kernel
theorem dX21_free__13 : decode cX21_free_ 13 = .ok (.iload_n 1, 1) := by decide +kernel
theorem dX21_free__14 : decode cX21_free_ 14 = .ok (.iload_n 2, 1) := by decide +kernel
theorem dX21_free__15 : decode cX21_free_ 15 = .ok (.iconst 0, 1) := by decide +kernel
theorem dX21_free__16 : decode cX21_free_ 16 = .ok (.invokevirtual 328, 3) := by decide +kernel
theorem dX21_free__19 : decode cX21_free_ 19 = .ok (.ireturn, 1) := by decide +kernel
theorem dL_law_0 : decode cL_law 0 = .ok (.new 8, 3) := by decide +kernel
theorem dL_law_3 : decode cL_law 3 = .ok (.dup, 1) := by decide +kernel
theorem dL_law_4 : decode cL_law 4 = .ok (.invokespecial 170, 3) := by decide +kernel
theorem dL_law_7 : decode cL_law 7 = .ok (.astore_n 1, 1) := by decide +kernel
theorem dL_law_8 : decode cL_law 8 = .ok (.new 171, 3) := by decide +kernel
theorem dL_law_11 : decode cL_law 11 = .ok (.dup, 1) := by decide +kernel
theorem dL_law_12 : decode cL_law 12 = .ok (.invokespecial 173, 3) := by decide +kernel
theorem dL_law_15 : decode cL_law 15 = .ok (.astore_n 2, 1) := by decide +kernel
theorem dL_law_16 : decode cL_law 16 = .ok (.iconst 1, 1) := by decide +kernel
theorem dL_law_17 : decode cL_law 17 = .ok (.newarray .long, 2) := by decide +kernel
theorem dL_law_19 : decode cL_law 19 = .ok (.astore_n 3, 1) := by decide +kernel
theorem dL_law_20 : decode cL_law 20 = .ok (.iconst 1, 1) := by decide +kernel
theorem dL_law_21 : decode cL_law 21 = .ok (.newarray .double, 2) := by decide +kernel
theorem dL_law_23 : decode cL_law 23 = .ok (.astore 4, 2) := by decide +kernel
theorem dL_law_25 : decode cL_law 25 = .ok (.iconst 0, 1) := by decide +kernel
theorem dL_law_26 : decode cL_law 26 = .ok (.istore 5, 2) := by decide +kernel
theorem dL_law_28 : decode cL_law 28 = .ok (.iload 5, 2) := by decide +kernel
theorem dL_law_30 : decode cL_law 30 = .ok (.aload_n 0, 1) := by decide +kernel
theorem dL_law_31 : decode cL_law 31 = .ok (.arraylength, 1) := by decide +kernel
theorem dL_law_32 : decode cL_law 32 = .ok (.bipush 6, 2) := by decide +kernel
theorem dL_law_34 : decode cL_law 34 = .ok (.isub, 1) := by decide +kernel
theorem dL_law_35 : decode cL_law 35 = .ok (.if_icmp .gt 2046, 3) := by decide +kernel
theorem dL_law_38 : decode cL_law 38 = .ok (.aload_n 0, 1) := by decide +kernel
theorem dL_law_39 : decode cL_law 39 = .ok (.iload 5, 2) := by decide +kernel
theorem dL_law_41 : decode cL_law 41 = .ok (.iaload, 1) := by decide +kernel
theorem dL_law_42 : decode cL_law 42 = .ok (.bipush 63, 2) := by decide +kernel
theorem dL_law_44 : decode cL_law 44 = .ok (.iand, 1) := by decide +kernel
theorem dL_law_45 : decode cL_law 45 = .ok (.tableswitch 2030 0 50 #[219, 261, 277, 305, 318, 370, 446, 476, 489, 505, 521, 537, 579, 643, 683, 723, 751, 779, 807, 863, 919, 947, 987, 1041, 1081, 1109, 1149, 1215, 1255, 1323, 1399, 1412, 1425, 1467, 1495, 1551, 1591, 1619, 1659, 1687, 1727, 1779, 1819, 1871, 1899, 1912, 1940, 1953, 1983, 2000, 2017], 219) := by decide +kernel
theorem dL_law_264 : decode cL_law 264 = .ok (.aload_n 1, 1) := by decide +kernel
theorem dL_law_265 : decode cL_law 265 = .ok (.aload_n 0, 1) := by decide +kernel
theorem dL_law_266 : decode cL_law 266 = .ok (.iload 5, 2) := by decide +kernel
theorem dL_law_268 : decode cL_law 268 = .ok (.iconst 1, 1) := by decide +kernel
theorem dL_law_269 : decode cL_law 269 = .ok (.iadd, 1) := by decide +kernel
theorem dL_law_270 : decode cL_law 270 = .ok (.iaload, 1) := by decide +kernel
theorem dL_law_271 : decode cL_law 271 = .ok (.i2c, 1) := by decide +kernel
theorem dL_law_272 : decode cL_law 272 = .ok (.aload_n 0, 1) := by decide +kernel
theorem dL_law_273 : decode cL_law 273 = .ok (.iload 5, 2) := by decide +kernel
theorem dL_law_275 : decode cL_law 275 = .ok (.iconst 2, 1) := by decide +kernel
theorem dL_law_276 : decode cL_law 276 = .ok (.iadd, 1) := by decide +kernel
theorem dL_law_277 : decode cL_law 277 = .ok (.iaload, 1) := by decide +kernel
theorem dL_law_278 : decode cL_law 278 = .ok (.aload_n 3, 1) := by decide +kernel
theorem dL_law_279 : decode cL_law 279 = .ok (.invokestatic 174, 3) := by decide +kernel
theorem dL_law_282 : decode cL_law 282 = .ok (.istore 6, 2) := by decide +kernel
theorem dL_law_284 : decode cL_law 284 = .ok (.aload_n 2, 1) := by decide +kernel
theorem dL_law_285 : decode cL_law 285 = .ok (.aload_n 0, 1) := by decide +kernel
theorem dL_law_286 : decode cL_law 286 = .ok (.iload 5, 2) := by decide +kernel
theorem dL_law_288 : decode cL_law 288 = .ok (.iconst 1, 1) := by decide +kernel
theorem dL_law_289 : decode cL_law 289 = .ok (.iadd, 1) := by decide +kernel
theorem dL_law_290 : decode cL_law 290 = .ok (.iaload, 1) := by decide +kernel
theorem dL_law_291 : decode cL_law 291 = .ok (.i2c, 1) := by decide +kernel
theorem dL_law_292 : decode cL_law 292 = .ok (.aload_n 0, 1) := by decide +kernel
theorem dL_law_293 : decode cL_law 293 = .ok (.iload 5, 2) := by decide +kernel
theorem dL_law_295 : decode cL_law 295 = .ok (.iconst 2, 1) := by decide +kernel
theorem dL_law_296 : decode cL_law 296 = .ok (.iadd, 1) := by decide +kernel
theorem dL_law_297 : decode cL_law 297 = .ok (.iaload, 1) := by decide +kernel
theorem dL_law_298 : decode cL_law 298 = .ok (.invokevirtual 179, 3) := by decide +kernel
theorem dL_law_301 : decode cL_law 301 = .ok (.istore 7, 2) := by decide +kernel
theorem dL_law_303 : decode cL_law 303 = .ok (.goto 1772, 3) := by decide +kernel
theorem dL_law_852 : decode cL_law 852 = .ok (.aload_n 1, 1) := by decide +kernel
theorem dL_law_853 : decode cL_law 853 = .ok (.aload_n 0, 1) := by decide +kernel
theorem dL_law_854 : decode cL_law 854 = .ok (.iload 5, 2) := by decide +kernel
theorem dL_law_856 : decode cL_law 856 = .ok (.iconst 1, 1) := by decide +kernel
theorem dL_law_857 : decode cL_law 857 = .ok (.iadd, 1) := by decide +kernel
theorem dL_law_858 : decode cL_law 858 = .ok (.iaload, 1) := by decide +kernel
theorem dL_law_859 : decode cL_law 859 = .ok (.aload_n 0, 1) := by decide +kernel
theorem dL_law_860 : decode cL_law 860 = .ok (.iload 5, 2) := by decide +kernel
theorem dL_law_862 : decode cL_law 862 = .ok (.iconst 2, 1) := by decide +kernel
theorem dL_law_863 : decode cL_law 863 = .ok (.iadd, 1) := by decide +kernel
theorem dL_law_864 : decode cL_law 864 = .ok (.iaload, 1) := by decide +kernel
theorem dL_law_865 : decode cL_law 865 = .ok (.ifCond .eq 7, 3) := by decide +kernel
theorem dL_law_872 : decode cL_law 872 = .ok (.iconst 0, 1) := by decide +kernel
theorem dL_law_873 : decode cL_law 873 = .ok (.aload_n 3, 1) := by decide +kernel
theorem dL_law_874 : decode cL_law 874 = .ok (.invokestatic 242, 3) := by decide +kernel
theorem dL_law_877 : decode cL_law 877 = .ok (.istore 6, 2) := by decide +kernel
theorem dL_law_879 : decode cL_law 879 = .ok (.aload_n 2, 1) := by decide +kernel
theorem dL_law_880 : decode cL_law 880 = .ok (.aload_n 0, 1) := by decide +kernel
theorem dL_law_881 : decode cL_law 881 = .ok (.iload 5, 2) := by decide +kernel
theorem dL_law_883 : decode cL_law 883 = .ok (.iconst 1, 1) := by decide +kernel
theorem dL_law_884 : decode cL_law 884 = .ok (.iadd, 1) := by decide +kernel
theorem dL_law_885 : decode cL_law 885 = .ok (.iaload, 1) := by decide +kernel
theorem dL_law_886 : decode cL_law 886 = .ok (.aload_n 0, 1) := by decide +kernel
theorem dL_law_887 : decode cL_law 887 = .ok (.iload 5, 2) := by decide +kernel
theorem dL_law_889 : decode cL_law 889 = .ok (.iconst 2, 1) := by decide +kernel
theorem dL_law_890 : decode cL_law 890 = .ok (.iadd, 1) := by decide +kernel
theorem dL_law_891 : decode cL_law 891 = .ok (.iaload, 1) := by decide +kernel
theorem dL_law_892 : decode cL_law 892 = .ok (.ifCond .eq 7, 3) := by decide +kernel
theorem dL_law_899 : decode cL_law 899 = .ok (.iconst 0, 1) := by decide +kernel
theorem dL_law_900 : decode cL_law 900 = .ok (.invokevirtual 245, 3) := by decide +kernel
theorem dL_law_903 : decode cL_law 903 = .ok (.istore 7, 2) := by decide +kernel
theorem dL_law_905 : decode cL_law 905 = .ok (.goto 1170, 3) := by decide +kernel
theorem dL_law_2075 : decode cL_law 2075 = .ok (.iinc 5 6, 3) := by decide +kernel
theorem dL_law_2078 : decode cL_law 2078 = .ok (.goto (-2050), 3) := by decide +kernel
theorem dL_law_2081 : decode cL_law 2081 = .ok (.iconst 1, 1) := by decide +kernel
theorem dL_law_2082 : decode cL_law 2082 = .ok (.ireturn, 1) := by decide +kernel
