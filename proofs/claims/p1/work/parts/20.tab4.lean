abbrev P_X11_addBoards : Nat → ce_N → Prop := ce_OKN "Carcasswright" "addBoards" cX11_addBoards 7 (some .int) 2 (some [])
noncomputable def tb_X11_addBoards_0 : List (Nat × ce_N) := [(0, ce_li (ce_iload 1 1)),
  (1, ce_call 1 0 0 4 (.inr true) F_X11_isNoColour),
  (4, ce_li (ce_if true false true 32 7)),
  (7, ce_li (ce_iload 2 8)),
  (8, ce_li (ce_push (.inl (.inl (18))) 10)),
  (10, ce_li (ce_icmp true false false 19 13)),
  (13, ce_li (ce_iload 2 14)),
  (14, ce_li (ce_push (.inl (.inl (8))) 16)),
  (16, ce_li (ce_icmp true false true 32 19)),
  (19, ce_li (ce_iload 3 20)),
  (20, ce_li (ce_push (.inl (.inl (300))) 23)),
  (23, ce_li (ce_push (.inl (.inl (2800))) 26)),
  (26, ce_call 3 0 0 29 (.inr true) F_X11_isOutside),
  (29, ce_li (ce_if true false false 40 32))]
theorem tk_X11_addBoards_0 : ∀ x ∈ tb_X11_addBoards_0, P_X11_addBoards x.1 x.2 :=
  ce_fc (P := P_X11_addBoards) (ok_li (ok_iload_n dX11_addBoards_0 rfl)) (
  ce_fc (P := P_X11_addBoards) (ok_call (ru_S m_X11_isNoColour (by decide) (by decide) gw_963 gw_961 gw_962 gw_1 hp_X11_isNoColour dX11_addBoards_1) ca_t) (
  ce_fc (P := P_X11_addBoards) (ok_li (ok_if_ne dX11_addBoards_4 (by decide))) (
  ce_fc (P := P_X11_addBoards) (ok_li (ok_iload_n dX11_addBoards_7 rfl)) (
  ce_fc (P := P_X11_addBoards) (ok_li (ok_bipush dX11_addBoards_8 (by decide))) (
  ce_fc (P := P_X11_addBoards) (ok_li (ok_icmp_eq dX11_addBoards_10 (by decide))) (
  ce_fc (P := P_X11_addBoards) (ok_li (ok_iload_n dX11_addBoards_13 rfl)) (
  ce_fc (P := P_X11_addBoards) (ok_li (ok_bipush dX11_addBoards_14 (by decide))) (
  ce_fc (P := P_X11_addBoards) (ok_li (ok_icmp_ne dX11_addBoards_16 (by decide))) (
  ce_fc (P := P_X11_addBoards) (ok_li (ok_iload_n dX11_addBoards_19 rfl)) (
  ce_fc (P := P_X11_addBoards) (ok_li (ok_sipush dX11_addBoards_20 (by decide))) (
  ce_fc (P := P_X11_addBoards) (ok_li (ok_sipush dX11_addBoards_23 (by decide))) (
  ce_fc (P := P_X11_addBoards) (ok_call (ru_S m_X11_isOutside (by decide) (by decide) gw_724 gw_722 gw_723 gw_1 hp_X11_isOutside dX11_addBoards_26) ca_t) (
  ce_fc (P := P_X11_addBoards) (ok_li (ok_if_eq dX11_addBoards_29 (by decide))) (
  ce_fn (P := P_X11_addBoards)))))))))))))))
noncomputable def tb_X11_addBoards_1 : List (Nat × ce_N) := [(32, ce_thr 0),
  (40, ce_li (ce_iload 4 42)),
  (42, ce_li (ce_push (.inl (.inl (300))) 45)),
  (45, ce_li (ce_push (.inl (.inl (2100))) 48)),
  (48, ce_call 3 0 0 51 (.inr true) F_X11_isOutside),
  (51, ce_li (ce_if true false true 65 54)),
  (54, ce_li (ce_iload 5 56)),
  (56, ce_li (ce_push (.inl (.inl (1))) 57)),
  (57, ce_li (ce_push (.inl (.inl (20))) 59)),
  (59, ce_call 3 0 0 62 (.inr true) F_X11_isOutside),
  (62, ce_li (ce_if true false false 73 65)),
  (65, ce_thr 0),
  (73, ce_li (ce_aload 0 74)),
  (74, ce_li (ce_getf 15 2 77))]
theorem tk_X11_addBoards_1 : ∀ x ∈ tb_X11_addBoards_1, P_X11_addBoards x.1 x.2 :=
  ce_fc (P := P_X11_addBoards) (ok_thr (k := 0) (names := ["java/lang/RuntimeException", "java/lang/Exception"]) dX11_addBoards_32 dX11_addBoards_35 dX11_addBoards_36 dX11_addBoards_39 rfl (by decide +kernel) (by decide +kernel) (by decide) gw_725 gw_20 (th_0 gw_734) (by decide +kernel) (by decide +kernel)) (
  ce_fc (P := P_X11_addBoards) (ok_li (ok_iload dX11_addBoards_40)) (
  ce_fc (P := P_X11_addBoards) (ok_li (ok_sipush dX11_addBoards_42 (by decide))) (
  ce_fc (P := P_X11_addBoards) (ok_li (ok_sipush dX11_addBoards_45 (by decide))) (
  ce_fc (P := P_X11_addBoards) (ok_call (ru_S m_X11_isOutside (by decide) (by decide) gw_724 gw_722 gw_723 gw_1 hp_X11_isOutside dX11_addBoards_48) ca_t) (
  ce_fc (P := P_X11_addBoards) (ok_li (ok_if_ne dX11_addBoards_51 (by decide))) (
  ce_fc (P := P_X11_addBoards) (ok_li (ok_iload dX11_addBoards_54)) (
  ce_fc (P := P_X11_addBoards) (ok_li (ok_iconst dX11_addBoards_56)) (
  ce_fc (P := P_X11_addBoards) (ok_li (ok_bipush dX11_addBoards_57 (by decide))) (
  ce_fc (P := P_X11_addBoards) (ok_call (ru_S m_X11_isOutside (by decide) (by decide) gw_724 gw_722 gw_723 gw_1 hp_X11_isOutside dX11_addBoards_59) ca_t) (
  ce_fc (P := P_X11_addBoards) (ok_li (ok_if_eq dX11_addBoards_62 (by decide))) (
  ce_fc (P := P_X11_addBoards) (ok_thr (k := 0) (names := ["java/lang/RuntimeException", "java/lang/Exception"]) dX11_addBoards_65 dX11_addBoards_68 dX11_addBoards_69 dX11_addBoards_72 rfl (by decide +kernel) (by decide +kernel) (by decide) gw_725 gw_20 (th_0 gw_734) (by decide +kernel) (by decide +kernel)) (
  ce_fc (P := P_X11_addBoards) (ok_li (ok_aload_n dX11_addBoards_73 rfl)) (
  ce_fc (P := P_X11_addBoards) (ok_li (ok_getf (ci := 15) (k := 2) (C := RX11) (T := TX11) (N := 7) dX11_addBoards_74 rfl ce_uX11 (by decide) gw_456 (fun _ _ _ _ h => h))) (
  ce_fn (P := P_X11_addBoards)))))))))))))))
noncomputable def tb_X11_addBoards_2 : List (Nat × ce_N) := [(77, ce_li (ce_getf 12 1 80)),
  (80, ce_li (ce_iload 5 82)),
  (82, ce_li (ce_bin ce_addo 83)),
  (83, ce_li (ce_push (.inl (.inl (60))) 85)),
  (85, ce_li (ce_icmp false true true 96 88)),
  (96, ce_li (ce_push (.inl (.inl (0))) 97)),
  (97, ce_li (ce_istore 6 99 7)),
  (99, ce_li (ce_iload 6 101)),
  (101, ce_li (ce_iload 5 103)),
  (103, ce_li (ce_icmp false false true 126 106)),
  (106, ce_li (ce_aload 0 107)),
  (107, ce_li (ce_getf 15 2 110)),
  (110, ce_li (ce_iload 1 111)),
  (111, ce_li (ce_iload 2 112))]
theorem tk_X11_addBoards_2 : ∀ x ∈ tb_X11_addBoards_2, P_X11_addBoards x.1 x.2 :=
  ce_fc (P := P_X11_addBoards) (ok_li (ok_getf (ci := 12) (k := 1) (C := RX8) (T := TX8) (N := 5) dX11_addBoards_77 rfl ce_uX8 (by decide) gw_334 (fun _ _ _ _ h => h))) (
  ce_fc (P := P_X11_addBoards) (ok_li (ok_iload dX11_addBoards_80)) (
  ce_fc (P := P_X11_addBoards) (ok_li (ok_iadd dX11_addBoards_82)) (
  ce_fc (P := P_X11_addBoards) (ok_li (ok_bipush dX11_addBoards_83 (by decide))) (
  ce_fc (P := P_X11_addBoards) (ok_li (ok_icmp_le dX11_addBoards_85 (by decide))) (
  ce_fc (P := P_X11_addBoards) (ok_li (ok_iconst dX11_addBoards_96)) (
  ce_fc (P := P_X11_addBoards) (ok_li (ok_istore dX11_addBoards_97)) (
  ce_fc (P := P_X11_addBoards) (ok_li (ok_iload dX11_addBoards_99)) (
  ce_fc (P := P_X11_addBoards) (ok_li (ok_iload dX11_addBoards_101)) (
  ce_fc (P := P_X11_addBoards) (ok_li (ok_icmp_ge dX11_addBoards_103 (by decide))) (
  ce_fc (P := P_X11_addBoards) (ok_li (ok_aload_n dX11_addBoards_106 rfl)) (
  ce_fc (P := P_X11_addBoards) (ok_li (ok_getf (ci := 15) (k := 2) (C := RX11) (T := TX11) (N := 7) dX11_addBoards_107 rfl ce_uX11 (by decide) gw_456 (fun _ _ _ _ h => h))) (
  ce_fc (P := P_X11_addBoards) (ok_li (ok_iload_n dX11_addBoards_110 rfl)) (
  ce_fc (P := P_X11_addBoards) (ok_li (ok_iload_n dX11_addBoards_111 rfl)) (
  ce_fn (P := P_X11_addBoards)))))))))))))))
noncomputable def tb_X11_addBoards_3 : List (Nat × ce_N) := [(112, ce_li (ce_iload 3 113)),
  (113, ce_li (ce_iload 4 115)),
  (115, ce_li (ce_push (.inl (.inl (0))) 116)),
  (116, ce_call 6 0 0 119 (.inr true) (ce_CV 12 F_X8_append)),
  (119, ce_li (ce_pop 120)),
  (120, ce_li (ce_iinc 6 (1) 123 7)),
  (123, ce_li (ce_goto 99)),
  (126, ce_li (ce_aload 0 127)),
  (127, ce_li (ce_getf 15 2 130)),
  (130, ce_li (ce_dup 131)),
  (131, ce_li (ce_getf 12 2 134)),
  (134, ce_li (ce_iload 5 136)),
  (136, ce_li (ce_i2l 137)),
  (137, ce_li (ce_iload 3 138))]
theorem tk_X11_addBoards_3 : ∀ x ∈ tb_X11_addBoards_3, P_X11_addBoards x.1 x.2 :=
  ce_fc (P := P_X11_addBoards) (ok_li (ok_iload_n dX11_addBoards_112 rfl)) (
  ce_fc (P := P_X11_addBoards) (ok_li (ok_iload dX11_addBoards_113)) (
  ce_fc (P := P_X11_addBoards) (ok_li (ok_iconst dX11_addBoards_115)) (
  ce_fc (P := P_X11_addBoards) (ok_call (ru_V (ci := 12) (C := RX8) (Tf := TX8) (N := 5) m_X8_append (by decide) (by decide) rfl gw_1219 gw_1216 gw_1217 gw_1218 gw_8 ⟨rfl, hp_X8_append⟩ dX11_addBoards_116) ca_t) (
  ce_fc (P := P_X11_addBoards) (ok_li (ok_pop dX11_addBoards_119)) (
  ce_fc (P := P_X11_addBoards) (ok_li (ok_iinc dX11_addBoards_120)) (
  ce_fc (P := P_X11_addBoards) (ok_li (ok_goto dX11_addBoards_123 (by decide))) (
  ce_fc (P := P_X11_addBoards) (ok_li (ok_aload_n dX11_addBoards_126 rfl)) (
  ce_fc (P := P_X11_addBoards) (ok_li (ok_getf (ci := 15) (k := 2) (C := RX11) (T := TX11) (N := 7) dX11_addBoards_127 rfl ce_uX11 (by decide) gw_456 (fun _ _ _ _ h => h))) (
  ce_fc (P := P_X11_addBoards) (ok_li (ok_dup dX11_addBoards_130)) (
  ce_fc (P := P_X11_addBoards) (ok_li (ok_getf (ci := 12) (k := 2) (C := RX8) (T := TX8) (N := 5) dX11_addBoards_131 rfl ce_uX8 (by decide) gw_335 (fun _ _ _ _ h => h))) (
  ce_fc (P := P_X11_addBoards) (ok_li (ok_iload dX11_addBoards_134)) (
  ce_fc (P := P_X11_addBoards) (ok_li (ok_i2l dX11_addBoards_136)) (
  ce_fc (P := P_X11_addBoards) (ok_li (ok_iload_n dX11_addBoards_137 rfl)) (
  ce_fn (P := P_X11_addBoards)))))))))))))))
noncomputable def tb_X11_addBoards_4 : List (Nat × ce_N) := [(138, ce_li (ce_i2l 139)),
  (139, ce_li (ce_binL ce_lmul 140)),
  (140, ce_li (ce_iload 4 142)),
  (142, ce_li (ce_i2l 143)),
  (143, ce_li (ce_binL ce_lmul 144)),
  (144, ce_li (ce_binL ce_ladd 145)),
  (145, ce_li (ce_putf (tyX8 2) 12 2 148)),
  (148, ce_li (ce_aload 0 149)),
  (149, ce_li (ce_getf 15 2 152)),
  (152, ce_li (ce_getf 12 1 155)),
  (155, ce_reti .int)]
theorem tk_X11_addBoards_4 : ∀ x ∈ tb_X11_addBoards_4, P_X11_addBoards x.1 x.2 :=
  ce_fc (P := P_X11_addBoards) (ok_li (ok_i2l dX11_addBoards_138)) (
  ce_fc (P := P_X11_addBoards) (ok_li (ok_lmul dX11_addBoards_139)) (
  ce_fc (P := P_X11_addBoards) (ok_li (ok_iload dX11_addBoards_140)) (
  ce_fc (P := P_X11_addBoards) (ok_li (ok_i2l dX11_addBoards_142)) (
  ce_fc (P := P_X11_addBoards) (ok_li (ok_lmul dX11_addBoards_143)) (
  ce_fc (P := P_X11_addBoards) (ok_li (ok_ladd dX11_addBoards_144)) (
  ce_fc (P := P_X11_addBoards) (ok_li (ok_putf (ci := 12) (k := 2) (C := RX8) (T := TX8) (N := 5) (ty0 := tyX8) dX11_addBoards_145 rfl ce_uX8 (by decide) gw_335 (fun _ _ _ _ h => h) tyX8_ok nmX8 (Or.inl rfl))) (
  ce_fc (P := P_X11_addBoards) (ok_li (ok_aload_n dX11_addBoards_148 rfl)) (
  ce_fc (P := P_X11_addBoards) (ok_li (ok_getf (ci := 15) (k := 2) (C := RX11) (T := TX11) (N := 7) dX11_addBoards_149 rfl ce_uX11 (by decide) gw_456 (fun _ _ _ _ h => h))) (
  ce_fc (P := P_X11_addBoards) (ok_li (ok_getf (ci := 12) (k := 1) (C := RX8) (T := TX8) (N := 5) dX11_addBoards_152 rfl ce_uX8 (by decide) gw_334 (fun _ _ _ _ h => h))) (
  ce_fc (P := P_X11_addBoards) (ok_reti dX11_addBoards_155 rfl) (
  ce_fn (P := P_X11_addBoards))))))))))))
noncomputable def ta_X11_addBoards : Nat → Option ce_N := (ce_tr 77 (ce_tr 32 (ce_fd tb_X11_addBoards_0) (ce_fd tb_X11_addBoards_1)) (ce_tr 112 (ce_fd tb_X11_addBoards_2) (ce_tr 138 (ce_fd tb_X11_addBoards_3) (ce_fd tb_X11_addBoards_4))))
theorem tx_X11_addBoards : ∀ pc f, ta_X11_addBoards pc = some f → P_X11_addBoards pc f := (ce_tr_ok (P := P_X11_addBoards) (ce_tr_ok (P := P_X11_addBoards) (ce_fd_ok (P := P_X11_addBoards) tk_X11_addBoards_0) (ce_fd_ok (P := P_X11_addBoards) tk_X11_addBoards_1)) (ce_tr_ok (P := P_X11_addBoards) (ce_fd_ok (P := P_X11_addBoards) tk_X11_addBoards_2) (ce_tr_ok (P := P_X11_addBoards) (ce_fd_ok (P := P_X11_addBoards) tk_X11_addBoards_3) (ce_fd_ok (P := P_X11_addBoards) tk_X11_addBoards_4))))
noncomputable def F_X11_addBoards : ce_C := ce_M ta_X11_addBoards 7 1 6 1000000
theorem m_X11_addBoards : ∀ l : Launch, l.stackTraces = false → ce_MS l yX11_addBoards (.code yX11_addBoards cX11_addBoards 7 (some .int)) 2 1 6 F_X11_addBoards := fun l hl => ce_met hl (by decide +kernel) tx_X11_addBoards
theorem hp_X11_addBoards : yX11_addBoards.cls ≠ "java/lang/invoke/MethodHandle" ∧ yX11_addBoards.cls ≠ "java/lang/invoke/VarHandle" ∧ (parseMethodDescriptor yX11_addBoards.desc).map (fun d => d.parameters.length) = some 5 := by decide +kernel
abbrev P_X11_addType : Nat → ce_N → Prop := ce_OKN "Carcasswright" "addType" cX11_addType 1 (some .int) 2 (some [])
noncomputable def tb_X11_addType_0 : List (Nat × ce_N) := [(0, ce_li (ce_aload 0 1)),
  (1, ce_li (ce_getf 15 0 4)),
  (4, ce_call 1 0 0 7 (.inr true) (ce_CV 13 F_X9_read)),
  (7, ce_li (ce_aload 0 8)),
  (8, ce_li (ce_getf 15 0 11)),
  (11, ce_call 1 0 0 14 (.inr true) (ce_CV 13 F_X9_hasFault)),
  (14, ce_li (ce_if true false false 25 17)),
  (17, ce_thr 0)]
theorem tk_X11_addType_0 : ∀ x ∈ tb_X11_addType_0, P_X11_addType x.1 x.2 :=
  ce_fc (P := P_X11_addType) (ok_li (ok_aload_n dX11_addType_0 rfl)) (
  ce_fc (P := P_X11_addType) (ok_li (ok_getf (ci := 15) (k := 0) (C := RX11) (T := TX11) (N := 7) dX11_addType_1 rfl ce_uX11 (by decide) gw_454 (fun _ _ _ _ h => h))) (
  ce_fc (P := P_X11_addType) (ok_call (ru_V (ci := 13) (C := RX9) (Tf := TX9) (N := 10) m_X9_read (by decide) (by decide) rfl gw_856 gw_853 gw_854 gw_855 gw_2 ⟨rfl, hp_X9_read⟩ dX11_addType_4) ca_t) (
  ce_fc (P := P_X11_addType) (ok_li (ok_aload_n dX11_addType_7 rfl)) (
  ce_fc (P := P_X11_addType) (ok_li (ok_getf (ci := 15) (k := 0) (C := RX11) (T := TX11) (N := 7) dX11_addType_8 rfl ce_uX11 (by decide) gw_454 (fun _ _ _ _ h => h))) (
  ce_fc (P := P_X11_addType) (ok_call (ru_V (ci := 13) (C := RX9) (Tf := TX9) (N := 10) m_X9_hasFault (by decide) (by decide) rfl gw_864 gw_911 gw_862 gw_863 gw_2 ⟨rfl, hp_X9_hasFault⟩ dX11_addType_11) ca_t) (
  ce_fc (P := P_X11_addType) (ok_li (ok_if_eq dX11_addType_14 (by decide))) (
  ce_fc (P := P_X11_addType) (ok_thr (k := 0) (names := ["java/lang/RuntimeException", "java/lang/Exception"]) dX11_addType_17 dX11_addType_20 dX11_addType_21 dX11_addType_24 rfl (by decide +kernel) (by decide +kernel) (by decide) gw_725 gw_20 (th_0 gw_734) (by decide +kernel) (by decide +kernel)) (
  ce_fn (P := P_X11_addType)))))))))
noncomputable def ta_X11_addType : Nat → Option ce_N := (ce_fd tb_X11_addType_0)
theorem tx_X11_addType : ∀ pc f, ta_X11_addType pc = some f → P_X11_addType pc f := (ce_fd_ok (P := P_X11_addType) tk_X11_addType_0)
noncomputable def F_X11_addType : ce_C := ce_M ta_X11_addType 1 1 6 1000000
theorem m_X11_addType : ∀ l : Launch, l.stackTraces = false → ce_MS l yX11_addType (.code yX11_addType cX11_addType 1 (some .int)) 2 1 6 F_X11_addType := fun l hl => ce_met hl (by decide +kernel) tx_X11_addType
theorem hp_X11_addType : yX11_addType.cls ≠ "java/lang/invoke/MethodHandle" ∧ yX11_addType.cls ≠ "java/lang/invoke/VarHandle" ∧ (parseMethodDescriptor yX11_addType.desc).map (fun d => d.parameters.length) = some 0 := by decide +kernel
abbrev P_X11_addWall : Nat → ce_N → Prop := ce_OKN "Carcasswright" "addWall" cX11_addWall 4 (some .int) 2 (some [])
noncomputable def tb_X11_addWall_0 : List (Nat × ce_N) := [(0, ce_li (ce_iload 1 1)),
  (1, ce_li (ce_push (.inl (.inl (101))) 3)),
  (3, ce_li (ce_icmp true false false 24 6)),
  (6, ce_li (ce_iload 1 7)),
  (7, ce_li (ce_push (.inl (.inl (119))) 9)),
  (9, ce_li (ce_icmp true false false 24 12)),
  (12, ce_li (ce_iload 1 13)),
  (13, ce_li (ce_push (.inl (.inl (110))) 15)),
  (15, ce_li (ce_icmp true false false 24 18)),
  (18, ce_li (ce_iload 1 19)),
  (19, ce_li (ce_push (.inl (.inl (115))) 21)),
  (21, ce_li (ce_icmp true false true 28 24)),
  (24, ce_li (ce_push (.inl (.inl (1))) 25)),
  (25, ce_li (ce_goto 29))]
theorem tk_X11_addWall_0 : ∀ x ∈ tb_X11_addWall_0, P_X11_addWall x.1 x.2 :=
  ce_fc (P := P_X11_addWall) (ok_li (ok_iload_n dX11_addWall_0 rfl)) (
  ce_fc (P := P_X11_addWall) (ok_li (ok_bipush dX11_addWall_1 (by decide))) (
  ce_fc (P := P_X11_addWall) (ok_li (ok_icmp_eq dX11_addWall_3 (by decide))) (
  ce_fc (P := P_X11_addWall) (ok_li (ok_iload_n dX11_addWall_6 rfl)) (
  ce_fc (P := P_X11_addWall) (ok_li (ok_bipush dX11_addWall_7 (by decide))) (
  ce_fc (P := P_X11_addWall) (ok_li (ok_icmp_eq dX11_addWall_9 (by decide))) (
  ce_fc (P := P_X11_addWall) (ok_li (ok_iload_n dX11_addWall_12 rfl)) (
  ce_fc (P := P_X11_addWall) (ok_li (ok_bipush dX11_addWall_13 (by decide))) (
  ce_fc (P := P_X11_addWall) (ok_li (ok_icmp_eq dX11_addWall_15 (by decide))) (
  ce_fc (P := P_X11_addWall) (ok_li (ok_iload_n dX11_addWall_18 rfl)) (
  ce_fc (P := P_X11_addWall) (ok_li (ok_bipush dX11_addWall_19 (by decide))) (
  ce_fc (P := P_X11_addWall) (ok_li (ok_icmp_ne dX11_addWall_21 (by decide))) (
  ce_fc (P := P_X11_addWall) (ok_li (ok_iconst dX11_addWall_24)) (
  ce_fc (P := P_X11_addWall) (ok_li (ok_goto dX11_addWall_25 (by decide))) (
  ce_fn (P := P_X11_addWall)))))))))))))))
noncomputable def tb_X11_addWall_1 : List (Nat × ce_N) := [(28, ce_li (ce_push (.inl (.inl (0))) 29)),
  (29, ce_li (ce_istore 3 30 4)),
  (30, ce_li (ce_iload 3 31)),
  (31, ce_li (ce_if true false false 47 34)),
  (34, ce_li (ce_iload 2 35)),
  (35, ce_li (ce_push (.inl (.inl (500))) 38)),
  (38, ce_li (ce_push (.inl (.inl (9999))) 41)),
  (41, ce_call 3 0 0 44 (.inr true) F_X11_isOutside),
  (44, ce_li (ce_if true false false 55 47)),
  (47, ce_thr 0),
  (55, ce_li (ce_aload 0 56)),
  (56, ce_li (ce_getf 15 1 59)),
  (59, ce_li (ce_getf 10 6 62)),
  (62, ce_li (ce_push (.inl (.inl (6))) 64))]
theorem tk_X11_addWall_1 : ∀ x ∈ tb_X11_addWall_1, P_X11_addWall x.1 x.2 :=
  ce_fc (P := P_X11_addWall) (ok_li (ok_iconst dX11_addWall_28)) (
  ce_fc (P := P_X11_addWall) (ok_li (ok_istore_n dX11_addWall_29 rfl)) (
  ce_fc (P := P_X11_addWall) (ok_li (ok_iload_n dX11_addWall_30 rfl)) (
  ce_fc (P := P_X11_addWall) (ok_li (ok_if_eq dX11_addWall_31 (by decide))) (
  ce_fc (P := P_X11_addWall) (ok_li (ok_iload_n dX11_addWall_34 rfl)) (
  ce_fc (P := P_X11_addWall) (ok_li (ok_sipush dX11_addWall_35 (by decide))) (
  ce_fc (P := P_X11_addWall) (ok_li (ok_sipush dX11_addWall_38 (by decide))) (
  ce_fc (P := P_X11_addWall) (ok_call (ru_S m_X11_isOutside (by decide) (by decide) gw_724 gw_722 gw_723 gw_1 hp_X11_isOutside dX11_addWall_41) ca_t) (
  ce_fc (P := P_X11_addWall) (ok_li (ok_if_eq dX11_addWall_44 (by decide))) (
  ce_fc (P := P_X11_addWall) (ok_thr (k := 0) (names := ["java/lang/RuntimeException", "java/lang/Exception"]) dX11_addWall_47 dX11_addWall_50 dX11_addWall_51 dX11_addWall_54 rfl (by decide +kernel) (by decide +kernel) (by decide) gw_725 gw_20 (th_0 gw_734) (by decide +kernel) (by decide +kernel)) (
  ce_fc (P := P_X11_addWall) (ok_li (ok_aload_n dX11_addWall_55 rfl)) (
  ce_fc (P := P_X11_addWall) (ok_li (ok_getf (ci := 15) (k := 1) (C := RX11) (T := TX11) (N := 7) dX11_addWall_56 rfl ce_uX11 (by decide) gw_455 (fun _ _ _ _ h => h))) (
  ce_fc (P := P_X11_addWall) (ok_li (ok_getf (ci := 10) (k := 6) (C := RX6) (T := TX6) (N := 10) dX11_addWall_59 rfl ce_uX6 (by decide) gw_256 (fun _ _ _ _ h => h))) (
  ce_fc (P := P_X11_addWall) (ok_li (ok_bipush dX11_addWall_62 (by decide))) (
  ce_fn (P := P_X11_addWall)))))))))))))))
noncomputable def tb_X11_addWall_2 : List (Nat × ce_N) := [(64, ce_li (ce_icmp false false true 77 67)),
  (67, ce_li (ce_aload 0 68)),
  (68, ce_li (ce_getf 15 1 71)),
  (71, ce_li (ce_getf 10 8 74)),
  (74, ce_li (ce_if false true true 85 77)),
  (85, ce_li (ce_aload 0 86)),
  (86, ce_li (ce_getf 15 1 89)),
  (89, ce_li (ce_iload 1 90)),
  (90, ce_li (ce_iload 2 91)),
  (91, ce_call 3 1 6 94 (.inr true) (ce_CV 10 F_X6_build)),
  (94, ce_reti .int)]
theorem tk_X11_addWall_2 : ∀ x ∈ tb_X11_addWall_2, P_X11_addWall x.1 x.2 :=
  ce_fc (P := P_X11_addWall) (ok_li (ok_icmp_ge dX11_addWall_64 (by decide))) (
  ce_fc (P := P_X11_addWall) (ok_li (ok_aload_n dX11_addWall_67 rfl)) (
  ce_fc (P := P_X11_addWall) (ok_li (ok_getf (ci := 15) (k := 1) (C := RX11) (T := TX11) (N := 7) dX11_addWall_68 rfl ce_uX11 (by decide) gw_455 (fun _ _ _ _ h => h))) (
  ce_fc (P := P_X11_addWall) (ok_li (ok_getf (ci := 10) (k := 8) (C := RX6) (T := TX6) (N := 10) dX11_addWall_71 rfl ce_uX6 (by decide) gw_259 (fun _ _ _ _ h => h))) (
  ce_fc (P := P_X11_addWall) (ok_li (ok_if_le dX11_addWall_74 (by decide))) (
  ce_fc (P := P_X11_addWall) (ok_li (ok_aload_n dX11_addWall_85 rfl)) (
  ce_fc (P := P_X11_addWall) (ok_li (ok_getf (ci := 15) (k := 1) (C := RX11) (T := TX11) (N := 7) dX11_addWall_86 rfl ce_uX11 (by decide) gw_455 (fun _ _ _ _ h => h))) (
  ce_fc (P := P_X11_addWall) (ok_li (ok_iload_n dX11_addWall_89 rfl)) (
  ce_fc (P := P_X11_addWall) (ok_li (ok_iload_n dX11_addWall_90 rfl)) (
  ce_fc (P := P_X11_addWall) (ok_call (ru_V (ci := 10) (C := RX6) (Tf := TX6) (N := 10) m_X6_build (by decide) (by decide) rfl gw_758 gw_755 gw_756 gw_757 gw_4 ⟨rfl, hp_X6_build⟩ dX11_addWall_91) ca_t) (
  ce_fc (P := P_X11_addWall) (ok_reti dX11_addWall_94 rfl) (
  ce_fn (P := P_X11_addWall))))))))))))
noncomputable def ta_X11_addWall : Nat → Option ce_N := (ce_tr 28 (ce_fd tb_X11_addWall_0) (ce_tr 64 (ce_fd tb_X11_addWall_1) (ce_fd tb_X11_addWall_2)))
theorem tx_X11_addWall : ∀ pc f, ta_X11_addWall pc = some f → P_X11_addWall pc f := (ce_tr_ok (P := P_X11_addWall) (ce_fd_ok (P := P_X11_addWall) tk_X11_addWall_0) (ce_tr_ok (P := P_X11_addWall) (ce_fd_ok (P := P_X11_addWall) tk_X11_addWall_1) (ce_fd_ok (P := P_X11_addWall) tk_X11_addWall_2)))
noncomputable def F_X11_addWall : ce_C := ce_M ta_X11_addWall 4 1 6 1000000
theorem m_X11_addWall : ∀ l : Launch, l.stackTraces = false → ce_MS l yX11_addWall (.code yX11_addWall cX11_addWall 4 (some .int)) 2 1 6 F_X11_addWall := fun l hl => ce_met hl (by decide +kernel) tx_X11_addWall
theorem hp_X11_addWall : yX11_addWall.cls ≠ "java/lang/invoke/MethodHandle" ∧ yX11_addWall.cls ≠ "java/lang/invoke/VarHandle" ∧ (parseMethodDescriptor yX11_addWall.desc).map (fun d => d.parameters.length) = some 2 := by decide +kernel
abbrev P_X11_clamp : Nat → ce_N → Prop := ce_OKN "Carcasswright" "clamp" cX11_clamp 7 (some .int) 2 (some [])
noncomputable def tb_X11_clamp_0 : List (Nat × ce_N) := [(0, ce_li (ce_aload 0 1)),
  (1, ce_li (ce_iload 1 2)),
  (2, ce_li (ce_iload 2 3)),
  (3, ce_call 3 1 6 6 (.inr true) (ce_CV 15 F_X11_moduleWithPart))]
theorem tk_X11_clamp_0 : ∀ x ∈ tb_X11_clamp_0, P_X11_clamp x.1 x.2 :=
  ce_fc (P := P_X11_clamp) (ok_li (ok_aload_n dX11_clamp_0 rfl)) (
  ce_fc (P := P_X11_clamp) (ok_li (ok_iload_n dX11_clamp_1 rfl)) (
  ce_fc (P := P_X11_clamp) (ok_li (ok_iload_n dX11_clamp_2 rfl)) (
  ce_fc (P := P_X11_clamp) (ok_call (ru_V (ci := 15) (C := RX11) (Tf := TX11) (N := 7) m_X11_moduleWithPart (by decide) (by decide) rfl gw_1085 gw_1082 gw_1084 gp_1 gw_1 ⟨rfl, hp_X11_moduleWithPart⟩ dX11_clamp_3) ca_t) (
  ce_fn (P := P_X11_clamp)))))
noncomputable def ta_X11_clamp : Nat → Option ce_N := (ce_fd tb_X11_clamp_0)
theorem tx_X11_clamp : ∀ pc f, ta_X11_clamp pc = some f → P_X11_clamp pc f := (ce_fd_ok (P := P_X11_clamp) tk_X11_clamp_0)
noncomputable def F_X11_clamp : ce_C := ce_M ta_X11_clamp 7 1 6 1000000
theorem m_X11_clamp : ∀ l : Launch, l.stackTraces = false → ce_MS l yX11_clamp (.code yX11_clamp cX11_clamp 7 (some .int)) 2 1 6 F_X11_clamp := fun l hl => ce_met hl (by decide +kernel) tx_X11_clamp
theorem hp_X11_clamp : yX11_clamp.cls ≠ "java/lang/invoke/MethodHandle" ∧ yX11_clamp.cls ≠ "java/lang/invoke/VarHandle" ∧ (parseMethodDescriptor yX11_clamp.desc).map (fun d => d.parameters.length) = some 3 := by decide +kernel
abbrev P_X11_drills : Nat → ce_N → Prop := ce_OKN "Carcasswright" "drills" cX11_drills 7 (some .int) 2 (some [])
noncomputable def tb_X11_drills_0 : List (Nat × ce_N) := [(0, ce_li (ce_aload 0 1)),
  (1, ce_li (ce_iload 1 2)),
  (2, ce_li (ce_iload 2 3)),
  (3, ce_call 3 1 6 6 (.inr true) (ce_CV 15 F_X11_moduleWithPart))]
theorem tk_X11_drills_0 : ∀ x ∈ tb_X11_drills_0, P_X11_drills x.1 x.2 :=
  ce_fc (P := P_X11_drills) (ok_li (ok_aload_n dX11_drills_0 rfl)) (
  ce_fc (P := P_X11_drills) (ok_li (ok_iload_n dX11_drills_1 rfl)) (
  ce_fc (P := P_X11_drills) (ok_li (ok_iload_n dX11_drills_2 rfl)) (
  ce_fc (P := P_X11_drills) (ok_call (ru_V (ci := 15) (C := RX11) (Tf := TX11) (N := 7) m_X11_moduleWithPart (by decide) (by decide) rfl gw_1085 gw_1082 gw_1084 gp_1 gw_1 ⟨rfl, hp_X11_moduleWithPart⟩ dX11_drills_3) ca_t) (
  ce_fn (P := P_X11_drills)))))
noncomputable def ta_X11_drills : Nat → Option ce_N := (ce_fd tb_X11_drills_0)
theorem tx_X11_drills : ∀ pc f, ta_X11_drills pc = some f → P_X11_drills pc f := (ce_fd_ok (P := P_X11_drills) tk_X11_drills_0)
noncomputable def F_X11_drills : ce_C := ce_M ta_X11_drills 7 1 6 1000000
theorem m_X11_drills : ∀ l : Launch, l.stackTraces = false → ce_MS l yX11_drills (.code yX11_drills cX11_drills 7 (some .int)) 2 1 6 F_X11_drills := fun l hl => ce_met hl (by decide +kernel) tx_X11_drills
theorem hp_X11_drills : yX11_drills.cls ≠ "java/lang/invoke/MethodHandle" ∧ yX11_drills.cls ≠ "java/lang/invoke/VarHandle" ∧ (parseMethodDescriptor yX11_drills.desc).map (fun d => d.parameters.length) = some 2 := by decide +kernel
abbrev P_X11_fault : Nat → ce_N → Prop := ce_OKN "Carcasswright" "fault" cX11_fault 1 (some .int) 2 (some [])
noncomputable def tb_X11_fault_0 : List (Nat × ce_N) := [(0, ce_li (ce_aload 0 1)),
  (1, ce_li (ce_getf 15 0 4)),
  (4, ce_call 1 0 0 7 (.inr true) (ce_CV 13 F_X9_read)),
  (7, ce_li (ce_aload 0 8)),
  (8, ce_li (ce_getf 15 0 11)),
  (11, ce_call 1 0 0 14 (.inr true) (ce_CV 13 F_X9_hasFault)),
  (14, ce_li (ce_if true false true 25 17)),
  (25, ce_li (ce_aload 0 26)),
  (26, ce_li (ce_getf 15 0 29)),
  (29, ce_li (ce_getf 13 5 32)),
  (32, ce_reti .int)]
theorem tk_X11_fault_0 : ∀ x ∈ tb_X11_fault_0, P_X11_fault x.1 x.2 :=
  ce_fc (P := P_X11_fault) (ok_li (ok_aload_n dX11_fault_0 rfl)) (
  ce_fc (P := P_X11_fault) (ok_li (ok_getf (ci := 15) (k := 0) (C := RX11) (T := TX11) (N := 7) dX11_fault_1 rfl ce_uX11 (by decide) gw_454 (fun _ _ _ _ h => h))) (
  ce_fc (P := P_X11_fault) (ok_call (ru_V (ci := 13) (C := RX9) (Tf := TX9) (N := 10) m_X9_read (by decide) (by decide) rfl gw_856 gw_853 gw_854 gw_855 gw_2 ⟨rfl, hp_X9_read⟩ dX11_fault_4) ca_t) (
  ce_fc (P := P_X11_fault) (ok_li (ok_aload_n dX11_fault_7 rfl)) (
  ce_fc (P := P_X11_fault) (ok_li (ok_getf (ci := 15) (k := 0) (C := RX11) (T := TX11) (N := 7) dX11_fault_8 rfl ce_uX11 (by decide) gw_454 (fun _ _ _ _ h => h))) (
  ce_fc (P := P_X11_fault) (ok_call (ru_V (ci := 13) (C := RX9) (Tf := TX9) (N := 10) m_X9_hasFault (by decide) (by decide) rfl gw_864 gw_911 gw_862 gw_863 gw_2 ⟨rfl, hp_X9_hasFault⟩ dX11_fault_11) ca_t) (
  ce_fc (P := P_X11_fault) (ok_li (ok_if_ne dX11_fault_14 (by decide))) (
  ce_fc (P := P_X11_fault) (ok_li (ok_aload_n dX11_fault_25 rfl)) (
  ce_fc (P := P_X11_fault) (ok_li (ok_getf (ci := 15) (k := 0) (C := RX11) (T := TX11) (N := 7) dX11_fault_26 rfl ce_uX11 (by decide) gw_454 (fun _ _ _ _ h => h))) (
  ce_fc (P := P_X11_fault) (ok_li (ok_getf (ci := 13) (k := 5) (C := RX9) (T := TX9) (N := 10) dX11_fault_29 rfl ce_uX9 (by decide) gw_122 (fun _ _ _ _ h => h))) (
  ce_fc (P := P_X11_fault) (ok_reti dX11_fault_32 rfl) (
  ce_fn (P := P_X11_fault))))))))))))
noncomputable def ta_X11_fault : Nat → Option ce_N := (ce_fd tb_X11_fault_0)
theorem tx_X11_fault : ∀ pc f, ta_X11_fault pc = some f → P_X11_fault pc f := (ce_fd_ok (P := P_X11_fault) tk_X11_fault_0)
noncomputable def F_X11_fault : ce_C := ce_M ta_X11_fault 1 0 0 1000000
theorem m_X11_fault : ∀ l : Launch, l.stackTraces = false → ce_MS l yX11_fault (.code yX11_fault cX11_fault 1 (some .int)) 2 0 0 F_X11_fault := fun l hl => ce_met hl (by decide +kernel) tx_X11_fault
theorem hp_X11_fault : yX11_fault.cls ≠ "java/lang/invoke/MethodHandle" ∧ yX11_fault.cls ≠ "java/lang/invoke/VarHandle" ∧ (parseMethodDescriptor yX11_fault.desc).map (fun d => d.parameters.length) = some 0 := by decide +kernel
abbrev P_X11_faultKind : Nat → ce_N → Prop := ce_OKN "Carcasswright" "faultKind" cX11_faultKind 1 (some .char) 2 (some [])
noncomputable def tb_X11_faultKind_0 : List (Nat × ce_N) := [(0, ce_li (ce_aload 0 1)),
  (1, ce_li (ce_getf 15 0 4)),
  (4, ce_call 1 0 0 7 (.inr true) (ce_CV 13 F_X9_read)),
  (7, ce_li (ce_aload 0 8)),
  (8, ce_li (ce_getf 15 0 11)),
  (11, ce_call 1 0 0 14 (.inr true) (ce_CV 13 F_X9_hasFault)),
  (14, ce_li (ce_if true false true 25 17)),
  (25, ce_li (ce_aload 0 26)),
  (26, ce_li (ce_getf 15 0 29)),
  (29, ce_li (ce_getf 13 6 32)),
  (32, ce_reti .char)]
theorem tk_X11_faultKind_0 : ∀ x ∈ tb_X11_faultKind_0, P_X11_faultKind x.1 x.2 :=
  ce_fc (P := P_X11_faultKind) (ok_li (ok_aload_n dX11_faultKind_0 rfl)) (
  ce_fc (P := P_X11_faultKind) (ok_li (ok_getf (ci := 15) (k := 0) (C := RX11) (T := TX11) (N := 7) dX11_faultKind_1 rfl ce_uX11 (by decide) gw_454 (fun _ _ _ _ h => h))) (
  ce_fc (P := P_X11_faultKind) (ok_call (ru_V (ci := 13) (C := RX9) (Tf := TX9) (N := 10) m_X9_read (by decide) (by decide) rfl gw_856 gw_853 gw_854 gw_855 gw_2 ⟨rfl, hp_X9_read⟩ dX11_faultKind_4) ca_t) (
  ce_fc (P := P_X11_faultKind) (ok_li (ok_aload_n dX11_faultKind_7 rfl)) (
  ce_fc (P := P_X11_faultKind) (ok_li (ok_getf (ci := 15) (k := 0) (C := RX11) (T := TX11) (N := 7) dX11_faultKind_8 rfl ce_uX11 (by decide) gw_454 (fun _ _ _ _ h => h))) (
  ce_fc (P := P_X11_faultKind) (ok_call (ru_V (ci := 13) (C := RX9) (Tf := TX9) (N := 10) m_X9_hasFault (by decide) (by decide) rfl gw_864 gw_911 gw_862 gw_863 gw_2 ⟨rfl, hp_X9_hasFault⟩ dX11_faultKind_11) ca_t) (
  ce_fc (P := P_X11_faultKind) (ok_li (ok_if_ne dX11_faultKind_14 (by decide))) (
  ce_fc (P := P_X11_faultKind) (ok_li (ok_aload_n dX11_faultKind_25 rfl)) (
  ce_fc (P := P_X11_faultKind) (ok_li (ok_getf (ci := 15) (k := 0) (C := RX11) (T := TX11) (N := 7) dX11_faultKind_26 rfl ce_uX11 (by decide) gw_454 (fun _ _ _ _ h => h))) (
  ce_fc (P := P_X11_faultKind) (ok_li (ok_getf (ci := 13) (k := 6) (C := RX9) (T := TX9) (N := 10) dX11_faultKind_29 rfl ce_uX9 (by decide) gw_124 (fun _ _ _ _ h => h))) (
  ce_fc (P := P_X11_faultKind) (ok_reti dX11_faultKind_32 rfl) (
  ce_fn (P := P_X11_faultKind))))))))))))
noncomputable def ta_X11_faultKind : Nat → Option ce_N := (ce_fd tb_X11_faultKind_0)
theorem tx_X11_faultKind : ∀ pc f, ta_X11_faultKind pc = some f → P_X11_faultKind pc f := (ce_fd_ok (P := P_X11_faultKind) tk_X11_faultKind_0)
noncomputable def F_X11_faultKind : ce_C := ce_M ta_X11_faultKind 1 0 0 1000000
theorem m_X11_faultKind : ∀ l : Launch, l.stackTraces = false → ce_MS l yX11_faultKind (.code yX11_faultKind cX11_faultKind 1 (some .char)) 2 0 0 F_X11_faultKind := fun l hl => ce_met hl (by decide +kernel) tx_X11_faultKind
theorem hp_X11_faultKind : yX11_faultKind.cls ≠ "java/lang/invoke/MethodHandle" ∧ yX11_faultKind.cls ≠ "java/lang/invoke/VarHandle" ∧ (parseMethodDescriptor yX11_faultKind.desc).map (fun d => d.parameters.length) = some 0 := by decide +kernel
abbrev P_X11_free : Nat → ce_N → Prop := ce_OKN "Carcasswright" "free" cX11_free 3 (some .int) 2 (some [])
noncomputable def tb_X11_free_0 : List (Nat × ce_N) := [(0, ce_li (ce_aload 0 1)),
  (1, ce_li (ce_getf 15 1 4)),
  (4, ce_li (ce_iload 1 5)),
  (5, ce_li (ce_iload 2 6)),
  (6, ce_li (ce_push (.inl (.inl (0))) 7)),
  (7, ce_call 4 1 6 10 (.inr true) (ce_CV 10 F_X6_freeRows))]
theorem tk_X11_free_0 : ∀ x ∈ tb_X11_free_0, P_X11_free x.1 x.2 :=
  ce_fc (P := P_X11_free) (ok_li (ok_aload_n dX11_free_0 rfl)) (
  ce_fc (P := P_X11_free) (ok_li (ok_getf (ci := 15) (k := 1) (C := RX11) (T := TX11) (N := 7) dX11_free_1 rfl ce_uX11 (by decide) gw_455 (fun _ _ _ _ h => h))) (
  ce_fc (P := P_X11_free) (ok_li (ok_iload_n dX11_free_4 rfl)) (
  ce_fc (P := P_X11_free) (ok_li (ok_iload_n dX11_free_5 rfl)) (
  ce_fc (P := P_X11_free) (ok_li (ok_iconst dX11_free_6)) (
  ce_fc (P := P_X11_free) (ok_call (ru_V (ci := 10) (C := RX6) (Tf := TX6) (N := 10) m_X6_freeRows (by decide) (by decide) rfl gw_1056 gw_1053 gw_1054 gw_1055 gw_4 ⟨rfl, hp_X6_freeRows⟩ dX11_free_7) ca_t) (
  ce_fn (P := P_X11_free)))))))
noncomputable def ta_X11_free : Nat → Option ce_N := (ce_fd tb_X11_free_0)
theorem tx_X11_free : ∀ pc f, ta_X11_free pc = some f → P_X11_free pc f := (ce_fd_ok (P := P_X11_free) tk_X11_free_0)
noncomputable def F_X11_free : ce_C := ce_M ta_X11_free 3 1 6 1000000
theorem m_X11_free : ∀ l : Launch, l.stackTraces = false → ce_MS l yX11_free (.code yX11_free cX11_free 3 (some .int)) 2 1 6 F_X11_free := fun l hl => ce_met hl (by decide +kernel) tx_X11_free
theorem hp_X11_free : yX11_free.cls ≠ "java/lang/invoke/MethodHandle" ∧ yX11_free.cls ≠ "java/lang/invoke/VarHandle" ∧ (parseMethodDescriptor yX11_free.desc).map (fun d => d.parameters.length) = some 2 := by decide +kernel
abbrev P_X11_hole : Nat → ce_N → Prop := ce_OKN "Carcasswright" "hole" cX11_hole 6 (some .int) 2 (some [])
noncomputable def tb_X11_hole_0 : List (Nat × ce_N) := [(0, ce_li (ce_aload 0 1)),
  (1, ce_li (ce_iload 1 2)),
  (2, ce_li (ce_iload 2 3)),
  (3, ce_call 3 1 6 6 (.inr true) (ce_CV 15 F_X11_moduleWithPart))]
theorem tk_X11_hole_0 : ∀ x ∈ tb_X11_hole_0, P_X11_hole x.1 x.2 :=
  ce_fc (P := P_X11_hole) (ok_li (ok_aload_n dX11_hole_0 rfl)) (
  ce_fc (P := P_X11_hole) (ok_li (ok_iload_n dX11_hole_1 rfl)) (
  ce_fc (P := P_X11_hole) (ok_li (ok_iload_n dX11_hole_2 rfl)) (
  ce_fc (P := P_X11_hole) (ok_call (ru_V (ci := 15) (C := RX11) (Tf := TX11) (N := 7) m_X11_moduleWithPart (by decide) (by decide) rfl gw_1085 gw_1082 gw_1084 gp_1 gw_1 ⟨rfl, hp_X11_moduleWithPart⟩ dX11_hole_3) ca_t) (
  ce_fn (P := P_X11_hole)))))
noncomputable def ta_X11_hole : Nat → Option ce_N := (ce_fd tb_X11_hole_0)
theorem tx_X11_hole : ∀ pc f, ta_X11_hole pc = some f → P_X11_hole pc f := (ce_fd_ok (P := P_X11_hole) tk_X11_hole_0)
noncomputable def F_X11_hole : ce_C := ce_M ta_X11_hole 6 1 6 1000000
theorem m_X11_hole : ∀ l : Launch, l.stackTraces = false → ce_MS l yX11_hole (.code yX11_hole cX11_hole 6 (some .int)) 2 1 6 F_X11_hole := fun l hl => ce_met hl (by decide +kernel) tx_X11_hole
theorem hp_X11_hole : yX11_hole.cls ≠ "java/lang/invoke/MethodHandle" ∧ yX11_hole.cls ≠ "java/lang/invoke/VarHandle" ∧ (parseMethodDescriptor yX11_hole.desc).map (fun d => d.parameters.length) = some 4 := by decide +kernel
abbrev P_X11_holes : Nat → ce_N → Prop := ce_OKN "Carcasswright" "holes" cX11_holes 3 (some .int) 2 (some [])
noncomputable def tb_X11_holes_0 : List (Nat × ce_N) := [(0, ce_li (ce_aload 0 1)),
  (1, ce_li (ce_iload 1 2)),
  (2, ce_li (ce_iload 2 3)),
  (3, ce_call 3 1 6 6 (.inr true) (ce_CV 15 F_X11_moduleWithPart))]
theorem tk_X11_holes_0 : ∀ x ∈ tb_X11_holes_0, P_X11_holes x.1 x.2 :=
  ce_fc (P := P_X11_holes) (ok_li (ok_aload_n dX11_holes_0 rfl)) (
  ce_fc (P := P_X11_holes) (ok_li (ok_iload_n dX11_holes_1 rfl)) (
  ce_fc (P := P_X11_holes) (ok_li (ok_iload_n dX11_holes_2 rfl)) (
  ce_fc (P := P_X11_holes) (ok_call (ru_V (ci := 15) (C := RX11) (Tf := TX11) (N := 7) m_X11_moduleWithPart (by decide) (by decide) rfl gw_1085 gw_1082 gw_1084 gp_1 gw_1 ⟨rfl, hp_X11_moduleWithPart⟩ dX11_holes_3) ca_t) (
  ce_fn (P := P_X11_holes)))))
noncomputable def ta_X11_holes : Nat → Option ce_N := (ce_fd tb_X11_holes_0)
theorem tx_X11_holes : ∀ pc f, ta_X11_holes pc = some f → P_X11_holes pc f := (ce_fd_ok (P := P_X11_holes) tk_X11_holes_0)
noncomputable def F_X11_holes : ce_C := ce_M ta_X11_holes 3 1 6 1000000
theorem m_X11_holes : ∀ l : Launch, l.stackTraces = false → ce_MS l yX11_holes (.code yX11_holes cX11_holes 3 (some .int)) 2 1 6 F_X11_holes := fun l hl => ce_met hl (by decide +kernel) tx_X11_holes
theorem hp_X11_holes : yX11_holes.cls ≠ "java/lang/invoke/MethodHandle" ∧ yX11_holes.cls ≠ "java/lang/invoke/VarHandle" ∧ (parseMethodDescriptor yX11_holes.desc).map (fun d => d.parameters.length) = some 2 := by decide +kernel
abbrev P_X11_init : Nat → ce_N → Prop := ce_OKN "Carcasswright" "<init>" cX11_init 1 none 2 (some [])
noncomputable def tb_X11_init_0 : List (Nat × ce_N) := [(0, ce_li (ce_aload 0 1)),
  (1, ce_li (ce_oi 4)),
  (4, ce_li (ce_aload 0 5)),
  (5, ce_li (ce_new 13 10 dl_X9 8)),
  (8, ce_li (ce_dup 9)),
  (9, ce_call 1 11 119 12 (.inr true) (ce_CI F_X9_init)),
  (12, ce_li (ce_putf (tyX11 0) 15 0 15)),
  (15, ce_li (ce_aload 0 16)),
  (16, ce_li (ce_new 10 10 dl_X6 19)),
  (19, ce_li (ce_dup 20)),
  (20, ce_li (ce_aload 0 21)),
  (21, ce_li (ce_getf 15 0 24)),
  (24, ce_call 1 0 0 27 (.inr true) (ce_CV 13 F_X9_first)),
  (27, ce_call 2 36 195 30 (.inr true) (ce_CI F_X6_init))]
theorem tk_X11_init_0 : ∀ x ∈ tb_X11_init_0, P_X11_init x.1 x.2 :=
  ce_fc (P := P_X11_init) (ok_li (ok_aload_n dX11_init_0 rfl)) (
  ce_fc (P := P_X11_init) (ok_li (ok_oi dX11_init_1 gw_56 gw_57 gw_58)) (
  ce_fc (P := P_X11_init) (ok_li (ok_aload_n dX11_init_4 rfl)) (
  ce_fc (P := P_X11_init) (ok_li (ok_new (ci := 13) (C := RX9) (T := TX9) (N := 10) (ty0 := tyX9) dX11_init_5 rfl ce_uX9 tyX9_ok gw_59 gw_60 gw_2 dv_X9 rfl)) (
  ce_fc (P := P_X11_init) (ok_li (ok_dup dX11_init_8)) (
  ce_fc (P := P_X11_init) (ok_call (ru_I m_X9_init (by decide) (by decide) gw_63 gw_61 gw_62 gw_2 rfl hp_X9_init dX11_init_9) ca_t) (
  ce_fc (P := P_X11_init) (ok_li (ok_putf (ci := 15) (k := 0) (C := RX11) (T := TX11) (N := 7) (ty0 := tyX11) dX11_init_12 rfl ce_uX11 (by decide) gw_454 (fun _ _ _ _ h => h) tyX11_ok nmX11 (Or.inr ⟨rfl, rfl, rfl⟩))) (
  ce_fc (P := P_X11_init) (ok_li (ok_aload_n dX11_init_15 rfl)) (
  ce_fc (P := P_X11_init) (ok_li (ok_new (ci := 10) (C := RX6) (T := TX6) (N := 10) (ty0 := tyX6) dX11_init_16 rfl ce_uX6 tyX6_ok gw_149 gw_150 gw_4 dv_X6 rfl)) (
  ce_fc (P := P_X11_init) (ok_li (ok_dup dX11_init_19)) (
  ce_fc (P := P_X11_init) (ok_li (ok_aload_n dX11_init_20 rfl)) (
  ce_fc (P := P_X11_init) (ok_li (ok_getf (ci := 15) (k := 0) (C := RX11) (T := TX11) (N := 7) dX11_init_21 rfl ce_uX11 (by decide) gw_454 (fun _ _ _ _ h => h))) (
  ce_fc (P := P_X11_init) (ok_call (ru_V (ci := 13) (C := RX9) (Tf := TX9) (N := 10) m_X9_first (by decide) (by decide) rfl gw_154 gw_151 gw_152 gw_153 gw_2 ⟨rfl, hp_X9_first⟩ dX11_init_24) ca_t) (
  ce_fc (P := P_X11_init) (ok_call (ru_I m_X6_init (by decide) (by decide) gw_157 gw_155 gw_156 gw_4 rfl hp_X6_init dX11_init_27) ca_t) (
  ce_fn (P := P_X11_init)))))))))))))))
noncomputable def tb_X11_init_1 : List (Nat × ce_N) := [(30, ce_li (ce_putf (tyX11 1) 15 1 33)),
  (33, ce_li (ce_aload 0 34)),
  (34, ce_li (ce_new 12 5 dl_X8 37)),
  (37, ce_li (ce_dup 38)),
  (38, ce_call 1 61 480 41 (.inr true) (ce_CI F_X8_init)),
  (41, ce_li (ce_putf (tyX11 2) 15 2 44)),
  (44, ce_li (ce_aload 0 45)),
  (45, ce_li (ce_new 11 13 dl_X7 48)),
  (48, ce_li (ce_dup 49)),
  (49, ce_li (ce_aload 0 50)),
  (50, ce_li (ce_getf 15 2 53)),
  (53, ce_call 2 57 550 56 (.inr true) (ce_CI F_X7_init)),
  (56, ce_li (ce_putf (tyX11 3) 15 3 59)),
  (59, ce_li (ce_aload 0 60))]
theorem tk_X11_init_1 : ∀ x ∈ tb_X11_init_1, P_X11_init x.1 x.2 :=
  ce_fc (P := P_X11_init) (ok_li (ok_putf (ci := 15) (k := 1) (C := RX11) (T := TX11) (N := 7) (ty0 := tyX11) dX11_init_30 rfl ce_uX11 (by decide) gw_455 (fun _ _ _ _ h => h) tyX11_ok nmX11 (Or.inr ⟨rfl, rfl, rfl⟩))) (
  ce_fc (P := P_X11_init) (ok_li (ok_aload_n dX11_init_33 rfl)) (
  ce_fc (P := P_X11_init) (ok_li (ok_new (ci := 12) (C := RX8) (T := TX8) (N := 5) (ty0 := tyX8) dX11_init_34 rfl ce_uX8 tyX8_ok gw_284 gw_285 gw_8 dv_X8 rfl)) (
  ce_fc (P := P_X11_init) (ok_li (ok_dup dX11_init_37)) (
  ce_fc (P := P_X11_init) (ok_call (ru_I m_X8_init (by decide) (by decide) gw_288 gw_286 gw_287 gw_8 rfl hp_X8_init dX11_init_38) ca_t) (
  ce_fc (P := P_X11_init) (ok_li (ok_putf (ci := 15) (k := 2) (C := RX11) (T := TX11) (N := 7) (ty0 := tyX11) dX11_init_41 rfl ce_uX11 (by decide) gw_456 (fun _ _ _ _ h => h) tyX11_ok nmX11 (Or.inr ⟨rfl, rfl, rfl⟩))) (
  ce_fc (P := P_X11_init) (ok_li (ok_aload_n dX11_init_44 rfl)) (
  ce_fc (P := P_X11_init) (ok_li (ok_new (ci := 11) (C := RX7) (T := TX7) (N := 13) (ty0 := tyX7) dX11_init_45 rfl ce_uX7 tyX7_ok gw_350 gw_351 gw_10 dv_X7 rfl)) (
  ce_fc (P := P_X11_init) (ok_li (ok_dup dX11_init_48)) (
  ce_fc (P := P_X11_init) (ok_li (ok_aload_n dX11_init_49 rfl)) (
  ce_fc (P := P_X11_init) (ok_li (ok_getf (ci := 15) (k := 2) (C := RX11) (T := TX11) (N := 7) dX11_init_50 rfl ce_uX11 (by decide) gw_456 (fun _ _ _ _ h => h))) (
  ce_fc (P := P_X11_init) (ok_call (ru_I m_X7_init (by decide) (by decide) gw_354 gw_352 gw_353 gw_10 rfl hp_X7_init dX11_init_53) ca_t) (
  ce_fc (P := P_X11_init) (ok_li (ok_putf (ci := 15) (k := 3) (C := RX11) (T := TX11) (N := 7) (ty0 := tyX11) dX11_init_56 rfl ce_uX11 (by decide) gw_457 (fun _ _ _ _ h => h) tyX11_ok nmX11 (Or.inr ⟨rfl, rfl, rfl⟩))) (
  ce_fc (P := P_X11_init) (ok_li (ok_aload_n dX11_init_59 rfl)) (
  ce_fn (P := P_X11_init)))))))))))))))
noncomputable def tb_X11_init_2 : List (Nat × ce_N) := [(60, ce_li (ce_new 8 4 dl_X4 63)),
  (63, ce_li (ce_dup 64)),
  (64, ce_call 1 3 75 67 (.inr true) (ce_CI F_X4_init)),
  (67, ce_li (ce_putf (tyX11 4) 15 4 70)),
  (70, ce_li (ce_aload 0 71)),
  (71, ce_li (ce_new 5 8 dl_X1 74)),
  (74, ce_li (ce_dup 75)),
  (75, ce_call 1 5 30 78 (.inr true) (ce_CI F_X1_init)),
  (78, ce_li (ce_putf (tyX11 5) 15 5 81)),
  (81, ce_li (ce_aload 0 82)),
  (82, ce_li (ce_push (.inl (.inl (3))) 83)),
  (83, ce_li (ce_newa 0 2 85)),
  (85, ce_li (ce_dup 86)),
  (86, ce_li (ce_push (.inl (.inl (0))) 87))]
theorem tk_X11_init_2 : ∀ x ∈ tb_X11_init_2, P_X11_init x.1 x.2 :=
  ce_fc (P := P_X11_init) (ok_li (ok_new (ci := 8) (C := RX4) (T := TX4) (N := 4) (ty0 := tyX4) dX11_init_60 rfl ce_uX4 tyX4_ok gw_399 gw_400 gw_11 dv_X4 rfl)) (
  ce_fc (P := P_X11_init) (ok_li (ok_dup dX11_init_63)) (
  ce_fc (P := P_X11_init) (ok_call (ru_IN m_X4_init (by decide) (by decide) gw_403 gn_13 gw_402 gw_11 rfl hp_X4_init dX11_init_64) ca_t) (
  ce_fc (P := P_X11_init) (ok_li (ok_putf (ci := 15) (k := 4) (C := RX11) (T := TX11) (N := 7) (ty0 := tyX11) dX11_init_67 rfl ce_uX11 (by decide) gw_458 (fun _ _ _ _ h => h) tyX11_ok nmX11 (Or.inr ⟨rfl, rfl, rfl⟩))) (
  ce_fc (P := P_X11_init) (ok_li (ok_aload_n dX11_init_70 rfl)) (
  ce_fc (P := P_X11_init) (ok_li (ok_new (ci := 5) (C := RX1) (T := TX1) (N := 8) (ty0 := tyX1) dX11_init_71 rfl ce_uX1 tyX1_ok gw_419 gw_420 gw_12 dv_X1 rfl)) (
  ce_fc (P := P_X11_init) (ok_li (ok_dup dX11_init_74)) (
  ce_fc (P := P_X11_init) (ok_call (ru_IN m_X1_init (by decide) (by decide) gw_423 gn_14 gw_422 gw_12 rfl hp_X1_init dX11_init_75) ca_t) (
  ce_fc (P := P_X11_init) (ok_li (ok_putf (ci := 15) (k := 5) (C := RX11) (T := TX11) (N := 7) (ty0 := tyX11) dX11_init_78 rfl ce_uX11 (by decide) gw_459 (fun _ _ _ _ h => h) tyX11_ok nmX11 (Or.inr ⟨rfl, rfl, rfl⟩))) (
  ce_fc (P := P_X11_init) (ok_li (ok_aload_n dX11_init_81 rfl)) (
  ce_fc (P := P_X11_init) (ok_li (ok_iconst dX11_init_82)) (
  ce_fc (P := P_X11_init) (ok_li (ok_newa_int dX11_init_83 gw_193)) (
  ce_fc (P := P_X11_init) (ok_li (ok_dup dX11_init_85)) (
  ce_fc (P := P_X11_init) (ok_li (ok_iconst dX11_init_86)) (
  ce_fn (P := P_X11_init)))))))))))))))
noncomputable def tb_X11_init_3 : List (Nat × ce_N) := [(87, ce_li (ce_push (.inl (.inl (2))) 88)),
  (88, ce_li (ce_iast 0 89 88)),
  (89, ce_li (ce_dup 90)),
  (90, ce_li (ce_push (.inl (.inl (1))) 91)),
  (91, ce_li (ce_push (.inl (.inl (5))) 92)),
  (92, ce_li (ce_iast 0 93 92)),
  (93, ce_li (ce_dup 94)),
  (94, ce_li (ce_push (.inl (.inl (2))) 95)),
  (95, ce_li (ce_push (.inl (.inl (9))) 97)),
  (97, ce_li (ce_iast 0 98 97)),
  (98, ce_li (ce_putf (tyX11 6) 15 6 101)),
  (101, ce_ret0)]
theorem tk_X11_init_3 : ∀ x ∈ tb_X11_init_3, P_X11_init x.1 x.2 :=
  ce_fc (P := P_X11_init) (ok_li (ok_iconst dX11_init_87)) (
  ce_fc (P := P_X11_init) (ok_li (ok_iastore dX11_init_88)) (
  ce_fc (P := P_X11_init) (ok_li (ok_dup dX11_init_89)) (
  ce_fc (P := P_X11_init) (ok_li (ok_iconst dX11_init_90)) (
  ce_fc (P := P_X11_init) (ok_li (ok_iconst dX11_init_91)) (
  ce_fc (P := P_X11_init) (ok_li (ok_iastore dX11_init_92)) (
  ce_fc (P := P_X11_init) (ok_li (ok_dup dX11_init_93)) (
  ce_fc (P := P_X11_init) (ok_li (ok_iconst dX11_init_94)) (
  ce_fc (P := P_X11_init) (ok_li (ok_bipush dX11_init_95 (by decide))) (
  ce_fc (P := P_X11_init) (ok_li (ok_iastore dX11_init_97)) (
  ce_fc (P := P_X11_init) (ok_li (ok_putf (ci := 15) (k := 6) (C := RX11) (T := TX11) (N := 7) (ty0 := tyX11) dX11_init_98 rfl ce_uX11 (by decide) gw_460 (fun _ _ _ _ h => h) tyX11_ok nmX11 (Or.inr ⟨rfl, rfl, rfl⟩))) (
  ce_fc (P := P_X11_init) (ok_ret0 dX11_init_101 rfl) (
  ce_fn (P := P_X11_init)))))))))))))
noncomputable def ta_X11_init : Nat → Option ce_N := (ce_tr 60 (ce_tr 30 (ce_fd tb_X11_init_0) (ce_fd tb_X11_init_1)) (ce_tr 87 (ce_fd tb_X11_init_2) (ce_fd tb_X11_init_3)))
theorem tx_X11_init : ∀ pc f, ta_X11_init pc = some f → P_X11_init pc f := (ce_tr_ok (P := P_X11_init) (ce_tr_ok (P := P_X11_init) (ce_fd_ok (P := P_X11_init) tk_X11_init_0) (ce_fd_ok (P := P_X11_init) tk_X11_init_1)) (ce_tr_ok (P := P_X11_init) (ce_fd_ok (P := P_X11_init) tk_X11_init_2) (ce_fd_ok (P := P_X11_init) tk_X11_init_3)))
noncomputable def F_X11_init : ce_C := ce_M ta_X11_init 1 180 1502 1000000
theorem m_X11_init : ∀ l : Launch, l.stackTraces = false → ce_MS l yX11_init (.code yX11_init cX11_init 1 none) 2 180 1502 F_X11_init := fun l hl => ce_met hl (by decide +kernel) tx_X11_init
theorem hp_X11_init : yX11_init.cls ≠ "java/lang/invoke/MethodHandle" ∧ yX11_init.cls ≠ "java/lang/invoke/VarHandle" ∧ (parseMethodDescriptor yX11_init.desc).map (fun d => d.parameters.length) = some 0 := by decide +kernel
abbrev P_X11_kindOf : Nat → ce_N → Prop := ce_OKN "Carcasswright" "kindOf" cX11_kindOf 3 (some .char) 2 (some [])
noncomputable def tb_X11_kindOf_0 : List (Nat × ce_N) := [(0, ce_li (ce_aload 0 1)),
  (1, ce_li (ce_iload 1 2)),
  (2, ce_li (ce_iload 2 3)),
  (3, ce_call 3 1 6 6 (.inr true) (ce_CV 15 F_X11_moduleWithPart))]
theorem tk_X11_kindOf_0 : ∀ x ∈ tb_X11_kindOf_0, P_X11_kindOf x.1 x.2 :=
  ce_fc (P := P_X11_kindOf) (ok_li (ok_aload_n dX11_kindOf_0 rfl)) (
  ce_fc (P := P_X11_kindOf) (ok_li (ok_iload_n dX11_kindOf_1 rfl)) (
  ce_fc (P := P_X11_kindOf) (ok_li (ok_iload_n dX11_kindOf_2 rfl)) (
  ce_fc (P := P_X11_kindOf) (ok_call (ru_V (ci := 15) (C := RX11) (Tf := TX11) (N := 7) m_X11_moduleWithPart (by decide) (by decide) rfl gw_1085 gw_1082 gw_1084 gp_1 gw_1 ⟨rfl, hp_X11_moduleWithPart⟩ dX11_kindOf_3) ca_t) (
  ce_fn (P := P_X11_kindOf)))))
noncomputable def ta_X11_kindOf : Nat → Option ce_N := (ce_fd tb_X11_kindOf_0)
theorem tx_X11_kindOf : ∀ pc f, ta_X11_kindOf pc = some f → P_X11_kindOf pc f := (ce_fd_ok (P := P_X11_kindOf) tk_X11_kindOf_0)
noncomputable def F_X11_kindOf : ce_C := ce_M ta_X11_kindOf 3 1 6 1000000
theorem m_X11_kindOf : ∀ l : Launch, l.stackTraces = false → ce_MS l yX11_kindOf (.code yX11_kindOf cX11_kindOf 3 (some .char)) 2 1 6 F_X11_kindOf := fun l hl => ce_met hl (by decide +kernel) tx_X11_kindOf
theorem hp_X11_kindOf : yX11_kindOf.cls ≠ "java/lang/invoke/MethodHandle" ∧ yX11_kindOf.cls ≠ "java/lang/invoke/VarHandle" ∧ (parseMethodDescriptor yX11_kindOf.desc).map (fun d => d.parameters.length) = some 2 := by decide +kernel
abbrev P_X11_lateness : Nat → ce_N → Prop := ce_OKN "Carcasswright" "lateness" cX11_lateness 1 (some .int) 2 (some [])
noncomputable def tb_X11_lateness_0 : List (Nat × ce_N) := [(0, ce_li (ce_aload 0 1)),
  (1, ce_li (ce_getf 15 5 4)),
  (4, ce_call 1 0 0 7 (.inr true) (ce_CV 5 F_X1_plan)),
  (7, ce_li (ce_aload 0 8)),
  (8, ce_li (ce_getf 15 5 11)),
  (11, ce_li (ce_getf 5 7 14)),
  (14, ce_reti .int)]
theorem tk_X11_lateness_0 : ∀ x ∈ tb_X11_lateness_0, P_X11_lateness x.1 x.2 :=
  ce_fc (P := P_X11_lateness) (ok_li (ok_aload_n dX11_lateness_0 rfl)) (
  ce_fc (P := P_X11_lateness) (ok_li (ok_getf (ci := 15) (k := 5) (C := RX11) (T := TX11) (N := 7) dX11_lateness_1 rfl ce_uX11 (by decide) gw_459 (fun _ _ _ _ h => h))) (
  ce_fc (P := P_X11_lateness) (ok_call (ru_V (ci := 5) (C := RX1) (Tf := TX1) (N := 8) m_X1_plan (by decide) (by decide) rfl gw_587 gw_584 gw_585 gw_586 gw_12 ⟨rfl, hp_X1_plan⟩ dX11_lateness_4) ca_t) (
  ce_fc (P := P_X11_lateness) (ok_li (ok_aload_n dX11_lateness_7 rfl)) (
  ce_fc (P := P_X11_lateness) (ok_li (ok_getf (ci := 15) (k := 5) (C := RX11) (T := TX11) (N := 7) dX11_lateness_8 rfl ce_uX11 (by decide) gw_459 (fun _ _ _ _ h => h))) (
  ce_fc (P := P_X11_lateness) (ok_li (ok_getf (ci := 5) (k := 7) (C := RX1) (T := TX1) (N := 8) dX11_lateness_11 rfl ce_uX1 (by decide) gw_436 (fun _ _ _ _ h => h))) (
  ce_fc (P := P_X11_lateness) (ok_reti dX11_lateness_14 rfl) (
  ce_fn (P := P_X11_lateness))))))))
noncomputable def ta_X11_lateness : Nat → Option ce_N := (ce_fd tb_X11_lateness_0)
theorem tx_X11_lateness : ∀ pc f, ta_X11_lateness pc = some f → P_X11_lateness pc f := (ce_fd_ok (P := P_X11_lateness) tk_X11_lateness_0)
noncomputable def F_X11_lateness : ce_C := ce_M ta_X11_lateness 1 0 0 1000000
theorem m_X11_lateness : ∀ l : Launch, l.stackTraces = false → ce_MS l yX11_lateness (.code yX11_lateness cX11_lateness 1 (some .int)) 2 0 0 F_X11_lateness := fun l hl => ce_met hl (by decide +kernel) tx_X11_lateness
theorem hp_X11_lateness : yX11_lateness.cls ≠ "java/lang/invoke/MethodHandle" ∧ yX11_lateness.cls ≠ "java/lang/invoke/VarHandle" ∧ (parseMethodDescriptor yX11_lateness.desc).map (fun d => d.parameters.length) = some 0 := by decide +kernel
abbrev P_X11_lose : Nat → ce_N → Prop := ce_OKN "Carcasswright" "lose" cX11_lose 5 (some .int) 2 (some [])
noncomputable def tb_X11_lose_0 : List (Nat × ce_N) := [(0, ce_li (ce_aload 0 1)),
  (1, ce_li (ce_iload 1 2)),
  (2, ce_li (ce_iload 2 3)),
  (3, ce_call 3 1 6 6 (.inr true) (ce_CV 15 F_X11_moduleWithPart))]
theorem tk_X11_lose_0 : ∀ x ∈ tb_X11_lose_0, P_X11_lose x.1 x.2 :=
  ce_fc (P := P_X11_lose) (ok_li (ok_aload_n dX11_lose_0 rfl)) (
  ce_fc (P := P_X11_lose) (ok_li (ok_iload_n dX11_lose_1 rfl)) (
  ce_fc (P := P_X11_lose) (ok_li (ok_iload_n dX11_lose_2 rfl)) (
  ce_fc (P := P_X11_lose) (ok_call (ru_V (ci := 15) (C := RX11) (Tf := TX11) (N := 7) m_X11_moduleWithPart (by decide) (by decide) rfl gw_1085 gw_1082 gw_1084 gp_1 gw_1 ⟨rfl, hp_X11_moduleWithPart⟩ dX11_lose_3) ca_t) (
  ce_fn (P := P_X11_lose)))))
noncomputable def ta_X11_lose : Nat → Option ce_N := (ce_fd tb_X11_lose_0)
theorem tx_X11_lose : ∀ pc f, ta_X11_lose pc = some f → P_X11_lose pc f := (ce_fd_ok (P := P_X11_lose) tk_X11_lose_0)
noncomputable def F_X11_lose : ce_C := ce_M ta_X11_lose 5 1 6 1000000
theorem m_X11_lose : ∀ l : Launch, l.stackTraces = false → ce_MS l yX11_lose (.code yX11_lose cX11_lose 5 (some .int)) 2 1 6 F_X11_lose := fun l hl => ce_met hl (by decide +kernel) tx_X11_lose
theorem hp_X11_lose : yX11_lose.cls ≠ "java/lang/invoke/MethodHandle" ∧ yX11_lose.cls ≠ "java/lang/invoke/VarHandle" ∧ (parseMethodDescriptor yX11_lose.desc).map (fun d => d.parameters.length) = some 2 := by decide +kernel
abbrev P_X11_packOf : Nat → ce_N → Prop := ce_OKN "Carcasswright" "packOf" cX11_packOf 4 (some .int) 2 (some [])
noncomputable def tb_X11_packOf_0 : List (Nat × ce_N) := [(0, ce_li (ce_aload 0 1)),
  (1, ce_li (ce_aload 0 2)),
  (2, ce_li (ce_iload 1 3)),
  (3, ce_li (ce_iload 3 4)),
  (4, ce_call 3 1 6 7 (.inr true) (ce_CV 15 F_X11_moduleWithPart))]
theorem tk_X11_packOf_0 : ∀ x ∈ tb_X11_packOf_0, P_X11_packOf x.1 x.2 :=
  ce_fc (P := P_X11_packOf) (ok_li (ok_aload_n dX11_packOf_0 rfl)) (
  ce_fc (P := P_X11_packOf) (ok_li (ok_aload_n dX11_packOf_1 rfl)) (
  ce_fc (P := P_X11_packOf) (ok_li (ok_iload_n dX11_packOf_2 rfl)) (
  ce_fc (P := P_X11_packOf) (ok_li (ok_iload_n dX11_packOf_3 rfl)) (
  ce_fc (P := P_X11_packOf) (ok_call (ru_V (ci := 15) (C := RX11) (Tf := TX11) (N := 7) m_X11_moduleWithPart (by decide) (by decide) rfl gw_1085 gw_1082 gw_1084 gp_1 gw_1 ⟨rfl, hp_X11_moduleWithPart⟩ dX11_packOf_4) ca_t) (
  ce_fn (P := P_X11_packOf))))))
noncomputable def ta_X11_packOf : Nat → Option ce_N := (ce_fd tb_X11_packOf_0)
theorem tx_X11_packOf : ∀ pc f, ta_X11_packOf pc = some f → P_X11_packOf pc f := (ce_fd_ok (P := P_X11_packOf) tk_X11_packOf_0)
noncomputable def F_X11_packOf : ce_C := ce_M ta_X11_packOf 4 1 6 1000000
theorem m_X11_packOf : ∀ l : Launch, l.stackTraces = false → ce_MS l yX11_packOf (.code yX11_packOf cX11_packOf 4 (some .int)) 2 1 6 F_X11_packOf := fun l hl => ce_met hl (by decide +kernel) tx_X11_packOf
theorem hp_X11_packOf : yX11_packOf.cls ≠ "java/lang/invoke/MethodHandle" ∧ yX11_packOf.cls ≠ "java/lang/invoke/VarHandle" ∧ (parseMethodDescriptor yX11_packOf.desc).map (fun d => d.parameters.length) = some 3 := by decide +kernel
abbrev P_X11_size : Nat → ce_N → Prop := ce_OKN "Carcasswright" "size" cX11_size 6 (some .int) 2 (some [])
noncomputable def tb_X11_size_0 : List (Nat × ce_N) := [(0, ce_li (ce_aload 0 1)),
  (1, ce_li (ce_iload 1 2)),
  (2, ce_li (ce_iload 2 3)),
  (3, ce_call 3 1 6 6 (.inr true) (ce_CV 15 F_X11_moduleWithPart))]
theorem tk_X11_size_0 : ∀ x ∈ tb_X11_size_0, P_X11_size x.1 x.2 :=
  ce_fc (P := P_X11_size) (ok_li (ok_aload_n dX11_size_0 rfl)) (
  ce_fc (P := P_X11_size) (ok_li (ok_iload_n dX11_size_1 rfl)) (
  ce_fc (P := P_X11_size) (ok_li (ok_iload_n dX11_size_2 rfl)) (
  ce_fc (P := P_X11_size) (ok_call (ru_V (ci := 15) (C := RX11) (Tf := TX11) (N := 7) m_X11_moduleWithPart (by decide) (by decide) rfl gw_1085 gw_1082 gw_1084 gp_1 gw_1 ⟨rfl, hp_X11_moduleWithPart⟩ dX11_size_3) ca_t) (
  ce_fn (P := P_X11_size)))))
noncomputable def ta_X11_size : Nat → Option ce_N := (ce_fd tb_X11_size_0)
theorem tx_X11_size : ∀ pc f, ta_X11_size pc = some f → P_X11_size pc f := (ce_fd_ok (P := P_X11_size) tk_X11_size_0)
noncomputable def F_X11_size : ce_C := ce_M ta_X11_size 6 1 6 1000000
theorem m_X11_size : ∀ l : Launch, l.stackTraces = false → ce_MS l yX11_size (.code yX11_size cX11_size 6 (some .int)) 2 1 6 F_X11_size := fun l hl => ce_met hl (by decide +kernel) tx_X11_size
theorem hp_X11_size : yX11_size.cls ≠ "java/lang/invoke/MethodHandle" ∧ yX11_size.cls ≠ "java/lang/invoke/VarHandle" ∧ (parseMethodDescriptor yX11_size.desc).map (fun d => d.parameters.length) = some 3 := by decide +kernel
abbrev P_X11_stepAt : Nat → ce_N → Prop := ce_OKN "Carcasswright" "stepAt" cX11_stepAt 3 (some .int) 2 (some [])
noncomputable def tb_X11_stepAt_0 : List (Nat × ce_N) := [(0, ce_li (ce_aload 0 1)),
  (1, ce_li (ce_iload 1 2)),
  (2, ce_li (ce_iload 2 3)),
  (3, ce_call 3 1 6 6 (.inr true) (ce_CV 15 F_X11_moduleWithPart))]
theorem tk_X11_stepAt_0 : ∀ x ∈ tb_X11_stepAt_0, P_X11_stepAt x.1 x.2 :=
  ce_fc (P := P_X11_stepAt) (ok_li (ok_aload_n dX11_stepAt_0 rfl)) (
  ce_fc (P := P_X11_stepAt) (ok_li (ok_iload_n dX11_stepAt_1 rfl)) (
  ce_fc (P := P_X11_stepAt) (ok_li (ok_iload_n dX11_stepAt_2 rfl)) (
  ce_fc (P := P_X11_stepAt) (ok_call (ru_V (ci := 15) (C := RX11) (Tf := TX11) (N := 7) m_X11_moduleWithPart (by decide) (by decide) rfl gw_1085 gw_1082 gw_1084 gp_1 gw_1 ⟨rfl, hp_X11_moduleWithPart⟩ dX11_stepAt_3) ca_t) (
  ce_fn (P := P_X11_stepAt)))))
noncomputable def ta_X11_stepAt : Nat → Option ce_N := (ce_fd tb_X11_stepAt_0)
theorem tx_X11_stepAt : ∀ pc f, ta_X11_stepAt pc = some f → P_X11_stepAt pc f := (ce_fd_ok (P := P_X11_stepAt) tk_X11_stepAt_0)
noncomputable def F_X11_stepAt : ce_C := ce_M ta_X11_stepAt 3 1 6 1000000
theorem m_X11_stepAt : ∀ l : Launch, l.stackTraces = false → ce_MS l yX11_stepAt (.code yX11_stepAt cX11_stepAt 3 (some .int)) 2 1 6 F_X11_stepAt := fun l hl => ce_met hl (by decide +kernel) tx_X11_stepAt
theorem hp_X11_stepAt : yX11_stepAt.cls ≠ "java/lang/invoke/MethodHandle" ∧ yX11_stepAt.cls ≠ "java/lang/invoke/VarHandle" ∧ (parseMethodDescriptor yX11_stepAt.desc).map (fun d => d.parameters.length) = some 2 := by decide +kernel
abbrev P_X11_weight : Nat → ce_N → Prop := ce_OKN "Carcasswright" "weight" cX11_weight 3 (some .int) 2 (some [])
noncomputable def tb_X11_weight_0 : List (Nat × ce_N) := [(0, ce_li (ce_aload 0 1)),
  (1, ce_li (ce_iload 1 2)),
  (2, ce_li (ce_iload 2 3)),
  (3, ce_call 3 1 6 6 (.inr true) (ce_CV 15 F_X11_moduleWithPart))]
theorem tk_X11_weight_0 : ∀ x ∈ tb_X11_weight_0, P_X11_weight x.1 x.2 :=
  ce_fc (P := P_X11_weight) (ok_li (ok_aload_n dX11_weight_0 rfl)) (
  ce_fc (P := P_X11_weight) (ok_li (ok_iload_n dX11_weight_1 rfl)) (
  ce_fc (P := P_X11_weight) (ok_li (ok_iload_n dX11_weight_2 rfl)) (
  ce_fc (P := P_X11_weight) (ok_call (ru_V (ci := 15) (C := RX11) (Tf := TX11) (N := 7) m_X11_moduleWithPart (by decide) (by decide) rfl gw_1085 gw_1082 gw_1084 gp_1 gw_1 ⟨rfl, hp_X11_moduleWithPart⟩ dX11_weight_3) ca_t) (
  ce_fn (P := P_X11_weight)))))
noncomputable def ta_X11_weight : Nat → Option ce_N := (ce_fd tb_X11_weight_0)
theorem tx_X11_weight : ∀ pc f, ta_X11_weight pc = some f → P_X11_weight pc f := (ce_fd_ok (P := P_X11_weight) tk_X11_weight_0)
noncomputable def F_X11_weight : ce_C := ce_M ta_X11_weight 3 1 6 1000000
theorem m_X11_weight : ∀ l : Launch, l.stackTraces = false → ce_MS l yX11_weight (.code yX11_weight cX11_weight 3 (some .int)) 2 1 6 F_X11_weight := fun l hl => ce_met hl (by decide +kernel) tx_X11_weight
theorem hp_X11_weight : yX11_weight.cls ≠ "java/lang/invoke/MethodHandle" ∧ yX11_weight.cls ≠ "java/lang/invoke/VarHandle" ∧ (parseMethodDescriptor yX11_weight.desc).map (fun d => d.parameters.length) = some 2 := by decide +kernel
abbrev P_X11_widest : Nat → ce_N → Prop := ce_OKN "Carcasswright" "widest" cX11_widest 3 (some .int) 2 (some [])
noncomputable def tb_X11_widest_0 : List (Nat × ce_N) := [(0, ce_li (ce_aload 0 1)),
  (1, ce_li (ce_getf 15 1 4)),
  (4, ce_li (ce_iload 1 5)),
  (5, ce_li (ce_iload 2 6)),
  (6, ce_li (ce_push (.inl (.inl (1))) 7)),
  (7, ce_call 4 1 6 10 (.inr true) (ce_CV 10 F_X6_freeRows))]
theorem tk_X11_widest_0 : ∀ x ∈ tb_X11_widest_0, P_X11_widest x.1 x.2 :=
  ce_fc (P := P_X11_widest) (ok_li (ok_aload_n dX11_widest_0 rfl)) (
  ce_fc (P := P_X11_widest) (ok_li (ok_getf (ci := 15) (k := 1) (C := RX11) (T := TX11) (N := 7) dX11_widest_1 rfl ce_uX11 (by decide) gw_455 (fun _ _ _ _ h => h))) (
  ce_fc (P := P_X11_widest) (ok_li (ok_iload_n dX11_widest_4 rfl)) (
  ce_fc (P := P_X11_widest) (ok_li (ok_iload_n dX11_widest_5 rfl)) (
  ce_fc (P := P_X11_widest) (ok_li (ok_iconst dX11_widest_6)) (
  ce_fc (P := P_X11_widest) (ok_call (ru_V (ci := 10) (C := RX6) (Tf := TX6) (N := 10) m_X6_freeRows (by decide) (by decide) rfl gw_1056 gw_1053 gw_1054 gw_1055 gw_4 ⟨rfl, hp_X6_freeRows⟩ dX11_widest_7) ca_t) (
  ce_fn (P := P_X11_widest)))))))
noncomputable def ta_X11_widest : Nat → Option ce_N := (ce_fd tb_X11_widest_0)
theorem tx_X11_widest : ∀ pc f, ta_X11_widest pc = some f → P_X11_widest pc f := (ce_fd_ok (P := P_X11_widest) tk_X11_widest_0)
noncomputable def F_X11_widest : ce_C := ce_M ta_X11_widest 3 1 6 1000000
theorem m_X11_widest : ∀ l : Launch, l.stackTraces = false → ce_MS l yX11_widest (.code yX11_widest cX11_widest 3 (some .int)) 2 1 6 F_X11_widest := fun l hl => ce_met hl (by decide +kernel) tx_X11_widest
theorem hp_X11_widest : yX11_widest.cls ≠ "java/lang/invoke/MethodHandle" ∧ yX11_widest.cls ≠ "java/lang/invoke/VarHandle" ∧ (parseMethodDescriptor yX11_widest.desc).map (fun d => d.parameters.length) = some 2 := by decide +kernel
abbrev P_X21_addType : Nat → ce_N → Prop := ce_OKN "CarcasswrightModel" "addType" cX21_addType 1 (some .int) 2 (some [])
noncomputable def tb_X21_addType_0 : List (Nat × ce_N) := [(0, ce_li (ce_aload 0 1)),
  (1, ce_call 1 1 5 4 (.inr true) (ce_CV 20 F_X21_reads)),
  (4, ce_li (ce_aload 0 5)),
  (5, ce_li (ce_aload 0 6)),
  (6, ce_li (ce_getf 20 16 9)),
  (9, ce_li (ce_push (.inl (.inl (32))) 11)),
  (11, ce_li (ce_icmp true false false 18 14)),
  (14, ce_li (ce_push (.inl (.inl (1))) 15)),
  (15, ce_li (ce_goto 35)),
  (35, ce_li (ce_putf (tyX21 0) 20 0 38)),
  (38, ce_li (ce_aload 0 39)),
  (39, ce_li (ce_getf 20 0 42)),
  (42, ce_li (ce_if false true true 47 45)),
  (45, ce_li (ce_push (.inl (.inl (0))) 46))]
theorem tk_X21_addType_0 : ∀ x ∈ tb_X21_addType_0, P_X21_addType x.1 x.2 :=
  ce_fc (P := P_X21_addType) (ok_li (ok_aload_n dX21_addType_0 rfl)) (
  ce_fc (P := P_X21_addType) (ok_call (ru_V (ci := 20) (C := RX21) (Tf := TX21) (N := 20) m_X21_reads (by decide) (by decide) rfl gw_2163 gw_2160 gw_2162 gp_13 gw_13 ⟨rfl, hp_X21_reads⟩ dX21_addType_1) ca_t) (
  ce_fc (P := P_X21_addType) (ok_li (ok_aload_n dX21_addType_4 rfl)) (
  ce_fc (P := P_X21_addType) (ok_li (ok_aload_n dX21_addType_5 rfl)) (
  ce_fc (P := P_X21_addType) (ok_li (ok_getf (ci := 20) (k := 16) (C := RX21) (T := TX21) (N := 20) dX21_addType_6 rfl ce_uX21 (by decide) gw_1537 (fun _ _ _ _ h => h))) (
  ce_fc (P := P_X21_addType) (ok_li (ok_bipush dX21_addType_9 (by decide))) (
  ce_fc (P := P_X21_addType) (ok_li (ok_icmp_eq dX21_addType_11 (by decide))) (
  ce_fc (P := P_X21_addType) (ok_li (ok_iconst dX21_addType_14)) (
  ce_fc (P := P_X21_addType) (ok_li (ok_goto dX21_addType_15 (by decide))) (
  ce_fc (P := P_X21_addType) (ok_li (ok_putf (ci := 20) (k := 0) (C := RX21) (T := TX21) (N := 20) (ty0 := tyX21) dX21_addType_35 rfl ce_uX21 (by decide) gw_1521 (fun _ _ _ _ h => h) tyX21_ok nmX21 (Or.inl rfl))) (
  ce_fc (P := P_X21_addType) (ok_li (ok_aload_n dX21_addType_38 rfl)) (
  ce_fc (P := P_X21_addType) (ok_li (ok_getf (ci := 20) (k := 0) (C := RX21) (T := TX21) (N := 20) dX21_addType_39 rfl ce_uX21 (by decide) gw_1521 (fun _ _ _ _ h => h))) (
  ce_fc (P := P_X21_addType) (ok_li (ok_if_le dX21_addType_42 (by decide))) (
  ce_fc (P := P_X21_addType) (ok_li (ok_iconst dX21_addType_45)) (
  ce_fn (P := P_X21_addType)))))))))))))))
noncomputable def tb_X21_addType_1 : List (Nat × ce_N) := [(46, ce_reti .int)]
theorem tk_X21_addType_1 : ∀ x ∈ tb_X21_addType_1, P_X21_addType x.1 x.2 :=
  ce_fc (P := P_X21_addType) (ok_reti dX21_addType_46 rfl) (
  ce_fn (P := P_X21_addType))
noncomputable def ta_X21_addType : Nat → Option ce_N := (ce_tr 46 (ce_fd tb_X21_addType_0) (ce_fd tb_X21_addType_1))
theorem tx_X21_addType : ∀ pc f, ta_X21_addType pc = some f → P_X21_addType pc f := (ce_tr_ok (P := P_X21_addType) (ce_fd_ok (P := P_X21_addType) tk_X21_addType_0) (ce_fd_ok (P := P_X21_addType) tk_X21_addType_1))
noncomputable def F_X21_addType : ce_C := ce_M ta_X21_addType 1 1 5 1000000
theorem m_X21_addType : ∀ l : Launch, l.stackTraces = false → ce_MS l yX21_addType (.code yX21_addType cX21_addType 1 (some .int)) 2 1 5 F_X21_addType := fun l hl => ce_met hl (by decide +kernel) tx_X21_addType
theorem hp_X21_addType : yX21_addType.cls ≠ "java/lang/invoke/MethodHandle" ∧ yX21_addType.cls ≠ "java/lang/invoke/VarHandle" ∧ (parseMethodDescriptor yX21_addType.desc).map (fun d => d.parameters.length) = some 0 := by decide +kernel
abbrev P_X21_change : Nat → ce_N → Prop := ce_OKN "CarcasswrightModel" "change" cX21_change 9 (some .int) 2 (some [])
noncomputable def tb_X21_change_0 : List (Nat × ce_N) := [(0, ce_li (ce_aload 0 1)),
  (1, ce_li (ce_iload 2 2)),
  (2, ce_call 2 0 0 5 (.inr true) (ce_CV 20 F_X21_isType)),
  (5, ce_li (ce_if true false false 16 8)),
  (16, ce_li (ce_aload 0 17)),
  (17, ce_li (ce_push (.inl (.inl (1))) 18)),
  (18, ce_call 2 0 0 21 (.inr true) (ce_CV 20 F_X21_raises)),
  (21, ce_reti .int)]
theorem tk_X21_change_0 : ∀ x ∈ tb_X21_change_0, P_X21_change x.1 x.2 :=
  ce_fc (P := P_X21_change) (ok_li (ok_aload_n dX21_change_0 rfl)) (
  ce_fc (P := P_X21_change) (ok_li (ok_iload_n dX21_change_1 rfl)) (
  ce_fc (P := P_X21_change) (ok_call (ru_V (ci := 20) (C := RX21) (Tf := TX21) (N := 20) m_X21_isType (by decide) (by decide) rfl gw_2259 gw_2256 gw_2258 gp_17 gw_13 ⟨rfl, hp_X21_isType⟩ dX21_change_2) ca_t) (
  ce_fc (P := P_X21_change) (ok_li (ok_if_eq dX21_change_5 (by decide))) (
  ce_fc (P := P_X21_change) (ok_li (ok_aload_n dX21_change_16 rfl)) (
  ce_fc (P := P_X21_change) (ok_li (ok_iconst dX21_change_17)) (
  ce_fc (P := P_X21_change) (ok_call (ru_V (ci := 20) (C := RX21) (Tf := TX21) (N := 20) m_X21_raises (by decide) (by decide) rfl gw_1848 gw_1845 gw_1847 gp_9 gw_13 ⟨rfl, hp_X21_raises⟩ dX21_change_18) ca_t) (
  ce_fc (P := P_X21_change) (ok_reti dX21_change_21 rfl) (
  ce_fn (P := P_X21_change)))))))))
noncomputable def ta_X21_change : Nat → Option ce_N := (ce_fd tb_X21_change_0)
theorem tx_X21_change : ∀ pc f, ta_X21_change pc = some f → P_X21_change pc f := (ce_fd_ok (P := P_X21_change) tk_X21_change_0)
noncomputable def F_X21_change : ce_C := ce_M ta_X21_change 9 0 0 1000000
theorem m_X21_change : ∀ l : Launch, l.stackTraces = false → ce_MS l yX21_change (.code yX21_change cX21_change 9 (some .int)) 2 0 0 F_X21_change := fun l hl => ce_met hl (by decide +kernel) tx_X21_change
theorem hp_X21_change : yX21_change.cls ≠ "java/lang/invoke/MethodHandle" ∧ yX21_change.cls ≠ "java/lang/invoke/VarHandle" ∧ (parseMethodDescriptor yX21_change.desc).map (fun d => d.parameters.length) = some 2 := by decide +kernel
abbrev P_X21_clash : Nat → ce_N → Prop := ce_OKN "CarcasswrightModel" "clash" cX21_clash 2 (some .char) 2 (some [])
noncomputable def tb_X21_clash_0 : List (Nat × ce_N) := [(0, ce_li (ce_aload 0 1)),
  (1, ce_li (ce_iload 1 2)),
  (2, ce_li (ce_push (.inl (.inl (0))) 3)),
  (3, ce_li (ce_aload 0 4)),
  (4, ce_li (ce_getf 20 13 7)),
  (7, ce_call 1 0 0 10 (.inr true) (ce_CV 0 F_J0_length_8abf5)),
  (10, ce_li (ce_push (.inl (.inl (1))) 11)),
  (11, ce_li (ce_bin ce_subo 12)),
  (12, ce_call 3 0 0 15 (.inr true) F_X21_in),
  (15, ce_li (ce_if true false false 22 18)),
  (22, ce_li (ce_push (.inl (.inl (1))) 23)),
  (23, ce_li (ce_putf (tyX21 0) 20 0 26)),
  (26, ce_li (ce_aload 0 27)),
  (27, ce_li (ce_getf 20 0 30))]
theorem tk_X21_clash_0 : ∀ x ∈ tb_X21_clash_0, P_X21_clash x.1 x.2 :=
  ce_fc (P := P_X21_clash) (ok_li (ok_aload_n dX21_clash_0 rfl)) (
  ce_fc (P := P_X21_clash) (ok_li (ok_iload_n dX21_clash_1 rfl)) (
  ce_fc (P := P_X21_clash) (ok_li (ok_iconst dX21_clash_2)) (
  ce_fc (P := P_X21_clash) (ok_li (ok_aload_n dX21_clash_3 rfl)) (
  ce_fc (P := P_X21_clash) (ok_li (ok_getf (ci := 20) (k := 13) (C := RX21) (T := TX21) (N := 20) dX21_clash_4 rfl ce_uX21 (by decide) gw_1534 (fun _ _ _ _ h => h))) (
  ce_fc (P := P_X21_clash) (ok_call (ru_V (ci := 0) (C := RJ0) (Tf := TJ0) (N := 4) m_J0_length_8abf5 (by decide) (by decide) rfl gw_1609 gw_1924 gw_1607 gw_1608 gw_23 ⟨rfl, hp_J0_length_8abf5⟩ dX21_clash_7) ca_t) (
  ce_fc (P := P_X21_clash) (ok_li (ok_iconst dX21_clash_10)) (
  ce_fc (P := P_X21_clash) (ok_li (ok_isub dX21_clash_11)) (
  ce_fc (P := P_X21_clash) (ok_call (ru_S m_X21_in (by decide) (by decide) gw_1676 gw_1674 gw_1675 gw_13 hp_X21_in dX21_clash_12) ca_t) (
  ce_fc (P := P_X21_clash) (ok_li (ok_if_eq dX21_clash_15 (by decide))) (
  ce_fc (P := P_X21_clash) (ok_li (ok_iconst dX21_clash_22)) (
  ce_fc (P := P_X21_clash) (ok_li (ok_putf (ci := 20) (k := 0) (C := RX21) (T := TX21) (N := 20) (ty0 := tyX21) dX21_clash_23 rfl ce_uX21 (by decide) gw_1521 (fun _ _ _ _ h => h) tyX21_ok nmX21 (Or.inl rfl))) (
  ce_fc (P := P_X21_clash) (ok_li (ok_aload_n dX21_clash_26 rfl)) (
  ce_fc (P := P_X21_clash) (ok_li (ok_getf (ci := 20) (k := 0) (C := RX21) (T := TX21) (N := 20) dX21_clash_27 rfl ce_uX21 (by decide) gw_1521 (fun _ _ _ _ h => h))) (
  ce_fn (P := P_X21_clash)))))))))))))))
noncomputable def tb_X21_clash_1 : List (Nat × ce_N) := [(30, ce_li (ce_if false true true 38 33)),
  (33, ce_li (ce_push (.inl (.inl (32))) 35)),
  (35, ce_li (ce_goto 46)),
  (46, ce_reti .char)]
theorem tk_X21_clash_1 : ∀ x ∈ tb_X21_clash_1, P_X21_clash x.1 x.2 :=
  ce_fc (P := P_X21_clash) (ok_li (ok_if_le dX21_clash_30 (by decide))) (
  ce_fc (P := P_X21_clash) (ok_li (ok_bipush dX21_clash_33 (by decide))) (
  ce_fc (P := P_X21_clash) (ok_li (ok_goto dX21_clash_35 (by decide))) (
  ce_fc (P := P_X21_clash) (ok_reti dX21_clash_46 rfl) (
  ce_fn (P := P_X21_clash)))))
noncomputable def ta_X21_clash : Nat → Option ce_N := (ce_tr 30 (ce_fd tb_X21_clash_0) (ce_fd tb_X21_clash_1))
theorem tx_X21_clash : ∀ pc f, ta_X21_clash pc = some f → P_X21_clash pc f := (ce_tr_ok (P := P_X21_clash) (ce_fd_ok (P := P_X21_clash) tk_X21_clash_0) (ce_fd_ok (P := P_X21_clash) tk_X21_clash_1))
noncomputable def F_X21_clash : ce_C := ce_M ta_X21_clash 2 0 0 1000000
theorem m_X21_clash : ∀ l : Launch, l.stackTraces = false → ce_MS l yX21_clash (.code yX21_clash cX21_clash 2 (some .char)) 2 0 0 F_X21_clash := fun l hl => ce_met hl (by decide +kernel) tx_X21_clash
theorem hp_X21_clash : yX21_clash.cls ≠ "java/lang/invoke/MethodHandle" ∧ yX21_clash.cls ≠ "java/lang/invoke/VarHandle" ∧ (parseMethodDescriptor yX21_clash.desc).map (fun d => d.parameters.length) = some 1 := by decide +kernel
abbrev P_X21_clashNumber : Nat → ce_N → Prop := ce_OKN "CarcasswrightModel" "clashNumber" cX21_clashNumber 2 (some .int) 2 (some [])
noncomputable def tb_X21_clashNumber_0 : List (Nat × ce_N) := [(0, ce_li (ce_aload 0 1)),
  (1, ce_li (ce_iload 1 2)),
  (2, ce_li (ce_push (.inl (.inl (0))) 3)),
  (3, ce_li (ce_aload 0 4)),
  (4, ce_li (ce_getf 20 13 7)),
  (7, ce_call 1 0 0 10 (.inr true) (ce_CV 0 F_J0_length_8abf5)),
  (10, ce_li (ce_push (.inl (.inl (1))) 11)),
  (11, ce_li (ce_bin ce_subo 12)),
  (12, ce_call 3 0 0 15 (.inr true) F_X21_in),
  (15, ce_li (ce_if true false false 22 18)),
  (22, ce_li (ce_push (.inl (.inl (1))) 23)),
  (23, ce_li (ce_putf (tyX21 0) 20 0 26)),
  (26, ce_li (ce_aload 0 27)),
  (27, ce_li (ce_getf 20 0 30))]
theorem tk_X21_clashNumber_0 : ∀ x ∈ tb_X21_clashNumber_0, P_X21_clashNumber x.1 x.2 :=
  ce_fc (P := P_X21_clashNumber) (ok_li (ok_aload_n dX21_clashNumber_0 rfl)) (
  ce_fc (P := P_X21_clashNumber) (ok_li (ok_iload_n dX21_clashNumber_1 rfl)) (
  ce_fc (P := P_X21_clashNumber) (ok_li (ok_iconst dX21_clashNumber_2)) (
  ce_fc (P := P_X21_clashNumber) (ok_li (ok_aload_n dX21_clashNumber_3 rfl)) (
  ce_fc (P := P_X21_clashNumber) (ok_li (ok_getf (ci := 20) (k := 13) (C := RX21) (T := TX21) (N := 20) dX21_clashNumber_4 rfl ce_uX21 (by decide) gw_1534 (fun _ _ _ _ h => h))) (
  ce_fc (P := P_X21_clashNumber) (ok_call (ru_V (ci := 0) (C := RJ0) (Tf := TJ0) (N := 4) m_J0_length_8abf5 (by decide) (by decide) rfl gw_1609 gw_1924 gw_1607 gw_1608 gw_23 ⟨rfl, hp_J0_length_8abf5⟩ dX21_clashNumber_7) ca_t) (
  ce_fc (P := P_X21_clashNumber) (ok_li (ok_iconst dX21_clashNumber_10)) (
  ce_fc (P := P_X21_clashNumber) (ok_li (ok_isub dX21_clashNumber_11)) (
  ce_fc (P := P_X21_clashNumber) (ok_call (ru_S m_X21_in (by decide) (by decide) gw_1676 gw_1674 gw_1675 gw_13 hp_X21_in dX21_clashNumber_12) ca_t) (
  ce_fc (P := P_X21_clashNumber) (ok_li (ok_if_eq dX21_clashNumber_15 (by decide))) (
  ce_fc (P := P_X21_clashNumber) (ok_li (ok_iconst dX21_clashNumber_22)) (
  ce_fc (P := P_X21_clashNumber) (ok_li (ok_putf (ci := 20) (k := 0) (C := RX21) (T := TX21) (N := 20) (ty0 := tyX21) dX21_clashNumber_23 rfl ce_uX21 (by decide) gw_1521 (fun _ _ _ _ h => h) tyX21_ok nmX21 (Or.inl rfl))) (
  ce_fc (P := P_X21_clashNumber) (ok_li (ok_aload_n dX21_clashNumber_26 rfl)) (
  ce_fc (P := P_X21_clashNumber) (ok_li (ok_getf (ci := 20) (k := 0) (C := RX21) (T := TX21) (N := 20) dX21_clashNumber_27 rfl ce_uX21 (by decide) gw_1521 (fun _ _ _ _ h => h))) (
  ce_fn (P := P_X21_clashNumber)))))))))))))))
noncomputable def tb_X21_clashNumber_1 : List (Nat × ce_N) := [(30, ce_li (ce_if false true true 37 33)),
  (33, ce_li (ce_push (.inl (.inl (0))) 34)),
  (34, ce_li (ce_goto 43)),
  (43, ce_reti .int)]
theorem tk_X21_clashNumber_1 : ∀ x ∈ tb_X21_clashNumber_1, P_X21_clashNumber x.1 x.2 :=
  ce_fc (P := P_X21_clashNumber) (ok_li (ok_if_le dX21_clashNumber_30 (by decide))) (
  ce_fc (P := P_X21_clashNumber) (ok_li (ok_iconst dX21_clashNumber_33)) (
  ce_fc (P := P_X21_clashNumber) (ok_li (ok_goto dX21_clashNumber_34 (by decide))) (
  ce_fc (P := P_X21_clashNumber) (ok_reti dX21_clashNumber_43 rfl) (
  ce_fn (P := P_X21_clashNumber)))))
noncomputable def ta_X21_clashNumber : Nat → Option ce_N := (ce_tr 30 (ce_fd tb_X21_clashNumber_0) (ce_fd tb_X21_clashNumber_1))
theorem tx_X21_clashNumber : ∀ pc f, ta_X21_clashNumber pc = some f → P_X21_clashNumber pc f := (ce_tr_ok (P := P_X21_clashNumber) (ce_fd_ok (P := P_X21_clashNumber) tk_X21_clashNumber_0) (ce_fd_ok (P := P_X21_clashNumber) tk_X21_clashNumber_1))
noncomputable def F_X21_clashNumber : ce_C := ce_M ta_X21_clashNumber 2 0 0 1000000
theorem m_X21_clashNumber : ∀ l : Launch, l.stackTraces = false → ce_MS l yX21_clashNumber (.code yX21_clashNumber cX21_clashNumber 2 (some .int)) 2 0 0 F_X21_clashNumber := fun l hl => ce_met hl (by decide +kernel) tx_X21_clashNumber
theorem hp_X21_clashNumber : yX21_clashNumber.cls ≠ "java/lang/invoke/MethodHandle" ∧ yX21_clashNumber.cls ≠ "java/lang/invoke/VarHandle" ∧ (parseMethodDescriptor yX21_clashNumber.desc).map (fun d => d.parameters.length) = some 1 := by decide +kernel
abbrev P_X21_cut : Nat → ce_N → Prop := ce_OKN "CarcasswrightModel" "cut" cX21_cut 13 (some .int) 2 (some [])
noncomputable def tb_X21_cut_0 : List (Nat × ce_N) := [(0, ce_li (ce_aload 0 1)),
  (1, ce_li (ce_iload 1 2)),
  (2, ce_call 2 0 0 5 (.inr true) (ce_CV 20 F_X21_noModule)),
  (5, ce_li (ce_if true false false 10 8)),
  (8, ce_li (ce_push (.inl (.inl (0))) 9)),
  (9, ce_reti .int)]
theorem tk_X21_cut_0 : ∀ x ∈ tb_X21_cut_0, P_X21_cut x.1 x.2 :=
  ce_fc (P := P_X21_cut) (ok_li (ok_aload_n dX21_cut_0 rfl)) (
  ce_fc (P := P_X21_cut) (ok_li (ok_iload_n dX21_cut_1 rfl)) (
  ce_fc (P := P_X21_cut) (ok_call (ru_V (ci := 20) (C := RX21) (Tf := TX21) (N := 20) m_X21_noModule (by decide) (by decide) rfl gw_2337 gw_2334 gw_2336 gp_21 gw_13 ⟨rfl, hp_X21_noModule⟩ dX21_cut_2) ca_t) (
  ce_fc (P := P_X21_cut) (ok_li (ok_if_eq dX21_cut_5 (by decide))) (
  ce_fc (P := P_X21_cut) (ok_li (ok_iconst dX21_cut_8)) (
  ce_fc (P := P_X21_cut) (ok_reti dX21_cut_9 rfl) (
  ce_fn (P := P_X21_cut)))))))
noncomputable def ta_X21_cut : Nat → Option ce_N := (ce_fd tb_X21_cut_0)
theorem tx_X21_cut : ∀ pc f, ta_X21_cut pc = some f → P_X21_cut pc f := (ce_fd_ok (P := P_X21_cut) tk_X21_cut_0)
noncomputable def F_X21_cut : ce_C := ce_M ta_X21_cut 13 0 0 1000000
theorem m_X21_cut : ∀ l : Launch, l.stackTraces = false → ce_MS l yX21_cut (.code yX21_cut cX21_cut 13 (some .int)) 2 0 0 F_X21_cut := fun l hl => ce_met hl (by decide +kernel) tx_X21_cut
theorem hp_X21_cut : yX21_cut.cls ≠ "java/lang/invoke/MethodHandle" ∧ yX21_cut.cls ≠ "java/lang/invoke/VarHandle" ∧ (parseMethodDescriptor yX21_cut.desc).map (fun d => d.parameters.length) = some 1 := by decide +kernel
abbrev P_X21_cutArea : Nat → ce_N → Prop := ce_OKN "CarcasswrightModel" "cutArea" cX21_cutArea 7 (some .long) 2 (some [])
noncomputable def tb_X21_cutArea_0 : List (Nat × ce_N) := [(0, ce_li (ce_push (.inr (.inl (.inl 0))) 1)),
  (1, ce_li (ce_lstore 1 2 7)),
  (2, ce_li (ce_aload 0 3)),
  (3, ce_li (ce_getf 20 5 6)),
  (6, ce_call 1 1 4 9 (.inr true) (ce_CV 3 F_Jx4a65c_iterator_32c93)),
  (9, ce_li (ce_astore 3 10 7)),
  (10, ce_li (ce_aload 3 11)),
  (11, ce_call 1 0 0 16 (.inr true) (ce_CV 2 F_Jx35411_hasNext_aae02)),
  (16, ce_li (ce_if true false false 76 19)),
  (76, ce_li (ce_lload 1 77)),
  (77, ce_retl)]
theorem tk_X21_cutArea_0 : ∀ x ∈ tb_X21_cutArea_0, P_X21_cutArea x.1 x.2 :=
  ce_fc (P := P_X21_cutArea) (ok_li (ok_lconst0 dX21_cutArea_0)) (
  ce_fc (P := P_X21_cutArea) (ok_li (ok_lstore_n dX21_cutArea_1 rfl)) (
  ce_fc (P := P_X21_cutArea) (ok_li (ok_aload_n dX21_cutArea_2 rfl)) (
  ce_fc (P := P_X21_cutArea) (ok_li (ok_getf (ci := 20) (k := 5) (C := RX21) (T := TX21) (N := 20) dX21_cutArea_3 rfl ce_uX21 (by decide) gw_1526 (fun _ _ _ _ h => h))) (
  ce_fc (P := P_X21_cutArea) (ok_call (ru_V (ci := 3) (C := RJx4a65c) (Tf := TJx4a65c) (N := 3) m_Jx4a65c_iterator_32c93 (by decide) (by decide) rfl gw_1800 gw_1797 gw_1798 gw_1799 gw_16 ⟨rfl, hp_Jx4a65c_iterator_32c93⟩ dX21_cutArea_6) ca_t) (
  ce_fc (P := P_X21_cutArea) (ok_li (ok_astore_n dX21_cutArea_9 rfl)) (
  ce_fc (P := P_X21_cutArea) (ok_li (ok_aload_n dX21_cutArea_10 rfl)) (
  ce_fc (P := P_X21_cutArea) (ok_call (ru_F (ci := 2) (Tf := TJx35411) (N := 4) m_Jx35411_hasNext_aae02 (by decide) (by decide) rfl gw_1829 gw_1821 gw_1825 gw_1827 gw_34 hp_Jx35411_hasNext_aae02.2.2 dX21_cutArea_11) ca_t) (
  ce_fc (P := P_X21_cutArea) (ok_li (ok_if_eq dX21_cutArea_16 (by decide))) (
  ce_fc (P := P_X21_cutArea) (ok_li (ok_lload_n dX21_cutArea_76 rfl)) (
  ce_fc (P := P_X21_cutArea) (ok_retl dX21_cutArea_77 rfl) (
  ce_fn (P := P_X21_cutArea))))))))))))
noncomputable def ta_X21_cutArea : Nat → Option ce_N := (ce_fd tb_X21_cutArea_0)
theorem tx_X21_cutArea : ∀ pc f, ta_X21_cutArea pc = some f → P_X21_cutArea pc f := (ce_fd_ok (P := P_X21_cutArea) tk_X21_cutArea_0)
noncomputable def F_X21_cutArea : ce_C := ce_M ta_X21_cutArea 7 1 4 1000000
theorem m_X21_cutArea : ∀ l : Launch, l.stackTraces = false → ce_MS l yX21_cutArea (.code yX21_cutArea cX21_cutArea 7 (some .long)) 2 1 4 F_X21_cutArea := fun l hl => ce_met hl (by decide +kernel) tx_X21_cutArea
theorem hp_X21_cutArea : yX21_cutArea.cls ≠ "java/lang/invoke/MethodHandle" ∧ yX21_cutArea.cls ≠ "java/lang/invoke/VarHandle" ∧ (parseMethodDescriptor yX21_cutArea.desc).map (fun d => d.parameters.length) = some 0 := by decide +kernel
abbrev P_X21_cutShare : Nat → ce_N → Prop := ce_OKN "CarcasswrightModel" "cutShare" cX21_cutShare 5 (some .float) 2 (some [])
noncomputable def tb_X21_cutShare_0 : List (Nat × ce_N) := [(0, ce_li (ce_aload 0 1)),
  (1, ce_li (ce_aload 0 2)),
  (2, ce_li (ce_getf 20 5 5)),
  (5, ce_call 1 0 0 8 (.inr true) (ce_CV 3 F_Jx4a65c_isEmpty_aae02)),
  (8, ce_li (ce_if true false false 15 11)),
  (11, ce_li (ce_push (.inl (.inl (1))) 12)),
  (12, ce_li (ce_goto 16)),
  (16, ce_li (ce_putf (tyX21 0) 20 0 19)),
  (19, ce_li (ce_push (.inl (.inl (0))) 20)),
  (20, ce_li (ce_istore 1 21 5)),
  (21, ce_li (ce_push (.inl (.inl (0))) 22)),
  (22, ce_li (ce_istore 2 23 5)),
  (23, ce_li (ce_aload 0 24)),
  (24, ce_li (ce_getf 20 5 27))]
theorem tk_X21_cutShare_0 : ∀ x ∈ tb_X21_cutShare_0, P_X21_cutShare x.1 x.2 :=
  ce_fc (P := P_X21_cutShare) (ok_li (ok_aload_n dX21_cutShare_0 rfl)) (
  ce_fc (P := P_X21_cutShare) (ok_li (ok_aload_n dX21_cutShare_1 rfl)) (
  ce_fc (P := P_X21_cutShare) (ok_li (ok_getf (ci := 20) (k := 5) (C := RX21) (T := TX21) (N := 20) dX21_cutShare_2 rfl ce_uX21 (by decide) gw_1526 (fun _ _ _ _ h => h))) (
  ce_fc (P := P_X21_cutShare) (ok_call (ru_V (ci := 3) (C := RJx4a65c) (Tf := TJx4a65c) (N := 3) m_Jx4a65c_isEmpty_aae02 (by decide) (by decide) rfl gw_1684 gw_1681 gw_1682 gw_1683 gw_16 ⟨rfl, hp_Jx4a65c_isEmpty_aae02⟩ dX21_cutShare_5) ca_t) (
  ce_fc (P := P_X21_cutShare) (ok_li (ok_if_eq dX21_cutShare_8 (by decide))) (
  ce_fc (P := P_X21_cutShare) (ok_li (ok_iconst dX21_cutShare_11)) (
  ce_fc (P := P_X21_cutShare) (ok_li (ok_goto dX21_cutShare_12 (by decide))) (
  ce_fc (P := P_X21_cutShare) (ok_li (ok_putf (ci := 20) (k := 0) (C := RX21) (T := TX21) (N := 20) (ty0 := tyX21) dX21_cutShare_16 rfl ce_uX21 (by decide) gw_1521 (fun _ _ _ _ h => h) tyX21_ok nmX21 (Or.inl rfl))) (
  ce_fc (P := P_X21_cutShare) (ok_li (ok_iconst dX21_cutShare_19)) (
  ce_fc (P := P_X21_cutShare) (ok_li (ok_istore_n dX21_cutShare_20 rfl)) (
  ce_fc (P := P_X21_cutShare) (ok_li (ok_iconst dX21_cutShare_21)) (
  ce_fc (P := P_X21_cutShare) (ok_li (ok_istore_n dX21_cutShare_22 rfl)) (
  ce_fc (P := P_X21_cutShare) (ok_li (ok_aload_n dX21_cutShare_23 rfl)) (
  ce_fc (P := P_X21_cutShare) (ok_li (ok_getf (ci := 20) (k := 5) (C := RX21) (T := TX21) (N := 20) dX21_cutShare_24 rfl ce_uX21 (by decide) gw_1526 (fun _ _ _ _ h => h))) (
  ce_fn (P := P_X21_cutShare)))))))))))))))
noncomputable def tb_X21_cutShare_1 : List (Nat × ce_N) := [(27, ce_call 1 1 4 30 (.inr true) (ce_CV 3 F_Jx4a65c_iterator_32c93)),
  (30, ce_li (ce_astore 3 31 5)),
  (31, ce_li (ce_aload 3 32)),
  (32, ce_call 1 0 0 37 (.inr true) (ce_CV 2 F_Jx35411_hasNext_aae02)),
  (37, ce_li (ce_if true false false 76 40)),
  (76, ce_li (ce_aload 0 77)),
  (77, ce_li (ce_getf 20 0 80)),
  (80, ce_li (ce_if false true true 87 83)),
  (83, ce_li (ce_push (.inr (.inr (.inr (.float 0)))) 84)),
  (84, ce_li (ce_goto 92)),
  (92, ce_retc (.float 0))]
theorem tk_X21_cutShare_1 : ∀ x ∈ tb_X21_cutShare_1, P_X21_cutShare x.1 x.2 :=
  ce_fc (P := P_X21_cutShare) (ok_call (ru_V (ci := 3) (C := RJx4a65c) (Tf := TJx4a65c) (N := 3) m_Jx4a65c_iterator_32c93 (by decide) (by decide) rfl gw_1800 gw_1797 gw_1798 gw_1799 gw_16 ⟨rfl, hp_Jx4a65c_iterator_32c93⟩ dX21_cutShare_27) ca_t) (
  ce_fc (P := P_X21_cutShare) (ok_li (ok_astore_n dX21_cutShare_30 rfl)) (
  ce_fc (P := P_X21_cutShare) (ok_li (ok_aload_n dX21_cutShare_31 rfl)) (
  ce_fc (P := P_X21_cutShare) (ok_call (ru_F (ci := 2) (Tf := TJx35411) (N := 4) m_Jx35411_hasNext_aae02 (by decide) (by decide) rfl gw_1829 gw_1821 gw_1825 gw_1827 gw_34 hp_Jx35411_hasNext_aae02.2.2 dX21_cutShare_32) ca_t) (
  ce_fc (P := P_X21_cutShare) (ok_li (ok_if_eq dX21_cutShare_37 (by decide))) (
  ce_fc (P := P_X21_cutShare) (ok_li (ok_aload_n dX21_cutShare_76 rfl)) (
  ce_fc (P := P_X21_cutShare) (ok_li (ok_getf (ci := 20) (k := 0) (C := RX21) (T := TX21) (N := 20) dX21_cutShare_77 rfl ce_uX21 (by decide) gw_1521 (fun _ _ _ _ h => h))) (
  ce_fc (P := P_X21_cutShare) (ok_li (ok_if_le dX21_cutShare_80 (by decide))) (
  ce_fc (P := P_X21_cutShare) (ok_li (ok_fconst0 dX21_cutShare_83)) (
  ce_fc (P := P_X21_cutShare) (ok_li (ok_goto dX21_cutShare_84 (by decide))) (
  ce_fc (P := P_X21_cutShare) (ok_retf dX21_cutShare_92 rfl) (
  ce_fn (P := P_X21_cutShare))))))))))))
noncomputable def ta_X21_cutShare : Nat → Option ce_N := (ce_tr 27 (ce_fd tb_X21_cutShare_0) (ce_fd tb_X21_cutShare_1))
theorem tx_X21_cutShare : ∀ pc f, ta_X21_cutShare pc = some f → P_X21_cutShare pc f := (ce_tr_ok (P := P_X21_cutShare) (ce_fd_ok (P := P_X21_cutShare) tk_X21_cutShare_0) (ce_fd_ok (P := P_X21_cutShare) tk_X21_cutShare_1))
noncomputable def F_X21_cutShare : ce_C := ce_M ta_X21_cutShare 5 1 4 1000000
theorem m_X21_cutShare : ∀ l : Launch, l.stackTraces = false → ce_MS l yX21_cutShare (.code yX21_cutShare cX21_cutShare 5 (some .float)) 2 1 4 F_X21_cutShare := fun l hl => ce_met hl (by decide +kernel) tx_X21_cutShare
theorem hp_X21_cutShare : yX21_cutShare.cls ≠ "java/lang/invoke/MethodHandle" ∧ yX21_cutShare.cls ≠ "java/lang/invoke/VarHandle" ∧ (parseMethodDescriptor yX21_cutShare.desc).map (fun d => d.parameters.length) = some 0 := by decide +kernel
abbrev P_X21_edged : Nat → ce_N → Prop := ce_OKN "CarcasswrightModel" "edged" cX21_edged 7 (some .int) 2 (some [])
noncomputable def tb_X21_edged_0 : List (Nat × ce_N) := [(0, ce_li (ce_aload 0 1)),
  (1, ce_li (ce_iload 1 2)),
  (2, ce_li (ce_push (.inl (.inl (0))) 3)),
  (3, ce_li (ce_push (.inl (.inl (2))) 4)),
  (4, ce_call 3 0 0 7 (.inr true) F_X21_in),
  (7, ce_li (ce_if true false false 14 10)),
  (10, ce_li (ce_push (.inl (.inl (0))) 11)),
  (11, ce_li (ce_goto 15)),
  (14, ce_li (ce_push (.inl (.inl (1))) 15)),
  (15, ce_li (ce_putf (tyX21 0) 20 0 18)),
  (18, ce_li (ce_push (.inl (.inl (0))) 19)),
  (19, ce_li (ce_istore 2 20 7)),
  (20, ce_li (ce_aload 0 21)),
  (21, ce_li (ce_getf 20 5 24))]
theorem tk_X21_edged_0 : ∀ x ∈ tb_X21_edged_0, P_X21_edged x.1 x.2 :=
  ce_fc (P := P_X21_edged) (ok_li (ok_aload_n dX21_edged_0 rfl)) (
  ce_fc (P := P_X21_edged) (ok_li (ok_iload_n dX21_edged_1 rfl)) (
  ce_fc (P := P_X21_edged) (ok_li (ok_iconst dX21_edged_2)) (
  ce_fc (P := P_X21_edged) (ok_li (ok_iconst dX21_edged_3)) (
  ce_fc (P := P_X21_edged) (ok_call (ru_S m_X21_in (by decide) (by decide) gw_1676 gw_1674 gw_1675 gw_13 hp_X21_in dX21_edged_4) ca_t) (
  ce_fc (P := P_X21_edged) (ok_li (ok_if_eq dX21_edged_7 (by decide))) (
  ce_fc (P := P_X21_edged) (ok_li (ok_iconst dX21_edged_10)) (
  ce_fc (P := P_X21_edged) (ok_li (ok_goto dX21_edged_11 (by decide))) (
  ce_fc (P := P_X21_edged) (ok_li (ok_iconst dX21_edged_14)) (
  ce_fc (P := P_X21_edged) (ok_li (ok_putf (ci := 20) (k := 0) (C := RX21) (T := TX21) (N := 20) (ty0 := tyX21) dX21_edged_15 rfl ce_uX21 (by decide) gw_1521 (fun _ _ _ _ h => h) tyX21_ok nmX21 (Or.inl rfl))) (
  ce_fc (P := P_X21_edged) (ok_li (ok_iconst dX21_edged_18)) (
  ce_fc (P := P_X21_edged) (ok_li (ok_istore_n dX21_edged_19 rfl)) (
  ce_fc (P := P_X21_edged) (ok_li (ok_aload_n dX21_edged_20 rfl)) (
  ce_fc (P := P_X21_edged) (ok_li (ok_getf (ci := 20) (k := 5) (C := RX21) (T := TX21) (N := 20) dX21_edged_21 rfl ce_uX21 (by decide) gw_1526 (fun _ _ _ _ h => h))) (
  ce_fn (P := P_X21_edged)))))))))))))))
noncomputable def tb_X21_edged_1 : List (Nat × ce_N) := [(24, ce_call 1 1 4 27 (.inr true) (ce_CV 3 F_Jx4a65c_iterator_32c93)),
  (27, ce_li (ce_astore 3 28 7)),
  (28, ce_li (ce_aload 3 29)),
  (29, ce_call 1 0 0 34 (.inr true) (ce_CV 2 F_Jx35411_hasNext_aae02)),
  (34, ce_li (ce_if true false false 114 37)),
  (114, ce_li (ce_iload 2 115)),
  (115, ce_reti .int)]
theorem tk_X21_edged_1 : ∀ x ∈ tb_X21_edged_1, P_X21_edged x.1 x.2 :=
  ce_fc (P := P_X21_edged) (ok_call (ru_V (ci := 3) (C := RJx4a65c) (Tf := TJx4a65c) (N := 3) m_Jx4a65c_iterator_32c93 (by decide) (by decide) rfl gw_1800 gw_1797 gw_1798 gw_1799 gw_16 ⟨rfl, hp_Jx4a65c_iterator_32c93⟩ dX21_edged_24) ca_t) (
  ce_fc (P := P_X21_edged) (ok_li (ok_astore_n dX21_edged_27 rfl)) (
  ce_fc (P := P_X21_edged) (ok_li (ok_aload_n dX21_edged_28 rfl)) (
  ce_fc (P := P_X21_edged) (ok_call (ru_F (ci := 2) (Tf := TJx35411) (N := 4) m_Jx35411_hasNext_aae02 (by decide) (by decide) rfl gw_1829 gw_1821 gw_1825 gw_1827 gw_34 hp_Jx35411_hasNext_aae02.2.2 dX21_edged_29) ca_t) (
  ce_fc (P := P_X21_edged) (ok_li (ok_if_eq dX21_edged_34 (by decide))) (
  ce_fc (P := P_X21_edged) (ok_li (ok_iload_n dX21_edged_114 rfl)) (
  ce_fc (P := P_X21_edged) (ok_reti dX21_edged_115 rfl) (
  ce_fn (P := P_X21_edged))))))))
noncomputable def ta_X21_edged : Nat → Option ce_N := (ce_tr 24 (ce_fd tb_X21_edged_0) (ce_fd tb_X21_edged_1))
theorem tx_X21_edged : ∀ pc f, ta_X21_edged pc = some f → P_X21_edged pc f := (ce_tr_ok (P := P_X21_edged) (ce_fd_ok (P := P_X21_edged) tk_X21_edged_0) (ce_fd_ok (P := P_X21_edged) tk_X21_edged_1))
noncomputable def F_X21_edged : ce_C := ce_M ta_X21_edged 7 1 4 1000000
theorem m_X21_edged : ∀ l : Launch, l.stackTraces = false → ce_MS l yX21_edged (.code yX21_edged cX21_edged 7 (some .int)) 2 1 4 F_X21_edged := fun l hl => ce_met hl (by decide +kernel) tx_X21_edged
theorem hp_X21_edged : yX21_edged.cls ≠ "java/lang/invoke/MethodHandle" ∧ yX21_edged.cls ≠ "java/lang/invoke/VarHandle" ∧ (parseMethodDescriptor yX21_edged.desc).map (fun d => d.parameters.length) = some 1 := by decide +kernel
abbrev P_X21_fault : Nat → ce_N → Prop := ce_OKN "CarcasswrightModel" "fault" cX21_fault 1 (some .int) 2 (some [])
noncomputable def tb_X21_fault_0 : List (Nat × ce_N) := [(0, ce_li (ce_aload 0 1)),
  (1, ce_call 1 1 5 4 (.inr true) (ce_CV 20 F_X21_reads)),
  (4, ce_li (ce_aload 0 5)),
  (5, ce_li (ce_aload 0 6)),
  (6, ce_li (ce_getf 20 16 9)),
  (9, ce_li (ce_push (.inl (.inl (32))) 11)),
  (11, ce_li (ce_icmp true false true 18 14)),
  (18, ce_li (ce_push (.inl (.inl (0))) 19)),
  (19, ce_li (ce_putf (tyX21 0) 20 0 22)),
  (22, ce_li (ce_aload 0 23)),
  (23, ce_li (ce_getf 20 0 26)),
  (26, ce_li (ce_if false true true 33 29)),
  (33, ce_li (ce_aload 0 34)),
  (34, ce_li (ce_getf 20 17 37))]
theorem tk_X21_fault_0 : ∀ x ∈ tb_X21_fault_0, P_X21_fault x.1 x.2 :=
  ce_fc (P := P_X21_fault) (ok_li (ok_aload_n dX21_fault_0 rfl)) (
  ce_fc (P := P_X21_fault) (ok_call (ru_V (ci := 20) (C := RX21) (Tf := TX21) (N := 20) m_X21_reads (by decide) (by decide) rfl gw_2163 gw_2160 gw_2162 gp_13 gw_13 ⟨rfl, hp_X21_reads⟩ dX21_fault_1) ca_t) (
  ce_fc (P := P_X21_fault) (ok_li (ok_aload_n dX21_fault_4 rfl)) (
  ce_fc (P := P_X21_fault) (ok_li (ok_aload_n dX21_fault_5 rfl)) (
  ce_fc (P := P_X21_fault) (ok_li (ok_getf (ci := 20) (k := 16) (C := RX21) (T := TX21) (N := 20) dX21_fault_6 rfl ce_uX21 (by decide) gw_1537 (fun _ _ _ _ h => h))) (
  ce_fc (P := P_X21_fault) (ok_li (ok_bipush dX21_fault_9 (by decide))) (
  ce_fc (P := P_X21_fault) (ok_li (ok_icmp_ne dX21_fault_11 (by decide))) (
  ce_fc (P := P_X21_fault) (ok_li (ok_iconst dX21_fault_18)) (
  ce_fc (P := P_X21_fault) (ok_li (ok_putf (ci := 20) (k := 0) (C := RX21) (T := TX21) (N := 20) (ty0 := tyX21) dX21_fault_19 rfl ce_uX21 (by decide) gw_1521 (fun _ _ _ _ h => h) tyX21_ok nmX21 (Or.inl rfl))) (
  ce_fc (P := P_X21_fault) (ok_li (ok_aload_n dX21_fault_22 rfl)) (
  ce_fc (P := P_X21_fault) (ok_li (ok_getf (ci := 20) (k := 0) (C := RX21) (T := TX21) (N := 20) dX21_fault_23 rfl ce_uX21 (by decide) gw_1521 (fun _ _ _ _ h => h))) (
  ce_fc (P := P_X21_fault) (ok_li (ok_if_le dX21_fault_26 (by decide))) (
  ce_fc (P := P_X21_fault) (ok_li (ok_aload_n dX21_fault_33 rfl)) (
  ce_fc (P := P_X21_fault) (ok_li (ok_getf (ci := 20) (k := 17) (C := RX21) (T := TX21) (N := 20) dX21_fault_34 rfl ce_uX21 (by decide) gw_1538 (fun _ _ _ _ h => h))) (
  ce_fn (P := P_X21_fault)))))))))))))))
noncomputable def tb_X21_fault_1 : List (Nat × ce_N) := [(37, ce_reti .int)]
theorem tk_X21_fault_1 : ∀ x ∈ tb_X21_fault_1, P_X21_fault x.1 x.2 :=
  ce_fc (P := P_X21_fault) (ok_reti dX21_fault_37 rfl) (
  ce_fn (P := P_X21_fault))
noncomputable def ta_X21_fault : Nat → Option ce_N := (ce_tr 37 (ce_fd tb_X21_fault_0) (ce_fd tb_X21_fault_1))
theorem tx_X21_fault : ∀ pc f, ta_X21_fault pc = some f → P_X21_fault pc f := (ce_tr_ok (P := P_X21_fault) (ce_fd_ok (P := P_X21_fault) tk_X21_fault_0) (ce_fd_ok (P := P_X21_fault) tk_X21_fault_1))
noncomputable def F_X21_fault : ce_C := ce_M ta_X21_fault 1 1 5 1000000
theorem m_X21_fault : ∀ l : Launch, l.stackTraces = false → ce_MS l yX21_fault (.code yX21_fault cX21_fault 1 (some .int)) 2 1 5 F_X21_fault := fun l hl => ce_met hl (by decide +kernel) tx_X21_fault
theorem hp_X21_fault : yX21_fault.cls ≠ "java/lang/invoke/MethodHandle" ∧ yX21_fault.cls ≠ "java/lang/invoke/VarHandle" ∧ (parseMethodDescriptor yX21_fault.desc).map (fun d => d.parameters.length) = some 0 := by decide +kernel
abbrev P_X21_faultKind : Nat → ce_N → Prop := ce_OKN "CarcasswrightModel" "faultKind" cX21_faultKind 1 (some .char) 2 (some [])
noncomputable def tb_X21_faultKind_0 : List (Nat × ce_N) := [(0, ce_li (ce_aload 0 1)),
  (1, ce_call 1 1 5 4 (.inr true) (ce_CV 20 F_X21_reads)),
  (4, ce_li (ce_aload 0 5)),
  (5, ce_li (ce_aload 0 6)),
  (6, ce_li (ce_getf 20 16 9)),
  (9, ce_li (ce_push (.inl (.inl (32))) 11)),
  (11, ce_li (ce_icmp true false true 18 14)),
  (18, ce_li (ce_push (.inl (.inl (0))) 19)),
  (19, ce_li (ce_putf (tyX21 0) 20 0 22)),
  (22, ce_li (ce_aload 0 23)),
  (23, ce_li (ce_getf 20 0 26)),
  (26, ce_li (ce_if false true true 34 29)),
  (34, ce_li (ce_aload 0 35)),
  (35, ce_li (ce_getf 20 16 38))]
theorem tk_X21_faultKind_0 : ∀ x ∈ tb_X21_faultKind_0, P_X21_faultKind x.1 x.2 :=
  ce_fc (P := P_X21_faultKind) (ok_li (ok_aload_n dX21_faultKind_0 rfl)) (
  ce_fc (P := P_X21_faultKind) (ok_call (ru_V (ci := 20) (C := RX21) (Tf := TX21) (N := 20) m_X21_reads (by decide) (by decide) rfl gw_2163 gw_2160 gw_2162 gp_13 gw_13 ⟨rfl, hp_X21_reads⟩ dX21_faultKind_1) ca_t) (
  ce_fc (P := P_X21_faultKind) (ok_li (ok_aload_n dX21_faultKind_4 rfl)) (
  ce_fc (P := P_X21_faultKind) (ok_li (ok_aload_n dX21_faultKind_5 rfl)) (
  ce_fc (P := P_X21_faultKind) (ok_li (ok_getf (ci := 20) (k := 16) (C := RX21) (T := TX21) (N := 20) dX21_faultKind_6 rfl ce_uX21 (by decide) gw_1537 (fun _ _ _ _ h => h))) (
  ce_fc (P := P_X21_faultKind) (ok_li (ok_bipush dX21_faultKind_9 (by decide))) (
  ce_fc (P := P_X21_faultKind) (ok_li (ok_icmp_ne dX21_faultKind_11 (by decide))) (
  ce_fc (P := P_X21_faultKind) (ok_li (ok_iconst dX21_faultKind_18)) (
  ce_fc (P := P_X21_faultKind) (ok_li (ok_putf (ci := 20) (k := 0) (C := RX21) (T := TX21) (N := 20) (ty0 := tyX21) dX21_faultKind_19 rfl ce_uX21 (by decide) gw_1521 (fun _ _ _ _ h => h) tyX21_ok nmX21 (Or.inl rfl))) (
  ce_fc (P := P_X21_faultKind) (ok_li (ok_aload_n dX21_faultKind_22 rfl)) (
  ce_fc (P := P_X21_faultKind) (ok_li (ok_getf (ci := 20) (k := 0) (C := RX21) (T := TX21) (N := 20) dX21_faultKind_23 rfl ce_uX21 (by decide) gw_1521 (fun _ _ _ _ h => h))) (
  ce_fc (P := P_X21_faultKind) (ok_li (ok_if_le dX21_faultKind_26 (by decide))) (
  ce_fc (P := P_X21_faultKind) (ok_li (ok_aload_n dX21_faultKind_34 rfl)) (
  ce_fc (P := P_X21_faultKind) (ok_li (ok_getf (ci := 20) (k := 16) (C := RX21) (T := TX21) (N := 20) dX21_faultKind_35 rfl ce_uX21 (by decide) gw_1537 (fun _ _ _ _ h => h))) (
  ce_fn (P := P_X21_faultKind)))))))))))))))
noncomputable def tb_X21_faultKind_1 : List (Nat × ce_N) := [(38, ce_reti .char)]
theorem tk_X21_faultKind_1 : ∀ x ∈ tb_X21_faultKind_1, P_X21_faultKind x.1 x.2 :=
  ce_fc (P := P_X21_faultKind) (ok_reti dX21_faultKind_38 rfl) (
  ce_fn (P := P_X21_faultKind))
noncomputable def ta_X21_faultKind : Nat → Option ce_N := (ce_tr 38 (ce_fd tb_X21_faultKind_0) (ce_fd tb_X21_faultKind_1))
theorem tx_X21_faultKind : ∀ pc f, ta_X21_faultKind pc = some f → P_X21_faultKind pc f := (ce_tr_ok (P := P_X21_faultKind) (ce_fd_ok (P := P_X21_faultKind) tk_X21_faultKind_0) (ce_fd_ok (P := P_X21_faultKind) tk_X21_faultKind_1))
noncomputable def F_X21_faultKind : ce_C := ce_M ta_X21_faultKind 1 1 5 1000000
theorem m_X21_faultKind : ∀ l : Launch, l.stackTraces = false → ce_MS l yX21_faultKind (.code yX21_faultKind cX21_faultKind 1 (some .char)) 2 1 5 F_X21_faultKind := fun l hl => ce_met hl (by decide +kernel) tx_X21_faultKind
theorem hp_X21_faultKind : yX21_faultKind.cls ≠ "java/lang/invoke/MethodHandle" ∧ yX21_faultKind.cls ≠ "java/lang/invoke/VarHandle" ∧ (parseMethodDescriptor yX21_faultKind.desc).map (fun d => d.parameters.length) = some 0 := by decide +kernel
abbrev P_X21_free_ : Nat → ce_N → Prop := ce_OKN "CarcasswrightModel" "free" cX21_free_ 3 (some .int) 2 (some [])
noncomputable def tb_X21_free__0 : List (Nat × ce_N) := [(0, ce_li (ce_aload 0 1)),
  (1, ce_li (ce_iload 1 2)),
  (2, ce_call 2 0 0 5 (.inr true) (ce_CV 20 F_X21_noWall)),
  (5, ce_li (ce_if true false false 12 8)),
  (8, ce_li (ce_push (.inl (.inl (0))) 9)),
  (9, ce_li (ce_goto 19)),
  (19, ce_reti .int)]
theorem tk_X21_free__0 : ∀ x ∈ tb_X21_free__0, P_X21_free_ x.1 x.2 :=
  ce_fc (P := P_X21_free_) (ok_li (ok_aload_n dX21_free__0 rfl)) (
  ce_fc (P := P_X21_free_) (ok_li (ok_iload_n dX21_free__1 rfl)) (
  ce_fc (P := P_X21_free_) (ok_call (ru_V (ci := 20) (C := RX21) (Tf := TX21) (N := 20) m_X21_noWall (by decide) (by decide) rfl gw_1876 gw_1873 gw_1875 gp_11 gw_13 ⟨rfl, hp_X21_noWall⟩ dX21_free__2) ca_t) (
  ce_fc (P := P_X21_free_) (ok_li (ok_if_eq dX21_free__5 (by decide))) (
  ce_fc (P := P_X21_free_) (ok_li (ok_iconst dX21_free__8)) (
  ce_fc (P := P_X21_free_) (ok_li (ok_goto dX21_free__9 (by decide))) (
  ce_fc (P := P_X21_free_) (ok_reti dX21_free__19 rfl) (
  ce_fn (P := P_X21_free_))))))))
noncomputable def ta_X21_free_ : Nat → Option ce_N := (ce_fd tb_X21_free__0)
theorem tx_X21_free_ : ∀ pc f, ta_X21_free_ pc = some f → P_X21_free_ pc f := (ce_fd_ok (P := P_X21_free_) tk_X21_free__0)
noncomputable def F_X21_free_ : ce_C := ce_M ta_X21_free_ 3 0 0 1000000
theorem m_X21_free_ : ∀ l : Launch, l.stackTraces = false → ce_MS l yX21_free_ (.code yX21_free_ cX21_free_ 3 (some .int)) 2 0 0 F_X21_free_ := fun l hl => ce_met hl (by decide +kernel) tx_X21_free_
theorem hp_X21_free_ : yX21_free_.cls ≠ "java/lang/invoke/MethodHandle" ∧ yX21_free_.cls ≠ "java/lang/invoke/VarHandle" ∧ (parseMethodDescriptor yX21_free_.desc).map (fun d => d.parameters.length) = some 2 := by decide +kernel
abbrev P_X21_from : Nat → ce_N → Prop := ce_OKN "CarcasswrightModel" "from" cX21_from 2 (some .int) 2 (some [])
noncomputable def tb_X21_from_0 : List (Nat × ce_N) := [(0, ce_li (ce_aload 0 1)),
  (1, ce_li (ce_iload 1 2)),
  (2, ce_call 2 0 0 5 (.inr true) (ce_CV 20 F_X21_noModule)),
  (5, ce_li (ce_if true false false 12 8)),
  (8, ce_li (ce_push (.inl (.inl (0))) 9)),
  (9, ce_li (ce_goto 26)),
  (26, ce_reti .int)]
theorem tk_X21_from_0 : ∀ x ∈ tb_X21_from_0, P_X21_from x.1 x.2 :=
  ce_fc (P := P_X21_from) (ok_li (ok_aload_n dX21_from_0 rfl)) (
  ce_fc (P := P_X21_from) (ok_li (ok_iload_n dX21_from_1 rfl)) (
  ce_fc (P := P_X21_from) (ok_call (ru_V (ci := 20) (C := RX21) (Tf := TX21) (N := 20) m_X21_noModule (by decide) (by decide) rfl gw_2337 gw_2334 gw_2336 gp_21 gw_13 ⟨rfl, hp_X21_noModule⟩ dX21_from_2) ca_t) (
  ce_fc (P := P_X21_from) (ok_li (ok_if_eq dX21_from_5 (by decide))) (
  ce_fc (P := P_X21_from) (ok_li (ok_iconst dX21_from_8)) (
  ce_fc (P := P_X21_from) (ok_li (ok_goto dX21_from_9 (by decide))) (
  ce_fc (P := P_X21_from) (ok_reti dX21_from_26 rfl) (
  ce_fn (P := P_X21_from))))))))
noncomputable def ta_X21_from : Nat → Option ce_N := (ce_fd tb_X21_from_0)
theorem tx_X21_from : ∀ pc f, ta_X21_from pc = some f → P_X21_from pc f := (ce_fd_ok (P := P_X21_from) tk_X21_from_0)
noncomputable def F_X21_from : ce_C := ce_M ta_X21_from 2 0 0 1000000
theorem m_X21_from : ∀ l : Launch, l.stackTraces = false → ce_MS l yX21_from (.code yX21_from cX21_from 2 (some .int)) 2 0 0 F_X21_from := fun l hl => ce_met hl (by decide +kernel) tx_X21_from
theorem hp_X21_from : yX21_from.cls ≠ "java/lang/invoke/MethodHandle" ∧ yX21_from.cls ≠ "java/lang/invoke/VarHandle" ∧ (parseMethodDescriptor yX21_from.desc).map (fun d => d.parameters.length) = some 1 := by decide +kernel
abbrev P_X21_hinges : Nat → ce_N → Prop := ce_OKN "CarcasswrightModel" "hinges" cX21_hinges 2 (some .int) 2 (some [])
noncomputable def tb_X21_hinges_0 : List (Nat × ce_N) := [(0, ce_li (ce_aload 0 1)),
  (1, ce_li (ce_iload 1 2)),
  (2, ce_call 2 0 0 5 (.inr true) (ce_CV 20 F_X21_noModule)),
  (5, ce_li (ce_if true false false 12 8)),
  (8, ce_li (ce_push (.inl (.inl (0))) 9)),
  (9, ce_li (ce_goto 29)),
  (29, ce_reti .int)]
theorem tk_X21_hinges_0 : ∀ x ∈ tb_X21_hinges_0, P_X21_hinges x.1 x.2 :=
  ce_fc (P := P_X21_hinges) (ok_li (ok_aload_n dX21_hinges_0 rfl)) (
  ce_fc (P := P_X21_hinges) (ok_li (ok_iload_n dX21_hinges_1 rfl)) (
  ce_fc (P := P_X21_hinges) (ok_call (ru_V (ci := 20) (C := RX21) (Tf := TX21) (N := 20) m_X21_noModule (by decide) (by decide) rfl gw_2337 gw_2334 gw_2336 gp_21 gw_13 ⟨rfl, hp_X21_noModule⟩ dX21_hinges_2) ca_t) (
  ce_fc (P := P_X21_hinges) (ok_li (ok_if_eq dX21_hinges_5 (by decide))) (
  ce_fc (P := P_X21_hinges) (ok_li (ok_iconst dX21_hinges_8)) (
  ce_fc (P := P_X21_hinges) (ok_li (ok_goto dX21_hinges_9 (by decide))) (
  ce_fc (P := P_X21_hinges) (ok_reti dX21_hinges_29 rfl) (
  ce_fn (P := P_X21_hinges))))))))
noncomputable def ta_X21_hinges : Nat → Option ce_N := (ce_fd tb_X21_hinges_0)
theorem tx_X21_hinges : ∀ pc f, ta_X21_hinges pc = some f → P_X21_hinges pc f := (ce_fd_ok (P := P_X21_hinges) tk_X21_hinges_0)
noncomputable def F_X21_hinges : ce_C := ce_M ta_X21_hinges 2 0 0 1000000
theorem m_X21_hinges : ∀ l : Launch, l.stackTraces = false → ce_MS l yX21_hinges (.code yX21_hinges cX21_hinges 2 (some .int)) 2 0 0 F_X21_hinges := fun l hl => ce_met hl (by decide +kernel) tx_X21_hinges
theorem hp_X21_hinges : yX21_hinges.cls ≠ "java/lang/invoke/MethodHandle" ∧ yX21_hinges.cls ≠ "java/lang/invoke/VarHandle" ∧ (parseMethodDescriptor yX21_hinges.desc).map (fun d => d.parameters.length) = some 1 := by decide +kernel
abbrev P_X21_jobAt : Nat → ce_N → Prop := ce_OKN "CarcasswrightModel" "jobAt" cX21_jobAt 2 (some .int) 2 (some [])
noncomputable def tb_X21_jobAt_0 : List (Nat × ce_N) := [(0, ce_li (ce_aload 0 1)),
  (1, ce_call 1 2 0 4 (.inr true) (ce_CV 20 F_X21_orders)),
  (4, ce_li (ce_aload 0 5)),
  (5, ce_li (ce_iload 1 6)),
  (6, ce_li (ce_push (.inl (.inl (0))) 7)),
  (7, ce_li (ce_aload 0 8)),
  (8, ce_li (ce_getf 20 19 11)),
  (11, ce_li (ce_alen 12)),
  (12, ce_li (ce_push (.inl (.inl (1))) 13)),
  (13, ce_li (ce_bin ce_subo 14)),
  (14, ce_call 3 0 0 17 (.inr true) F_X21_in),
  (17, ce_li (ce_if true false false 24 20)),
  (24, ce_li (ce_push (.inl (.inl (1))) 25)),
  (25, ce_li (ce_putf (tyX21 0) 20 0 28))]
theorem tk_X21_jobAt_0 : ∀ x ∈ tb_X21_jobAt_0, P_X21_jobAt x.1 x.2 :=
  ce_fc (P := P_X21_jobAt) (ok_li (ok_aload_n dX21_jobAt_0 rfl)) (
  ce_fc (P := P_X21_jobAt) (ok_call (ru_V (ci := 20) (C := RX21) (Tf := TX21) (N := 20) m_X21_orders (by decide) (by decide) rfl gw_2811 gw_2808 gw_2810 gp_29 gw_13 ⟨rfl, hp_X21_orders⟩ dX21_jobAt_1) ca_t) (
  ce_fc (P := P_X21_jobAt) (ok_li (ok_aload_n dX21_jobAt_4 rfl)) (
  ce_fc (P := P_X21_jobAt) (ok_li (ok_iload_n dX21_jobAt_5 rfl)) (
  ce_fc (P := P_X21_jobAt) (ok_li (ok_iconst dX21_jobAt_6)) (
  ce_fc (P := P_X21_jobAt) (ok_li (ok_aload_n dX21_jobAt_7 rfl)) (
  ce_fc (P := P_X21_jobAt) (ok_li (ok_getf (ci := 20) (k := 19) (C := RX21) (T := TX21) (N := 20) dX21_jobAt_8 rfl ce_uX21 (by decide) gw_1540 (fun _ _ _ _ h => h))) (
  ce_fc (P := P_X21_jobAt) (ok_li (ok_alen dX21_jobAt_11)) (
  ce_fc (P := P_X21_jobAt) (ok_li (ok_iconst dX21_jobAt_12)) (
  ce_fc (P := P_X21_jobAt) (ok_li (ok_isub dX21_jobAt_13)) (
  ce_fc (P := P_X21_jobAt) (ok_call (ru_S m_X21_in (by decide) (by decide) gw_1676 gw_1674 gw_1675 gw_13 hp_X21_in dX21_jobAt_14) ca_t) (
  ce_fc (P := P_X21_jobAt) (ok_li (ok_if_eq dX21_jobAt_17 (by decide))) (
  ce_fc (P := P_X21_jobAt) (ok_li (ok_iconst dX21_jobAt_24)) (
  ce_fc (P := P_X21_jobAt) (ok_li (ok_putf (ci := 20) (k := 0) (C := RX21) (T := TX21) (N := 20) (ty0 := tyX21) dX21_jobAt_25 rfl ce_uX21 (by decide) gw_1521 (fun _ _ _ _ h => h) tyX21_ok nmX21 (Or.inl rfl))) (
  ce_fn (P := P_X21_jobAt)))))))))))))))
noncomputable def tb_X21_jobAt_1 : List (Nat × ce_N) := [(28, ce_li (ce_aload 0 29)),
  (29, ce_li (ce_getf 20 0 32)),
  (32, ce_li (ce_if false true true 39 35)),
  (35, ce_li (ce_push (.inl (.inl (0))) 36)),
  (36, ce_li (ce_goto 45)),
  (45, ce_reti .int)]
theorem tk_X21_jobAt_1 : ∀ x ∈ tb_X21_jobAt_1, P_X21_jobAt x.1 x.2 :=
  ce_fc (P := P_X21_jobAt) (ok_li (ok_aload_n dX21_jobAt_28 rfl)) (
  ce_fc (P := P_X21_jobAt) (ok_li (ok_getf (ci := 20) (k := 0) (C := RX21) (T := TX21) (N := 20) dX21_jobAt_29 rfl ce_uX21 (by decide) gw_1521 (fun _ _ _ _ h => h))) (
  ce_fc (P := P_X21_jobAt) (ok_li (ok_if_le dX21_jobAt_32 (by decide))) (
  ce_fc (P := P_X21_jobAt) (ok_li (ok_iconst dX21_jobAt_35)) (
  ce_fc (P := P_X21_jobAt) (ok_li (ok_goto dX21_jobAt_36 (by decide))) (
  ce_fc (P := P_X21_jobAt) (ok_reti dX21_jobAt_45 rfl) (
  ce_fn (P := P_X21_jobAt)))))))
noncomputable def ta_X21_jobAt : Nat → Option ce_N := (ce_tr 28 (ce_fd tb_X21_jobAt_0) (ce_fd tb_X21_jobAt_1))
theorem tx_X21_jobAt : ∀ pc f, ta_X21_jobAt pc = some f → P_X21_jobAt pc f := (ce_tr_ok (P := P_X21_jobAt) (ce_fd_ok (P := P_X21_jobAt) tk_X21_jobAt_0) (ce_fd_ok (P := P_X21_jobAt) tk_X21_jobAt_1))
noncomputable def F_X21_jobAt : ce_C := ce_M ta_X21_jobAt 2 2 0 1000000
theorem m_X21_jobAt : ∀ l : Launch, l.stackTraces = false → ce_MS l yX21_jobAt (.code yX21_jobAt cX21_jobAt 2 (some .int)) 2 2 0 F_X21_jobAt := fun l hl => ce_met hl (by decide +kernel) tx_X21_jobAt
theorem hp_X21_jobAt : yX21_jobAt.cls ≠ "java/lang/invoke/MethodHandle" ∧ yX21_jobAt.cls ≠ "java/lang/invoke/VarHandle" ∧ (parseMethodDescriptor yX21_jobAt.desc).map (fun d => d.parameters.length) = some 1 := by decide +kernel
abbrev P_X21_lateness : Nat → ce_N → Prop := ce_OKN "CarcasswrightModel" "lateness" cX21_lateness 1 (some .int) 2 (some [])
noncomputable def tb_X21_lateness_0 : List (Nat × ce_N) := [(0, ce_li (ce_aload 0 1)),
  (1, ce_call 1 2 0 4 (.inr true) (ce_CV 20 F_X21_orders)),
  (4, ce_li (ce_aload 0 5)),
  (5, ce_li (ce_getf 20 18 8)),
  (8, ce_reti .int)]
theorem tk_X21_lateness_0 : ∀ x ∈ tb_X21_lateness_0, P_X21_lateness x.1 x.2 :=
  ce_fc (P := P_X21_lateness) (ok_li (ok_aload_n dX21_lateness_0 rfl)) (
  ce_fc (P := P_X21_lateness) (ok_call (ru_V (ci := 20) (C := RX21) (Tf := TX21) (N := 20) m_X21_orders (by decide) (by decide) rfl gw_2811 gw_2808 gw_2810 gp_29 gw_13 ⟨rfl, hp_X21_orders⟩ dX21_lateness_1) ca_t) (
  ce_fc (P := P_X21_lateness) (ok_li (ok_aload_n dX21_lateness_4 rfl)) (
  ce_fc (P := P_X21_lateness) (ok_li (ok_getf (ci := 20) (k := 18) (C := RX21) (T := TX21) (N := 20) dX21_lateness_5 rfl ce_uX21 (by decide) gw_1539 (fun _ _ _ _ h => h))) (
  ce_fc (P := P_X21_lateness) (ok_reti dX21_lateness_8 rfl) (
  ce_fn (P := P_X21_lateness))))))
noncomputable def ta_X21_lateness : Nat → Option ce_N := (ce_fd tb_X21_lateness_0)
theorem tx_X21_lateness : ∀ pc f, ta_X21_lateness pc = some f → P_X21_lateness pc f := (ce_fd_ok (P := P_X21_lateness) tk_X21_lateness_0)
noncomputable def F_X21_lateness : ce_C := ce_M ta_X21_lateness 1 2 0 1000000
theorem m_X21_lateness : ∀ l : Launch, l.stackTraces = false → ce_MS l yX21_lateness (.code yX21_lateness cX21_lateness 1 (some .int)) 2 2 0 F_X21_lateness := fun l hl => ce_met hl (by decide +kernel) tx_X21_lateness
theorem hp_X21_lateness : yX21_lateness.cls ≠ "java/lang/invoke/MethodHandle" ∧ yX21_lateness.cls ≠ "java/lang/invoke/VarHandle" ∧ (parseMethodDescriptor yX21_lateness.desc).map (fun d => d.parameters.length) = some 0 := by decide +kernel
abbrev P_X21_lengthOf : Nat → ce_N → Prop := ce_OKN "CarcasswrightModel" "lengthOf" cX21_lengthOf 2 (some .int) 2 (some [])
noncomputable def tb_X21_lengthOf_0 : List (Nat × ce_N) := [(0, ce_li (ce_aload 0 1)),
  (1, ce_li (ce_iload 1 2)),
  (2, ce_call 2 0 0 5 (.inr true) (ce_CV 20 F_X21_noWall)),
  (5, ce_li (ce_if true false false 12 8)),
  (8, ce_li (ce_push (.inl (.inl (0))) 9)),
  (9, ce_li (ce_goto 26)),
  (26, ce_reti .int)]
theorem tk_X21_lengthOf_0 : ∀ x ∈ tb_X21_lengthOf_0, P_X21_lengthOf x.1 x.2 :=
  ce_fc (P := P_X21_lengthOf) (ok_li (ok_aload_n dX21_lengthOf_0 rfl)) (
  ce_fc (P := P_X21_lengthOf) (ok_li (ok_iload_n dX21_lengthOf_1 rfl)) (
  ce_fc (P := P_X21_lengthOf) (ok_call (ru_V (ci := 20) (C := RX21) (Tf := TX21) (N := 20) m_X21_noWall (by decide) (by decide) rfl gw_1876 gw_1873 gw_1875 gp_11 gw_13 ⟨rfl, hp_X21_noWall⟩ dX21_lengthOf_2) ca_t) (
  ce_fc (P := P_X21_lengthOf) (ok_li (ok_if_eq dX21_lengthOf_5 (by decide))) (
  ce_fc (P := P_X21_lengthOf) (ok_li (ok_iconst dX21_lengthOf_8)) (
  ce_fc (P := P_X21_lengthOf) (ok_li (ok_goto dX21_lengthOf_9 (by decide))) (
  ce_fc (P := P_X21_lengthOf) (ok_reti dX21_lengthOf_26 rfl) (
  ce_fn (P := P_X21_lengthOf))))))))
noncomputable def ta_X21_lengthOf : Nat → Option ce_N := (ce_fd tb_X21_lengthOf_0)
theorem tx_X21_lengthOf : ∀ pc f, ta_X21_lengthOf pc = some f → P_X21_lengthOf pc f := (ce_fd_ok (P := P_X21_lengthOf) tk_X21_lengthOf_0)
noncomputable def F_X21_lengthOf : ce_C := ce_M ta_X21_lengthOf 2 0 0 1000000
theorem m_X21_lengthOf : ∀ l : Launch, l.stackTraces = false → ce_MS l yX21_lengthOf (.code yX21_lengthOf cX21_lengthOf 2 (some .int)) 2 0 0 F_X21_lengthOf := fun l hl => ce_met hl (by decide +kernel) tx_X21_lengthOf
theorem hp_X21_lengthOf : yX21_lengthOf.cls ≠ "java/lang/invoke/MethodHandle" ∧ yX21_lengthOf.cls ≠ "java/lang/invoke/VarHandle" ∧ (parseMethodDescriptor yX21_lengthOf.desc).map (fun d => d.parameters.length) = some 1 := by decide +kernel
abbrev P_X21_meanWidth : Nat → ce_N → Prop := ce_OKN "CarcasswrightModel" "meanWidth" cX21_meanWidth 5 (some .double) 2 (some [])
noncomputable def tb_X21_meanWidth_0 : List (Nat × ce_N) := [(0, ce_li (ce_aload 0 1)),
  (1, ce_li (ce_aload 0 2)),
  (2, ce_li (ce_getf 20 5 5)),
  (5, ce_call 1 0 0 8 (.inr true) (ce_CV 3 F_Jx4a65c_isEmpty_aae02)),
  (8, ce_li (ce_if true false false 15 11)),
  (11, ce_li (ce_push (.inl (.inl (1))) 12)),
  (12, ce_li (ce_goto 16)),
  (16, ce_li (ce_putf (tyX21 0) 20 0 19)),
  (19, ce_li (ce_push (.inr (.inl (.inl 0))) 20)),
  (20, ce_li (ce_lstore 1 21 5)),
  (21, ce_li (ce_aload 0 22)),
  (22, ce_li (ce_getf 20 5 25)),
  (25, ce_call 1 1 4 28 (.inr true) (ce_CV 3 F_Jx4a65c_iterator_32c93)),
  (28, ce_li (ce_astore 3 29 5))]
theorem tk_X21_meanWidth_0 : ∀ x ∈ tb_X21_meanWidth_0, P_X21_meanWidth x.1 x.2 :=
  ce_fc (P := P_X21_meanWidth) (ok_li (ok_aload_n dX21_meanWidth_0 rfl)) (
  ce_fc (P := P_X21_meanWidth) (ok_li (ok_aload_n dX21_meanWidth_1 rfl)) (
  ce_fc (P := P_X21_meanWidth) (ok_li (ok_getf (ci := 20) (k := 5) (C := RX21) (T := TX21) (N := 20) dX21_meanWidth_2 rfl ce_uX21 (by decide) gw_1526 (fun _ _ _ _ h => h))) (
  ce_fc (P := P_X21_meanWidth) (ok_call (ru_V (ci := 3) (C := RJx4a65c) (Tf := TJx4a65c) (N := 3) m_Jx4a65c_isEmpty_aae02 (by decide) (by decide) rfl gw_1684 gw_1681 gw_1682 gw_1683 gw_16 ⟨rfl, hp_Jx4a65c_isEmpty_aae02⟩ dX21_meanWidth_5) ca_t) (
  ce_fc (P := P_X21_meanWidth) (ok_li (ok_if_eq dX21_meanWidth_8 (by decide))) (
  ce_fc (P := P_X21_meanWidth) (ok_li (ok_iconst dX21_meanWidth_11)) (
  ce_fc (P := P_X21_meanWidth) (ok_li (ok_goto dX21_meanWidth_12 (by decide))) (
  ce_fc (P := P_X21_meanWidth) (ok_li (ok_putf (ci := 20) (k := 0) (C := RX21) (T := TX21) (N := 20) (ty0 := tyX21) dX21_meanWidth_16 rfl ce_uX21 (by decide) gw_1521 (fun _ _ _ _ h => h) tyX21_ok nmX21 (Or.inl rfl))) (
  ce_fc (P := P_X21_meanWidth) (ok_li (ok_lconst0 dX21_meanWidth_19)) (
  ce_fc (P := P_X21_meanWidth) (ok_li (ok_lstore_n dX21_meanWidth_20 rfl)) (
  ce_fc (P := P_X21_meanWidth) (ok_li (ok_aload_n dX21_meanWidth_21 rfl)) (
  ce_fc (P := P_X21_meanWidth) (ok_li (ok_getf (ci := 20) (k := 5) (C := RX21) (T := TX21) (N := 20) dX21_meanWidth_22 rfl ce_uX21 (by decide) gw_1526 (fun _ _ _ _ h => h))) (
  ce_fc (P := P_X21_meanWidth) (ok_call (ru_V (ci := 3) (C := RJx4a65c) (Tf := TJx4a65c) (N := 3) m_Jx4a65c_iterator_32c93 (by decide) (by decide) rfl gw_1800 gw_1797 gw_1798 gw_1799 gw_16 ⟨rfl, hp_Jx4a65c_iterator_32c93⟩ dX21_meanWidth_25) ca_t) (
  ce_fc (P := P_X21_meanWidth) (ok_li (ok_astore_n dX21_meanWidth_28 rfl)) (
  ce_fn (P := P_X21_meanWidth)))))))))))))))
noncomputable def tb_X21_meanWidth_1 : List (Nat × ce_N) := [(29, ce_li (ce_aload 3 30)),
  (30, ce_call 1 0 0 35 (.inr true) (ce_CV 2 F_Jx35411_hasNext_aae02)),
  (35, ce_li (ce_if true false false 64 38)),
  (64, ce_li (ce_aload 0 65)),
  (65, ce_li (ce_getf 20 0 68)),
  (68, ce_li (ce_if false true true 75 71)),
  (71, ce_li (ce_push (.inr (.inr (.inr (.double 0)))) 72)),
  (72, ce_li (ce_goto 86)),
  (86, ce_retc (.double 0))]
theorem tk_X21_meanWidth_1 : ∀ x ∈ tb_X21_meanWidth_1, P_X21_meanWidth x.1 x.2 :=
  ce_fc (P := P_X21_meanWidth) (ok_li (ok_aload_n dX21_meanWidth_29 rfl)) (
  ce_fc (P := P_X21_meanWidth) (ok_call (ru_F (ci := 2) (Tf := TJx35411) (N := 4) m_Jx35411_hasNext_aae02 (by decide) (by decide) rfl gw_1829 gw_1821 gw_1825 gw_1827 gw_34 hp_Jx35411_hasNext_aae02.2.2 dX21_meanWidth_30) ca_t) (
  ce_fc (P := P_X21_meanWidth) (ok_li (ok_if_eq dX21_meanWidth_35 (by decide))) (
  ce_fc (P := P_X21_meanWidth) (ok_li (ok_aload_n dX21_meanWidth_64 rfl)) (
  ce_fc (P := P_X21_meanWidth) (ok_li (ok_getf (ci := 20) (k := 0) (C := RX21) (T := TX21) (N := 20) dX21_meanWidth_65 rfl ce_uX21 (by decide) gw_1521 (fun _ _ _ _ h => h))) (
  ce_fc (P := P_X21_meanWidth) (ok_li (ok_if_le dX21_meanWidth_68 (by decide))) (
  ce_fc (P := P_X21_meanWidth) (ok_li (ok_dconst0 dX21_meanWidth_71)) (
  ce_fc (P := P_X21_meanWidth) (ok_li (ok_goto dX21_meanWidth_72 (by decide))) (
  ce_fc (P := P_X21_meanWidth) (ok_retd dX21_meanWidth_86 rfl) (
  ce_fn (P := P_X21_meanWidth))))))))))
noncomputable def ta_X21_meanWidth : Nat → Option ce_N := (ce_tr 29 (ce_fd tb_X21_meanWidth_0) (ce_fd tb_X21_meanWidth_1))
theorem tx_X21_meanWidth : ∀ pc f, ta_X21_meanWidth pc = some f → P_X21_meanWidth pc f := (ce_tr_ok (P := P_X21_meanWidth) (ce_fd_ok (P := P_X21_meanWidth) tk_X21_meanWidth_0) (ce_fd_ok (P := P_X21_meanWidth) tk_X21_meanWidth_1))
noncomputable def F_X21_meanWidth : ce_C := ce_M ta_X21_meanWidth 5 1 4 1000000
theorem m_X21_meanWidth : ∀ l : Launch, l.stackTraces = false → ce_MS l yX21_meanWidth (.code yX21_meanWidth cX21_meanWidth 5 (some .double)) 2 1 4 F_X21_meanWidth := fun l hl => ce_met hl (by decide +kernel) tx_X21_meanWidth
theorem hp_X21_meanWidth : yX21_meanWidth.cls ≠ "java/lang/invoke/MethodHandle" ∧ yX21_meanWidth.cls ≠ "java/lang/invoke/VarHandle" ∧ (parseMethodDescriptor yX21_meanWidth.desc).map (fun d => d.parameters.length) = some 0 := by decide +kernel
abbrev P_X21_obstacle : Nat → ce_N → Prop := ce_OKN "CarcasswrightModel" "obstacle" cX21_obstacle 7 (some .int) 2 (some [])
noncomputable def tb_X21_obstacle_0 : List (Nat × ce_N) := [(0, ce_li (ce_aload 0 1)),
  (1, ce_li (ce_iload 1 2)),
  (2, ce_call 2 0 0 5 (.inr true) (ce_CV 20 F_X21_noWall)),
  (5, ce_li (ce_if true false false 10 8)),
  (8, ce_li (ce_push (.inl (.inl (0))) 9)),
  (9, ce_reti .int)]
theorem tk_X21_obstacle_0 : ∀ x ∈ tb_X21_obstacle_0, P_X21_obstacle x.1 x.2 :=
  ce_fc (P := P_X21_obstacle) (ok_li (ok_aload_n dX21_obstacle_0 rfl)) (
  ce_fc (P := P_X21_obstacle) (ok_li (ok_iload_n dX21_obstacle_1 rfl)) (
  ce_fc (P := P_X21_obstacle) (ok_call (ru_V (ci := 20) (C := RX21) (Tf := TX21) (N := 20) m_X21_noWall (by decide) (by decide) rfl gw_1876 gw_1873 gw_1875 gp_11 gw_13 ⟨rfl, hp_X21_noWall⟩ dX21_obstacle_2) ca_t) (
  ce_fc (P := P_X21_obstacle) (ok_li (ok_if_eq dX21_obstacle_5 (by decide))) (
  ce_fc (P := P_X21_obstacle) (ok_li (ok_iconst dX21_obstacle_8)) (
  ce_fc (P := P_X21_obstacle) (ok_reti dX21_obstacle_9 rfl) (
  ce_fn (P := P_X21_obstacle)))))))
noncomputable def ta_X21_obstacle : Nat → Option ce_N := (ce_fd tb_X21_obstacle_0)
theorem tx_X21_obstacle : ∀ pc f, ta_X21_obstacle pc = some f → P_X21_obstacle pc f := (ce_fd_ok (P := P_X21_obstacle) tk_X21_obstacle_0)
noncomputable def F_X21_obstacle : ce_C := ce_M ta_X21_obstacle 7 0 0 1000000
theorem m_X21_obstacle : ∀ l : Launch, l.stackTraces = false → ce_MS l yX21_obstacle (.code yX21_obstacle cX21_obstacle 7 (some .int)) 2 0 0 F_X21_obstacle := fun l hl => ce_met hl (by decide +kernel) tx_X21_obstacle
theorem hp_X21_obstacle : yX21_obstacle.cls ≠ "java/lang/invoke/MethodHandle" ∧ yX21_obstacle.cls ≠ "java/lang/invoke/VarHandle" ∧ (parseMethodDescriptor yX21_obstacle.desc).map (fun d => d.parameters.length) = some 5 := by decide +kernel
abbrev P_X21_offcuts : Nat → ce_N → Prop := ce_OKN "CarcasswrightModel" "offcuts" cX21_offcuts 4 (some .int) 2 (some [])
noncomputable def tb_X21_offcuts_0 : List (Nat × ce_N) := [(0, ce_li (ce_aload 0 1)),
  (1, ce_li (ce_push (.inl (.inl (0))) 2)),
  (2, ce_li (ce_putf (tyX21 0) 20 0 5)),
  (5, ce_li (ce_push (.inl (.inl (0))) 6)),
  (6, ce_li (ce_istore 1 7 4)),
  (7, ce_li (ce_aload 0 8)),
  (8, ce_li (ce_getf 20 6 11)),
  (11, ce_call 1 1 4 14 (.inr true) (ce_CV 3 F_Jx4a65c_iterator_32c93)),
  (14, ce_li (ce_astore 2 15 4)),
  (15, ce_li (ce_aload 2 16)),
  (16, ce_call 1 0 0 21 (.inr true) (ce_CV 2 F_Jx35411_hasNext_aae02)),
  (21, ce_li (ce_if true false false 52 24)),
  (52, ce_li (ce_iload 1 53)),
  (53, ce_reti .int)]
theorem tk_X21_offcuts_0 : ∀ x ∈ tb_X21_offcuts_0, P_X21_offcuts x.1 x.2 :=
  ce_fc (P := P_X21_offcuts) (ok_li (ok_aload_n dX21_offcuts_0 rfl)) (
  ce_fc (P := P_X21_offcuts) (ok_li (ok_iconst dX21_offcuts_1)) (
  ce_fc (P := P_X21_offcuts) (ok_li (ok_putf (ci := 20) (k := 0) (C := RX21) (T := TX21) (N := 20) (ty0 := tyX21) dX21_offcuts_2 rfl ce_uX21 (by decide) gw_1521 (fun _ _ _ _ h => h) tyX21_ok nmX21 (Or.inl rfl))) (
  ce_fc (P := P_X21_offcuts) (ok_li (ok_iconst dX21_offcuts_5)) (
  ce_fc (P := P_X21_offcuts) (ok_li (ok_istore_n dX21_offcuts_6 rfl)) (
  ce_fc (P := P_X21_offcuts) (ok_li (ok_aload_n dX21_offcuts_7 rfl)) (
  ce_fc (P := P_X21_offcuts) (ok_li (ok_getf (ci := 20) (k := 6) (C := RX21) (T := TX21) (N := 20) dX21_offcuts_8 rfl ce_uX21 (by decide) gw_1527 (fun _ _ _ _ h => h))) (
  ce_fc (P := P_X21_offcuts) (ok_call (ru_V (ci := 3) (C := RJx4a65c) (Tf := TJx4a65c) (N := 3) m_Jx4a65c_iterator_32c93 (by decide) (by decide) rfl gw_1800 gw_1797 gw_1798 gw_1799 gw_16 ⟨rfl, hp_Jx4a65c_iterator_32c93⟩ dX21_offcuts_11) ca_t) (
  ce_fc (P := P_X21_offcuts) (ok_li (ok_astore_n dX21_offcuts_14 rfl)) (
  ce_fc (P := P_X21_offcuts) (ok_li (ok_aload_n dX21_offcuts_15 rfl)) (
  ce_fc (P := P_X21_offcuts) (ok_call (ru_F (ci := 2) (Tf := TJx35411) (N := 4) m_Jx35411_hasNext_aae02 (by decide) (by decide) rfl gw_1829 gw_1821 gw_1825 gw_1827 gw_34 hp_Jx35411_hasNext_aae02.2.2 dX21_offcuts_16) ca_t) (
  ce_fc (P := P_X21_offcuts) (ok_li (ok_if_eq dX21_offcuts_21 (by decide))) (
  ce_fc (P := P_X21_offcuts) (ok_li (ok_iload_n dX21_offcuts_52 rfl)) (
  ce_fc (P := P_X21_offcuts) (ok_reti dX21_offcuts_53 rfl) (
  ce_fn (P := P_X21_offcuts)))))))))))))))
noncomputable def ta_X21_offcuts : Nat → Option ce_N := (ce_fd tb_X21_offcuts_0)
theorem tx_X21_offcuts : ∀ pc f, ta_X21_offcuts pc = some f → P_X21_offcuts pc f := (ce_fd_ok (P := P_X21_offcuts) tk_X21_offcuts_0)
noncomputable def F_X21_offcuts : ce_C := ce_M ta_X21_offcuts 4 1 4 1000000
theorem m_X21_offcuts : ∀ l : Launch, l.stackTraces = false → ce_MS l yX21_offcuts (.code yX21_offcuts cX21_offcuts 4 (some .int)) 2 1 4 F_X21_offcuts := fun l hl => ce_met hl (by decide +kernel) tx_X21_offcuts
theorem hp_X21_offcuts : yX21_offcuts.cls ≠ "java/lang/invoke/MethodHandle" ∧ yX21_offcuts.cls ≠ "java/lang/invoke/VarHandle" ∧ (parseMethodDescriptor yX21_offcuts.desc).map (fun d => d.parameters.length) = some 0 := by decide +kernel
abbrev P_X21_packs : Nat → ce_N → Prop := ce_OKN "CarcasswrightModel" "packs" cX21_packs 6 (some .int) 2 (some [])
noncomputable def tb_X21_packs_0 : List (Nat × ce_N) := [(0, ce_li (ce_aload 0 1)),
  (1, ce_li (ce_iload 1 2)),
  (2, ce_call 2 0 0 5 (.inr true) (ce_CV 20 F_X21_noModule)),
  (5, ce_li (ce_if true false false 10 8)),
  (8, ce_li (ce_push (.inl (.inl (0))) 9)),
  (9, ce_reti .int)]
theorem tk_X21_packs_0 : ∀ x ∈ tb_X21_packs_0, P_X21_packs x.1 x.2 :=
  ce_fc (P := P_X21_packs) (ok_li (ok_aload_n dX21_packs_0 rfl)) (
  ce_fc (P := P_X21_packs) (ok_li (ok_iload_n dX21_packs_1 rfl)) (
  ce_fc (P := P_X21_packs) (ok_call (ru_V (ci := 20) (C := RX21) (Tf := TX21) (N := 20) m_X21_noModule (by decide) (by decide) rfl gw_2337 gw_2334 gw_2336 gp_21 gw_13 ⟨rfl, hp_X21_noModule⟩ dX21_packs_2) ca_t) (
  ce_fc (P := P_X21_packs) (ok_li (ok_if_eq dX21_packs_5 (by decide))) (
  ce_fc (P := P_X21_packs) (ok_li (ok_iconst dX21_packs_8)) (
  ce_fc (P := P_X21_packs) (ok_reti dX21_packs_9 rfl) (
  ce_fn (P := P_X21_packs)))))))
noncomputable def ta_X21_packs : Nat → Option ce_N := (ce_fd tb_X21_packs_0)
theorem tx_X21_packs : ∀ pc f, ta_X21_packs pc = some f → P_X21_packs pc f := (ce_fd_ok (P := P_X21_packs) tk_X21_packs_0)
noncomputable def F_X21_packs : ce_C := ce_M ta_X21_packs 6 0 0 1000000
theorem m_X21_packs : ∀ l : Launch, l.stackTraces = false → ce_MS l yX21_packs (.code yX21_packs cX21_packs 6 (some .int)) 2 0 0 F_X21_packs := fun l hl => ce_met hl (by decide +kernel) tx_X21_packs
theorem hp_X21_packs : yX21_packs.cls ≠ "java/lang/invoke/MethodHandle" ∧ yX21_packs.cls ≠ "java/lang/invoke/VarHandle" ∧ (parseMethodDescriptor yX21_packs.desc).map (fun d => d.parameters.length) = some 2 := by decide +kernel
abbrev P_X21_part : Nat → ce_N → Prop := ce_OKN "CarcasswrightModel" "part" cX21_part 4 (some (.object "CarcasswrightModel$Part")) 2 (some [])
noncomputable def tb_X21_part_0 : List (Nat × ce_N) := [(0, ce_li (ce_aload 0 1)),
  (1, ce_li (ce_iload 1 2)),
  (2, ce_call 2 0 0 5 (.inr true) (ce_CV 20 F_X21_noModule)),
  (5, ce_li (ce_if true false false 10 8)),
  (8, ce_li (ce_push (.inr (.inr (.inr .null))) 9)),
  (9, ce_reta)]
theorem tk_X21_part_0 : ∀ x ∈ tb_X21_part_0, P_X21_part x.1 x.2 :=
  ce_fc (P := P_X21_part) (ok_li (ok_aload_n dX21_part_0 rfl)) (
  ce_fc (P := P_X21_part) (ok_li (ok_iload_n dX21_part_1 rfl)) (
  ce_fc (P := P_X21_part) (ok_call (ru_V (ci := 20) (C := RX21) (Tf := TX21) (N := 20) m_X21_noModule (by decide) (by decide) rfl gw_2337 gw_2334 gw_2336 gp_21 gw_13 ⟨rfl, hp_X21_noModule⟩ dX21_part_2) ca_t) (
  ce_fc (P := P_X21_part) (ok_li (ok_if_eq dX21_part_5 (by decide))) (
  ce_fc (P := P_X21_part) (ok_li (ok_null dX21_part_8)) (
  ce_fc (P := P_X21_part) (ok_reta dX21_part_9 rfl (Or.inl ⟨_, rfl⟩)) (
  ce_fn (P := P_X21_part)))))))
noncomputable def ta_X21_part : Nat → Option ce_N := (ce_fd tb_X21_part_0)
theorem tx_X21_part : ∀ pc f, ta_X21_part pc = some f → P_X21_part pc f := (ce_fd_ok (P := P_X21_part) tk_X21_part_0)
noncomputable def F_X21_part : ce_C := ce_M ta_X21_part 4 0 0 1000000
theorem m_X21_part : ∀ l : Launch, l.stackTraces = false → ce_MS l yX21_part (.code yX21_part cX21_part 4 (some (.object "CarcasswrightModel$Part"))) 2 0 0 F_X21_part := fun l hl => ce_met hl (by decide +kernel) tx_X21_part
theorem hp_X21_part : yX21_part.cls ≠ "java/lang/invoke/MethodHandle" ∧ yX21_part.cls ≠ "java/lang/invoke/VarHandle" ∧ (parseMethodDescriptor yX21_part.desc).map (fun d => d.parameters.length) = some 2 := by decide +kernel
abbrev P_X21_parts : Nat → ce_N → Prop := ce_OKN "CarcasswrightModel" "parts" cX21_parts 2 (some .int) 2 (some [])
noncomputable def tb_X21_parts_0 : List (Nat × ce_N) := [(0, ce_li (ce_aload 0 1)),
  (1, ce_li (ce_iload 1 2)),
  (2, ce_call 2 0 0 5 (.inr true) (ce_CV 20 F_X21_noModule)),
  (5, ce_li (ce_if true false false 12 8)),
  (8, ce_li (ce_push (.inl (.inl (0))) 9)),
  (9, ce_li (ce_goto 29)),
  (29, ce_reti .int)]
theorem tk_X21_parts_0 : ∀ x ∈ tb_X21_parts_0, P_X21_parts x.1 x.2 :=
  ce_fc (P := P_X21_parts) (ok_li (ok_aload_n dX21_parts_0 rfl)) (
  ce_fc (P := P_X21_parts) (ok_li (ok_iload_n dX21_parts_1 rfl)) (
  ce_fc (P := P_X21_parts) (ok_call (ru_V (ci := 20) (C := RX21) (Tf := TX21) (N := 20) m_X21_noModule (by decide) (by decide) rfl gw_2337 gw_2334 gw_2336 gp_21 gw_13 ⟨rfl, hp_X21_noModule⟩ dX21_parts_2) ca_t) (
  ce_fc (P := P_X21_parts) (ok_li (ok_if_eq dX21_parts_5 (by decide))) (
  ce_fc (P := P_X21_parts) (ok_li (ok_iconst dX21_parts_8)) (
  ce_fc (P := P_X21_parts) (ok_li (ok_goto dX21_parts_9 (by decide))) (
  ce_fc (P := P_X21_parts) (ok_reti dX21_parts_29 rfl) (
  ce_fn (P := P_X21_parts))))))))
noncomputable def ta_X21_parts : Nat → Option ce_N := (ce_fd tb_X21_parts_0)
theorem tx_X21_parts : ∀ pc f, ta_X21_parts pc = some f → P_X21_parts pc f := (ce_fd_ok (P := P_X21_parts) tk_X21_parts_0)
noncomputable def F_X21_parts : ce_C := ce_M ta_X21_parts 2 0 0 1000000
theorem m_X21_parts : ∀ l : Launch, l.stackTraces = false → ce_MS l yX21_parts (.code yX21_parts cX21_parts 2 (some .int)) 2 0 0 F_X21_parts := fun l hl => ce_met hl (by decide +kernel) tx_X21_parts
theorem hp_X21_parts : yX21_parts.cls ≠ "java/lang/invoke/MethodHandle" ∧ yX21_parts.cls ≠ "java/lang/invoke/VarHandle" ∧ (parseMethodDescriptor yX21_parts.desc).map (fun d => d.parameters.length) = some 1 := by decide +kernel
abbrev P_X21_place : Nat → ce_N → Prop := ce_OKN "CarcasswrightModel" "place" cX21_place 6 (some .int) 2 (some [])
noncomputable def tb_X21_place_0 : List (Nat × ce_N) := [(0, ce_li (ce_aload 0 1)),
  (1, ce_li (ce_iload 1 2)),
  (2, ce_call 2 0 0 5 (.inr true) (ce_CV 20 F_X21_isType)),
  (5, ce_li (ce_if true false false 25 8)),
  (25, ce_li (ce_aload 0 26)),
  (26, ce_li (ce_push (.inl (.inl (1))) 27)),
  (27, ce_call 2 0 0 30 (.inr true) (ce_CV 20 F_X21_raises)),
  (30, ce_reti .int)]
theorem tk_X21_place_0 : ∀ x ∈ tb_X21_place_0, P_X21_place x.1 x.2 :=
  ce_fc (P := P_X21_place) (ok_li (ok_aload_n dX21_place_0 rfl)) (
  ce_fc (P := P_X21_place) (ok_li (ok_iload_n dX21_place_1 rfl)) (
  ce_fc (P := P_X21_place) (ok_call (ru_V (ci := 20) (C := RX21) (Tf := TX21) (N := 20) m_X21_isType (by decide) (by decide) rfl gw_2259 gw_2256 gw_2258 gp_17 gw_13 ⟨rfl, hp_X21_isType⟩ dX21_place_2) ca_t) (
  ce_fc (P := P_X21_place) (ok_li (ok_if_eq dX21_place_5 (by decide))) (
  ce_fc (P := P_X21_place) (ok_li (ok_aload_n dX21_place_25 rfl)) (
  ce_fc (P := P_X21_place) (ok_li (ok_iconst dX21_place_26)) (
  ce_fc (P := P_X21_place) (ok_call (ru_V (ci := 20) (C := RX21) (Tf := TX21) (N := 20) m_X21_raises (by decide) (by decide) rfl gw_1848 gw_1845 gw_1847 gp_9 gw_13 ⟨rfl, hp_X21_raises⟩ dX21_place_27) ca_t) (
  ce_fc (P := P_X21_place) (ok_reti dX21_place_30 rfl) (
  ce_fn (P := P_X21_place)))))))))
noncomputable def ta_X21_place : Nat → Option ce_N := (ce_fd tb_X21_place_0)
theorem tx_X21_place : ∀ pc f, ta_X21_place pc = some f → P_X21_place pc f := (ce_fd_ok (P := P_X21_place) tk_X21_place_0)
noncomputable def F_X21_place : ce_C := ce_M ta_X21_place 6 0 0 1000000
theorem m_X21_place : ∀ l : Launch, l.stackTraces = false → ce_MS l yX21_place (.code yX21_place cX21_place 6 (some .int)) 2 0 0 F_X21_place := fun l hl => ce_met hl (by decide +kernel) tx_X21_place
theorem hp_X21_place : yX21_place.cls ≠ "java/lang/invoke/MethodHandle" ∧ yX21_place.cls ≠ "java/lang/invoke/VarHandle" ∧ (parseMethodDescriptor yX21_place.desc).map (fun d => d.parameters.length) = some 4 := by decide +kernel
abbrev P_X21_price : Nat → ce_N → Prop := ce_OKN "CarcasswrightModel" "price" cX21_price 6 (some .int) 2 (some [])
noncomputable def tb_X21_price_0 : List (Nat × ce_N) := [(0, ce_li (ce_aload 0 1)),
  (1, ce_li (ce_iload 1 2)),
  (2, ce_call 2 0 0 5 (.inr true) (ce_CV 20 F_X21_noModule)),
  (5, ce_li (ce_if true false false 10 8)),
  (8, ce_li (ce_push (.inl (.inl (0))) 9)),
  (9, ce_reti .int)]
theorem tk_X21_price_0 : ∀ x ∈ tb_X21_price_0, P_X21_price x.1 x.2 :=
  ce_fc (P := P_X21_price) (ok_li (ok_aload_n dX21_price_0 rfl)) (
  ce_fc (P := P_X21_price) (ok_li (ok_iload_n dX21_price_1 rfl)) (
  ce_fc (P := P_X21_price) (ok_call (ru_V (ci := 20) (C := RX21) (Tf := TX21) (N := 20) m_X21_noModule (by decide) (by decide) rfl gw_2337 gw_2334 gw_2336 gp_21 gw_13 ⟨rfl, hp_X21_noModule⟩ dX21_price_2) ca_t) (
  ce_fc (P := P_X21_price) (ok_li (ok_if_eq dX21_price_5 (by decide))) (
  ce_fc (P := P_X21_price) (ok_li (ok_iconst dX21_price_8)) (
  ce_fc (P := P_X21_price) (ok_reti dX21_price_9 rfl) (
  ce_fn (P := P_X21_price)))))))
noncomputable def ta_X21_price : Nat → Option ce_N := (ce_fd tb_X21_price_0)
theorem tx_X21_price : ∀ pc f, ta_X21_price pc = some f → P_X21_price pc f := (ce_fd_ok (P := P_X21_price) tk_X21_price_0)
noncomputable def F_X21_price : ce_C := ce_M ta_X21_price 6 0 0 1000000
theorem m_X21_price : ∀ l : Launch, l.stackTraces = false → ce_MS l yX21_price (.code yX21_price cX21_price 6 (some .int)) 2 0 0 F_X21_price := fun l hl => ce_met hl (by decide +kernel) tx_X21_price
theorem hp_X21_price : yX21_price.cls ≠ "java/lang/invoke/MethodHandle" ∧ yX21_price.cls ≠ "java/lang/invoke/VarHandle" ∧ (parseMethodDescriptor yX21_price.desc).map (fun d => d.parameters.length) = some 1 := by decide +kernel
abbrev P_X21_setOff : Nat → ce_N → Prop := ce_OKN "CarcasswrightModel" "setOff" cX21_setOff 6 (some .int) 2 (some [])
noncomputable def tb_X21_setOff_0 : List (Nat × ce_N) := [(0, ce_li (ce_aload 0 1)),
  (1, ce_li (ce_iload 1 2)),
  (2, ce_call 2 0 0 5 (.inr true) (ce_CV 20 F_X21_noWall)),
  (5, ce_li (ce_if true false false 10 8)),
  (8, ce_li (ce_push (.inl (.inl (0))) 9)),
  (9, ce_reti .int)]
theorem tk_X21_setOff_0 : ∀ x ∈ tb_X21_setOff_0, P_X21_setOff x.1 x.2 :=
  ce_fc (P := P_X21_setOff) (ok_li (ok_aload_n dX21_setOff_0 rfl)) (
  ce_fc (P := P_X21_setOff) (ok_li (ok_iload_n dX21_setOff_1 rfl)) (
  ce_fc (P := P_X21_setOff) (ok_call (ru_V (ci := 20) (C := RX21) (Tf := TX21) (N := 20) m_X21_noWall (by decide) (by decide) rfl gw_1876 gw_1873 gw_1875 gp_11 gw_13 ⟨rfl, hp_X21_noWall⟩ dX21_setOff_2) ca_t) (
  ce_fc (P := P_X21_setOff) (ok_li (ok_if_eq dX21_setOff_5 (by decide))) (
  ce_fc (P := P_X21_setOff) (ok_li (ok_iconst dX21_setOff_8)) (
  ce_fc (P := P_X21_setOff) (ok_reti dX21_setOff_9 rfl) (
  ce_fn (P := P_X21_setOff)))))))
noncomputable def ta_X21_setOff : Nat → Option ce_N := (ce_fd tb_X21_setOff_0)
theorem tx_X21_setOff : ∀ pc f, ta_X21_setOff pc = some f → P_X21_setOff pc f := (ce_fd_ok (P := P_X21_setOff) tk_X21_setOff_0)
noncomputable def F_X21_setOff : ce_C := ce_M ta_X21_setOff 6 0 0 1000000
theorem m_X21_setOff : ∀ l : Launch, l.stackTraces = false → ce_MS l yX21_setOff (.code yX21_setOff cX21_setOff 6 (some .int)) 2 0 0 F_X21_setOff := fun l hl => ce_met hl (by decide +kernel) tx_X21_setOff
theorem hp_X21_setOff : yX21_setOff.cls ≠ "java/lang/invoke/MethodHandle" ∧ yX21_setOff.cls ≠ "java/lang/invoke/VarHandle" ∧ (parseMethodDescriptor yX21_setOff.desc).map (fun d => d.parameters.length) = some 3 := by decide +kernel
abbrev P_X21_shift : Nat → ce_N → Prop := ce_OKN "CarcasswrightModel" "shift" cX21_shift 5 (some .int) 2 (some [])
noncomputable def tb_X21_shift_0 : List (Nat × ce_N) := [(0, ce_li (ce_aload 0 1)),
  (1, ce_li (ce_iload 1 2)),
  (2, ce_call 2 0 0 5 (.inr true) (ce_CV 20 F_X21_noModule)),
  (5, ce_li (ce_if true false false 10 8)),
  (8, ce_li (ce_push (.inl (.inl (0))) 9)),
  (9, ce_reti .int)]
theorem tk_X21_shift_0 : ∀ x ∈ tb_X21_shift_0, P_X21_shift x.1 x.2 :=
  ce_fc (P := P_X21_shift) (ok_li (ok_aload_n dX21_shift_0 rfl)) (
  ce_fc (P := P_X21_shift) (ok_li (ok_iload_n dX21_shift_1 rfl)) (
  ce_fc (P := P_X21_shift) (ok_call (ru_V (ci := 20) (C := RX21) (Tf := TX21) (N := 20) m_X21_noModule (by decide) (by decide) rfl gw_2337 gw_2334 gw_2336 gp_21 gw_13 ⟨rfl, hp_X21_noModule⟩ dX21_shift_2) ca_t) (
  ce_fc (P := P_X21_shift) (ok_li (ok_if_eq dX21_shift_5 (by decide))) (
  ce_fc (P := P_X21_shift) (ok_li (ok_iconst dX21_shift_8)) (
  ce_fc (P := P_X21_shift) (ok_reti dX21_shift_9 rfl) (
  ce_fn (P := P_X21_shift)))))))
noncomputable def ta_X21_shift : Nat → Option ce_N := (ce_fd tb_X21_shift_0)
theorem tx_X21_shift : ∀ pc f, ta_X21_shift pc = some f → P_X21_shift pc f := (ce_fd_ok (P := P_X21_shift) tk_X21_shift_0)
noncomputable def F_X21_shift : ce_C := ce_M ta_X21_shift 5 0 0 1000000
theorem m_X21_shift : ∀ l : Launch, l.stackTraces = false → ce_MS l yX21_shift (.code yX21_shift cX21_shift 5 (some .int)) 2 0 0 F_X21_shift := fun l hl => ce_met hl (by decide +kernel) tx_X21_shift
theorem hp_X21_shift : yX21_shift.cls ≠ "java/lang/invoke/MethodHandle" ∧ yX21_shift.cls ≠ "java/lang/invoke/VarHandle" ∧ (parseMethodDescriptor yX21_shift.desc).map (fun d => d.parameters.length) = some 2 := by decide +kernel
abbrev P_X21_stocked : Nat → ce_N → Prop := ce_OKN "CarcasswrightModel" "stocked" cX21_stocked 5 (some .long) 2 (some [])
noncomputable def tb_X21_stocked_0 : List (Nat × ce_N) := [(0, ce_li (ce_push (.inr (.inl (.inl 0))) 1)),
  (1, ce_li (ce_lstore 1 2 5)),
  (2, ce_li (ce_aload 0 3)),
  (3, ce_li (ce_getf 20 6 6)),
  (6, ce_call 1 1 4 9 (.inr true) (ce_CV 3 F_Jx4a65c_iterator_32c93)),
  (9, ce_li (ce_astore 3 10 5)),
  (10, ce_li (ce_aload 3 11)),
  (11, ce_call 1 0 0 16 (.inr true) (ce_CV 2 F_Jx35411_hasNext_aae02)),
  (16, ce_li (ce_if true false false 41 19)),
  (41, ce_li (ce_lload 1 42)),
  (42, ce_retl)]
theorem tk_X21_stocked_0 : ∀ x ∈ tb_X21_stocked_0, P_X21_stocked x.1 x.2 :=
  ce_fc (P := P_X21_stocked) (ok_li (ok_lconst0 dX21_stocked_0)) (
  ce_fc (P := P_X21_stocked) (ok_li (ok_lstore_n dX21_stocked_1 rfl)) (
  ce_fc (P := P_X21_stocked) (ok_li (ok_aload_n dX21_stocked_2 rfl)) (
  ce_fc (P := P_X21_stocked) (ok_li (ok_getf (ci := 20) (k := 6) (C := RX21) (T := TX21) (N := 20) dX21_stocked_3 rfl ce_uX21 (by decide) gw_1527 (fun _ _ _ _ h => h))) (
  ce_fc (P := P_X21_stocked) (ok_call (ru_V (ci := 3) (C := RJx4a65c) (Tf := TJx4a65c) (N := 3) m_Jx4a65c_iterator_32c93 (by decide) (by decide) rfl gw_1800 gw_1797 gw_1798 gw_1799 gw_16 ⟨rfl, hp_Jx4a65c_iterator_32c93⟩ dX21_stocked_6) ca_t) (
  ce_fc (P := P_X21_stocked) (ok_li (ok_astore_n dX21_stocked_9 rfl)) (
  ce_fc (P := P_X21_stocked) (ok_li (ok_aload_n dX21_stocked_10 rfl)) (
  ce_fc (P := P_X21_stocked) (ok_call (ru_F (ci := 2) (Tf := TJx35411) (N := 4) m_Jx35411_hasNext_aae02 (by decide) (by decide) rfl gw_1829 gw_1821 gw_1825 gw_1827 gw_34 hp_Jx35411_hasNext_aae02.2.2 dX21_stocked_11) ca_t) (
  ce_fc (P := P_X21_stocked) (ok_li (ok_if_eq dX21_stocked_16 (by decide))) (
  ce_fc (P := P_X21_stocked) (ok_li (ok_lload_n dX21_stocked_41 rfl)) (
  ce_fc (P := P_X21_stocked) (ok_retl dX21_stocked_42 rfl) (
  ce_fn (P := P_X21_stocked))))))))))))
noncomputable def ta_X21_stocked : Nat → Option ce_N := (ce_fd tb_X21_stocked_0)
theorem tx_X21_stocked : ∀ pc f, ta_X21_stocked pc = some f → P_X21_stocked pc f := (ce_fd_ok (P := P_X21_stocked) tk_X21_stocked_0)
noncomputable def F_X21_stocked : ce_C := ce_M ta_X21_stocked 5 1 4 1000000
theorem m_X21_stocked : ∀ l : Launch, l.stackTraces = false → ce_MS l yX21_stocked (.code yX21_stocked cX21_stocked 5 (some .long)) 2 1 4 F_X21_stocked := fun l hl => ce_met hl (by decide +kernel) tx_X21_stocked
theorem hp_X21_stocked : yX21_stocked.cls ≠ "java/lang/invoke/MethodHandle" ∧ yX21_stocked.cls ≠ "java/lang/invoke/VarHandle" ∧ (parseMethodDescriptor yX21_stocked.desc).map (fun d => d.parameters.length) = some 0 := by decide +kernel
abbrev P_X21_told : Nat → ce_N → Prop := ce_OKN "CarcasswrightModel" "told" cX21_told 4 (some .int) 2 (some [])
noncomputable def tb_X21_told_0 : List (Nat × ce_N) := [(0, ce_li (ce_aload 0 1)),
  (1, ce_li (ce_iload 1 2)),
  (2, ce_call 2 0 0 5 (.inr true) (ce_CV 20 F_X21_isType)),
  (5, ce_li (ce_if true false true 14 8)),
  (8, ce_li (ce_aload 0 9)),
  (9, ce_li (ce_push (.inl (.inl (1))) 10)),
  (10, ce_call 2 0 0 13 (.inr true) (ce_CV 20 F_X21_raises)),
  (13, ce_reti .int)]
theorem tk_X21_told_0 : ∀ x ∈ tb_X21_told_0, P_X21_told x.1 x.2 :=
  ce_fc (P := P_X21_told) (ok_li (ok_aload_n dX21_told_0 rfl)) (
  ce_fc (P := P_X21_told) (ok_li (ok_iload_n dX21_told_1 rfl)) (
  ce_fc (P := P_X21_told) (ok_call (ru_V (ci := 20) (C := RX21) (Tf := TX21) (N := 20) m_X21_isType (by decide) (by decide) rfl gw_2259 gw_2256 gw_2258 gp_17 gw_13 ⟨rfl, hp_X21_isType⟩ dX21_told_2) ca_t) (
  ce_fc (P := P_X21_told) (ok_li (ok_if_ne dX21_told_5 (by decide))) (
  ce_fc (P := P_X21_told) (ok_li (ok_aload_n dX21_told_8 rfl)) (
  ce_fc (P := P_X21_told) (ok_li (ok_iconst dX21_told_9)) (
  ce_fc (P := P_X21_told) (ok_call (ru_V (ci := 20) (C := RX21) (Tf := TX21) (N := 20) m_X21_raises (by decide) (by decide) rfl gw_1848 gw_1845 gw_1847 gp_9 gw_13 ⟨rfl, hp_X21_raises⟩ dX21_told_10) ca_t) (
  ce_fc (P := P_X21_told) (ok_reti dX21_told_13 rfl) (
  ce_fn (P := P_X21_told)))))))))
noncomputable def ta_X21_told : Nat → Option ce_N := (ce_fd tb_X21_told_0)
theorem tx_X21_told : ∀ pc f, ta_X21_told pc = some f → P_X21_told pc f := (ce_fd_ok (P := P_X21_told) tk_X21_told_0)
noncomputable def F_X21_told : ce_C := ce_M ta_X21_told 4 0 0 1000000
theorem m_X21_told : ∀ l : Launch, l.stackTraces = false → ce_MS l yX21_told (.code yX21_told cX21_told 4 (some .int)) 2 0 0 F_X21_told := fun l hl => ce_met hl (by decide +kernel) tx_X21_told
theorem hp_X21_told : yX21_told.cls ≠ "java/lang/invoke/MethodHandle" ∧ yX21_told.cls ≠ "java/lang/invoke/VarHandle" ∧ (parseMethodDescriptor yX21_told.desc).map (fun d => d.parameters.length) = some 2 := by decide +kernel
abbrev P_X21_uncut : Nat → ce_N → Prop := ce_OKN "CarcasswrightModel" "uncut" cX21_uncut 2 (some .int) 2 (some [])
noncomputable def tb_X21_uncut_0 : List (Nat × ce_N) := [(0, ce_li (ce_aload 0 1)),
  (1, ce_li (ce_iload 1 2)),
  (2, ce_call 2 0 0 5 (.inr true) (ce_CV 20 F_X21_noModule)),
  (5, ce_li (ce_if true false false 12 8)),
  (8, ce_li (ce_push (.inl (.inl (0))) 9)),
  (9, ce_li (ce_goto 29)),
  (29, ce_reti .int)]
theorem tk_X21_uncut_0 : ∀ x ∈ tb_X21_uncut_0, P_X21_uncut x.1 x.2 :=
  ce_fc (P := P_X21_uncut) (ok_li (ok_aload_n dX21_uncut_0 rfl)) (
  ce_fc (P := P_X21_uncut) (ok_li (ok_iload_n dX21_uncut_1 rfl)) (
  ce_fc (P := P_X21_uncut) (ok_call (ru_V (ci := 20) (C := RX21) (Tf := TX21) (N := 20) m_X21_noModule (by decide) (by decide) rfl gw_2337 gw_2334 gw_2336 gp_21 gw_13 ⟨rfl, hp_X21_noModule⟩ dX21_uncut_2) ca_t) (
  ce_fc (P := P_X21_uncut) (ok_li (ok_if_eq dX21_uncut_5 (by decide))) (
  ce_fc (P := P_X21_uncut) (ok_li (ok_iconst dX21_uncut_8)) (
  ce_fc (P := P_X21_uncut) (ok_li (ok_goto dX21_uncut_9 (by decide))) (
  ce_fc (P := P_X21_uncut) (ok_reti dX21_uncut_29 rfl) (
  ce_fn (P := P_X21_uncut))))))))
noncomputable def ta_X21_uncut : Nat → Option ce_N := (ce_fd tb_X21_uncut_0)
theorem tx_X21_uncut : ∀ pc f, ta_X21_uncut pc = some f → P_X21_uncut pc f := (ce_fd_ok (P := P_X21_uncut) tk_X21_uncut_0)
noncomputable def F_X21_uncut : ce_C := ce_M ta_X21_uncut 2 0 0 1000000
theorem m_X21_uncut : ∀ l : Launch, l.stackTraces = false → ce_MS l yX21_uncut (.code yX21_uncut cX21_uncut 2 (some .int)) 2 0 0 F_X21_uncut := fun l hl => ce_met hl (by decide +kernel) tx_X21_uncut
theorem hp_X21_uncut : yX21_uncut.cls ≠ "java/lang/invoke/MethodHandle" ∧ yX21_uncut.cls ≠ "java/lang/invoke/VarHandle" ∧ (parseMethodDescriptor yX21_uncut.desc).map (fun d => d.parameters.length) = some 1 := by decide +kernel
abbrev P_X21_widest : Nat → ce_N → Prop := ce_OKN "CarcasswrightModel" "widest" cX21_widest 3 (some .int) 2 (some [])
noncomputable def tb_X21_widest_0 : List (Nat × ce_N) := [(0, ce_li (ce_aload 0 1)),
  (1, ce_li (ce_iload 1 2)),
  (2, ce_call 2 0 0 5 (.inr true) (ce_CV 20 F_X21_noWall)),
  (5, ce_li (ce_if true false false 12 8)),
  (8, ce_li (ce_push (.inl (.inl (0))) 9)),
  (9, ce_li (ce_goto 19)),
  (19, ce_reti .int)]
theorem tk_X21_widest_0 : ∀ x ∈ tb_X21_widest_0, P_X21_widest x.1 x.2 :=
  ce_fc (P := P_X21_widest) (ok_li (ok_aload_n dX21_widest_0 rfl)) (
  ce_fc (P := P_X21_widest) (ok_li (ok_iload_n dX21_widest_1 rfl)) (
  ce_fc (P := P_X21_widest) (ok_call (ru_V (ci := 20) (C := RX21) (Tf := TX21) (N := 20) m_X21_noWall (by decide) (by decide) rfl gw_1876 gw_1873 gw_1875 gp_11 gw_13 ⟨rfl, hp_X21_noWall⟩ dX21_widest_2) ca_t) (
  ce_fc (P := P_X21_widest) (ok_li (ok_if_eq dX21_widest_5 (by decide))) (
  ce_fc (P := P_X21_widest) (ok_li (ok_iconst dX21_widest_8)) (
  ce_fc (P := P_X21_widest) (ok_li (ok_goto dX21_widest_9 (by decide))) (
  ce_fc (P := P_X21_widest) (ok_reti dX21_widest_19 rfl) (
  ce_fn (P := P_X21_widest))))))))
noncomputable def ta_X21_widest : Nat → Option ce_N := (ce_fd tb_X21_widest_0)
theorem tx_X21_widest : ∀ pc f, ta_X21_widest pc = some f → P_X21_widest pc f := (ce_fd_ok (P := P_X21_widest) tk_X21_widest_0)
noncomputable def F_X21_widest : ce_C := ce_M ta_X21_widest 3 0 0 1000000
theorem m_X21_widest : ∀ l : Launch, l.stackTraces = false → ce_MS l yX21_widest (.code yX21_widest cX21_widest 3 (some .int)) 2 0 0 F_X21_widest := fun l hl => ce_met hl (by decide +kernel) tx_X21_widest
theorem hp_X21_widest : yX21_widest.cls ≠ "java/lang/invoke/MethodHandle" ∧ yX21_widest.cls ≠ "java/lang/invoke/VarHandle" ∧ (parseMethodDescriptor yX21_widest.desc).map (fun d => d.parameters.length) = some 2 := by decide +kernel
abbrev P_X21_wipe : Nat → ce_N → Prop := ce_OKN "CarcasswrightModel" "wipe" cX21_wipe 2 (some .int) 2 (some [])
noncomputable def tb_X21_wipe_0 : List (Nat × ce_N) := [(0, ce_li (ce_aload 0 1)),
  (1, ce_li (ce_push (.inl (.inl (0))) 2)),
  (2, ce_li (ce_putf (tyX21 0) 20 0 5)),
  (5, ce_li (ce_aload 0 6)),
  (6, ce_li (ce_getf 20 3 9)),
  (9, ce_call 1 0 0 12 (.inr true) (ce_CV 0 F_J0_length_8abf5)),
  (12, ce_li (ce_istore 1 13 2)),
  (13, ce_li (ce_aload 0 14)),
  (14, ce_li (ce_push (.inr (.inr (.inl (.inr 2)))) 16)),
  (16, ce_li (ce_putf (tyX21 3) 20 3 19)),
  (19, ce_li (ce_iload 1 20)),
  (20, ce_reti .int)]
theorem tk_X21_wipe_0 : ∀ x ∈ tb_X21_wipe_0, P_X21_wipe x.1 x.2 :=
  ce_fc (P := P_X21_wipe) (ok_li (ok_aload_n dX21_wipe_0 rfl)) (
  ce_fc (P := P_X21_wipe) (ok_li (ok_iconst dX21_wipe_1)) (
  ce_fc (P := P_X21_wipe) (ok_li (ok_putf (ci := 20) (k := 0) (C := RX21) (T := TX21) (N := 20) (ty0 := tyX21) dX21_wipe_2 rfl ce_uX21 (by decide) gw_1521 (fun _ _ _ _ h => h) tyX21_ok nmX21 (Or.inl rfl))) (
  ce_fc (P := P_X21_wipe) (ok_li (ok_aload_n dX21_wipe_5 rfl)) (
  ce_fc (P := P_X21_wipe) (ok_li (ok_getf (ci := 20) (k := 3) (C := RX21) (T := TX21) (N := 20) dX21_wipe_6 rfl ce_uX21 (by decide) gw_1524 (fun _ _ _ _ h => h))) (
  ce_fc (P := P_X21_wipe) (ok_call (ru_V (ci := 0) (C := RJ0) (Tf := TJ0) (N := 4) m_J0_length_8abf5 (by decide) (by decide) rfl gw_1609 gw_1924 gw_1607 gw_1608 gw_23 ⟨rfl, hp_J0_length_8abf5⟩ dX21_wipe_9) ca_t) (
  ce_fc (P := P_X21_wipe) (ok_li (ok_istore_n dX21_wipe_12 rfl)) (
  ce_fc (P := P_X21_wipe) (ok_li (ok_aload_n dX21_wipe_13 rfl)) (
  ce_fc (P := P_X21_wipe) (ok_li (ok_ldcS ce_s2 dX21_wipe_14)) (
  ce_fc (P := P_X21_wipe) (ok_li (ok_putf (ci := 20) (k := 3) (C := RX21) (T := TX21) (N := 20) (ty0 := tyX21) dX21_wipe_16 rfl ce_uX21 (by decide) gw_1524 (fun _ _ _ _ h => h) tyX21_ok nmX21 (Or.inl rfl))) (
  ce_fc (P := P_X21_wipe) (ok_li (ok_iload_n dX21_wipe_19 rfl)) (
  ce_fc (P := P_X21_wipe) (ok_reti dX21_wipe_20 rfl) (
  ce_fn (P := P_X21_wipe)))))))))))))
noncomputable def ta_X21_wipe : Nat → Option ce_N := (ce_fd tb_X21_wipe_0)
theorem tx_X21_wipe : ∀ pc f, ta_X21_wipe pc = some f → P_X21_wipe pc f := (ce_fd_ok (P := P_X21_wipe) tk_X21_wipe_0)
noncomputable def F_X21_wipe : ce_C := ce_M ta_X21_wipe 2 0 0 1000000
theorem m_X21_wipe : ∀ l : Launch, l.stackTraces = false → ce_MS l yX21_wipe (.code yX21_wipe cX21_wipe 2 (some .int)) 2 0 0 F_X21_wipe := fun l hl => ce_met hl (by decide +kernel) tx_X21_wipe
theorem hp_X21_wipe : yX21_wipe.cls ≠ "java/lang/invoke/MethodHandle" ∧ yX21_wipe.cls ≠ "java/lang/invoke/VarHandle" ∧ (parseMethodDescriptor yX21_wipe.desc).map (fun d => d.parameters.length) = some 0 := by decide +kernel
abbrev P_J0_indexOf_0f7a4 : Nat → ce_N → Prop := ce_OKN "java/lang/String" "indexOf" cJ0_indexOf_0f7a4 2 (some .int) 3 (some [])
noncomputable def tb_J0_indexOf_0f7a4_0 : List (Nat × ce_N) := [(0, ce_li (ce_aload 0 1)),
  (1, ce_li (ce_iload 1 2)),
  (2, ce_li (ce_push (.inl (.inl (0))) 3)),
  (3, ce_call 3 0 0 6 (.inr true) (ce_CV 0 F_J0_indexOf_7cf53)),
  (6, ce_reti .int)]
theorem tk_J0_indexOf_0f7a4_0 : ∀ x ∈ tb_J0_indexOf_0f7a4_0, P_J0_indexOf_0f7a4 x.1 x.2 :=
  ce_fc (P := P_J0_indexOf_0f7a4) (ok_li (ok_aload_n dJ0_indexOf_0f7a4_0 rfl)) (
  ce_fc (P := P_J0_indexOf_0f7a4) (ok_li (ok_iload_n dJ0_indexOf_0f7a4_1 rfl)) (
  ce_fc (P := P_J0_indexOf_0f7a4) (ok_li (ok_iconst dJ0_indexOf_0f7a4_2)) (
  ce_fc (P := P_J0_indexOf_0f7a4) (ok_call (ru_V (ci := 0) (C := RJ0) (Tf := TJ0) (N := 4) m_J0_indexOf_7cf53 (by decide) (by decide) rfl gw_1599 gw_1596 gw_1597 gw_1598 gw_23 ⟨rfl, hp_J0_indexOf_7cf53⟩ dJ0_indexOf_0f7a4_3) ca_t) (
  ce_fc (P := P_J0_indexOf_0f7a4) (ok_reti dJ0_indexOf_0f7a4_6 rfl) (
  ce_fn (P := P_J0_indexOf_0f7a4))))))
noncomputable def ta_J0_indexOf_0f7a4 : Nat → Option ce_N := (ce_fd tb_J0_indexOf_0f7a4_0)
theorem tx_J0_indexOf_0f7a4 : ∀ pc f, ta_J0_indexOf_0f7a4 pc = some f → P_J0_indexOf_0f7a4 pc f := (ce_fd_ok (P := P_J0_indexOf_0f7a4) tk_J0_indexOf_0f7a4_0)
noncomputable def F_J0_indexOf_0f7a4 : ce_C := ce_M ta_J0_indexOf_0f7a4 2 0 0 1000000
theorem m_J0_indexOf_0f7a4 : ∀ l : Launch, l.stackTraces = false → ce_MS l yJ0_indexOf_0f7a4 (.code yJ0_indexOf_0f7a4 cJ0_indexOf_0f7a4 2 (some .int)) 3 0 0 F_J0_indexOf_0f7a4 := fun l hl => ce_met hl (by decide +kernel) tx_J0_indexOf_0f7a4
theorem hp_J0_indexOf_0f7a4 : yJ0_indexOf_0f7a4.cls ≠ "java/lang/invoke/MethodHandle" ∧ yJ0_indexOf_0f7a4.cls ≠ "java/lang/invoke/VarHandle" ∧ (parseMethodDescriptor yJ0_indexOf_0f7a4.desc).map (fun d => d.parameters.length) = some 1 := by decide +kernel
abbrev P_J0_init_db425 : Nat → ce_N → Prop := ce_OKN "java/lang/String" "<init>" cJ0_init_db425 5 none 3 (some [])
noncomputable def tb_J0_init_db425_0 : List (Nat × ce_N) := [(0, ce_li (ce_aload 0 1)),
  (1, ce_li (ce_oi 4)),
  (4, ce_li (ce_aload 1 5)),
  (5, ce_call 1 0 0 8 (.inr true) (ce_CV 1 F_J5_getValue_6d5f1)),
  (8, ce_li (ce_astore 3 9 5)),
  (9, ce_li (ce_aload 1 10)),
  (10, ce_call 1 0 0 13 (.inr true) (ce_CV 1 F_J4_length_8abf5)),
  (13, ce_li (ce_istore 4 15 5)),
  (15, ce_li (ce_aload 1 16)),
  (16, ce_call 1 0 0 19 (.inr true) (ce_CV 1 F_J5_isLatin1_aae02)),
  (19, ce_li (ce_if true false false 41 22)),
  (22, ce_li (ce_aload 0 23)),
  (23, ce_li (ce_push (.inl (.inl (0))) 24)),
  (24, ce_li (ce_putf (tyJ0 1) 0 1 27))]
theorem tk_J0_init_db425_0 : ∀ x ∈ tb_J0_init_db425_0, P_J0_init_db425 x.1 x.2 :=
  ce_fc (P := P_J0_init_db425) (ok_li (ok_aload_n dJ0_init_db425_0 rfl)) (
  ce_fc (P := P_J0_init_db425) (ok_li (ok_oi dJ0_init_db425_1 gw_2064 gw_57 gw_58)) (
  ce_fc (P := P_J0_init_db425) (ok_li (ok_aload_n dJ0_init_db425_4 rfl)) (
  ce_fc (P := P_J0_init_db425) (ok_call (ru_U (ci := 1) (C := RJ4) (Tf := TJ4) (N := 4) m_J5_getValue_6d5f1 (by decide) (by decide) rfl gw_2069 gw_2065 gw_2066 gw_2068 gw_38 gw_2067 hp_J5_getValue_6d5f1 dJ0_init_db425_5) ca_t) (
  ce_fc (P := P_J0_init_db425) (ok_li (ok_astore_n dJ0_init_db425_8 rfl)) (
  ce_fc (P := P_J0_init_db425) (ok_li (ok_aload_n dJ0_init_db425_9 rfl)) (
  ce_fc (P := P_J0_init_db425) (ok_call (ru_O (ci := 1) (C := RJ4) (Tf := TJ4) (N := 4) (owner := "java/lang/AbstractStringBuilder") m_J4_length_8abf5 (by decide) (by decide) rfl gw_2075 gw_2070 gw_2072 gw_2071 gw_2073 gw_2074 gw_39 gw_2077 ⟨by decide, by decide, hp_J4_length_8abf5.2.2⟩ dJ0_init_db425_10) ca_t) (
  ce_fc (P := P_J0_init_db425) (ok_li (ok_istore dJ0_init_db425_13)) (
  ce_fc (P := P_J0_init_db425) (ok_li (ok_aload_n dJ0_init_db425_15 rfl)) (
  ce_fc (P := P_J0_init_db425) (ok_call (ru_U (ci := 1) (C := RJ4) (Tf := TJ4) (N := 4) m_J5_isLatin1_aae02 (by decide) (by decide) rfl gw_1990 gw_2078 gw_1987 gw_1989 gw_38 gw_1988 hp_J5_isLatin1_aae02 dJ0_init_db425_16) ca_t) (
  ce_fc (P := P_J0_init_db425) (ok_li (ok_if_eq dJ0_init_db425_19 (by decide))) (
  ce_fc (P := P_J0_init_db425) (ok_li (ok_aload_n dJ0_init_db425_22 rfl)) (
  ce_fc (P := P_J0_init_db425) (ok_li (ok_iconst dJ0_init_db425_23)) (
  ce_fc (P := P_J0_init_db425) (ok_li (ok_putf (ci := 0) (k := 1) (C := RJ0) (T := TJ0) (N := 4) (ty0 := tyJ0) dJ0_init_db425_24 rfl ce_uJ0 (by decide) gw_2142 (fun _ _ _ _ h => h) tyJ0_ok nmJ0 (Or.inr ⟨rfl, rfl, rfl⟩))) (
  ce_fn (P := P_J0_init_db425)))))))))))))))
noncomputable def tb_J0_init_db425_1 : List (Nat × ce_N) := [(27, ce_li (ce_aload 0 28)),
  (28, ce_li (ce_aload 3 29)),
  (29, ce_li (ce_push (.inl (.inl (0))) 30)),
  (30, ce_li (ce_iload 4 32)),
  (32, ce_call 3 1 2 35 (.inr true) F_J7_copyOfRange_39247),
  (35, ce_li (ce_putf (tyJ0 0) 0 0 38)),
  (38, ce_li (ce_goto 97)),
  (41, ce_li (ce_push (.inl (.inl 1)) 44)),
  (44, ce_li (ce_if true false false 79 47)),
  (47, ce_li (ce_aload 1 48)),
  (48, ce_li (ce_getf 1 2 51)),
  (51, ce_li (ce_if true false false 79 54)),
  (79, ce_li (ce_aload 0 80)),
  (80, ce_li (ce_push (.inl (.inl (1))) 81))]
theorem tk_J0_init_db425_1 : ∀ x ∈ tb_J0_init_db425_1, P_J0_init_db425 x.1 x.2 :=
  ce_fc (P := P_J0_init_db425) (ok_li (ok_aload_n dJ0_init_db425_27 rfl)) (
  ce_fc (P := P_J0_init_db425) (ok_li (ok_aload_n dJ0_init_db425_28 rfl)) (
  ce_fc (P := P_J0_init_db425) (ok_li (ok_iconst dJ0_init_db425_29)) (
  ce_fc (P := P_J0_init_db425) (ok_li (ok_iload dJ0_init_db425_30)) (
  ce_fc (P := P_J0_init_db425) (ok_call (ru_S m_J7_copyOfRange_39247 (by decide) (by decide) gw_2081 gw_2079 gw_2080 gw_31 hp_J7_copyOfRange_39247 dJ0_init_db425_32) ca_t) (
  ce_fc (P := P_J0_init_db425) (ok_li (ok_putf (ci := 0) (k := 0) (C := RJ0) (T := TJ0) (N := 4) (ty0 := tyJ0) dJ0_init_db425_35 rfl ce_uJ0 (by decide) gw_2141 (fun _ _ _ _ h => h) tyJ0_ok nmJ0 (Or.inr ⟨rfl, rfl, rfl⟩))) (
  ce_fc (P := P_J0_init_db425) (ok_li (ok_goto dJ0_init_db425_38 (by decide))) (
  ce_fc (P := P_J0_init_db425) (ok_li (ok_gets (sv := (.inl (.inl 1))) ce_z1 dJ0_init_db425_41 gw_1604 rfl)) (
  ce_fc (P := P_J0_init_db425) (ok_li (ok_if_eq dJ0_init_db425_44 (by decide))) (
  ce_fc (P := P_J0_init_db425) (ok_li (ok_aload_n dJ0_init_db425_47 rfl)) (
  ce_fc (P := P_J0_init_db425) (ok_li (ok_getf (ci := 1) (k := 2) (C := RJ4) (T := TJ4) (N := 4) dJ0_init_db425_48 rfl ce_uJ4 (by decide) gw_1944 (fun _ _ _ _ h => h))) (
  ce_fc (P := P_J0_init_db425) (ok_li (ok_if_eq dJ0_init_db425_51 (by decide))) (
  ce_fc (P := P_J0_init_db425) (ok_li (ok_aload_n dJ0_init_db425_79 rfl)) (
  ce_fc (P := P_J0_init_db425) (ok_li (ok_iconst dJ0_init_db425_80)) (
  ce_fn (P := P_J0_init_db425)))))))))))))))
noncomputable def tb_J0_init_db425_2 : List (Nat × ce_N) := [(81, ce_li (ce_putf (tyJ0 1) 0 1 84)),
  (84, ce_li (ce_aload 0 85)),
  (85, ce_li (ce_aload 3 86)),
  (86, ce_li (ce_push (.inl (.inl (0))) 87)),
  (87, ce_li (ce_iload 4 89)),
  (89, ce_li (ce_push (.inl (.inl (1))) 90)),
  (90, ce_li (ce_bin (ce_num fun x y => x <<< (y &&& 31)) 91)),
  (91, ce_call 3 1 2 94 (.inr true) F_J7_copyOfRange_39247),
  (94, ce_li (ce_putf (tyJ0 0) 0 0 97)),
  (97, ce_ret0)]
theorem tk_J0_init_db425_2 : ∀ x ∈ tb_J0_init_db425_2, P_J0_init_db425 x.1 x.2 :=
  ce_fc (P := P_J0_init_db425) (ok_li (ok_putf (ci := 0) (k := 1) (C := RJ0) (T := TJ0) (N := 4) (ty0 := tyJ0) dJ0_init_db425_81 rfl ce_uJ0 (by decide) gw_2142 (fun _ _ _ _ h => h) tyJ0_ok nmJ0 (Or.inr ⟨rfl, rfl, rfl⟩))) (
  ce_fc (P := P_J0_init_db425) (ok_li (ok_aload_n dJ0_init_db425_84 rfl)) (
  ce_fc (P := P_J0_init_db425) (ok_li (ok_aload_n dJ0_init_db425_85 rfl)) (
  ce_fc (P := P_J0_init_db425) (ok_li (ok_iconst dJ0_init_db425_86)) (
  ce_fc (P := P_J0_init_db425) (ok_li (ok_iload dJ0_init_db425_87)) (
  ce_fc (P := P_J0_init_db425) (ok_li (ok_iconst dJ0_init_db425_89)) (
  ce_fc (P := P_J0_init_db425) (ok_li (ok_ishl dJ0_init_db425_90)) (
  ce_fc (P := P_J0_init_db425) (ok_call (ru_S m_J7_copyOfRange_39247 (by decide) (by decide) gw_2081 gw_2079 gw_2080 gw_31 hp_J7_copyOfRange_39247 dJ0_init_db425_91) ca_t) (
  ce_fc (P := P_J0_init_db425) (ok_li (ok_putf (ci := 0) (k := 0) (C := RJ0) (T := TJ0) (N := 4) (ty0 := tyJ0) dJ0_init_db425_94 rfl ce_uJ0 (by decide) gw_2141 (fun _ _ _ _ h => h) tyJ0_ok nmJ0 (Or.inr ⟨rfl, rfl, rfl⟩))) (
  ce_fc (P := P_J0_init_db425) (ok_ret0 dJ0_init_db425_97 rfl) (
  ce_fn (P := P_J0_init_db425)))))))))))
noncomputable def ta_J0_init_db425 : Nat → Option ce_N := (ce_tr 27 (ce_fd tb_J0_init_db425_0) (ce_tr 81 (ce_fd tb_J0_init_db425_1) (ce_fd tb_J0_init_db425_2)))
theorem tx_J0_init_db425 : ∀ pc f, ta_J0_init_db425 pc = some f → P_J0_init_db425 pc f := (ce_tr_ok (P := P_J0_init_db425) (ce_fd_ok (P := P_J0_init_db425) tk_J0_init_db425_0) (ce_tr_ok (P := P_J0_init_db425) (ce_fd_ok (P := P_J0_init_db425) tk_J0_init_db425_1) (ce_fd_ok (P := P_J0_init_db425) tk_J0_init_db425_2)))
noncomputable def F_J0_init_db425 : ce_C := ce_M ta_J0_init_db425 5 1 2 1000000
theorem m_J0_init_db425 : ∀ l : Launch, l.stackTraces = false → ce_MS l yJ0_init_db425 (.code yJ0_init_db425 cJ0_init_db425 5 none) 3 1 2 F_J0_init_db425 := fun l hl => ce_met hl (by decide +kernel) tx_J0_init_db425
theorem hp_J0_init_db425 : yJ0_init_db425.cls ≠ "java/lang/invoke/MethodHandle" ∧ yJ0_init_db425.cls ≠ "java/lang/invoke/VarHandle" ∧ (parseMethodDescriptor yJ0_init_db425.desc).map (fun d => d.parameters.length) = some 2 := by decide +kernel
abbrev P_J2_inflate_0e8fd : Nat → ce_N → Prop := ce_OKN "java/lang/StringUTF16" "inflate" cJ2_inflate_0e8fd 6 none 3 (some [])
noncomputable def tb_J2_inflate_0e8fd_0 : List (Nat × ce_N) := [(0, ce_li (ce_iload 3 1)),
  (1, ce_li (ce_iload 4 3)),
  (3, ce_li (ce_aload 2 4)),
  (4, ce_call 3 0 0 7 (.inr true) F_J2_checkBoundsOffCount_d044e),
  (7, ce_li (ce_push (.inl (.inl (0))) 8)),
  (8, ce_li (ce_istore 5 10 6)),
  (10, ce_li (ce_iload 5 12)),
  (12, ce_li (ce_iload 4 14)),
  (14, ce_li (ce_icmp false false true 41 17)),
  (41, ce_ret0)]
theorem tk_J2_inflate_0e8fd_0 : ∀ x ∈ tb_J2_inflate_0e8fd_0, P_J2_inflate_0e8fd x.1 x.2 :=
  ce_fc (P := P_J2_inflate_0e8fd) (ok_li (ok_iload_n dJ2_inflate_0e8fd_0 rfl)) (
  ce_fc (P := P_J2_inflate_0e8fd) (ok_li (ok_iload dJ2_inflate_0e8fd_1)) (
  ce_fc (P := P_J2_inflate_0e8fd) (ok_li (ok_aload_n dJ2_inflate_0e8fd_3 rfl)) (
  ce_fc (P := P_J2_inflate_0e8fd) (ok_call (ru_S m_J2_checkBoundsOffCount_d044e (by decide) (by decide) gw_2019 gw_2017 gw_2018 gw_26 hp_J2_checkBoundsOffCount_d044e dJ2_inflate_0e8fd_4) ca_t) (
  ce_fc (P := P_J2_inflate_0e8fd) (ok_li (ok_iconst dJ2_inflate_0e8fd_7)) (
  ce_fc (P := P_J2_inflate_0e8fd) (ok_li (ok_istore dJ2_inflate_0e8fd_8)) (
  ce_fc (P := P_J2_inflate_0e8fd) (ok_li (ok_iload dJ2_inflate_0e8fd_10)) (
  ce_fc (P := P_J2_inflate_0e8fd) (ok_li (ok_iload dJ2_inflate_0e8fd_12)) (
  ce_fc (P := P_J2_inflate_0e8fd) (ok_li (ok_icmp_ge dJ2_inflate_0e8fd_14 (by decide))) (
  ce_fc (P := P_J2_inflate_0e8fd) (ok_ret0 dJ2_inflate_0e8fd_41 rfl) (
  ce_fn (P := P_J2_inflate_0e8fd)))))))))))
noncomputable def ta_J2_inflate_0e8fd : Nat → Option ce_N := (ce_fd tb_J2_inflate_0e8fd_0)
theorem tx_J2_inflate_0e8fd : ∀ pc f, ta_J2_inflate_0e8fd pc = some f → P_J2_inflate_0e8fd pc f := (ce_fd_ok (P := P_J2_inflate_0e8fd) tk_J2_inflate_0e8fd_0)
noncomputable def F_J2_inflate_0e8fd : ce_C := ce_M ta_J2_inflate_0e8fd 6 0 0 1000000
theorem m_J2_inflate_0e8fd : ∀ l : Launch, l.stackTraces = false → ce_MS l yJ2_inflate_0e8fd (.code yJ2_inflate_0e8fd cJ2_inflate_0e8fd 6 none) 3 0 0 F_J2_inflate_0e8fd := fun l hl => ce_met hl (by decide +kernel) tx_J2_inflate_0e8fd
theorem hp_J2_inflate_0e8fd : yJ2_inflate_0e8fd.cls ≠ "java/lang/invoke/MethodHandle" ∧ yJ2_inflate_0e8fd.cls ≠ "java/lang/invoke/VarHandle" ∧ (parseMethodDescriptor yJ2_inflate_0e8fd.desc).map (fun d => d.parameters.length) = some 5 := by decide +kernel
abbrev P_J2_putCharSB_b72d1 : Nat → ce_N → Prop := ce_OKN "java/lang/StringUTF16" "putCharSB" cJ2_putCharSB_b72d1 3 none 3 (some [])
noncomputable def tb_J2_putCharSB_b72d1_0 : List (Nat × ce_N) := [(0, ce_li (ce_iload 1 1)),
  (1, ce_li (ce_aload 0 2)),
  (2, ce_call 2 0 0 5 (.inr true) F_J2_checkIndex_2214a),
  (5, ce_li (ce_aload 0 6)),
  (6, ce_li (ce_iload 1 7)),
  (7, ce_li (ce_iload 2 8)),
  (8, ce_call 3 0 0 11 (.inr true) F_J2_putChar_b72d1),
  (11, ce_ret0)]
theorem tk_J2_putCharSB_b72d1_0 : ∀ x ∈ tb_J2_putCharSB_b72d1_0, P_J2_putCharSB_b72d1 x.1 x.2 :=
  ce_fc (P := P_J2_putCharSB_b72d1) (ok_li (ok_iload_n dJ2_putCharSB_b72d1_0 rfl)) (
  ce_fc (P := P_J2_putCharSB_b72d1) (ok_li (ok_aload_n dJ2_putCharSB_b72d1_1 rfl)) (
  ce_fc (P := P_J2_putCharSB_b72d1) (ok_call (ru_S m_J2_checkIndex_2214a (by decide) (by decide) gw_2047 gw_2045 gw_2046 gw_26 hp_J2_checkIndex_2214a dJ2_putCharSB_b72d1_2) ca_t) (
  ce_fc (P := P_J2_putCharSB_b72d1) (ok_li (ok_aload_n dJ2_putCharSB_b72d1_5 rfl)) (
  ce_fc (P := P_J2_putCharSB_b72d1) (ok_li (ok_iload_n dJ2_putCharSB_b72d1_6 rfl)) (
  ce_fc (P := P_J2_putCharSB_b72d1) (ok_li (ok_iload_n dJ2_putCharSB_b72d1_7 rfl)) (
  ce_fc (P := P_J2_putCharSB_b72d1) (ok_call (ru_S m_J2_putChar_b72d1 (by decide) (by decide) gw_1996 gw_1994 gw_1995 gw_26 hp_J2_putChar_b72d1 dJ2_putCharSB_b72d1_8) ca_t) (
  ce_fc (P := P_J2_putCharSB_b72d1) (ok_ret0 dJ2_putCharSB_b72d1_11 rfl) (
  ce_fn (P := P_J2_putCharSB_b72d1)))))))))
noncomputable def ta_J2_putCharSB_b72d1 : Nat → Option ce_N := (ce_fd tb_J2_putCharSB_b72d1_0)
theorem tx_J2_putCharSB_b72d1 : ∀ pc f, ta_J2_putCharSB_b72d1 pc = some f → P_J2_putCharSB_b72d1 pc f := (ce_fd_ok (P := P_J2_putCharSB_b72d1) tk_J2_putCharSB_b72d1_0)
noncomputable def F_J2_putCharSB_b72d1 : ce_C := ce_M ta_J2_putCharSB_b72d1 3 0 0 1000000
theorem m_J2_putCharSB_b72d1 : ∀ l : Launch, l.stackTraces = false → ce_MS l yJ2_putCharSB_b72d1 (.code yJ2_putCharSB_b72d1 cJ2_putCharSB_b72d1 3 none) 3 0 0 F_J2_putCharSB_b72d1 := fun l hl => ce_met hl (by decide +kernel) tx_J2_putCharSB_b72d1
theorem hp_J2_putCharSB_b72d1 : yJ2_putCharSB_b72d1.cls ≠ "java/lang/invoke/MethodHandle" ∧ yJ2_putCharSB_b72d1.cls ≠ "java/lang/invoke/VarHandle" ∧ (parseMethodDescriptor yJ2_putCharSB_b72d1.desc).map (fun d => d.parameters.length) = some 3 := by decide +kernel
