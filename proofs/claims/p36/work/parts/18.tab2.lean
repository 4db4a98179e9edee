abbrev P_X11_init : Nat → ce_N → Prop := ce_OKN "Carcasswright" "<init>" cX11_init 1 none 2 (some [])
noncomputable def tb_X11_init_0 : List (Nat × ce_N) := [(0, ce_li (ce_aload 0 1)),
  (1, ce_li (ce_oi 4)),
  (4, ce_li (ce_aload 0 5)),
  (5, ce_li (ce_new 13 10 dl_X9 8)),
  (8, ce_li (ce_dup 9)),
  (9, ce_call 1 11 119 12 (.inr true) (ce_CI F_X9_init)),
  (12, ce_li (ce_putf (tyX11 0) 15 0 15)),
  (15, ce_li (ce_aload 0 16)),
  (16, ce_li (ce_new 10 10 dl_X6 19)),
  (19, ce_li (ce_dup 20)),
  (20, ce_li (ce_aload 0 21)),
  (21, ce_li (ce_getf 15 0 24)),
  (24, ce_call 1 0 0 27 (.inr true) (ce_CV 13 F_X9_first)),
  (27, ce_call 2 36 195 30 (.inr true) (ce_CI F_X6_init))]
theorem tk_X11_init_0 : ∀ x ∈ tb_X11_init_0, P_X11_init x.1 x.2 :=
  ce_fc (P := P_X11_init) (ok_li (ok_aload_n dX11_init_0 rfl)) (
  ce_fc (P := P_X11_init) (ok_li (ok_oi dX11_init_1 gw_56 gw_57 gw_58)) (
  ce_fc (P := P_X11_init) (ok_li (ok_aload_n dX11_init_4 rfl)) (
  ce_fc (P := P_X11_init) (ok_li (ok_new (ci := 13) (C := RX9) (T := TX9) (N := 10) (ty0 := tyX9) dX11_init_5 rfl ce_uX9 tyX9_ok gw_59 gw_60 gw_2 dv_X9 rfl)) (
  ce_fc (P := P_X11_init) (ok_li (ok_dup dX11_init_8)) (
  ce_fc (P := P_X11_init) (ok_call (ru_I m_X9_init (by decide) (by decide) gw_63 gw_61 gw_62 gw_2 rfl hp_X9_init dX11_init_9) ca_t) (
  ce_fc (P := P_X11_init) (ok_li (ok_putf (ci := 15) (k := 0) (C := RX11) (T := TX11) (N := 7) (ty0 := tyX11) dX11_init_12 rfl ce_uX11 (by decide) gw_454 (fun _ _ _ _ h => h) tyX11_ok nmX11 (Or.inr ⟨rfl, rfl, rfl⟩))) (
  ce_fc (P := P_X11_init) (ok_li (ok_aload_n dX11_init_15 rfl)) (
  ce_fc (P := P_X11_init) (ok_li (ok_new (ci := 10) (C := RX6) (T := TX6) (N := 10) (ty0 := tyX6) dX11_init_16 rfl ce_uX6 tyX6_ok gw_149 gw_150 gw_4 dv_X6 rfl)) (
  ce_fc (P := P_X11_init) (ok_li (ok_dup dX11_init_19)) (
  ce_fc (P := P_X11_init) (ok_li (ok_aload_n dX11_init_20 rfl)) (
  ce_fc (P := P_X11_init) (ok_li (ok_getf (ci := 15) (k := 0) (C := RX11) (T := TX11) (N := 7) dX11_init_21 rfl ce_uX11 (by decide) gw_454 (fun _ _ _ _ h => h))) (
  ce_fc (P := P_X11_init) (ok_call (ru_V (ci := 13) (C := RX9) (Tf := TX9) (N := 10) m_X9_first (by decide) (by decide) rfl gw_154 gw_151 gw_152 gw_153 gw_2 ⟨rfl, hp_X9_first⟩ dX11_init_24) ca_t) (
  ce_fc (P := P_X11_init) (ok_call (ru_I m_X6_init (by decide) (by decide) gw_157 gw_155 gw_156 gw_4 rfl hp_X6_init dX11_init_27) ca_t) (
  ce_fn (P := P_X11_init)))))))))))))))
noncomputable def tb_X11_init_1 : List (Nat × ce_N) := [(30, ce_li (ce_putf (tyX11 1) 15 1 33)),
  (33, ce_li (ce_aload 0 34)),
  (34, ce_li (ce_new 12 5 dl_X8 37)),
  (37, ce_li (ce_dup 38)),
  (38, ce_call 1 61 480 41 (.inr true) (ce_CI F_X8_init)),
  (41, ce_li (ce_putf (tyX11 2) 15 2 44)),
  (44, ce_li (ce_aload 0 45)),
  (45, ce_li (ce_new 11 13 dl_X7 48)),
  (48, ce_li (ce_dup 49)),
  (49, ce_li (ce_aload 0 50)),
  (50, ce_li (ce_getf 15 2 53)),
  (53, ce_call 2 57 550 56 (.inr true) (ce_CI F_X7_init)),
  (56, ce_li (ce_putf (tyX11 3) 15 3 59)),
  (59, ce_li (ce_aload 0 60))]
theorem tk_X11_init_1 : ∀ x ∈ tb_X11_init_1, P_X11_init x.1 x.2 :=
  ce_fc (P := P_X11_init) (ok_li (ok_putf (ci := 15) (k := 1) (C := RX11) (T := TX11) (N := 7) (ty0 := tyX11) dX11_init_30 rfl ce_uX11 (by decide) gw_455 (fun _ _ _ _ h => h) tyX11_ok nmX11 (Or.inr ⟨rfl, rfl, rfl⟩))) (
  ce_fc (P := P_X11_init) (ok_li (ok_aload_n dX11_init_33 rfl)) (
  ce_fc (P := P_X11_init) (ok_li (ok_new (ci := 12) (C := RX8) (T := TX8) (N := 5) (ty0 := tyX8) dX11_init_34 rfl ce_uX8 tyX8_ok gw_284 gw_285 gw_8 dv_X8 rfl)) (
  ce_fc (P := P_X11_init) (ok_li (ok_dup dX11_init_37)) (
  ce_fc (P := P_X11_init) (ok_call (ru_I m_X8_init (by decide) (by decide) gw_288 gw_286 gw_287 gw_8 rfl hp_X8_init dX11_init_38) ca_t) (
  ce_fc (P := P_X11_init) (ok_li (ok_putf (ci := 15) (k := 2) (C := RX11) (T := TX11) (N := 7) (ty0 := tyX11) dX11_init_41 rfl ce_uX11 (by decide) gw_456 (fun _ _ _ _ h => h) tyX11_ok nmX11 (Or.inr ⟨rfl, rfl, rfl⟩))) (
  ce_fc (P := P_X11_init) (ok_li (ok_aload_n dX11_init_44 rfl)) (
  ce_fc (P := P_X11_init) (ok_li (ok_new (ci := 11) (C := RX7) (T := TX7) (N := 13) (ty0 := tyX7) dX11_init_45 rfl ce_uX7 tyX7_ok gw_350 gw_351 gw_10 dv_X7 rfl)) (
  ce_fc (P := P_X11_init) (ok_li (ok_dup dX11_init_48)) (
  ce_fc (P := P_X11_init) (ok_li (ok_aload_n dX11_init_49 rfl)) (
  ce_fc (P := P_X11_init) (ok_li (ok_getf (ci := 15) (k := 2) (C := RX11) (T := TX11) (N := 7) dX11_init_50 rfl ce_uX11 (by decide) gw_456 (fun _ _ _ _ h => h))) (
  ce_fc (P := P_X11_init) (ok_call (ru_I m_X7_init (by decide) (by decide) gw_354 gw_352 gw_353 gw_10 rfl hp_X7_init dX11_init_53) ca_t) (
  ce_fc (P := P_X11_init) (ok_li (ok_putf (ci := 15) (k := 3) (C := RX11) (T := TX11) (N := 7) (ty0 := tyX11) dX11_init_56 rfl ce_uX11 (by decide) gw_457 (fun _ _ _ _ h => h) tyX11_ok nmX11 (Or.inr ⟨rfl, rfl, rfl⟩))) (
  ce_fc (P := P_X11_init) (ok_li (ok_aload_n dX11_init_59 rfl)) (
  ce_fn (P := P_X11_init)))))))))))))))
noncomputable def tb_X11_init_2 : List (Nat × ce_N) := [(60, ce_li (ce_new 8 4 dl_X4 63)),
  (63, ce_li (ce_dup 64)),
  (64, ce_call 1 3 75 67 (.inr true) (ce_CI F_X4_init)),
  (67, ce_li (ce_putf (tyX11 4) 15 4 70)),
  (70, ce_li (ce_aload 0 71)),
  (71, ce_li (ce_new 5 8 dl_X1 74)),
  (74, ce_li (ce_dup 75)),
  (75, ce_call 1 5 30 78 (.inr true) (ce_CI F_X1_init)),
  (78, ce_li (ce_putf (tyX11 5) 15 5 81)),
  (81, ce_li (ce_aload 0 82)),
  (82, ce_li (ce_push (.inl (.inl (3))) 83)),
  (83, ce_li (ce_newa 0 2 85)),
  (85, ce_li (ce_dup 86)),
  (86, ce_li (ce_push (.inl (.inl (0))) 87))]
theorem tk_X11_init_2 : ∀ x ∈ tb_X11_init_2, P_X11_init x.1 x.2 :=
  ce_fc (P := P_X11_init) (ok_li (ok_new (ci := 8) (C := RX4) (T := TX4) (N := 4) (ty0 := tyX4) dX11_init_60 rfl ce_uX4 tyX4_ok gw_399 gw_400 gw_11 dv_X4 rfl)) (
  ce_fc (P := P_X11_init) (ok_li (ok_dup dX11_init_63)) (
  ce_fc (P := P_X11_init) (ok_call (ru_IN m_X4_init (by decide) (by decide) gw_403 gn_13 gw_402 gw_11 rfl hp_X4_init dX11_init_64) ca_t) (
  ce_fc (P := P_X11_init) (ok_li (ok_putf (ci := 15) (k := 4) (C := RX11) (T := TX11) (N := 7) (ty0 := tyX11) dX11_init_67 rfl ce_uX11 (by decide) gw_458 (fun _ _ _ _ h => h) tyX11_ok nmX11 (Or.inr ⟨rfl, rfl, rfl⟩))) (
  ce_fc (P := P_X11_init) (ok_li (ok_aload_n dX11_init_70 rfl)) (
  ce_fc (P := P_X11_init) (ok_li (ok_new (ci := 5) (C := RX1) (T := TX1) (N := 8) (ty0 := tyX1) dX11_init_71 rfl ce_uX1 tyX1_ok gw_419 gw_420 gw_12 dv_X1 rfl)) (
  ce_fc (P := P_X11_init) (ok_li (ok_dup dX11_init_74)) (
  ce_fc (P := P_X11_init) (ok_call (ru_IN m_X1_init (by decide) (by decide) gw_423 gn_14 gw_422 gw_12 rfl hp_X1_init dX11_init_75) ca_t) (
  ce_fc (P := P_X11_init) (ok_li (ok_putf (ci := 15) (k := 5) (C := RX11) (T := TX11) (N := 7) (ty0 := tyX11) dX11_init_78 rfl ce_uX11 (by decide) gw_459 (fun _ _ _ _ h => h) tyX11_ok nmX11 (Or.inr ⟨rfl, rfl, rfl⟩))) (
  ce_fc (P := P_X11_init) (ok_li (ok_aload_n dX11_init_81 rfl)) (
  ce_fc (P := P_X11_init) (ok_li (ok_iconst dX11_init_82)) (
  ce_fc (P := P_X11_init) (ok_li (ok_newa_int dX11_init_83 gw_193)) (
  ce_fc (P := P_X11_init) (ok_li (ok_dup dX11_init_85)) (
  ce_fc (P := P_X11_init) (ok_li (ok_iconst dX11_init_86)) (
  ce_fn (P := P_X11_init)))))))))))))))
noncomputable def tb_X11_init_3 : List (Nat × ce_N) := [(87, ce_li (ce_push (.inl (.inl (2))) 88)),
  (88, ce_li (ce_iast 0 89 88)),
  (89, ce_li (ce_dup 90)),
  (90, ce_li (ce_push (.inl (.inl (1))) 91)),
  (91, ce_li (ce_push (.inl (.inl (5))) 92)),
  (92, ce_li (ce_iast 0 93 92)),
  (93, ce_li (ce_dup 94)),
  (94, ce_li (ce_push (.inl (.inl (2))) 95)),
  (95, ce_li (ce_push (.inl (.inl (9))) 97)),
  (97, ce_li (ce_iast 0 98 97)),
  (98, ce_li (ce_putf (tyX11 6) 15 6 101)),
  (101, ce_ret0)]
theorem tk_X11_init_3 : ∀ x ∈ tb_X11_init_3, P_X11_init x.1 x.2 :=
  ce_fc (P := P_X11_init) (ok_li (ok_iconst dX11_init_87)) (
  ce_fc (P := P_X11_init) (ok_li (ok_iastore dX11_init_88)) (
  ce_fc (P := P_X11_init) (ok_li (ok_dup dX11_init_89)) (
  ce_fc (P := P_X11_init) (ok_li (ok_iconst dX11_init_90)) (
  ce_fc (P := P_X11_init) (ok_li (ok_iconst dX11_init_91)) (
  ce_fc (P := P_X11_init) (ok_li (ok_iastore dX11_init_92)) (
  ce_fc (P := P_X11_init) (ok_li (ok_dup dX11_init_93)) (
  ce_fc (P := P_X11_init) (ok_li (ok_iconst dX11_init_94)) (
  ce_fc (P := P_X11_init) (ok_li (ok_bipush dX11_init_95 (by decide))) (
  ce_fc (P := P_X11_init) (ok_li (ok_iastore dX11_init_97)) (
  ce_fc (P := P_X11_init) (ok_li (ok_putf (ci := 15) (k := 6) (C := RX11) (T := TX11) (N := 7) (ty0 := tyX11) dX11_init_98 rfl ce_uX11 (by decide) gw_460 (fun _ _ _ _ h => h) tyX11_ok nmX11 (Or.inr ⟨rfl, rfl, rfl⟩))) (
  ce_fc (P := P_X11_init) (ok_ret0 dX11_init_101 rfl) (
  ce_fn (P := P_X11_init)))))))))))))
noncomputable def ta_X11_init : Nat → Option ce_N := (ce_tr 60 (ce_tr 30 (ce_fd tb_X11_init_0) (ce_fd tb_X11_init_1)) (ce_tr 87 (ce_fd tb_X11_init_2) (ce_fd tb_X11_init_3)))
theorem tx_X11_init : ∀ pc f, ta_X11_init pc = some f → P_X11_init pc f := (ce_tr_ok (P := P_X11_init) (ce_tr_ok (P := P_X11_init) (ce_fd_ok (P := P_X11_init) tk_X11_init_0) (ce_fd_ok (P := P_X11_init) tk_X11_init_1)) (ce_tr_ok (P := P_X11_init) (ce_fd_ok (P := P_X11_init) tk_X11_init_2) (ce_fd_ok (P := P_X11_init) tk_X11_init_3)))
noncomputable def F_X11_init : ce_C := ce_M ta_X11_init 1 180 1502 1000000
theorem m_X11_init : ∀ l : Launch, l.stackTraces = false → ce_MS l yX11_init (.code yX11_init cX11_init 1 none) 2 180 1502 F_X11_init := fun l hl => ce_met hl (by decide +kernel) tx_X11_init
theorem hp_X11_init : yX11_init.cls ≠ "java/lang/invoke/MethodHandle" ∧ yX11_init.cls ≠ "java/lang/invoke/VarHandle" ∧ (parseMethodDescriptor yX11_init.desc).map (fun d => d.parameters.length) = some 0 := by decide +kernel
abbrev P_J0_indexOf_0f7a4 : Nat → ce_N → Prop := ce_OKN "java/lang/String" "indexOf" cJ0_indexOf_0f7a4 2 (some .int) 3 (some [])
noncomputable def tb_J0_indexOf_0f7a4_0 : List (Nat × ce_N) := [(0, ce_li (ce_aload 0 1)),
  (1, ce_li (ce_iload 1 2)),
  (2, ce_li (ce_push (.inl (.inl (0))) 3)),
  (3, ce_call 3 0 0 6 (.inr true) (ce_CV 0 F_J0_indexOf_7cf53)),
  (6, ce_reti .int)]
theorem tk_J0_indexOf_0f7a4_0 : ∀ x ∈ tb_J0_indexOf_0f7a4_0, P_J0_indexOf_0f7a4 x.1 x.2 :=
  ce_fc (P := P_J0_indexOf_0f7a4) (ok_li (ok_aload_n dJ0_indexOf_0f7a4_0 rfl)) (
  ce_fc (P := P_J0_indexOf_0f7a4) (ok_li (ok_iload_n dJ0_indexOf_0f7a4_1 rfl)) (
  ce_fc (P := P_J0_indexOf_0f7a4) (ok_li (ok_iconst dJ0_indexOf_0f7a4_2)) (
  ce_fc (P := P_J0_indexOf_0f7a4) (ok_call (ru_V (ci := 0) (C := RJ0) (Tf := TJ0) (N := 4) m_J0_indexOf_7cf53 (by decide) (by decide) rfl gw_1599 gw_1596 gw_1597 gw_1598 gw_23 ⟨rfl, hp_J0_indexOf_7cf53⟩ dJ0_indexOf_0f7a4_3) ca_t) (
  ce_fc (P := P_J0_indexOf_0f7a4) (ok_reti dJ0_indexOf_0f7a4_6 rfl) (
  ce_fn (P := P_J0_indexOf_0f7a4))))))
noncomputable def ta_J0_indexOf_0f7a4 : Nat → Option ce_N := (ce_fd tb_J0_indexOf_0f7a4_0)
theorem tx_J0_indexOf_0f7a4 : ∀ pc f, ta_J0_indexOf_0f7a4 pc = some f → P_J0_indexOf_0f7a4 pc f := (ce_fd_ok (P := P_J0_indexOf_0f7a4) tk_J0_indexOf_0f7a4_0)
noncomputable def F_J0_indexOf_0f7a4 : ce_C := ce_M ta_J0_indexOf_0f7a4 2 0 0 1000000
theorem m_J0_indexOf_0f7a4 : ∀ l : Launch, l.stackTraces = false → ce_MS l yJ0_indexOf_0f7a4 (.code yJ0_indexOf_0f7a4 cJ0_indexOf_0f7a4 2 (some .int)) 3 0 0 F_J0_indexOf_0f7a4 := fun l hl => ce_met hl (by decide +kernel) tx_J0_indexOf_0f7a4
theorem hp_J0_indexOf_0f7a4 : yJ0_indexOf_0f7a4.cls ≠ "java/lang/invoke/MethodHandle" ∧ yJ0_indexOf_0f7a4.cls ≠ "java/lang/invoke/VarHandle" ∧ (parseMethodDescriptor yJ0_indexOf_0f7a4.desc).map (fun d => d.parameters.length) = some 1 := by decide +kernel
abbrev P_Jx4a65c_add_9ea2d : Nat → ce_N → Prop := ce_OKN "java/util/ArrayList" "add" cJx4a65c_add_9ea2d 2 (some .boolean) 3 (some [])
noncomputable def tb_Jx4a65c_add_9ea2d_0 : List (Nat × ce_N) := [(0, ce_li (ce_aload 0 1)),
  (1, ce_li (ce_dup 2)),
  (2, ce_li (ce_getf 3 0 5)),
  (5, ce_li (ce_push (.inl (.inl (1))) 6)),
  (6, ce_li (ce_bin ce_addo 7)),
  (7, ce_li (ce_putf (tyJx4a65c 0) 3 0 10)),
  (10, ce_li (ce_aload 0 11)),
  (11, ce_li (ce_aload 1 12)),
  (12, ce_li (ce_aload 0 13)),
  (13, ce_li (ce_getf 3 1 16)),
  (16, ce_li (ce_aload 0 17)),
  (17, ce_li (ce_getf 3 2 20)),
  (20, ce_call 4 1 10 23 (.inr true) (ce_CV 3 F_Jx4a65c_add_72be8)),
  (23, ce_li (ce_push (.inl (.inl (1))) 24))]
theorem tk_Jx4a65c_add_9ea2d_0 : ∀ x ∈ tb_Jx4a65c_add_9ea2d_0, P_Jx4a65c_add_9ea2d x.1 x.2 :=
  ce_fc (P := P_Jx4a65c_add_9ea2d) (ok_li (ok_aload_n dJx4a65c_add_9ea2d_0 rfl)) (
  ce_fc (P := P_Jx4a65c_add_9ea2d) (ok_li (ok_dup dJx4a65c_add_9ea2d_1)) (
  ce_fc (P := P_Jx4a65c_add_9ea2d) (ok_li (ok_getf (ci := 3) (k := 0) (C := RJx4a65c) (T := TJx4a65c) (N := 3) dJx4a65c_add_9ea2d_2 rfl ce_uJx4a65c (by decide) gw_1512 (fun s args hw x h => u_same (hw _ gw_1511) x h))) (
  ce_fc (P := P_Jx4a65c_add_9ea2d) (ok_li (ok_iconst dJx4a65c_add_9ea2d_5)) (
  ce_fc (P := P_Jx4a65c_add_9ea2d) (ok_li (ok_iadd dJx4a65c_add_9ea2d_6)) (
  ce_fc (P := P_Jx4a65c_add_9ea2d) (ok_li (ok_putf (ci := 3) (k := 0) (C := RJx4a65c) (T := TJx4a65c) (N := 3) (ty0 := tyJx4a65c) dJx4a65c_add_9ea2d_7 rfl ce_uJx4a65c (by decide) gw_1512 (fun s args hw x h => u_same (hw _ gw_1511) x h) tyJx4a65c_ok nmJx4a65c (Or.inl rfl))) (
  ce_fc (P := P_Jx4a65c_add_9ea2d) (ok_li (ok_aload_n dJx4a65c_add_9ea2d_10 rfl)) (
  ce_fc (P := P_Jx4a65c_add_9ea2d) (ok_li (ok_aload_n dJx4a65c_add_9ea2d_11 rfl)) (
  ce_fc (P := P_Jx4a65c_add_9ea2d) (ok_li (ok_aload_n dJx4a65c_add_9ea2d_12 rfl)) (
  ce_fc (P := P_Jx4a65c_add_9ea2d) (ok_li (ok_getf (ci := 3) (k := 1) (C := RJx4a65c) (T := TJx4a65c) (N := 3) dJx4a65c_add_9ea2d_13 rfl ce_uJx4a65c (by decide) gw_1505 (fun _ _ _ _ h => h))) (
  ce_fc (P := P_Jx4a65c_add_9ea2d) (ok_li (ok_aload_n dJx4a65c_add_9ea2d_16 rfl)) (
  ce_fc (P := P_Jx4a65c_add_9ea2d) (ok_li (ok_getf (ci := 3) (k := 2) (C := RJx4a65c) (T := TJx4a65c) (N := 3) dJx4a65c_add_9ea2d_17 rfl ce_uJx4a65c (by decide) gw_1508 (fun _ _ _ _ h => h))) (
  ce_fc (P := P_Jx4a65c_add_9ea2d) (ok_call (ru_V (ci := 3) (C := RJx4a65c) (Tf := TJx4a65c) (N := 3) m_Jx4a65c_add_72be8 (by decide) (by decide) rfl gw_1717 gw_1714 gw_1716 gp_4 gw_16 ⟨rfl, hp_Jx4a65c_add_72be8⟩ dJx4a65c_add_9ea2d_20) ca_t) (
  ce_fc (P := P_Jx4a65c_add_9ea2d) (ok_li (ok_iconst dJx4a65c_add_9ea2d_23)) (
  ce_fn (P := P_Jx4a65c_add_9ea2d)))))))))))))))
noncomputable def tb_Jx4a65c_add_9ea2d_1 : List (Nat × ce_N) := [(24, ce_reti .boolean)]
theorem tk_Jx4a65c_add_9ea2d_1 : ∀ x ∈ tb_Jx4a65c_add_9ea2d_1, P_Jx4a65c_add_9ea2d x.1 x.2 :=
  ce_fc (P := P_Jx4a65c_add_9ea2d) (ok_reti dJx4a65c_add_9ea2d_24 rfl) (
  ce_fn (P := P_Jx4a65c_add_9ea2d))
noncomputable def ta_Jx4a65c_add_9ea2d : Nat → Option ce_N := (ce_tr 24 (ce_fd tb_Jx4a65c_add_9ea2d_0) (ce_fd tb_Jx4a65c_add_9ea2d_1))
theorem tx_Jx4a65c_add_9ea2d : ∀ pc f, ta_Jx4a65c_add_9ea2d pc = some f → P_Jx4a65c_add_9ea2d pc f := (ce_tr_ok (P := P_Jx4a65c_add_9ea2d) (ce_fd_ok (P := P_Jx4a65c_add_9ea2d) tk_Jx4a65c_add_9ea2d_0) (ce_fd_ok (P := P_Jx4a65c_add_9ea2d) tk_Jx4a65c_add_9ea2d_1))
noncomputable def F_Jx4a65c_add_9ea2d : ce_C := ce_M ta_Jx4a65c_add_9ea2d 2 1 10 1000000
theorem m_Jx4a65c_add_9ea2d : ∀ l : Launch, l.stackTraces = false → ce_MS l yJx4a65c_add_9ea2d (.code yJx4a65c_add_9ea2d cJx4a65c_add_9ea2d 2 (some .boolean)) 3 1 10 F_Jx4a65c_add_9ea2d := fun l hl => ce_met hl (by decide +kernel) tx_Jx4a65c_add_9ea2d
theorem hp_Jx4a65c_add_9ea2d : yJx4a65c_add_9ea2d.cls ≠ "java/lang/invoke/MethodHandle" ∧ yJx4a65c_add_9ea2d.cls ≠ "java/lang/invoke/VarHandle" ∧ (parseMethodDescriptor yJx4a65c_add_9ea2d.desc).map (fun d => d.parameters.length) = some 1 := by decide +kernel
abbrev P_L_addWall : Nat → ce_N → Prop := ce_OKN "CarcasswrightLaw" "addWall" cL_addWall 5 (some .int) 3 (some [(0, 10, 13, 13), (0, 10, 17, 15)])
noncomputable def tb_L_addWall_0 : List (Nat × ce_N) := [(0, ce_li (ce_aload 3 1)),
  (1, ce_li (ce_push (.inl (.inl (0))) 2)),
  (2, ce_li (ce_aload 0 3)),
  (3, ce_li (ce_iload 1 4)),
  (4, ce_li (ce_iload 2 5)),
  (5, ce_call 3 0 0 8 (.inl (0, 15, 4)) (ce_CV 15 F_X11_addWall)),
  (8, ce_li (ce_i2l 9)),
  (9, ce_li (ce_last 10)),
  (10, ce_li (ce_goto 21)),
  (21, ce_li (ce_push (.inl (.inl (0))) 22)),
  (22, ce_reti .int)]
theorem tk_L_addWall_0 : ∀ x ∈ tb_L_addWall_0, P_L_addWall x.1 x.2 :=
  ce_fc (P := P_L_addWall) (ok_li (ok_aload_n dL_addWall_0 rfl)) (
  ce_fc (P := P_L_addWall) (ok_li (ok_iconst dL_addWall_1)) (
  ce_fc (P := P_L_addWall) (ok_li (ok_aload_n dL_addWall_2 rfl)) (
  ce_fc (P := P_L_addWall) (ok_li (ok_iload_n dL_addWall_3 rfl)) (
  ce_fc (P := P_L_addWall) (ok_li (ok_iload_n dL_addWall_4 rfl)) (
  ce_fc (P := P_L_addWall) (ok_call (ca := .inl (0, 15, 4)) (hh := some [(0, 10, 13, 13), (0, 10, 17, 15)]) (ru_V (ci := 15) (C := RX11) (Tf := TX11) (N := 7) m_X11_addWall (by decide) (by decide) rfl gw_721 gw_718 gw_719 gw_720 gw_1 ⟨rfl, hp_X11_addWall⟩ dL_addWall_5) (⟨_, _, _, (0 : Fin 4), rfl, rfl, by decide, by decide, gw_716, gn_0, Or.inr ⟨dL_addWall_13, rfl⟩, by decide⟩)) (
  ce_fc (P := P_L_addWall) (ok_li (ok_i2l dL_addWall_8)) (
  ce_fc (P := P_L_addWall) (ok_li (ok_last dL_addWall_9)) (
  ce_fc (P := P_L_addWall) (ok_li (ok_goto dL_addWall_10 (by decide))) (
  ce_fc (P := P_L_addWall) (ok_li (ok_iconst dL_addWall_21)) (
  ce_fc (P := P_L_addWall) (ok_reti dL_addWall_22 rfl) (
  ce_fn (P := P_L_addWall))))))))))))
noncomputable def ta_L_addWall : Nat → Option ce_N := (ce_fd tb_L_addWall_0)
theorem tx_L_addWall : ∀ pc f, ta_L_addWall pc = some f → P_L_addWall pc f := (ce_fd_ok (P := P_L_addWall) tk_L_addWall_0)
noncomputable def F_L_addWall : ce_C := ce_M ta_L_addWall 5 0 0 1000000
theorem m_L_addWall : ∀ l : Launch, l.stackTraces = false → ce_MS l yL_addWall (.codeWith yL_addWall cL_addWall 5 (some .int) [(0, 10, 13, 13), (0, 10, 17, 15)]) 3 0 0 F_L_addWall := fun l hl => ce_metW hl (by decide +kernel) tx_L_addWall
theorem hp_L_addWall : yL_addWall.cls ≠ "java/lang/invoke/MethodHandle" ∧ yL_addWall.cls ≠ "java/lang/invoke/VarHandle" ∧ (parseMethodDescriptor yL_addWall.desc).map (fun d => d.parameters.length) = some 4 := by decide +kernel
abbrev P_L_free : Nat → ce_N → Prop := ce_OKN "CarcasswrightLaw" "free" cL_free 5 (some .int) 3 (some [(0, 10, 13, 27)])
noncomputable def tb_L_free_0 : List (Nat × ce_N) := [(0, ce_li (ce_aload 3 1)),
  (1, ce_li (ce_push (.inl (.inl (0))) 2)),
  (2, ce_li (ce_aload 0 3)),
  (3, ce_li (ce_iload 1 4)),
  (4, ce_li (ce_iload 2 5)),
  (5, ce_call 3 0 0 8 (.inl (1, 15, 4)) (ce_CV 15 F_X11_free)),
  (8, ce_li (ce_i2l 9)),
  (9, ce_li (ce_last 10)),
  (10, ce_li (ce_goto 17)),
  (17, ce_li (ce_push (.inl (.inl (0))) 18)),
  (18, ce_reti .int)]
theorem tk_L_free_0 : ∀ x ∈ tb_L_free_0, P_L_free x.1 x.2 :=
  ce_fc (P := P_L_free) (ok_li (ok_aload_n dL_free_0 rfl)) (
  ce_fc (P := P_L_free) (ok_li (ok_iconst dL_free_1)) (
  ce_fc (P := P_L_free) (ok_li (ok_aload_n dL_free_2 rfl)) (
  ce_fc (P := P_L_free) (ok_li (ok_iload_n dL_free_3 rfl)) (
  ce_fc (P := P_L_free) (ok_li (ok_iload_n dL_free_4 rfl)) (
  ce_fc (P := P_L_free) (ok_call (ca := .inl (1, 15, 4)) (hh := some [(0, 10, 13, 27)]) (ru_V (ci := 15) (C := RX11) (Tf := TX11) (N := 7) m_X11_free (by decide) (by decide) rfl gw_1052 gw_1049 gw_1050 gw_1051 gw_1 ⟨rfl, hp_X11_free⟩ dL_free_5) (⟨_, _, _, (0 : Fin 4), rfl, rfl, by decide, by decide, gw_810, gn_1, Or.inr ⟨dL_free_13, rfl⟩, by decide⟩)) (
  ce_fc (P := P_L_free) (ok_li (ok_i2l dL_free_8)) (
  ce_fc (P := P_L_free) (ok_li (ok_last dL_free_9)) (
  ce_fc (P := P_L_free) (ok_li (ok_goto dL_free_10 (by decide))) (
  ce_fc (P := P_L_free) (ok_li (ok_iconst dL_free_17)) (
  ce_fc (P := P_L_free) (ok_reti dL_free_18 rfl) (
  ce_fn (P := P_L_free))))))))))))
noncomputable def ta_L_free : Nat → Option ce_N := (ce_fd tb_L_free_0)
theorem tx_L_free : ∀ pc f, ta_L_free pc = some f → P_L_free pc f := (ce_fd_ok (P := P_L_free) tk_L_free_0)
noncomputable def F_L_free : ce_C := ce_M ta_L_free 5 0 0 1000000
theorem m_L_free : ∀ l : Launch, l.stackTraces = false → ce_MS l yL_free (.codeWith yL_free cL_free 5 (some .int) [(0, 10, 13, 27)]) 3 0 0 F_L_free := fun l hl => ce_metW hl (by decide +kernel) tx_L_free
theorem hp_L_free : yL_free.cls ≠ "java/lang/invoke/MethodHandle" ∧ yL_free.cls ≠ "java/lang/invoke/VarHandle" ∧ (parseMethodDescriptor yL_free.desc).map (fun d => d.parameters.length) = some 4 := by decide +kernel
abbrev P_X21_free : Nat → ce_N → Prop := ce_OKN "CarcasswrightModel" "free" cX21_free 13 (some .int) 3 (some [])
noncomputable def tb_X21_free_0 : List (Nat × ce_N) := [(0, ce_li (ce_aload 0 1)),
  (1, ce_li (ce_getf 20 1 4)),
  (4, ce_li (ce_iload 1 5)),
  (5, ce_call 2 0 0 8 (.inr true) (ce_CV 3 F_Jx4a65c_get_915e3)),
  (8, ce_li (ce_castO 19 11)),
  (11, ce_li (ce_astore 4 13 13)),
  (13, ce_li (ce_push (.inl (.inl (0))) 14)),
  (14, ce_li (ce_istore 5 16 13)),
  (16, ce_li (ce_push (.inl (.inl (0))) 17)),
  (17, ce_li (ce_istore 6 19 13)),
  (19, ce_li (ce_push (.inl (.inl (0))) 20)),
  (20, ce_li (ce_istore 7 22 13)),
  (22, ce_li (ce_push (.inl (.inl (0))) 23)),
  (23, ce_li (ce_istore 8 25 13))]
theorem tk_X21_free_0 : ∀ x ∈ tb_X21_free_0, P_X21_free x.1 x.2 :=
  ce_fc (P := P_X21_free) (ok_li (ok_aload_n dX21_free_0 rfl)) (
  ce_fc (P := P_X21_free) (ok_li (ok_getf (ci := 20) (k := 1) (C := RX21) (T := TX21) (N := 20) dX21_free_1 rfl ce_uX21 (by decide) gw_1522 (fun _ _ _ _ h => h))) (
  ce_fc (P := P_X21_free) (ok_li (ok_iload_n dX21_free_4 rfl)) (
  ce_fc (P := P_X21_free) (ok_call (ru_V (ci := 3) (C := RJx4a65c) (Tf := TJx4a65c) (N := 3) m_Jx4a65c_get_915e3 (by decide) (by decide) rfl gw_1857 gw_1854 gw_1855 gw_1856 gw_16 ⟨rfl, hp_Jx4a65c_get_915e3⟩ dX21_free_5) ca_t) (
  ce_fc (P := P_X21_free) (ok_li (ok_castO (ci := 19) (T := TX20) (N := 5) rfl dX21_free_8 gw_1685)) (
  ce_fc (P := P_X21_free) (ok_li (ok_astore dX21_free_11)) (
  ce_fc (P := P_X21_free) (ok_li (ok_iconst dX21_free_13)) (
  ce_fc (P := P_X21_free) (ok_li (ok_istore dX21_free_14)) (
  ce_fc (P := P_X21_free) (ok_li (ok_iconst dX21_free_16)) (
  ce_fc (P := P_X21_free) (ok_li (ok_istore dX21_free_17)) (
  ce_fc (P := P_X21_free) (ok_li (ok_iconst dX21_free_19)) (
  ce_fc (P := P_X21_free) (ok_li (ok_istore dX21_free_20)) (
  ce_fc (P := P_X21_free) (ok_li (ok_iconst dX21_free_22)) (
  ce_fc (P := P_X21_free) (ok_li (ok_istore dX21_free_23)) (
  ce_fn (P := P_X21_free)))))))))))))))
noncomputable def tb_X21_free_1 : List (Nat × ce_N) := [(25, ce_li (ce_iload 8 27)),
  (27, ce_li (ce_aload 4 29)),
  (29, ce_li (ce_getf 19 2 32)),
  (32, ce_li (ce_icmp false false true 201 35)),
  (35, ce_li (ce_push (.inl (.inl (1))) 36)),
  (36, ce_li (ce_istore 9 38 13)),
  (38, ce_li (ce_aload 0 39)),
  (39, ce_li (ce_getf 20 5 42)),
  (45, ce_li (ce_astore 10 47 13)),
  (47, ce_li (ce_aload 10 49)),
  (49, ce_call 1 0 0 54 (.inr true) (ce_CV 2 F_Jx35411_hasNext_aae02)),
  (54, ce_li (ce_if true false false 156 57)),
  (156, ce_li (ce_iload 9 158)),
  (158, ce_li (ce_if true false false 168 161))]
theorem tk_X21_free_1 : ∀ x ∈ tb_X21_free_1, P_X21_free x.1 x.2 :=
  ce_fc (P := P_X21_free) (ok_li (ok_iload dX21_free_25)) (
  ce_fc (P := P_X21_free) (ok_li (ok_aload dX21_free_27)) (
  ce_fc (P := P_X21_free) (ok_li (ok_getfN (ci := 19) (k := 2) (C := RX20) (T := TX20) (N := 5) dX21_free_29 rfl ce_uX20 (by decide) gn_27 (fun _ _ _ _ h => h))) (
  ce_fc (P := P_X21_free) (ok_li (ok_icmp_ge dX21_free_32 (by decide))) (
  ce_fc (P := P_X21_free) (ok_li (ok_iconst dX21_free_35)) (
  ce_fc (P := P_X21_free) (ok_li (ok_istore dX21_free_36)) (
  ce_fc (P := P_X21_free) (ok_li (ok_aload_n dX21_free_38 rfl)) (
  ce_fc (P := P_X21_free) (ok_li (ok_getf (ci := 20) (k := 5) (C := RX21) (T := TX21) (N := 20) dX21_free_39 rfl ce_uX21 (by decide) gw_1526 (fun _ _ _ _ h => h))) (
  ce_fc (P := P_X21_free) (ok_li (ok_astore dX21_free_45)) (
  ce_fc (P := P_X21_free) (ok_li (ok_aload dX21_free_47)) (
  ce_fc (P := P_X21_free) (ok_call (ru_F (ci := 2) (Tf := TJx35411) (N := 4) m_Jx35411_hasNext_aae02 (by decide) (by decide) rfl gw_1829 gw_1821 gw_1825 gw_1827 gw_34 hp_Jx35411_hasNext_aae02.2.2 dX21_free_49) ca_t) (
  ce_fc (P := P_X21_free) (ok_li (ok_if_eq dX21_free_54 (by decide))) (
  ce_fc (P := P_X21_free) (ok_li (ok_iload dX21_free_156)) (
  ce_fc (P := P_X21_free) (ok_li (ok_if_eq dX21_free_158 (by decide))) (
  ce_fn (P := P_X21_free)))))))))))))))
noncomputable def tb_X21_free_2 : List (Nat × ce_N) := [(161, ce_li (ce_iload 7 163)),
  (163, ce_li (ce_push (.inl (.inl (1))) 164)),
  (164, ce_li (ce_bin ce_addo 165)),
  (165, ce_li (ce_goto 169)),
  (169, ce_li (ce_istore 7 171 13)),
  (171, ce_li (ce_iload 5 173)),
  (173, ce_li (ce_iload 9 175)),
  (175, ce_li (ce_if true false false 182 178)),
  (178, ce_li (ce_push (.inl (.inl (1))) 179)),
  (179, ce_li (ce_goto 183)),
  (183, ce_li (ce_bin ce_addo 184)),
  (184, ce_li (ce_istore 5 186 13)),
  (186, ce_li (ce_iload 6 188)),
  (188, ce_li (ce_iload 7 190))]
theorem tk_X21_free_2 : ∀ x ∈ tb_X21_free_2, P_X21_free x.1 x.2 :=
  ce_fc (P := P_X21_free) (ok_li (ok_iload dX21_free_161)) (
  ce_fc (P := P_X21_free) (ok_li (ok_iconst dX21_free_163)) (
  ce_fc (P := P_X21_free) (ok_li (ok_iadd dX21_free_164)) (
  ce_fc (P := P_X21_free) (ok_li (ok_goto dX21_free_165 (by decide))) (
  ce_fc (P := P_X21_free) (ok_li (ok_istore dX21_free_169)) (
  ce_fc (P := P_X21_free) (ok_li (ok_iload dX21_free_171)) (
  ce_fc (P := P_X21_free) (ok_li (ok_iload dX21_free_173)) (
  ce_fc (P := P_X21_free) (ok_li (ok_if_eq dX21_free_175 (by decide))) (
  ce_fc (P := P_X21_free) (ok_li (ok_iconst dX21_free_178)) (
  ce_fc (P := P_X21_free) (ok_li (ok_goto dX21_free_179 (by decide))) (
  ce_fc (P := P_X21_free) (ok_li (ok_iadd dX21_free_183)) (
  ce_fc (P := P_X21_free) (ok_li (ok_istore dX21_free_184)) (
  ce_fc (P := P_X21_free) (ok_li (ok_iload dX21_free_186)) (
  ce_fc (P := P_X21_free) (ok_li (ok_iload dX21_free_188)) (
  ce_fn (P := P_X21_free)))))))))))))))
noncomputable def tb_X21_free_3 : List (Nat × ce_N) := [(190, ce_li (ce_mmx 193)),
  (193, ce_li (ce_istore 6 195 13)),
  (195, ce_li (ce_iinc 8 (1) 198 13)),
  (198, ce_li (ce_goto 25)),
  (201, ce_li (ce_iload 3 202)),
  (202, ce_li (ce_if true false false 210 205)),
  (210, ce_li (ce_iload 5 212)),
  (212, ce_reti .int)]
theorem tk_X21_free_3 : ∀ x ∈ tb_X21_free_3, P_X21_free x.1 x.2 :=
  ce_fc (P := P_X21_free) (ok_li (ok_mmx dX21_free_190 gw_1868 gw_593 gw_25 gw_594)) (
  ce_fc (P := P_X21_free) (ok_li (ok_istore dX21_free_193)) (
  ce_fc (P := P_X21_free) (ok_li (ok_iinc dX21_free_195)) (
  ce_fc (P := P_X21_free) (ok_li (ok_goto dX21_free_198 (by decide))) (
  ce_fc (P := P_X21_free) (ok_li (ok_iload_n dX21_free_201 rfl)) (
  ce_fc (P := P_X21_free) (ok_li (ok_if_eq dX21_free_202 (by decide))) (
  ce_fc (P := P_X21_free) (ok_li (ok_iload dX21_free_210)) (
  ce_fc (P := P_X21_free) (ok_reti dX21_free_212 rfl) (
  ce_fn (P := P_X21_free)))))))))
noncomputable def ta_X21_free : Nat → Option ce_N := (ce_tr 161 (ce_tr 25 (ce_fd tb_X21_free_0) (ce_fd tb_X21_free_1)) (ce_tr 190 (ce_fd tb_X21_free_2) (ce_fd tb_X21_free_3)))
theorem tx_X21_free : ∀ pc f, ta_X21_free pc = some f → P_X21_free pc f := (ce_tr_ok (P := P_X21_free) (ce_tr_ok (P := P_X21_free) (ce_fd_ok (P := P_X21_free) tk_X21_free_0) (ce_fd_ok (P := P_X21_free) tk_X21_free_1)) (ce_tr_ok (P := P_X21_free) (ce_fd_ok (P := P_X21_free) tk_X21_free_2) (ce_fd_ok (P := P_X21_free) tk_X21_free_3)))
noncomputable def F_X21_free : ce_C := ce_M ta_X21_free 13 9999 39996 1000000
theorem m_X21_free : ∀ l : Launch, l.stackTraces = false → ce_MS l yX21_free (.code yX21_free cX21_free 13 (some .int)) 3 9999 39996 F_X21_free := fun l hl => ce_met hl (by decide +kernel) tx_X21_free
theorem hp_X21_free : yX21_free.cls ≠ "java/lang/invoke/MethodHandle" ∧ yX21_free.cls ≠ "java/lang/invoke/VarHandle" ∧ (parseMethodDescriptor yX21_free.desc).map (fun d => d.parameters.length) = some 3 := by decide +kernel
abbrev P_X21_init : Nat → ce_N → Prop := ce_OKN "CarcasswrightModel" "<init>" cX21_init 1 none 3 (some [])
noncomputable def tb_X21_init_0 : List (Nat × ce_N) := [(0, ce_li (ce_aload 0 1)),
  (1, ce_li (ce_oi 4)),
  (4, ce_li (ce_aload 0 5)),
  (5, ce_li (ce_new 3 3 dl_Jx4a65c 8)),
  (8, ce_li (ce_dup 9)),
  (9, ce_call 1 0 0 12 (.inr true) (ce_CI F_Jx4a65c_init_da8c8)),
  (12, ce_li (ce_putf (tyX21 1) 20 1 15)),
  (15, ce_li (ce_aload 0 16)),
  (16, ce_li (ce_new 3 3 dl_Jx4a65c 19)),
  (19, ce_li (ce_dup 20)),
  (20, ce_call 1 0 0 23 (.inr true) (ce_CI F_Jx4a65c_init_da8c8)),
  (23, ce_li (ce_putf (tyX21 2) 20 2 26)),
  (26, ce_li (ce_aload 0 27)),
  (27, ce_li (ce_push (.inr (.inr (.inl (.inr 2)))) 29))]
theorem tk_X21_init_0 : ∀ x ∈ tb_X21_init_0, P_X21_init x.1 x.2 :=
  ce_fc (P := P_X21_init) (ok_li (ok_aload_n dX21_init_0 rfl)) (
  ce_fc (P := P_X21_init) (ok_li (ok_oi dX21_init_1 gw_1490 gw_57 gw_58)) (
  ce_fc (P := P_X21_init) (ok_li (ok_aload_n dX21_init_4 rfl)) (
  ce_fc (P := P_X21_init) (ok_li (ok_new (ci := 3) (C := RJx4a65c) (T := TJx4a65c) (N := 3) (ty0 := tyJx4a65c) dX21_init_5 rfl ce_uJx4a65c tyJx4a65c_ok gw_1491 gw_1492 gw_16 dv_Jx4a65c rfl)) (
  ce_fc (P := P_X21_init) (ok_li (ok_dup dX21_init_8)) (
  ce_fc (P := P_X21_init) (ok_call (ru_I m_Jx4a65c_init_da8c8 (by decide) (by decide) gw_1495 gw_1493 gw_1494 gw_16 rfl hp_Jx4a65c_init_da8c8 dX21_init_9) ca_t) (
  ce_fc (P := P_X21_init) (ok_li (ok_putf (ci := 20) (k := 1) (C := RX21) (T := TX21) (N := 20) (ty0 := tyX21) dX21_init_12 rfl ce_uX21 (by decide) gw_1522 (fun _ _ _ _ h => h) tyX21_ok nmX21 (Or.inr ⟨rfl, rfl, rfl⟩))) (
  ce_fc (P := P_X21_init) (ok_li (ok_aload_n dX21_init_15 rfl)) (
  ce_fc (P := P_X21_init) (ok_li (ok_new (ci := 3) (C := RJx4a65c) (T := TJx4a65c) (N := 3) (ty0 := tyJx4a65c) dX21_init_16 rfl ce_uJx4a65c tyJx4a65c_ok gw_1491 gw_1492 gw_16 dv_Jx4a65c rfl)) (
  ce_fc (P := P_X21_init) (ok_li (ok_dup dX21_init_19)) (
  ce_fc (P := P_X21_init) (ok_call (ru_I m_Jx4a65c_init_da8c8 (by decide) (by decide) gw_1495 gw_1493 gw_1494 gw_16 rfl hp_Jx4a65c_init_da8c8 dX21_init_20) ca_t) (
  ce_fc (P := P_X21_init) (ok_li (ok_putf (ci := 20) (k := 2) (C := RX21) (T := TX21) (N := 20) (ty0 := tyX21) dX21_init_23 rfl ce_uX21 (by decide) gw_1523 (fun _ _ _ _ h => h) tyX21_ok nmX21 (Or.inr ⟨rfl, rfl, rfl⟩))) (
  ce_fc (P := P_X21_init) (ok_li (ok_aload_n dX21_init_26 rfl)) (
  ce_fc (P := P_X21_init) (ok_li (ok_ldcS ce_s2 dX21_init_27)) (
  ce_fn (P := P_X21_init)))))))))))))))
noncomputable def tb_X21_init_1 : List (Nat × ce_N) := [(29, ce_li (ce_putf (tyX21 3) 20 3 32)),
  (32, ce_li (ce_aload 0 33)),
  (33, ce_li (ce_new 3 3 dl_Jx4a65c 36)),
  (36, ce_li (ce_dup 37)),
  (37, ce_call 1 0 0 40 (.inr true) (ce_CI F_Jx4a65c_init_da8c8)),
  (40, ce_li (ce_putf (tyX21 4) 20 4 43)),
  (43, ce_li (ce_aload 0 44)),
  (44, ce_li (ce_new 3 3 dl_Jx4a65c 47)),
  (47, ce_li (ce_dup 48)),
  (48, ce_call 1 0 0 51 (.inr true) (ce_CI F_Jx4a65c_init_da8c8)),
  (51, ce_li (ce_putf (tyX21 5) 20 5 54)),
  (54, ce_li (ce_aload 0 55)),
  (55, ce_li (ce_new 3 3 dl_Jx4a65c 58)),
  (58, ce_li (ce_dup 59))]
theorem tk_X21_init_1 : ∀ x ∈ tb_X21_init_1, P_X21_init x.1 x.2 :=
  ce_fc (P := P_X21_init) (ok_li (ok_putf (ci := 20) (k := 3) (C := RX21) (T := TX21) (N := 20) (ty0 := tyX21) dX21_init_29 rfl ce_uX21 (by decide) gw_1524 (fun _ _ _ _ h => h) tyX21_ok nmX21 (Or.inl rfl))) (
  ce_fc (P := P_X21_init) (ok_li (ok_aload_n dX21_init_32 rfl)) (
  ce_fc (P := P_X21_init) (ok_li (ok_new (ci := 3) (C := RJx4a65c) (T := TJx4a65c) (N := 3) (ty0 := tyJx4a65c) dX21_init_33 rfl ce_uJx4a65c tyJx4a65c_ok gw_1491 gw_1492 gw_16 dv_Jx4a65c rfl)) (
  ce_fc (P := P_X21_init) (ok_li (ok_dup dX21_init_36)) (
  ce_fc (P := P_X21_init) (ok_call (ru_I m_Jx4a65c_init_da8c8 (by decide) (by decide) gw_1495 gw_1493 gw_1494 gw_16 rfl hp_Jx4a65c_init_da8c8 dX21_init_37) ca_t) (
  ce_fc (P := P_X21_init) (ok_li (ok_putf (ci := 20) (k := 4) (C := RX21) (T := TX21) (N := 20) (ty0 := tyX21) dX21_init_40 rfl ce_uX21 (by decide) gw_1525 (fun _ _ _ _ h => h) tyX21_ok nmX21 (Or.inr ⟨rfl, rfl, rfl⟩))) (
  ce_fc (P := P_X21_init) (ok_li (ok_aload_n dX21_init_43 rfl)) (
  ce_fc (P := P_X21_init) (ok_li (ok_new (ci := 3) (C := RJx4a65c) (T := TJx4a65c) (N := 3) (ty0 := tyJx4a65c) dX21_init_44 rfl ce_uJx4a65c tyJx4a65c_ok gw_1491 gw_1492 gw_16 dv_Jx4a65c rfl)) (
  ce_fc (P := P_X21_init) (ok_li (ok_dup dX21_init_47)) (
  ce_fc (P := P_X21_init) (ok_call (ru_I m_Jx4a65c_init_da8c8 (by decide) (by decide) gw_1495 gw_1493 gw_1494 gw_16 rfl hp_Jx4a65c_init_da8c8 dX21_init_48) ca_t) (
  ce_fc (P := P_X21_init) (ok_li (ok_putf (ci := 20) (k := 5) (C := RX21) (T := TX21) (N := 20) (ty0 := tyX21) dX21_init_51 rfl ce_uX21 (by decide) gw_1526 (fun _ _ _ _ h => h) tyX21_ok nmX21 (Or.inr ⟨rfl, rfl, rfl⟩))) (
  ce_fc (P := P_X21_init) (ok_li (ok_aload_n dX21_init_54 rfl)) (
  ce_fc (P := P_X21_init) (ok_li (ok_new (ci := 3) (C := RJx4a65c) (T := TJx4a65c) (N := 3) (ty0 := tyJx4a65c) dX21_init_55 rfl ce_uJx4a65c tyJx4a65c_ok gw_1491 gw_1492 gw_16 dv_Jx4a65c rfl)) (
  ce_fc (P := P_X21_init) (ok_li (ok_dup dX21_init_58)) (
  ce_fn (P := P_X21_init)))))))))))))))
noncomputable def tb_X21_init_2 : List (Nat × ce_N) := [(59, ce_call 1 0 0 62 (.inr true) (ce_CI F_Jx4a65c_init_da8c8)),
  (62, ce_li (ce_putf (tyX21 6) 20 6 65)),
  (65, ce_li (ce_aload 0 66)),
  (66, ce_li (ce_new 3 3 dl_Jx4a65c 69)),
  (69, ce_li (ce_dup 70)),
  (70, ce_call 1 0 0 73 (.inr true) (ce_CI F_Jx4a65c_init_da8c8)),
  (73, ce_li (ce_putf (tyX21 7) 20 7 76)),
  (76, ce_li (ce_aload 0 77)),
  (77, ce_li (ce_push (.inl (.inl (3))) 78)),
  (78, ce_li (ce_newa 0 2 80)),
  (80, ce_li (ce_dup 81)),
  (81, ce_li (ce_push (.inl (.inl (0))) 82)),
  (82, ce_li (ce_push (.inl (.inl (2))) 83)),
  (83, ce_li (ce_iast 0 84 83))]
theorem tk_X21_init_2 : ∀ x ∈ tb_X21_init_2, P_X21_init x.1 x.2 :=
  ce_fc (P := P_X21_init) (ok_call (ru_I m_Jx4a65c_init_da8c8 (by decide) (by decide) gw_1495 gw_1493 gw_1494 gw_16 rfl hp_Jx4a65c_init_da8c8 dX21_init_59) ca_t) (
  ce_fc (P := P_X21_init) (ok_li (ok_putf (ci := 20) (k := 6) (C := RX21) (T := TX21) (N := 20) (ty0 := tyX21) dX21_init_62 rfl ce_uX21 (by decide) gw_1527 (fun _ _ _ _ h => h) tyX21_ok nmX21 (Or.inl rfl))) (
  ce_fc (P := P_X21_init) (ok_li (ok_aload_n dX21_init_65 rfl)) (
  ce_fc (P := P_X21_init) (ok_li (ok_new (ci := 3) (C := RJx4a65c) (T := TJx4a65c) (N := 3) (ty0 := tyJx4a65c) dX21_init_66 rfl ce_uJx4a65c tyJx4a65c_ok gw_1491 gw_1492 gw_16 dv_Jx4a65c rfl)) (
  ce_fc (P := P_X21_init) (ok_li (ok_dup dX21_init_69)) (
  ce_fc (P := P_X21_init) (ok_call (ru_I m_Jx4a65c_init_da8c8 (by decide) (by decide) gw_1495 gw_1493 gw_1494 gw_16 rfl hp_Jx4a65c_init_da8c8 dX21_init_70) ca_t) (
  ce_fc (P := P_X21_init) (ok_li (ok_putf (ci := 20) (k := 7) (C := RX21) (T := TX21) (N := 20) (ty0 := tyX21) dX21_init_73 rfl ce_uX21 (by decide) gw_1528 (fun _ _ _ _ h => h) tyX21_ok nmX21 (Or.inr ⟨rfl, rfl, rfl⟩))) (
  ce_fc (P := P_X21_init) (ok_li (ok_aload_n dX21_init_76 rfl)) (
  ce_fc (P := P_X21_init) (ok_li (ok_iconst dX21_init_77)) (
  ce_fc (P := P_X21_init) (ok_li (ok_newa_int dX21_init_78 gw_193)) (
  ce_fc (P := P_X21_init) (ok_li (ok_dup dX21_init_80)) (
  ce_fc (P := P_X21_init) (ok_li (ok_iconst dX21_init_81)) (
  ce_fc (P := P_X21_init) (ok_li (ok_iconst dX21_init_82)) (
  ce_fc (P := P_X21_init) (ok_li (ok_iastore dX21_init_83)) (
  ce_fn (P := P_X21_init)))))))))))))))
noncomputable def tb_X21_init_3 : List (Nat × ce_N) := [(84, ce_li (ce_dup 85)),
  (85, ce_li (ce_push (.inl (.inl (1))) 86)),
  (86, ce_li (ce_push (.inl (.inl (5))) 87)),
  (87, ce_li (ce_iast 0 88 87)),
  (88, ce_li (ce_dup 89)),
  (89, ce_li (ce_push (.inl (.inl (2))) 90)),
  (90, ce_li (ce_push (.inl (.inl (9))) 92)),
  (92, ce_li (ce_iast 0 93 92)),
  (93, ce_li (ce_putf (tyX21 8) 20 8 96)),
  (96, ce_li (ce_aload 0 97)),
  (97, ce_li (ce_push (.inl (.inl (2))) 98)),
  (98, ce_li (ce_putf (tyX21 9) 20 9 101)),
  (101, ce_li (ce_aload 0 102)),
  (102, ce_li (ce_push (.inr (.inr (.inl (.inr 2)))) 104))]
theorem tk_X21_init_3 : ∀ x ∈ tb_X21_init_3, P_X21_init x.1 x.2 :=
  ce_fc (P := P_X21_init) (ok_li (ok_dup dX21_init_84)) (
  ce_fc (P := P_X21_init) (ok_li (ok_iconst dX21_init_85)) (
  ce_fc (P := P_X21_init) (ok_li (ok_iconst dX21_init_86)) (
  ce_fc (P := P_X21_init) (ok_li (ok_iastore dX21_init_87)) (
  ce_fc (P := P_X21_init) (ok_li (ok_dup dX21_init_88)) (
  ce_fc (P := P_X21_init) (ok_li (ok_iconst dX21_init_89)) (
  ce_fc (P := P_X21_init) (ok_li (ok_bipush dX21_init_90 (by decide))) (
  ce_fc (P := P_X21_init) (ok_li (ok_iastore dX21_init_92)) (
  ce_fc (P := P_X21_init) (ok_li (ok_putf (ci := 20) (k := 8) (C := RX21) (T := TX21) (N := 20) (ty0 := tyX21) dX21_init_93 rfl ce_uX21 (by decide) gw_1529 (fun _ _ _ _ h => h) tyX21_ok nmX21 (Or.inr ⟨rfl, rfl, rfl⟩))) (
  ce_fc (P := P_X21_init) (ok_li (ok_aload_n dX21_init_96 rfl)) (
  ce_fc (P := P_X21_init) (ok_li (ok_iconst dX21_init_97)) (
  ce_fc (P := P_X21_init) (ok_li (ok_putf (ci := 20) (k := 9) (C := RX21) (T := TX21) (N := 20) (ty0 := tyX21) dX21_init_98 rfl ce_uX21 (by decide) gw_1530 (fun _ _ _ _ h => h) tyX21_ok nmX21 (Or.inl rfl))) (
  ce_fc (P := P_X21_init) (ok_li (ok_aload_n dX21_init_101 rfl)) (
  ce_fc (P := P_X21_init) (ok_li (ok_ldcS ce_s2 dX21_init_102)) (
  ce_fn (P := P_X21_init)))))))))))))))
noncomputable def tb_X21_init_4 : List (Nat × ce_N) := [(104, ce_li (ce_putf (tyX21 13) 20 13 107)),
  (107, ce_li (ce_aload 0 108)),
  (108, ce_li (ce_push (.inl (.inl (2))) 109)),
  (109, ce_li (ce_newa 0 2 111)),
  (111, ce_li (ce_putf (tyX21 14) 20 14 114)),
  (114, ce_li (ce_aload 0 115)),
  (115, ce_li (ce_push (.inl (.inl (0))) 116)),
  (116, ce_li (ce_newa 0 2 118)),
  (118, ce_li (ce_putf (tyX21 19) 20 19 121)),
  (121, ce_ret0)]
theorem tk_X21_init_4 : ∀ x ∈ tb_X21_init_4, P_X21_init x.1 x.2 :=
  ce_fc (P := P_X21_init) (ok_li (ok_putf (ci := 20) (k := 13) (C := RX21) (T := TX21) (N := 20) (ty0 := tyX21) dX21_init_104 rfl ce_uX21 (by decide) gw_1534 (fun _ _ _ _ h => h) tyX21_ok nmX21 (Or.inl rfl))) (
  ce_fc (P := P_X21_init) (ok_li (ok_aload_n dX21_init_107 rfl)) (
  ce_fc (P := P_X21_init) (ok_li (ok_iconst dX21_init_108)) (
  ce_fc (P := P_X21_init) (ok_li (ok_newa_int dX21_init_109 gw_193)) (
  ce_fc (P := P_X21_init) (ok_li (ok_putf (ci := 20) (k := 14) (C := RX21) (T := TX21) (N := 20) (ty0 := tyX21) dX21_init_111 rfl ce_uX21 (by decide) gw_1535 (fun _ _ _ _ h => h) tyX21_ok nmX21 (Or.inl rfl))) (
  ce_fc (P := P_X21_init) (ok_li (ok_aload_n dX21_init_114 rfl)) (
  ce_fc (P := P_X21_init) (ok_li (ok_iconst dX21_init_115)) (
  ce_fc (P := P_X21_init) (ok_li (ok_newa_int dX21_init_116 gw_193)) (
  ce_fc (P := P_X21_init) (ok_li (ok_putf (ci := 20) (k := 19) (C := RX21) (T := TX21) (N := 20) (ty0 := tyX21) dX21_init_118 rfl ce_uX21 (by decide) gw_1540 (fun _ _ _ _ h => h) tyX21_ok nmX21 (Or.inl rfl))) (
  ce_fc (P := P_X21_init) (ok_ret0 dX21_init_121 rfl) (
  ce_fn (P := P_X21_init)))))))))))
noncomputable def ta_X21_init : Nat → Option ce_N := (ce_tr 59 (ce_tr 29 (ce_fd tb_X21_init_0) (ce_fd tb_X21_init_1)) (ce_tr 84 (ce_fd tb_X21_init_2) (ce_tr 104 (ce_fd tb_X21_init_3) (ce_fd tb_X21_init_4))))
theorem tx_X21_init : ∀ pc f, ta_X21_init pc = some f → P_X21_init pc f := (ce_tr_ok (P := P_X21_init) (ce_tr_ok (P := P_X21_init) (ce_fd_ok (P := P_X21_init) tk_X21_init_0) (ce_fd_ok (P := P_X21_init) tk_X21_init_1)) (ce_tr_ok (P := P_X21_init) (ce_fd_ok (P := P_X21_init) tk_X21_init_2) (ce_tr_ok (P := P_X21_init) (ce_fd_ok (P := P_X21_init) tk_X21_init_3) (ce_fd_ok (P := P_X21_init) tk_X21_init_4))))
noncomputable def F_X21_init : ce_C := ce_M ta_X21_init 1 9 23 1000000
theorem m_X21_init : ∀ l : Launch, l.stackTraces = false → ce_MS l yX21_init (.code yX21_init cX21_init 1 none) 3 9 23 F_X21_init := fun l hl => ce_met hl (by decide +kernel) tx_X21_init
theorem hp_X21_init : yX21_init.cls ≠ "java/lang/invoke/MethodHandle" ∧ yX21_init.cls ≠ "java/lang/invoke/VarHandle" ∧ (parseMethodDescriptor yX21_init.desc).map (fun d => d.parameters.length) = some 0 := by decide +kernel
abbrev P_X21_addWall : Nat → ce_N → Prop := ce_OKN "CarcasswrightModel" "addWall" cX21_addWall 3 (some .int) 4 (some [])
noncomputable def tb_X21_addWall_0 : List (Nat × ce_N) := [(0, ce_li (ce_aload 0 1)),
  (1, ce_li (ce_push (.inr (.inr (.inl (.inr 4)))) 3)),
  (3, ce_li (ce_iload 1 4)),
  (4, ce_call 2 0 0 7 (.inr true) (ce_CV 0 F_J0_indexOf_0f7a4)),
  (7, ce_li (ce_if false false false 23 10)),
  (10, ce_li (ce_iload 2 11)),
  (11, ce_li (ce_push (.inl (.inl (500))) 14)),
  (14, ce_li (ce_push (.inl (.inl (9999))) 17)),
  (17, ce_call 3 0 0 20 (.inr true) F_X21_in),
  (20, ce_li (ce_if true false true 27 23)),
  (27, ce_li (ce_aload 0 28)),
  (28, ce_li (ce_getf 20 1 31)),
  (31, ce_call 1 0 0 34 (.inr true) (ce_CV 3 F_Jx4a65c_size_8abf5)),
  (34, ce_li (ce_push (.inl (.inl (6))) 36))]
theorem tk_X21_addWall_0 : ∀ x ∈ tb_X21_addWall_0, P_X21_addWall x.1 x.2 :=
  ce_fc (P := P_X21_addWall) (ok_li (ok_aload_n dX21_addWall_0 rfl)) (
  ce_fc (P := P_X21_addWall) (ok_li (ok_ldcS ce_s4 dX21_addWall_1)) (
  ce_fc (P := P_X21_addWall) (ok_li (ok_iload_n dX21_addWall_3 rfl)) (
  ce_fc (P := P_X21_addWall) (ok_call (ru_V (ci := 0) (C := RJ0) (Tf := TJ0) (N := 4) m_J0_indexOf_0f7a4 (by decide) (by decide) rfl gw_1595 gw_1592 gw_1593 gw_1594 gw_23 ⟨rfl, hp_J0_indexOf_0f7a4⟩ dX21_addWall_4) ca_t) (
  ce_fc (P := P_X21_addWall) (ok_li (ok_if_lt dX21_addWall_7 (by decide))) (
  ce_fc (P := P_X21_addWall) (ok_li (ok_iload_n dX21_addWall_10 rfl)) (
  ce_fc (P := P_X21_addWall) (ok_li (ok_sipush dX21_addWall_11 (by decide))) (
  ce_fc (P := P_X21_addWall) (ok_li (ok_sipush dX21_addWall_14 (by decide))) (
  ce_fc (P := P_X21_addWall) (ok_call (ru_S m_X21_in (by decide) (by decide) gw_1676 gw_1674 gw_1675 gw_13 hp_X21_in dX21_addWall_17) ca_t) (
  ce_fc (P := P_X21_addWall) (ok_li (ok_if_ne dX21_addWall_20 (by decide))) (
  ce_fc (P := P_X21_addWall) (ok_li (ok_aload_n dX21_addWall_27 rfl)) (
  ce_fc (P := P_X21_addWall) (ok_li (ok_getf (ci := 20) (k := 1) (C := RX21) (T := TX21) (N := 20) dX21_addWall_28 rfl ce_uX21 (by decide) gw_1522 (fun _ _ _ _ h => h))) (
  ce_fc (P := P_X21_addWall) (ok_call (ru_V (ci := 3) (C := RJx4a65c) (Tf := TJx4a65c) (N := 3) m_Jx4a65c_size_8abf5 (by decide) (by decide) rfl gw_1680 gw_1677 gw_1678 gw_1679 gw_16 ⟨rfl, hp_Jx4a65c_size_8abf5⟩ dX21_addWall_31) ca_t) (
  ce_fc (P := P_X21_addWall) (ok_li (ok_bipush dX21_addWall_34 (by decide))) (
  ce_fn (P := P_X21_addWall)))))))))))))))
noncomputable def tb_X21_addWall_1 : List (Nat × ce_N) := [(36, ce_li (ce_icmp true false false 49 39)),
  (39, ce_li (ce_aload 0 40)),
  (40, ce_li (ce_getf 20 5 43)),
  (43, ce_call 1 0 0 46 (.inr true) (ce_CV 3 F_Jx4a65c_isEmpty_aae02)),
  (46, ce_li (ce_if true false true 53 49)),
  (53, ce_li (ce_push (.inl (.inl (0))) 54)),
  (54, ce_li (ce_putf (tyX21 0) 20 0 57)),
  (57, ce_li (ce_aload 0 58)),
  (58, ce_li (ce_getf 20 0 61)),
  (61, ce_li (ce_if false true true 66 64)),
  (66, ce_li (ce_aload 0 67)),
  (67, ce_li (ce_getf 20 1 70)),
  (70, ce_li (ce_new 19 5 dl_X20 73)),
  (73, ce_li (ce_dup 74))]
theorem tk_X21_addWall_1 : ∀ x ∈ tb_X21_addWall_1, P_X21_addWall x.1 x.2 :=
  ce_fc (P := P_X21_addWall) (ok_li (ok_icmp_eq dX21_addWall_36 (by decide))) (
  ce_fc (P := P_X21_addWall) (ok_li (ok_aload_n dX21_addWall_39 rfl)) (
  ce_fc (P := P_X21_addWall) (ok_li (ok_getf (ci := 20) (k := 5) (C := RX21) (T := TX21) (N := 20) dX21_addWall_40 rfl ce_uX21 (by decide) gw_1526 (fun _ _ _ _ h => h))) (
  ce_fc (P := P_X21_addWall) (ok_call (ru_V (ci := 3) (C := RJx4a65c) (Tf := TJx4a65c) (N := 3) m_Jx4a65c_isEmpty_aae02 (by decide) (by decide) rfl gw_1684 gw_1681 gw_1682 gw_1683 gw_16 ⟨rfl, hp_Jx4a65c_isEmpty_aae02⟩ dX21_addWall_43) ca_t) (
  ce_fc (P := P_X21_addWall) (ok_li (ok_if_ne dX21_addWall_46 (by decide))) (
  ce_fc (P := P_X21_addWall) (ok_li (ok_iconst dX21_addWall_53)) (
  ce_fc (P := P_X21_addWall) (ok_li (ok_putf (ci := 20) (k := 0) (C := RX21) (T := TX21) (N := 20) (ty0 := tyX21) dX21_addWall_54 rfl ce_uX21 (by decide) gw_1521 (fun _ _ _ _ h => h) tyX21_ok nmX21 (Or.inl rfl))) (
  ce_fc (P := P_X21_addWall) (ok_li (ok_aload_n dX21_addWall_57 rfl)) (
  ce_fc (P := P_X21_addWall) (ok_li (ok_getf (ci := 20) (k := 0) (C := RX21) (T := TX21) (N := 20) dX21_addWall_58 rfl ce_uX21 (by decide) gw_1521 (fun _ _ _ _ h => h))) (
  ce_fc (P := P_X21_addWall) (ok_li (ok_if_le dX21_addWall_61 (by decide))) (
  ce_fc (P := P_X21_addWall) (ok_li (ok_aload_n dX21_addWall_66 rfl)) (
  ce_fc (P := P_X21_addWall) (ok_li (ok_getf (ci := 20) (k := 1) (C := RX21) (T := TX21) (N := 20) dX21_addWall_67 rfl ce_uX21 (by decide) gw_1522 (fun _ _ _ _ h => h))) (
  ce_fc (P := P_X21_addWall) (ok_li (ok_new (ci := 19) (C := RX20) (T := TX20) (N := 5) (ty0 := tyX20) dX21_addWall_70 rfl ce_uX20 tyX20_ok gw_1685 gw_1686 gw_29 dv_X20 rfl)) (
  ce_fc (P := P_X21_addWall) (ok_li (ok_dup dX21_addWall_73)) (
  ce_fn (P := P_X21_addWall)))))))))))))))
noncomputable def tb_X21_addWall_2 : List (Nat × ce_N) := [(74, ce_li (ce_iload 1 75)),
  (75, ce_li (ce_iload 2 76)),
  (76, ce_call 3 0 0 79 (.inr true) (ce_CI F_X20_init)),
  (79, ce_call 2 1 10 82 (.inr true) (ce_CV 3 F_Jx4a65c_add_9ea2d)),
  (82, ce_li (ce_pop 83)),
  (83, ce_li (ce_aload 0 84)),
  (84, ce_li (ce_getf 20 1 87)),
  (87, ce_call 1 0 0 90 (.inr true) (ce_CV 3 F_Jx4a65c_size_8abf5)),
  (90, ce_li (ce_push (.inl (.inl (1))) 91)),
  (91, ce_li (ce_bin ce_subo 92)),
  (92, ce_reti .int)]
theorem tk_X21_addWall_2 : ∀ x ∈ tb_X21_addWall_2, P_X21_addWall x.1 x.2 :=
  ce_fc (P := P_X21_addWall) (ok_li (ok_iload_n dX21_addWall_74 rfl)) (
  ce_fc (P := P_X21_addWall) (ok_li (ok_iload_n dX21_addWall_75 rfl)) (
  ce_fc (P := P_X21_addWall) (ok_call (ru_I m_X20_init (by decide) (by decide) gw_1689 gw_1687 gw_1688 gw_29 rfl hp_X20_init dX21_addWall_76) ca_t) (
  ce_fc (P := P_X21_addWall) (ok_call (ru_V (ci := 3) (C := RJx4a65c) (Tf := TJx4a65c) (N := 3) m_Jx4a65c_add_9ea2d (by decide) (by decide) rfl gw_1713 gw_1710 gw_1711 gw_1712 gw_16 ⟨rfl, hp_Jx4a65c_add_9ea2d⟩ dX21_addWall_79) ca_t) (
  ce_fc (P := P_X21_addWall) (ok_li (ok_pop dX21_addWall_82)) (
  ce_fc (P := P_X21_addWall) (ok_li (ok_aload_n dX21_addWall_83 rfl)) (
  ce_fc (P := P_X21_addWall) (ok_li (ok_getf (ci := 20) (k := 1) (C := RX21) (T := TX21) (N := 20) dX21_addWall_84 rfl ce_uX21 (by decide) gw_1522 (fun _ _ _ _ h => h))) (
  ce_fc (P := P_X21_addWall) (ok_call (ru_V (ci := 3) (C := RJx4a65c) (Tf := TJx4a65c) (N := 3) m_Jx4a65c_size_8abf5 (by decide) (by decide) rfl gw_1680 gw_1677 gw_1678 gw_1679 gw_16 ⟨rfl, hp_Jx4a65c_size_8abf5⟩ dX21_addWall_87) ca_t) (
  ce_fc (P := P_X21_addWall) (ok_li (ok_iconst dX21_addWall_90)) (
  ce_fc (P := P_X21_addWall) (ok_li (ok_isub dX21_addWall_91)) (
  ce_fc (P := P_X21_addWall) (ok_reti dX21_addWall_92 rfl) (
  ce_fn (P := P_X21_addWall))))))))))))
noncomputable def ta_X21_addWall : Nat → Option ce_N := (ce_tr 36 (ce_fd tb_X21_addWall_0) (ce_tr 74 (ce_fd tb_X21_addWall_1) (ce_fd tb_X21_addWall_2)))
theorem tx_X21_addWall : ∀ pc f, ta_X21_addWall pc = some f → P_X21_addWall pc f := (ce_tr_ok (P := P_X21_addWall) (ce_fd_ok (P := P_X21_addWall) tk_X21_addWall_0) (ce_tr_ok (P := P_X21_addWall) (ce_fd_ok (P := P_X21_addWall) tk_X21_addWall_1) (ce_fd_ok (P := P_X21_addWall) tk_X21_addWall_2)))
noncomputable def F_X21_addWall : ce_C := ce_M ta_X21_addWall 3 2 15 1000000
theorem m_X21_addWall : ∀ l : Launch, l.stackTraces = false → ce_MS l yX21_addWall (.code yX21_addWall cX21_addWall 3 (some .int)) 4 2 15 F_X21_addWall := fun l hl => ce_met hl (by decide +kernel) tx_X21_addWall
theorem hp_X21_addWall : yX21_addWall.cls ≠ "java/lang/invoke/MethodHandle" ∧ yX21_addWall.cls ≠ "java/lang/invoke/VarHandle" ∧ (parseMethodDescriptor yX21_addWall.desc).map (fun d => d.parameters.length) = some 2 := by decide +kernel
abbrev P_X21_free_ : Nat → ce_N → Prop := ce_OKN "CarcasswrightModel" "free" cX21_free_ 3 (some .int) 4 (some [])
noncomputable def tb_X21_free__0 : List (Nat × ce_N) := [(0, ce_li (ce_aload 0 1)),
  (1, ce_li (ce_iload 1 2)),
  (2, ce_call 2 0 0 5 (.inr true) (ce_CV 20 F_X21_noWall)),
  (5, ce_li (ce_if true false false 12 8)),
  (12, ce_li (ce_aload 0 13)),
  (13, ce_li (ce_iload 1 14)),
  (14, ce_li (ce_iload 2 15)),
  (15, ce_li (ce_push (.inl (.inl (0))) 16)),
  (19, ce_reti .int)]
theorem tk_X21_free__0 : ∀ x ∈ tb_X21_free__0, P_X21_free_ x.1 x.2 :=
  ce_fc (P := P_X21_free_) (ok_li (ok_aload_n dX21_free__0 rfl)) (
  ce_fc (P := P_X21_free_) (ok_li (ok_iload_n dX21_free__1 rfl)) (
  ce_fc (P := P_X21_free_) (ok_call (ru_V (ci := 20) (C := RX21) (Tf := TX21) (N := 20) m_X21_noWall (by decide) (by decide) rfl gw_1876 gw_1873 gw_1875 gp_11 gw_13 ⟨rfl, hp_X21_noWall⟩ dX21_free__2) ca_t) (
  ce_fc (P := P_X21_free_) (ok_li (ok_if_eq dX21_free__5 (by decide))) (
  ce_fc (P := P_X21_free_) (ok_li (ok_aload_n dX21_free__12 rfl)) (
  ce_fc (P := P_X21_free_) (ok_li (ok_iload_n dX21_free__13 rfl)) (
  ce_fc (P := P_X21_free_) (ok_li (ok_iload_n dX21_free__14 rfl)) (
  ce_fc (P := P_X21_free_) (ok_li (ok_iconst dX21_free__15)) (
  ce_fc (P := P_X21_free_) (ok_reti dX21_free__19 rfl) (
  ce_fn (P := P_X21_free_))))))))))
noncomputable def ta_X21_free_ : Nat → Option ce_N := (ce_fd tb_X21_free__0)
theorem tx_X21_free_ : ∀ pc f, ta_X21_free_ pc = some f → P_X21_free_ pc f := (ce_fd_ok (P := P_X21_free_) tk_X21_free__0)
noncomputable def F_X21_free_ : ce_C := ce_M ta_X21_free_ 3 9999 39996 1000000
theorem m_X21_free_ : ∀ l : Launch, l.stackTraces = false → ce_MS l yX21_free_ (.code yX21_free_ cX21_free_ 3 (some .int)) 4 9999 39996 F_X21_free_ := fun l hl => ce_met hl (by decide +kernel) tx_X21_free_
theorem hp_X21_free_ : yX21_free_.cls ≠ "java/lang/invoke/MethodHandle" ∧ yX21_free_.cls ≠ "java/lang/invoke/VarHandle" ∧ (parseMethodDescriptor yX21_free_.desc).map (fun d => d.parameters.length) = some 2 := by decide +kernel
abbrev P_L_law (nm : String) : Nat → ce_N → Prop := ce_OKN "CarcasswrightLaw" nm cL_law 9 (some .boolean) 5 none
noncomputable def tb_L_law_0 : List (Nat × ce_N) := [(0, ce_li (ce_new 15 7 dl_X11 3)),
  (3, ce_li (ce_dup 4)),
  (4, ce_call 1 180 1502 7 (.inr false) (ce_CI F_X11_init)),
  (7, ce_li (ce_astore 1 8 9)),
  (8, ce_li (ce_new 20 20 dl_X21 11)),
  (11, ce_li (ce_dup 12)),
  (12, ce_call 1 9 23 15 (.inr false) (ce_CI F_X21_init)),
  (15, ce_li (ce_astore 2 16 9)),
  (16, ce_li (ce_push (.inl (.inl (1))) 17)),
  (17, ce_li (ce_newa 4 2 19)),
  (19, ce_li (ce_astore 3 20 9)),
  (20, ce_li (ce_push (.inl (.inl (1))) 21)),
  (21, ce_li (ce_newa 5 2 23)),
  (23, ce_li (ce_astore 4 25 9))]
theorem tk_L_law_0 {nm : String} : ∀ x ∈ tb_L_law_0, P_L_law nm x.1 x.2 :=
  ce_fc (P := P_L_law nm) (ok_li (ok_new (ci := 15) (C := RX11) (T := TX11) (N := 7) (ty0 := tyX11) dL_law_0 rfl ce_uX11 tyX11_ok gw_51 gw_52 gw_1 dv_X11 rfl)) (
  ce_fc (P := P_L_law nm) (ok_li (ok_dup dL_law_3)) (
  ce_fc (P := P_L_law nm) (ok_call (ru_I m_X11_init (by decide) (by decide) gw_55 gw_53 gw_54 gw_1 rfl hp_X11_init dL_law_4) ca_f) (
  ce_fc (P := P_L_law nm) (ok_li (ok_astore_n dL_law_7 rfl)) (
  ce_fc (P := P_L_law nm) (ok_li (ok_new (ci := 20) (C := RX21) (T := TX21) (N := 20) (ty0 := tyX21) dL_law_8 rfl ce_uX21 tyX21_ok gw_1485 gw_1486 gw_13 dv_X21 rfl)) (
  ce_fc (P := P_L_law nm) (ok_li (ok_dup dL_law_11)) (
  ce_fc (P := P_L_law nm) (ok_call (ru_I m_X21_init (by decide) (by decide) gw_1489 gw_1487 gw_1488 gw_13 rfl hp_X21_init dL_law_12) ca_f) (
  ce_fc (P := P_L_law nm) (ok_li (ok_astore_n dL_law_15 rfl)) (
  ce_fc (P := P_L_law nm) (ok_li (ok_iconst dL_law_16)) (
  ce_fc (P := P_L_law nm) (ok_li (ok_newa_long dL_law_17 gw_2854)) (
  ce_fc (P := P_L_law nm) (ok_li (ok_astore_n dL_law_19 rfl)) (
  ce_fc (P := P_L_law nm) (ok_li (ok_iconst dL_law_20)) (
  ce_fc (P := P_L_law nm) (ok_li (ok_newa_double dL_law_21 gw_2855)) (
  ce_fc (P := P_L_law nm) (ok_li (ok_astore dL_law_23)) (
  ce_fn (P := P_L_law nm)))))))))))))))
noncomputable def tb_L_law_1 : List (Nat × ce_N) := [(25, ce_li (ce_push (.inl (.inl (0))) 26)),
  (26, ce_li (ce_istore 5 28 9)),
  (28, ce_li (ce_iload 5 30)),
  (30, ce_li (ce_aload 0 31)),
  (31, ce_li (ce_alen 32)),
  (32, ce_li (ce_push (.inl (.inl (6))) 34)),
  (34, ce_li (ce_bin ce_subo 35)),
  (35, ce_li (ce_icmp false true false 2081 38)),
  (38, ce_li (ce_aload 0 39)),
  (39, ce_li (ce_iload 5 41)),
  (41, ce_li (ce_iald 42 41)),
  (42, ce_li (ce_push (.inl (.inl (63))) 44)),
  (44, ce_li (ce_bin ce_and 45)),
  (45, ce_li (ce_tsw 2075 [264, 306, 322, 350, 363, 415, 491, 521, 534, 550, 566, 582, 624, 688, 728, 768, 796, 824, 852, 908, 964, 992, 1032, 1086, 1126, 1154, 1194, 1260, 1300, 1368, 1444, 1457, 1470, 1512, 1540, 1596, 1636, 1664, 1704, 1732, 1772, 1824, 1864, 1916, 1944, 1957, 1985, 1998, 2028, 2045, 2062]))]
theorem tk_L_law_1 {nm : String} : ∀ x ∈ tb_L_law_1, P_L_law nm x.1 x.2 :=
  ce_fc (P := P_L_law nm) (ok_li (ok_iconst dL_law_25)) (
  ce_fc (P := P_L_law nm) (ok_li (ok_istore dL_law_26)) (
  ce_fc (P := P_L_law nm) (ok_li (ok_iload dL_law_28)) (
  ce_fc (P := P_L_law nm) (ok_li (ok_aload_n dL_law_30 rfl)) (
  ce_fc (P := P_L_law nm) (ok_li (ok_alen dL_law_31)) (
  ce_fc (P := P_L_law nm) (ok_li (ok_bipush dL_law_32 (by decide))) (
  ce_fc (P := P_L_law nm) (ok_li (ok_isub dL_law_34)) (
  ce_fc (P := P_L_law nm) (ok_li (ok_icmp_gt dL_law_35 (by decide))) (
  ce_fc (P := P_L_law nm) (ok_li (ok_aload_n dL_law_38 rfl)) (
  ce_fc (P := P_L_law nm) (ok_li (ok_iload dL_law_39)) (
  ce_fc (P := P_L_law nm) (ok_li (ok_iald dL_law_41)) (
  ce_fc (P := P_L_law nm) (ok_li (ok_bipush dL_law_42 (by decide))) (
  ce_fc (P := P_L_law nm) (ok_li (ok_iand dL_law_44)) (
  ce_fc (P := P_L_law nm) (ok_li (ok_tsw dL_law_45 (by decide) (by decide) (by decide))) (
  ce_fn (P := P_L_law nm)))))))))))))))
noncomputable def tb_L_law_2 : List (Nat × ce_N) := [(264, ce_li (ce_aload 1 265)),
  (265, ce_li (ce_aload 0 266)),
  (266, ce_li (ce_iload 5 268)),
  (268, ce_li (ce_push (.inl (.inl (1))) 269)),
  (269, ce_li (ce_bin ce_addo 270)),
  (270, ce_li (ce_iald 271 270)),
  (271, ce_li (ce_i2c 272)),
  (272, ce_li (ce_aload 0 273)),
  (273, ce_li (ce_iload 5 275)),
  (275, ce_li (ce_push (.inl (.inl (2))) 276)),
  (276, ce_li (ce_bin ce_addo 277)),
  (277, ce_li (ce_iald 278 277)),
  (278, ce_li (ce_aload 3 279)),
  (279, ce_call 4 0 0 282 (.inr false) F_L_addWall)]
theorem tk_L_law_2 {nm : String} : ∀ x ∈ tb_L_law_2, P_L_law nm x.1 x.2 :=
  ce_fc (P := P_L_law nm) (ok_li (ok_aload_n dL_law_264 rfl)) (
  ce_fc (P := P_L_law nm) (ok_li (ok_aload_n dL_law_265 rfl)) (
  ce_fc (P := P_L_law nm) (ok_li (ok_iload dL_law_266)) (
  ce_fc (P := P_L_law nm) (ok_li (ok_iconst dL_law_268)) (
  ce_fc (P := P_L_law nm) (ok_li (ok_iadd dL_law_269)) (
  ce_fc (P := P_L_law nm) (ok_li (ok_iald dL_law_270)) (
  ce_fc (P := P_L_law nm) (ok_li (ok_i2c dL_law_271)) (
  ce_fc (P := P_L_law nm) (ok_li (ok_aload_n dL_law_272 rfl)) (
  ce_fc (P := P_L_law nm) (ok_li (ok_iload dL_law_273)) (
  ce_fc (P := P_L_law nm) (ok_li (ok_iconst dL_law_275)) (
  ce_fc (P := P_L_law nm) (ok_li (ok_iadd dL_law_276)) (
  ce_fc (P := P_L_law nm) (ok_li (ok_iald dL_law_277)) (
  ce_fc (P := P_L_law nm) (ok_li (ok_aload_n dL_law_278 rfl)) (
  ce_fc (P := P_L_law nm) (ok_call (ru_SX m_L_addWall (by decide) (by decide) gw_715 gw_713 gw_714 gw_0 hp_L_addWall dL_law_279) ca_f) (
  ce_fn (P := P_L_law nm)))))))))))))))
noncomputable def tb_L_law_3 : List (Nat × ce_N) := [(282, ce_li (ce_istore 6 284 9)),
  (284, ce_li (ce_aload 2 285)),
  (285, ce_li (ce_aload 0 286)),
  (286, ce_li (ce_iload 5 288)),
  (288, ce_li (ce_push (.inl (.inl (1))) 289)),
  (289, ce_li (ce_bin ce_addo 290)),
  (290, ce_li (ce_iald 291 290)),
  (291, ce_li (ce_i2c 292)),
  (292, ce_li (ce_aload 0 293)),
  (293, ce_li (ce_iload 5 295)),
  (295, ce_li (ce_push (.inl (.inl (2))) 296)),
  (296, ce_li (ce_bin ce_addo 297)),
  (297, ce_li (ce_iald 298 297)),
  (298, ce_call 3 2 15 301 (.inr false) (ce_CV 20 F_X21_addWall))]
theorem tk_L_law_3 {nm : String} : ∀ x ∈ tb_L_law_3, P_L_law nm x.1 x.2 :=
  ce_fc (P := P_L_law nm) (ok_li (ok_istore dL_law_282)) (
  ce_fc (P := P_L_law nm) (ok_li (ok_aload_n dL_law_284 rfl)) (
  ce_fc (P := P_L_law nm) (ok_li (ok_aload_n dL_law_285 rfl)) (
  ce_fc (P := P_L_law nm) (ok_li (ok_iload dL_law_286)) (
  ce_fc (P := P_L_law nm) (ok_li (ok_iconst dL_law_288)) (
  ce_fc (P := P_L_law nm) (ok_li (ok_iadd dL_law_289)) (
  ce_fc (P := P_L_law nm) (ok_li (ok_iald dL_law_290)) (
  ce_fc (P := P_L_law nm) (ok_li (ok_i2c dL_law_291)) (
  ce_fc (P := P_L_law nm) (ok_li (ok_aload_n dL_law_292 rfl)) (
  ce_fc (P := P_L_law nm) (ok_li (ok_iload dL_law_293)) (
  ce_fc (P := P_L_law nm) (ok_li (ok_iconst dL_law_295)) (
  ce_fc (P := P_L_law nm) (ok_li (ok_iadd dL_law_296)) (
  ce_fc (P := P_L_law nm) (ok_li (ok_iald dL_law_297)) (
  ce_fc (P := P_L_law nm) (ok_call (ru_V (ci := 20) (C := RX21) (Tf := TX21) (N := 20) m_X21_addWall (by decide) (by decide) rfl gw_1590 gw_1587 gw_1588 gw_1589 gw_13 ⟨rfl, hp_X21_addWall⟩ dL_law_298) ca_f) (
  ce_fn (P := P_L_law nm)))))))))))))))
noncomputable def tb_L_law_4 : List (Nat × ce_N) := [(301, ce_li (ce_istore 7 303 9)),
  (303, ce_li (ce_goto 2075)),
  (852, ce_li (ce_aload 1 853)),
  (853, ce_li (ce_aload 0 854)),
  (854, ce_li (ce_iload 5 856)),
  (856, ce_li (ce_push (.inl (.inl (1))) 857)),
  (857, ce_li (ce_bin ce_addo 858)),
  (858, ce_li (ce_iald 859 858)),
  (859, ce_li (ce_aload 0 860)),
  (860, ce_li (ce_iload 5 862)),
  (862, ce_li (ce_push (.inl (.inl (2))) 863)),
  (863, ce_li (ce_bin ce_addo 864)),
  (864, ce_li (ce_iald 865 864)),
  (865, ce_li (ce_if true false false 872 868))]
theorem tk_L_law_4 {nm : String} : ∀ x ∈ tb_L_law_4, P_L_law nm x.1 x.2 :=
  ce_fc (P := P_L_law nm) (ok_li (ok_istore dL_law_301)) (
  ce_fc (P := P_L_law nm) (ok_li (ok_goto dL_law_303 (by decide))) (
  ce_fc (P := P_L_law nm) (ok_li (ok_aload_n dL_law_852 rfl)) (
  ce_fc (P := P_L_law nm) (ok_li (ok_aload_n dL_law_853 rfl)) (
  ce_fc (P := P_L_law nm) (ok_li (ok_iload dL_law_854)) (
  ce_fc (P := P_L_law nm) (ok_li (ok_iconst dL_law_856)) (
  ce_fc (P := P_L_law nm) (ok_li (ok_iadd dL_law_857)) (
  ce_fc (P := P_L_law nm) (ok_li (ok_iald dL_law_858)) (
  ce_fc (P := P_L_law nm) (ok_li (ok_aload_n dL_law_859 rfl)) (
  ce_fc (P := P_L_law nm) (ok_li (ok_iload dL_law_860)) (
  ce_fc (P := P_L_law nm) (ok_li (ok_iconst dL_law_862)) (
  ce_fc (P := P_L_law nm) (ok_li (ok_iadd dL_law_863)) (
  ce_fc (P := P_L_law nm) (ok_li (ok_iald dL_law_864)) (
  ce_fc (P := P_L_law nm) (ok_li (ok_if_eq dL_law_865 (by decide))) (
  ce_fn (P := P_L_law nm)))))))))))))))
noncomputable def tb_L_law_5 : List (Nat × ce_N) := [(872, ce_li (ce_push (.inl (.inl (0))) 873)),
  (873, ce_li (ce_aload 3 874)),
  (874, ce_call 4 0 0 877 (.inr false) F_L_free),
  (877, ce_li (ce_istore 6 879 9)),
  (879, ce_li (ce_aload 2 880)),
  (880, ce_li (ce_aload 0 881)),
  (881, ce_li (ce_iload 5 883)),
  (883, ce_li (ce_push (.inl (.inl (1))) 884)),
  (884, ce_li (ce_bin ce_addo 885)),
  (885, ce_li (ce_iald 886 885)),
  (886, ce_li (ce_aload 0 887)),
  (887, ce_li (ce_iload 5 889)),
  (889, ce_li (ce_push (.inl (.inl (2))) 890)),
  (890, ce_li (ce_bin ce_addo 891))]
theorem tk_L_law_5 {nm : String} : ∀ x ∈ tb_L_law_5, P_L_law nm x.1 x.2 :=
  ce_fc (P := P_L_law nm) (ok_li (ok_iconst dL_law_872)) (
  ce_fc (P := P_L_law nm) (ok_li (ok_aload_n dL_law_873 rfl)) (
  ce_fc (P := P_L_law nm) (ok_call (ru_SX m_L_free (by decide) (by decide) gw_1048 gw_1046 gw_1047 gw_0 hp_L_free dL_law_874) ca_f) (
  ce_fc (P := P_L_law nm) (ok_li (ok_istore dL_law_877)) (
  ce_fc (P := P_L_law nm) (ok_li (ok_aload_n dL_law_879 rfl)) (
  ce_fc (P := P_L_law nm) (ok_li (ok_aload_n dL_law_880 rfl)) (
  ce_fc (P := P_L_law nm) (ok_li (ok_iload dL_law_881)) (
  ce_fc (P := P_L_law nm) (ok_li (ok_iconst dL_law_883)) (
  ce_fc (P := P_L_law nm) (ok_li (ok_iadd dL_law_884)) (
  ce_fc (P := P_L_law nm) (ok_li (ok_iald dL_law_885)) (
  ce_fc (P := P_L_law nm) (ok_li (ok_aload_n dL_law_886 rfl)) (
  ce_fc (P := P_L_law nm) (ok_li (ok_iload dL_law_887)) (
  ce_fc (P := P_L_law nm) (ok_li (ok_iconst dL_law_889)) (
  ce_fc (P := P_L_law nm) (ok_li (ok_iadd dL_law_890)) (
  ce_fn (P := P_L_law nm)))))))))))))))
noncomputable def tb_L_law_6 : List (Nat × ce_N) := [(891, ce_li (ce_iald 892 891)),
  (892, ce_li (ce_if true false false 899 895)),
  (899, ce_li (ce_push (.inl (.inl (0))) 900)),
  (903, ce_li (ce_istore 7 905 9)),
  (905, ce_li (ce_goto 2075)),
  (2075, ce_li (ce_iinc 5 (6) 2078 9)),
  (2078, ce_li (ce_goto 28)),
  (2081, ce_li (ce_push (.inl (.inl (1))) 2082)),
  (2082, ce_reti .boolean)]
theorem tk_L_law_6 {nm : String} : ∀ x ∈ tb_L_law_6, P_L_law nm x.1 x.2 :=
  ce_fc (P := P_L_law nm) (ok_li (ok_iald dL_law_891)) (
  ce_fc (P := P_L_law nm) (ok_li (ok_if_eq dL_law_892 (by decide))) (
  ce_fc (P := P_L_law nm) (ok_li (ok_iconst dL_law_899)) (
  ce_fc (P := P_L_law nm) (ok_li (ok_istore dL_law_903)) (
  ce_fc (P := P_L_law nm) (ok_li (ok_goto dL_law_905 (by decide))) (
  ce_fc (P := P_L_law nm) (ok_li (ok_iinc dL_law_2075)) (
  ce_fc (P := P_L_law nm) (ok_li (ok_goto dL_law_2078 (by decide))) (
  ce_fc (P := P_L_law nm) (ok_li (ok_iconst dL_law_2081)) (
  ce_fc (P := P_L_law nm) (ok_reti dL_law_2082 rfl) (
  ce_fn (P := P_L_law nm))))))))))
noncomputable def ta_L_law : Nat → Option ce_N := (ce_tr 282 (ce_tr 25 (ce_fd tb_L_law_0) (ce_tr 264 (ce_fd tb_L_law_1) (ce_fd tb_L_law_2))) (ce_tr 872 (ce_tr 301 (ce_fd tb_L_law_3) (ce_fd tb_L_law_4)) (ce_tr 891 (ce_fd tb_L_law_5) (ce_fd tb_L_law_6))))
theorem tx_L_law {nm : String} : ∀ pc f, ta_L_law pc = some f → P_L_law nm pc f := (ce_tr_ok (P := P_L_law nm) (ce_tr_ok (P := P_L_law nm) (ce_fd_ok (P := P_L_law nm) tk_L_law_0) (ce_tr_ok (P := P_L_law nm) (ce_fd_ok (P := P_L_law nm) tk_L_law_1) (ce_fd_ok (P := P_L_law nm) tk_L_law_2))) (ce_tr_ok (P := P_L_law nm) (ce_tr_ok (P := P_L_law nm) (ce_fd_ok (P := P_L_law nm) tk_L_law_3) (ce_fd_ok (P := P_L_law nm) tk_L_law_4)) (ce_tr_ok (P := P_L_law nm) (ce_fd_ok (P := P_L_law nm) tk_L_law_5) (ce_fd_ok (P := P_L_law nm) tk_L_law_6))))
