abbrev P_X6_wallAt : Nat → ce_N → Prop := ce_OKN "Carcasswright$Room" "wallAt" cX6_wallAt 2 (some (.object "Carcasswright$Wall")) 0 (some [])
noncomputable def tb_X6_wallAt_0 : List (Nat × ce_N) := [(0, ce_li (ce_iload 1 1)),
  (1, ce_li (ce_if false false false 18 4)),
  (4, ce_li (ce_iload 1 5)),
  (5, ce_li (ce_aload 0 6)),
  (6, ce_li (ce_getf 10 6 9)),
  (9, ce_li (ce_icmp false false true 18 12)),
  (12, ce_li (ce_iload 1 13)),
  (13, ce_li (ce_push (.inl (.inl (6))) 15)),
  (15, ce_li (ce_icmp false false false 26 18)),
  (18, ce_thr 1),
  (26, ce_li (ce_aload 0 27)),
  (27, ce_li (ce_getf 10 0 30)),
  (30, ce_li (ce_iload 1 31)),
  (31, ce_li (ce_aald 32))]
theorem tk_X6_wallAt_0 : ∀ x ∈ tb_X6_wallAt_0, P_X6_wallAt x.1 x.2 :=
  ce_fc (P := P_X6_wallAt) (ok_li (ok_iload_n dX6_wallAt_0 rfl)) (
  ce_fc (P := P_X6_wallAt) (ok_li (ok_if_lt dX6_wallAt_1 (by decide))) (
  ce_fc (P := P_X6_wallAt) (ok_li (ok_iload_n dX6_wallAt_4 rfl)) (
  ce_fc (P := P_X6_wallAt) (ok_li (ok_aload_n dX6_wallAt_5 rfl)) (
  ce_fc (P := P_X6_wallAt) (ok_li (ok_getf (ci := 10) (k := 6) (C := RX6) (T := TX6) (N := 10) dX6_wallAt_6 rfl ce_uX6 (by decide) gw_255 (fun _ _ _ _ h => h))) (
  ce_fc (P := P_X6_wallAt) (ok_li (ok_icmp_ge dX6_wallAt_9 (by decide))) (
  ce_fc (P := P_X6_wallAt) (ok_li (ok_iload_n dX6_wallAt_12 rfl)) (
  ce_fc (P := P_X6_wallAt) (ok_li (ok_bipush dX6_wallAt_13 (by decide))) (
  ce_fc (P := P_X6_wallAt) (ok_li (ok_icmp_lt dX6_wallAt_15 (by decide))) (
  ce_fc (P := P_X6_wallAt) (ok_thr (k := 1) (names := ["java/lang/RuntimeException", "java/lang/Exception"]) dX6_wallAt_18 dX6_wallAt_21 dX6_wallAt_22 dX6_wallAt_25 rfl (by decide +kernel) (by decide +kernel) (by decide) gw_488 gw_22 (th_1 gw_531) (by decide +kernel) (by decide +kernel)) (
  ce_fc (P := P_X6_wallAt) (ok_li (ok_aload_n dX6_wallAt_26 rfl)) (
  ce_fc (P := P_X6_wallAt) (ok_li (ok_getf (ci := 10) (k := 0) (C := RX6) (T := TX6) (N := 10) dX6_wallAt_27 rfl ce_uX6 (by decide) gw_247 (fun _ _ _ _ h => h))) (
  ce_fc (P := P_X6_wallAt) (ok_li (ok_iload_n dX6_wallAt_30 rfl)) (
  ce_fc (P := P_X6_wallAt) (ok_li (ok_aald dX6_wallAt_31)) (
  ce_fn (P := P_X6_wallAt)))))))))))))))
noncomputable def tb_X6_wallAt_1 : List (Nat × ce_N) := [(32, ce_reta)]
theorem tk_X6_wallAt_1 : ∀ x ∈ tb_X6_wallAt_1, P_X6_wallAt x.1 x.2 :=
  ce_fc (P := P_X6_wallAt) (ok_reta dX6_wallAt_32 rfl (Or.inl ⟨_, rfl⟩)) (
  ce_fn (P := P_X6_wallAt))
noncomputable def ta_X6_wallAt : Nat → Option ce_N := (ce_tr 32 (ce_fd tb_X6_wallAt_0) (ce_fd tb_X6_wallAt_1))
theorem tx_X6_wallAt : ∀ pc f, ta_X6_wallAt pc = some f → P_X6_wallAt pc f := (ce_tr_ok (P := P_X6_wallAt) (ce_fd_ok (P := P_X6_wallAt) tk_X6_wallAt_0) (ce_fd_ok (P := P_X6_wallAt) tk_X6_wallAt_1))
noncomputable def F_X6_wallAt : ce_C := ce_M ta_X6_wallAt 2 1 6 1000000
theorem m_X6_wallAt : ∀ l : Launch, l.stackTraces = false → ce_MS l yX6_wallAt (.code yX6_wallAt cX6_wallAt 2 (some (.object "Carcasswright$Wall"))) 0 1 6 F_X6_wallAt := fun l hl => ce_met hl (by decide +kernel) tx_X6_wallAt
theorem hp_X6_wallAt : yX6_wallAt.cls ≠ "java/lang/invoke/MethodHandle" ∧ yX6_wallAt.cls ≠ "java/lang/invoke/VarHandle" ∧ (parseMethodDescriptor yX6_wallAt.desc).map (fun d => d.parameters.length) = some 1 := by decide +kernel
abbrev P_X8_boardAt : Nat → ce_N → Prop := ce_OKN "Carcasswright$Stock" "boardAt" cX8_boardAt 2 (some (.object "Carcasswright$Board")) 0 (some [])
noncomputable def tb_X8_boardAt_0 : List (Nat × ce_N) := [(0, ce_li (ce_iload 1 1)),
  (1, ce_li (ce_if false false false 18 4)),
  (4, ce_li (ce_iload 1 5)),
  (5, ce_li (ce_aload 0 6)),
  (6, ce_li (ce_getf 12 1 9)),
  (9, ce_li (ce_icmp false false true 18 12)),
  (18, ce_thr 1)]
theorem tk_X8_boardAt_0 : ∀ x ∈ tb_X8_boardAt_0, P_X8_boardAt x.1 x.2 :=
  ce_fc (P := P_X8_boardAt) (ok_li (ok_iload_n dX8_boardAt_0 rfl)) (
  ce_fc (P := P_X8_boardAt) (ok_li (ok_if_lt dX8_boardAt_1 (by decide))) (
  ce_fc (P := P_X8_boardAt) (ok_li (ok_iload_n dX8_boardAt_4 rfl)) (
  ce_fc (P := P_X8_boardAt) (ok_li (ok_aload_n dX8_boardAt_5 rfl)) (
  ce_fc (P := P_X8_boardAt) (ok_li (ok_getf (ci := 12) (k := 1) (C := RX8) (T := TX8) (N := 5) dX8_boardAt_6 rfl ce_uX8 (by decide) gw_333 (fun _ _ _ _ h => h))) (
  ce_fc (P := P_X8_boardAt) (ok_li (ok_icmp_ge dX8_boardAt_9 (by decide))) (
  ce_fc (P := P_X8_boardAt) (ok_thr (k := 1) (names := ["java/lang/RuntimeException", "java/lang/Exception"]) dX8_boardAt_18 dX8_boardAt_21 dX8_boardAt_22 dX8_boardAt_25 rfl (by decide +kernel) (by decide +kernel) (by decide) gw_578 gw_22 (th_1 gw_579) (by decide +kernel) (by decide +kernel)) (
  ce_fn (P := P_X8_boardAt))))))))
noncomputable def ta_X8_boardAt : Nat → Option ce_N := (ce_fd tb_X8_boardAt_0)
theorem tx_X8_boardAt : ∀ pc f, ta_X8_boardAt pc = some f → P_X8_boardAt pc f := (ce_fd_ok (P := P_X8_boardAt) tk_X8_boardAt_0)
noncomputable def F_X8_boardAt : ce_C := ce_M ta_X8_boardAt 2 1 6 1000000
theorem m_X8_boardAt : ∀ l : Launch, l.stackTraces = false → ce_MS l yX8_boardAt (.code yX8_boardAt cX8_boardAt 2 (some (.object "Carcasswright$Board"))) 0 1 6 F_X8_boardAt := fun l hl => ce_met hl (by decide +kernel) tx_X8_boardAt
theorem hp_X8_boardAt : yX8_boardAt.cls ≠ "java/lang/invoke/MethodHandle" ∧ yX8_boardAt.cls ≠ "java/lang/invoke/VarHandle" ∧ (parseMethodDescriptor yX8_boardAt.desc).map (fun d => d.parameters.length) = some 1 := by decide +kernel
abbrev P_X8_offcutCount : Nat → ce_N → Prop := ce_OKN "Carcasswright$Stock" "offcutCount" cX8_offcutCount 3 (some .int) 0 (some [])
noncomputable def tb_X8_offcutCount_0 : List (Nat × ce_N) := [(0, ce_li (ce_push (.inl (.inl (0))) 1)),
  (1, ce_li (ce_istore 1 2 3)),
  (2, ce_li (ce_push (.inl (.inl (0))) 3)),
  (3, ce_li (ce_istore 2 4 3)),
  (4, ce_li (ce_iload 2 5)),
  (5, ce_li (ce_aload 0 6)),
  (6, ce_li (ce_getf 12 1 9)),
  (9, ce_li (ce_icmp false false true 37 12)),
  (37, ce_li (ce_iload 1 38)),
  (38, ce_reti .int)]
theorem tk_X8_offcutCount_0 : ∀ x ∈ tb_X8_offcutCount_0, P_X8_offcutCount x.1 x.2 :=
  ce_fc (P := P_X8_offcutCount) (ok_li (ok_iconst dX8_offcutCount_0)) (
  ce_fc (P := P_X8_offcutCount) (ok_li (ok_istore_n dX8_offcutCount_1 rfl)) (
  ce_fc (P := P_X8_offcutCount) (ok_li (ok_iconst dX8_offcutCount_2)) (
  ce_fc (P := P_X8_offcutCount) (ok_li (ok_istore_n dX8_offcutCount_3 rfl)) (
  ce_fc (P := P_X8_offcutCount) (ok_li (ok_iload_n dX8_offcutCount_4 rfl)) (
  ce_fc (P := P_X8_offcutCount) (ok_li (ok_aload_n dX8_offcutCount_5 rfl)) (
  ce_fc (P := P_X8_offcutCount) (ok_li (ok_getf (ci := 12) (k := 1) (C := RX8) (T := TX8) (N := 5) dX8_offcutCount_6 rfl ce_uX8 (by decide) gw_333 (fun _ _ _ _ h => h))) (
  ce_fc (P := P_X8_offcutCount) (ok_li (ok_icmp_ge dX8_offcutCount_9 (by decide))) (
  ce_fc (P := P_X8_offcutCount) (ok_li (ok_iload_n dX8_offcutCount_37 rfl)) (
  ce_fc (P := P_X8_offcutCount) (ok_reti dX8_offcutCount_38 rfl) (
  ce_fn (P := P_X8_offcutCount)))))))))))
noncomputable def ta_X8_offcutCount : Nat → Option ce_N := (ce_fd tb_X8_offcutCount_0)
theorem tx_X8_offcutCount : ∀ pc f, ta_X8_offcutCount pc = some f → P_X8_offcutCount pc f := (ce_fd_ok (P := P_X8_offcutCount) tk_X8_offcutCount_0)
noncomputable def F_X8_offcutCount : ce_C := ce_M ta_X8_offcutCount 3 0 0 1000000
theorem m_X8_offcutCount : ∀ l : Launch, l.stackTraces = false → ce_MS l yX8_offcutCount (.code yX8_offcutCount cX8_offcutCount 3 (some .int)) 0 0 0 F_X8_offcutCount := fun l hl => ce_met hl (by decide +kernel) tx_X8_offcutCount
theorem hp_X8_offcutCount : yX8_offcutCount.cls ≠ "java/lang/invoke/MethodHandle" ∧ yX8_offcutCount.cls ≠ "java/lang/invoke/VarHandle" ∧ (parseMethodDescriptor yX8_offcutCount.desc).map (fun d => d.parameters.length) = some 0 := by decide +kernel
abbrev P_X8_squares : Nat → ce_N → Prop := ce_OKN "Carcasswright$Stock" "squares" cX8_squares 4 (some .long) 0 (some [])
noncomputable def tb_X8_squares_0 : List (Nat × ce_N) := [(0, ce_li (ce_push (.inr (.inl (.inl 0))) 1)),
  (1, ce_li (ce_lstore 1 2 4)),
  (2, ce_li (ce_push (.inl (.inl (0))) 3)),
  (3, ce_li (ce_istore 3 4 4)),
  (4, ce_li (ce_iload 3 5)),
  (5, ce_li (ce_aload 0 6)),
  (6, ce_li (ce_getf 12 1 9)),
  (9, ce_li (ce_icmp false false true 30 12)),
  (30, ce_li (ce_lload 1 31)),
  (31, ce_retl)]
theorem tk_X8_squares_0 : ∀ x ∈ tb_X8_squares_0, P_X8_squares x.1 x.2 :=
  ce_fc (P := P_X8_squares) (ok_li (ok_lconst0 dX8_squares_0)) (
  ce_fc (P := P_X8_squares) (ok_li (ok_lstore_n dX8_squares_1 rfl)) (
  ce_fc (P := P_X8_squares) (ok_li (ok_iconst dX8_squares_2)) (
  ce_fc (P := P_X8_squares) (ok_li (ok_istore_n dX8_squares_3 rfl)) (
  ce_fc (P := P_X8_squares) (ok_li (ok_iload_n dX8_squares_4 rfl)) (
  ce_fc (P := P_X8_squares) (ok_li (ok_aload_n dX8_squares_5 rfl)) (
  ce_fc (P := P_X8_squares) (ok_li (ok_getf (ci := 12) (k := 1) (C := RX8) (T := TX8) (N := 5) dX8_squares_6 rfl ce_uX8 (by decide) gw_333 (fun _ _ _ _ h => h))) (
  ce_fc (P := P_X8_squares) (ok_li (ok_icmp_ge dX8_squares_9 (by decide))) (
  ce_fc (P := P_X8_squares) (ok_li (ok_lload_n dX8_squares_30 rfl)) (
  ce_fc (P := P_X8_squares) (ok_retl dX8_squares_31 rfl) (
  ce_fn (P := P_X8_squares)))))))))))
noncomputable def ta_X8_squares : Nat → Option ce_N := (ce_fd tb_X8_squares_0)
theorem tx_X8_squares : ∀ pc f, ta_X8_squares pc = some f → P_X8_squares pc f := (ce_fd_ok (P := P_X8_squares) tk_X8_squares_0)
noncomputable def F_X8_squares : ce_C := ce_M ta_X8_squares 4 0 0 1000000
theorem m_X8_squares : ∀ l : Launch, l.stackTraces = false → ce_MS l yX8_squares (.code yX8_squares cX8_squares 4 (some .long)) 0 0 0 F_X8_squares := fun l hl => ce_met hl (by decide +kernel) tx_X8_squares
theorem hp_X8_squares : yX8_squares.cls ≠ "java/lang/invoke/MethodHandle" ∧ yX8_squares.cls ≠ "java/lang/invoke/VarHandle" ∧ (parseMethodDescriptor yX8_squares.desc).map (fun d => d.parameters.length) = some 0 := by decide +kernel
abbrev P_X9_append : Nat → ce_N → Prop := ce_OKN "Carcasswright$Types" "append" cX9_append 2 (some .int) 0 (some [])
noncomputable def tb_X9_append_0 : List (Nat × ce_N) := [(0, ce_li (ce_aload 0 1)),
  (1, ce_li (ce_getf 13 3 4)),
  (4, ce_li (ce_if false false false 36 7)),
  (7, ce_li (ce_aload 0 8)),
  (8, ce_li (ce_getf 13 3 11)),
  (11, ce_li (ce_push (.inl (.inl (30))) 13)),
  (13, ce_li (ce_icmp false false true 36 16)),
  (16, ce_li (ce_aload 0 17)),
  (17, ce_li (ce_getf 13 0 20)),
  (20, ce_li (ce_aload 0 21)),
  (21, ce_li (ce_getf 13 3 24)),
  (24, ce_li (ce_iload 1 25)),
  (25, ce_li (ce_iast 1 26 25)),
  (26, ce_li (ce_aload 0 27))]
theorem tk_X9_append_0 : ∀ x ∈ tb_X9_append_0, P_X9_append x.1 x.2 :=
  ce_fc (P := P_X9_append) (ok_li (ok_aload_n dX9_append_0 rfl)) (
  ce_fc (P := P_X9_append) (ok_li (ok_getf (ci := 13) (k := 3) (C := RX9) (T := TX9) (N := 10) dX9_append_1 rfl ce_uX9 (by decide) gw_117 (fun _ _ _ _ h => h))) (
  ce_fc (P := P_X9_append) (ok_li (ok_if_lt dX9_append_4 (by decide))) (
  ce_fc (P := P_X9_append) (ok_li (ok_aload_n dX9_append_7 rfl)) (
  ce_fc (P := P_X9_append) (ok_li (ok_getf (ci := 13) (k := 3) (C := RX9) (T := TX9) (N := 10) dX9_append_8 rfl ce_uX9 (by decide) gw_117 (fun _ _ _ _ h => h))) (
  ce_fc (P := P_X9_append) (ok_li (ok_bipush dX9_append_11 (by decide))) (
  ce_fc (P := P_X9_append) (ok_li (ok_icmp_ge dX9_append_13 (by decide))) (
  ce_fc (P := P_X9_append) (ok_li (ok_aload_n dX9_append_16 rfl)) (
  ce_fc (P := P_X9_append) (ok_li (ok_getf (ci := 13) (k := 0) (C := RX9) (T := TX9) (N := 10) dX9_append_17 rfl ce_uX9 (by decide) gw_114 (fun _ _ _ _ h => h))) (
  ce_fc (P := P_X9_append) (ok_li (ok_aload_n dX9_append_20 rfl)) (
  ce_fc (P := P_X9_append) (ok_li (ok_getf (ci := 13) (k := 3) (C := RX9) (T := TX9) (N := 10) dX9_append_21 rfl ce_uX9 (by decide) gw_117 (fun _ _ _ _ h => h))) (
  ce_fc (P := P_X9_append) (ok_li (ok_iload_n dX9_append_24 rfl)) (
  ce_fc (P := P_X9_append) (ok_li (ok_castore dX9_append_25)) (
  ce_fc (P := P_X9_append) (ok_li (ok_aload_n dX9_append_26 rfl)) (
  ce_fn (P := P_X9_append)))))))))))))))
noncomputable def tb_X9_append_1 : List (Nat × ce_N) := [(27, ce_li (ce_dup 28)),
  (28, ce_li (ce_getf 13 3 31)),
  (31, ce_li (ce_push (.inl (.inl (1))) 32)),
  (32, ce_li (ce_bin ce_addo 33)),
  (33, ce_li (ce_putf (tyX9 3) 13 3 36)),
  (36, ce_li (ce_aload 0 37)),
  (37, ce_li (ce_getf 13 3 40)),
  (40, ce_reti .int)]
theorem tk_X9_append_1 : ∀ x ∈ tb_X9_append_1, P_X9_append x.1 x.2 :=
  ce_fc (P := P_X9_append) (ok_li (ok_dup dX9_append_27)) (
  ce_fc (P := P_X9_append) (ok_li (ok_getf (ci := 13) (k := 3) (C := RX9) (T := TX9) (N := 10) dX9_append_28 rfl ce_uX9 (by decide) gw_117 (fun _ _ _ _ h => h))) (
  ce_fc (P := P_X9_append) (ok_li (ok_iconst dX9_append_31)) (
  ce_fc (P := P_X9_append) (ok_li (ok_iadd dX9_append_32)) (
  ce_fc (P := P_X9_append) (ok_li (ok_putf (ci := 13) (k := 3) (C := RX9) (T := TX9) (N := 10) (ty0 := tyX9) dX9_append_33 rfl ce_uX9 (by decide) gw_117 (fun _ _ _ _ h => h) tyX9_ok nmX9 (Or.inl rfl))) (
  ce_fc (P := P_X9_append) (ok_li (ok_aload_n dX9_append_36 rfl)) (
  ce_fc (P := P_X9_append) (ok_li (ok_getf (ci := 13) (k := 3) (C := RX9) (T := TX9) (N := 10) dX9_append_37 rfl ce_uX9 (by decide) gw_117 (fun _ _ _ _ h => h))) (
  ce_fc (P := P_X9_append) (ok_reti dX9_append_40 rfl) (
  ce_fn (P := P_X9_append)))))))))
noncomputable def ta_X9_append : Nat → Option ce_N := (ce_tr 27 (ce_fd tb_X9_append_0) (ce_fd tb_X9_append_1))
theorem tx_X9_append : ∀ pc f, ta_X9_append pc = some f → P_X9_append pc f := (ce_tr_ok (P := P_X9_append) (ce_fd_ok (P := P_X9_append) tk_X9_append_0) (ce_fd_ok (P := P_X9_append) tk_X9_append_1))
noncomputable def F_X9_append : ce_C := ce_M ta_X9_append 2 0 0 1000000
theorem m_X9_append : ∀ l : Launch, l.stackTraces = false → ce_MS l yX9_append (.code yX9_append cX9_append 2 (some .int)) 0 0 0 F_X9_append := fun l hl => ce_met hl (by decide +kernel) tx_X9_append
theorem hp_X9_append : yX9_append.cls ≠ "java/lang/invoke/MethodHandle" ∧ yX9_append.cls ≠ "java/lang/invoke/VarHandle" ∧ (parseMethodDescriptor yX9_append.desc).map (fun d => d.parameters.length) = some 1 := by decide +kernel
abbrev P_X9_clearText : Nat → ce_N → Prop := ce_OKN "Carcasswright$Types" "clearText" cX9_clearText 2 (some .int) 0 (some [])
noncomputable def tb_X9_clearText_0 : List (Nat × ce_N) := [(0, ce_li (ce_aload 0 1)),
  (1, ce_li (ce_getf 13 3 4)),
  (4, ce_li (ce_istore 1 5 2)),
  (5, ce_li (ce_aload 0 6)),
  (6, ce_li (ce_push (.inl (.inl (0))) 7)),
  (7, ce_li (ce_putf (tyX9 3) 13 3 10)),
  (10, ce_li (ce_iload 1 11)),
  (11, ce_reti .int)]
theorem tk_X9_clearText_0 : ∀ x ∈ tb_X9_clearText_0, P_X9_clearText x.1 x.2 :=
  ce_fc (P := P_X9_clearText) (ok_li (ok_aload_n dX9_clearText_0 rfl)) (
  ce_fc (P := P_X9_clearText) (ok_li (ok_getf (ci := 13) (k := 3) (C := RX9) (T := TX9) (N := 10) dX9_clearText_1 rfl ce_uX9 (by decide) gw_117 (fun _ _ _ _ h => h))) (
  ce_fc (P := P_X9_clearText) (ok_li (ok_istore_n dX9_clearText_4 rfl)) (
  ce_fc (P := P_X9_clearText) (ok_li (ok_aload_n dX9_clearText_5 rfl)) (
  ce_fc (P := P_X9_clearText) (ok_li (ok_iconst dX9_clearText_6)) (
  ce_fc (P := P_X9_clearText) (ok_li (ok_putf (ci := 13) (k := 3) (C := RX9) (T := TX9) (N := 10) (ty0 := tyX9) dX9_clearText_7 rfl ce_uX9 (by decide) gw_117 (fun _ _ _ _ h => h) tyX9_ok nmX9 (Or.inl rfl))) (
  ce_fc (P := P_X9_clearText) (ok_li (ok_iload_n dX9_clearText_10 rfl)) (
  ce_fc (P := P_X9_clearText) (ok_reti dX9_clearText_11 rfl) (
  ce_fn (P := P_X9_clearText)))))))))
noncomputable def ta_X9_clearText : Nat → Option ce_N := (ce_fd tb_X9_clearText_0)
theorem tx_X9_clearText : ∀ pc f, ta_X9_clearText pc = some f → P_X9_clearText pc f := (ce_fd_ok (P := P_X9_clearText) tk_X9_clearText_0)
noncomputable def F_X9_clearText : ce_C := ce_M ta_X9_clearText 2 0 0 1000000
theorem m_X9_clearText : ∀ l : Launch, l.stackTraces = false → ce_MS l yX9_clearText (.code yX9_clearText cX9_clearText 2 (some .int)) 0 0 0 F_X9_clearText := fun l hl => ce_met hl (by decide +kernel) tx_X9_clearText
theorem hp_X9_clearText : yX9_clearText.cls ≠ "java/lang/invoke/MethodHandle" ∧ yX9_clearText.cls ≠ "java/lang/invoke/VarHandle" ∧ (parseMethodDescriptor yX9_clearText.desc).map (fun d => d.parameters.length) = some 0 := by decide +kernel
abbrev P_X9_fail : Nat → ce_N → Prop := ce_OKN "Carcasswright$Types" "fail" cX9_fail 3 none 0 (some [])
noncomputable def tb_X9_fail_0 : List (Nat × ce_N) := [(0, ce_li (ce_aload 0 1)),
  (1, ce_li (ce_iload 1 2)),
  (2, ce_li (ce_putf (tyX9 5) 13 5 5)),
  (5, ce_li (ce_aload 0 6)),
  (6, ce_li (ce_iload 2 7)),
  (7, ce_li (ce_putf (tyX9 6) 13 6 10)),
  (10, ce_li (ce_aload 0 11)),
  (11, ce_li (ce_push (.inl (.inl (0))) 12)),
  (12, ce_li (ce_putf (tyX9 7) 13 7 15)),
  (15, ce_ret0)]
theorem tk_X9_fail_0 : ∀ x ∈ tb_X9_fail_0, P_X9_fail x.1 x.2 :=
  ce_fc (P := P_X9_fail) (ok_li (ok_aload_n dX9_fail_0 rfl)) (
  ce_fc (P := P_X9_fail) (ok_li (ok_iload_n dX9_fail_1 rfl)) (
  ce_fc (P := P_X9_fail) (ok_li (ok_putf (ci := 13) (k := 5) (C := RX9) (T := TX9) (N := 10) (ty0 := tyX9) dX9_fail_2 rfl ce_uX9 (by decide) gw_121 (fun _ _ _ _ h => h) tyX9_ok nmX9 (Or.inl rfl))) (
  ce_fc (P := P_X9_fail) (ok_li (ok_aload_n dX9_fail_5 rfl)) (
  ce_fc (P := P_X9_fail) (ok_li (ok_iload_n dX9_fail_6 rfl)) (
  ce_fc (P := P_X9_fail) (ok_li (ok_putf (ci := 13) (k := 6) (C := RX9) (T := TX9) (N := 10) (ty0 := tyX9) dX9_fail_7 rfl ce_uX9 (by decide) gw_123 (fun _ _ _ _ h => h) tyX9_ok nmX9 (Or.inl rfl))) (
  ce_fc (P := P_X9_fail) (ok_li (ok_aload_n dX9_fail_10 rfl)) (
  ce_fc (P := P_X9_fail) (ok_li (ok_iconst dX9_fail_11)) (
  ce_fc (P := P_X9_fail) (ok_li (ok_putf (ci := 13) (k := 7) (C := RX9) (T := TX9) (N := 10) (ty0 := tyX9) dX9_fail_12 rfl ce_uX9 (by decide) gw_125 (fun _ _ _ _ h => h) tyX9_ok nmX9 (Or.inl rfl))) (
  ce_fc (P := P_X9_fail) (ok_ret0 dX9_fail_15 rfl) (
  ce_fn (P := P_X9_fail)))))))))))
noncomputable def ta_X9_fail : Nat → Option ce_N := (ce_fd tb_X9_fail_0)
theorem tx_X9_fail : ∀ pc f, ta_X9_fail pc = some f → P_X9_fail pc f := (ce_fd_ok (P := P_X9_fail) tk_X9_fail_0)
noncomputable def F_X9_fail : ce_C := ce_M ta_X9_fail 3 0 0 1000000
theorem m_X9_fail : ∀ l : Launch, l.stackTraces = false → ce_MS l yX9_fail (.code yX9_fail cX9_fail 3 none) 0 0 0 F_X9_fail := fun l hl => ce_met hl (by decide +kernel) tx_X9_fail
theorem hp_X9_fail : yX9_fail.cls ≠ "java/lang/invoke/MethodHandle" ∧ yX9_fail.cls ≠ "java/lang/invoke/VarHandle" ∧ (parseMethodDescriptor yX9_fail.desc).map (fun d => d.parameters.length) = some 2 := by decide +kernel
abbrev P_X9_first : Nat → ce_N → Prop := ce_OKN "Carcasswright$Types" "first" cX9_first 1 (some (.object "Carcasswright$ModuleType")) 0 (some [])
noncomputable def tb_X9_first_0 : List (Nat × ce_N) := [(0, ce_li (ce_aload 0 1)),
  (1, ce_li (ce_getf 13 1 4)),
  (4, ce_li (ce_push (.inl (.inl (0))) 5)),
  (5, ce_li (ce_aald 6)),
  (6, ce_reta)]
theorem tk_X9_first_0 : ∀ x ∈ tb_X9_first_0, P_X9_first x.1 x.2 :=
  ce_fc (P := P_X9_first) (ok_li (ok_aload_n dX9_first_0 rfl)) (
  ce_fc (P := P_X9_first) (ok_li (ok_getf (ci := 13) (k := 1) (C := RX9) (T := TX9) (N := 10) dX9_first_1 rfl ce_uX9 (by decide) gw_115 (fun _ _ _ _ h => h))) (
  ce_fc (P := P_X9_first) (ok_li (ok_iconst dX9_first_4)) (
  ce_fc (P := P_X9_first) (ok_li (ok_aald dX9_first_5)) (
  ce_fc (P := P_X9_first) (ok_reta dX9_first_6 rfl (Or.inl ⟨_, rfl⟩)) (
  ce_fn (P := P_X9_first))))))
noncomputable def ta_X9_first : Nat → Option ce_N := (ce_fd tb_X9_first_0)
theorem tx_X9_first : ∀ pc f, ta_X9_first pc = some f → P_X9_first pc f := (ce_fd_ok (P := P_X9_first) tk_X9_first_0)
noncomputable def F_X9_first : ce_C := ce_M ta_X9_first 1 0 0 1000000
theorem m_X9_first : ∀ l : Launch, l.stackTraces = false → ce_MS l yX9_first (.code yX9_first cX9_first 1 (some (.object "Carcasswright$ModuleType"))) 0 0 0 F_X9_first := fun l hl => ce_met hl (by decide +kernel) tx_X9_first
theorem hp_X9_first : yX9_first.cls ≠ "java/lang/invoke/MethodHandle" ∧ yX9_first.cls ≠ "java/lang/invoke/VarHandle" ∧ (parseMethodDescriptor yX9_first.desc).map (fun d => d.parameters.length) = some 0 := by decide +kernel
abbrev P_X9_hasFault : Nat → ce_N → Prop := ce_OKN "Carcasswright$Types" "hasFault" cX9_hasFault 1 (some .boolean) 0 (some [])
noncomputable def tb_X9_hasFault_0 : List (Nat × ce_N) := [(0, ce_li (ce_aload 0 1)),
  (1, ce_li (ce_getf 13 7 4)),
  (4, ce_li (ce_if true false true 11 7)),
  (7, ce_li (ce_push (.inl (.inl (1))) 8)),
  (8, ce_li (ce_goto 12)),
  (11, ce_li (ce_push (.inl (.inl (0))) 12)),
  (12, ce_reti .boolean)]
theorem tk_X9_hasFault_0 : ∀ x ∈ tb_X9_hasFault_0, P_X9_hasFault x.1 x.2 :=
  ce_fc (P := P_X9_hasFault) (ok_li (ok_aload_n dX9_hasFault_0 rfl)) (
  ce_fc (P := P_X9_hasFault) (ok_li (ok_getf (ci := 13) (k := 7) (C := RX9) (T := TX9) (N := 10) dX9_hasFault_1 rfl ce_uX9 (by decide) gw_125 (fun _ _ _ _ h => h))) (
  ce_fc (P := P_X9_hasFault) (ok_li (ok_if_ne dX9_hasFault_4 (by decide))) (
  ce_fc (P := P_X9_hasFault) (ok_li (ok_iconst dX9_hasFault_7)) (
  ce_fc (P := P_X9_hasFault) (ok_li (ok_goto dX9_hasFault_8 (by decide))) (
  ce_fc (P := P_X9_hasFault) (ok_li (ok_iconst dX9_hasFault_11)) (
  ce_fc (P := P_X9_hasFault) (ok_reti dX9_hasFault_12 rfl) (
  ce_fn (P := P_X9_hasFault))))))))
noncomputable def ta_X9_hasFault : Nat → Option ce_N := (ce_fd tb_X9_hasFault_0)
theorem tx_X9_hasFault : ∀ pc f, ta_X9_hasFault pc = some f → P_X9_hasFault pc f := (ce_fd_ok (P := P_X9_hasFault) tk_X9_hasFault_0)
noncomputable def F_X9_hasFault : ce_C := ce_M ta_X9_hasFault 1 0 0 1000000
theorem m_X9_hasFault : ∀ l : Launch, l.stackTraces = false → ce_MS l yX9_hasFault (.code yX9_hasFault cX9_hasFault 1 (some .boolean)) 0 0 0 F_X9_hasFault := fun l hl => ce_met hl (by decide +kernel) tx_X9_hasFault
theorem hp_X9_hasFault : yX9_hasFault.cls ≠ "java/lang/invoke/MethodHandle" ∧ yX9_hasFault.cls ≠ "java/lang/invoke/VarHandle" ∧ (parseMethodDescriptor yX9_hasFault.desc).map (fun d => d.parameters.length) = some 0 := by decide +kernel
abbrev P_X9_typeAt : Nat → ce_N → Prop := ce_OKN "Carcasswright$Types" "typeAt" cX9_typeAt 2 (some (.object "Carcasswright$ModuleType")) 0 (some [])
noncomputable def tb_X9_typeAt_0 : List (Nat × ce_N) := [(0, ce_li (ce_iload 1 1)),
  (1, ce_li (ce_if false false false 18 4)),
  (4, ce_li (ce_iload 1 5)),
  (5, ce_li (ce_aload 0 6)),
  (6, ce_li (ce_getf 13 4 9)),
  (9, ce_li (ce_icmp false false true 18 12)),
  (18, ce_thr 1)]
theorem tk_X9_typeAt_0 : ∀ x ∈ tb_X9_typeAt_0, P_X9_typeAt x.1 x.2 :=
  ce_fc (P := P_X9_typeAt) (ok_li (ok_iload_n dX9_typeAt_0 rfl)) (
  ce_fc (P := P_X9_typeAt) (ok_li (ok_if_lt dX9_typeAt_1 (by decide))) (
  ce_fc (P := P_X9_typeAt) (ok_li (ok_iload_n dX9_typeAt_4 rfl)) (
  ce_fc (P := P_X9_typeAt) (ok_li (ok_aload_n dX9_typeAt_5 rfl)) (
  ce_fc (P := P_X9_typeAt) (ok_li (ok_getf (ci := 13) (k := 4) (C := RX9) (T := TX9) (N := 10) dX9_typeAt_6 rfl ce_uX9 (by decide) gw_119 (fun _ _ _ _ h => h))) (
  ce_fc (P := P_X9_typeAt) (ok_li (ok_icmp_ge dX9_typeAt_9 (by decide))) (
  ce_fc (P := P_X9_typeAt) (ok_thr (k := 1) (names := ["java/lang/RuntimeException", "java/lang/Exception"]) dX9_typeAt_18 dX9_typeAt_21 dX9_typeAt_22 dX9_typeAt_25 rfl (by decide +kernel) (by decide +kernel) (by decide) gw_881 gw_22 (th_1 gw_882) (by decide +kernel) (by decide +kernel)) (
  ce_fn (P := P_X9_typeAt))))))))
noncomputable def ta_X9_typeAt : Nat → Option ce_N := (ce_fd tb_X9_typeAt_0)
theorem tx_X9_typeAt : ∀ pc f, ta_X9_typeAt pc = some f → P_X9_typeAt pc f := (ce_fd_ok (P := P_X9_typeAt) tk_X9_typeAt_0)
noncomputable def F_X9_typeAt : ce_C := ce_M ta_X9_typeAt 2 1 6 1000000
theorem m_X9_typeAt : ∀ l : Launch, l.stackTraces = false → ce_MS l yX9_typeAt (.code yX9_typeAt cX9_typeAt 2 (some (.object "Carcasswright$ModuleType"))) 0 1 6 F_X9_typeAt := fun l hl => ce_met hl (by decide +kernel) tx_X9_typeAt
theorem hp_X9_typeAt : yX9_typeAt.cls ≠ "java/lang/invoke/MethodHandle" ∧ yX9_typeAt.cls ≠ "java/lang/invoke/VarHandle" ∧ (parseMethodDescriptor yX9_typeAt.desc).map (fun d => d.parameters.length) = some 1 := by decide +kernel
abbrev P_J0_checkBoundsOffCount_cabcc : Nat → ce_N → Prop := ce_OKN "java/lang/String" "checkBoundsOffCount" cJ0_checkBoundsOffCount_cabcc 3 (some .int) 1 (some [])
noncomputable def tb_J0_checkBoundsOffCount_cabcc_0 : List (Nat × ce_N) := [(0, ce_li (ce_iload 0 1)),
  (1, ce_li (ce_iload 1 2)),
  (2, ce_li (ce_iload 2 3)),
  (3, ce_li (ce_push (.inr (.inr (.inl (.inr 7)))) 6)),
  (6, ce_call 4 0 0 9 (.inr true) F_J3_checkFromIndexSize_8c36e),
  (9, ce_reti .int)]
theorem tk_J0_checkBoundsOffCount_cabcc_0 : ∀ x ∈ tb_J0_checkBoundsOffCount_cabcc_0, P_J0_checkBoundsOffCount_cabcc x.1 x.2 :=
  ce_fc (P := P_J0_checkBoundsOffCount_cabcc) (ok_li (ok_iload_n dJ0_checkBoundsOffCount_cabcc_0 rfl)) (
  ce_fc (P := P_J0_checkBoundsOffCount_cabcc) (ok_li (ok_iload_n dJ0_checkBoundsOffCount_cabcc_1 rfl)) (
  ce_fc (P := P_J0_checkBoundsOffCount_cabcc) (ok_li (ok_iload_n dJ0_checkBoundsOffCount_cabcc_2 rfl)) (
  ce_fc (P := P_J0_checkBoundsOffCount_cabcc) (ok_li (ok_gets (sv := (.inr (.inr (.inl (.inr 7))))) ce_z5 dJ0_checkBoundsOffCount_cabcc_3 gw_1643 rfl)) (
  ce_fc (P := P_J0_checkBoundsOffCount_cabcc) (ok_call (ru_S m_J3_checkFromIndexSize_8c36e (by decide) (by decide) gw_2025 gw_2023 gw_2024 gw_27 hp_J3_checkFromIndexSize_8c36e dJ0_checkBoundsOffCount_cabcc_6) ca_t) (
  ce_fc (P := P_J0_checkBoundsOffCount_cabcc) (ok_reti dJ0_checkBoundsOffCount_cabcc_9 rfl) (
  ce_fn (P := P_J0_checkBoundsOffCount_cabcc)))))))
noncomputable def ta_J0_checkBoundsOffCount_cabcc : Nat → Option ce_N := (ce_fd tb_J0_checkBoundsOffCount_cabcc_0)
theorem tx_J0_checkBoundsOffCount_cabcc : ∀ pc f, ta_J0_checkBoundsOffCount_cabcc pc = some f → P_J0_checkBoundsOffCount_cabcc pc f := (ce_fd_ok (P := P_J0_checkBoundsOffCount_cabcc) tk_J0_checkBoundsOffCount_cabcc_0)
noncomputable def F_J0_checkBoundsOffCount_cabcc : ce_C := ce_M ta_J0_checkBoundsOffCount_cabcc 3 0 0 1000000
theorem m_J0_checkBoundsOffCount_cabcc : ∀ l : Launch, l.stackTraces = false → ce_MS l yJ0_checkBoundsOffCount_cabcc (.code yJ0_checkBoundsOffCount_cabcc cJ0_checkBoundsOffCount_cabcc 3 (some .int)) 1 0 0 F_J0_checkBoundsOffCount_cabcc := fun l hl => ce_met hl (by decide +kernel) tx_J0_checkBoundsOffCount_cabcc
theorem hp_J0_checkBoundsOffCount_cabcc : yJ0_checkBoundsOffCount_cabcc.cls ≠ "java/lang/invoke/MethodHandle" ∧ yJ0_checkBoundsOffCount_cabcc.cls ≠ "java/lang/invoke/VarHandle" ∧ (parseMethodDescriptor yJ0_checkBoundsOffCount_cabcc.desc).map (fun d => d.parameters.length) = some 3 := by decide +kernel
abbrev P_J0_checkIndex_df160 : Nat → ce_N → Prop := ce_OKN "java/lang/String" "checkIndex" cJ0_checkIndex_df160 2 none 1 (some [])
noncomputable def tb_J0_checkIndex_df160_0 : List (Nat × ce_N) := [(0, ce_li (ce_iload 0 1)),
  (1, ce_li (ce_iload 1 2)),
  (2, ce_li (ce_push (.inr (.inr (.inl (.inr 7)))) 5)),
  (5, ce_call 3 0 0 8 (.inr true) F_J3_checkIndex_8e157),
  (8, ce_li (ce_pop 9)),
  (9, ce_ret0)]
theorem tk_J0_checkIndex_df160_0 : ∀ x ∈ tb_J0_checkIndex_df160_0, P_J0_checkIndex_df160 x.1 x.2 :=
  ce_fc (P := P_J0_checkIndex_df160) (ok_li (ok_iload_n dJ0_checkIndex_df160_0 rfl)) (
  ce_fc (P := P_J0_checkIndex_df160) (ok_li (ok_iload_n dJ0_checkIndex_df160_1 rfl)) (
  ce_fc (P := P_J0_checkIndex_df160) (ok_li (ok_gets (sv := (.inr (.inr (.inl (.inr 7))))) ce_z5 dJ0_checkIndex_df160_2 gw_1643 rfl)) (
  ce_fc (P := P_J0_checkIndex_df160) (ok_call (ru_S m_J3_checkIndex_8e157 (by decide) (by decide) gw_1863 gw_2051 gw_1862 gw_27 hp_J3_checkIndex_8e157 dJ0_checkIndex_df160_5) ca_t) (
  ce_fc (P := P_J0_checkIndex_df160) (ok_li (ok_pop dJ0_checkIndex_df160_8)) (
  ce_fc (P := P_J0_checkIndex_df160) (ok_ret0 dJ0_checkIndex_df160_9 rfl) (
  ce_fn (P := P_J0_checkIndex_df160)))))))
noncomputable def ta_J0_checkIndex_df160 : Nat → Option ce_N := (ce_fd tb_J0_checkIndex_df160_0)
theorem tx_J0_checkIndex_df160 : ∀ pc f, ta_J0_checkIndex_df160 pc = some f → P_J0_checkIndex_df160 pc f := (ce_fd_ok (P := P_J0_checkIndex_df160) tk_J0_checkIndex_df160_0)
noncomputable def F_J0_checkIndex_df160 : ce_C := ce_M ta_J0_checkIndex_df160 2 0 0 1000000
theorem m_J0_checkIndex_df160 : ∀ l : Launch, l.stackTraces = false → ce_MS l yJ0_checkIndex_df160 (.code yJ0_checkIndex_df160 cJ0_checkIndex_df160 2 none) 1 0 0 F_J0_checkIndex_df160 := fun l hl => ce_met hl (by decide +kernel) tx_J0_checkIndex_df160
theorem hp_J0_checkIndex_df160 : yJ0_checkIndex_df160.cls ≠ "java/lang/invoke/MethodHandle" ∧ yJ0_checkIndex_df160.cls ≠ "java/lang/invoke/VarHandle" ∧ (parseMethodDescriptor yJ0_checkIndex_df160.desc).map (fun d => d.parameters.length) = some 2 := by decide +kernel
abbrev P_J0_getBytes_840e7 : Nat → ce_N → Prop := ce_OKN "java/lang/String" "getBytes" cJ0_getBytes_840e7 4 none 1 (some [])
noncomputable def tb_J0_getBytes_840e7_0 : List (Nat × ce_N) := [(0, ce_li (ce_aload 0 1)),
  (1, ce_call 1 0 0 4 (.inr true) (ce_CV 0 F_J0_coder_7d493)),
  (4, ce_li (ce_iload 3 5)),
  (5, ce_li (ce_icmp true false true 28 8)),
  (8, ce_li (ce_aload 0 9)),
  (9, ce_li (ce_gets 0 12)),
  (12, ce_li (ce_push (.inl (.inl (0))) 13)),
  (13, ce_li (ce_aload 1 14)),
  (14, ce_li (ce_iload 2 15)),
  (15, ce_li (ce_iload 3 16)),
  (16, ce_li (ce_bin (ce_num fun x y => x <<< (y &&& 31)) 17)),
  (17, ce_li (ce_aload 0 18)),
  (18, ce_li (ce_gets 0 21)),
  (21, ce_li (ce_alen 22))]
theorem tk_J0_getBytes_840e7_0 : ∀ x ∈ tb_J0_getBytes_840e7_0, P_J0_getBytes_840e7 x.1 x.2 :=
  ce_fc (P := P_J0_getBytes_840e7) (ok_li (ok_aload_n dJ0_getBytes_840e7_0 rfl)) (
  ce_fc (P := P_J0_getBytes_840e7) (ok_call (ru_V (ci := 0) (C := RJ0) (Tf := TJ0) (N := 4) m_J0_coder_7d493 (by decide) (by decide) rfl gw_1613 gw_1610 gw_1611 gw_1612 gw_23 ⟨rfl, hp_J0_coder_7d493⟩ dJ0_getBytes_840e7_1) ca_t) (
  ce_fc (P := P_J0_getBytes_840e7) (ok_li (ok_iload_n dJ0_getBytes_840e7_4 rfl)) (
  ce_fc (P := P_J0_getBytes_840e7) (ok_li (ok_icmp_ne dJ0_getBytes_840e7_5 (by decide))) (
  ce_fc (P := P_J0_getBytes_840e7) (ok_li (ok_aload_n dJ0_getBytes_840e7_8 rfl)) (
  ce_fc (P := P_J0_getBytes_840e7) (ok_li (ok_gets0 dJ0_getBytes_840e7_9 gw_2141)) (
  ce_fc (P := P_J0_getBytes_840e7) (ok_li (ok_iconst dJ0_getBytes_840e7_12)) (
  ce_fc (P := P_J0_getBytes_840e7) (ok_li (ok_aload_n dJ0_getBytes_840e7_13 rfl)) (
  ce_fc (P := P_J0_getBytes_840e7) (ok_li (ok_iload_n dJ0_getBytes_840e7_14 rfl)) (
  ce_fc (P := P_J0_getBytes_840e7) (ok_li (ok_iload_n dJ0_getBytes_840e7_15 rfl)) (
  ce_fc (P := P_J0_getBytes_840e7) (ok_li (ok_ishl dJ0_getBytes_840e7_16)) (
  ce_fc (P := P_J0_getBytes_840e7) (ok_li (ok_aload_n dJ0_getBytes_840e7_17 rfl)) (
  ce_fc (P := P_J0_getBytes_840e7) (ok_li (ok_gets0 dJ0_getBytes_840e7_18 gw_2141)) (
  ce_fc (P := P_J0_getBytes_840e7) (ok_li (ok_alen dJ0_getBytes_840e7_21)) (
  ce_fn (P := P_J0_getBytes_840e7)))))))))))))))
noncomputable def tb_J0_getBytes_840e7_1 : List (Nat × ce_N) := [(22, ce_li (ce_cpb 25)),
  (25, ce_li (ce_goto 43)),
  (43, ce_ret0)]
theorem tk_J0_getBytes_840e7_1 : ∀ x ∈ tb_J0_getBytes_840e7_1, P_J0_getBytes_840e7 x.1 x.2 :=
  ce_fc (P := P_J0_getBytes_840e7) (ok_li (ok_cpb dJ0_getBytes_840e7_22 gw_2030 gw_1782 gw_1781 gw_32)) (
  ce_fc (P := P_J0_getBytes_840e7) (ok_li (ok_goto dJ0_getBytes_840e7_25 (by decide))) (
  ce_fc (P := P_J0_getBytes_840e7) (ok_ret0 dJ0_getBytes_840e7_43 rfl) (
  ce_fn (P := P_J0_getBytes_840e7))))
noncomputable def ta_J0_getBytes_840e7 : Nat → Option ce_N := (ce_tr 22 (ce_fd tb_J0_getBytes_840e7_0) (ce_fd tb_J0_getBytes_840e7_1))
theorem tx_J0_getBytes_840e7 : ∀ pc f, ta_J0_getBytes_840e7 pc = some f → P_J0_getBytes_840e7 pc f := (ce_tr_ok (P := P_J0_getBytes_840e7) (ce_fd_ok (P := P_J0_getBytes_840e7) tk_J0_getBytes_840e7_0) (ce_fd_ok (P := P_J0_getBytes_840e7) tk_J0_getBytes_840e7_1))
noncomputable def F_J0_getBytes_840e7 : ce_C := ce_M ta_J0_getBytes_840e7 4 0 0 1000000
theorem m_J0_getBytes_840e7 : ∀ l : Launch, l.stackTraces = false → ce_MS l yJ0_getBytes_840e7 (.code yJ0_getBytes_840e7 cJ0_getBytes_840e7 4 none) 1 0 0 F_J0_getBytes_840e7 := fun l hl => ce_met hl (by decide +kernel) tx_J0_getBytes_840e7
theorem hp_J0_getBytes_840e7 : yJ0_getBytes_840e7.cls ≠ "java/lang/invoke/MethodHandle" ∧ yJ0_getBytes_840e7.cls ≠ "java/lang/invoke/VarHandle" ∧ (parseMethodDescriptor yJ0_getBytes_840e7.desc).map (fun d => d.parameters.length) = some 3 := by decide +kernel
abbrev P_J0_length_8abf5 : Nat → ce_N → Prop := ce_OKN "java/lang/String" "length" cJ0_length_8abf5 1 (some .int) 1 (some [])
noncomputable def tb_J0_length_8abf5_0 : List (Nat × ce_N) := [(0, ce_li (ce_aload 0 1)),
  (1, ce_li (ce_gets 0 4)),
  (4, ce_li (ce_alen 5)),
  (5, ce_li (ce_aload 0 6)),
  (6, ce_call 1 0 0 9 (.inr true) (ce_CV 0 F_J0_coder_7d493)),
  (9, ce_li (ce_bin ce_shr 10)),
  (10, ce_reti .int)]
theorem tk_J0_length_8abf5_0 : ∀ x ∈ tb_J0_length_8abf5_0, P_J0_length_8abf5 x.1 x.2 :=
  ce_fc (P := P_J0_length_8abf5) (ok_li (ok_aload_n dJ0_length_8abf5_0 rfl)) (
  ce_fc (P := P_J0_length_8abf5) (ok_li (ok_gets0 dJ0_length_8abf5_1 gw_2141)) (
  ce_fc (P := P_J0_length_8abf5) (ok_li (ok_alen dJ0_length_8abf5_4)) (
  ce_fc (P := P_J0_length_8abf5) (ok_li (ok_aload_n dJ0_length_8abf5_5 rfl)) (
  ce_fc (P := P_J0_length_8abf5) (ok_call (ru_V (ci := 0) (C := RJ0) (Tf := TJ0) (N := 4) m_J0_coder_7d493 (by decide) (by decide) rfl gw_1613 gw_1610 gw_1611 gw_1612 gw_23 ⟨rfl, hp_J0_coder_7d493⟩ dJ0_length_8abf5_6) ca_t) (
  ce_fc (P := P_J0_length_8abf5) (ok_li (ok_ishr dJ0_length_8abf5_9)) (
  ce_fc (P := P_J0_length_8abf5) (ok_reti dJ0_length_8abf5_10 rfl) (
  ce_fn (P := P_J0_length_8abf5))))))))
noncomputable def ta_J0_length_8abf5 : Nat → Option ce_N := (ce_fd tb_J0_length_8abf5_0)
theorem tx_J0_length_8abf5 : ∀ pc f, ta_J0_length_8abf5 pc = some f → P_J0_length_8abf5 pc f := (ce_fd_ok (P := P_J0_length_8abf5) tk_J0_length_8abf5_0)
noncomputable def F_J0_length_8abf5 : ce_C := ce_M ta_J0_length_8abf5 1 0 0 1000000
theorem m_J0_length_8abf5 : ∀ l : Launch, l.stackTraces = false → ce_MS l yJ0_length_8abf5 (.code yJ0_length_8abf5 cJ0_length_8abf5 1 (some .int)) 1 0 0 F_J0_length_8abf5 := fun l hl => ce_met hl (by decide +kernel) tx_J0_length_8abf5
theorem hp_J0_length_8abf5 : yJ0_length_8abf5.cls ≠ "java/lang/invoke/MethodHandle" ∧ yJ0_length_8abf5.cls ≠ "java/lang/invoke/VarHandle" ∧ (parseMethodDescriptor yJ0_length_8abf5.desc).map (fun d => d.parameters.length) = some 0 := by decide +kernel
abbrev P_J1_indexOf_4cfef : Nat → ce_N → Prop := ce_OKN "java/lang/StringLatin1" "indexOf" cJ1_indexOf_4cfef 4 (some .int) 1 (some [])
noncomputable def tb_J1_indexOf_4cfef_0 : List (Nat × ce_N) := [(0, ce_li (ce_iload 1 1)),
  (1, ce_call 1 0 0 4 (.inr true) F_J1_canEncode_9a6ad),
  (4, ce_li (ce_if true false true 9 7)),
  (7, ce_li (ce_push (.inl (.inl (-1))) 8)),
  (8, ce_reti .int),
  (9, ce_li (ce_iload 2 10)),
  (10, ce_li (ce_push (.inl (.inl (0))) 11)),
  (11, ce_li (ce_mm true 14)),
  (14, ce_li (ce_istore 2 15 4)),
  (15, ce_li (ce_iload 3 16)),
  (16, ce_li (ce_aload 0 17)),
  (17, ce_li (ce_alen 18)),
  (18, ce_li (ce_mm false 21)),
  (21, ce_li (ce_istore 3 22 4))]
theorem tk_J1_indexOf_4cfef_0 : ∀ x ∈ tb_J1_indexOf_4cfef_0, P_J1_indexOf_4cfef x.1 x.2 :=
  ce_fc (P := P_J1_indexOf_4cfef) (ok_li (ok_iload_n dJ1_indexOf_4cfef_0 rfl)) (
  ce_fc (P := P_J1_indexOf_4cfef) (ok_call (ru_S m_J1_canEncode_9a6ad (by decide) (by decide) gw_1619 gw_1617 gw_1618 gw_24 hp_J1_canEncode_9a6ad dJ1_indexOf_4cfef_1) ca_t) (
  ce_fc (P := P_J1_indexOf_4cfef) (ok_li (ok_if_ne dJ1_indexOf_4cfef_4 (by decide))) (
  ce_fc (P := P_J1_indexOf_4cfef) (ok_li (ok_iconst dJ1_indexOf_4cfef_7)) (
  ce_fc (P := P_J1_indexOf_4cfef) (ok_reti dJ1_indexOf_4cfef_8 rfl) (
  ce_fc (P := P_J1_indexOf_4cfef) (ok_li (ok_iload_n dJ1_indexOf_4cfef_9 rfl)) (
  ce_fc (P := P_J1_indexOf_4cfef) (ok_li (ok_iconst dJ1_indexOf_4cfef_10)) (
  ce_fc (P := P_J1_indexOf_4cfef) (ok_li (ok_mmax dJ1_indexOf_4cfef_11 gw_1620 gw_593 gw_25 gw_594)) (
  ce_fc (P := P_J1_indexOf_4cfef) (ok_li (ok_istore_n dJ1_indexOf_4cfef_14 rfl)) (
  ce_fc (P := P_J1_indexOf_4cfef) (ok_li (ok_iload_n dJ1_indexOf_4cfef_15 rfl)) (
  ce_fc (P := P_J1_indexOf_4cfef) (ok_li (ok_aload_n dJ1_indexOf_4cfef_16 rfl)) (
  ce_fc (P := P_J1_indexOf_4cfef) (ok_li (ok_alen dJ1_indexOf_4cfef_17)) (
  ce_fc (P := P_J1_indexOf_4cfef) (ok_li (ok_mmin dJ1_indexOf_4cfef_18 gw_1621 gw_604 gw_25 gw_605)) (
  ce_fc (P := P_J1_indexOf_4cfef) (ok_li (ok_istore_n dJ1_indexOf_4cfef_21 rfl)) (
  ce_fn (P := P_J1_indexOf_4cfef)))))))))))))))
noncomputable def tb_J1_indexOf_4cfef_1 : List (Nat × ce_N) := [(22, ce_li (ce_iload 2 23)),
  (23, ce_li (ce_iload 3 24)),
  (24, ce_li (ce_icmp false false false 29 27)),
  (29, ce_li (ce_aload 0 30)),
  (30, ce_li (ce_iload 1 31)),
  (31, ce_li (ce_iload 2 32)),
  (32, ce_li (ce_iload 3 33)),
  (33, ce_call 4 0 0 36 (.inr true) F_J1_indexOfChar_4cfef),
  (36, ce_reti .int)]
theorem tk_J1_indexOf_4cfef_1 : ∀ x ∈ tb_J1_indexOf_4cfef_1, P_J1_indexOf_4cfef x.1 x.2 :=
  ce_fc (P := P_J1_indexOf_4cfef) (ok_li (ok_iload_n dJ1_indexOf_4cfef_22 rfl)) (
  ce_fc (P := P_J1_indexOf_4cfef) (ok_li (ok_iload_n dJ1_indexOf_4cfef_23 rfl)) (
  ce_fc (P := P_J1_indexOf_4cfef) (ok_li (ok_icmp_lt dJ1_indexOf_4cfef_24 (by decide))) (
  ce_fc (P := P_J1_indexOf_4cfef) (ok_li (ok_aload_n dJ1_indexOf_4cfef_29 rfl)) (
  ce_fc (P := P_J1_indexOf_4cfef) (ok_li (ok_iload_n dJ1_indexOf_4cfef_30 rfl)) (
  ce_fc (P := P_J1_indexOf_4cfef) (ok_li (ok_iload_n dJ1_indexOf_4cfef_31 rfl)) (
  ce_fc (P := P_J1_indexOf_4cfef) (ok_li (ok_iload_n dJ1_indexOf_4cfef_32 rfl)) (
  ce_fc (P := P_J1_indexOf_4cfef) (ok_call (ru_S m_J1_indexOfChar_4cfef (by decide) (by decide) gw_1624 gw_1622 gw_1623 gw_24 hp_J1_indexOfChar_4cfef dJ1_indexOf_4cfef_33) ca_t) (
  ce_fc (P := P_J1_indexOf_4cfef) (ok_reti dJ1_indexOf_4cfef_36 rfl) (
  ce_fn (P := P_J1_indexOf_4cfef))))))))))
noncomputable def ta_J1_indexOf_4cfef : Nat → Option ce_N := (ce_tr 22 (ce_fd tb_J1_indexOf_4cfef_0) (ce_fd tb_J1_indexOf_4cfef_1))
theorem tx_J1_indexOf_4cfef : ∀ pc f, ta_J1_indexOf_4cfef pc = some f → P_J1_indexOf_4cfef pc f := (ce_tr_ok (P := P_J1_indexOf_4cfef) (ce_fd_ok (P := P_J1_indexOf_4cfef) tk_J1_indexOf_4cfef_0) (ce_fd_ok (P := P_J1_indexOf_4cfef) tk_J1_indexOf_4cfef_1))
noncomputable def F_J1_indexOf_4cfef : ce_C := ce_M ta_J1_indexOf_4cfef 4 0 0 1000000
theorem m_J1_indexOf_4cfef : ∀ l : Launch, l.stackTraces = false → ce_MS l yJ1_indexOf_4cfef (.code yJ1_indexOf_4cfef cJ1_indexOf_4cfef 4 (some .int)) 1 0 0 F_J1_indexOf_4cfef := fun l hl => ce_met hl (by decide +kernel) tx_J1_indexOf_4cfef
theorem hp_J1_indexOf_4cfef : yJ1_indexOf_4cfef.cls ≠ "java/lang/invoke/MethodHandle" ∧ yJ1_indexOf_4cfef.cls ≠ "java/lang/invoke/VarHandle" ∧ (parseMethodDescriptor yJ1_indexOf_4cfef.desc).map (fun d => d.parameters.length) = some 4 := by decide +kernel
abbrev P_J2_newBytesFor_77867 : Nat → ce_N → Prop := ce_OKN "java/lang/StringUTF16" "newBytesFor" cJ2_newBytesFor_77867 1 (some (.array .byte)) 1 (some [])
noncomputable def tb_J2_newBytesFor_77867_0 : List (Nat × ce_N) := [(0, ce_li (ce_iload 0 1)),
  (1, ce_call 1 0 0 4 (.inr true) F_J2_newBytesLength_0f7a4),
  (4, ce_li (ce_newa 2 2 6)),
  (6, ce_reta)]
theorem tk_J2_newBytesFor_77867_0 : ∀ x ∈ tb_J2_newBytesFor_77867_0, P_J2_newBytesFor_77867 x.1 x.2 :=
  ce_fc (P := P_J2_newBytesFor_77867) (ok_li (ok_iload_n dJ2_newBytesFor_77867_0 rfl)) (
  ce_fc (P := P_J2_newBytesFor_77867) (ok_call (ru_S m_J2_newBytesLength_0f7a4 (by decide) (by decide) gw_1940 gw_1938 gw_1939 gw_26 hp_J2_newBytesLength_0f7a4 dJ2_newBytesFor_77867_1) ca_t) (
  ce_fc (P := P_J2_newBytesFor_77867) (ok_li (ok_newa_byte dJ2_newBytesFor_77867_4 gw_1582)) (
  ce_fc (P := P_J2_newBytesFor_77867) (ok_reta dJ2_newBytesFor_77867_6 rfl (Or.inr ⟨_, rfl⟩)) (
  ce_fn (P := P_J2_newBytesFor_77867)))))
noncomputable def ta_J2_newBytesFor_77867 : Nat → Option ce_N := (ce_fd tb_J2_newBytesFor_77867_0)
theorem tx_J2_newBytesFor_77867 : ∀ pc f, ta_J2_newBytesFor_77867 pc = some f → P_J2_newBytesFor_77867 pc f := (ce_fd_ok (P := P_J2_newBytesFor_77867) tk_J2_newBytesFor_77867_0)
noncomputable def F_J2_newBytesFor_77867 : ce_C := ce_M ta_J2_newBytesFor_77867 1 1 32 1000000
theorem m_J2_newBytesFor_77867 : ∀ l : Launch, l.stackTraces = false → ce_MS l yJ2_newBytesFor_77867 (.code yJ2_newBytesFor_77867 cJ2_newBytesFor_77867 1 (some (.array .byte))) 1 1 32 F_J2_newBytesFor_77867 := fun l hl => ce_met hl (by decide +kernel) tx_J2_newBytesFor_77867
theorem hp_J2_newBytesFor_77867 : yJ2_newBytesFor_77867.cls ≠ "java/lang/invoke/MethodHandle" ∧ yJ2_newBytesFor_77867.cls ≠ "java/lang/invoke/VarHandle" ∧ (parseMethodDescriptor yJ2_newBytesFor_77867.desc).map (fun d => d.parameters.length) = some 1 := by decide +kernel
abbrev P_J4_init_da8c8 : Nat → ce_N → Prop := ce_OKN "java/lang/StringBuilder" "<init>" cJ4_init_da8c8 1 none 1 (some [])
noncomputable def tb_J4_init_da8c8_0 : List (Nat × ce_N) := [(0, ce_li (ce_aload 0 1)),
  (1, ce_li (ce_push (.inl (.inl (16))) 3)),
  (3, ce_call 2 1 16 6 (.inr true) (ce_CI F_J5_init_d00df)),
  (6, ce_ret0)]
theorem tk_J4_init_da8c8_0 : ∀ x ∈ tb_J4_init_da8c8_0, P_J4_init_da8c8 x.1 x.2 :=
  ce_fc (P := P_J4_init_da8c8) (ok_li (ok_aload_n dJ4_init_da8c8_0 rfl)) (
  ce_fc (P := P_J4_init_da8c8) (ok_li (ok_bipush dJ4_init_da8c8_1 (by decide))) (
  ce_fc (P := P_J4_init_da8c8) (ok_call (ru_I m_J5_init_d00df (by decide) (by decide) gw_1932 gw_1930 gw_1931 gw_38 rfl hp_J5_init_d00df dJ4_init_da8c8_3) ca_t) (
  ce_fc (P := P_J4_init_da8c8) (ok_ret0 dJ4_init_da8c8_6 rfl) (
  ce_fn (P := P_J4_init_da8c8)))))
noncomputable def ta_J4_init_da8c8 : Nat → Option ce_N := (ce_fd tb_J4_init_da8c8_0)
theorem tx_J4_init_da8c8 : ∀ pc f, ta_J4_init_da8c8 pc = some f → P_J4_init_da8c8 pc f := (ce_fd_ok (P := P_J4_init_da8c8) tk_J4_init_da8c8_0)
noncomputable def F_J4_init_da8c8 : ce_C := ce_M ta_J4_init_da8c8 1 1 16 1000000
theorem m_J4_init_da8c8 : ∀ l : Launch, l.stackTraces = false → ce_MS l yJ4_init_da8c8 (.code yJ4_init_da8c8 cJ4_init_da8c8 1 none) 1 1 16 F_J4_init_da8c8 := fun l hl => ce_met hl (by decide +kernel) tx_J4_init_da8c8
theorem hp_J4_init_da8c8 : yJ4_init_da8c8.cls ≠ "java/lang/invoke/MethodHandle" ∧ yJ4_init_da8c8.cls ≠ "java/lang/invoke/VarHandle" ∧ (parseMethodDescriptor yJ4_init_da8c8.desc).map (fun d => d.parameters.length) = some 0 := by decide +kernel
abbrev P_J4_length_8abf5 : Nat → ce_N → Prop := ce_OKN "java/lang/StringBuilder" "length" cJ4_length_8abf5 1 (some .int) 1 (some [])
noncomputable def tb_J4_length_8abf5_0 : List (Nat × ce_N) := [(0, ce_li (ce_aload 0 1)),
  (1, ce_call 1 0 0 4 (.inr true) (ce_CV 1 F_J5_length_8abf5)),
  (4, ce_reti .int)]
theorem tk_J4_length_8abf5_0 : ∀ x ∈ tb_J4_length_8abf5_0, P_J4_length_8abf5 x.1 x.2 :=
  ce_fc (P := P_J4_length_8abf5) (ok_li (ok_aload_n dJ4_length_8abf5_0 rfl)) (
  ce_fc (P := P_J4_length_8abf5) (ok_call (ru_SU (ci := 1) (C := RJ4) (Tf := TJ4) (N := 4) m_J5_length_8abf5 (by decide) (by decide) rfl gw_2077 gw_2076 gw_2072 gw_1954 gw_2071 gw_38 ⟨by decide, hp_J5_length_8abf5.2.2⟩ dJ4_length_8abf5_1) ca_t) (
  ce_fc (P := P_J4_length_8abf5) (ok_reti dJ4_length_8abf5_4 rfl) (
  ce_fn (P := P_J4_length_8abf5))))
noncomputable def ta_J4_length_8abf5 : Nat → Option ce_N := (ce_fd tb_J4_length_8abf5_0)
theorem tx_J4_length_8abf5 : ∀ pc f, ta_J4_length_8abf5 pc = some f → P_J4_length_8abf5 pc f := (ce_fd_ok (P := P_J4_length_8abf5) tk_J4_length_8abf5_0)
noncomputable def F_J4_length_8abf5 : ce_C := ce_M ta_J4_length_8abf5 1 0 0 1000000
theorem m_J4_length_8abf5 : ∀ l : Launch, l.stackTraces = false → ce_MS l yJ4_length_8abf5 (.code yJ4_length_8abf5 cJ4_length_8abf5 1 (some .int)) 1 0 0 F_J4_length_8abf5 := fun l hl => ce_met hl (by decide +kernel) tx_J4_length_8abf5
theorem hp_J4_length_8abf5 : yJ4_length_8abf5.cls ≠ "java/lang/invoke/MethodHandle" ∧ yJ4_length_8abf5.cls ≠ "java/lang/invoke/VarHandle" ∧ (parseMethodDescriptor yJ4_length_8abf5.desc).map (fun d => d.parameters.length) = some 0 := by decide +kernel
abbrev P_J7_copyOfRangeByte_39247 : Nat → ce_N → Prop := ce_OKN "java/util/Arrays" "copyOfRangeByte" cJ7_copyOfRangeByte_39247 5 (some (.array .byte)) 1 (some [])
noncomputable def tb_J7_copyOfRangeByte_39247_0 : List (Nat × ce_N) := [(0, ce_li (ce_iload 1 1)),
  (1, ce_li (ce_iload 2 2)),
  (2, ce_call 2 0 0 5 (.inr true) F_J7_checkLength_df160),
  (5, ce_li (ce_iload 2 6)),
  (6, ce_li (ce_iload 1 7)),
  (7, ce_li (ce_bin ce_subo 8)),
  (8, ce_li (ce_istore 3 9 5)),
  (9, ce_li (ce_iload 3 10)),
  (10, ce_li (ce_newa 2 2 12)),
  (12, ce_li (ce_astore 4 14 5)),
  (14, ce_li (ce_aload 0 15)),
  (15, ce_li (ce_iload 1 16)),
  (16, ce_li (ce_aload 4 18)),
  (18, ce_li (ce_push (.inl (.inl (0))) 19))]
theorem tk_J7_copyOfRangeByte_39247_0 : ∀ x ∈ tb_J7_copyOfRangeByte_39247_0, P_J7_copyOfRangeByte_39247 x.1 x.2 :=
  ce_fc (P := P_J7_copyOfRangeByte_39247) (ok_li (ok_iload_n dJ7_copyOfRangeByte_39247_0 rfl)) (
  ce_fc (P := P_J7_copyOfRangeByte_39247) (ok_li (ok_iload_n dJ7_copyOfRangeByte_39247_1 rfl)) (
  ce_fc (P := P_J7_copyOfRangeByte_39247) (ok_call (ru_S m_J7_checkLength_df160 (by decide) (by decide) gw_2087 gw_2085 gw_2086 gw_31 hp_J7_checkLength_df160 dJ7_copyOfRangeByte_39247_2) ca_t) (
  ce_fc (P := P_J7_copyOfRangeByte_39247) (ok_li (ok_iload_n dJ7_copyOfRangeByte_39247_5 rfl)) (
  ce_fc (P := P_J7_copyOfRangeByte_39247) (ok_li (ok_iload_n dJ7_copyOfRangeByte_39247_6 rfl)) (
  ce_fc (P := P_J7_copyOfRangeByte_39247) (ok_li (ok_isub dJ7_copyOfRangeByte_39247_7)) (
  ce_fc (P := P_J7_copyOfRangeByte_39247) (ok_li (ok_istore_n dJ7_copyOfRangeByte_39247_8 rfl)) (
  ce_fc (P := P_J7_copyOfRangeByte_39247) (ok_li (ok_iload_n dJ7_copyOfRangeByte_39247_9 rfl)) (
  ce_fc (P := P_J7_copyOfRangeByte_39247) (ok_li (ok_newa_byte dJ7_copyOfRangeByte_39247_10 gw_1582)) (
  ce_fc (P := P_J7_copyOfRangeByte_39247) (ok_li (ok_astore dJ7_copyOfRangeByte_39247_12)) (
  ce_fc (P := P_J7_copyOfRangeByte_39247) (ok_li (ok_aload_n dJ7_copyOfRangeByte_39247_14 rfl)) (
  ce_fc (P := P_J7_copyOfRangeByte_39247) (ok_li (ok_iload_n dJ7_copyOfRangeByte_39247_15 rfl)) (
  ce_fc (P := P_J7_copyOfRangeByte_39247) (ok_li (ok_aload dJ7_copyOfRangeByte_39247_16)) (
  ce_fc (P := P_J7_copyOfRangeByte_39247) (ok_li (ok_iconst dJ7_copyOfRangeByte_39247_18)) (
  ce_fn (P := P_J7_copyOfRangeByte_39247)))))))))))))))
noncomputable def tb_J7_copyOfRangeByte_39247_1 : List (Nat × ce_N) := [(19, ce_li (ce_aload 0 20)),
  (20, ce_li (ce_alen 21)),
  (21, ce_li (ce_iload 1 22)),
  (22, ce_li (ce_bin ce_subo 23)),
  (23, ce_li (ce_iload 3 24)),
  (24, ce_li (ce_mm false 27)),
  (27, ce_li (ce_cpb 30)),
  (30, ce_li (ce_aload 4 32)),
  (32, ce_reta)]
theorem tk_J7_copyOfRangeByte_39247_1 : ∀ x ∈ tb_J7_copyOfRangeByte_39247_1, P_J7_copyOfRangeByte_39247 x.1 x.2 :=
  ce_fc (P := P_J7_copyOfRangeByte_39247) (ok_li (ok_aload_n dJ7_copyOfRangeByte_39247_19 rfl)) (
  ce_fc (P := P_J7_copyOfRangeByte_39247) (ok_li (ok_alen dJ7_copyOfRangeByte_39247_20)) (
  ce_fc (P := P_J7_copyOfRangeByte_39247) (ok_li (ok_iload_n dJ7_copyOfRangeByte_39247_21 rfl)) (
  ce_fc (P := P_J7_copyOfRangeByte_39247) (ok_li (ok_isub dJ7_copyOfRangeByte_39247_22)) (
  ce_fc (P := P_J7_copyOfRangeByte_39247) (ok_li (ok_iload_n dJ7_copyOfRangeByte_39247_23 rfl)) (
  ce_fc (P := P_J7_copyOfRangeByte_39247) (ok_li (ok_mmin dJ7_copyOfRangeByte_39247_24 gw_1779 gw_604 gw_25 gw_605)) (
  ce_fc (P := P_J7_copyOfRangeByte_39247) (ok_li (ok_cpb dJ7_copyOfRangeByte_39247_27 gw_1780 gw_1782 gw_1781 gw_32)) (
  ce_fc (P := P_J7_copyOfRangeByte_39247) (ok_li (ok_aload dJ7_copyOfRangeByte_39247_30)) (
  ce_fc (P := P_J7_copyOfRangeByte_39247) (ok_reta dJ7_copyOfRangeByte_39247_32 rfl (Or.inr ⟨_, rfl⟩)) (
  ce_fn (P := P_J7_copyOfRangeByte_39247))))))))))
noncomputable def ta_J7_copyOfRangeByte_39247 : Nat → Option ce_N := (ce_tr 19 (ce_fd tb_J7_copyOfRangeByte_39247_0) (ce_fd tb_J7_copyOfRangeByte_39247_1))
theorem tx_J7_copyOfRangeByte_39247 : ∀ pc f, ta_J7_copyOfRangeByte_39247 pc = some f → P_J7_copyOfRangeByte_39247 pc f := (ce_tr_ok (P := P_J7_copyOfRangeByte_39247) (ce_fd_ok (P := P_J7_copyOfRangeByte_39247) tk_J7_copyOfRangeByte_39247_0) (ce_fd_ok (P := P_J7_copyOfRangeByte_39247) tk_J7_copyOfRangeByte_39247_1))
noncomputable def F_J7_copyOfRangeByte_39247 : ce_C := ce_M ta_J7_copyOfRangeByte_39247 5 1 2 1000000
theorem m_J7_copyOfRangeByte_39247 : ∀ l : Launch, l.stackTraces = false → ce_MS l yJ7_copyOfRangeByte_39247 (.code yJ7_copyOfRangeByte_39247 cJ7_copyOfRangeByte_39247 5 (some (.array .byte))) 1 1 2 F_J7_copyOfRangeByte_39247 := fun l hl => ce_met hl (by decide +kernel) tx_J7_copyOfRangeByte_39247
theorem hp_J7_copyOfRangeByte_39247 : yJ7_copyOfRangeByte_39247.cls ≠ "java/lang/invoke/MethodHandle" ∧ yJ7_copyOfRangeByte_39247.cls ≠ "java/lang/invoke/VarHandle" ∧ (parseMethodDescriptor yJ7_copyOfRangeByte_39247.desc).map (fun d => d.parameters.length) = some 3 := by decide +kernel
abbrev P_J7_copyOf_1904c : Nat → ce_N → Prop := ce_OKN "java/util/Arrays" "copyOf" cJ7_copyOf_1904c 2 (some (.array (.object "java/lang/Object"))) 1 (some [])
noncomputable def tb_J7_copyOf_1904c_0 : List (Nat × ce_N) := [(0, ce_li (ce_aload 0 1)),
  (1, ce_li (ce_iload 1 2)),
  (2, ce_li (ce_aload 0 3)),
  (3, ce_li (ce_getC 6)),
  (6, ce_call 3 1 22 9 (.inr true) F_J7_copyOf_6403c),
  (9, ce_reta)]
theorem tk_J7_copyOf_1904c_0 : ∀ x ∈ tb_J7_copyOf_1904c_0, P_J7_copyOf_1904c x.1 x.2 :=
  ce_fc (P := P_J7_copyOf_1904c) (ok_li (ok_aload_n dJ7_copyOf_1904c_0 rfl)) (
  ce_fc (P := P_J7_copyOf_1904c) (ok_li (ok_iload_n dJ7_copyOf_1904c_1 rfl)) (
  ce_fc (P := P_J7_copyOf_1904c) (ok_li (ok_aload_n dJ7_copyOf_1904c_2 rfl)) (
  ce_fc (P := P_J7_copyOf_1904c) (ok_li (ok_getC dJ7_copyOf_1904c_3 gw_1737 gw_2900 gw_1738 gw_1772)) (
  ce_fc (P := P_J7_copyOf_1904c) (ok_call (ru_S m_J7_copyOf_6403c (by decide) (by decide) gw_1775 gw_1773 gw_1774 gw_31 hp_J7_copyOf_6403c dJ7_copyOf_1904c_6) ca_t) (
  ce_fc (P := P_J7_copyOf_1904c) (ok_reta dJ7_copyOf_1904c_9 rfl (Or.inr ⟨_, rfl⟩)) (
  ce_fn (P := P_J7_copyOf_1904c)))))))
noncomputable def ta_J7_copyOf_1904c : Nat → Option ce_N := (ce_fd tb_J7_copyOf_1904c_0)
theorem tx_J7_copyOf_1904c : ∀ pc f, ta_J7_copyOf_1904c pc = some f → P_J7_copyOf_1904c pc f := (ce_fd_ok (P := P_J7_copyOf_1904c) tk_J7_copyOf_1904c_0)
noncomputable def F_J7_copyOf_1904c : ce_C := ce_M ta_J7_copyOf_1904c 2 1 22 1000000
theorem m_J7_copyOf_1904c : ∀ l : Launch, l.stackTraces = false → ce_MS l yJ7_copyOf_1904c (.code yJ7_copyOf_1904c cJ7_copyOf_1904c 2 (some (.array (.object "java/lang/Object")))) 1 1 22 F_J7_copyOf_1904c := fun l hl => ce_met hl (by decide +kernel) tx_J7_copyOf_1904c
theorem hp_J7_copyOf_1904c : yJ7_copyOf_1904c.cls ≠ "java/lang/invoke/MethodHandle" ∧ yJ7_copyOf_1904c.cls ≠ "java/lang/invoke/VarHandle" ∧ (parseMethodDescriptor yJ7_copyOf_1904c.desc).map (fun d => d.parameters.length) = some 2 := by decide +kernel
abbrev P_Jx4a65c_iterator_32c93 : Nat → ce_N → Prop := ce_OKN "java/util/ArrayList" "iterator" cJx4a65c_iterator_32c93 1 (some (.object "java/util/Iterator")) 1 (some [])
noncomputable def tb_Jx4a65c_iterator_32c93_0 : List (Nat × ce_N) := [(0, ce_li (ce_new 2 4 dl_Jx35411 3)),
  (3, ce_li (ce_dup 4)),
  (4, ce_li (ce_aload 0 5)),
  (5, ce_call 2 0 0 8 (.inr true) (ce_CI F_Jx35411_init_45d68)),
  (8, ce_reta)]
theorem tk_Jx4a65c_iterator_32c93_0 : ∀ x ∈ tb_Jx4a65c_iterator_32c93_0, P_Jx4a65c_iterator_32c93 x.1 x.2 :=
  ce_fc (P := P_Jx4a65c_iterator_32c93) (ok_li (ok_new (ci := 2) (C := RJx35411) (T := TJx35411) (N := 4) (ty0 := tyJx35411) dJx4a65c_iterator_32c93_0 rfl ce_uJx35411 tyJx35411_ok gw_1801 gw_1802 gw_34 dv_Jx35411 rfl)) (
  ce_fc (P := P_Jx4a65c_iterator_32c93) (ok_li (ok_dup dJx4a65c_iterator_32c93_3)) (
  ce_fc (P := P_Jx4a65c_iterator_32c93) (ok_li (ok_aload_n dJx4a65c_iterator_32c93_4 rfl)) (
  ce_fc (P := P_Jx4a65c_iterator_32c93) (ok_call (ru_I m_Jx35411_init_45d68 (by decide) (by decide) gw_1805 gw_1803 gw_1804 gw_34 rfl hp_Jx35411_init_45d68 dJx4a65c_iterator_32c93_5) ca_t) (
  ce_fc (P := P_Jx4a65c_iterator_32c93) (ok_reta dJx4a65c_iterator_32c93_8 rfl (Or.inl ⟨_, rfl⟩)) (
  ce_fn (P := P_Jx4a65c_iterator_32c93))))))
noncomputable def ta_Jx4a65c_iterator_32c93 : Nat → Option ce_N := (ce_fd tb_Jx4a65c_iterator_32c93_0)
theorem tx_Jx4a65c_iterator_32c93 : ∀ pc f, ta_Jx4a65c_iterator_32c93 pc = some f → P_Jx4a65c_iterator_32c93 pc f := (ce_fd_ok (P := P_Jx4a65c_iterator_32c93) tk_Jx4a65c_iterator_32c93_0)
noncomputable def F_Jx4a65c_iterator_32c93 : ce_C := ce_M ta_Jx4a65c_iterator_32c93 1 1 4 1000000
theorem m_Jx4a65c_iterator_32c93 : ∀ l : Launch, l.stackTraces = false → ce_MS l yJx4a65c_iterator_32c93 (.code yJx4a65c_iterator_32c93 cJx4a65c_iterator_32c93 1 (some (.object "java/util/Iterator"))) 1 1 4 F_Jx4a65c_iterator_32c93 := fun l hl => ce_met hl (by decide +kernel) tx_Jx4a65c_iterator_32c93
theorem hp_Jx4a65c_iterator_32c93 : yJx4a65c_iterator_32c93.cls ≠ "java/lang/invoke/MethodHandle" ∧ yJx4a65c_iterator_32c93.cls ≠ "java/lang/invoke/VarHandle" ∧ (parseMethodDescriptor yJx4a65c_iterator_32c93.desc).map (fun d => d.parameters.length) = some 0 := by decide +kernel
abbrev P_Jxc12de_init_da8c8 : Nat → ce_N → Prop := ce_OKN "java/util/AbstractList" "<init>" cJxc12de_init_da8c8 1 none 1 (some [])
noncomputable def tb_Jxc12de_init_da8c8_0 : List (Nat × ce_N) := [(0, ce_li (ce_aload 0 1)),
  (1, ce_call 1 0 0 4 (.inr true) (ce_CI F_Jxa1e45_init_da8c8)),
  (4, ce_li (ce_aload 0 5)),
  (5, ce_li (ce_push (.inl (.inl (0))) 6)),
  (6, ce_li (ce_putf (tyJx4a65c 0) 3 0 9)),
  (9, ce_ret0)]
theorem tk_Jxc12de_init_da8c8_0 : ∀ x ∈ tb_Jxc12de_init_da8c8_0, P_Jxc12de_init_da8c8 x.1 x.2 :=
  ce_fc (P := P_Jxc12de_init_da8c8) (ok_li (ok_aload_n dJxc12de_init_da8c8_0 rfl)) (
  ce_fc (P := P_Jxc12de_init_da8c8) (ok_call (ru_I m_Jxa1e45_init_da8c8 (by decide) (by decide) gw_1501 gw_1499 gw_1500 gw_14 rfl hp_Jxa1e45_init_da8c8 dJxc12de_init_da8c8_1) ca_t) (
  ce_fc (P := P_Jxc12de_init_da8c8) (ok_li (ok_aload_n dJxc12de_init_da8c8_4 rfl)) (
  ce_fc (P := P_Jxc12de_init_da8c8) (ok_li (ok_iconst dJxc12de_init_da8c8_5)) (
  ce_fc (P := P_Jxc12de_init_da8c8) (ok_li (ok_putf (ci := 3) (k := 0) (C := RJx4a65c) (T := TJx4a65c) (N := 3) (ty0 := tyJx4a65c) dJxc12de_init_da8c8_6 rfl ce_uJx4a65c (by decide) gw_1509 (fun _ _ _ _ h => h) tyJx4a65c_ok nmJx4a65c (Or.inl rfl))) (
  ce_fc (P := P_Jxc12de_init_da8c8) (ok_ret0 dJxc12de_init_da8c8_9 rfl) (
  ce_fn (P := P_Jxc12de_init_da8c8)))))))
noncomputable def ta_Jxc12de_init_da8c8 : Nat → Option ce_N := (ce_fd tb_Jxc12de_init_da8c8_0)
theorem tx_Jxc12de_init_da8c8 : ∀ pc f, ta_Jxc12de_init_da8c8 pc = some f → P_Jxc12de_init_da8c8 pc f := (ce_fd_ok (P := P_Jxc12de_init_da8c8) tk_Jxc12de_init_da8c8_0)
noncomputable def F_Jxc12de_init_da8c8 : ce_C := ce_M ta_Jxc12de_init_da8c8 1 0 0 1000000
theorem m_Jxc12de_init_da8c8 : ∀ l : Launch, l.stackTraces = false → ce_MS l yJxc12de_init_da8c8 (.code yJxc12de_init_da8c8 cJxc12de_init_da8c8 1 none) 1 0 0 F_Jxc12de_init_da8c8 := fun l hl => ce_met hl (by decide +kernel) tx_Jxc12de_init_da8c8
theorem hp_Jxc12de_init_da8c8 : yJxc12de_init_da8c8.cls ≠ "java/lang/invoke/MethodHandle" ∧ yJxc12de_init_da8c8.cls ≠ "java/lang/invoke/VarHandle" ∧ (parseMethodDescriptor yJxc12de_init_da8c8.desc).map (fun d => d.parameters.length) = some 0 := by decide +kernel
abbrev P_L_clash : Nat → ce_N → Prop := ce_OKN "CarcasswrightLaw" "clash" cL_clash 4 (some .int) 1 (some [(0, 9, 12, 44)])
noncomputable def tb_L_clash_0 : List (Nat × ce_N) := [(0, ce_li (ce_aload 2 1)),
  (1, ce_li (ce_push (.inl (.inl (0))) 2)),
  (2, ce_li (ce_aload 0 3)),
  (3, ce_li (ce_iload 1 4)),
  (4, ce_call 2 1 6 7 (.inl (2, 13, 3)) (ce_CV 15 F_X11_clash)),
  (13, ce_li (ce_push (.inl (.inl (1))) 14)),
  (14, ce_reti .int)]
theorem tk_L_clash_0 : ∀ x ∈ tb_L_clash_0, P_L_clash x.1 x.2 :=
  ce_fc (P := P_L_clash) (ok_li (ok_aload_n dL_clash_0 rfl)) (
  ce_fc (P := P_L_clash) (ok_li (ok_iconst dL_clash_1)) (
  ce_fc (P := P_L_clash) (ok_li (ok_aload_n dL_clash_2 rfl)) (
  ce_fc (P := P_L_clash) (ok_li (ok_iload_n dL_clash_3 rfl)) (
  ce_fc (P := P_L_clash) (ok_call (ca := .inl (2, 13, 3)) (hh := some [(0, 9, 12, 44)]) (ru_V (ci := 15) (C := RX11) (Tf := TX11) (N := 7) m_X11_clash (by decide) (by decide) rfl gw_1031 gw_1028 gw_1029 gw_1030 gw_1 ⟨rfl, hp_X11_clash⟩ dL_clash_4) (⟨_, _, _, (3 : Fin 4), rfl, rfl, by decide, by decide, gw_848, gn_2, Or.inl ⟨dL_clash_12, rfl, rfl⟩, by decide⟩)) (
  ce_fc (P := P_L_clash) (ok_li (ok_iconst dL_clash_13)) (
  ce_fc (P := P_L_clash) (ok_reti dL_clash_14 rfl) (
  ce_fn (P := P_L_clash))))))))
noncomputable def ta_L_clash : Nat → Option ce_N := (ce_fd tb_L_clash_0)
theorem tx_L_clash : ∀ pc f, ta_L_clash pc = some f → P_L_clash pc f := (ce_fd_ok (P := P_L_clash) tk_L_clash_0)
noncomputable def F_L_clash : ce_C := ce_M ta_L_clash 4 1 6 1000000
theorem m_L_clash : ∀ l : Launch, l.stackTraces = false → ce_MS l yL_clash (.codeWith yL_clash cL_clash 4 (some .int) [(0, 9, 12, 44)]) 1 1 6 F_L_clash := fun l hl => ce_metW hl (by decide +kernel) tx_L_clash
theorem hp_L_clash : yL_clash.cls ≠ "java/lang/invoke/MethodHandle" ∧ yL_clash.cls ≠ "java/lang/invoke/VarHandle" ∧ (parseMethodDescriptor yL_clash.desc).map (fun d => d.parameters.length) = some 3 := by decide +kernel
abbrev P_L_clashNumber : Nat → ce_N → Prop := ce_OKN "CarcasswrightLaw" "clashNumber" cL_clashNumber 4 (some .int) 1 (some [(0, 9, 12, 44)])
noncomputable def tb_L_clashNumber_0 : List (Nat × ce_N) := [(0, ce_li (ce_aload 2 1)),
  (1, ce_li (ce_push (.inl (.inl (0))) 2)),
  (2, ce_li (ce_aload 0 3)),
  (3, ce_li (ce_iload 1 4)),
  (4, ce_call 2 1 6 7 (.inl (2, 13, 3)) (ce_CV 15 F_X11_clashNumber)),
  (13, ce_li (ce_push (.inl (.inl (1))) 14)),
  (14, ce_reti .int)]
theorem tk_L_clashNumber_0 : ∀ x ∈ tb_L_clashNumber_0, P_L_clashNumber x.1 x.2 :=
  ce_fc (P := P_L_clashNumber) (ok_li (ok_aload_n dL_clashNumber_0 rfl)) (
  ce_fc (P := P_L_clashNumber) (ok_li (ok_iconst dL_clashNumber_1)) (
  ce_fc (P := P_L_clashNumber) (ok_li (ok_aload_n dL_clashNumber_2 rfl)) (
  ce_fc (P := P_L_clashNumber) (ok_li (ok_iload_n dL_clashNumber_3 rfl)) (
  ce_fc (P := P_L_clashNumber) (ok_call (ca := .inl (2, 13, 3)) (hh := some [(0, 9, 12, 44)]) (ru_V (ci := 15) (C := RX11) (Tf := TX11) (N := 7) m_X11_clashNumber (by decide) (by decide) rfl gw_1038 gw_1035 gw_1036 gw_1037 gw_1 ⟨rfl, hp_X11_clashNumber⟩ dL_clashNumber_4) (⟨_, _, _, (3 : Fin 4), rfl, rfl, by decide, by decide, gw_848, gn_2, Or.inl ⟨dL_clashNumber_12, rfl, rfl⟩, by decide⟩)) (
  ce_fc (P := P_L_clashNumber) (ok_li (ok_iconst dL_clashNumber_13)) (
  ce_fc (P := P_L_clashNumber) (ok_reti dL_clashNumber_14 rfl) (
  ce_fn (P := P_L_clashNumber))))))))
noncomputable def ta_L_clashNumber : Nat → Option ce_N := (ce_fd tb_L_clashNumber_0)
theorem tx_L_clashNumber : ∀ pc f, ta_L_clashNumber pc = some f → P_L_clashNumber pc f := (ce_fd_ok (P := P_L_clashNumber) tk_L_clashNumber_0)
noncomputable def F_L_clashNumber : ce_C := ce_M ta_L_clashNumber 4 1 6 1000000
theorem m_L_clashNumber : ∀ l : Launch, l.stackTraces = false → ce_MS l yL_clashNumber (.codeWith yL_clashNumber cL_clashNumber 4 (some .int) [(0, 9, 12, 44)]) 1 1 6 F_L_clashNumber := fun l hl => ce_metW hl (by decide +kernel) tx_L_clashNumber
theorem hp_L_clashNumber : yL_clashNumber.cls ≠ "java/lang/invoke/MethodHandle" ∧ yL_clashNumber.cls ≠ "java/lang/invoke/VarHandle" ∧ (parseMethodDescriptor yL_clashNumber.desc).map (fun d => d.parameters.length) = some 3 := by decide +kernel
abbrev P_L_close : Nat → ce_N → Prop := ce_OKN "CarcasswrightLaw" "close" cL_close 3 (some .int) 1 (some [(0, 8, 11, 21)])
noncomputable def tb_L_close_0 : List (Nat × ce_N) := [(0, ce_li (ce_aload 1 1)),
  (1, ce_li (ce_push (.inl (.inl (0))) 2)),
  (2, ce_li (ce_aload 0 3)),
  (3, ce_call 1 1 6 6 (.inl (3, 12, 2)) (ce_CV 15 F_X11_close)),
  (12, ce_li (ce_push (.inl (.inl (1))) 13)),
  (13, ce_reti .int)]
theorem tk_L_close_0 : ∀ x ∈ tb_L_close_0, P_L_close x.1 x.2 :=
  ce_fc (P := P_L_close) (ok_li (ok_aload_n dL_close_0 rfl)) (
  ce_fc (P := P_L_close) (ok_li (ok_iconst dL_close_1)) (
  ce_fc (P := P_L_close) (ok_li (ok_aload_n dL_close_2 rfl)) (
  ce_fc (P := P_L_close) (ok_call (ca := .inl (3, 12, 2)) (hh := some [(0, 8, 11, 21)]) (ru_V (ci := 15) (C := RX11) (Tf := TX11) (N := 7) m_X11_close (by decide) (by decide) rfl gw_766 gw_763 gw_764 gw_765 gw_1 ⟨rfl, hp_X11_close⟩ dL_close_3) (⟨_, _, _, (2 : Fin 4), rfl, rfl, by decide, by decide, gw_762, gn_3, Or.inl ⟨dL_close_11, rfl, rfl⟩, by decide⟩)) (
  ce_fc (P := P_L_close) (ok_li (ok_iconst dL_close_12)) (
  ce_fc (P := P_L_close) (ok_reti dL_close_13 rfl) (
  ce_fn (P := P_L_close)))))))
noncomputable def ta_L_close : Nat → Option ce_N := (ce_fd tb_L_close_0)
theorem tx_L_close : ∀ pc f, ta_L_close pc = some f → P_L_close pc f := (ce_fd_ok (P := P_L_close) tk_L_close_0)
noncomputable def F_L_close : ce_C := ce_M ta_L_close 3 1 6 1000000
theorem m_L_close : ∀ l : Launch, l.stackTraces = false → ce_MS l yL_close (.codeWith yL_close cL_close 3 (some .int) [(0, 8, 11, 21)]) 1 1 6 F_L_close := fun l hl => ce_metW hl (by decide +kernel) tx_L_close
theorem hp_L_close : yL_close.cls ≠ "java/lang/invoke/MethodHandle" ∧ yL_close.cls ≠ "java/lang/invoke/VarHandle" ∧ (parseMethodDescriptor yL_close.desc).map (fun d => d.parameters.length) = some 2 := by decide +kernel
abbrev P_L_cutShare : Nat → ce_N → Prop := ce_OKN "CarcasswrightLaw" "cutShare" cL_cutShare 3 (some .int) 1 (some [(0, 8, 11, 44)])
noncomputable def tb_L_cutShare_0 : List (Nat × ce_N) := [(0, ce_li (ce_aload 1 1)),
  (1, ce_li (ce_push (.inl (.inl (0))) 2)),
  (2, ce_li (ce_aload 0 3)),
  (3, ce_call 1 1 6 6 (.inl (2, 12, 2)) (ce_CV 15 F_X11_cutShare)),
  (12, ce_li (ce_push (.inl (.inl (1))) 13)),
  (13, ce_reti .int)]
theorem tk_L_cutShare_0 : ∀ x ∈ tb_L_cutShare_0, P_L_cutShare x.1 x.2 :=
  ce_fc (P := P_L_cutShare) (ok_li (ok_aload_n dL_cutShare_0 rfl)) (
  ce_fc (P := P_L_cutShare) (ok_li (ok_iconst dL_cutShare_1)) (
  ce_fc (P := P_L_cutShare) (ok_li (ok_aload_n dL_cutShare_2 rfl)) (
  ce_fc (P := P_L_cutShare) (ok_call (ca := .inl (2, 12, 2)) (hh := some [(0, 8, 11, 44)]) (ru_V (ci := 15) (C := RX11) (Tf := TX11) (N := 7) m_X11_cutShare (by decide) (by decide) rfl gw_1477 gw_1474 gw_1475 gw_1476 gw_1 ⟨rfl, hp_X11_cutShare⟩ dL_cutShare_3) (⟨_, _, _, (2 : Fin 4), rfl, rfl, by decide, by decide, gw_848, gn_2, Or.inl ⟨dL_cutShare_11, rfl, rfl⟩, by decide⟩)) (
  ce_fc (P := P_L_cutShare) (ok_li (ok_iconst dL_cutShare_12)) (
  ce_fc (P := P_L_cutShare) (ok_reti dL_cutShare_13 rfl) (
  ce_fn (P := P_L_cutShare)))))))
noncomputable def ta_L_cutShare : Nat → Option ce_N := (ce_fd tb_L_cutShare_0)
theorem tx_L_cutShare : ∀ pc f, ta_L_cutShare pc = some f → P_L_cutShare pc f := (ce_fd_ok (P := P_L_cutShare) tk_L_cutShare_0)
noncomputable def F_L_cutShare : ce_C := ce_M ta_L_cutShare 3 1 6 1000000
theorem m_L_cutShare : ∀ l : Launch, l.stackTraces = false → ce_MS l yL_cutShare (.codeWith yL_cutShare cL_cutShare 3 (some .int) [(0, 8, 11, 44)]) 1 1 6 F_L_cutShare := fun l hl => ce_metW hl (by decide +kernel) tx_L_cutShare
theorem hp_L_cutShare : yL_cutShare.cls ≠ "java/lang/invoke/MethodHandle" ∧ yL_cutShare.cls ≠ "java/lang/invoke/VarHandle" ∧ (parseMethodDescriptor yL_cutShare.desc).map (fun d => d.parameters.length) = some 2 := by decide +kernel
abbrev P_L_jobAt : Nat → ce_N → Prop := ce_OKN "CarcasswrightLaw" "jobAt" cL_jobAt 4 (some .int) 1 (some [(0, 9, 12, 27)])
noncomputable def tb_L_jobAt_0 : List (Nat × ce_N) := [(0, ce_li (ce_aload 2 1)),
  (1, ce_li (ce_push (.inl (.inl (0))) 2)),
  (2, ce_li (ce_aload 0 3)),
  (3, ce_li (ce_iload 1 4)),
  (4, ce_call 2 1 6 7 (.inl (1, 13, 3)) (ce_CV 15 F_X11_jobAt)),
  (13, ce_li (ce_push (.inl (.inl (1))) 14)),
  (14, ce_reti .int)]
theorem tk_L_jobAt_0 : ∀ x ∈ tb_L_jobAt_0, P_L_jobAt x.1 x.2 :=
  ce_fc (P := P_L_jobAt) (ok_li (ok_aload_n dL_jobAt_0 rfl)) (
  ce_fc (P := P_L_jobAt) (ok_li (ok_iconst dL_jobAt_1)) (
  ce_fc (P := P_L_jobAt) (ok_li (ok_aload_n dL_jobAt_2 rfl)) (
  ce_fc (P := P_L_jobAt) (ok_li (ok_iload_n dL_jobAt_3 rfl)) (
  ce_fc (P := P_L_jobAt) (ok_call (ca := .inl (1, 13, 3)) (hh := some [(0, 9, 12, 27)]) (ru_V (ci := 15) (C := RX11) (Tf := TX11) (N := 7) m_X11_jobAt (by decide) (by decide) rfl gw_1463 gw_1460 gw_1461 gw_1462 gw_1 ⟨rfl, hp_X11_jobAt⟩ dL_jobAt_4) (⟨_, _, _, (3 : Fin 4), rfl, rfl, by decide, by decide, gw_810, gn_1, Or.inl ⟨dL_jobAt_12, rfl, rfl⟩, by decide⟩)) (
  ce_fc (P := P_L_jobAt) (ok_li (ok_iconst dL_jobAt_13)) (
  ce_fc (P := P_L_jobAt) (ok_reti dL_jobAt_14 rfl) (
  ce_fn (P := P_L_jobAt))))))))
noncomputable def ta_L_jobAt : Nat → Option ce_N := (ce_fd tb_L_jobAt_0)
theorem tx_L_jobAt : ∀ pc f, ta_L_jobAt pc = some f → P_L_jobAt pc f := (ce_fd_ok (P := P_L_jobAt) tk_L_jobAt_0)
noncomputable def F_L_jobAt : ce_C := ce_M ta_L_jobAt 4 1 6 1000000
theorem m_L_jobAt : ∀ l : Launch, l.stackTraces = false → ce_MS l yL_jobAt (.codeWith yL_jobAt cL_jobAt 4 (some .int) [(0, 9, 12, 27)]) 1 1 6 F_L_jobAt := fun l hl => ce_metW hl (by decide +kernel) tx_L_jobAt
theorem hp_L_jobAt : yL_jobAt.cls ≠ "java/lang/invoke/MethodHandle" ∧ yL_jobAt.cls ≠ "java/lang/invoke/VarHandle" ∧ (parseMethodDescriptor yL_jobAt.desc).map (fun d => d.parameters.length) = some 3 := by decide +kernel
abbrev P_L_meanWidth : Nat → ce_N → Prop := ce_OKN "CarcasswrightLaw" "meanWidth" cL_meanWidth 3 (some .int) 1 (some [(0, 7, 10, 44)])
noncomputable def tb_L_meanWidth_0 : List (Nat × ce_N) := [(0, ce_li (ce_aload 1 1)),
  (1, ce_li (ce_push (.inl (.inl (0))) 2)),
  (2, ce_li (ce_aload 0 3)),
  (3, ce_call 1 1 6 6 (.inl (2, 11, 2)) (ce_CV 15 F_X11_meanWidth)),
  (11, ce_li (ce_push (.inl (.inl (1))) 12)),
  (12, ce_reti .int)]
theorem tk_L_meanWidth_0 : ∀ x ∈ tb_L_meanWidth_0, P_L_meanWidth x.1 x.2 :=
  ce_fc (P := P_L_meanWidth) (ok_li (ok_aload_n dL_meanWidth_0 rfl)) (
  ce_fc (P := P_L_meanWidth) (ok_li (ok_iconst dL_meanWidth_1)) (
  ce_fc (P := P_L_meanWidth) (ok_li (ok_aload_n dL_meanWidth_2 rfl)) (
  ce_fc (P := P_L_meanWidth) (ok_call (ca := .inl (2, 11, 2)) (hh := some [(0, 7, 10, 44)]) (ru_V (ci := 15) (C := RX11) (Tf := TX11) (N := 7) m_X11_meanWidth (by decide) (by decide) rfl gw_1484 gw_1481 gw_1482 gw_1483 gw_1 ⟨rfl, hp_X11_meanWidth⟩ dL_meanWidth_3) (⟨_, _, _, (2 : Fin 4), rfl, rfl, by decide, by decide, gw_848, gn_2, Or.inl ⟨dL_meanWidth_10, rfl, rfl⟩, by decide⟩)) (
  ce_fc (P := P_L_meanWidth) (ok_li (ok_iconst dL_meanWidth_11)) (
  ce_fc (P := P_L_meanWidth) (ok_reti dL_meanWidth_12 rfl) (
  ce_fn (P := P_L_meanWidth)))))))
noncomputable def ta_L_meanWidth : Nat → Option ce_N := (ce_fd tb_L_meanWidth_0)
theorem tx_L_meanWidth : ∀ pc f, ta_L_meanWidth pc = some f → P_L_meanWidth pc f := (ce_fd_ok (P := P_L_meanWidth) tk_L_meanWidth_0)
noncomputable def F_L_meanWidth : ce_C := ce_M ta_L_meanWidth 3 1 6 1000000
theorem m_L_meanWidth : ∀ l : Launch, l.stackTraces = false → ce_MS l yL_meanWidth (.codeWith yL_meanWidth cL_meanWidth 3 (some .int) [(0, 7, 10, 44)]) 1 1 6 F_L_meanWidth := fun l hl => ce_metW hl (by decide +kernel) tx_L_meanWidth
theorem hp_L_meanWidth : yL_meanWidth.cls ≠ "java/lang/invoke/MethodHandle" ∧ yL_meanWidth.cls ≠ "java/lang/invoke/VarHandle" ∧ (parseMethodDescriptor yL_meanWidth.desc).map (fun d => d.parameters.length) = some 2 := by decide +kernel
abbrev P_X11_area : Nat → ce_N → Prop := ce_OKN "Carcasswright" "area" cX11_area 2 (some .long) 1 (some [])
noncomputable def tb_X11_area_0 : List (Nat × ce_N) := [(0, ce_li (ce_iload 1 1)),
  (1, ce_li (ce_lsw 92 [(99, 52), (100, 76), (112, 68), (115, 60), (120, 84)])),
  (52, ce_li (ce_aload 0 53)),
  (53, ce_li (ce_getf 15 2 56)),
  (56, ce_li (ce_getf 12 2 59)),
  (59, ce_retl),
  (60, ce_li (ce_aload 0 61)),
  (61, ce_li (ce_getf 15 2 64)),
  (64, ce_call 1 0 0 67 (.inr true) (ce_CV 12 F_X8_squares)),
  (67, ce_retl),
  (68, ce_li (ce_aload 0 69)),
  (69, ce_li (ce_getf 15 1 72)),
  (72, ce_call 1 0 0 75 (.inr true) (ce_CV 10 F_X6_cutSquares)),
  (75, ce_retl)]
theorem tk_X11_area_0 : ∀ x ∈ tb_X11_area_0, P_X11_area x.1 x.2 :=
  ce_fc (P := P_X11_area) (ok_li (ok_iload_n dX11_area_0 rfl)) (
  ce_fc (P := P_X11_area) (ok_li (ok_lsw dX11_area_1 (by decide) (by decide) (by decide) (by decide))) (
  ce_fc (P := P_X11_area) (ok_li (ok_aload_n dX11_area_52 rfl)) (
  ce_fc (P := P_X11_area) (ok_li (ok_getf (ci := 15) (k := 2) (C := RX11) (T := TX11) (N := 7) dX11_area_53 rfl ce_uX11 (by decide) gw_456 (fun _ _ _ _ h => h))) (
  ce_fc (P := P_X11_area) (ok_li (ok_getf (ci := 12) (k := 2) (C := RX8) (T := TX8) (N := 5) dX11_area_56 rfl ce_uX8 (by decide) gw_335 (fun _ _ _ _ h => h))) (
  ce_fc (P := P_X11_area) (ok_retl dX11_area_59 rfl) (
  ce_fc (P := P_X11_area) (ok_li (ok_aload_n dX11_area_60 rfl)) (
  ce_fc (P := P_X11_area) (ok_li (ok_getf (ci := 15) (k := 2) (C := RX11) (T := TX11) (N := 7) dX11_area_61 rfl ce_uX11 (by decide) gw_456 (fun _ _ _ _ h => h))) (
  ce_fc (P := P_X11_area) (ok_call (ru_V (ci := 12) (C := RX8) (Tf := TX8) (N := 5) m_X8_squares (by decide) (by decide) rfl gw_629 gw_626 gw_627 gw_628 gw_8 ⟨rfl, hp_X8_squares⟩ dX11_area_64) ca_t) (
  ce_fc (P := P_X11_area) (ok_retl dX11_area_67 rfl) (
  ce_fc (P := P_X11_area) (ok_li (ok_aload_n dX11_area_68 rfl)) (
  ce_fc (P := P_X11_area) (ok_li (ok_getf (ci := 15) (k := 1) (C := RX11) (T := TX11) (N := 7) dX11_area_69 rfl ce_uX11 (by decide) gw_455 (fun _ _ _ _ h => h))) (
  ce_fc (P := P_X11_area) (ok_call (ru_V (ci := 10) (C := RX6) (Tf := TX6) (N := 10) m_X6_cutSquares (by decide) (by decide) rfl gw_637 gw_634 gw_635 gw_636 gw_4 ⟨rfl, hp_X6_cutSquares⟩ dX11_area_72) ca_t) (
  ce_fc (P := P_X11_area) (ok_retl dX11_area_75 rfl) (
  ce_fn (P := P_X11_area)))))))))))))))
noncomputable def tb_X11_area_1 : List (Nat × ce_N) := [(76, ce_li (ce_aload 0 77)),
  (77, ce_li (ce_getf 15 2 80)),
  (80, ce_li (ce_getf 12 3 83)),
  (83, ce_retl),
  (84, ce_li (ce_aload 0 85)),
  (85, ce_li (ce_getf 15 2 88)),
  (88, ce_li (ce_getf 12 4 91)),
  (91, ce_retl),
  (92, ce_thr 0)]
theorem tk_X11_area_1 : ∀ x ∈ tb_X11_area_1, P_X11_area x.1 x.2 :=
  ce_fc (P := P_X11_area) (ok_li (ok_aload_n dX11_area_76 rfl)) (
  ce_fc (P := P_X11_area) (ok_li (ok_getf (ci := 15) (k := 2) (C := RX11) (T := TX11) (N := 7) dX11_area_77 rfl ce_uX11 (by decide) gw_456 (fun _ _ _ _ h => h))) (
  ce_fc (P := P_X11_area) (ok_li (ok_getf (ci := 12) (k := 3) (C := RX8) (T := TX8) (N := 5) dX11_area_80 rfl ce_uX8 (by decide) gw_337 (fun _ _ _ _ h => h))) (
  ce_fc (P := P_X11_area) (ok_retl dX11_area_83 rfl) (
  ce_fc (P := P_X11_area) (ok_li (ok_aload_n dX11_area_84 rfl)) (
  ce_fc (P := P_X11_area) (ok_li (ok_getf (ci := 15) (k := 2) (C := RX11) (T := TX11) (N := 7) dX11_area_85 rfl ce_uX11 (by decide) gw_456 (fun _ _ _ _ h => h))) (
  ce_fc (P := P_X11_area) (ok_li (ok_getf (ci := 12) (k := 4) (C := RX8) (T := TX8) (N := 5) dX11_area_88 rfl ce_uX8 (by decide) gw_338 (fun _ _ _ _ h => h))) (
  ce_fc (P := P_X11_area) (ok_retl dX11_area_91 rfl) (
  ce_fc (P := P_X11_area) (ok_thr (k := 0) (names := ["java/lang/RuntimeException", "java/lang/Exception"]) dX11_area_92 dX11_area_95 dX11_area_96 dX11_area_99 rfl (by decide +kernel) (by decide +kernel) (by decide) gw_725 gw_20 (th_0 gw_734) (by decide +kernel) (by decide +kernel)) (
  ce_fn (P := P_X11_area))))))))))
noncomputable def ta_X11_area : Nat → Option ce_N := (ce_tr 76 (ce_fd tb_X11_area_0) (ce_fd tb_X11_area_1))
theorem tx_X11_area : ∀ pc f, ta_X11_area pc = some f → P_X11_area pc f := (ce_tr_ok (P := P_X11_area) (ce_fd_ok (P := P_X11_area) tk_X11_area_0) (ce_fd_ok (P := P_X11_area) tk_X11_area_1))
noncomputable def F_X11_area : ce_C := ce_M ta_X11_area 2 1 6 1000000
theorem m_X11_area : ∀ l : Launch, l.stackTraces = false → ce_MS l yX11_area (.code yX11_area cX11_area 2 (some .long)) 1 1 6 F_X11_area := fun l hl => ce_met hl (by decide +kernel) tx_X11_area
theorem hp_X11_area : yX11_area.cls ≠ "java/lang/invoke/MethodHandle" ∧ yX11_area.cls ≠ "java/lang/invoke/VarHandle" ∧ (parseMethodDescriptor yX11_area.desc).map (fun d => d.parameters.length) = some 1 := by decide +kernel
abbrev P_X11_board : Nat → ce_N → Prop := ce_OKN "Carcasswright" "board" cX11_board 4 (some .int) 1 (some [])
noncomputable def tb_X11_board_0 : List (Nat × ce_N) := [(0, ce_li (ce_aload 0 1)),
  (1, ce_li (ce_getf 15 2 4)),
  (4, ce_li (ce_iload 1 5)),
  (5, ce_call 2 1 6 8 (.inr true) (ce_CV 12 F_X8_boardAt))]
theorem tk_X11_board_0 : ∀ x ∈ tb_X11_board_0, P_X11_board x.1 x.2 :=
  ce_fc (P := P_X11_board) (ok_li (ok_aload_n dX11_board_0 rfl)) (
  ce_fc (P := P_X11_board) (ok_li (ok_getf (ci := 15) (k := 2) (C := RX11) (T := TX11) (N := 7) dX11_board_1 rfl ce_uX11 (by decide) gw_456 (fun _ _ _ _ h => h))) (
  ce_fc (P := P_X11_board) (ok_li (ok_iload_n dX11_board_4 rfl)) (
  ce_fc (P := P_X11_board) (ok_call (ru_V (ci := 12) (C := RX8) (Tf := TX8) (N := 5) m_X8_boardAt (by decide) (by decide) rfl gw_577 gw_1231 gw_575 gw_576 gw_8 ⟨rfl, hp_X8_boardAt⟩ dX11_board_5) ca_t) (
  ce_fn (P := P_X11_board)))))
noncomputable def ta_X11_board : Nat → Option ce_N := (ce_fd tb_X11_board_0)
theorem tx_X11_board : ∀ pc f, ta_X11_board pc = some f → P_X11_board pc f := (ce_fd_ok (P := P_X11_board) tk_X11_board_0)
noncomputable def F_X11_board : ce_C := ce_M ta_X11_board 4 1 6 1000000
theorem m_X11_board : ∀ l : Launch, l.stackTraces = false → ce_MS l yX11_board (.code yX11_board cX11_board 4 (some .int)) 1 1 6 F_X11_board := fun l hl => ce_met hl (by decide +kernel) tx_X11_board
theorem hp_X11_board : yX11_board.cls ≠ "java/lang/invoke/MethodHandle" ∧ yX11_board.cls ≠ "java/lang/invoke/VarHandle" ∧ (parseMethodDescriptor yX11_board.desc).map (fun d => d.parameters.length) = some 2 := by decide +kernel
abbrev P_X11_change : Nat → ce_N → Prop := ce_OKN "Carcasswright" "change" cX11_change 9 (some .int) 1 (some [])
noncomputable def tb_X11_change_0 : List (Nat × ce_N) := [(0, ce_li (ce_aload 0 1)),
  (1, ce_li (ce_getf 15 1 4)),
  (4, ce_li (ce_iload 1 5)),
  (5, ce_call 2 1 6 8 (.inr true) (ce_CV 10 F_X6_moduleAt))]
theorem tk_X11_change_0 : ∀ x ∈ tb_X11_change_0, P_X11_change x.1 x.2 :=
  ce_fc (P := P_X11_change) (ok_li (ok_aload_n dX11_change_0 rfl)) (
  ce_fc (P := P_X11_change) (ok_li (ok_getf (ci := 15) (k := 1) (C := RX11) (T := TX11) (N := 7) dX11_change_1 rfl ce_uX11 (by decide) gw_455 (fun _ _ _ _ h => h))) (
  ce_fc (P := P_X11_change) (ok_li (ok_iload_n dX11_change_4 rfl)) (
  ce_fc (P := P_X11_change) (ok_call (ru_V (ci := 10) (C := RX6) (Tf := TX6) (N := 10) m_X6_moduleAt (by decide) (by decide) rfl gw_641 gw_1004 gw_639 gw_640 gw_4 ⟨rfl, hp_X6_moduleAt⟩ dX11_change_5) ca_t) (
  ce_fn (P := P_X11_change)))))
noncomputable def ta_X11_change : Nat → Option ce_N := (ce_fd tb_X11_change_0)
theorem tx_X11_change : ∀ pc f, ta_X11_change pc = some f → P_X11_change pc f := (ce_fd_ok (P := P_X11_change) tk_X11_change_0)
noncomputable def F_X11_change : ce_C := ce_M ta_X11_change 9 1 6 1000000
theorem m_X11_change : ∀ l : Launch, l.stackTraces = false → ce_MS l yX11_change (.code yX11_change cX11_change 9 (some .int)) 1 1 6 F_X11_change := fun l hl => ce_met hl (by decide +kernel) tx_X11_change
theorem hp_X11_change : yX11_change.cls ≠ "java/lang/invoke/MethodHandle" ∧ yX11_change.cls ≠ "java/lang/invoke/VarHandle" ∧ (parseMethodDescriptor yX11_change.desc).map (fun d => d.parameters.length) = some 2 := by decide +kernel
abbrev P_X11_cut : Nat → ce_N → Prop := ce_OKN "Carcasswright" "cut" cX11_cut 3 (some .int) 1 (some [])
noncomputable def tb_X11_cut_0 : List (Nat × ce_N) := [(0, ce_li (ce_aload 0 1)),
  (1, ce_li (ce_getf 15 1 4)),
  (4, ce_li (ce_iload 1 5)),
  (5, ce_call 2 1 6 8 (.inr true) (ce_CV 10 F_X6_moduleAt))]
theorem tk_X11_cut_0 : ∀ x ∈ tb_X11_cut_0, P_X11_cut x.1 x.2 :=
  ce_fc (P := P_X11_cut) (ok_li (ok_aload_n dX11_cut_0 rfl)) (
  ce_fc (P := P_X11_cut) (ok_li (ok_getf (ci := 15) (k := 1) (C := RX11) (T := TX11) (N := 7) dX11_cut_1 rfl ce_uX11 (by decide) gw_455 (fun _ _ _ _ h => h))) (
  ce_fc (P := P_X11_cut) (ok_li (ok_iload_n dX11_cut_4 rfl)) (
  ce_fc (P := P_X11_cut) (ok_call (ru_V (ci := 10) (C := RX6) (Tf := TX6) (N := 10) m_X6_moduleAt (by decide) (by decide) rfl gw_641 gw_1004 gw_639 gw_640 gw_4 ⟨rfl, hp_X6_moduleAt⟩ dX11_cut_5) ca_t) (
  ce_fn (P := P_X11_cut)))))
noncomputable def ta_X11_cut : Nat → Option ce_N := (ce_fd tb_X11_cut_0)
theorem tx_X11_cut : ∀ pc f, ta_X11_cut pc = some f → P_X11_cut pc f := (ce_fd_ok (P := P_X11_cut) tk_X11_cut_0)
noncomputable def F_X11_cut : ce_C := ce_M ta_X11_cut 3 1 6 1000000
theorem m_X11_cut : ∀ l : Launch, l.stackTraces = false → ce_MS l yX11_cut (.code yX11_cut cX11_cut 3 (some .int)) 1 1 6 F_X11_cut := fun l hl => ce_met hl (by decide +kernel) tx_X11_cut
theorem hp_X11_cut : yX11_cut.cls ≠ "java/lang/invoke/MethodHandle" ∧ yX11_cut.cls ≠ "java/lang/invoke/VarHandle" ∧ (parseMethodDescriptor yX11_cut.desc).map (fun d => d.parameters.length) = some 1 := by decide +kernel
abbrev P_X11_edged : Nat → ce_N → Prop := ce_OKN "Carcasswright" "edged" cX11_edged 4 (some .int) 1 (some [])
noncomputable def tb_X11_edged_0 : List (Nat × ce_N) := [(0, ce_li (ce_iload 1 1)),
  (1, ce_call 1 0 0 4 (.inr true) F_X11_isNoColour),
  (4, ce_li (ce_if true false false 15 7)),
  (7, ce_thr 0),
  (15, ce_li (ce_push (.inl (.inl (0))) 16)),
  (16, ce_li (ce_istore 2 17 4)),
  (17, ce_li (ce_push (.inl (.inl (0))) 18)),
  (18, ce_li (ce_istore 3 19 4)),
  (19, ce_li (ce_iload 3 20)),
  (20, ce_li (ce_aload 0 21)),
  (21, ce_li (ce_getf 15 1 24)),
  (24, ce_li (ce_getf 10 8 27)),
  (27, ce_li (ce_icmp false false true 51 30)),
  (51, ce_li (ce_iload 2 52))]
theorem tk_X11_edged_0 : ∀ x ∈ tb_X11_edged_0, P_X11_edged x.1 x.2 :=
  ce_fc (P := P_X11_edged) (ok_li (ok_iload_n dX11_edged_0 rfl)) (
  ce_fc (P := P_X11_edged) (ok_call (ru_S m_X11_isNoColour (by decide) (by decide) gw_963 gw_961 gw_962 gw_1 hp_X11_isNoColour dX11_edged_1) ca_t) (
  ce_fc (P := P_X11_edged) (ok_li (ok_if_eq dX11_edged_4 (by decide))) (
  ce_fc (P := P_X11_edged) (ok_thr (k := 0) (names := ["java/lang/RuntimeException", "java/lang/Exception"]) dX11_edged_7 dX11_edged_10 dX11_edged_11 dX11_edged_14 rfl (by decide +kernel) (by decide +kernel) (by decide) gw_725 gw_20 (th_0 gw_734) (by decide +kernel) (by decide +kernel)) (
  ce_fc (P := P_X11_edged) (ok_li (ok_iconst dX11_edged_15)) (
  ce_fc (P := P_X11_edged) (ok_li (ok_istore_n dX11_edged_16 rfl)) (
  ce_fc (P := P_X11_edged) (ok_li (ok_iconst dX11_edged_17)) (
  ce_fc (P := P_X11_edged) (ok_li (ok_istore_n dX11_edged_18 rfl)) (
  ce_fc (P := P_X11_edged) (ok_li (ok_iload_n dX11_edged_19 rfl)) (
  ce_fc (P := P_X11_edged) (ok_li (ok_aload_n dX11_edged_20 rfl)) (
  ce_fc (P := P_X11_edged) (ok_li (ok_getf (ci := 15) (k := 1) (C := RX11) (T := TX11) (N := 7) dX11_edged_21 rfl ce_uX11 (by decide) gw_455 (fun _ _ _ _ h => h))) (
  ce_fc (P := P_X11_edged) (ok_li (ok_getf (ci := 10) (k := 8) (C := RX6) (T := TX6) (N := 10) dX11_edged_24 rfl ce_uX6 (by decide) gw_259 (fun _ _ _ _ h => h))) (
  ce_fc (P := P_X11_edged) (ok_li (ok_icmp_ge dX11_edged_27 (by decide))) (
  ce_fc (P := P_X11_edged) (ok_li (ok_iload_n dX11_edged_51 rfl)) (
  ce_fn (P := P_X11_edged)))))))))))))))
noncomputable def tb_X11_edged_1 : List (Nat × ce_N) := [(52, ce_reti .int)]
theorem tk_X11_edged_1 : ∀ x ∈ tb_X11_edged_1, P_X11_edged x.1 x.2 :=
  ce_fc (P := P_X11_edged) (ok_reti dX11_edged_52 rfl) (
  ce_fn (P := P_X11_edged))
noncomputable def ta_X11_edged : Nat → Option ce_N := (ce_tr 52 (ce_fd tb_X11_edged_0) (ce_fd tb_X11_edged_1))
theorem tx_X11_edged : ∀ pc f, ta_X11_edged pc = some f → P_X11_edged pc f := (ce_tr_ok (P := P_X11_edged) (ce_fd_ok (P := P_X11_edged) tk_X11_edged_0) (ce_fd_ok (P := P_X11_edged) tk_X11_edged_1))
noncomputable def F_X11_edged : ce_C := ce_M ta_X11_edged 4 1 6 1000000
theorem m_X11_edged : ∀ l : Launch, l.stackTraces = false → ce_MS l yX11_edged (.code yX11_edged cX11_edged 4 (some .int)) 1 1 6 F_X11_edged := fun l hl => ce_met hl (by decide +kernel) tx_X11_edged
theorem hp_X11_edged : yX11_edged.cls ≠ "java/lang/invoke/MethodHandle" ∧ yX11_edged.cls ≠ "java/lang/invoke/VarHandle" ∧ (parseMethodDescriptor yX11_edged.desc).map (fun d => d.parameters.length) = some 1 := by decide +kernel
abbrev P_X11_from : Nat → ce_N → Prop := ce_OKN "Carcasswright" "from" cX11_from 2 (some .int) 1 (some [])
noncomputable def tb_X11_from_0 : List (Nat × ce_N) := [(0, ce_li (ce_aload 0 1)),
  (1, ce_li (ce_getf 15 1 4)),
  (4, ce_li (ce_iload 1 5)),
  (5, ce_call 2 1 6 8 (.inr true) (ce_CV 10 F_X6_moduleAt))]
theorem tk_X11_from_0 : ∀ x ∈ tb_X11_from_0, P_X11_from x.1 x.2 :=
  ce_fc (P := P_X11_from) (ok_li (ok_aload_n dX11_from_0 rfl)) (
  ce_fc (P := P_X11_from) (ok_li (ok_getf (ci := 15) (k := 1) (C := RX11) (T := TX11) (N := 7) dX11_from_1 rfl ce_uX11 (by decide) gw_455 (fun _ _ _ _ h => h))) (
  ce_fc (P := P_X11_from) (ok_li (ok_iload_n dX11_from_4 rfl)) (
  ce_fc (P := P_X11_from) (ok_call (ru_V (ci := 10) (C := RX6) (Tf := TX6) (N := 10) m_X6_moduleAt (by decide) (by decide) rfl gw_641 gw_1004 gw_639 gw_640 gw_4 ⟨rfl, hp_X6_moduleAt⟩ dX11_from_5) ca_t) (
  ce_fn (P := P_X11_from)))))
noncomputable def ta_X11_from : Nat → Option ce_N := (ce_fd tb_X11_from_0)
theorem tx_X11_from : ∀ pc f, ta_X11_from pc = some f → P_X11_from pc f := (ce_fd_ok (P := P_X11_from) tk_X11_from_0)
noncomputable def F_X11_from : ce_C := ce_M ta_X11_from 2 1 6 1000000
theorem m_X11_from : ∀ l : Launch, l.stackTraces = false → ce_MS l yX11_from (.code yX11_from cX11_from 2 (some .int)) 1 1 6 F_X11_from := fun l hl => ce_met hl (by decide +kernel) tx_X11_from
theorem hp_X11_from : yX11_from.cls ≠ "java/lang/invoke/MethodHandle" ∧ yX11_from.cls ≠ "java/lang/invoke/VarHandle" ∧ (parseMethodDescriptor yX11_from.desc).map (fun d => d.parameters.length) = some 1 := by decide +kernel
abbrev P_X11_hinges : Nat → ce_N → Prop := ce_OKN "Carcasswright" "hinges" cX11_hinges 2 (some .int) 1 (some [])
noncomputable def tb_X11_hinges_0 : List (Nat × ce_N) := [(0, ce_li (ce_aload 0 1)),
  (1, ce_li (ce_getf 15 1 4)),
  (4, ce_li (ce_iload 1 5)),
  (5, ce_call 2 1 6 8 (.inr true) (ce_CV 10 F_X6_moduleAt))]
theorem tk_X11_hinges_0 : ∀ x ∈ tb_X11_hinges_0, P_X11_hinges x.1 x.2 :=
  ce_fc (P := P_X11_hinges) (ok_li (ok_aload_n dX11_hinges_0 rfl)) (
  ce_fc (P := P_X11_hinges) (ok_li (ok_getf (ci := 15) (k := 1) (C := RX11) (T := TX11) (N := 7) dX11_hinges_1 rfl ce_uX11 (by decide) gw_455 (fun _ _ _ _ h => h))) (
  ce_fc (P := P_X11_hinges) (ok_li (ok_iload_n dX11_hinges_4 rfl)) (
  ce_fc (P := P_X11_hinges) (ok_call (ru_V (ci := 10) (C := RX6) (Tf := TX6) (N := 10) m_X6_moduleAt (by decide) (by decide) rfl gw_641 gw_1004 gw_639 gw_640 gw_4 ⟨rfl, hp_X6_moduleAt⟩ dX11_hinges_5) ca_t) (
  ce_fn (P := P_X11_hinges)))))
noncomputable def ta_X11_hinges : Nat → Option ce_N := (ce_fd tb_X11_hinges_0)
theorem tx_X11_hinges : ∀ pc f, ta_X11_hinges pc = some f → P_X11_hinges pc f := (ce_fd_ok (P := P_X11_hinges) tk_X11_hinges_0)
noncomputable def F_X11_hinges : ce_C := ce_M ta_X11_hinges 2 1 6 1000000
theorem m_X11_hinges : ∀ l : Launch, l.stackTraces = false → ce_MS l yX11_hinges (.code yX11_hinges cX11_hinges 2 (some .int)) 1 1 6 F_X11_hinges := fun l hl => ce_met hl (by decide +kernel) tx_X11_hinges
theorem hp_X11_hinges : yX11_hinges.cls ≠ "java/lang/invoke/MethodHandle" ∧ yX11_hinges.cls ≠ "java/lang/invoke/VarHandle" ∧ (parseMethodDescriptor yX11_hinges.desc).map (fun d => d.parameters.length) = some 1 := by decide +kernel
abbrev P_X11_isSound : Nat → ce_N → Prop := ce_OKN "Carcasswright" "isSound" cX11_isSound 3 (some .boolean) 1 (some [])
noncomputable def tb_X11_isSound_0 : List (Nat × ce_N) := [(0, ce_li (ce_aload 0 1)),
  (1, ce_li (ce_getf 15 2 4)),
  (4, ce_call 1 0 0 7 (.inr true) (ce_CV 12 F_X8_squares)),
  (7, ce_li (ce_aload 0 8)),
  (8, ce_li (ce_getf 15 1 11)),
  (11, ce_call 1 0 0 14 (.inr true) (ce_CV 10 F_X6_cutSquares)),
  (14, ce_li (ce_binL ce_ladd 15)),
  (15, ce_li (ce_aload 0 16)),
  (16, ce_li (ce_getf 15 2 19)),
  (19, ce_li (ce_getf 12 3 22)),
  (22, ce_li (ce_binL ce_ladd 23)),
  (23, ce_li (ce_aload 0 24)),
  (24, ce_li (ce_getf 15 2 27)),
  (27, ce_li (ce_getf 12 4 30))]
theorem tk_X11_isSound_0 : ∀ x ∈ tb_X11_isSound_0, P_X11_isSound x.1 x.2 :=
  ce_fc (P := P_X11_isSound) (ok_li (ok_aload_n dX11_isSound_0 rfl)) (
  ce_fc (P := P_X11_isSound) (ok_li (ok_getf (ci := 15) (k := 2) (C := RX11) (T := TX11) (N := 7) dX11_isSound_1 rfl ce_uX11 (by decide) gw_456 (fun _ _ _ _ h => h))) (
  ce_fc (P := P_X11_isSound) (ok_call (ru_V (ci := 12) (C := RX8) (Tf := TX8) (N := 5) m_X8_squares (by decide) (by decide) rfl gw_629 gw_626 gw_627 gw_628 gw_8 ⟨rfl, hp_X8_squares⟩ dX11_isSound_4) ca_t) (
  ce_fc (P := P_X11_isSound) (ok_li (ok_aload_n dX11_isSound_7 rfl)) (
  ce_fc (P := P_X11_isSound) (ok_li (ok_getf (ci := 15) (k := 1) (C := RX11) (T := TX11) (N := 7) dX11_isSound_8 rfl ce_uX11 (by decide) gw_455 (fun _ _ _ _ h => h))) (
  ce_fc (P := P_X11_isSound) (ok_call (ru_V (ci := 10) (C := RX6) (Tf := TX6) (N := 10) m_X6_cutSquares (by decide) (by decide) rfl gw_637 gw_634 gw_635 gw_636 gw_4 ⟨rfl, hp_X6_cutSquares⟩ dX11_isSound_11) ca_t) (
  ce_fc (P := P_X11_isSound) (ok_li (ok_ladd dX11_isSound_14)) (
  ce_fc (P := P_X11_isSound) (ok_li (ok_aload_n dX11_isSound_15 rfl)) (
  ce_fc (P := P_X11_isSound) (ok_li (ok_getf (ci := 15) (k := 2) (C := RX11) (T := TX11) (N := 7) dX11_isSound_16 rfl ce_uX11 (by decide) gw_456 (fun _ _ _ _ h => h))) (
  ce_fc (P := P_X11_isSound) (ok_li (ok_getf (ci := 12) (k := 3) (C := RX8) (T := TX8) (N := 5) dX11_isSound_19 rfl ce_uX8 (by decide) gw_337 (fun _ _ _ _ h => h))) (
  ce_fc (P := P_X11_isSound) (ok_li (ok_ladd dX11_isSound_22)) (
  ce_fc (P := P_X11_isSound) (ok_li (ok_aload_n dX11_isSound_23 rfl)) (
  ce_fc (P := P_X11_isSound) (ok_li (ok_getf (ci := 15) (k := 2) (C := RX11) (T := TX11) (N := 7) dX11_isSound_24 rfl ce_uX11 (by decide) gw_456 (fun _ _ _ _ h => h))) (
  ce_fc (P := P_X11_isSound) (ok_li (ok_getf (ci := 12) (k := 4) (C := RX8) (T := TX8) (N := 5) dX11_isSound_27 rfl ce_uX8 (by decide) gw_338 (fun _ _ _ _ h => h))) (
  ce_fn (P := P_X11_isSound)))))))))))))))
noncomputable def tb_X11_isSound_1 : List (Nat × ce_N) := [(30, ce_li (ce_binL ce_ladd 31)),
  (31, ce_li (ce_lstore 1 32 3)),
  (32, ce_li (ce_lload 1 33)),
  (33, ce_li (ce_aload 0 34)),
  (34, ce_li (ce_getf 15 2 37)),
  (37, ce_li (ce_getf 12 2 40)),
  (40, ce_li (ce_lcmp 41)),
  (41, ce_li (ce_if true false true 68 44)),
  (44, ce_li (ce_aload 0 45)),
  (45, ce_li (ce_getf 15 1 48)),
  (48, ce_call 1 0 0 51 (.inr true) (ce_CV 10 F_X6_hasOnlyOwnParts)),
  (51, ce_li (ce_if true false false 68 54)),
  (54, ce_li (ce_aload 0 55)),
  (55, ce_li (ce_getf 15 1 58))]
theorem tk_X11_isSound_1 : ∀ x ∈ tb_X11_isSound_1, P_X11_isSound x.1 x.2 :=
  ce_fc (P := P_X11_isSound) (ok_li (ok_ladd dX11_isSound_30)) (
  ce_fc (P := P_X11_isSound) (ok_li (ok_lstore_n dX11_isSound_31 rfl)) (
  ce_fc (P := P_X11_isSound) (ok_li (ok_lload_n dX11_isSound_32 rfl)) (
  ce_fc (P := P_X11_isSound) (ok_li (ok_aload_n dX11_isSound_33 rfl)) (
  ce_fc (P := P_X11_isSound) (ok_li (ok_getf (ci := 15) (k := 2) (C := RX11) (T := TX11) (N := 7) dX11_isSound_34 rfl ce_uX11 (by decide) gw_456 (fun _ _ _ _ h => h))) (
  ce_fc (P := P_X11_isSound) (ok_li (ok_getf (ci := 12) (k := 2) (C := RX8) (T := TX8) (N := 5) dX11_isSound_37 rfl ce_uX8 (by decide) gw_335 (fun _ _ _ _ h => h))) (
  ce_fc (P := P_X11_isSound) (ok_li (ok_lcmp dX11_isSound_40)) (
  ce_fc (P := P_X11_isSound) (ok_li (ok_if_ne dX11_isSound_41 (by decide))) (
  ce_fc (P := P_X11_isSound) (ok_li (ok_aload_n dX11_isSound_44 rfl)) (
  ce_fc (P := P_X11_isSound) (ok_li (ok_getf (ci := 15) (k := 1) (C := RX11) (T := TX11) (N := 7) dX11_isSound_45 rfl ce_uX11 (by decide) gw_455 (fun _ _ _ _ h => h))) (
  ce_fc (P := P_X11_isSound) (ok_call (ru_V (ci := 10) (C := RX6) (Tf := TX6) (N := 10) m_X6_hasOnlyOwnParts (by decide) (by decide) rfl gw_677 gw_674 gw_675 gw_676 gw_4 ⟨rfl, hp_X6_hasOnlyOwnParts⟩ dX11_isSound_48) ca_t) (
  ce_fc (P := P_X11_isSound) (ok_li (ok_if_eq dX11_isSound_51 (by decide))) (
  ce_fc (P := P_X11_isSound) (ok_li (ok_aload_n dX11_isSound_54 rfl)) (
  ce_fc (P := P_X11_isSound) (ok_li (ok_getf (ci := 15) (k := 1) (C := RX11) (T := TX11) (N := 7) dX11_isSound_55 rfl ce_uX11 (by decide) gw_455 (fun _ _ _ _ h => h))) (
  ce_fn (P := P_X11_isSound)))))))))))))))
noncomputable def tb_X11_isSound_2 : List (Nat × ce_N) := [(58, ce_call 1 0 0 61 (.inr true) (ce_CV 10 F_X6_hasModulesInTheWay)),
  (61, ce_li (ce_if true false true 68 64)),
  (64, ce_li (ce_push (.inl (.inl (1))) 65)),
  (65, ce_li (ce_goto 69)),
  (69, ce_reti .boolean)]
theorem tk_X11_isSound_2 : ∀ x ∈ tb_X11_isSound_2, P_X11_isSound x.1 x.2 :=
  ce_fc (P := P_X11_isSound) (ok_call (ru_V (ci := 10) (C := RX6) (Tf := TX6) (N := 10) m_X6_hasModulesInTheWay (by decide) (by decide) rfl gw_686 gw_683 gw_684 gw_685 gw_4 ⟨rfl, hp_X6_hasModulesInTheWay⟩ dX11_isSound_58) ca_t) (
  ce_fc (P := P_X11_isSound) (ok_li (ok_if_ne dX11_isSound_61 (by decide))) (
  ce_fc (P := P_X11_isSound) (ok_li (ok_iconst dX11_isSound_64)) (
  ce_fc (P := P_X11_isSound) (ok_li (ok_goto dX11_isSound_65 (by decide))) (
  ce_fc (P := P_X11_isSound) (ok_reti dX11_isSound_69 rfl) (
  ce_fn (P := P_X11_isSound))))))
noncomputable def ta_X11_isSound : Nat → Option ce_N := (ce_tr 30 (ce_fd tb_X11_isSound_0) (ce_tr 58 (ce_fd tb_X11_isSound_1) (ce_fd tb_X11_isSound_2)))
theorem tx_X11_isSound : ∀ pc f, ta_X11_isSound pc = some f → P_X11_isSound pc f := (ce_tr_ok (P := P_X11_isSound) (ce_fd_ok (P := P_X11_isSound) tk_X11_isSound_0) (ce_tr_ok (P := P_X11_isSound) (ce_fd_ok (P := P_X11_isSound) tk_X11_isSound_1) (ce_fd_ok (P := P_X11_isSound) tk_X11_isSound_2)))
noncomputable def F_X11_isSound : ce_C := ce_M ta_X11_isSound 3 0 0 1000000
theorem m_X11_isSound : ∀ l : Launch, l.stackTraces = false → ce_MS l yX11_isSound (.code yX11_isSound cX11_isSound 3 (some .boolean)) 1 0 0 F_X11_isSound := fun l hl => ce_met hl (by decide +kernel) tx_X11_isSound
theorem hp_X11_isSound : yX11_isSound.cls ≠ "java/lang/invoke/MethodHandle" ∧ yX11_isSound.cls ≠ "java/lang/invoke/VarHandle" ∧ (parseMethodDescriptor yX11_isSound.desc).map (fun d => d.parameters.length) = some 0 := by decide +kernel
abbrev P_X11_job : Nat → ce_N → Prop := ce_OKN "Carcasswright" "job" cX11_job 4 (some .int) 1 (some [])
noncomputable def tb_X11_job_0 : List (Nat × ce_N) := [(0, ce_li (ce_iload 1 1)),
  (1, ce_call 1 0 0 4 (.inr true) F_X11_isNoColour),
  (4, ce_li (ce_if true false true 28 7)),
  (7, ce_li (ce_iload 2 8)),
  (8, ce_li (ce_push (.inl (.inl (1))) 9)),
  (9, ce_li (ce_push (.inl (.inl (99))) 11)),
  (11, ce_call 3 0 0 14 (.inr true) F_X11_isOutside),
  (14, ce_li (ce_if true false true 28 17)),
  (17, ce_li (ce_iload 3 18)),
  (18, ce_li (ce_push (.inl (.inl (0))) 19)),
  (19, ce_li (ce_push (.inl (.inl (999))) 22)),
  (22, ce_call 3 0 0 25 (.inr true) F_X11_isOutside),
  (25, ce_li (ce_if true false false 36 28)),
  (28, ce_thr 0)]
theorem tk_X11_job_0 : ∀ x ∈ tb_X11_job_0, P_X11_job x.1 x.2 :=
  ce_fc (P := P_X11_job) (ok_li (ok_iload_n dX11_job_0 rfl)) (
  ce_fc (P := P_X11_job) (ok_call (ru_S m_X11_isNoColour (by decide) (by decide) gw_963 gw_961 gw_962 gw_1 hp_X11_isNoColour dX11_job_1) ca_t) (
  ce_fc (P := P_X11_job) (ok_li (ok_if_ne dX11_job_4 (by decide))) (
  ce_fc (P := P_X11_job) (ok_li (ok_iload_n dX11_job_7 rfl)) (
  ce_fc (P := P_X11_job) (ok_li (ok_iconst dX11_job_8)) (
  ce_fc (P := P_X11_job) (ok_li (ok_bipush dX11_job_9 (by decide))) (
  ce_fc (P := P_X11_job) (ok_call (ru_S m_X11_isOutside (by decide) (by decide) gw_724 gw_722 gw_723 gw_1 hp_X11_isOutside dX11_job_11) ca_t) (
  ce_fc (P := P_X11_job) (ok_li (ok_if_ne dX11_job_14 (by decide))) (
  ce_fc (P := P_X11_job) (ok_li (ok_iload_n dX11_job_17 rfl)) (
  ce_fc (P := P_X11_job) (ok_li (ok_iconst dX11_job_18)) (
  ce_fc (P := P_X11_job) (ok_li (ok_sipush dX11_job_19 (by decide))) (
  ce_fc (P := P_X11_job) (ok_call (ru_S m_X11_isOutside (by decide) (by decide) gw_724 gw_722 gw_723 gw_1 hp_X11_isOutside dX11_job_22) ca_t) (
  ce_fc (P := P_X11_job) (ok_li (ok_if_eq dX11_job_25 (by decide))) (
  ce_fc (P := P_X11_job) (ok_thr (k := 0) (names := ["java/lang/RuntimeException", "java/lang/Exception"]) dX11_job_28 dX11_job_31 dX11_job_32 dX11_job_35 rfl (by decide +kernel) (by decide +kernel) (by decide) gw_725 gw_20 (th_0 gw_734) (by decide +kernel) (by decide +kernel)) (
  ce_fn (P := P_X11_job)))))))))))))))
noncomputable def tb_X11_job_1 : List (Nat × ce_N) := [(36, ce_li (ce_aload 0 37)),
  (37, ce_li (ce_getf 15 5 40)),
  (40, ce_li (ce_getf 5 5 43)),
  (43, ce_li (ce_push (.inl (.inl (6))) 45)),
  (45, ce_li (ce_icmp false false false 56 48)),
  (56, ce_li (ce_aload 0 57)),
  (57, ce_li (ce_getf 15 5 60)),
  (60, ce_li (ce_iload 1 61)),
  (61, ce_li (ce_iload 2 62)),
  (62, ce_li (ce_iload 3 63)),
  (63, ce_call 4 0 0 66 (.inr true) (ce_CV 5 F_X1_append)),
  (66, ce_reti .int)]
theorem tk_X11_job_1 : ∀ x ∈ tb_X11_job_1, P_X11_job x.1 x.2 :=
  ce_fc (P := P_X11_job) (ok_li (ok_aload_n dX11_job_36 rfl)) (
  ce_fc (P := P_X11_job) (ok_li (ok_getf (ci := 15) (k := 5) (C := RX11) (T := TX11) (N := 7) dX11_job_37 rfl ce_uX11 (by decide) gw_459 (fun _ _ _ _ h => h))) (
  ce_fc (P := P_X11_job) (ok_li (ok_getf (ci := 5) (k := 5) (C := RX1) (T := TX1) (N := 8) dX11_job_40 rfl ce_uX1 (by decide) gw_432 (fun _ _ _ _ h => h))) (
  ce_fc (P := P_X11_job) (ok_li (ok_bipush dX11_job_43 (by decide))) (
  ce_fc (P := P_X11_job) (ok_li (ok_icmp_lt dX11_job_45 (by decide))) (
  ce_fc (P := P_X11_job) (ok_li (ok_aload_n dX11_job_56 rfl)) (
  ce_fc (P := P_X11_job) (ok_li (ok_getf (ci := 15) (k := 5) (C := RX11) (T := TX11) (N := 7) dX11_job_57 rfl ce_uX11 (by decide) gw_459 (fun _ _ _ _ h => h))) (
  ce_fc (P := P_X11_job) (ok_li (ok_iload_n dX11_job_60 rfl)) (
  ce_fc (P := P_X11_job) (ok_li (ok_iload_n dX11_job_61 rfl)) (
  ce_fc (P := P_X11_job) (ok_li (ok_iload_n dX11_job_62 rfl)) (
  ce_fc (P := P_X11_job) (ok_call (ru_V (ci := 5) (C := RX1) (Tf := TX1) (N := 8) m_X1_append (by decide) (by decide) rfl gw_1449 gw_1446 gw_1447 gw_1448 gw_12 ⟨rfl, hp_X1_append⟩ dX11_job_63) ca_t) (
  ce_fc (P := P_X11_job) (ok_reti dX11_job_66 rfl) (
  ce_fn (P := P_X11_job)))))))))))))
noncomputable def ta_X11_job : Nat → Option ce_N := (ce_tr 36 (ce_fd tb_X11_job_0) (ce_fd tb_X11_job_1))
theorem tx_X11_job : ∀ pc f, ta_X11_job pc = some f → P_X11_job pc f := (ce_tr_ok (P := P_X11_job) (ce_fd_ok (P := P_X11_job) tk_X11_job_0) (ce_fd_ok (P := P_X11_job) tk_X11_job_1))
noncomputable def F_X11_job : ce_C := ce_M ta_X11_job 4 1 6 1000000
theorem m_X11_job : ∀ l : Launch, l.stackTraces = false → ce_MS l yX11_job (.code yX11_job cX11_job 4 (some .int)) 1 1 6 F_X11_job := fun l hl => ce_met hl (by decide +kernel) tx_X11_job
theorem hp_X11_job : yX11_job.cls ≠ "java/lang/invoke/MethodHandle" ∧ yX11_job.cls ≠ "java/lang/invoke/VarHandle" ∧ (parseMethodDescriptor yX11_job.desc).map (fun d => d.parameters.length) = some 3 := by decide +kernel
abbrev P_X11_lengthOf : Nat → ce_N → Prop := ce_OKN "Carcasswright" "lengthOf" cX11_lengthOf 2 (some .int) 1 (some [])
noncomputable def tb_X11_lengthOf_0 : List (Nat × ce_N) := [(0, ce_li (ce_aload 0 1)),
  (1, ce_li (ce_getf 15 1 4)),
  (4, ce_li (ce_iload 1 5)),
  (5, ce_call 2 1 6 8 (.inr true) (ce_CV 10 F_X6_wallAt))]
theorem tk_X11_lengthOf_0 : ∀ x ∈ tb_X11_lengthOf_0, P_X11_lengthOf x.1 x.2 :=
  ce_fc (P := P_X11_lengthOf) (ok_li (ok_aload_n dX11_lengthOf_0 rfl)) (
  ce_fc (P := P_X11_lengthOf) (ok_li (ok_getf (ci := 15) (k := 1) (C := RX11) (T := TX11) (N := 7) dX11_lengthOf_1 rfl ce_uX11 (by decide) gw_455 (fun _ _ _ _ h => h))) (
  ce_fc (P := P_X11_lengthOf) (ok_li (ok_iload_n dX11_lengthOf_4 rfl)) (
  ce_fc (P := P_X11_lengthOf) (ok_call (ru_V (ci := 10) (C := RX6) (Tf := TX6) (N := 10) m_X6_wallAt (by decide) (by decide) rfl gw_487 gw_815 gw_485 gw_486 gw_4 ⟨rfl, hp_X6_wallAt⟩ dX11_lengthOf_5) ca_t) (
  ce_fn (P := P_X11_lengthOf)))))
noncomputable def ta_X11_lengthOf : Nat → Option ce_N := (ce_fd tb_X11_lengthOf_0)
theorem tx_X11_lengthOf : ∀ pc f, ta_X11_lengthOf pc = some f → P_X11_lengthOf pc f := (ce_fd_ok (P := P_X11_lengthOf) tk_X11_lengthOf_0)
noncomputable def F_X11_lengthOf : ce_C := ce_M ta_X11_lengthOf 2 1 6 1000000
theorem m_X11_lengthOf : ∀ l : Launch, l.stackTraces = false → ce_MS l yX11_lengthOf (.code yX11_lengthOf cX11_lengthOf 2 (some .int)) 1 1 6 F_X11_lengthOf := fun l hl => ce_met hl (by decide +kernel) tx_X11_lengthOf
theorem hp_X11_lengthOf : yX11_lengthOf.cls ≠ "java/lang/invoke/MethodHandle" ∧ yX11_lengthOf.cls ≠ "java/lang/invoke/VarHandle" ∧ (parseMethodDescriptor yX11_lengthOf.desc).map (fun d => d.parameters.length) = some 1 := by decide +kernel
abbrev P_X11_moduleWithPart : Nat → ce_N → Prop := ce_OKN "Carcasswright" "moduleWithPart" cX11_moduleWithPart 4 (some (.object "Carcasswright$PlacedModule")) 1 (some [])
noncomputable def tb_X11_moduleWithPart_0 : List (Nat × ce_N) := [(0, ce_li (ce_aload 0 1)),
  (1, ce_li (ce_getf 15 1 4)),
  (4, ce_li (ce_iload 1 5)),
  (5, ce_call 2 1 6 8 (.inr true) (ce_CV 10 F_X6_moduleAt))]
theorem tk_X11_moduleWithPart_0 : ∀ x ∈ tb_X11_moduleWithPart_0, P_X11_moduleWithPart x.1 x.2 :=
  ce_fc (P := P_X11_moduleWithPart) (ok_li (ok_aload_n dX11_moduleWithPart_0 rfl)) (
  ce_fc (P := P_X11_moduleWithPart) (ok_li (ok_getf (ci := 15) (k := 1) (C := RX11) (T := TX11) (N := 7) dX11_moduleWithPart_1 rfl ce_uX11 (by decide) gw_455 (fun _ _ _ _ h => h))) (
  ce_fc (P := P_X11_moduleWithPart) (ok_li (ok_iload_n dX11_moduleWithPart_4 rfl)) (
  ce_fc (P := P_X11_moduleWithPart) (ok_call (ru_V (ci := 10) (C := RX6) (Tf := TX6) (N := 10) m_X6_moduleAt (by decide) (by decide) rfl gw_641 gw_1004 gw_639 gw_640 gw_4 ⟨rfl, hp_X6_moduleAt⟩ dX11_moduleWithPart_5) ca_t) (
  ce_fn (P := P_X11_moduleWithPart)))))
noncomputable def ta_X11_moduleWithPart : Nat → Option ce_N := (ce_fd tb_X11_moduleWithPart_0)
theorem tx_X11_moduleWithPart : ∀ pc f, ta_X11_moduleWithPart pc = some f → P_X11_moduleWithPart pc f := (ce_fd_ok (P := P_X11_moduleWithPart) tk_X11_moduleWithPart_0)
noncomputable def F_X11_moduleWithPart : ce_C := ce_M ta_X11_moduleWithPart 4 1 6 1000000
theorem m_X11_moduleWithPart : ∀ l : Launch, l.stackTraces = false → ce_MS l yX11_moduleWithPart (.code yX11_moduleWithPart cX11_moduleWithPart 4 (some (.object "Carcasswright$PlacedModule"))) 1 1 6 F_X11_moduleWithPart := fun l hl => ce_met hl (by decide +kernel) tx_X11_moduleWithPart
theorem hp_X11_moduleWithPart : yX11_moduleWithPart.cls ≠ "java/lang/invoke/MethodHandle" ∧ yX11_moduleWithPart.cls ≠ "java/lang/invoke/VarHandle" ∧ (parseMethodDescriptor yX11_moduleWithPart.desc).map (fun d => d.parameters.length) = some 2 := by decide +kernel
abbrev P_X11_obstacle : Nat → ce_N → Prop := ce_OKN "Carcasswright" "obstacle" cX11_obstacle 6 (some .int) 1 (some [])
noncomputable def tb_X11_obstacle_0 : List (Nat × ce_N) := [(0, ce_li (ce_aload 0 1)),
  (1, ce_li (ce_getf 15 1 4)),
  (4, ce_li (ce_iload 1 5)),
  (5, ce_call 2 1 6 8 (.inr true) (ce_CV 10 F_X6_wallAt))]
theorem tk_X11_obstacle_0 : ∀ x ∈ tb_X11_obstacle_0, P_X11_obstacle x.1 x.2 :=
  ce_fc (P := P_X11_obstacle) (ok_li (ok_aload_n dX11_obstacle_0 rfl)) (
  ce_fc (P := P_X11_obstacle) (ok_li (ok_getf (ci := 15) (k := 1) (C := RX11) (T := TX11) (N := 7) dX11_obstacle_1 rfl ce_uX11 (by decide) gw_455 (fun _ _ _ _ h => h))) (
  ce_fc (P := P_X11_obstacle) (ok_li (ok_iload_n dX11_obstacle_4 rfl)) (
  ce_fc (P := P_X11_obstacle) (ok_call (ru_V (ci := 10) (C := RX6) (Tf := TX6) (N := 10) m_X6_wallAt (by decide) (by decide) rfl gw_487 gw_815 gw_485 gw_486 gw_4 ⟨rfl, hp_X6_wallAt⟩ dX11_obstacle_5) ca_t) (
  ce_fn (P := P_X11_obstacle)))))
noncomputable def ta_X11_obstacle : Nat → Option ce_N := (ce_fd tb_X11_obstacle_0)
theorem tx_X11_obstacle : ∀ pc f, ta_X11_obstacle pc = some f → P_X11_obstacle pc f := (ce_fd_ok (P := P_X11_obstacle) tk_X11_obstacle_0)
noncomputable def F_X11_obstacle : ce_C := ce_M ta_X11_obstacle 6 1 6 1000000
theorem m_X11_obstacle : ∀ l : Launch, l.stackTraces = false → ce_MS l yX11_obstacle (.code yX11_obstacle cX11_obstacle 6 (some .int)) 1 1 6 F_X11_obstacle := fun l hl => ce_met hl (by decide +kernel) tx_X11_obstacle
theorem hp_X11_obstacle : yX11_obstacle.cls ≠ "java/lang/invoke/MethodHandle" ∧ yX11_obstacle.cls ≠ "java/lang/invoke/VarHandle" ∧ (parseMethodDescriptor yX11_obstacle.desc).map (fun d => d.parameters.length) = some 5 := by decide +kernel
abbrev P_X11_offcuts : Nat → ce_N → Prop := ce_OKN "Carcasswright" "offcuts" cX11_offcuts 1 (some .int) 1 (some [])
noncomputable def tb_X11_offcuts_0 : List (Nat × ce_N) := [(0, ce_li (ce_aload 0 1)),
  (1, ce_li (ce_getf 15 2 4)),
  (4, ce_call 1 0 0 7 (.inr true) (ce_CV 12 F_X8_offcutCount)),
  (7, ce_reti .int)]
theorem tk_X11_offcuts_0 : ∀ x ∈ tb_X11_offcuts_0, P_X11_offcuts x.1 x.2 :=
  ce_fc (P := P_X11_offcuts) (ok_li (ok_aload_n dX11_offcuts_0 rfl)) (
  ce_fc (P := P_X11_offcuts) (ok_li (ok_getf (ci := 15) (k := 2) (C := RX11) (T := TX11) (N := 7) dX11_offcuts_1 rfl ce_uX11 (by decide) gw_456 (fun _ _ _ _ h => h))) (
  ce_fc (P := P_X11_offcuts) (ok_call (ru_V (ci := 12) (C := RX8) (Tf := TX8) (N := 5) m_X8_offcutCount (by decide) (by decide) rfl gw_573 gw_570 gw_571 gw_572 gw_8 ⟨rfl, hp_X8_offcutCount⟩ dX11_offcuts_4) ca_t) (
  ce_fc (P := P_X11_offcuts) (ok_reti dX11_offcuts_7 rfl) (
  ce_fn (P := P_X11_offcuts)))))
noncomputable def ta_X11_offcuts : Nat → Option ce_N := (ce_fd tb_X11_offcuts_0)
theorem tx_X11_offcuts : ∀ pc f, ta_X11_offcuts pc = some f → P_X11_offcuts pc f := (ce_fd_ok (P := P_X11_offcuts) tk_X11_offcuts_0)
noncomputable def F_X11_offcuts : ce_C := ce_M ta_X11_offcuts 1 0 0 1000000
theorem m_X11_offcuts : ∀ l : Launch, l.stackTraces = false → ce_MS l yX11_offcuts (.code yX11_offcuts cX11_offcuts 1 (some .int)) 1 0 0 F_X11_offcuts := fun l hl => ce_met hl (by decide +kernel) tx_X11_offcuts
theorem hp_X11_offcuts : yX11_offcuts.cls ≠ "java/lang/invoke/MethodHandle" ∧ yX11_offcuts.cls ≠ "java/lang/invoke/VarHandle" ∧ (parseMethodDescriptor yX11_offcuts.desc).map (fun d => d.parameters.length) = some 0 := by decide +kernel
abbrev P_X11_packs : Nat → ce_N → Prop := ce_OKN "Carcasswright" "packs" cX11_packs 3 (some .int) 1 (some [])
noncomputable def tb_X11_packs_0 : List (Nat × ce_N) := [(0, ce_li (ce_aload 0 1)),
  (1, ce_li (ce_aload 0 2)),
  (2, ce_li (ce_getf 15 1 5)),
  (5, ce_li (ce_iload 1 6)),
  (6, ce_call 2 1 6 9 (.inr true) (ce_CV 10 F_X6_moduleAt))]
theorem tk_X11_packs_0 : ∀ x ∈ tb_X11_packs_0, P_X11_packs x.1 x.2 :=
  ce_fc (P := P_X11_packs) (ok_li (ok_aload_n dX11_packs_0 rfl)) (
  ce_fc (P := P_X11_packs) (ok_li (ok_aload_n dX11_packs_1 rfl)) (
  ce_fc (P := P_X11_packs) (ok_li (ok_getf (ci := 15) (k := 1) (C := RX11) (T := TX11) (N := 7) dX11_packs_2 rfl ce_uX11 (by decide) gw_455 (fun _ _ _ _ h => h))) (
  ce_fc (P := P_X11_packs) (ok_li (ok_iload_n dX11_packs_5 rfl)) (
  ce_fc (P := P_X11_packs) (ok_call (ru_V (ci := 10) (C := RX6) (Tf := TX6) (N := 10) m_X6_moduleAt (by decide) (by decide) rfl gw_641 gw_1004 gw_639 gw_640 gw_4 ⟨rfl, hp_X6_moduleAt⟩ dX11_packs_6) ca_t) (
  ce_fn (P := P_X11_packs))))))
noncomputable def ta_X11_packs : Nat → Option ce_N := (ce_fd tb_X11_packs_0)
theorem tx_X11_packs : ∀ pc f, ta_X11_packs pc = some f → P_X11_packs pc f := (ce_fd_ok (P := P_X11_packs) tk_X11_packs_0)
noncomputable def F_X11_packs : ce_C := ce_M ta_X11_packs 3 1 6 1000000
theorem m_X11_packs : ∀ l : Launch, l.stackTraces = false → ce_MS l yX11_packs (.code yX11_packs cX11_packs 3 (some .int)) 1 1 6 F_X11_packs := fun l hl => ce_met hl (by decide +kernel) tx_X11_packs
theorem hp_X11_packs : yX11_packs.cls ≠ "java/lang/invoke/MethodHandle" ∧ yX11_packs.cls ≠ "java/lang/invoke/VarHandle" ∧ (parseMethodDescriptor yX11_packs.desc).map (fun d => d.parameters.length) = some 2 := by decide +kernel
abbrev P_X11_parts : Nat → ce_N → Prop := ce_OKN "Carcasswright" "parts" cX11_parts 2 (some .int) 1 (some [])
noncomputable def tb_X11_parts_0 : List (Nat × ce_N) := [(0, ce_li (ce_aload 0 1)),
  (1, ce_li (ce_getf 15 1 4)),
  (4, ce_li (ce_iload 1 5)),
  (5, ce_call 2 1 6 8 (.inr true) (ce_CV 10 F_X6_moduleAt))]
theorem tk_X11_parts_0 : ∀ x ∈ tb_X11_parts_0, P_X11_parts x.1 x.2 :=
  ce_fc (P := P_X11_parts) (ok_li (ok_aload_n dX11_parts_0 rfl)) (
  ce_fc (P := P_X11_parts) (ok_li (ok_getf (ci := 15) (k := 1) (C := RX11) (T := TX11) (N := 7) dX11_parts_1 rfl ce_uX11 (by decide) gw_455 (fun _ _ _ _ h => h))) (
  ce_fc (P := P_X11_parts) (ok_li (ok_iload_n dX11_parts_4 rfl)) (
  ce_fc (P := P_X11_parts) (ok_call (ru_V (ci := 10) (C := RX6) (Tf := TX6) (N := 10) m_X6_moduleAt (by decide) (by decide) rfl gw_641 gw_1004 gw_639 gw_640 gw_4 ⟨rfl, hp_X6_moduleAt⟩ dX11_parts_5) ca_t) (
  ce_fn (P := P_X11_parts)))))
noncomputable def ta_X11_parts : Nat → Option ce_N := (ce_fd tb_X11_parts_0)
theorem tx_X11_parts : ∀ pc f, ta_X11_parts pc = some f → P_X11_parts pc f := (ce_fd_ok (P := P_X11_parts) tk_X11_parts_0)
noncomputable def F_X11_parts : ce_C := ce_M ta_X11_parts 2 1 6 1000000
theorem m_X11_parts : ∀ l : Launch, l.stackTraces = false → ce_MS l yX11_parts (.code yX11_parts cX11_parts 2 (some .int)) 1 1 6 F_X11_parts := fun l hl => ce_met hl (by decide +kernel) tx_X11_parts
theorem hp_X11_parts : yX11_parts.cls ≠ "java/lang/invoke/MethodHandle" ∧ yX11_parts.cls ≠ "java/lang/invoke/VarHandle" ∧ (parseMethodDescriptor yX11_parts.desc).map (fun d => d.parameters.length) = some 1 := by decide +kernel
abbrev P_X11_place : Nat → ce_N → Prop := ce_OKN "Carcasswright" "place" cX11_place 6 (some .int) 1 (some [])
noncomputable def tb_X11_place_0 : List (Nat × ce_N) := [(0, ce_li (ce_aload 0 1)),
  (1, ce_li (ce_getf 15 0 4)),
  (4, ce_li (ce_iload 1 5)),
  (5, ce_call 2 1 6 8 (.inr true) (ce_CV 13 F_X9_typeAt))]
theorem tk_X11_place_0 : ∀ x ∈ tb_X11_place_0, P_X11_place x.1 x.2 :=
  ce_fc (P := P_X11_place) (ok_li (ok_aload_n dX11_place_0 rfl)) (
  ce_fc (P := P_X11_place) (ok_li (ok_getf (ci := 15) (k := 0) (C := RX11) (T := TX11) (N := 7) dX11_place_1 rfl ce_uX11 (by decide) gw_454 (fun _ _ _ _ h => h))) (
  ce_fc (P := P_X11_place) (ok_li (ok_iload_n dX11_place_4 rfl)) (
  ce_fc (P := P_X11_place) (ok_call (ru_V (ci := 13) (C := RX9) (Tf := TX9) (N := 10) m_X9_typeAt (by decide) (by decide) rfl gw_880 gw_953 gw_878 gw_879 gw_2 ⟨rfl, hp_X9_typeAt⟩ dX11_place_5) ca_t) (
  ce_fn (P := P_X11_place)))))
noncomputable def ta_X11_place : Nat → Option ce_N := (ce_fd tb_X11_place_0)
theorem tx_X11_place : ∀ pc f, ta_X11_place pc = some f → P_X11_place pc f := (ce_fd_ok (P := P_X11_place) tk_X11_place_0)
noncomputable def F_X11_place : ce_C := ce_M ta_X11_place 6 1 6 1000000
theorem m_X11_place : ∀ l : Launch, l.stackTraces = false → ce_MS l yX11_place (.code yX11_place cX11_place 6 (some .int)) 1 1 6 F_X11_place := fun l hl => ce_met hl (by decide +kernel) tx_X11_place
theorem hp_X11_place : yX11_place.cls ≠ "java/lang/invoke/MethodHandle" ∧ yX11_place.cls ≠ "java/lang/invoke/VarHandle" ∧ (parseMethodDescriptor yX11_place.desc).map (fun d => d.parameters.length) = some 4 := by decide +kernel
abbrev P_X11_price : Nat → ce_N → Prop := ce_OKN "Carcasswright" "price" cX11_price 7 (some .int) 1 (some [])
noncomputable def tb_X11_price_0 : List (Nat × ce_N) := [(0, ce_li (ce_aload 0 1)),
  (1, ce_li (ce_getf 15 1 4)),
  (4, ce_li (ce_iload 1 5)),
  (5, ce_call 2 1 6 8 (.inr true) (ce_CV 10 F_X6_moduleAt))]
theorem tk_X11_price_0 : ∀ x ∈ tb_X11_price_0, P_X11_price x.1 x.2 :=
  ce_fc (P := P_X11_price) (ok_li (ok_aload_n dX11_price_0 rfl)) (
  ce_fc (P := P_X11_price) (ok_li (ok_getf (ci := 15) (k := 1) (C := RX11) (T := TX11) (N := 7) dX11_price_1 rfl ce_uX11 (by decide) gw_455 (fun _ _ _ _ h => h))) (
  ce_fc (P := P_X11_price) (ok_li (ok_iload_n dX11_price_4 rfl)) (
  ce_fc (P := P_X11_price) (ok_call (ru_V (ci := 10) (C := RX6) (Tf := TX6) (N := 10) m_X6_moduleAt (by decide) (by decide) rfl gw_641 gw_1004 gw_639 gw_640 gw_4 ⟨rfl, hp_X6_moduleAt⟩ dX11_price_5) ca_t) (
  ce_fn (P := P_X11_price)))))
noncomputable def ta_X11_price : Nat → Option ce_N := (ce_fd tb_X11_price_0)
theorem tx_X11_price : ∀ pc f, ta_X11_price pc = some f → P_X11_price pc f := (ce_fd_ok (P := P_X11_price) tk_X11_price_0)
noncomputable def F_X11_price : ce_C := ce_M ta_X11_price 7 1 6 1000000
theorem m_X11_price : ∀ l : Launch, l.stackTraces = false → ce_MS l yX11_price (.code yX11_price cX11_price 7 (some .int)) 1 1 6 F_X11_price := fun l hl => ce_met hl (by decide +kernel) tx_X11_price
theorem hp_X11_price : yX11_price.cls ≠ "java/lang/invoke/MethodHandle" ∧ yX11_price.cls ≠ "java/lang/invoke/VarHandle" ∧ (parseMethodDescriptor yX11_price.desc).map (fun d => d.parameters.length) = some 1 := by decide +kernel
abbrev P_X11_setOff : Nat → ce_N → Prop := ce_OKN "Carcasswright" "setOff" cX11_setOff 6 (some .int) 1 (some [])
noncomputable def tb_X11_setOff_0 : List (Nat × ce_N) := [(0, ce_li (ce_aload 0 1)),
  (1, ce_li (ce_getf 15 1 4)),
  (4, ce_li (ce_iload 1 5)),
  (5, ce_call 2 1 6 8 (.inr true) (ce_CV 10 F_X6_wallAt))]
theorem tk_X11_setOff_0 : ∀ x ∈ tb_X11_setOff_0, P_X11_setOff x.1 x.2 :=
  ce_fc (P := P_X11_setOff) (ok_li (ok_aload_n dX11_setOff_0 rfl)) (
  ce_fc (P := P_X11_setOff) (ok_li (ok_getf (ci := 15) (k := 1) (C := RX11) (T := TX11) (N := 7) dX11_setOff_1 rfl ce_uX11 (by decide) gw_455 (fun _ _ _ _ h => h))) (
  ce_fc (P := P_X11_setOff) (ok_li (ok_iload_n dX11_setOff_4 rfl)) (
  ce_fc (P := P_X11_setOff) (ok_call (ru_V (ci := 10) (C := RX6) (Tf := TX6) (N := 10) m_X6_wallAt (by decide) (by decide) rfl gw_487 gw_815 gw_485 gw_486 gw_4 ⟨rfl, hp_X6_wallAt⟩ dX11_setOff_5) ca_t) (
  ce_fn (P := P_X11_setOff)))))
noncomputable def ta_X11_setOff : Nat → Option ce_N := (ce_fd tb_X11_setOff_0)
theorem tx_X11_setOff : ∀ pc f, ta_X11_setOff pc = some f → P_X11_setOff pc f := (ce_fd_ok (P := P_X11_setOff) tk_X11_setOff_0)
noncomputable def F_X11_setOff : ce_C := ce_M ta_X11_setOff 6 1 6 1000000
theorem m_X11_setOff : ∀ l : Launch, l.stackTraces = false → ce_MS l yX11_setOff (.code yX11_setOff cX11_setOff 6 (some .int)) 1 1 6 F_X11_setOff := fun l hl => ce_met hl (by decide +kernel) tx_X11_setOff
theorem hp_X11_setOff : yX11_setOff.cls ≠ "java/lang/invoke/MethodHandle" ∧ yX11_setOff.cls ≠ "java/lang/invoke/VarHandle" ∧ (parseMethodDescriptor yX11_setOff.desc).map (fun d => d.parameters.length) = some 3 := by decide +kernel
abbrev P_X11_setRate : Nat → ce_N → Prop := ce_OKN "Carcasswright" "setRate" cX11_setRate 4 (some .int) 1 (some [])
noncomputable def tb_X11_setRate_0 : List (Nat × ce_N) := [(0, ce_li (ce_iload 1 1)),
  (1, ce_call 1 0 0 4 (.inr true) F_X11_isNoColour),
  (4, ce_li (ce_if true false true 17 7)),
  (7, ce_li (ce_iload 2 8)),
  (8, ce_li (ce_push (.inl (.inl (0))) 9)),
  (9, ce_li (ce_push (.inl (.inl (100))) 11)),
  (11, ce_call 3 0 0 14 (.inr true) F_X11_isOutside),
  (14, ce_li (ce_if true false false 25 17)),
  (17, ce_thr 0),
  (25, ce_li (ce_aload 0 26)),
  (26, ce_li (ce_getf 15 6 29)),
  (29, ce_li (ce_iload 1 30)),
  (30, ce_li (ce_iald 31 30)),
  (31, ce_li (ce_istore 3 32 4))]
theorem tk_X11_setRate_0 : ∀ x ∈ tb_X11_setRate_0, P_X11_setRate x.1 x.2 :=
  ce_fc (P := P_X11_setRate) (ok_li (ok_iload_n dX11_setRate_0 rfl)) (
  ce_fc (P := P_X11_setRate) (ok_call (ru_S m_X11_isNoColour (by decide) (by decide) gw_963 gw_961 gw_962 gw_1 hp_X11_isNoColour dX11_setRate_1) ca_t) (
  ce_fc (P := P_X11_setRate) (ok_li (ok_if_ne dX11_setRate_4 (by decide))) (
  ce_fc (P := P_X11_setRate) (ok_li (ok_iload_n dX11_setRate_7 rfl)) (
  ce_fc (P := P_X11_setRate) (ok_li (ok_iconst dX11_setRate_8)) (
  ce_fc (P := P_X11_setRate) (ok_li (ok_bipush dX11_setRate_9 (by decide))) (
  ce_fc (P := P_X11_setRate) (ok_call (ru_S m_X11_isOutside (by decide) (by decide) gw_724 gw_722 gw_723 gw_1 hp_X11_isOutside dX11_setRate_11) ca_t) (
  ce_fc (P := P_X11_setRate) (ok_li (ok_if_eq dX11_setRate_14 (by decide))) (
  ce_fc (P := P_X11_setRate) (ok_thr (k := 0) (names := ["java/lang/RuntimeException", "java/lang/Exception"]) dX11_setRate_17 dX11_setRate_20 dX11_setRate_21 dX11_setRate_24 rfl (by decide +kernel) (by decide +kernel) (by decide) gw_725 gw_20 (th_0 gw_734) (by decide +kernel) (by decide +kernel)) (
  ce_fc (P := P_X11_setRate) (ok_li (ok_aload_n dX11_setRate_25 rfl)) (
  ce_fc (P := P_X11_setRate) (ok_li (ok_getf (ci := 15) (k := 6) (C := RX11) (T := TX11) (N := 7) dX11_setRate_26 rfl ce_uX11 (by decide) gw_460 (fun _ _ _ _ h => h))) (
  ce_fc (P := P_X11_setRate) (ok_li (ok_iload_n dX11_setRate_29 rfl)) (
  ce_fc (P := P_X11_setRate) (ok_li (ok_iald dX11_setRate_30)) (
  ce_fc (P := P_X11_setRate) (ok_li (ok_istore_n dX11_setRate_31 rfl)) (
  ce_fn (P := P_X11_setRate)))))))))))))))
noncomputable def tb_X11_setRate_1 : List (Nat × ce_N) := [(32, ce_li (ce_aload 0 33)),
  (33, ce_li (ce_getf 15 6 36)),
  (36, ce_li (ce_iload 1 37)),
  (37, ce_li (ce_iload 2 38)),
  (38, ce_li (ce_iast 0 39 38)),
  (39, ce_li (ce_iload 3 40)),
  (40, ce_reti .int)]
theorem tk_X11_setRate_1 : ∀ x ∈ tb_X11_setRate_1, P_X11_setRate x.1 x.2 :=
  ce_fc (P := P_X11_setRate) (ok_li (ok_aload_n dX11_setRate_32 rfl)) (
  ce_fc (P := P_X11_setRate) (ok_li (ok_getf (ci := 15) (k := 6) (C := RX11) (T := TX11) (N := 7) dX11_setRate_33 rfl ce_uX11 (by decide) gw_460 (fun _ _ _ _ h => h))) (
  ce_fc (P := P_X11_setRate) (ok_li (ok_iload_n dX11_setRate_36 rfl)) (
  ce_fc (P := P_X11_setRate) (ok_li (ok_iload_n dX11_setRate_37 rfl)) (
  ce_fc (P := P_X11_setRate) (ok_li (ok_iastore dX11_setRate_38)) (
  ce_fc (P := P_X11_setRate) (ok_li (ok_iload_n dX11_setRate_39 rfl)) (
  ce_fc (P := P_X11_setRate) (ok_reti dX11_setRate_40 rfl) (
  ce_fn (P := P_X11_setRate))))))))
noncomputable def ta_X11_setRate : Nat → Option ce_N := (ce_tr 32 (ce_fd tb_X11_setRate_0) (ce_fd tb_X11_setRate_1))
theorem tx_X11_setRate : ∀ pc f, ta_X11_setRate pc = some f → P_X11_setRate pc f := (ce_tr_ok (P := P_X11_setRate) (ce_fd_ok (P := P_X11_setRate) tk_X11_setRate_0) (ce_fd_ok (P := P_X11_setRate) tk_X11_setRate_1))
noncomputable def F_X11_setRate : ce_C := ce_M ta_X11_setRate 4 1 6 1000000
theorem m_X11_setRate : ∀ l : Launch, l.stackTraces = false → ce_MS l yX11_setRate (.code yX11_setRate cX11_setRate 4 (some .int)) 1 1 6 F_X11_setRate := fun l hl => ce_met hl (by decide +kernel) tx_X11_setRate
theorem hp_X11_setRate : yX11_setRate.cls ≠ "java/lang/invoke/MethodHandle" ∧ yX11_setRate.cls ≠ "java/lang/invoke/VarHandle" ∧ (parseMethodDescriptor yX11_setRate.desc).map (fun d => d.parameters.length) = some 2 := by decide +kernel
abbrev P_X11_setSetup : Nat → ce_N → Prop := ce_OKN "Carcasswright" "setSetup" cX11_setSetup 3 (some .int) 1 (some [])
noncomputable def tb_X11_setSetup_0 : List (Nat × ce_N) := [(0, ce_li (ce_iload 1 1)),
  (1, ce_li (ce_push (.inl (.inl (0))) 2)),
  (2, ce_li (ce_push (.inl (.inl (99))) 4)),
  (4, ce_call 3 0 0 7 (.inr true) F_X11_isOutside),
  (7, ce_li (ce_if true false false 18 10)),
  (10, ce_thr 0),
  (18, ce_li (ce_aload 0 19)),
  (19, ce_li (ce_getf 15 5 22)),
  (22, ce_li (ce_getf 5 6 25)),
  (25, ce_li (ce_istore 2 26 3)),
  (26, ce_li (ce_aload 0 27)),
  (27, ce_li (ce_getf 15 5 30)),
  (30, ce_li (ce_iload 1 31)),
  (31, ce_li (ce_putf (tyX1 6) 5 6 34))]
theorem tk_X11_setSetup_0 : ∀ x ∈ tb_X11_setSetup_0, P_X11_setSetup x.1 x.2 :=
  ce_fc (P := P_X11_setSetup) (ok_li (ok_iload_n dX11_setSetup_0 rfl)) (
  ce_fc (P := P_X11_setSetup) (ok_li (ok_iconst dX11_setSetup_1)) (
  ce_fc (P := P_X11_setSetup) (ok_li (ok_bipush dX11_setSetup_2 (by decide))) (
  ce_fc (P := P_X11_setSetup) (ok_call (ru_S m_X11_isOutside (by decide) (by decide) gw_724 gw_722 gw_723 gw_1 hp_X11_isOutside dX11_setSetup_4) ca_t) (
  ce_fc (P := P_X11_setSetup) (ok_li (ok_if_eq dX11_setSetup_7 (by decide))) (
  ce_fc (P := P_X11_setSetup) (ok_thr (k := 0) (names := ["java/lang/RuntimeException", "java/lang/Exception"]) dX11_setSetup_10 dX11_setSetup_13 dX11_setSetup_14 dX11_setSetup_17 rfl (by decide +kernel) (by decide +kernel) (by decide) gw_725 gw_20 (th_0 gw_734) (by decide +kernel) (by decide +kernel)) (
  ce_fc (P := P_X11_setSetup) (ok_li (ok_aload_n dX11_setSetup_18 rfl)) (
  ce_fc (P := P_X11_setSetup) (ok_li (ok_getf (ci := 15) (k := 5) (C := RX11) (T := TX11) (N := 7) dX11_setSetup_19 rfl ce_uX11 (by decide) gw_459 (fun _ _ _ _ h => h))) (
  ce_fc (P := P_X11_setSetup) (ok_li (ok_getf (ci := 5) (k := 6) (C := RX1) (T := TX1) (N := 8) dX11_setSetup_22 rfl ce_uX1 (by decide) gw_434 (fun _ _ _ _ h => h))) (
  ce_fc (P := P_X11_setSetup) (ok_li (ok_istore_n dX11_setSetup_25 rfl)) (
  ce_fc (P := P_X11_setSetup) (ok_li (ok_aload_n dX11_setSetup_26 rfl)) (
  ce_fc (P := P_X11_setSetup) (ok_li (ok_getf (ci := 15) (k := 5) (C := RX11) (T := TX11) (N := 7) dX11_setSetup_27 rfl ce_uX11 (by decide) gw_459 (fun _ _ _ _ h => h))) (
  ce_fc (P := P_X11_setSetup) (ok_li (ok_iload_n dX11_setSetup_30 rfl)) (
  ce_fc (P := P_X11_setSetup) (ok_li (ok_putf (ci := 5) (k := 6) (C := RX1) (T := TX1) (N := 8) (ty0 := tyX1) dX11_setSetup_31 rfl ce_uX1 (by decide) gw_434 (fun _ _ _ _ h => h) tyX1_ok nmX1 (Or.inl rfl))) (
  ce_fn (P := P_X11_setSetup)))))))))))))))
noncomputable def tb_X11_setSetup_1 : List (Nat × ce_N) := [(34, ce_li (ce_iload 2 35)),
  (35, ce_reti .int)]
theorem tk_X11_setSetup_1 : ∀ x ∈ tb_X11_setSetup_1, P_X11_setSetup x.1 x.2 :=
  ce_fc (P := P_X11_setSetup) (ok_li (ok_iload_n dX11_setSetup_34 rfl)) (
  ce_fc (P := P_X11_setSetup) (ok_reti dX11_setSetup_35 rfl) (
  ce_fn (P := P_X11_setSetup)))
noncomputable def ta_X11_setSetup : Nat → Option ce_N := (ce_tr 34 (ce_fd tb_X11_setSetup_0) (ce_fd tb_X11_setSetup_1))
theorem tx_X11_setSetup : ∀ pc f, ta_X11_setSetup pc = some f → P_X11_setSetup pc f := (ce_tr_ok (P := P_X11_setSetup) (ce_fd_ok (P := P_X11_setSetup) tk_X11_setSetup_0) (ce_fd_ok (P := P_X11_setSetup) tk_X11_setSetup_1))
noncomputable def F_X11_setSetup : ce_C := ce_M ta_X11_setSetup 3 1 6 1000000
theorem m_X11_setSetup : ∀ l : Launch, l.stackTraces = false → ce_MS l yX11_setSetup (.code yX11_setSetup cX11_setSetup 3 (some .int)) 1 1 6 F_X11_setSetup := fun l hl => ce_met hl (by decide +kernel) tx_X11_setSetup
theorem hp_X11_setSetup : yX11_setSetup.cls ≠ "java/lang/invoke/MethodHandle" ∧ yX11_setSetup.cls ≠ "java/lang/invoke/VarHandle" ∧ (parseMethodDescriptor yX11_setSetup.desc).map (fun d => d.parameters.length) = some 1 := by decide +kernel
abbrev P_X11_shift : Nat → ce_N → Prop := ce_OKN "Carcasswright" "shift" cX11_shift 5 (some .int) 1 (some [])
noncomputable def tb_X11_shift_0 : List (Nat × ce_N) := [(0, ce_li (ce_aload 0 1)),
  (1, ce_li (ce_getf 15 1 4)),
  (4, ce_li (ce_iload 1 5)),
  (5, ce_call 2 1 6 8 (.inr true) (ce_CV 10 F_X6_moduleAt))]
theorem tk_X11_shift_0 : ∀ x ∈ tb_X11_shift_0, P_X11_shift x.1 x.2 :=
  ce_fc (P := P_X11_shift) (ok_li (ok_aload_n dX11_shift_0 rfl)) (
  ce_fc (P := P_X11_shift) (ok_li (ok_getf (ci := 15) (k := 1) (C := RX11) (T := TX11) (N := 7) dX11_shift_1 rfl ce_uX11 (by decide) gw_455 (fun _ _ _ _ h => h))) (
  ce_fc (P := P_X11_shift) (ok_li (ok_iload_n dX11_shift_4 rfl)) (
  ce_fc (P := P_X11_shift) (ok_call (ru_V (ci := 10) (C := RX6) (Tf := TX6) (N := 10) m_X6_moduleAt (by decide) (by decide) rfl gw_641 gw_1004 gw_639 gw_640 gw_4 ⟨rfl, hp_X6_moduleAt⟩ dX11_shift_5) ca_t) (
  ce_fn (P := P_X11_shift)))))
noncomputable def ta_X11_shift : Nat → Option ce_N := (ce_fd tb_X11_shift_0)
theorem tx_X11_shift : ∀ pc f, ta_X11_shift pc = some f → P_X11_shift pc f := (ce_fd_ok (P := P_X11_shift) tk_X11_shift_0)
noncomputable def F_X11_shift : ce_C := ce_M ta_X11_shift 5 1 6 1000000
theorem m_X11_shift : ∀ l : Launch, l.stackTraces = false → ce_MS l yX11_shift (.code yX11_shift cX11_shift 5 (some .int)) 1 1 6 F_X11_shift := fun l hl => ce_met hl (by decide +kernel) tx_X11_shift
theorem hp_X11_shift : yX11_shift.cls ≠ "java/lang/invoke/MethodHandle" ∧ yX11_shift.cls ≠ "java/lang/invoke/VarHandle" ∧ (parseMethodDescriptor yX11_shift.desc).map (fun d => d.parameters.length) = some 2 := by decide +kernel
abbrev P_X11_told : Nat → ce_N → Prop := ce_OKN "Carcasswright" "told" cX11_told 4 (some .int) 1 (some [])
noncomputable def tb_X11_told_0 : List (Nat × ce_N) := [(0, ce_li (ce_aload 0 1)),
  (1, ce_li (ce_getf 15 0 4)),
  (4, ce_li (ce_iload 1 5)),
  (5, ce_call 2 1 6 8 (.inr true) (ce_CV 13 F_X9_typeAt))]
theorem tk_X11_told_0 : ∀ x ∈ tb_X11_told_0, P_X11_told x.1 x.2 :=
  ce_fc (P := P_X11_told) (ok_li (ok_aload_n dX11_told_0 rfl)) (
  ce_fc (P := P_X11_told) (ok_li (ok_getf (ci := 15) (k := 0) (C := RX11) (T := TX11) (N := 7) dX11_told_1 rfl ce_uX11 (by decide) gw_454 (fun _ _ _ _ h => h))) (
  ce_fc (P := P_X11_told) (ok_li (ok_iload_n dX11_told_4 rfl)) (
  ce_fc (P := P_X11_told) (ok_call (ru_V (ci := 13) (C := RX9) (Tf := TX9) (N := 10) m_X9_typeAt (by decide) (by decide) rfl gw_880 gw_953 gw_878 gw_879 gw_2 ⟨rfl, hp_X9_typeAt⟩ dX11_told_5) ca_t) (
  ce_fn (P := P_X11_told)))))
noncomputable def ta_X11_told : Nat → Option ce_N := (ce_fd tb_X11_told_0)
theorem tx_X11_told : ∀ pc f, ta_X11_told pc = some f → P_X11_told pc f := (ce_fd_ok (P := P_X11_told) tk_X11_told_0)
noncomputable def F_X11_told : ce_C := ce_M ta_X11_told 4 1 6 1000000
theorem m_X11_told : ∀ l : Launch, l.stackTraces = false → ce_MS l yX11_told (.code yX11_told cX11_told 4 (some .int)) 1 1 6 F_X11_told := fun l hl => ce_met hl (by decide +kernel) tx_X11_told
theorem hp_X11_told : yX11_told.cls ≠ "java/lang/invoke/MethodHandle" ∧ yX11_told.cls ≠ "java/lang/invoke/VarHandle" ∧ (parseMethodDescriptor yX11_told.desc).map (fun d => d.parameters.length) = some 2 := by decide +kernel
abbrev P_X11_type : Nat → ce_N → Prop := ce_OKN "Carcasswright" "type" cX11_type 2 (some .int) 1 (some [])
noncomputable def tb_X11_type_0 : List (Nat × ce_N) := [(0, ce_li (ce_aload 0 1)),
  (1, ce_li (ce_getf 15 0 4)),
  (4, ce_li (ce_getf 13 3 7)),
  (7, ce_li (ce_push (.inl (.inl (30))) 9)),
  (9, ce_li (ce_icmp false false false 20 12)),
  (20, ce_li (ce_aload 0 21)),
  (21, ce_li (ce_getf 15 0 24)),
  (24, ce_li (ce_iload 1 25)),
  (25, ce_call 2 0 0 28 (.inr true) (ce_CV 13 F_X9_append)),
  (28, ce_reti .int)]
theorem tk_X11_type_0 : ∀ x ∈ tb_X11_type_0, P_X11_type x.1 x.2 :=
  ce_fc (P := P_X11_type) (ok_li (ok_aload_n dX11_type_0 rfl)) (
  ce_fc (P := P_X11_type) (ok_li (ok_getf (ci := 15) (k := 0) (C := RX11) (T := TX11) (N := 7) dX11_type_1 rfl ce_uX11 (by decide) gw_454 (fun _ _ _ _ h => h))) (
  ce_fc (P := P_X11_type) (ok_li (ok_getf (ci := 13) (k := 3) (C := RX9) (T := TX9) (N := 10) dX11_type_4 rfl ce_uX9 (by decide) gw_118 (fun _ _ _ _ h => h))) (
  ce_fc (P := P_X11_type) (ok_li (ok_bipush dX11_type_7 (by decide))) (
  ce_fc (P := P_X11_type) (ok_li (ok_icmp_lt dX11_type_9 (by decide))) (
  ce_fc (P := P_X11_type) (ok_li (ok_aload_n dX11_type_20 rfl)) (
  ce_fc (P := P_X11_type) (ok_li (ok_getf (ci := 15) (k := 0) (C := RX11) (T := TX11) (N := 7) dX11_type_21 rfl ce_uX11 (by decide) gw_454 (fun _ _ _ _ h => h))) (
  ce_fc (P := P_X11_type) (ok_li (ok_iload_n dX11_type_24 rfl)) (
  ce_fc (P := P_X11_type) (ok_call (ru_V (ci := 13) (C := RX9) (Tf := TX9) (N := 10) m_X9_append (by decide) (by decide) rfl gw_844 gw_841 gw_842 gw_843 gw_2 ⟨rfl, hp_X9_append⟩ dX11_type_25) ca_t) (
  ce_fc (P := P_X11_type) (ok_reti dX11_type_28 rfl) (
  ce_fn (P := P_X11_type)))))))))))
noncomputable def ta_X11_type : Nat → Option ce_N := (ce_fd tb_X11_type_0)
theorem tx_X11_type : ∀ pc f, ta_X11_type pc = some f → P_X11_type pc f := (ce_fd_ok (P := P_X11_type) tk_X11_type_0)
noncomputable def F_X11_type : ce_C := ce_M ta_X11_type 2 0 0 1000000
theorem m_X11_type : ∀ l : Launch, l.stackTraces = false → ce_MS l yX11_type (.code yX11_type cX11_type 2 (some .int)) 1 0 0 F_X11_type := fun l hl => ce_met hl (by decide +kernel) tx_X11_type
theorem hp_X11_type : yX11_type.cls ≠ "java/lang/invoke/MethodHandle" ∧ yX11_type.cls ≠ "java/lang/invoke/VarHandle" ∧ (parseMethodDescriptor yX11_type.desc).map (fun d => d.parameters.length) = some 1 := by decide +kernel
abbrev P_X11_uncut : Nat → ce_N → Prop := ce_OKN "Carcasswright" "uncut" cX11_uncut 2 (some .int) 1 (some [])
noncomputable def tb_X11_uncut_0 : List (Nat × ce_N) := [(0, ce_li (ce_aload 0 1)),
  (1, ce_li (ce_getf 15 1 4)),
  (4, ce_li (ce_iload 1 5)),
  (5, ce_call 2 1 6 8 (.inr true) (ce_CV 10 F_X6_moduleAt))]
theorem tk_X11_uncut_0 : ∀ x ∈ tb_X11_uncut_0, P_X11_uncut x.1 x.2 :=
  ce_fc (P := P_X11_uncut) (ok_li (ok_aload_n dX11_uncut_0 rfl)) (
  ce_fc (P := P_X11_uncut) (ok_li (ok_getf (ci := 15) (k := 1) (C := RX11) (T := TX11) (N := 7) dX11_uncut_1 rfl ce_uX11 (by decide) gw_455 (fun _ _ _ _ h => h))) (
  ce_fc (P := P_X11_uncut) (ok_li (ok_iload_n dX11_uncut_4 rfl)) (
  ce_fc (P := P_X11_uncut) (ok_call (ru_V (ci := 10) (C := RX6) (Tf := TX6) (N := 10) m_X6_moduleAt (by decide) (by decide) rfl gw_641 gw_1004 gw_639 gw_640 gw_4 ⟨rfl, hp_X6_moduleAt⟩ dX11_uncut_5) ca_t) (
  ce_fn (P := P_X11_uncut)))))
noncomputable def ta_X11_uncut : Nat → Option ce_N := (ce_fd tb_X11_uncut_0)
theorem tx_X11_uncut : ∀ pc f, ta_X11_uncut pc = some f → P_X11_uncut pc f := (ce_fd_ok (P := P_X11_uncut) tk_X11_uncut_0)
noncomputable def F_X11_uncut : ce_C := ce_M ta_X11_uncut 2 1 6 1000000
theorem m_X11_uncut : ∀ l : Launch, l.stackTraces = false → ce_MS l yX11_uncut (.code yX11_uncut cX11_uncut 2 (some .int)) 1 1 6 F_X11_uncut := fun l hl => ce_met hl (by decide +kernel) tx_X11_uncut
theorem hp_X11_uncut : yX11_uncut.cls ≠ "java/lang/invoke/MethodHandle" ∧ yX11_uncut.cls ≠ "java/lang/invoke/VarHandle" ∧ (parseMethodDescriptor yX11_uncut.desc).map (fun d => d.parameters.length) = some 1 := by decide +kernel
abbrev P_X11_wipe : Nat → ce_N → Prop := ce_OKN "Carcasswright" "wipe" cX11_wipe 1 (some .int) 1 (some [])
noncomputable def tb_X11_wipe_0 : List (Nat × ce_N) := [(0, ce_li (ce_aload 0 1)),
  (1, ce_li (ce_getf 15 0 4)),
  (4, ce_call 1 0 0 7 (.inr true) (ce_CV 13 F_X9_clearText)),
  (7, ce_reti .int)]
theorem tk_X11_wipe_0 : ∀ x ∈ tb_X11_wipe_0, P_X11_wipe x.1 x.2 :=
  ce_fc (P := P_X11_wipe) (ok_li (ok_aload_n dX11_wipe_0 rfl)) (
  ce_fc (P := P_X11_wipe) (ok_li (ok_getf (ci := 15) (k := 0) (C := RX11) (T := TX11) (N := 7) dX11_wipe_1 rfl ce_uX11 (by decide) gw_454 (fun _ _ _ _ h => h))) (
  ce_fc (P := P_X11_wipe) (ok_call (ru_V (ci := 13) (C := RX9) (Tf := TX9) (N := 10) m_X9_clearText (by decide) (by decide) rfl gw_561 gw_558 gw_559 gw_560 gw_2 ⟨rfl, hp_X9_clearText⟩ dX11_wipe_4) ca_t) (
  ce_fc (P := P_X11_wipe) (ok_reti dX11_wipe_7 rfl) (
  ce_fn (P := P_X11_wipe)))))
noncomputable def ta_X11_wipe : Nat → Option ce_N := (ce_fd tb_X11_wipe_0)
theorem tx_X11_wipe : ∀ pc f, ta_X11_wipe pc = some f → P_X11_wipe pc f := (ce_fd_ok (P := P_X11_wipe) tk_X11_wipe_0)
noncomputable def F_X11_wipe : ce_C := ce_M ta_X11_wipe 1 0 0 1000000
theorem m_X11_wipe : ∀ l : Launch, l.stackTraces = false → ce_MS l yX11_wipe (.code yX11_wipe cX11_wipe 1 (some .int)) 1 0 0 F_X11_wipe := fun l hl => ce_met hl (by decide +kernel) tx_X11_wipe
theorem hp_X11_wipe : yX11_wipe.cls ≠ "java/lang/invoke/MethodHandle" ∧ yX11_wipe.cls ≠ "java/lang/invoke/VarHandle" ∧ (parseMethodDescriptor yX11_wipe.desc).map (fun d => d.parameters.length) = some 0 := by decide +kernel
abbrev P_X1_plan : Nat → ce_N → Prop := ce_OKN "Carcasswright$Jobs" "plan" cX1_plan 3 none 1 (some [])
noncomputable def tb_X1_plan_0 : List (Nat × ce_N) := [(0, ce_li (ce_push (.inl (.inl (0))) 1)),
  (1, ce_li (ce_istore 1 2 3)),
  (2, ce_li (ce_iload 1 3)),
  (3, ce_li (ce_push (.inl (.inl (6))) 5)),
  (5, ce_li (ce_icmp false false true 21 8)),
  (8, ce_li (ce_aload 0 9)),
  (9, ce_li (ce_getf 5 3 12)),
  (12, ce_li (ce_iload 1 13)),
  (13, ce_li (ce_iload 1 14)),
  (14, ce_li (ce_iast 0 15 14)),
  (15, ce_li (ce_iinc 1 (1) 18 3)),
  (18, ce_li (ce_goto 2)),
  (21, ce_li (ce_aload 0 22)),
  (22, ce_li (ce_aload 0 23))]
theorem tk_X1_plan_0 : ∀ x ∈ tb_X1_plan_0, P_X1_plan x.1 x.2 :=
  ce_fc (P := P_X1_plan) (ok_li (ok_iconst dX1_plan_0)) (
  ce_fc (P := P_X1_plan) (ok_li (ok_istore_n dX1_plan_1 rfl)) (
  ce_fc (P := P_X1_plan) (ok_li (ok_iload_n dX1_plan_2 rfl)) (
  ce_fc (P := P_X1_plan) (ok_li (ok_bipush dX1_plan_3 (by decide))) (
  ce_fc (P := P_X1_plan) (ok_li (ok_icmp_ge dX1_plan_5 (by decide))) (
  ce_fc (P := P_X1_plan) (ok_li (ok_aload_n dX1_plan_8 rfl)) (
  ce_fc (P := P_X1_plan) (ok_li (ok_getf (ci := 5) (k := 3) (C := RX1) (T := TX1) (N := 8) dX1_plan_9 rfl ce_uX1 (by decide) gw_428 (fun _ _ _ _ h => h))) (
  ce_fc (P := P_X1_plan) (ok_li (ok_iload_n dX1_plan_12 rfl)) (
  ce_fc (P := P_X1_plan) (ok_li (ok_iload_n dX1_plan_13 rfl)) (
  ce_fc (P := P_X1_plan) (ok_li (ok_iastore dX1_plan_14)) (
  ce_fc (P := P_X1_plan) (ok_li (ok_iinc dX1_plan_15)) (
  ce_fc (P := P_X1_plan) (ok_li (ok_goto dX1_plan_18 (by decide))) (
  ce_fc (P := P_X1_plan) (ok_li (ok_aload_n dX1_plan_21 rfl)) (
  ce_fc (P := P_X1_plan) (ok_li (ok_aload_n dX1_plan_22 rfl)) (
  ce_fn (P := P_X1_plan)))))))))))))))
noncomputable def tb_X1_plan_1 : List (Nat × ce_N) := [(23, ce_call 1 0 0 26 (.inr true) (ce_CV 5 F_X1_lateInOrder)),
  (26, ce_li (ce_putf (tyX1 7) 5 7 29)),
  (29, ce_li (ce_aload 0 30)),
  (30, ce_call 1 0 0 33 (.inr true) (ce_CV 5 F_X1_keepOrder)),
  (33, ce_li (ce_push (.inl (.inl (0))) 34)),
  (34, ce_li (ce_istore 1 35 3)),
  (35, ce_li (ce_iload 1 36)),
  (36, ce_li (ce_push (.inl (.inl (1000))) 39)),
  (39, ce_li (ce_icmp false false true 77 42)),
  (42, ce_li (ce_aload 0 43)),
  (43, ce_call 1 0 0 46 (.inr true) (ce_CV 5 F_X1_goToNextOrder)),
  (46, ce_li (ce_if true false false 77 49)),
  (77, ce_ret0)]
theorem tk_X1_plan_1 : ∀ x ∈ tb_X1_plan_1, P_X1_plan x.1 x.2 :=
  ce_fc (P := P_X1_plan) (ok_call (ru_V (ci := 5) (C := RX1) (Tf := TX1) (N := 8) m_X1_lateInOrder (by decide) (by decide) rfl gw_591 gw_588 gw_589 gw_590 gw_12 ⟨rfl, hp_X1_lateInOrder⟩ dX1_plan_23) ca_t) (
  ce_fc (P := P_X1_plan) (ok_li (ok_putf (ci := 5) (k := 7) (C := RX1) (T := TX1) (N := 8) (ty0 := tyX1) dX1_plan_26 rfl ce_uX1 (by decide) gw_435 (fun _ _ _ _ h => h) tyX1_ok nmX1 (Or.inl rfl))) (
  ce_fc (P := P_X1_plan) (ok_li (ok_aload_n dX1_plan_29 rfl)) (
  ce_fc (P := P_X1_plan) (ok_call (ru_V (ci := 5) (C := RX1) (Tf := TX1) (N := 8) m_X1_keepOrder (by decide) (by decide) rfl gw_598 gw_595 gw_596 gw_597 gw_12 ⟨rfl, hp_X1_keepOrder⟩ dX1_plan_30) ca_t) (
  ce_fc (P := P_X1_plan) (ok_li (ok_iconst dX1_plan_33)) (
  ce_fc (P := P_X1_plan) (ok_li (ok_istore_n dX1_plan_34 rfl)) (
  ce_fc (P := P_X1_plan) (ok_li (ok_iload_n dX1_plan_35 rfl)) (
  ce_fc (P := P_X1_plan) (ok_li (ok_sipush dX1_plan_36 (by decide))) (
  ce_fc (P := P_X1_plan) (ok_li (ok_icmp_ge dX1_plan_39 (by decide))) (
  ce_fc (P := P_X1_plan) (ok_li (ok_aload_n dX1_plan_42 rfl)) (
  ce_fc (P := P_X1_plan) (ok_call (ru_V (ci := 5) (C := RX1) (Tf := TX1) (N := 8) m_X1_goToNextOrder (by decide) (by decide) rfl gw_602 gw_599 gw_600 gw_601 gw_12 ⟨rfl, hp_X1_goToNextOrder⟩ dX1_plan_43) ca_t) (
  ce_fc (P := P_X1_plan) (ok_li (ok_if_eq dX1_plan_46 (by decide))) (
  ce_fc (P := P_X1_plan) (ok_ret0 dX1_plan_77 rfl) (
  ce_fn (P := P_X1_plan))))))))))))))
noncomputable def ta_X1_plan : Nat → Option ce_N := (ce_tr 23 (ce_fd tb_X1_plan_0) (ce_fd tb_X1_plan_1))
theorem tx_X1_plan : ∀ pc f, ta_X1_plan pc = some f → P_X1_plan pc f := (ce_tr_ok (P := P_X1_plan) (ce_fd_ok (P := P_X1_plan) tk_X1_plan_0) (ce_fd_ok (P := P_X1_plan) tk_X1_plan_1))
noncomputable def F_X1_plan : ce_C := ce_M ta_X1_plan 3 0 0 1000000
theorem m_X1_plan : ∀ l : Launch, l.stackTraces = false → ce_MS l yX1_plan (.code yX1_plan cX1_plan 3 none) 1 0 0 F_X1_plan := fun l hl => ce_met hl (by decide +kernel) tx_X1_plan
theorem hp_X1_plan : yX1_plan.cls ≠ "java/lang/invoke/MethodHandle" ∧ yX1_plan.cls ≠ "java/lang/invoke/VarHandle" ∧ (parseMethodDescriptor yX1_plan.desc).map (fun d => d.parameters.length) = some 0 := by decide +kernel
abbrev P_X21_board : Nat → ce_N → Prop := ce_OKN "CarcasswrightModel" "board" cX21_board 4 (some .int) 1 (some [])
noncomputable def tb_X21_board_0 : List (Nat × ce_N) := [(0, ce_li (ce_aload 0 1)),
  (1, ce_li (ce_iload 1 2)),
  (2, ce_li (ce_push (.inl (.inl (0))) 3)),
  (3, ce_li (ce_aload 0 4)),
  (4, ce_li (ce_getf 20 6 7)),
  (7, ce_call 1 0 0 10 (.inr true) (ce_CV 3 F_Jx4a65c_size_8abf5)),
  (10, ce_li (ce_push (.inl (.inl (1))) 11)),
  (11, ce_li (ce_bin ce_subo 12)),
  (12, ce_call 3 0 0 15 (.inr true) F_X21_in),
  (15, ce_li (ce_if true false true 22 18)),
  (18, ce_li (ce_push (.inl (.inl (1))) 19)),
  (19, ce_li (ce_goto 37)),
  (37, ce_li (ce_putf (tyX21 0) 20 0 40)),
  (40, ce_li (ce_aload 0 41))]
theorem tk_X21_board_0 : ∀ x ∈ tb_X21_board_0, P_X21_board x.1 x.2 :=
  ce_fc (P := P_X21_board) (ok_li (ok_aload_n dX21_board_0 rfl)) (
  ce_fc (P := P_X21_board) (ok_li (ok_iload_n dX21_board_1 rfl)) (
  ce_fc (P := P_X21_board) (ok_li (ok_iconst dX21_board_2)) (
  ce_fc (P := P_X21_board) (ok_li (ok_aload_n dX21_board_3 rfl)) (
  ce_fc (P := P_X21_board) (ok_li (ok_getf (ci := 20) (k := 6) (C := RX21) (T := TX21) (N := 20) dX21_board_4 rfl ce_uX21 (by decide) gw_1527 (fun _ _ _ _ h => h))) (
  ce_fc (P := P_X21_board) (ok_call (ru_V (ci := 3) (C := RJx4a65c) (Tf := TJx4a65c) (N := 3) m_Jx4a65c_size_8abf5 (by decide) (by decide) rfl gw_1680 gw_1677 gw_1678 gw_1679 gw_16 ⟨rfl, hp_Jx4a65c_size_8abf5⟩ dX21_board_7) ca_t) (
  ce_fc (P := P_X21_board) (ok_li (ok_iconst dX21_board_10)) (
  ce_fc (P := P_X21_board) (ok_li (ok_isub dX21_board_11)) (
  ce_fc (P := P_X21_board) (ok_call (ru_S m_X21_in (by decide) (by decide) gw_1676 gw_1674 gw_1675 gw_13 hp_X21_in dX21_board_12) ca_t) (
  ce_fc (P := P_X21_board) (ok_li (ok_if_ne dX21_board_15 (by decide))) (
  ce_fc (P := P_X21_board) (ok_li (ok_iconst dX21_board_18)) (
  ce_fc (P := P_X21_board) (ok_li (ok_goto dX21_board_19 (by decide))) (
  ce_fc (P := P_X21_board) (ok_li (ok_putf (ci := 20) (k := 0) (C := RX21) (T := TX21) (N := 20) (ty0 := tyX21) dX21_board_37 rfl ce_uX21 (by decide) gw_1521 (fun _ _ _ _ h => h) tyX21_ok nmX21 (Or.inl rfl))) (
  ce_fc (P := P_X21_board) (ok_li (ok_aload_n dX21_board_40 rfl)) (
  ce_fn (P := P_X21_board)))))))))))))))
noncomputable def tb_X21_board_1 : List (Nat × ce_N) := [(41, ce_li (ce_getf 20 0 44)),
  (44, ce_li (ce_if false true true 49 47)),
  (47, ce_li (ce_push (.inl (.inl (0))) 48)),
  (48, ce_reti .int)]
theorem tk_X21_board_1 : ∀ x ∈ tb_X21_board_1, P_X21_board x.1 x.2 :=
  ce_fc (P := P_X21_board) (ok_li (ok_getf (ci := 20) (k := 0) (C := RX21) (T := TX21) (N := 20) dX21_board_41 rfl ce_uX21 (by decide) gw_1521 (fun _ _ _ _ h => h))) (
  ce_fc (P := P_X21_board) (ok_li (ok_if_le dX21_board_44 (by decide))) (
  ce_fc (P := P_X21_board) (ok_li (ok_iconst dX21_board_47)) (
  ce_fc (P := P_X21_board) (ok_reti dX21_board_48 rfl) (
  ce_fn (P := P_X21_board)))))
noncomputable def ta_X21_board : Nat → Option ce_N := (ce_tr 41 (ce_fd tb_X21_board_0) (ce_fd tb_X21_board_1))
theorem tx_X21_board : ∀ pc f, ta_X21_board pc = some f → P_X21_board pc f := (ce_tr_ok (P := P_X21_board) (ce_fd_ok (P := P_X21_board) tk_X21_board_0) (ce_fd_ok (P := P_X21_board) tk_X21_board_1))
noncomputable def F_X21_board : ce_C := ce_M ta_X21_board 4 0 0 1000000
theorem m_X21_board : ∀ l : Launch, l.stackTraces = false → ce_MS l yX21_board (.code yX21_board cX21_board 4 (some .int)) 1 0 0 F_X21_board := fun l hl => ce_met hl (by decide +kernel) tx_X21_board
theorem hp_X21_board : yX21_board.cls ≠ "java/lang/invoke/MethodHandle" ∧ yX21_board.cls ≠ "java/lang/invoke/VarHandle" ∧ (parseMethodDescriptor yX21_board.desc).map (fun d => d.parameters.length) = some 2 := by decide +kernel
abbrev P_X21_boards : Nat → ce_N → Prop := ce_OKN "CarcasswrightModel" "boards" cX21_boards 1 (some .int) 1 (some [])
noncomputable def tb_X21_boards_0 : List (Nat × ce_N) := [(0, ce_li (ce_aload 0 1)),
  (1, ce_li (ce_push (.inl (.inl (0))) 2)),
  (2, ce_li (ce_putf (tyX21 0) 20 0 5)),
  (5, ce_li (ce_aload 0 6)),
  (6, ce_li (ce_getf 20 6 9)),
  (9, ce_call 1 0 0 12 (.inr true) (ce_CV 3 F_Jx4a65c_size_8abf5)),
  (12, ce_reti .int)]
theorem tk_X21_boards_0 : ∀ x ∈ tb_X21_boards_0, P_X21_boards x.1 x.2 :=
  ce_fc (P := P_X21_boards) (ok_li (ok_aload_n dX21_boards_0 rfl)) (
  ce_fc (P := P_X21_boards) (ok_li (ok_iconst dX21_boards_1)) (
  ce_fc (P := P_X21_boards) (ok_li (ok_putf (ci := 20) (k := 0) (C := RX21) (T := TX21) (N := 20) (ty0 := tyX21) dX21_boards_2 rfl ce_uX21 (by decide) gw_1521 (fun _ _ _ _ h => h) tyX21_ok nmX21 (Or.inl rfl))) (
  ce_fc (P := P_X21_boards) (ok_li (ok_aload_n dX21_boards_5 rfl)) (
  ce_fc (P := P_X21_boards) (ok_li (ok_getf (ci := 20) (k := 6) (C := RX21) (T := TX21) (N := 20) dX21_boards_6 rfl ce_uX21 (by decide) gw_1527 (fun _ _ _ _ h => h))) (
  ce_fc (P := P_X21_boards) (ok_call (ru_V (ci := 3) (C := RJx4a65c) (Tf := TJx4a65c) (N := 3) m_Jx4a65c_size_8abf5 (by decide) (by decide) rfl gw_1680 gw_1677 gw_1678 gw_1679 gw_16 ⟨rfl, hp_Jx4a65c_size_8abf5⟩ dX21_boards_9) ca_t) (
  ce_fc (P := P_X21_boards) (ok_reti dX21_boards_12 rfl) (
  ce_fn (P := P_X21_boards))))))))
noncomputable def ta_X21_boards : Nat → Option ce_N := (ce_fd tb_X21_boards_0)
theorem tx_X21_boards : ∀ pc f, ta_X21_boards pc = some f → P_X21_boards pc f := (ce_fd_ok (P := P_X21_boards) tk_X21_boards_0)
noncomputable def F_X21_boards : ce_C := ce_M ta_X21_boards 1 0 0 1000000
theorem m_X21_boards : ∀ l : Launch, l.stackTraces = false → ce_MS l yX21_boards (.code yX21_boards cX21_boards 1 (some .int)) 1 0 0 F_X21_boards := fun l hl => ce_met hl (by decide +kernel) tx_X21_boards
theorem hp_X21_boards : yX21_boards.cls ≠ "java/lang/invoke/MethodHandle" ∧ yX21_boards.cls ≠ "java/lang/invoke/VarHandle" ∧ (parseMethodDescriptor yX21_boards.desc).map (fun d => d.parameters.length) = some 0 := by decide +kernel
abbrev P_X21_close : Nat → ce_N → Prop := ce_OKN "CarcasswrightModel" "close" cX21_close 6 (some .int) 1 (some [])
noncomputable def tb_X21_close_0 : List (Nat × ce_N) := [(0, ce_li (ce_aload 0 1)),
  (1, ce_li (ce_getf 20 1 4)),
  (4, ce_call 1 0 0 7 (.inr true) (ce_CV 3 F_Jx4a65c_size_8abf5)),
  (7, ce_li (ce_push (.inl (.inl (4))) 8)),
  (8, ce_li (ce_icmp false false false 57 11)),
  (57, ce_li (ce_aload 0 58)),
  (58, ce_li (ce_push (.inl (.inl (1))) 59)),
  (59, ce_call 2 0 0 62 (.inr true) (ce_CV 20 F_X21_raises)),
  (62, ce_reti .int)]
theorem tk_X21_close_0 : ∀ x ∈ tb_X21_close_0, P_X21_close x.1 x.2 :=
  ce_fc (P := P_X21_close) (ok_li (ok_aload_n dX21_close_0 rfl)) (
  ce_fc (P := P_X21_close) (ok_li (ok_getf (ci := 20) (k := 1) (C := RX21) (T := TX21) (N := 20) dX21_close_1 rfl ce_uX21 (by decide) gw_1522 (fun _ _ _ _ h => h))) (
  ce_fc (P := P_X21_close) (ok_call (ru_V (ci := 3) (C := RJx4a65c) (Tf := TJx4a65c) (N := 3) m_Jx4a65c_size_8abf5 (by decide) (by decide) rfl gw_1680 gw_1677 gw_1678 gw_1679 gw_16 ⟨rfl, hp_Jx4a65c_size_8abf5⟩ dX21_close_4) ca_t) (
  ce_fc (P := P_X21_close) (ok_li (ok_iconst dX21_close_7)) (
  ce_fc (P := P_X21_close) (ok_li (ok_icmp_lt dX21_close_8 (by decide))) (
  ce_fc (P := P_X21_close) (ok_li (ok_aload_n dX21_close_57 rfl)) (
  ce_fc (P := P_X21_close) (ok_li (ok_iconst dX21_close_58)) (
  ce_fc (P := P_X21_close) (ok_call (ru_V (ci := 20) (C := RX21) (Tf := TX21) (N := 20) m_X21_raises (by decide) (by decide) rfl gw_1848 gw_1845 gw_1847 gp_9 gw_13 ⟨rfl, hp_X21_raises⟩ dX21_close_59) ca_t) (
  ce_fc (P := P_X21_close) (ok_reti dX21_close_62 rfl) (
  ce_fn (P := P_X21_close))))))))))
noncomputable def ta_X21_close : Nat → Option ce_N := (ce_fd tb_X21_close_0)
theorem tx_X21_close : ∀ pc f, ta_X21_close pc = some f → P_X21_close pc f := (ce_fd_ok (P := P_X21_close) tk_X21_close_0)
noncomputable def F_X21_close : ce_C := ce_M ta_X21_close 6 0 0 1000000
theorem m_X21_close : ∀ l : Launch, l.stackTraces = false → ce_MS l yX21_close (.code yX21_close cX21_close 6 (some .int)) 1 0 0 F_X21_close := fun l hl => ce_met hl (by decide +kernel) tx_X21_close
theorem hp_X21_close : yX21_close.cls ≠ "java/lang/invoke/MethodHandle" ∧ yX21_close.cls ≠ "java/lang/invoke/VarHandle" ∧ (parseMethodDescriptor yX21_close.desc).map (fun d => d.parameters.length) = some 0 := by decide +kernel
abbrev P_X21_isClosedRoom : Nat → ce_N → Prop := ce_OKN "CarcasswrightModel" "isClosedRoom" cX21_isClosedRoom 1 (some .boolean) 1 (some [])
noncomputable def tb_X21_isClosedRoom_0 : List (Nat × ce_N) := [(0, ce_li (ce_aload 0 1)),
  (1, ce_li (ce_push (.inl (.inl (0))) 2)),
  (2, ce_li (ce_putf (tyX21 0) 20 0 5)),
  (5, ce_li (ce_aload 0 6)),
  (6, ce_li (ce_getf 20 1 9)),
  (9, ce_call 1 0 0 12 (.inr true) (ce_CV 3 F_Jx4a65c_isEmpty_aae02)),
  (12, ce_li (ce_if true false true 49 15)),
  (49, ce_li (ce_push (.inl (.inl (0))) 50)),
  (50, ce_reti .boolean)]
theorem tk_X21_isClosedRoom_0 : ∀ x ∈ tb_X21_isClosedRoom_0, P_X21_isClosedRoom x.1 x.2 :=
  ce_fc (P := P_X21_isClosedRoom) (ok_li (ok_aload_n dX21_isClosedRoom_0 rfl)) (
  ce_fc (P := P_X21_isClosedRoom) (ok_li (ok_iconst dX21_isClosedRoom_1)) (
  ce_fc (P := P_X21_isClosedRoom) (ok_li (ok_putf (ci := 20) (k := 0) (C := RX21) (T := TX21) (N := 20) (ty0 := tyX21) dX21_isClosedRoom_2 rfl ce_uX21 (by decide) gw_1521 (fun _ _ _ _ h => h) tyX21_ok nmX21 (Or.inl rfl))) (
  ce_fc (P := P_X21_isClosedRoom) (ok_li (ok_aload_n dX21_isClosedRoom_5 rfl)) (
  ce_fc (P := P_X21_isClosedRoom) (ok_li (ok_getf (ci := 20) (k := 1) (C := RX21) (T := TX21) (N := 20) dX21_isClosedRoom_6 rfl ce_uX21 (by decide) gw_1522 (fun _ _ _ _ h => h))) (
  ce_fc (P := P_X21_isClosedRoom) (ok_call (ru_V (ci := 3) (C := RJx4a65c) (Tf := TJx4a65c) (N := 3) m_Jx4a65c_isEmpty_aae02 (by decide) (by decide) rfl gw_1684 gw_1681 gw_1682 gw_1683 gw_16 ⟨rfl, hp_Jx4a65c_isEmpty_aae02⟩ dX21_isClosedRoom_9) ca_t) (
  ce_fc (P := P_X21_isClosedRoom) (ok_li (ok_if_ne dX21_isClosedRoom_12 (by decide))) (
  ce_fc (P := P_X21_isClosedRoom) (ok_li (ok_iconst dX21_isClosedRoom_49)) (
  ce_fc (P := P_X21_isClosedRoom) (ok_reti dX21_isClosedRoom_50 rfl) (
  ce_fn (P := P_X21_isClosedRoom))))))))))
noncomputable def ta_X21_isClosedRoom : Nat → Option ce_N := (ce_fd tb_X21_isClosedRoom_0)
theorem tx_X21_isClosedRoom : ∀ pc f, ta_X21_isClosedRoom pc = some f → P_X21_isClosedRoom pc f := (ce_fd_ok (P := P_X21_isClosedRoom) tk_X21_isClosedRoom_0)
noncomputable def F_X21_isClosedRoom : ce_C := ce_M ta_X21_isClosedRoom 1 0 0 1000000
theorem m_X21_isClosedRoom : ∀ l : Launch, l.stackTraces = false → ce_MS l yX21_isClosedRoom (.code yX21_isClosedRoom cX21_isClosedRoom 1 (some .boolean)) 1 0 0 F_X21_isClosedRoom := fun l hl => ce_met hl (by decide +kernel) tx_X21_isClosedRoom
theorem hp_X21_isClosedRoom : yX21_isClosedRoom.cls ≠ "java/lang/invoke/MethodHandle" ∧ yX21_isClosedRoom.cls ≠ "java/lang/invoke/VarHandle" ∧ (parseMethodDescriptor yX21_isClosedRoom.desc).map (fun d => d.parameters.length) = some 0 := by decide +kernel
abbrev P_X21_isType : Nat → ce_N → Prop := ce_OKN "CarcasswrightModel" "isType" cX21_isType 2 (some .boolean) 1 (some [])
noncomputable def tb_X21_isType_0 : List (Nat × ce_N) := [(0, ce_li (ce_iload 1 1)),
  (1, ce_li (ce_push (.inl (.inl (0))) 2)),
  (2, ce_li (ce_aload 0 3)),
  (3, ce_li (ce_getf 20 4 6)),
  (6, ce_call 1 0 0 9 (.inr true) (ce_CV 3 F_Jx4a65c_size_8abf5)),
  (9, ce_li (ce_push (.inl (.inl (1))) 10)),
  (10, ce_li (ce_bin ce_subo 11)),
  (11, ce_call 3 0 0 14 (.inr true) F_X21_in),
  (14, ce_reti .boolean)]
theorem tk_X21_isType_0 : ∀ x ∈ tb_X21_isType_0, P_X21_isType x.1 x.2 :=
  ce_fc (P := P_X21_isType) (ok_li (ok_iload_n dX21_isType_0 rfl)) (
  ce_fc (P := P_X21_isType) (ok_li (ok_iconst dX21_isType_1)) (
  ce_fc (P := P_X21_isType) (ok_li (ok_aload_n dX21_isType_2 rfl)) (
  ce_fc (P := P_X21_isType) (ok_li (ok_getf (ci := 20) (k := 4) (C := RX21) (T := TX21) (N := 20) dX21_isType_3 rfl ce_uX21 (by decide) gw_1525 (fun _ _ _ _ h => h))) (
  ce_fc (P := P_X21_isType) (ok_call (ru_V (ci := 3) (C := RJx4a65c) (Tf := TJx4a65c) (N := 3) m_Jx4a65c_size_8abf5 (by decide) (by decide) rfl gw_1680 gw_1677 gw_1678 gw_1679 gw_16 ⟨rfl, hp_Jx4a65c_size_8abf5⟩ dX21_isType_6) ca_t) (
  ce_fc (P := P_X21_isType) (ok_li (ok_iconst dX21_isType_9)) (
  ce_fc (P := P_X21_isType) (ok_li (ok_isub dX21_isType_10)) (
  ce_fc (P := P_X21_isType) (ok_call (ru_S m_X21_in (by decide) (by decide) gw_1676 gw_1674 gw_1675 gw_13 hp_X21_in dX21_isType_11) ca_t) (
  ce_fc (P := P_X21_isType) (ok_reti dX21_isType_14 rfl) (
  ce_fn (P := P_X21_isType))))))))))
noncomputable def ta_X21_isType : Nat → Option ce_N := (ce_fd tb_X21_isType_0)
theorem tx_X21_isType : ∀ pc f, ta_X21_isType pc = some f → P_X21_isType pc f := (ce_fd_ok (P := P_X21_isType) tk_X21_isType_0)
noncomputable def F_X21_isType : ce_C := ce_M ta_X21_isType 2 0 0 1000000
theorem m_X21_isType : ∀ l : Launch, l.stackTraces = false → ce_MS l yX21_isType (.code yX21_isType cX21_isType 2 (some .boolean)) 1 0 0 F_X21_isType := fun l hl => ce_met hl (by decide +kernel) tx_X21_isType
theorem hp_X21_isType : yX21_isType.cls ≠ "java/lang/invoke/MethodHandle" ∧ yX21_isType.cls ≠ "java/lang/invoke/VarHandle" ∧ (parseMethodDescriptor yX21_isType.desc).map (fun d => d.parameters.length) = some 1 := by decide +kernel
abbrev P_X21_modules : Nat → ce_N → Prop := ce_OKN "CarcasswrightModel" "modules" cX21_modules 1 (some .int) 1 (some [])
noncomputable def tb_X21_modules_0 : List (Nat × ce_N) := [(0, ce_li (ce_aload 0 1)),
  (1, ce_li (ce_push (.inl (.inl (0))) 2)),
  (2, ce_li (ce_putf (tyX21 0) 20 0 5)),
  (5, ce_li (ce_aload 0 6)),
  (6, ce_li (ce_getf 20 5 9)),
  (9, ce_call 1 0 0 12 (.inr true) (ce_CV 3 F_Jx4a65c_size_8abf5)),
  (12, ce_reti .int)]
theorem tk_X21_modules_0 : ∀ x ∈ tb_X21_modules_0, P_X21_modules x.1 x.2 :=
  ce_fc (P := P_X21_modules) (ok_li (ok_aload_n dX21_modules_0 rfl)) (
  ce_fc (P := P_X21_modules) (ok_li (ok_iconst dX21_modules_1)) (
  ce_fc (P := P_X21_modules) (ok_li (ok_putf (ci := 20) (k := 0) (C := RX21) (T := TX21) (N := 20) (ty0 := tyX21) dX21_modules_2 rfl ce_uX21 (by decide) gw_1521 (fun _ _ _ _ h => h) tyX21_ok nmX21 (Or.inl rfl))) (
  ce_fc (P := P_X21_modules) (ok_li (ok_aload_n dX21_modules_5 rfl)) (
  ce_fc (P := P_X21_modules) (ok_li (ok_getf (ci := 20) (k := 5) (C := RX21) (T := TX21) (N := 20) dX21_modules_6 rfl ce_uX21 (by decide) gw_1526 (fun _ _ _ _ h => h))) (
  ce_fc (P := P_X21_modules) (ok_call (ru_V (ci := 3) (C := RJx4a65c) (Tf := TJx4a65c) (N := 3) m_Jx4a65c_size_8abf5 (by decide) (by decide) rfl gw_1680 gw_1677 gw_1678 gw_1679 gw_16 ⟨rfl, hp_Jx4a65c_size_8abf5⟩ dX21_modules_9) ca_t) (
  ce_fc (P := P_X21_modules) (ok_reti dX21_modules_12 rfl) (
  ce_fn (P := P_X21_modules))))))))
noncomputable def ta_X21_modules : Nat → Option ce_N := (ce_fd tb_X21_modules_0)
theorem tx_X21_modules : ∀ pc f, ta_X21_modules pc = some f → P_X21_modules pc f := (ce_fd_ok (P := P_X21_modules) tk_X21_modules_0)
noncomputable def F_X21_modules : ce_C := ce_M ta_X21_modules 1 0 0 1000000
theorem m_X21_modules : ∀ l : Launch, l.stackTraces = false → ce_MS l yX21_modules (.code yX21_modules cX21_modules 1 (some .int)) 1 0 0 F_X21_modules := fun l hl => ce_met hl (by decide +kernel) tx_X21_modules
theorem hp_X21_modules : yX21_modules.cls ≠ "java/lang/invoke/MethodHandle" ∧ yX21_modules.cls ≠ "java/lang/invoke/VarHandle" ∧ (parseMethodDescriptor yX21_modules.desc).map (fun d => d.parameters.length) = some 0 := by decide +kernel
abbrev P_X21_noModule : Nat → ce_N → Prop := ce_OKN "CarcasswrightModel" "noModule" cX21_noModule 2 (some .boolean) 1 (some [])
noncomputable def tb_X21_noModule_0 : List (Nat × ce_N) := [(0, ce_li (ce_aload 0 1)),
  (1, ce_li (ce_iload 1 2)),
  (2, ce_li (ce_push (.inl (.inl (0))) 3)),
  (3, ce_li (ce_aload 0 4)),
  (4, ce_li (ce_getf 20 5 7)),
  (7, ce_call 1 0 0 10 (.inr true) (ce_CV 3 F_Jx4a65c_size_8abf5)),
  (10, ce_li (ce_push (.inl (.inl (1))) 11)),
  (11, ce_li (ce_bin ce_subo 12)),
  (12, ce_call 3 0 0 15 (.inr true) F_X21_in),
  (15, ce_li (ce_if true false false 22 18)),
  (22, ce_li (ce_push (.inl (.inl (1))) 23)),
  (23, ce_li (ce_putf (tyX21 0) 20 0 26)),
  (26, ce_li (ce_aload 0 27)),
  (27, ce_li (ce_getf 20 0 30))]
theorem tk_X21_noModule_0 : ∀ x ∈ tb_X21_noModule_0, P_X21_noModule x.1 x.2 :=
  ce_fc (P := P_X21_noModule) (ok_li (ok_aload_n dX21_noModule_0 rfl)) (
  ce_fc (P := P_X21_noModule) (ok_li (ok_iload_n dX21_noModule_1 rfl)) (
  ce_fc (P := P_X21_noModule) (ok_li (ok_iconst dX21_noModule_2)) (
  ce_fc (P := P_X21_noModule) (ok_li (ok_aload_n dX21_noModule_3 rfl)) (
  ce_fc (P := P_X21_noModule) (ok_li (ok_getf (ci := 20) (k := 5) (C := RX21) (T := TX21) (N := 20) dX21_noModule_4 rfl ce_uX21 (by decide) gw_1526 (fun _ _ _ _ h => h))) (
  ce_fc (P := P_X21_noModule) (ok_call (ru_V (ci := 3) (C := RJx4a65c) (Tf := TJx4a65c) (N := 3) m_Jx4a65c_size_8abf5 (by decide) (by decide) rfl gw_1680 gw_1677 gw_1678 gw_1679 gw_16 ⟨rfl, hp_Jx4a65c_size_8abf5⟩ dX21_noModule_7) ca_t) (
  ce_fc (P := P_X21_noModule) (ok_li (ok_iconst dX21_noModule_10)) (
  ce_fc (P := P_X21_noModule) (ok_li (ok_isub dX21_noModule_11)) (
  ce_fc (P := P_X21_noModule) (ok_call (ru_S m_X21_in (by decide) (by decide) gw_1676 gw_1674 gw_1675 gw_13 hp_X21_in dX21_noModule_12) ca_t) (
  ce_fc (P := P_X21_noModule) (ok_li (ok_if_eq dX21_noModule_15 (by decide))) (
  ce_fc (P := P_X21_noModule) (ok_li (ok_iconst dX21_noModule_22)) (
  ce_fc (P := P_X21_noModule) (ok_li (ok_putf (ci := 20) (k := 0) (C := RX21) (T := TX21) (N := 20) (ty0 := tyX21) dX21_noModule_23 rfl ce_uX21 (by decide) gw_1521 (fun _ _ _ _ h => h) tyX21_ok nmX21 (Or.inl rfl))) (
  ce_fc (P := P_X21_noModule) (ok_li (ok_aload_n dX21_noModule_26 rfl)) (
  ce_fc (P := P_X21_noModule) (ok_li (ok_getf (ci := 20) (k := 0) (C := RX21) (T := TX21) (N := 20) dX21_noModule_27 rfl ce_uX21 (by decide) gw_1521 (fun _ _ _ _ h => h))) (
  ce_fn (P := P_X21_noModule)))))))))))))))
noncomputable def tb_X21_noModule_1 : List (Nat × ce_N) := [(30, ce_li (ce_if false true true 37 33)),
  (33, ce_li (ce_push (.inl (.inl (1))) 34)),
  (34, ce_li (ce_goto 38)),
  (38, ce_reti .boolean)]
theorem tk_X21_noModule_1 : ∀ x ∈ tb_X21_noModule_1, P_X21_noModule x.1 x.2 :=
  ce_fc (P := P_X21_noModule) (ok_li (ok_if_le dX21_noModule_30 (by decide))) (
  ce_fc (P := P_X21_noModule) (ok_li (ok_iconst dX21_noModule_33)) (
  ce_fc (P := P_X21_noModule) (ok_li (ok_goto dX21_noModule_34 (by decide))) (
  ce_fc (P := P_X21_noModule) (ok_reti dX21_noModule_38 rfl) (
  ce_fn (P := P_X21_noModule)))))
noncomputable def ta_X21_noModule : Nat → Option ce_N := (ce_tr 30 (ce_fd tb_X21_noModule_0) (ce_fd tb_X21_noModule_1))
theorem tx_X21_noModule : ∀ pc f, ta_X21_noModule pc = some f → P_X21_noModule pc f := (ce_tr_ok (P := P_X21_noModule) (ce_fd_ok (P := P_X21_noModule) tk_X21_noModule_0) (ce_fd_ok (P := P_X21_noModule) tk_X21_noModule_1))
noncomputable def F_X21_noModule : ce_C := ce_M ta_X21_noModule 2 0 0 1000000
theorem m_X21_noModule : ∀ l : Launch, l.stackTraces = false → ce_MS l yX21_noModule (.code yX21_noModule cX21_noModule 2 (some .boolean)) 1 0 0 F_X21_noModule := fun l hl => ce_met hl (by decide +kernel) tx_X21_noModule
theorem hp_X21_noModule : yX21_noModule.cls ≠ "java/lang/invoke/MethodHandle" ∧ yX21_noModule.cls ≠ "java/lang/invoke/VarHandle" ∧ (parseMethodDescriptor yX21_noModule.desc).map (fun d => d.parameters.length) = some 1 := by decide +kernel
abbrev P_X21_noWall : Nat → ce_N → Prop := ce_OKN "CarcasswrightModel" "noWall" cX21_noWall 2 (some .boolean) 1 (some [])
noncomputable def tb_X21_noWall_0 : List (Nat × ce_N) := [(0, ce_li (ce_aload 0 1)),
  (1, ce_li (ce_iload 1 2)),
  (2, ce_li (ce_push (.inl (.inl (0))) 3)),
  (3, ce_li (ce_aload 0 4)),
  (4, ce_li (ce_getf 20 1 7)),
  (7, ce_call 1 0 0 10 (.inr true) (ce_CV 3 F_Jx4a65c_size_8abf5)),
  (10, ce_li (ce_push (.inl (.inl (1))) 11)),
  (11, ce_li (ce_bin ce_subo 12)),
  (12, ce_call 3 0 0 15 (.inr true) F_X21_in),
  (15, ce_li (ce_if true false false 22 18)),
  (22, ce_li (ce_push (.inl (.inl (1))) 23)),
  (23, ce_li (ce_putf (tyX21 0) 20 0 26)),
  (26, ce_li (ce_aload 0 27)),
  (27, ce_li (ce_getf 20 0 30))]
theorem tk_X21_noWall_0 : ∀ x ∈ tb_X21_noWall_0, P_X21_noWall x.1 x.2 :=
  ce_fc (P := P_X21_noWall) (ok_li (ok_aload_n dX21_noWall_0 rfl)) (
  ce_fc (P := P_X21_noWall) (ok_li (ok_iload_n dX21_noWall_1 rfl)) (
  ce_fc (P := P_X21_noWall) (ok_li (ok_iconst dX21_noWall_2)) (
  ce_fc (P := P_X21_noWall) (ok_li (ok_aload_n dX21_noWall_3 rfl)) (
  ce_fc (P := P_X21_noWall) (ok_li (ok_getf (ci := 20) (k := 1) (C := RX21) (T := TX21) (N := 20) dX21_noWall_4 rfl ce_uX21 (by decide) gw_1522 (fun _ _ _ _ h => h))) (
  ce_fc (P := P_X21_noWall) (ok_call (ru_V (ci := 3) (C := RJx4a65c) (Tf := TJx4a65c) (N := 3) m_Jx4a65c_size_8abf5 (by decide) (by decide) rfl gw_1680 gw_1677 gw_1678 gw_1679 gw_16 ⟨rfl, hp_Jx4a65c_size_8abf5⟩ dX21_noWall_7) ca_t) (
  ce_fc (P := P_X21_noWall) (ok_li (ok_iconst dX21_noWall_10)) (
  ce_fc (P := P_X21_noWall) (ok_li (ok_isub dX21_noWall_11)) (
  ce_fc (P := P_X21_noWall) (ok_call (ru_S m_X21_in (by decide) (by decide) gw_1676 gw_1674 gw_1675 gw_13 hp_X21_in dX21_noWall_12) ca_t) (
  ce_fc (P := P_X21_noWall) (ok_li (ok_if_eq dX21_noWall_15 (by decide))) (
  ce_fc (P := P_X21_noWall) (ok_li (ok_iconst dX21_noWall_22)) (
  ce_fc (P := P_X21_noWall) (ok_li (ok_putf (ci := 20) (k := 0) (C := RX21) (T := TX21) (N := 20) (ty0 := tyX21) dX21_noWall_23 rfl ce_uX21 (by decide) gw_1521 (fun _ _ _ _ h => h) tyX21_ok nmX21 (Or.inl rfl))) (
  ce_fc (P := P_X21_noWall) (ok_li (ok_aload_n dX21_noWall_26 rfl)) (
  ce_fc (P := P_X21_noWall) (ok_li (ok_getf (ci := 20) (k := 0) (C := RX21) (T := TX21) (N := 20) dX21_noWall_27 rfl ce_uX21 (by decide) gw_1521 (fun _ _ _ _ h => h))) (
  ce_fn (P := P_X21_noWall)))))))))))))))
noncomputable def tb_X21_noWall_1 : List (Nat × ce_N) := [(30, ce_li (ce_if false true true 37 33)),
  (33, ce_li (ce_push (.inl (.inl (1))) 34)),
  (34, ce_li (ce_goto 38)),
  (38, ce_reti .boolean)]
theorem tk_X21_noWall_1 : ∀ x ∈ tb_X21_noWall_1, P_X21_noWall x.1 x.2 :=
  ce_fc (P := P_X21_noWall) (ok_li (ok_if_le dX21_noWall_30 (by decide))) (
  ce_fc (P := P_X21_noWall) (ok_li (ok_iconst dX21_noWall_33)) (
  ce_fc (P := P_X21_noWall) (ok_li (ok_goto dX21_noWall_34 (by decide))) (
  ce_fc (P := P_X21_noWall) (ok_reti dX21_noWall_38 rfl) (
  ce_fn (P := P_X21_noWall)))))
noncomputable def ta_X21_noWall : Nat → Option ce_N := (ce_tr 30 (ce_fd tb_X21_noWall_0) (ce_fd tb_X21_noWall_1))
theorem tx_X21_noWall : ∀ pc f, ta_X21_noWall pc = some f → P_X21_noWall pc f := (ce_tr_ok (P := P_X21_noWall) (ce_fd_ok (P := P_X21_noWall) tk_X21_noWall_0) (ce_fd_ok (P := P_X21_noWall) tk_X21_noWall_1))
noncomputable def F_X21_noWall : ce_C := ce_M ta_X21_noWall 2 0 0 1000000
theorem m_X21_noWall : ∀ l : Launch, l.stackTraces = false → ce_MS l yX21_noWall (.code yX21_noWall cX21_noWall 2 (some .boolean)) 1 0 0 F_X21_noWall := fun l hl => ce_met hl (by decide +kernel) tx_X21_noWall
theorem hp_X21_noWall : yX21_noWall.cls ≠ "java/lang/invoke/MethodHandle" ∧ yX21_noWall.cls ≠ "java/lang/invoke/VarHandle" ∧ (parseMethodDescriptor yX21_noWall.desc).map (fun d => d.parameters.length) = some 1 := by decide +kernel
abbrev P_X21_orders : Nat → ce_N → Prop := ce_OKN "CarcasswrightModel" "orders" cX21_orders 1 none 1 (some [])
noncomputable def tb_X21_orders_0 : List (Nat × ce_N) := [(0, ce_li (ce_aload 0 1)),
  (1, ce_li (ce_push (.inl (.inl (0))) 2)),
  (2, ce_li (ce_putf (tyX21 0) 20 0 5)),
  (5, ce_li (ce_aload 0 6)),
  (6, ce_li (ce_push (.inl (.inl (2147483647))) 9)),
  (9, ce_li (ce_putf (tyX21 18) 20 18 12)),
  (12, ce_li (ce_aload 0 13)),
  (13, ce_li (ce_aload 0 14)),
  (14, ce_li (ce_getf 20 7 17)),
  (17, ce_call 1 0 0 20 (.inr true) (ce_CV 3 F_Jx4a65c_size_8abf5)),
  (20, ce_li (ce_newa 0 2 22)),
  (22, ce_li (ce_push (.inl (.inl (0))) 23)),
  (23, ce_li (ce_push (.inl (.inl (0))) 24)),
  (24, ce_li (ce_push (.inl (.inl (0))) 25))]
theorem tk_X21_orders_0 : ∀ x ∈ tb_X21_orders_0, P_X21_orders x.1 x.2 :=
  ce_fc (P := P_X21_orders) (ok_li (ok_aload_n dX21_orders_0 rfl)) (
  ce_fc (P := P_X21_orders) (ok_li (ok_iconst dX21_orders_1)) (
  ce_fc (P := P_X21_orders) (ok_li (ok_putf (ci := 20) (k := 0) (C := RX21) (T := TX21) (N := 20) (ty0 := tyX21) dX21_orders_2 rfl ce_uX21 (by decide) gw_1521 (fun _ _ _ _ h => h) tyX21_ok nmX21 (Or.inl rfl))) (
  ce_fc (P := P_X21_orders) (ok_li (ok_aload_n dX21_orders_5 rfl)) (
  ce_fc (P := P_X21_orders) (ok_li (ok_ldcw dX21_orders_6 gw_2812)) (
  ce_fc (P := P_X21_orders) (ok_li (ok_putf (ci := 20) (k := 18) (C := RX21) (T := TX21) (N := 20) (ty0 := tyX21) dX21_orders_9 rfl ce_uX21 (by decide) gw_1539 (fun _ _ _ _ h => h) tyX21_ok nmX21 (Or.inl rfl))) (
  ce_fc (P := P_X21_orders) (ok_li (ok_aload_n dX21_orders_12 rfl)) (
  ce_fc (P := P_X21_orders) (ok_li (ok_aload_n dX21_orders_13 rfl)) (
  ce_fc (P := P_X21_orders) (ok_li (ok_getf (ci := 20) (k := 7) (C := RX21) (T := TX21) (N := 20) dX21_orders_14 rfl ce_uX21 (by decide) gw_1528 (fun _ _ _ _ h => h))) (
  ce_fc (P := P_X21_orders) (ok_call (ru_V (ci := 3) (C := RJx4a65c) (Tf := TJx4a65c) (N := 3) m_Jx4a65c_size_8abf5 (by decide) (by decide) rfl gw_1680 gw_1677 gw_1678 gw_1679 gw_16 ⟨rfl, hp_Jx4a65c_size_8abf5⟩ dX21_orders_17) ca_t) (
  ce_fc (P := P_X21_orders) (ok_li (ok_newa_int dX21_orders_20 gw_193)) (
  ce_fc (P := P_X21_orders) (ok_li (ok_iconst dX21_orders_22)) (
  ce_fc (P := P_X21_orders) (ok_li (ok_iconst dX21_orders_23)) (
  ce_fc (P := P_X21_orders) (ok_li (ok_iconst dX21_orders_24)) (
  ce_fn (P := P_X21_orders)))))))))))))))
noncomputable def tb_X21_orders_1 : List (Nat × ce_N) := [(25, ce_li (ce_push (.inl (.inl (0))) 26)),
  (26, ce_call 6 1 0 29 (.inr true) (ce_CV 20 F_X21_tries)),
  (29, ce_ret0)]
theorem tk_X21_orders_1 : ∀ x ∈ tb_X21_orders_1, P_X21_orders x.1 x.2 :=
  ce_fc (P := P_X21_orders) (ok_li (ok_iconst dX21_orders_25)) (
  ce_fc (P := P_X21_orders) (ok_call (ru_V (ci := 20) (C := RX21) (Tf := TX21) (N := 20) m_X21_tries (by decide) (by decide) rfl gw_2816 gw_2813 gw_2815 gp_30 gw_13 ⟨rfl, hp_X21_tries⟩ dX21_orders_26) ca_t) (
  ce_fc (P := P_X21_orders) (ok_ret0 dX21_orders_29 rfl) (
  ce_fn (P := P_X21_orders))))
noncomputable def ta_X21_orders : Nat → Option ce_N := (ce_tr 25 (ce_fd tb_X21_orders_0) (ce_fd tb_X21_orders_1))
theorem tx_X21_orders : ∀ pc f, ta_X21_orders pc = some f → P_X21_orders pc f := (ce_tr_ok (P := P_X21_orders) (ce_fd_ok (P := P_X21_orders) tk_X21_orders_0) (ce_fd_ok (P := P_X21_orders) tk_X21_orders_1))
noncomputable def F_X21_orders : ce_C := ce_M ta_X21_orders 1 2 0 1000000
theorem m_X21_orders : ∀ l : Launch, l.stackTraces = false → ce_MS l yX21_orders (.code yX21_orders cX21_orders 1 none) 1 2 0 F_X21_orders := fun l hl => ce_met hl (by decide +kernel) tx_X21_orders
theorem hp_X21_orders : yX21_orders.cls ≠ "java/lang/invoke/MethodHandle" ∧ yX21_orders.cls ≠ "java/lang/invoke/VarHandle" ∧ (parseMethodDescriptor yX21_orders.desc).map (fun d => d.parameters.length) = some 0 := by decide +kernel
abbrev P_X21_reads : Nat → ce_N → Prop := ce_OKN "CarcasswrightModel" "reads" cX21_reads 4 none 1 (some [])
noncomputable def tb_X21_reads_0 : List (Nat × ce_N) := [(0, ce_li (ce_aload 0 1)),
  (1, ce_li (ce_push (.inl (.inl (32))) 3)),
  (3, ce_li (ce_putf (tyX21 16) 20 16 6)),
  (6, ce_li (ce_aload 0 7)),
  (7, ce_li (ce_new 18 5 dl_X19 10)),
  (10, ce_li (ce_dup 11)),
  (11, ce_call 1 0 0 14 (.inr true) (ce_CI F_X19_init)),
  (14, ce_li (ce_putf (tyX21 15) 20 15 17)),
  (17, ce_li (ce_push (.inl (.inl (1))) 18)),
  (18, ce_li (ce_istore 1 19 4)),
  (19, ce_li (ce_aload 0 20)),
  (20, ce_li (ce_getf 20 3 23)),
  (23, ce_call 1 0 0 26 (.inr true) (ce_CV 0 F_J0_isEmpty_aae02)),
  (26, ce_li (ce_if true false false 34 29))]
theorem tk_X21_reads_0 : ∀ x ∈ tb_X21_reads_0, P_X21_reads x.1 x.2 :=
  ce_fc (P := P_X21_reads) (ok_li (ok_aload_n dX21_reads_0 rfl)) (
  ce_fc (P := P_X21_reads) (ok_li (ok_bipush dX21_reads_1 (by decide))) (
  ce_fc (P := P_X21_reads) (ok_li (ok_putf (ci := 20) (k := 16) (C := RX21) (T := TX21) (N := 20) (ty0 := tyX21) dX21_reads_3 rfl ce_uX21 (by decide) gw_1537 (fun _ _ _ _ h => h) tyX21_ok nmX21 (Or.inl rfl))) (
  ce_fc (P := P_X21_reads) (ok_li (ok_aload_n dX21_reads_6 rfl)) (
  ce_fc (P := P_X21_reads) (ok_li (ok_new (ci := 18) (C := RX19) (T := TX19) (N := 5) (ty0 := tyX19) dX21_reads_7 rfl ce_uX19 tyX19_ok gw_2164 gw_2165 gw_42 dv_X19 rfl)) (
  ce_fc (P := P_X21_reads) (ok_li (ok_dup dX21_reads_10)) (
  ce_fc (P := P_X21_reads) (ok_call (ru_IN m_X19_init (by decide) (by decide) gw_2168 gn_24 gw_2167 gw_42 rfl hp_X19_init dX21_reads_11) ca_t) (
  ce_fc (P := P_X21_reads) (ok_li (ok_putf (ci := 20) (k := 15) (C := RX21) (T := TX21) (N := 20) (ty0 := tyX21) dX21_reads_14 rfl ce_uX21 (by decide) gw_1536 (fun _ _ _ _ h => h) tyX21_ok nmX21 (Or.inl rfl))) (
  ce_fc (P := P_X21_reads) (ok_li (ok_iconst dX21_reads_17)) (
  ce_fc (P := P_X21_reads) (ok_li (ok_istore_n dX21_reads_18 rfl)) (
  ce_fc (P := P_X21_reads) (ok_li (ok_aload_n dX21_reads_19 rfl)) (
  ce_fc (P := P_X21_reads) (ok_li (ok_getf (ci := 20) (k := 3) (C := RX21) (T := TX21) (N := 20) dX21_reads_20 rfl ce_uX21 (by decide) gw_1524 (fun _ _ _ _ h => h))) (
  ce_fc (P := P_X21_reads) (ok_call (ru_V (ci := 0) (C := RJ0) (Tf := TJ0) (N := 4) m_J0_isEmpty_aae02 (by decide) (by decide) rfl gw_2199 gw_2196 gw_2197 gw_2198 gw_23 ⟨rfl, hp_J0_isEmpty_aae02⟩ dX21_reads_23) ca_t) (
  ce_fc (P := P_X21_reads) (ok_li (ok_if_eq dX21_reads_26 (by decide))) (
  ce_fn (P := P_X21_reads)))))))))))))))
noncomputable def tb_X21_reads_1 : List (Nat × ce_N) := [(29, ce_li (ce_push (.inl (.inl (32))) 31)),
  (31, ce_li (ce_goto 42)),
  (42, ce_li (ce_istore 2 43 4)),
  (43, ce_li (ce_iload 2 44)),
  (44, ce_li (ce_push (.inl (.inl (64))) 46)),
  (46, ce_li (ce_icmp true false true 103 49)),
  (103, ce_li (ce_iload 2 104)),
  (104, ce_li (ce_push (.inl (.inl (98))) 106)),
  (106, ce_li (ce_icmp true false false 121 109)),
  (109, ce_li (ce_iload 2 110)),
  (110, ce_li (ce_push (.inl (.inl (117))) 112)),
  (112, ce_li (ce_icmp true false false 121 115)),
  (115, ce_li (ce_iload 2 116)),
  (116, ce_li (ce_push (.inl (.inl (116))) 118))]
theorem tk_X21_reads_1 : ∀ x ∈ tb_X21_reads_1, P_X21_reads x.1 x.2 :=
  ce_fc (P := P_X21_reads) (ok_li (ok_bipush dX21_reads_29 (by decide))) (
  ce_fc (P := P_X21_reads) (ok_li (ok_goto dX21_reads_31 (by decide))) (
  ce_fc (P := P_X21_reads) (ok_li (ok_istore_n dX21_reads_42 rfl)) (
  ce_fc (P := P_X21_reads) (ok_li (ok_iload_n dX21_reads_43 rfl)) (
  ce_fc (P := P_X21_reads) (ok_li (ok_bipush dX21_reads_44 (by decide))) (
  ce_fc (P := P_X21_reads) (ok_li (ok_icmp_ne dX21_reads_46 (by decide))) (
  ce_fc (P := P_X21_reads) (ok_li (ok_iload_n dX21_reads_103 rfl)) (
  ce_fc (P := P_X21_reads) (ok_li (ok_bipush dX21_reads_104 (by decide))) (
  ce_fc (P := P_X21_reads) (ok_li (ok_icmp_eq dX21_reads_106 (by decide))) (
  ce_fc (P := P_X21_reads) (ok_li (ok_iload_n dX21_reads_109 rfl)) (
  ce_fc (P := P_X21_reads) (ok_li (ok_bipush dX21_reads_110 (by decide))) (
  ce_fc (P := P_X21_reads) (ok_li (ok_icmp_eq dX21_reads_112 (by decide))) (
  ce_fc (P := P_X21_reads) (ok_li (ok_iload_n dX21_reads_115 rfl)) (
  ce_fc (P := P_X21_reads) (ok_li (ok_bipush dX21_reads_116 (by decide))) (
  ce_fn (P := P_X21_reads)))))))))))))))
noncomputable def tb_X21_reads_2 : List (Nat × ce_N) := [(118, ce_li (ce_icmp true false true 132 121)),
  (132, ce_li (ce_aload 0 133)),
  (133, ce_li (ce_push (.inl (.inl (107))) 135)),
  (135, ce_li (ce_push (.inl (.inl (0))) 136)),
  (136, ce_call 3 0 0 139 (.inr true) (ce_CV 20 F_X21_faults)),
  (139, ce_ret0)]
theorem tk_X21_reads_2 : ∀ x ∈ tb_X21_reads_2, P_X21_reads x.1 x.2 :=
  ce_fc (P := P_X21_reads) (ok_li (ok_icmp_ne dX21_reads_118 (by decide))) (
  ce_fc (P := P_X21_reads) (ok_li (ok_aload_n dX21_reads_132 rfl)) (
  ce_fc (P := P_X21_reads) (ok_li (ok_bipush dX21_reads_133 (by decide))) (
  ce_fc (P := P_X21_reads) (ok_li (ok_iconst dX21_reads_135)) (
  ce_fc (P := P_X21_reads) (ok_call (ru_V (ci := 20) (C := RX21) (Tf := TX21) (N := 20) m_X21_faults (by decide) (by decide) rfl gw_2219 gw_2216 gw_2218 gp_15 gw_13 ⟨rfl, hp_X21_faults⟩ dX21_reads_136) ca_t) (
  ce_fc (P := P_X21_reads) (ok_ret0 dX21_reads_139 rfl) (
  ce_fn (P := P_X21_reads)))))))
noncomputable def ta_X21_reads : Nat → Option ce_N := (ce_tr 29 (ce_fd tb_X21_reads_0) (ce_tr 118 (ce_fd tb_X21_reads_1) (ce_fd tb_X21_reads_2)))
theorem tx_X21_reads : ∀ pc f, ta_X21_reads pc = some f → P_X21_reads pc f := (ce_tr_ok (P := P_X21_reads) (ce_fd_ok (P := P_X21_reads) tk_X21_reads_0) (ce_tr_ok (P := P_X21_reads) (ce_fd_ok (P := P_X21_reads) tk_X21_reads_1) (ce_fd_ok (P := P_X21_reads) tk_X21_reads_2)))
noncomputable def F_X21_reads : ce_C := ce_M ta_X21_reads 4 1 5 1000000
theorem m_X21_reads : ∀ l : Launch, l.stackTraces = false → ce_MS l yX21_reads (.code yX21_reads cX21_reads 4 none) 1 1 5 F_X21_reads := fun l hl => ce_met hl (by decide +kernel) tx_X21_reads
theorem hp_X21_reads : yX21_reads.cls ≠ "java/lang/invoke/MethodHandle" ∧ yX21_reads.cls ≠ "java/lang/invoke/VarHandle" ∧ (parseMethodDescriptor yX21_reads.desc).map (fun d => d.parameters.length) = some 0 := by decide +kernel
