abbrev P_X21_setRate : Nat → ce_N → Prop := ce_OKN "CarcasswrightModel" "setRate" cX21_setRate 4 (some .int) 1 (some [])
noncomputable def tb_X21_setRate_0 : List (Nat × ce_N) := [(0, ce_li (ce_aload 0 1)),
  (1, ce_li (ce_iload 1 2)),
  (2, ce_li (ce_push (.inl (.inl (0))) 3)),
  (3, ce_li (ce_push (.inl (.inl (2))) 4)),
  (4, ce_call 3 0 0 7 (.inr true) F_X21_in),
  (7, ce_li (ce_if true false false 24 10)),
  (10, ce_li (ce_iload 2 11)),
  (11, ce_li (ce_push (.inl (.inl (0))) 12)),
  (12, ce_li (ce_push (.inl (.inl (100))) 14)),
  (14, ce_call 3 0 0 17 (.inr true) F_X21_in),
  (17, ce_li (ce_if true false false 24 20)),
  (20, ce_li (ce_push (.inl (.inl (0))) 21)),
  (21, ce_li (ce_goto 25)),
  (24, ce_li (ce_push (.inl (.inl (1))) 25))]
theorem tk_X21_setRate_0 : ∀ x ∈ tb_X21_setRate_0, P_X21_setRate x.1 x.2 :=
  ce_fc (P := P_X21_setRate) (ok_li (ok_aload_n dX21_setRate_0 rfl)) (
  ce_fc (P := P_X21_setRate) (ok_li (ok_iload_n dX21_setRate_1 rfl)) (
  ce_fc (P := P_X21_setRate) (ok_li (ok_iconst dX21_setRate_2)) (
  ce_fc (P := P_X21_setRate) (ok_li (ok_iconst dX21_setRate_3)) (
  ce_fc (P := P_X21_setRate) (ok_call (ru_S m_X21_in (by decide) (by decide) gw_1676 gw_1674 gw_1675 gw_13 hp_X21_in dX21_setRate_4) ca_t) (
  ce_fc (P := P_X21_setRate) (ok_li (ok_if_eq dX21_setRate_7 (by decide))) (
  ce_fc (P := P_X21_setRate) (ok_li (ok_iload_n dX21_setRate_10 rfl)) (
  ce_fc (P := P_X21_setRate) (ok_li (ok_iconst dX21_setRate_11)) (
  ce_fc (P := P_X21_setRate) (ok_li (ok_bipush dX21_setRate_12 (by decide))) (
  ce_fc (P := P_X21_setRate) (ok_call (ru_S m_X21_in (by decide) (by decide) gw_1676 gw_1674 gw_1675 gw_13 hp_X21_in dX21_setRate_14) ca_t) (
  ce_fc (P := P_X21_setRate) (ok_li (ok_if_eq dX21_setRate_17 (by decide))) (
  ce_fc (P := P_X21_setRate) (ok_li (ok_iconst dX21_setRate_20)) (
  ce_fc (P := P_X21_setRate) (ok_li (ok_goto dX21_setRate_21 (by decide))) (
  ce_fc (P := P_X21_setRate) (ok_li (ok_iconst dX21_setRate_24)) (
  ce_fn (P := P_X21_setRate)))))))))))))))
noncomputable def tb_X21_setRate_1 : List (Nat × ce_N) := [(25, ce_li (ce_putf (tyX21 0) 20 0 28)),
  (28, ce_li (ce_aload 0 29)),
  (29, ce_li (ce_getf 20 0 32)),
  (32, ce_li (ce_if false true true 37 35)),
  (35, ce_li (ce_push (.inl (.inl (0))) 36)),
  (36, ce_reti .int),
  (37, ce_li (ce_aload 0 38)),
  (38, ce_li (ce_getf 20 8 41)),
  (41, ce_li (ce_iload 1 42)),
  (42, ce_li (ce_iald 43 42)),
  (43, ce_li (ce_istore 3 44 4)),
  (44, ce_li (ce_aload 0 45)),
  (45, ce_li (ce_getf 20 8 48)),
  (48, ce_li (ce_iload 1 49))]
theorem tk_X21_setRate_1 : ∀ x ∈ tb_X21_setRate_1, P_X21_setRate x.1 x.2 :=
  ce_fc (P := P_X21_setRate) (ok_li (ok_putf (ci := 20) (k := 0) (C := RX21) (T := TX21) (N := 20) (ty0 := tyX21) dX21_setRate_25 rfl ce_uX21 (by decide) gw_1521 (fun _ _ _ _ h => h) tyX21_ok nmX21 (Or.inl rfl))) (
  ce_fc (P := P_X21_setRate) (ok_li (ok_aload_n dX21_setRate_28 rfl)) (
  ce_fc (P := P_X21_setRate) (ok_li (ok_getf (ci := 20) (k := 0) (C := RX21) (T := TX21) (N := 20) dX21_setRate_29 rfl ce_uX21 (by decide) gw_1521 (fun _ _ _ _ h => h))) (
  ce_fc (P := P_X21_setRate) (ok_li (ok_if_le dX21_setRate_32 (by decide))) (
  ce_fc (P := P_X21_setRate) (ok_li (ok_iconst dX21_setRate_35)) (
  ce_fc (P := P_X21_setRate) (ok_reti dX21_setRate_36 rfl) (
  ce_fc (P := P_X21_setRate) (ok_li (ok_aload_n dX21_setRate_37 rfl)) (
  ce_fc (P := P_X21_setRate) (ok_li (ok_getf (ci := 20) (k := 8) (C := RX21) (T := TX21) (N := 20) dX21_setRate_38 rfl ce_uX21 (by decide) gw_1529 (fun _ _ _ _ h => h))) (
  ce_fc (P := P_X21_setRate) (ok_li (ok_iload_n dX21_setRate_41 rfl)) (
  ce_fc (P := P_X21_setRate) (ok_li (ok_iald dX21_setRate_42)) (
  ce_fc (P := P_X21_setRate) (ok_li (ok_istore_n dX21_setRate_43 rfl)) (
  ce_fc (P := P_X21_setRate) (ok_li (ok_aload_n dX21_setRate_44 rfl)) (
  ce_fc (P := P_X21_setRate) (ok_li (ok_getf (ci := 20) (k := 8) (C := RX21) (T := TX21) (N := 20) dX21_setRate_45 rfl ce_uX21 (by decide) gw_1529 (fun _ _ _ _ h => h))) (
  ce_fc (P := P_X21_setRate) (ok_li (ok_iload_n dX21_setRate_48 rfl)) (
  ce_fn (P := P_X21_setRate)))))))))))))))
noncomputable def tb_X21_setRate_2 : List (Nat × ce_N) := [(49, ce_li (ce_iload 2 50)),
  (50, ce_li (ce_iast 0 51 50)),
  (51, ce_li (ce_iload 3 52)),
  (52, ce_reti .int)]
theorem tk_X21_setRate_2 : ∀ x ∈ tb_X21_setRate_2, P_X21_setRate x.1 x.2 :=
  ce_fc (P := P_X21_setRate) (ok_li (ok_iload_n dX21_setRate_49 rfl)) (
  ce_fc (P := P_X21_setRate) (ok_li (ok_iastore dX21_setRate_50)) (
  ce_fc (P := P_X21_setRate) (ok_li (ok_iload_n dX21_setRate_51 rfl)) (
  ce_fc (P := P_X21_setRate) (ok_reti dX21_setRate_52 rfl) (
  ce_fn (P := P_X21_setRate)))))
noncomputable def ta_X21_setRate : Nat → Option ce_N := (ce_tr 25 (ce_fd tb_X21_setRate_0) (ce_tr 49 (ce_fd tb_X21_setRate_1) (ce_fd tb_X21_setRate_2)))
theorem tx_X21_setRate : ∀ pc f, ta_X21_setRate pc = some f → P_X21_setRate pc f := (ce_tr_ok (P := P_X21_setRate) (ce_fd_ok (P := P_X21_setRate) tk_X21_setRate_0) (ce_tr_ok (P := P_X21_setRate) (ce_fd_ok (P := P_X21_setRate) tk_X21_setRate_1) (ce_fd_ok (P := P_X21_setRate) tk_X21_setRate_2)))
noncomputable def F_X21_setRate : ce_C := ce_M ta_X21_setRate 4 0 0 1000000
theorem m_X21_setRate : ∀ l : Launch, l.stackTraces = false → ce_MS l yX21_setRate (.code yX21_setRate cX21_setRate 4 (some .int)) 1 0 0 F_X21_setRate := fun l hl => ce_met hl (by decide +kernel) tx_X21_setRate
theorem hp_X21_setRate : yX21_setRate.cls ≠ "java/lang/invoke/MethodHandle" ∧ yX21_setRate.cls ≠ "java/lang/invoke/VarHandle" ∧ (parseMethodDescriptor yX21_setRate.desc).map (fun d => d.parameters.length) = some 2 := by decide +kernel
abbrev P_X21_setSetup : Nat → ce_N → Prop := ce_OKN "CarcasswrightModel" "setSetup" cX21_setSetup 3 (some .int) 1 (some [])
noncomputable def tb_X21_setSetup_0 : List (Nat × ce_N) := [(0, ce_li (ce_aload 0 1)),
  (1, ce_li (ce_iload 1 2)),
  (2, ce_li (ce_push (.inl (.inl (0))) 3)),
  (3, ce_li (ce_push (.inl (.inl (99))) 5)),
  (5, ce_call 3 0 0 8 (.inr true) F_X21_in),
  (8, ce_li (ce_if true false false 15 11)),
  (11, ce_li (ce_push (.inl (.inl (0))) 12)),
  (12, ce_li (ce_goto 16)),
  (15, ce_li (ce_push (.inl (.inl (1))) 16)),
  (16, ce_li (ce_putf (tyX21 0) 20 0 19)),
  (19, ce_li (ce_aload 0 20)),
  (20, ce_li (ce_getf 20 0 23)),
  (23, ce_li (ce_if false true true 28 26)),
  (26, ce_li (ce_push (.inl (.inl (0))) 27))]
theorem tk_X21_setSetup_0 : ∀ x ∈ tb_X21_setSetup_0, P_X21_setSetup x.1 x.2 :=
  ce_fc (P := P_X21_setSetup) (ok_li (ok_aload_n dX21_setSetup_0 rfl)) (
  ce_fc (P := P_X21_setSetup) (ok_li (ok_iload_n dX21_setSetup_1 rfl)) (
  ce_fc (P := P_X21_setSetup) (ok_li (ok_iconst dX21_setSetup_2)) (
  ce_fc (P := P_X21_setSetup) (ok_li (ok_bipush dX21_setSetup_3 (by decide))) (
  ce_fc (P := P_X21_setSetup) (ok_call (ru_S m_X21_in (by decide) (by decide) gw_1676 gw_1674 gw_1675 gw_13 hp_X21_in dX21_setSetup_5) ca_t) (
  ce_fc (P := P_X21_setSetup) (ok_li (ok_if_eq dX21_setSetup_8 (by decide))) (
  ce_fc (P := P_X21_setSetup) (ok_li (ok_iconst dX21_setSetup_11)) (
  ce_fc (P := P_X21_setSetup) (ok_li (ok_goto dX21_setSetup_12 (by decide))) (
  ce_fc (P := P_X21_setSetup) (ok_li (ok_iconst dX21_setSetup_15)) (
  ce_fc (P := P_X21_setSetup) (ok_li (ok_putf (ci := 20) (k := 0) (C := RX21) (T := TX21) (N := 20) (ty0 := tyX21) dX21_setSetup_16 rfl ce_uX21 (by decide) gw_1521 (fun _ _ _ _ h => h) tyX21_ok nmX21 (Or.inl rfl))) (
  ce_fc (P := P_X21_setSetup) (ok_li (ok_aload_n dX21_setSetup_19 rfl)) (
  ce_fc (P := P_X21_setSetup) (ok_li (ok_getf (ci := 20) (k := 0) (C := RX21) (T := TX21) (N := 20) dX21_setSetup_20 rfl ce_uX21 (by decide) gw_1521 (fun _ _ _ _ h => h))) (
  ce_fc (P := P_X21_setSetup) (ok_li (ok_if_le dX21_setSetup_23 (by decide))) (
  ce_fc (P := P_X21_setSetup) (ok_li (ok_iconst dX21_setSetup_26)) (
  ce_fn (P := P_X21_setSetup)))))))))))))))
noncomputable def tb_X21_setSetup_1 : List (Nat × ce_N) := [(27, ce_reti .int),
  (28, ce_li (ce_aload 0 29)),
  (29, ce_li (ce_getf 20 9 32)),
  (32, ce_li (ce_istore 2 33 3)),
  (33, ce_li (ce_aload 0 34)),
  (34, ce_li (ce_iload 1 35)),
  (35, ce_li (ce_putf (tyX21 9) 20 9 38)),
  (38, ce_li (ce_iload 2 39)),
  (39, ce_reti .int)]
theorem tk_X21_setSetup_1 : ∀ x ∈ tb_X21_setSetup_1, P_X21_setSetup x.1 x.2 :=
  ce_fc (P := P_X21_setSetup) (ok_reti dX21_setSetup_27 rfl) (
  ce_fc (P := P_X21_setSetup) (ok_li (ok_aload_n dX21_setSetup_28 rfl)) (
  ce_fc (P := P_X21_setSetup) (ok_li (ok_getf (ci := 20) (k := 9) (C := RX21) (T := TX21) (N := 20) dX21_setSetup_29 rfl ce_uX21 (by decide) gw_1530 (fun _ _ _ _ h => h))) (
  ce_fc (P := P_X21_setSetup) (ok_li (ok_istore_n dX21_setSetup_32 rfl)) (
  ce_fc (P := P_X21_setSetup) (ok_li (ok_aload_n dX21_setSetup_33 rfl)) (
  ce_fc (P := P_X21_setSetup) (ok_li (ok_iload_n dX21_setSetup_34 rfl)) (
  ce_fc (P := P_X21_setSetup) (ok_li (ok_putf (ci := 20) (k := 9) (C := RX21) (T := TX21) (N := 20) (ty0 := tyX21) dX21_setSetup_35 rfl ce_uX21 (by decide) gw_1530 (fun _ _ _ _ h => h) tyX21_ok nmX21 (Or.inl rfl))) (
  ce_fc (P := P_X21_setSetup) (ok_li (ok_iload_n dX21_setSetup_38 rfl)) (
  ce_fc (P := P_X21_setSetup) (ok_reti dX21_setSetup_39 rfl) (
  ce_fn (P := P_X21_setSetup))))))))))
noncomputable def ta_X21_setSetup : Nat → Option ce_N := (ce_tr 27 (ce_fd tb_X21_setSetup_0) (ce_fd tb_X21_setSetup_1))
theorem tx_X21_setSetup : ∀ pc f, ta_X21_setSetup pc = some f → P_X21_setSetup pc f := (ce_tr_ok (P := P_X21_setSetup) (ce_fd_ok (P := P_X21_setSetup) tk_X21_setSetup_0) (ce_fd_ok (P := P_X21_setSetup) tk_X21_setSetup_1))
noncomputable def F_X21_setSetup : ce_C := ce_M ta_X21_setSetup 3 0 0 1000000
theorem m_X21_setSetup : ∀ l : Launch, l.stackTraces = false → ce_MS l yX21_setSetup (.code yX21_setSetup cX21_setSetup 3 (some .int)) 1 0 0 F_X21_setSetup := fun l hl => ce_met hl (by decide +kernel) tx_X21_setSetup
theorem hp_X21_setSetup : yX21_setSetup.cls ≠ "java/lang/invoke/MethodHandle" ∧ yX21_setSetup.cls ≠ "java/lang/invoke/VarHandle" ∧ (parseMethodDescriptor yX21_setSetup.desc).map (fun d => d.parameters.length) = some 1 := by decide +kernel
abbrev P_X6_build : Nat → ce_N → Prop := ce_OKN "Carcasswright$Room" "build" cX6_build 5 (some .int) 1 (some [])
noncomputable def tb_X6_build_0 : List (Nat × ce_N) := [(0, ce_li (ce_aload 0 1)),
  (1, ce_li (ce_getf 10 6 4)),
  (4, ce_li (ce_istore 3 5 5)),
  (5, ce_li (ce_aload 0 6)),
  (6, ce_li (ce_dup 7)),
  (7, ce_li (ce_getf 10 6 10)),
  (10, ce_li (ce_push (.inl (.inl (1))) 11)),
  (11, ce_li (ce_bin ce_addo 12)),
  (12, ce_li (ce_putf (tyX6 6) 10 6 15)),
  (15, ce_li (ce_aload 0 16)),
  (16, ce_li (ce_iload 3 17)),
  (17, ce_call 2 1 6 20 (.inr true) (ce_CV 10 F_X6_wallAt)),
  (20, ce_li (ce_astore 4 22 5)),
  (22, ce_li (ce_aload 4 24))]
theorem tk_X6_build_0 : ∀ x ∈ tb_X6_build_0, P_X6_build x.1 x.2 :=
  ce_fc (P := P_X6_build) (ok_li (ok_aload_n dX6_build_0 rfl)) (
  ce_fc (P := P_X6_build) (ok_li (ok_getf (ci := 10) (k := 6) (C := RX6) (T := TX6) (N := 10) dX6_build_1 rfl ce_uX6 (by decide) gw_255 (fun _ _ _ _ h => h))) (
  ce_fc (P := P_X6_build) (ok_li (ok_istore_n dX6_build_4 rfl)) (
  ce_fc (P := P_X6_build) (ok_li (ok_aload_n dX6_build_5 rfl)) (
  ce_fc (P := P_X6_build) (ok_li (ok_dup dX6_build_6)) (
  ce_fc (P := P_X6_build) (ok_li (ok_getf (ci := 10) (k := 6) (C := RX6) (T := TX6) (N := 10) dX6_build_7 rfl ce_uX6 (by decide) gw_255 (fun _ _ _ _ h => h))) (
  ce_fc (P := P_X6_build) (ok_li (ok_iconst dX6_build_10)) (
  ce_fc (P := P_X6_build) (ok_li (ok_iadd dX6_build_11)) (
  ce_fc (P := P_X6_build) (ok_li (ok_putf (ci := 10) (k := 6) (C := RX6) (T := TX6) (N := 10) (ty0 := tyX6) dX6_build_12 rfl ce_uX6 (by decide) gw_255 (fun _ _ _ _ h => h) tyX6_ok nmX6 (Or.inl rfl))) (
  ce_fc (P := P_X6_build) (ok_li (ok_aload_n dX6_build_15 rfl)) (
  ce_fc (P := P_X6_build) (ok_li (ok_iload_n dX6_build_16 rfl)) (
  ce_fc (P := P_X6_build) (ok_call (ru_V (ci := 10) (C := RX6) (Tf := TX6) (N := 10) m_X6_wallAt (by decide) (by decide) rfl gw_487 gw_484 gw_485 gw_486 gw_4 ⟨rfl, hp_X6_wallAt⟩ dX6_build_17) ca_t) (
  ce_fc (P := P_X6_build) (ok_li (ok_astore dX6_build_20)) (
  ce_fc (P := P_X6_build) (ok_li (ok_aload dX6_build_22)) (
  ce_fn (P := P_X6_build)))))))))))))))
noncomputable def tb_X6_build_1 : List (Nat × ce_N) := [(24, ce_li (ce_iload 1 25)),
  (25, ce_li (ce_putf (tyX10 0) 14 0 28)),
  (28, ce_li (ce_aload 4 30)),
  (30, ce_li (ce_iload 2 31)),
  (31, ce_li (ce_putf (tyX10 1) 14 1 34)),
  (34, ce_li (ce_aload 4 36)),
  (36, ce_li (ce_iload 2 37)),
  (37, ce_li (ce_putf (tyX10 2) 14 2 40)),
  (40, ce_li (ce_iload 3 41)),
  (41, ce_reti .int)]
theorem tk_X6_build_1 : ∀ x ∈ tb_X6_build_1, P_X6_build x.1 x.2 :=
  ce_fc (P := P_X6_build) (ok_li (ok_iload_n dX6_build_24 rfl)) (
  ce_fc (P := P_X6_build) (ok_li (ok_putf (ci := 14) (k := 0) (C := RX10) (T := TX10) (N := 6) (ty0 := tyX10) dX6_build_25 rfl ce_uX10 (by decide) gw_171 (fun _ _ _ _ h => h) tyX10_ok nmX10 (Or.inl rfl))) (
  ce_fc (P := P_X6_build) (ok_li (ok_aload dX6_build_28)) (
  ce_fc (P := P_X6_build) (ok_li (ok_iload_n dX6_build_30 rfl)) (
  ce_fc (P := P_X6_build) (ok_li (ok_putf (ci := 14) (k := 1) (C := RX10) (T := TX10) (N := 6) (ty0 := tyX10) dX6_build_31 rfl ce_uX10 (by decide) gw_172 (fun _ _ _ _ h => h) tyX10_ok nmX10 (Or.inl rfl))) (
  ce_fc (P := P_X6_build) (ok_li (ok_aload dX6_build_34)) (
  ce_fc (P := P_X6_build) (ok_li (ok_iload_n dX6_build_36 rfl)) (
  ce_fc (P := P_X6_build) (ok_li (ok_putf (ci := 14) (k := 2) (C := RX10) (T := TX10) (N := 6) (ty0 := tyX10) dX6_build_37 rfl ce_uX10 (by decide) gw_174 (fun _ _ _ _ h => h) tyX10_ok nmX10 (Or.inl rfl))) (
  ce_fc (P := P_X6_build) (ok_li (ok_iload_n dX6_build_40 rfl)) (
  ce_fc (P := P_X6_build) (ok_reti dX6_build_41 rfl) (
  ce_fn (P := P_X6_build)))))))))))
noncomputable def ta_X6_build : Nat → Option ce_N := (ce_tr 24 (ce_fd tb_X6_build_0) (ce_fd tb_X6_build_1))
theorem tx_X6_build : ∀ pc f, ta_X6_build pc = some f → P_X6_build pc f := (ce_tr_ok (P := P_X6_build) (ce_fd_ok (P := P_X6_build) tk_X6_build_0) (ce_fd_ok (P := P_X6_build) tk_X6_build_1))
noncomputable def F_X6_build : ce_C := ce_M ta_X6_build 5 1 6 1000000
theorem m_X6_build : ∀ l : Launch, l.stackTraces = false → ce_MS l yX6_build (.code yX6_build cX6_build 5 (some .int)) 1 1 6 F_X6_build := fun l hl => ce_met hl (by decide +kernel) tx_X6_build
theorem hp_X6_build : yX6_build.cls ≠ "java/lang/invoke/MethodHandle" ∧ yX6_build.cls ≠ "java/lang/invoke/VarHandle" ∧ (parseMethodDescriptor yX6_build.desc).map (fun d => d.parameters.length) = some 2 := by decide +kernel
abbrev P_X6_freeRows : Nat → ce_N → Prop := ce_OKN "Carcasswright$Room" "freeRows" cX6_freeRows 11 (some .int) 1 (some [])
noncomputable def tb_X6_freeRows_0 : List (Nat × ce_N) := [(0, ce_li (ce_aload 0 1)),
  (1, ce_li (ce_iload 1 2)),
  (2, ce_call 2 1 6 5 (.inr true) (ce_CV 10 F_X6_wallAt))]
theorem tk_X6_freeRows_0 : ∀ x ∈ tb_X6_freeRows_0, P_X6_freeRows x.1 x.2 :=
  ce_fc (P := P_X6_freeRows) (ok_li (ok_aload_n dX6_freeRows_0 rfl)) (
  ce_fc (P := P_X6_freeRows) (ok_li (ok_iload_n dX6_freeRows_1 rfl)) (
  ce_fc (P := P_X6_freeRows) (ok_call (ru_V (ci := 10) (C := RX6) (Tf := TX6) (N := 10) m_X6_wallAt (by decide) (by decide) rfl gw_487 gw_484 gw_485 gw_486 gw_4 ⟨rfl, hp_X6_wallAt⟩ dX6_freeRows_2) ca_t) (
  ce_fn (P := P_X6_freeRows))))
noncomputable def ta_X6_freeRows : Nat → Option ce_N := (ce_fd tb_X6_freeRows_0)
theorem tx_X6_freeRows : ∀ pc f, ta_X6_freeRows pc = some f → P_X6_freeRows pc f := (ce_fd_ok (P := P_X6_freeRows) tk_X6_freeRows_0)
noncomputable def F_X6_freeRows : ce_C := ce_M ta_X6_freeRows 11 1 6 1000000
theorem m_X6_freeRows : ∀ l : Launch, l.stackTraces = false → ce_MS l yX6_freeRows (.code yX6_freeRows cX6_freeRows 11 (some .int)) 1 1 6 F_X6_freeRows := fun l hl => ce_met hl (by decide +kernel) tx_X6_freeRows
theorem hp_X6_freeRows : yX6_freeRows.cls ≠ "java/lang/invoke/MethodHandle" ∧ yX6_freeRows.cls ≠ "java/lang/invoke/VarHandle" ∧ (parseMethodDescriptor yX6_freeRows.desc).map (fun d => d.parameters.length) = some 3 := by decide +kernel
abbrev P_X6_init : Nat → ce_N → Prop := ce_OKN "Carcasswright$Room" "<init>" cX6_init 3 none 1 (some [])
noncomputable def tb_X6_init_0 : List (Nat × ce_N) := [(0, ce_li (ce_aload 0 1)),
  (1, ce_li (ce_oi 4)),
  (4, ce_li (ce_aload 0 5)),
  (5, ce_li (ce_push (.inl (.inl (6))) 7)),
  (7, ce_li (ce_newa 7 3 10)),
  (10, ce_li (ce_putf (tyX6 0) 10 0 13)),
  (13, ce_li (ce_aload 0 14)),
  (14, ce_li (ce_push (.inl (.inl (8))) 16)),
  (16, ce_li (ce_newa 8 3 19)),
  (19, ce_li (ce_putf (tyX6 1) 10 1 22)),
  (22, ce_li (ce_aload 0 23)),
  (23, ce_li (ce_push (.inl (.inl (16))) 25)),
  (25, ce_li (ce_newa 9 3 28)),
  (28, ce_li (ce_putf (tyX6 2) 10 2 31))]
theorem tk_X6_init_0 : ∀ x ∈ tb_X6_init_0, P_X6_init x.1 x.2 :=
  ce_fc (P := P_X6_init) (ok_li (ok_aload_n dX6_init_0 rfl)) (
  ce_fc (P := P_X6_init) (ok_li (ok_oi dX6_init_1 gw_158 gw_57 gw_58)) (
  ce_fc (P := P_X6_init) (ok_li (ok_aload_n dX6_init_4 rfl)) (
  ce_fc (P := P_X6_init) (ok_li (ok_bipush dX6_init_5 (by decide))) (
  ce_fc (P := P_X6_init) (ok_li (ok_newq (C := "Carcasswright$Wall") (t := 7) dX6_init_7 gw_159 (by decide) (fun _ => rfl) (fun z ad n => ce_refs (by decide) (by decide) (by decide) z ad n))) (
  ce_fc (P := P_X6_init) (ok_li (ok_putf (ci := 10) (k := 0) (C := RX6) (T := TX6) (N := 10) (ty0 := tyX6) dX6_init_10 rfl ce_uX6 (by decide) gw_247 (fun _ _ _ _ h => h) tyX6_ok nmX6 (Or.inr ⟨rfl, rfl, rfl⟩))) (
  ce_fc (P := P_X6_init) (ok_li (ok_aload_n dX6_init_13 rfl)) (
  ce_fc (P := P_X6_init) (ok_li (ok_bipush dX6_init_14 (by decide))) (
  ce_fc (P := P_X6_init) (ok_li (ok_newq (C := "Carcasswright$Obstacle") (t := 8) dX6_init_16 gw_161 (by decide) (fun _ => rfl) (fun z ad n => ce_refs (by decide) (by decide) (by decide) z ad n))) (
  ce_fc (P := P_X6_init) (ok_li (ok_putf (ci := 10) (k := 1) (C := RX6) (T := TX6) (N := 10) (ty0 := tyX6) dX6_init_19 rfl ce_uX6 (by decide) gw_248 (fun _ _ _ _ h => h) tyX6_ok nmX6 (Or.inr ⟨rfl, rfl, rfl⟩))) (
  ce_fc (P := P_X6_init) (ok_li (ok_aload_n dX6_init_22 rfl)) (
  ce_fc (P := P_X6_init) (ok_li (ok_bipush dX6_init_23 (by decide))) (
  ce_fc (P := P_X6_init) (ok_li (ok_newq (C := "Carcasswright$PlacedModule") (t := 9) dX6_init_25 gw_163 (by decide) (fun _ => rfl) (fun z ad n => ce_refs (by decide) (by decide) (by decide) z ad n))) (
  ce_fc (P := P_X6_init) (ok_li (ok_putf (ci := 10) (k := 2) (C := RX6) (T := TX6) (N := 10) (ty0 := tyX6) dX6_init_28 rfl ce_uX6 (by decide) gw_249 (fun _ _ _ _ h => h) tyX6_ok nmX6 (Or.inr ⟨rfl, rfl, rfl⟩))) (
  ce_fn (P := P_X6_init)))))))))))))))
noncomputable def tb_X6_init_1 : List (Nat × ce_N) := [(31, ce_li (ce_aload 0 32)),
  (32, ce_li (ce_push (.inl (.inl (2))) 33)),
  (33, ce_li (ce_newa 1 2 35)),
  (35, ce_li (ce_putf (tyX6 4) 10 4 38)),
  (38, ce_li (ce_aload 0 39)),
  (39, ce_li (ce_push (.inl (.inl (2))) 40)),
  (40, ce_li (ce_newa 0 2 42)),
  (42, ce_li (ce_putf (tyX6 5) 10 5 45)),
  (45, ce_li (ce_push (.inl (.inl (0))) 46)),
  (46, ce_li (ce_istore 2 47 3)),
  (47, ce_li (ce_iload 2 48)),
  (48, ce_li (ce_push (.inl (.inl (6))) 50)),
  (50, ce_li (ce_icmp false false true 72 53)),
  (53, ce_li (ce_aload 0 54))]
theorem tk_X6_init_1 : ∀ x ∈ tb_X6_init_1, P_X6_init x.1 x.2 :=
  ce_fc (P := P_X6_init) (ok_li (ok_aload_n dX6_init_31 rfl)) (
  ce_fc (P := P_X6_init) (ok_li (ok_iconst dX6_init_32)) (
  ce_fc (P := P_X6_init) (ok_li (ok_newa_char dX6_init_33 gw_113)) (
  ce_fc (P := P_X6_init) (ok_li (ok_putf (ci := 10) (k := 4) (C := RX6) (T := TX6) (N := 10) (ty0 := tyX6) dX6_init_35 rfl ce_uX6 (by decide) gw_251 (fun _ _ _ _ h => h) tyX6_ok nmX6 (Or.inr ⟨rfl, rfl, rfl⟩))) (
  ce_fc (P := P_X6_init) (ok_li (ok_aload_n dX6_init_38 rfl)) (
  ce_fc (P := P_X6_init) (ok_li (ok_iconst dX6_init_39)) (
  ce_fc (P := P_X6_init) (ok_li (ok_newa_int dX6_init_40 gw_193)) (
  ce_fc (P := P_X6_init) (ok_li (ok_putf (ci := 10) (k := 5) (C := RX6) (T := TX6) (N := 10) (ty0 := tyX6) dX6_init_42 rfl ce_uX6 (by decide) gw_253 (fun _ _ _ _ h => h) tyX6_ok nmX6 (Or.inr ⟨rfl, rfl, rfl⟩))) (
  ce_fc (P := P_X6_init) (ok_li (ok_iconst dX6_init_45)) (
  ce_fc (P := P_X6_init) (ok_li (ok_istore_n dX6_init_46 rfl)) (
  ce_fc (P := P_X6_init) (ok_li (ok_iload_n dX6_init_47 rfl)) (
  ce_fc (P := P_X6_init) (ok_li (ok_bipush dX6_init_48 (by decide))) (
  ce_fc (P := P_X6_init) (ok_li (ok_icmp_ge dX6_init_50 (by decide))) (
  ce_fc (P := P_X6_init) (ok_li (ok_aload_n dX6_init_53 rfl)) (
  ce_fn (P := P_X6_init)))))))))))))))
noncomputable def tb_X6_init_2 : List (Nat × ce_N) := [(54, ce_li (ce_getf 10 0 57)),
  (57, ce_li (ce_iload 2 58)),
  (58, ce_li (ce_new 14 6 dl_X10 61)),
  (61, ce_li (ce_dup 62)),
  (62, ce_call 1 0 0 65 (.inr true) (ce_CI F_X10_init)),
  (65, ce_li (ce_aast 66)),
  (66, ce_li (ce_iinc 2 (1) 69 3)),
  (69, ce_li (ce_goto 47)),
  (72, ce_li (ce_push (.inl (.inl (0))) 73)),
  (73, ce_li (ce_istore 2 74 3)),
  (74, ce_li (ce_iload 2 75)),
  (75, ce_li (ce_push (.inl (.inl (8))) 77)),
  (77, ce_li (ce_icmp false false true 99 80)),
  (80, ce_li (ce_aload 0 81))]
theorem tk_X6_init_2 : ∀ x ∈ tb_X6_init_2, P_X6_init x.1 x.2 :=
  ce_fc (P := P_X6_init) (ok_li (ok_getf (ci := 10) (k := 0) (C := RX6) (T := TX6) (N := 10) dX6_init_54 rfl ce_uX6 (by decide) gw_247 (fun _ _ _ _ h => h))) (
  ce_fc (P := P_X6_init) (ok_li (ok_iload_n dX6_init_57 rfl)) (
  ce_fc (P := P_X6_init) (ok_li (ok_new (ci := 14) (C := RX10) (T := TX10) (N := 6) (ty0 := tyX10) dX6_init_58 rfl ce_uX10 tyX10_ok gw_159 gw_165 gw_5 dv_X10 rfl)) (
  ce_fc (P := P_X6_init) (ok_li (ok_dup dX6_init_61)) (
  ce_fc (P := P_X6_init) (ok_call (ru_IN m_X10_init (by decide) (by decide) gw_168 gn_9 gw_167 gw_5 rfl hp_X10_init dX6_init_62) ca_t) (
  ce_fc (P := P_X6_init) (ok_li (ok_aast dX6_init_65)) (
  ce_fc (P := P_X6_init) (ok_li (ok_iinc dX6_init_66)) (
  ce_fc (P := P_X6_init) (ok_li (ok_goto dX6_init_69 (by decide))) (
  ce_fc (P := P_X6_init) (ok_li (ok_iconst dX6_init_72)) (
  ce_fc (P := P_X6_init) (ok_li (ok_istore_n dX6_init_73 rfl)) (
  ce_fc (P := P_X6_init) (ok_li (ok_iload_n dX6_init_74 rfl)) (
  ce_fc (P := P_X6_init) (ok_li (ok_bipush dX6_init_75 (by decide))) (
  ce_fc (P := P_X6_init) (ok_li (ok_icmp_ge dX6_init_77 (by decide))) (
  ce_fc (P := P_X6_init) (ok_li (ok_aload_n dX6_init_80 rfl)) (
  ce_fn (P := P_X6_init)))))))))))))))
noncomputable def tb_X6_init_3 : List (Nat × ce_N) := [(81, ce_li (ce_getf 10 1 84)),
  (84, ce_li (ce_iload 2 85)),
  (85, ce_li (ce_new 7 5 dl_X3 88)),
  (88, ce_li (ce_dup 89)),
  (89, ce_call 1 0 0 92 (.inr true) (ce_CI F_X3_init)),
  (92, ce_li (ce_aast 93)),
  (93, ce_li (ce_iinc 2 (1) 96 3)),
  (96, ce_li (ce_goto 74)),
  (99, ce_li (ce_push (.inl (.inl (0))) 100)),
  (100, ce_li (ce_istore 2 101 3)),
  (101, ce_li (ce_iload 2 102)),
  (102, ce_li (ce_push (.inl (.inl (16))) 104)),
  (104, ce_li (ce_icmp false false true 127 107)),
  (107, ce_li (ce_aload 0 108))]
theorem tk_X6_init_3 : ∀ x ∈ tb_X6_init_3, P_X6_init x.1 x.2 :=
  ce_fc (P := P_X6_init) (ok_li (ok_getf (ci := 10) (k := 1) (C := RX6) (T := TX6) (N := 10) dX6_init_81 rfl ce_uX6 (by decide) gw_248 (fun _ _ _ _ h => h))) (
  ce_fc (P := P_X6_init) (ok_li (ok_iload_n dX6_init_84 rfl)) (
  ce_fc (P := P_X6_init) (ok_li (ok_new (ci := 7) (C := RX3) (T := TX3) (N := 5) (ty0 := tyX3) dX6_init_85 rfl ce_uX3 tyX3_ok gw_161 gw_194 gw_6 dv_X3 rfl)) (
  ce_fc (P := P_X6_init) (ok_li (ok_dup dX6_init_88)) (
  ce_fc (P := P_X6_init) (ok_call (ru_IN m_X3_init (by decide) (by decide) gw_197 gn_10 gw_196 gw_6 rfl hp_X3_init dX6_init_89) ca_t) (
  ce_fc (P := P_X6_init) (ok_li (ok_aast dX6_init_92)) (
  ce_fc (P := P_X6_init) (ok_li (ok_iinc dX6_init_93)) (
  ce_fc (P := P_X6_init) (ok_li (ok_goto dX6_init_96 (by decide))) (
  ce_fc (P := P_X6_init) (ok_li (ok_iconst dX6_init_99)) (
  ce_fc (P := P_X6_init) (ok_li (ok_istore_n dX6_init_100 rfl)) (
  ce_fc (P := P_X6_init) (ok_li (ok_iload_n dX6_init_101 rfl)) (
  ce_fc (P := P_X6_init) (ok_li (ok_bipush dX6_init_102 (by decide))) (
  ce_fc (P := P_X6_init) (ok_li (ok_icmp_ge dX6_init_104 (by decide))) (
  ce_fc (P := P_X6_init) (ok_li (ok_aload_n dX6_init_107 rfl)) (
  ce_fn (P := P_X6_init)))))))))))))))
noncomputable def tb_X6_init_4 : List (Nat × ce_N) := [(108, ce_li (ce_getf 10 2 111)),
  (111, ce_li (ce_iload 2 112)),
  (112, ce_li (ce_new 9 5 dl_X5 115)),
  (115, ce_li (ce_dup 116)),
  (116, ce_li (ce_aload 1 117)),
  (117, ce_call 2 0 0 120 (.inr true) (ce_CI F_X5_init)),
  (120, ce_li (ce_aast 121)),
  (121, ce_li (ce_iinc 2 (1) 124 3)),
  (124, ce_li (ce_goto 101)),
  (127, ce_li (ce_aload 0 128)),
  (128, ce_li (ce_new 9 5 dl_X5 131)),
  (131, ce_li (ce_dup 132)),
  (132, ce_li (ce_aload 1 133)),
  (133, ce_call 2 0 0 136 (.inr true) (ce_CI F_X5_init))]
theorem tk_X6_init_4 : ∀ x ∈ tb_X6_init_4, P_X6_init x.1 x.2 :=
  ce_fc (P := P_X6_init) (ok_li (ok_getf (ci := 10) (k := 2) (C := RX6) (T := TX6) (N := 10) dX6_init_108 rfl ce_uX6 (by decide) gw_249 (fun _ _ _ _ h => h))) (
  ce_fc (P := P_X6_init) (ok_li (ok_iload_n dX6_init_111 rfl)) (
  ce_fc (P := P_X6_init) (ok_li (ok_new (ci := 9) (C := RX5) (T := TX5) (N := 5) (ty0 := tyX5) dX6_init_112 rfl ce_uX5 tyX5_ok gw_163 gw_215 gw_7 dv_X5 rfl)) (
  ce_fc (P := P_X6_init) (ok_li (ok_dup dX6_init_115)) (
  ce_fc (P := P_X6_init) (ok_li (ok_aload_n dX6_init_116 rfl)) (
  ce_fc (P := P_X6_init) (ok_call (ru_I m_X5_init (by decide) (by decide) gw_218 gw_216 gw_217 gw_7 rfl hp_X5_init dX6_init_117) ca_t) (
  ce_fc (P := P_X6_init) (ok_li (ok_aast dX6_init_120)) (
  ce_fc (P := P_X6_init) (ok_li (ok_iinc dX6_init_121)) (
  ce_fc (P := P_X6_init) (ok_li (ok_goto dX6_init_124 (by decide))) (
  ce_fc (P := P_X6_init) (ok_li (ok_aload_n dX6_init_127 rfl)) (
  ce_fc (P := P_X6_init) (ok_li (ok_new (ci := 9) (C := RX5) (T := TX5) (N := 5) (ty0 := tyX5) dX6_init_128 rfl ce_uX5 tyX5_ok gw_163 gw_215 gw_7 dv_X5 rfl)) (
  ce_fc (P := P_X6_init) (ok_li (ok_dup dX6_init_131)) (
  ce_fc (P := P_X6_init) (ok_li (ok_aload_n dX6_init_132 rfl)) (
  ce_fc (P := P_X6_init) (ok_call (ru_I m_X5_init (by decide) (by decide) gw_218 gw_216 gw_217 gw_7 rfl hp_X5_init dX6_init_133) ca_t) (
  ce_fn (P := P_X6_init)))))))))))))))
noncomputable def tb_X6_init_5 : List (Nat × ce_N) := [(136, ce_li (ce_putf (tyX6 3) 10 3 139)),
  (139, ce_ret0)]
theorem tk_X6_init_5 : ∀ x ∈ tb_X6_init_5, P_X6_init x.1 x.2 :=
  ce_fc (P := P_X6_init) (ok_li (ok_putf (ci := 10) (k := 3) (C := RX6) (T := TX6) (N := 10) (ty0 := tyX6) dX6_init_136 rfl ce_uX6 (by decide) gw_250 (fun _ _ _ _ h => h) tyX6_ok nmX6 (Or.inr ⟨rfl, rfl, rfl⟩))) (
  ce_fc (P := P_X6_init) (ok_ret0 dX6_init_139 rfl) (
  ce_fn (P := P_X6_init)))
noncomputable def ta_X6_init : Nat → Option ce_N := (ce_tr 81 (ce_tr 31 (ce_fd tb_X6_init_0) (ce_tr 54 (ce_fd tb_X6_init_1) (ce_fd tb_X6_init_2))) (ce_tr 108 (ce_fd tb_X6_init_3) (ce_tr 136 (ce_fd tb_X6_init_4) (ce_fd tb_X6_init_5))))
theorem tx_X6_init : ∀ pc f, ta_X6_init pc = some f → P_X6_init pc f := (ce_tr_ok (P := P_X6_init) (ce_tr_ok (P := P_X6_init) (ce_fd_ok (P := P_X6_init) tk_X6_init_0) (ce_tr_ok (P := P_X6_init) (ce_fd_ok (P := P_X6_init) tk_X6_init_1) (ce_fd_ok (P := P_X6_init) tk_X6_init_2))) (ce_tr_ok (P := P_X6_init) (ce_fd_ok (P := P_X6_init) tk_X6_init_3) (ce_tr_ok (P := P_X6_init) (ce_fd_ok (P := P_X6_init) tk_X6_init_4) (ce_fd_ok (P := P_X6_init) tk_X6_init_5))))
noncomputable def F_X6_init : ce_C := ce_M ta_X6_init 3 36 195 1000000
theorem m_X6_init : ∀ l : Launch, l.stackTraces = false → ce_MS l yX6_init (.code yX6_init cX6_init 3 none) 1 36 195 F_X6_init := fun l hl => ce_met hl (by decide +kernel) tx_X6_init
theorem hp_X6_init : yX6_init.cls ≠ "java/lang/invoke/MethodHandle" ∧ yX6_init.cls ≠ "java/lang/invoke/VarHandle" ∧ (parseMethodDescriptor yX6_init.desc).map (fun d => d.parameters.length) = some 1 := by decide +kernel
abbrev P_X7_init : Nat → ce_N → Prop := ce_OKN "Carcasswright$Saw" "<init>" cX7_init 3 none 1 (some [])
noncomputable def tb_X7_init_0 : List (Nat × ce_N) := [(0, ce_li (ce_aload 0 1)),
  (1, ce_li (ce_oi 4)),
  (4, ce_li (ce_aload 0 5)),
  (5, ce_li (ce_push (.inl (.inl (25))) 7)),
  (7, ce_li (ce_newa 0 2 9)),
  (9, ce_li (ce_putf (tyX7 1) 11 1 12)),
  (12, ce_li (ce_aload 0 13)),
  (13, ce_li (ce_push (.inl (.inl (25))) 15)),
  (15, ce_li (ce_newa 0 2 17)),
  (17, ce_li (ce_putf (tyX7 2) 11 2 20)),
  (20, ce_li (ce_aload 0 21)),
  (21, ce_li (ce_push (.inl (.inl (25))) 23)),
  (23, ce_li (ce_newa 0 2 25)),
  (25, ce_li (ce_putf (tyX7 4) 11 4 28))]
theorem tk_X7_init_0 : ∀ x ∈ tb_X7_init_0, P_X7_init x.1 x.2 :=
  ce_fc (P := P_X7_init) (ok_li (ok_aload_n dX7_init_0 rfl)) (
  ce_fc (P := P_X7_init) (ok_li (ok_oi dX7_init_1 gw_355 gw_57 gw_58)) (
  ce_fc (P := P_X7_init) (ok_li (ok_aload_n dX7_init_4 rfl)) (
  ce_fc (P := P_X7_init) (ok_li (ok_bipush dX7_init_5 (by decide))) (
  ce_fc (P := P_X7_init) (ok_li (ok_newa_int dX7_init_7 gw_193)) (
  ce_fc (P := P_X7_init) (ok_li (ok_putf (ci := 11) (k := 1) (C := RX7) (T := TX7) (N := 13) (ty0 := tyX7) dX7_init_9 rfl ce_uX7 (by decide) gw_359 (fun _ _ _ _ h => h) tyX7_ok nmX7 (Or.inr ⟨rfl, rfl, rfl⟩))) (
  ce_fc (P := P_X7_init) (ok_li (ok_aload_n dX7_init_12 rfl)) (
  ce_fc (P := P_X7_init) (ok_li (ok_bipush dX7_init_13 (by decide))) (
  ce_fc (P := P_X7_init) (ok_li (ok_newa_int dX7_init_15 gw_193)) (
  ce_fc (P := P_X7_init) (ok_li (ok_putf (ci := 11) (k := 2) (C := RX7) (T := TX7) (N := 13) (ty0 := tyX7) dX7_init_17 rfl ce_uX7 (by decide) gw_360 (fun _ _ _ _ h => h) tyX7_ok nmX7 (Or.inr ⟨rfl, rfl, rfl⟩))) (
  ce_fc (P := P_X7_init) (ok_li (ok_aload_n dX7_init_20 rfl)) (
  ce_fc (P := P_X7_init) (ok_li (ok_bipush dX7_init_21 (by decide))) (
  ce_fc (P := P_X7_init) (ok_li (ok_newa_int dX7_init_23 gw_193)) (
  ce_fc (P := P_X7_init) (ok_li (ok_putf (ci := 11) (k := 4) (C := RX7) (T := TX7) (N := 13) (ty0 := tyX7) dX7_init_25 rfl ce_uX7 (by decide) gw_362 (fun _ _ _ _ h => h) tyX7_ok nmX7 (Or.inr ⟨rfl, rfl, rfl⟩))) (
  ce_fn (P := P_X7_init)))))))))))))))
noncomputable def tb_X7_init_1 : List (Nat × ce_N) := [(28, ce_li (ce_aload 0 29)),
  (29, ce_li (ce_push (.inl (.inl (25))) 31)),
  (31, ce_li (ce_newa 0 2 33)),
  (33, ce_li (ce_putf (tyX7 7) 11 7 36)),
  (36, ce_li (ce_aload 0 37)),
  (37, ce_li (ce_push (.inl (.inl (25))) 39)),
  (39, ce_li (ce_newa 0 2 41)),
  (41, ce_li (ce_putf (tyX7 8) 11 8 44)),
  (44, ce_li (ce_aload 0 45)),
  (45, ce_li (ce_push (.inl (.inl (25))) 47)),
  (47, ce_li (ce_newa 0 2 49)),
  (49, ce_li (ce_putf (tyX7 9) 11 9 52)),
  (52, ce_li (ce_aload 0 53)),
  (53, ce_li (ce_push (.inl (.inl (50))) 55))]
theorem tk_X7_init_1 : ∀ x ∈ tb_X7_init_1, P_X7_init x.1 x.2 :=
  ce_fc (P := P_X7_init) (ok_li (ok_aload_n dX7_init_28 rfl)) (
  ce_fc (P := P_X7_init) (ok_li (ok_bipush dX7_init_29 (by decide))) (
  ce_fc (P := P_X7_init) (ok_li (ok_newa_int dX7_init_31 gw_193)) (
  ce_fc (P := P_X7_init) (ok_li (ok_putf (ci := 11) (k := 7) (C := RX7) (T := TX7) (N := 13) (ty0 := tyX7) dX7_init_33 rfl ce_uX7 (by decide) gw_366 (fun _ _ _ _ h => h) tyX7_ok nmX7 (Or.inr ⟨rfl, rfl, rfl⟩))) (
  ce_fc (P := P_X7_init) (ok_li (ok_aload_n dX7_init_36 rfl)) (
  ce_fc (P := P_X7_init) (ok_li (ok_bipush dX7_init_37 (by decide))) (
  ce_fc (P := P_X7_init) (ok_li (ok_newa_int dX7_init_39 gw_193)) (
  ce_fc (P := P_X7_init) (ok_li (ok_putf (ci := 11) (k := 8) (C := RX7) (T := TX7) (N := 13) (ty0 := tyX7) dX7_init_41 rfl ce_uX7 (by decide) gw_367 (fun _ _ _ _ h => h) tyX7_ok nmX7 (Or.inr ⟨rfl, rfl, rfl⟩))) (
  ce_fc (P := P_X7_init) (ok_li (ok_aload_n dX7_init_44 rfl)) (
  ce_fc (P := P_X7_init) (ok_li (ok_bipush dX7_init_45 (by decide))) (
  ce_fc (P := P_X7_init) (ok_li (ok_newa_int dX7_init_47 gw_193)) (
  ce_fc (P := P_X7_init) (ok_li (ok_putf (ci := 11) (k := 9) (C := RX7) (T := TX7) (N := 13) (ty0 := tyX7) dX7_init_49 rfl ce_uX7 (by decide) gw_368 (fun _ _ _ _ h => h) tyX7_ok nmX7 (Or.inr ⟨rfl, rfl, rfl⟩))) (
  ce_fc (P := P_X7_init) (ok_li (ok_aload_n dX7_init_52 rfl)) (
  ce_fc (P := P_X7_init) (ok_li (ok_bipush dX7_init_53 (by decide))) (
  ce_fn (P := P_X7_init)))))))))))))))
noncomputable def tb_X7_init_2 : List (Nat × ce_N) := [(55, ce_li (ce_newa 11 3 58)),
  (58, ce_li (ce_putf (tyX7 11) 11 11 61)),
  (61, ce_li (ce_aload 0 62)),
  (62, ce_li (ce_aload 1 63)),
  (63, ce_li (ce_putf (tyX7 0) 11 0 66)),
  (66, ce_li (ce_push (.inl (.inl (0))) 67)),
  (67, ce_li (ce_istore 2 68 3)),
  (68, ce_li (ce_iload 2 69)),
  (69, ce_li (ce_push (.inl (.inl (50))) 71)),
  (71, ce_li (ce_icmp false false true 93 74)),
  (74, ce_li (ce_aload 0 75)),
  (75, ce_li (ce_getf 11 11 78)),
  (78, ce_li (ce_iload 2 79)),
  (79, ce_li (ce_new 4 7 dl_X0 82))]
theorem tk_X7_init_2 : ∀ x ∈ tb_X7_init_2, P_X7_init x.1 x.2 :=
  ce_fc (P := P_X7_init) (ok_li (ok_newq (C := "Carcasswright$Board") (t := 11) dX7_init_55 gw_356 (by decide) (fun _ => rfl) (fun z ad n => ce_refs (by decide) (by decide) (by decide) z ad n))) (
  ce_fc (P := P_X7_init) (ok_li (ok_putf (ci := 11) (k := 11) (C := RX7) (T := TX7) (N := 13) (ty0 := tyX7) dX7_init_58 rfl ce_uX7 (by decide) gw_370 (fun _ _ _ _ h => h) tyX7_ok nmX7 (Or.inr ⟨rfl, rfl, rfl⟩))) (
  ce_fc (P := P_X7_init) (ok_li (ok_aload_n dX7_init_61 rfl)) (
  ce_fc (P := P_X7_init) (ok_li (ok_aload_n dX7_init_62 rfl)) (
  ce_fc (P := P_X7_init) (ok_li (ok_putf (ci := 11) (k := 0) (C := RX7) (T := TX7) (N := 13) (ty0 := tyX7) dX7_init_63 rfl ce_uX7 (by decide) gw_358 (fun _ _ _ _ h => h) tyX7_ok nmX7 (Or.inr ⟨rfl, rfl, rfl⟩))) (
  ce_fc (P := P_X7_init) (ok_li (ok_iconst dX7_init_66)) (
  ce_fc (P := P_X7_init) (ok_li (ok_istore_n dX7_init_67 rfl)) (
  ce_fc (P := P_X7_init) (ok_li (ok_iload_n dX7_init_68 rfl)) (
  ce_fc (P := P_X7_init) (ok_li (ok_bipush dX7_init_69 (by decide))) (
  ce_fc (P := P_X7_init) (ok_li (ok_icmp_ge dX7_init_71 (by decide))) (
  ce_fc (P := P_X7_init) (ok_li (ok_aload_n dX7_init_74 rfl)) (
  ce_fc (P := P_X7_init) (ok_li (ok_getf (ci := 11) (k := 11) (C := RX7) (T := TX7) (N := 13) dX7_init_75 rfl ce_uX7 (by decide) gw_370 (fun _ _ _ _ h => h))) (
  ce_fc (P := P_X7_init) (ok_li (ok_iload_n dX7_init_78 rfl)) (
  ce_fc (P := P_X7_init) (ok_li (ok_new (ci := 4) (C := RX0) (T := TX0) (N := 7) (ty0 := tyX0) dX7_init_79 rfl ce_uX0 tyX0_ok gw_356 gw_292 gw_9 dv_X0 rfl)) (
  ce_fn (P := P_X7_init)))))))))))))))
noncomputable def tb_X7_init_3 : List (Nat × ce_N) := [(82, ce_li (ce_dup 83)),
  (83, ce_call 1 0 0 86 (.inr true) (ce_CI F_X0_init)),
  (86, ce_li (ce_aast 87)),
  (87, ce_li (ce_iinc 2 (1) 90 3)),
  (90, ce_li (ce_goto 68)),
  (93, ce_ret0)]
theorem tk_X7_init_3 : ∀ x ∈ tb_X7_init_3, P_X7_init x.1 x.2 :=
  ce_fc (P := P_X7_init) (ok_li (ok_dup dX7_init_82)) (
  ce_fc (P := P_X7_init) (ok_call (ru_IN m_X0_init (by decide) (by decide) gw_295 gn_12 gw_294 gw_9 rfl hp_X0_init dX7_init_83) ca_t) (
  ce_fc (P := P_X7_init) (ok_li (ok_aast dX7_init_86)) (
  ce_fc (P := P_X7_init) (ok_li (ok_iinc dX7_init_87)) (
  ce_fc (P := P_X7_init) (ok_li (ok_goto dX7_init_90 (by decide))) (
  ce_fc (P := P_X7_init) (ok_ret0 dX7_init_93 rfl) (
  ce_fn (P := P_X7_init)))))))
noncomputable def ta_X7_init : Nat → Option ce_N := (ce_tr 55 (ce_tr 28 (ce_fd tb_X7_init_0) (ce_fd tb_X7_init_1)) (ce_tr 82 (ce_fd tb_X7_init_2) (ce_fd tb_X7_init_3)))
theorem tx_X7_init : ∀ pc f, ta_X7_init pc = some f → P_X7_init pc f := (ce_tr_ok (P := P_X7_init) (ce_tr_ok (P := P_X7_init) (ce_fd_ok (P := P_X7_init) tk_X7_init_0) (ce_fd_ok (P := P_X7_init) tk_X7_init_1)) (ce_tr_ok (P := P_X7_init) (ce_fd_ok (P := P_X7_init) tk_X7_init_2) (ce_fd_ok (P := P_X7_init) tk_X7_init_3)))
noncomputable def F_X7_init : ce_C := ce_M ta_X7_init 3 57 550 1000000
theorem m_X7_init : ∀ l : Launch, l.stackTraces = false → ce_MS l yX7_init (.code yX7_init cX7_init 3 none) 1 57 550 F_X7_init := fun l hl => ce_met hl (by decide +kernel) tx_X7_init
theorem hp_X7_init : yX7_init.cls ≠ "java/lang/invoke/MethodHandle" ∧ yX7_init.cls ≠ "java/lang/invoke/VarHandle" ∧ (parseMethodDescriptor yX7_init.desc).map (fun d => d.parameters.length) = some 1 := by decide +kernel
abbrev P_X8_append : Nat → ce_N → Prop := ce_OKN "Carcasswright$Stock" "append" cX8_append 7 (some .boolean) 1 (some [])
noncomputable def tb_X8_append_0 : List (Nat × ce_N) := [(0, ce_li (ce_aload 0 1)),
  (1, ce_li (ce_getf 12 1 4)),
  (4, ce_li (ce_if false false false 16 7)),
  (7, ce_li (ce_aload 0 8)),
  (8, ce_li (ce_getf 12 1 11)),
  (11, ce_li (ce_push (.inl (.inl (60))) 13)),
  (13, ce_li (ce_icmp false false false 18 16)),
  (18, ce_li (ce_aload 0 19)),
  (19, ce_li (ce_getf 12 0 22)),
  (22, ce_li (ce_aload 0 23)),
  (23, ce_li (ce_getf 12 1 26)),
  (26, ce_li (ce_aald 27)),
  (27, ce_li (ce_astore 6 29 7)),
  (29, ce_li (ce_aload 6 31))]
theorem tk_X8_append_0 : ∀ x ∈ tb_X8_append_0, P_X8_append x.1 x.2 :=
  ce_fc (P := P_X8_append) (ok_li (ok_aload_n dX8_append_0 rfl)) (
  ce_fc (P := P_X8_append) (ok_li (ok_getf (ci := 12) (k := 1) (C := RX8) (T := TX8) (N := 5) dX8_append_1 rfl ce_uX8 (by decide) gw_333 (fun _ _ _ _ h => h))) (
  ce_fc (P := P_X8_append) (ok_li (ok_if_lt dX8_append_4 (by decide))) (
  ce_fc (P := P_X8_append) (ok_li (ok_aload_n dX8_append_7 rfl)) (
  ce_fc (P := P_X8_append) (ok_li (ok_getf (ci := 12) (k := 1) (C := RX8) (T := TX8) (N := 5) dX8_append_8 rfl ce_uX8 (by decide) gw_333 (fun _ _ _ _ h => h))) (
  ce_fc (P := P_X8_append) (ok_li (ok_bipush dX8_append_11 (by decide))) (
  ce_fc (P := P_X8_append) (ok_li (ok_icmp_lt dX8_append_13 (by decide))) (
  ce_fc (P := P_X8_append) (ok_li (ok_aload_n dX8_append_18 rfl)) (
  ce_fc (P := P_X8_append) (ok_li (ok_getf (ci := 12) (k := 0) (C := RX8) (T := TX8) (N := 5) dX8_append_19 rfl ce_uX8 (by decide) gw_332 (fun _ _ _ _ h => h))) (
  ce_fc (P := P_X8_append) (ok_li (ok_aload_n dX8_append_22 rfl)) (
  ce_fc (P := P_X8_append) (ok_li (ok_getf (ci := 12) (k := 1) (C := RX8) (T := TX8) (N := 5) dX8_append_23 rfl ce_uX8 (by decide) gw_333 (fun _ _ _ _ h => h))) (
  ce_fc (P := P_X8_append) (ok_li (ok_aald dX8_append_26)) (
  ce_fc (P := P_X8_append) (ok_li (ok_astore dX8_append_27)) (
  ce_fc (P := P_X8_append) (ok_li (ok_aload dX8_append_29)) (
  ce_fn (P := P_X8_append)))))))))))))))
noncomputable def tb_X8_append_1 : List (Nat × ce_N) := [(31, ce_li (ce_iload 1 32)),
  (32, ce_li (ce_iload 2 33)),
  (33, ce_li (ce_iload 3 34)),
  (34, ce_li (ce_iload 4 36)),
  (36, ce_call 5 0 0 39 (.inr true) (ce_CV 4 F_X0_become)),
  (39, ce_li (ce_aload 6 41)),
  (41, ce_li (ce_iload 5 43)),
  (43, ce_li (ce_putf (tyX0 4) 4 4 46)),
  (46, ce_li (ce_aload 6 48)),
  (48, ce_li (ce_push (.inl (.inl (0))) 49)),
  (49, ce_li (ce_putf (tyX0 5) 4 5 52)),
  (52, ce_li (ce_aload 6 54)),
  (54, ce_li (ce_push (.inl (.inl (0))) 55)),
  (55, ce_li (ce_putf (tyX0 6) 4 6 58))]
theorem tk_X8_append_1 : ∀ x ∈ tb_X8_append_1, P_X8_append x.1 x.2 :=
  ce_fc (P := P_X8_append) (ok_li (ok_iload_n dX8_append_31 rfl)) (
  ce_fc (P := P_X8_append) (ok_li (ok_iload_n dX8_append_32 rfl)) (
  ce_fc (P := P_X8_append) (ok_li (ok_iload_n dX8_append_33 rfl)) (
  ce_fc (P := P_X8_append) (ok_li (ok_iload dX8_append_34)) (
  ce_fc (P := P_X8_append) (ok_call (ru_V (ci := 4) (C := RX0) (Tf := TX0) (N := 7) m_X0_become (by decide) (by decide) rfl gw_1223 gw_1220 gw_1221 gw_1222 gw_9 ⟨rfl, hp_X0_become⟩ dX8_append_36) ca_t) (
  ce_fc (P := P_X8_append) (ok_li (ok_aload dX8_append_39)) (
  ce_fc (P := P_X8_append) (ok_li (ok_iload dX8_append_41)) (
  ce_fc (P := P_X8_append) (ok_li (ok_putf (ci := 4) (k := 4) (C := RX0) (T := TX0) (N := 7) (ty0 := tyX0) dX8_append_43 rfl ce_uX0 (by decide) gw_311 (fun _ _ _ _ h => h) tyX0_ok nmX0 (Or.inl rfl))) (
  ce_fc (P := P_X8_append) (ok_li (ok_aload dX8_append_46)) (
  ce_fc (P := P_X8_append) (ok_li (ok_iconst dX8_append_48)) (
  ce_fc (P := P_X8_append) (ok_li (ok_putf (ci := 4) (k := 5) (C := RX0) (T := TX0) (N := 7) (ty0 := tyX0) dX8_append_49 rfl ce_uX0 (by decide) gw_312 (fun _ _ _ _ h => h) tyX0_ok nmX0 (Or.inl rfl))) (
  ce_fc (P := P_X8_append) (ok_li (ok_aload dX8_append_52)) (
  ce_fc (P := P_X8_append) (ok_li (ok_iconst dX8_append_54)) (
  ce_fc (P := P_X8_append) (ok_li (ok_putf (ci := 4) (k := 6) (C := RX0) (T := TX0) (N := 7) (ty0 := tyX0) dX8_append_55 rfl ce_uX0 (by decide) gw_314 (fun _ _ _ _ h => h) tyX0_ok nmX0 (Or.inl rfl))) (
  ce_fn (P := P_X8_append)))))))))))))))
noncomputable def tb_X8_append_2 : List (Nat × ce_N) := [(58, ce_li (ce_aload 0 59)),
  (59, ce_li (ce_dup 60)),
  (60, ce_li (ce_getf 12 1 63)),
  (63, ce_li (ce_push (.inl (.inl (1))) 64)),
  (64, ce_li (ce_bin ce_addo 65)),
  (65, ce_li (ce_putf (tyX8 1) 12 1 68)),
  (68, ce_li (ce_push (.inl (.inl (1))) 69)),
  (69, ce_reti .boolean)]
theorem tk_X8_append_2 : ∀ x ∈ tb_X8_append_2, P_X8_append x.1 x.2 :=
  ce_fc (P := P_X8_append) (ok_li (ok_aload_n dX8_append_58 rfl)) (
  ce_fc (P := P_X8_append) (ok_li (ok_dup dX8_append_59)) (
  ce_fc (P := P_X8_append) (ok_li (ok_getf (ci := 12) (k := 1) (C := RX8) (T := TX8) (N := 5) dX8_append_60 rfl ce_uX8 (by decide) gw_333 (fun _ _ _ _ h => h))) (
  ce_fc (P := P_X8_append) (ok_li (ok_iconst dX8_append_63)) (
  ce_fc (P := P_X8_append) (ok_li (ok_iadd dX8_append_64)) (
  ce_fc (P := P_X8_append) (ok_li (ok_putf (ci := 12) (k := 1) (C := RX8) (T := TX8) (N := 5) (ty0 := tyX8) dX8_append_65 rfl ce_uX8 (by decide) gw_333 (fun _ _ _ _ h => h) tyX8_ok nmX8 (Or.inl rfl))) (
  ce_fc (P := P_X8_append) (ok_li (ok_iconst dX8_append_68)) (
  ce_fc (P := P_X8_append) (ok_reti dX8_append_69 rfl) (
  ce_fn (P := P_X8_append)))))))))
noncomputable def ta_X8_append : Nat → Option ce_N := (ce_tr 31 (ce_fd tb_X8_append_0) (ce_tr 58 (ce_fd tb_X8_append_1) (ce_fd tb_X8_append_2)))
theorem tx_X8_append : ∀ pc f, ta_X8_append pc = some f → P_X8_append pc f := (ce_tr_ok (P := P_X8_append) (ce_fd_ok (P := P_X8_append) tk_X8_append_0) (ce_tr_ok (P := P_X8_append) (ce_fd_ok (P := P_X8_append) tk_X8_append_1) (ce_fd_ok (P := P_X8_append) tk_X8_append_2)))
noncomputable def F_X8_append : ce_C := ce_M ta_X8_append 7 0 0 1000000
theorem m_X8_append : ∀ l : Launch, l.stackTraces = false → ce_MS l yX8_append (.code yX8_append cX8_append 7 (some .boolean)) 1 0 0 F_X8_append := fun l hl => ce_met hl (by decide +kernel) tx_X8_append
theorem hp_X8_append : yX8_append.cls ≠ "java/lang/invoke/MethodHandle" ∧ yX8_append.cls ≠ "java/lang/invoke/VarHandle" ∧ (parseMethodDescriptor yX8_append.desc).map (fun d => d.parameters.length) = some 5 := by decide +kernel
abbrev P_X8_init : Nat → ce_N → Prop := ce_OKN "Carcasswright$Stock" "<init>" cX8_init 2 none 1 (some [])
noncomputable def tb_X8_init_0 : List (Nat × ce_N) := [(0, ce_li (ce_aload 0 1)),
  (1, ce_li (ce_oi 4)),
  (4, ce_li (ce_aload 0 5)),
  (5, ce_li (ce_push (.inl (.inl (60))) 7)),
  (7, ce_li (ce_newa 11 3 10)),
  (10, ce_li (ce_putf (tyX8 0) 12 0 13)),
  (13, ce_li (ce_push (.inl (.inl (0))) 14)),
  (14, ce_li (ce_istore 1 15 2)),
  (15, ce_li (ce_iload 1 16)),
  (16, ce_li (ce_push (.inl (.inl (60))) 18)),
  (18, ce_li (ce_icmp false false true 40 21)),
  (21, ce_li (ce_aload 0 22)),
  (22, ce_li (ce_getf 12 0 25)),
  (25, ce_li (ce_iload 1 26))]
theorem tk_X8_init_0 : ∀ x ∈ tb_X8_init_0, P_X8_init x.1 x.2 :=
  ce_fc (P := P_X8_init) (ok_li (ok_aload_n dX8_init_0 rfl)) (
  ce_fc (P := P_X8_init) (ok_li (ok_oi dX8_init_1 gw_289 gw_57 gw_58)) (
  ce_fc (P := P_X8_init) (ok_li (ok_aload_n dX8_init_4 rfl)) (
  ce_fc (P := P_X8_init) (ok_li (ok_bipush dX8_init_5 (by decide))) (
  ce_fc (P := P_X8_init) (ok_li (ok_newq (C := "Carcasswright$Board") (t := 11) dX8_init_7 gw_290 (by decide) (fun _ => rfl) (fun z ad n => ce_refs (by decide) (by decide) (by decide) z ad n))) (
  ce_fc (P := P_X8_init) (ok_li (ok_putf (ci := 12) (k := 0) (C := RX8) (T := TX8) (N := 5) (ty0 := tyX8) dX8_init_10 rfl ce_uX8 (by decide) gw_332 (fun _ _ _ _ h => h) tyX8_ok nmX8 (Or.inr ⟨rfl, rfl, rfl⟩))) (
  ce_fc (P := P_X8_init) (ok_li (ok_iconst dX8_init_13)) (
  ce_fc (P := P_X8_init) (ok_li (ok_istore_n dX8_init_14 rfl)) (
  ce_fc (P := P_X8_init) (ok_li (ok_iload_n dX8_init_15 rfl)) (
  ce_fc (P := P_X8_init) (ok_li (ok_bipush dX8_init_16 (by decide))) (
  ce_fc (P := P_X8_init) (ok_li (ok_icmp_ge dX8_init_18 (by decide))) (
  ce_fc (P := P_X8_init) (ok_li (ok_aload_n dX8_init_21 rfl)) (
  ce_fc (P := P_X8_init) (ok_li (ok_getf (ci := 12) (k := 0) (C := RX8) (T := TX8) (N := 5) dX8_init_22 rfl ce_uX8 (by decide) gw_332 (fun _ _ _ _ h => h))) (
  ce_fc (P := P_X8_init) (ok_li (ok_iload_n dX8_init_25 rfl)) (
  ce_fn (P := P_X8_init)))))))))))))))
noncomputable def tb_X8_init_1 : List (Nat × ce_N) := [(26, ce_li (ce_new 4 7 dl_X0 29)),
  (29, ce_li (ce_dup 30)),
  (30, ce_call 1 0 0 33 (.inr true) (ce_CI F_X0_init)),
  (33, ce_li (ce_aast 34)),
  (34, ce_li (ce_iinc 1 (1) 37 2)),
  (37, ce_li (ce_goto 15)),
  (40, ce_ret0)]
theorem tk_X8_init_1 : ∀ x ∈ tb_X8_init_1, P_X8_init x.1 x.2 :=
  ce_fc (P := P_X8_init) (ok_li (ok_new (ci := 4) (C := RX0) (T := TX0) (N := 7) (ty0 := tyX0) dX8_init_26 rfl ce_uX0 tyX0_ok gw_290 gw_292 gw_9 dv_X0 rfl)) (
  ce_fc (P := P_X8_init) (ok_li (ok_dup dX8_init_29)) (
  ce_fc (P := P_X8_init) (ok_call (ru_IN m_X0_init (by decide) (by decide) gw_295 gn_11 gw_294 gw_9 rfl hp_X0_init dX8_init_30) ca_t) (
  ce_fc (P := P_X8_init) (ok_li (ok_aast dX8_init_33)) (
  ce_fc (P := P_X8_init) (ok_li (ok_iinc dX8_init_34)) (
  ce_fc (P := P_X8_init) (ok_li (ok_goto dX8_init_37 (by decide))) (
  ce_fc (P := P_X8_init) (ok_ret0 dX8_init_40 rfl) (
  ce_fn (P := P_X8_init))))))))
noncomputable def ta_X8_init : Nat → Option ce_N := (ce_tr 26 (ce_fd tb_X8_init_0) (ce_fd tb_X8_init_1))
theorem tx_X8_init : ∀ pc f, ta_X8_init pc = some f → P_X8_init pc f := (ce_tr_ok (P := P_X8_init) (ce_fd_ok (P := P_X8_init) tk_X8_init_0) (ce_fd_ok (P := P_X8_init) tk_X8_init_1))
noncomputable def F_X8_init : ce_C := ce_M ta_X8_init 2 61 480 1000000
theorem m_X8_init : ∀ l : Launch, l.stackTraces = false → ce_MS l yX8_init (.code yX8_init cX8_init 2 none) 1 61 480 F_X8_init := fun l hl => ce_met hl (by decide +kernel) tx_X8_init
theorem hp_X8_init : yX8_init.cls ≠ "java/lang/invoke/MethodHandle" ∧ yX8_init.cls ≠ "java/lang/invoke/VarHandle" ∧ (parseMethodDescriptor yX8_init.desc).map (fun d => d.parameters.length) = some 0 := by decide +kernel
abbrev P_X9_init : Nat → ce_N → Prop := ce_OKN "Carcasswright$Types" "<init>" cX9_init 2 none 1 (some [])
noncomputable def tb_X9_init_0 : List (Nat × ce_N) := [(0, ce_li (ce_aload 0 1)),
  (1, ce_li (ce_oi 4)),
  (4, ce_li (ce_aload 0 5)),
  (5, ce_li (ce_push (.inl (.inl (30))) 7)),
  (7, ce_li (ce_newa 1 2 9)),
  (9, ce_li (ce_putf (tyX9 0) 13 0 12)),
  (12, ce_li (ce_aload 0 13)),
  (13, ce_li (ce_push (.inl (.inl (8))) 15)),
  (15, ce_li (ce_newa 10 3 18)),
  (18, ce_li (ce_putf (tyX9 1) 13 1 21)),
  (21, ce_li (ce_aload 0 22)),
  (22, ce_li (ce_new 6 9 dl_X2 25)),
  (25, ce_li (ce_dup 26)),
  (26, ce_call 1 0 0 29 (.inr true) (ce_CI F_X2_init))]
theorem tk_X9_init_0 : ∀ x ∈ tb_X9_init_0, P_X9_init x.1 x.2 :=
  ce_fc (P := P_X9_init) (ok_li (ok_aload_n dX9_init_0 rfl)) (
  ce_fc (P := P_X9_init) (ok_li (ok_oi dX9_init_1 gw_64 gw_57 gw_58)) (
  ce_fc (P := P_X9_init) (ok_li (ok_aload_n dX9_init_4 rfl)) (
  ce_fc (P := P_X9_init) (ok_li (ok_bipush dX9_init_5 (by decide))) (
  ce_fc (P := P_X9_init) (ok_li (ok_newa_char dX9_init_7 gw_113)) (
  ce_fc (P := P_X9_init) (ok_li (ok_putf (ci := 13) (k := 0) (C := RX9) (T := TX9) (N := 10) (ty0 := tyX9) dX9_init_9 rfl ce_uX9 (by decide) gw_114 (fun _ _ _ _ h => h) tyX9_ok nmX9 (Or.inr ⟨rfl, rfl, rfl⟩))) (
  ce_fc (P := P_X9_init) (ok_li (ok_aload_n dX9_init_12 rfl)) (
  ce_fc (P := P_X9_init) (ok_li (ok_bipush dX9_init_13 (by decide))) (
  ce_fc (P := P_X9_init) (ok_li (ok_newq (C := "Carcasswright$ModuleType") (t := 10) dX9_init_15 gw_65 (by decide) (fun _ => rfl) (fun z ad n => ce_refs (by decide) (by decide) (by decide) z ad n))) (
  ce_fc (P := P_X9_init) (ok_li (ok_putf (ci := 13) (k := 1) (C := RX9) (T := TX9) (N := 10) (ty0 := tyX9) dX9_init_18 rfl ce_uX9 (by decide) gw_115 (fun _ _ _ _ h => h) tyX9_ok nmX9 (Or.inr ⟨rfl, rfl, rfl⟩))) (
  ce_fc (P := P_X9_init) (ok_li (ok_aload_n dX9_init_21 rfl)) (
  ce_fc (P := P_X9_init) (ok_li (ok_new (ci := 6) (C := RX2) (T := TX2) (N := 9) (ty0 := tyX2) dX9_init_22 rfl ce_uX2 tyX2_ok gw_65 gw_67 gw_3 dv_X2 rfl)) (
  ce_fc (P := P_X9_init) (ok_li (ok_dup dX9_init_25)) (
  ce_fc (P := P_X9_init) (ok_call (ru_IN m_X2_init (by decide) (by decide) gw_70 gn_8 gw_69 gw_3 rfl hp_X2_init dX9_init_26) ca_t) (
  ce_fn (P := P_X9_init)))))))))))))))
noncomputable def tb_X9_init_1 : List (Nat × ce_N) := [(29, ce_li (ce_putf (tyX9 2) 13 2 32)),
  (32, ce_li (ce_push (.inl (.inl (0))) 33)),
  (33, ce_li (ce_istore 1 34 2)),
  (34, ce_li (ce_iload 1 35)),
  (35, ce_li (ce_push (.inl (.inl (8))) 37)),
  (37, ce_li (ce_icmp false false true 59 40)),
  (40, ce_li (ce_aload 0 41)),
  (41, ce_li (ce_getf 13 1 44)),
  (44, ce_li (ce_iload 1 45)),
  (45, ce_li (ce_new 6 9 dl_X2 48)),
  (48, ce_li (ce_dup 49)),
  (49, ce_call 1 0 0 52 (.inr true) (ce_CI F_X2_init)),
  (52, ce_li (ce_aast 53)),
  (53, ce_li (ce_iinc 1 (1) 56 2))]
theorem tk_X9_init_1 : ∀ x ∈ tb_X9_init_1, P_X9_init x.1 x.2 :=
  ce_fc (P := P_X9_init) (ok_li (ok_putf (ci := 13) (k := 2) (C := RX9) (T := TX9) (N := 10) (ty0 := tyX9) dX9_init_29 rfl ce_uX9 (by decide) gw_116 (fun _ _ _ _ h => h) tyX9_ok nmX9 (Or.inr ⟨rfl, rfl, rfl⟩))) (
  ce_fc (P := P_X9_init) (ok_li (ok_iconst dX9_init_32)) (
  ce_fc (P := P_X9_init) (ok_li (ok_istore_n dX9_init_33 rfl)) (
  ce_fc (P := P_X9_init) (ok_li (ok_iload_n dX9_init_34 rfl)) (
  ce_fc (P := P_X9_init) (ok_li (ok_bipush dX9_init_35 (by decide))) (
  ce_fc (P := P_X9_init) (ok_li (ok_icmp_ge dX9_init_37 (by decide))) (
  ce_fc (P := P_X9_init) (ok_li (ok_aload_n dX9_init_40 rfl)) (
  ce_fc (P := P_X9_init) (ok_li (ok_getf (ci := 13) (k := 1) (C := RX9) (T := TX9) (N := 10) dX9_init_41 rfl ce_uX9 (by decide) gw_115 (fun _ _ _ _ h => h))) (
  ce_fc (P := P_X9_init) (ok_li (ok_iload_n dX9_init_44 rfl)) (
  ce_fc (P := P_X9_init) (ok_li (ok_new (ci := 6) (C := RX2) (T := TX2) (N := 9) (ty0 := tyX2) dX9_init_45 rfl ce_uX2 tyX2_ok gw_65 gw_67 gw_3 dv_X2 rfl)) (
  ce_fc (P := P_X9_init) (ok_li (ok_dup dX9_init_48)) (
  ce_fc (P := P_X9_init) (ok_call (ru_IN m_X2_init (by decide) (by decide) gw_70 gn_8 gw_69 gw_3 rfl hp_X2_init dX9_init_49) ca_t) (
  ce_fc (P := P_X9_init) (ok_li (ok_aast dX9_init_52)) (
  ce_fc (P := P_X9_init) (ok_li (ok_iinc dX9_init_53)) (
  ce_fn (P := P_X9_init)))))))))))))))
noncomputable def tb_X9_init_2 : List (Nat × ce_N) := [(56, ce_li (ce_goto 34)),
  (59, ce_ret0)]
theorem tk_X9_init_2 : ∀ x ∈ tb_X9_init_2, P_X9_init x.1 x.2 :=
  ce_fc (P := P_X9_init) (ok_li (ok_goto dX9_init_56 (by decide))) (
  ce_fc (P := P_X9_init) (ok_ret0 dX9_init_59 rfl) (
  ce_fn (P := P_X9_init)))
noncomputable def ta_X9_init : Nat → Option ce_N := (ce_tr 29 (ce_fd tb_X9_init_0) (ce_tr 56 (ce_fd tb_X9_init_1) (ce_fd tb_X9_init_2)))
theorem tx_X9_init : ∀ pc f, ta_X9_init pc = some f → P_X9_init pc f := (ce_tr_ok (P := P_X9_init) (ce_fd_ok (P := P_X9_init) tk_X9_init_0) (ce_tr_ok (P := P_X9_init) (ce_fd_ok (P := P_X9_init) tk_X9_init_1) (ce_fd_ok (P := P_X9_init) tk_X9_init_2)))
noncomputable def F_X9_init : ce_C := ce_M ta_X9_init 2 11 119 1000000
theorem m_X9_init : ∀ l : Launch, l.stackTraces = false → ce_MS l yX9_init (.code yX9_init cX9_init 2 none) 1 11 119 F_X9_init := fun l hl => ce_met hl (by decide +kernel) tx_X9_init
theorem hp_X9_init : yX9_init.cls ≠ "java/lang/invoke/MethodHandle" ∧ yX9_init.cls ≠ "java/lang/invoke/VarHandle" ∧ (parseMethodDescriptor yX9_init.desc).map (fun d => d.parameters.length) = some 0 := by decide +kernel
abbrev P_X9_read : Nat → ce_N → Prop := ce_OKN "Carcasswright$Types" "read" cX9_read 2 none 1 (some [])
noncomputable def tb_X9_read_0 : List (Nat × ce_N) := [(0, ce_li (ce_aload 0 1)),
  (1, ce_li (ce_getf 13 2 4)),
  (4, ce_li (ce_push (.inl (.inl (98))) 6)),
  (6, ce_call 2 0 0 9 (.inr true) (ce_CV 6 F_X2_reset)),
  (9, ce_li (ce_aload 0 10)),
  (10, ce_li (ce_push (.inl (.inl (107))) 12)),
  (12, ce_li (ce_putf (tyX9 7) 13 7 15)),
  (15, ce_li (ce_aload 0 16)),
  (16, ce_li (ce_push (.inl (.inl (107))) 18)),
  (18, ce_li (ce_putf (tyX9 8) 13 8 21)),
  (21, ce_li (ce_aload 0 22)),
  (22, ce_li (ce_push (.inl (.inl (0))) 23)),
  (23, ce_li (ce_putf (tyX9 9) 13 9 26)),
  (26, ce_li (ce_push (.inl (.inl (0))) 27))]
theorem tk_X9_read_0 : ∀ x ∈ tb_X9_read_0, P_X9_read x.1 x.2 :=
  ce_fc (P := P_X9_read) (ok_li (ok_aload_n dX9_read_0 rfl)) (
  ce_fc (P := P_X9_read) (ok_li (ok_getf (ci := 13) (k := 2) (C := RX9) (T := TX9) (N := 10) dX9_read_1 rfl ce_uX9 (by decide) gw_116 (fun _ _ _ _ h => h))) (
  ce_fc (P := P_X9_read) (ok_li (ok_bipush dX9_read_4 (by decide))) (
  ce_fc (P := P_X9_read) (ok_call (ru_V (ci := 6) (C := RX2) (Tf := TX2) (N := 9) m_X2_reset (by decide) (by decide) rfl gw_860 gw_857 gw_858 gw_859 gw_3 ⟨rfl, hp_X2_reset⟩ dX9_read_6) ca_t) (
  ce_fc (P := P_X9_read) (ok_li (ok_aload_n dX9_read_9 rfl)) (
  ce_fc (P := P_X9_read) (ok_li (ok_bipush dX9_read_10 (by decide))) (
  ce_fc (P := P_X9_read) (ok_li (ok_putf (ci := 13) (k := 7) (C := RX9) (T := TX9) (N := 10) (ty0 := tyX9) dX9_read_12 rfl ce_uX9 (by decide) gw_125 (fun _ _ _ _ h => h) tyX9_ok nmX9 (Or.inl rfl))) (
  ce_fc (P := P_X9_read) (ok_li (ok_aload_n dX9_read_15 rfl)) (
  ce_fc (P := P_X9_read) (ok_li (ok_bipush dX9_read_16 (by decide))) (
  ce_fc (P := P_X9_read) (ok_li (ok_putf (ci := 13) (k := 8) (C := RX9) (T := TX9) (N := 10) (ty0 := tyX9) dX9_read_18 rfl ce_uX9 (by decide) gw_126 (fun _ _ _ _ h => h) tyX9_ok nmX9 (Or.inl rfl))) (
  ce_fc (P := P_X9_read) (ok_li (ok_aload_n dX9_read_21 rfl)) (
  ce_fc (P := P_X9_read) (ok_li (ok_iconst dX9_read_22)) (
  ce_fc (P := P_X9_read) (ok_li (ok_putf (ci := 13) (k := 9) (C := RX9) (T := TX9) (N := 10) (ty0 := tyX9) dX9_read_23 rfl ce_uX9 (by decide) gw_127 (fun _ _ _ _ h => h) tyX9_ok nmX9 (Or.inl rfl))) (
  ce_fc (P := P_X9_read) (ok_li (ok_iconst dX9_read_26)) (
  ce_fn (P := P_X9_read)))))))))))))))
noncomputable def tb_X9_read_1 : List (Nat × ce_N) := [(27, ce_li (ce_istore 1 28 2)),
  (28, ce_li (ce_iload 1 29)),
  (29, ce_li (ce_aload 0 30)),
  (30, ce_li (ce_getf 13 3 33)),
  (33, ce_li (ce_icmp false false true 77 36)),
  (77, ce_li (ce_aload 0 78)),
  (78, ce_call 1 0 0 81 (.inr true) (ce_CV 13 F_X9_hasFault)),
  (81, ce_li (ce_if true false false 85 84)),
  (85, ce_li (ce_aload 0 86)),
  (86, ce_li (ce_getf 13 7 89)),
  (89, ce_li (ce_push (.inl (.inl (105))) 91)),
  (91, ce_li (ce_icmp true false false 109 94)),
  (94, ce_li (ce_aload 0 95)),
  (95, ce_li (ce_aload 0 96))]
theorem tk_X9_read_1 : ∀ x ∈ tb_X9_read_1, P_X9_read x.1 x.2 :=
  ce_fc (P := P_X9_read) (ok_li (ok_istore_n dX9_read_27 rfl)) (
  ce_fc (P := P_X9_read) (ok_li (ok_iload_n dX9_read_28 rfl)) (
  ce_fc (P := P_X9_read) (ok_li (ok_aload_n dX9_read_29 rfl)) (
  ce_fc (P := P_X9_read) (ok_li (ok_getf (ci := 13) (k := 3) (C := RX9) (T := TX9) (N := 10) dX9_read_30 rfl ce_uX9 (by decide) gw_117 (fun _ _ _ _ h => h))) (
  ce_fc (P := P_X9_read) (ok_li (ok_icmp_ge dX9_read_33 (by decide))) (
  ce_fc (P := P_X9_read) (ok_li (ok_aload_n dX9_read_77 rfl)) (
  ce_fc (P := P_X9_read) (ok_call (ru_V (ci := 13) (C := RX9) (Tf := TX9) (N := 10) m_X9_hasFault (by decide) (by decide) rfl gw_864 gw_861 gw_862 gw_863 gw_2 ⟨rfl, hp_X9_hasFault⟩ dX9_read_78) ca_t) (
  ce_fc (P := P_X9_read) (ok_li (ok_if_eq dX9_read_81 (by decide))) (
  ce_fc (P := P_X9_read) (ok_li (ok_aload_n dX9_read_85 rfl)) (
  ce_fc (P := P_X9_read) (ok_li (ok_getf (ci := 13) (k := 7) (C := RX9) (T := TX9) (N := 10) dX9_read_86 rfl ce_uX9 (by decide) gw_125 (fun _ _ _ _ h => h))) (
  ce_fc (P := P_X9_read) (ok_li (ok_bipush dX9_read_89 (by decide))) (
  ce_fc (P := P_X9_read) (ok_li (ok_icmp_eq dX9_read_91 (by decide))) (
  ce_fc (P := P_X9_read) (ok_li (ok_aload_n dX9_read_94 rfl)) (
  ce_fc (P := P_X9_read) (ok_li (ok_aload_n dX9_read_95 rfl)) (
  ce_fn (P := P_X9_read)))))))))))))))
noncomputable def tb_X9_read_2 : List (Nat × ce_N) := [(96, ce_li (ce_getf 13 3 99)),
  (99, ce_li (ce_aload 0 100)),
  (100, ce_li (ce_getf 13 7 103)),
  (103, ce_call 3 0 0 106 (.inr true) (ce_CV 13 F_X9_fail)),
  (106, ce_li (ce_goto 129)),
  (129, ce_ret0)]
theorem tk_X9_read_2 : ∀ x ∈ tb_X9_read_2, P_X9_read x.1 x.2 :=
  ce_fc (P := P_X9_read) (ok_li (ok_getf (ci := 13) (k := 3) (C := RX9) (T := TX9) (N := 10) dX9_read_96 rfl ce_uX9 (by decide) gw_117 (fun _ _ _ _ h => h))) (
  ce_fc (P := P_X9_read) (ok_li (ok_aload_n dX9_read_99 rfl)) (
  ce_fc (P := P_X9_read) (ok_li (ok_getf (ci := 13) (k := 7) (C := RX9) (T := TX9) (N := 10) dX9_read_100 rfl ce_uX9 (by decide) gw_125 (fun _ _ _ _ h => h))) (
  ce_fc (P := P_X9_read) (ok_call (ru_V (ci := 13) (C := RX9) (Tf := TX9) (N := 10) m_X9_fail (by decide) (by decide) rfl gw_906 gw_903 gw_904 gw_905 gw_2 ⟨rfl, hp_X9_fail⟩ dX9_read_103) ca_t) (
  ce_fc (P := P_X9_read) (ok_li (ok_goto dX9_read_106 (by decide))) (
  ce_fc (P := P_X9_read) (ok_ret0 dX9_read_129 rfl) (
  ce_fn (P := P_X9_read)))))))
noncomputable def ta_X9_read : Nat → Option ce_N := (ce_tr 27 (ce_fd tb_X9_read_0) (ce_tr 96 (ce_fd tb_X9_read_1) (ce_fd tb_X9_read_2)))
theorem tx_X9_read : ∀ pc f, ta_X9_read pc = some f → P_X9_read pc f := (ce_tr_ok (P := P_X9_read) (ce_fd_ok (P := P_X9_read) tk_X9_read_0) (ce_tr_ok (P := P_X9_read) (ce_fd_ok (P := P_X9_read) tk_X9_read_1) (ce_fd_ok (P := P_X9_read) tk_X9_read_2)))
noncomputable def F_X9_read : ce_C := ce_M ta_X9_read 2 0 0 1000000
theorem m_X9_read : ∀ l : Launch, l.stackTraces = false → ce_MS l yX9_read (.code yX9_read cX9_read 2 none) 1 0 0 F_X9_read := fun l hl => ce_met hl (by decide +kernel) tx_X9_read
theorem hp_X9_read : yX9_read.cls ≠ "java/lang/invoke/MethodHandle" ∧ yX9_read.cls ≠ "java/lang/invoke/VarHandle" ∧ (parseMethodDescriptor yX9_read.desc).map (fun d => d.parameters.length) = some 0 := by decide +kernel
abbrev P_J0_indexOf_7cf53 : Nat → ce_N → Prop := ce_OKN "java/lang/String" "indexOf" cJ0_indexOf_7cf53 3 (some .int) 2 (some [])
noncomputable def tb_J0_indexOf_7cf53_0 : List (Nat × ce_N) := [(0, ce_li (ce_aload 0 1)),
  (1, ce_call 1 0 0 4 (.inr true) (ce_CV 0 F_J0_isLatin1_aae02)),
  (4, ce_li (ce_if true false false 23 7)),
  (7, ce_li (ce_aload 0 8)),
  (8, ce_li (ce_gets 0 11)),
  (11, ce_li (ce_iload 1 12)),
  (12, ce_li (ce_iload 2 13)),
  (13, ce_li (ce_aload 0 14)),
  (14, ce_call 1 0 0 17 (.inr true) (ce_CV 0 F_J0_length_8abf5)),
  (17, ce_call 4 0 0 20 (.inr true) F_J1_indexOf_4cfef),
  (20, ce_li (ce_goto 36)),
  (36, ce_reti .int)]
theorem tk_J0_indexOf_7cf53_0 : ∀ x ∈ tb_J0_indexOf_7cf53_0, P_J0_indexOf_7cf53 x.1 x.2 :=
  ce_fc (P := P_J0_indexOf_7cf53) (ok_li (ok_aload_n dJ0_indexOf_7cf53_0 rfl)) (
  ce_fc (P := P_J0_indexOf_7cf53) (ok_call (ru_V (ci := 0) (C := RJ0) (Tf := TJ0) (N := 4) m_J0_isLatin1_aae02 (by decide) (by decide) rfl gw_1603 gw_1600 gw_1601 gw_1602 gw_23 ⟨rfl, hp_J0_isLatin1_aae02⟩ dJ0_indexOf_7cf53_1) ca_t) (
  ce_fc (P := P_J0_indexOf_7cf53) (ok_li (ok_if_eq dJ0_indexOf_7cf53_4 (by decide))) (
  ce_fc (P := P_J0_indexOf_7cf53) (ok_li (ok_aload_n dJ0_indexOf_7cf53_7 rfl)) (
  ce_fc (P := P_J0_indexOf_7cf53) (ok_li (ok_gets0 dJ0_indexOf_7cf53_8 gw_2141)) (
  ce_fc (P := P_J0_indexOf_7cf53) (ok_li (ok_iload_n dJ0_indexOf_7cf53_11 rfl)) (
  ce_fc (P := P_J0_indexOf_7cf53) (ok_li (ok_iload_n dJ0_indexOf_7cf53_12 rfl)) (
  ce_fc (P := P_J0_indexOf_7cf53) (ok_li (ok_aload_n dJ0_indexOf_7cf53_13 rfl)) (
  ce_fc (P := P_J0_indexOf_7cf53) (ok_call (ru_V (ci := 0) (C := RJ0) (Tf := TJ0) (N := 4) m_J0_length_8abf5 (by decide) (by decide) rfl gw_1609 gw_1606 gw_1607 gw_1608 gw_23 ⟨rfl, hp_J0_length_8abf5⟩ dJ0_indexOf_7cf53_14) ca_t) (
  ce_fc (P := P_J0_indexOf_7cf53) (ok_call (ru_S m_J1_indexOf_4cfef (by decide) (by decide) gw_1616 gw_1614 gw_1615 gw_24 hp_J1_indexOf_4cfef dJ0_indexOf_7cf53_17) ca_t) (
  ce_fc (P := P_J0_indexOf_7cf53) (ok_li (ok_goto dJ0_indexOf_7cf53_20 (by decide))) (
  ce_fc (P := P_J0_indexOf_7cf53) (ok_reti dJ0_indexOf_7cf53_36 rfl) (
  ce_fn (P := P_J0_indexOf_7cf53)))))))))))))
noncomputable def ta_J0_indexOf_7cf53 : Nat → Option ce_N := (ce_fd tb_J0_indexOf_7cf53_0)
theorem tx_J0_indexOf_7cf53 : ∀ pc f, ta_J0_indexOf_7cf53 pc = some f → P_J0_indexOf_7cf53 pc f := (ce_fd_ok (P := P_J0_indexOf_7cf53) tk_J0_indexOf_7cf53_0)
noncomputable def F_J0_indexOf_7cf53 : ce_C := ce_M ta_J0_indexOf_7cf53 3 0 0 1000000
theorem m_J0_indexOf_7cf53 : ∀ l : Launch, l.stackTraces = false → ce_MS l yJ0_indexOf_7cf53 (.code yJ0_indexOf_7cf53 cJ0_indexOf_7cf53 3 (some .int)) 2 0 0 F_J0_indexOf_7cf53 := fun l hl => ce_met hl (by decide +kernel) tx_J0_indexOf_7cf53
theorem hp_J0_indexOf_7cf53 : yJ0_indexOf_7cf53.cls ≠ "java/lang/invoke/MethodHandle" ∧ yJ0_indexOf_7cf53.cls ≠ "java/lang/invoke/VarHandle" ∧ (parseMethodDescriptor yJ0_indexOf_7cf53.desc).map (fun d => d.parameters.length) = some 2 := by decide +kernel
abbrev P_J2_checkBoundsOffCount_d044e : Nat → ce_N → Prop := ce_OKN "java/lang/StringUTF16" "checkBoundsOffCount" cJ2_checkBoundsOffCount_d044e 3 none 2 (some [])
noncomputable def tb_J2_checkBoundsOffCount_d044e_0 : List (Nat × ce_N) := [(0, ce_li (ce_iload 0 1)),
  (1, ce_li (ce_iload 1 2)),
  (2, ce_li (ce_aload 2 3)),
  (3, ce_call 1 0 0 6 (.inr true) F_J2_length_9d52b),
  (6, ce_call 3 0 0 9 (.inr true) F_J0_checkBoundsOffCount_cabcc),
  (9, ce_li (ce_pop 10)),
  (10, ce_ret0)]
theorem tk_J2_checkBoundsOffCount_d044e_0 : ∀ x ∈ tb_J2_checkBoundsOffCount_d044e_0, P_J2_checkBoundsOffCount_d044e x.1 x.2 :=
  ce_fc (P := P_J2_checkBoundsOffCount_d044e) (ok_li (ok_iload_n dJ2_checkBoundsOffCount_d044e_0 rfl)) (
  ce_fc (P := P_J2_checkBoundsOffCount_d044e) (ok_li (ok_iload_n dJ2_checkBoundsOffCount_d044e_1 rfl)) (
  ce_fc (P := P_J2_checkBoundsOffCount_d044e) (ok_li (ok_aload_n dJ2_checkBoundsOffCount_d044e_2 rfl)) (
  ce_fc (P := P_J2_checkBoundsOffCount_d044e) (ok_call (ru_S m_J2_length_9d52b (by decide) (by decide) gw_1639 gw_1637 gw_1638 gw_26 hp_J2_length_9d52b dJ2_checkBoundsOffCount_d044e_3) ca_t) (
  ce_fc (P := P_J2_checkBoundsOffCount_d044e) (ok_call (ru_S m_J0_checkBoundsOffCount_cabcc (by decide) (by decide) gw_2022 gw_2020 gw_2021 gw_23 hp_J0_checkBoundsOffCount_cabcc dJ2_checkBoundsOffCount_d044e_6) ca_t) (
  ce_fc (P := P_J2_checkBoundsOffCount_d044e) (ok_li (ok_pop dJ2_checkBoundsOffCount_d044e_9)) (
  ce_fc (P := P_J2_checkBoundsOffCount_d044e) (ok_ret0 dJ2_checkBoundsOffCount_d044e_10 rfl) (
  ce_fn (P := P_J2_checkBoundsOffCount_d044e))))))))
noncomputable def ta_J2_checkBoundsOffCount_d044e : Nat → Option ce_N := (ce_fd tb_J2_checkBoundsOffCount_d044e_0)
theorem tx_J2_checkBoundsOffCount_d044e : ∀ pc f, ta_J2_checkBoundsOffCount_d044e pc = some f → P_J2_checkBoundsOffCount_d044e pc f := (ce_fd_ok (P := P_J2_checkBoundsOffCount_d044e) tk_J2_checkBoundsOffCount_d044e_0)
noncomputable def F_J2_checkBoundsOffCount_d044e : ce_C := ce_M ta_J2_checkBoundsOffCount_d044e 3 0 0 1000000
theorem m_J2_checkBoundsOffCount_d044e : ∀ l : Launch, l.stackTraces = false → ce_MS l yJ2_checkBoundsOffCount_d044e (.code yJ2_checkBoundsOffCount_d044e cJ2_checkBoundsOffCount_d044e 3 none) 2 0 0 F_J2_checkBoundsOffCount_d044e := fun l hl => ce_met hl (by decide +kernel) tx_J2_checkBoundsOffCount_d044e
theorem hp_J2_checkBoundsOffCount_d044e : yJ2_checkBoundsOffCount_d044e.cls ≠ "java/lang/invoke/MethodHandle" ∧ yJ2_checkBoundsOffCount_d044e.cls ≠ "java/lang/invoke/VarHandle" ∧ (parseMethodDescriptor yJ2_checkBoundsOffCount_d044e.desc).map (fun d => d.parameters.length) = some 3 := by decide +kernel
abbrev P_J2_checkIndex_2214a : Nat → ce_N → Prop := ce_OKN "java/lang/StringUTF16" "checkIndex" cJ2_checkIndex_2214a 2 none 2 (some [])
noncomputable def tb_J2_checkIndex_2214a_0 : List (Nat × ce_N) := [(0, ce_li (ce_iload 0 1)),
  (1, ce_li (ce_aload 1 2)),
  (2, ce_call 1 0 0 5 (.inr true) F_J2_length_9d52b),
  (5, ce_call 2 0 0 8 (.inr true) F_J0_checkIndex_df160),
  (8, ce_ret0)]
theorem tk_J2_checkIndex_2214a_0 : ∀ x ∈ tb_J2_checkIndex_2214a_0, P_J2_checkIndex_2214a x.1 x.2 :=
  ce_fc (P := P_J2_checkIndex_2214a) (ok_li (ok_iload_n dJ2_checkIndex_2214a_0 rfl)) (
  ce_fc (P := P_J2_checkIndex_2214a) (ok_li (ok_aload_n dJ2_checkIndex_2214a_1 rfl)) (
  ce_fc (P := P_J2_checkIndex_2214a) (ok_call (ru_S m_J2_length_9d52b (by decide) (by decide) gw_1639 gw_1637 gw_1638 gw_26 hp_J2_length_9d52b dJ2_checkIndex_2214a_2) ca_t) (
  ce_fc (P := P_J2_checkIndex_2214a) (ok_call (ru_S m_J0_checkIndex_df160 (by decide) (by decide) gw_2050 gw_2048 gw_2049 gw_23 hp_J0_checkIndex_df160 dJ2_checkIndex_2214a_5) ca_t) (
  ce_fc (P := P_J2_checkIndex_2214a) (ok_ret0 dJ2_checkIndex_2214a_8 rfl) (
  ce_fn (P := P_J2_checkIndex_2214a))))))
noncomputable def ta_J2_checkIndex_2214a : Nat → Option ce_N := (ce_fd tb_J2_checkIndex_2214a_0)
theorem tx_J2_checkIndex_2214a : ∀ pc f, ta_J2_checkIndex_2214a pc = some f → P_J2_checkIndex_2214a pc f := (ce_fd_ok (P := P_J2_checkIndex_2214a) tk_J2_checkIndex_2214a_0)
noncomputable def F_J2_checkIndex_2214a : ce_C := ce_M ta_J2_checkIndex_2214a 2 0 0 1000000
theorem m_J2_checkIndex_2214a : ∀ l : Launch, l.stackTraces = false → ce_MS l yJ2_checkIndex_2214a (.code yJ2_checkIndex_2214a cJ2_checkIndex_2214a 2 none) 2 0 0 F_J2_checkIndex_2214a := fun l hl => ce_met hl (by decide +kernel) tx_J2_checkIndex_2214a
theorem hp_J2_checkIndex_2214a : yJ2_checkIndex_2214a.cls ≠ "java/lang/invoke/MethodHandle" ∧ yJ2_checkIndex_2214a.cls ≠ "java/lang/invoke/VarHandle" ∧ (parseMethodDescriptor yJ2_checkIndex_2214a.desc).map (fun d => d.parameters.length) = some 2 := by decide +kernel
abbrev P_J7_copyOfRange_39247 : Nat → ce_N → Prop := ce_OKN "java/util/Arrays" "copyOfRange" cJ7_copyOfRange_39247 3 (some (.array .byte)) 2 (some [])
noncomputable def tb_J7_copyOfRange_39247_0 : List (Nat × ce_N) := [(0, ce_li (ce_iload 1 1)),
  (1, ce_li (ce_if true false true 10 4)),
  (4, ce_li (ce_iload 2 5)),
  (5, ce_li (ce_aload 0 6)),
  (6, ce_li (ce_alen 7)),
  (7, ce_li (ce_icmp true false false 17 10)),
  (10, ce_li (ce_aload 0 11)),
  (11, ce_li (ce_iload 1 12)),
  (12, ce_li (ce_iload 2 13)),
  (13, ce_call 3 1 2 16 (.inr true) F_J7_copyOfRangeByte_39247),
  (16, ce_reta)]
theorem tk_J7_copyOfRange_39247_0 : ∀ x ∈ tb_J7_copyOfRange_39247_0, P_J7_copyOfRange_39247 x.1 x.2 :=
  ce_fc (P := P_J7_copyOfRange_39247) (ok_li (ok_iload_n dJ7_copyOfRange_39247_0 rfl)) (
  ce_fc (P := P_J7_copyOfRange_39247) (ok_li (ok_if_ne dJ7_copyOfRange_39247_1 (by decide))) (
  ce_fc (P := P_J7_copyOfRange_39247) (ok_li (ok_iload_n dJ7_copyOfRange_39247_4 rfl)) (
  ce_fc (P := P_J7_copyOfRange_39247) (ok_li (ok_aload_n dJ7_copyOfRange_39247_5 rfl)) (
  ce_fc (P := P_J7_copyOfRange_39247) (ok_li (ok_alen dJ7_copyOfRange_39247_6)) (
  ce_fc (P := P_J7_copyOfRange_39247) (ok_li (ok_icmp_eq dJ7_copyOfRange_39247_7 (by decide))) (
  ce_fc (P := P_J7_copyOfRange_39247) (ok_li (ok_aload_n dJ7_copyOfRange_39247_10 rfl)) (
  ce_fc (P := P_J7_copyOfRange_39247) (ok_li (ok_iload_n dJ7_copyOfRange_39247_11 rfl)) (
  ce_fc (P := P_J7_copyOfRange_39247) (ok_li (ok_iload_n dJ7_copyOfRange_39247_12 rfl)) (
  ce_fc (P := P_J7_copyOfRange_39247) (ok_call (ru_S m_J7_copyOfRangeByte_39247 (by decide) (by decide) gw_2084 gw_2082 gw_2083 gw_31 hp_J7_copyOfRangeByte_39247 dJ7_copyOfRange_39247_13) ca_t) (
  ce_fc (P := P_J7_copyOfRange_39247) (ok_reta dJ7_copyOfRange_39247_16 rfl (Or.inr ⟨_, rfl⟩)) (
  ce_fn (P := P_J7_copyOfRange_39247))))))))))))
noncomputable def ta_J7_copyOfRange_39247 : Nat → Option ce_N := (ce_fd tb_J7_copyOfRange_39247_0)
theorem tx_J7_copyOfRange_39247 : ∀ pc f, ta_J7_copyOfRange_39247 pc = some f → P_J7_copyOfRange_39247 pc f := (ce_fd_ok (P := P_J7_copyOfRange_39247) tk_J7_copyOfRange_39247_0)
noncomputable def F_J7_copyOfRange_39247 : ce_C := ce_M ta_J7_copyOfRange_39247 3 1 2 1000000
theorem m_J7_copyOfRange_39247 : ∀ l : Launch, l.stackTraces = false → ce_MS l yJ7_copyOfRange_39247 (.code yJ7_copyOfRange_39247 cJ7_copyOfRange_39247 3 (some (.array .byte))) 2 1 2 F_J7_copyOfRange_39247 := fun l hl => ce_met hl (by decide +kernel) tx_J7_copyOfRange_39247
theorem hp_J7_copyOfRange_39247 : yJ7_copyOfRange_39247.cls ≠ "java/lang/invoke/MethodHandle" ∧ yJ7_copyOfRange_39247.cls ≠ "java/lang/invoke/VarHandle" ∧ (parseMethodDescriptor yJ7_copyOfRange_39247.desc).map (fun d => d.parameters.length) = some 3 := by decide +kernel
abbrev P_Jx4a65c_grow_92f84 : Nat → ce_N → Prop := ce_OKN "java/util/ArrayList" "grow" cJx4a65c_grow_92f84 4 (some (.array (.object "java/lang/Object"))) 2 (some [])
noncomputable def tb_Jx4a65c_grow_92f84_0 : List (Nat × ce_N) := [(0, ce_li (ce_aload 0 1)),
  (1, ce_li (ce_getf 3 1 4)),
  (4, ce_li (ce_alen 5)),
  (5, ce_li (ce_istore 2 6 4)),
  (6, ce_li (ce_iload 2 7)),
  (7, ce_li (ce_if false true false 20 10)),
  (10, ce_li (ce_aload 0 11)),
  (11, ce_li (ce_getf 3 1 14)),
  (14, ce_li (ce_push (.inr (.inr (.inl (.inr 1)))) 17)),
  (17, ce_li (ce_acmp false 45 20)),
  (20, ce_li (ce_iload 2 21)),
  (21, ce_li (ce_iload 1 22)),
  (22, ce_li (ce_iload 2 23)),
  (23, ce_li (ce_bin ce_subo 24))]
theorem tk_Jx4a65c_grow_92f84_0 : ∀ x ∈ tb_Jx4a65c_grow_92f84_0, P_Jx4a65c_grow_92f84 x.1 x.2 :=
  ce_fc (P := P_Jx4a65c_grow_92f84) (ok_li (ok_aload_n dJx4a65c_grow_92f84_0 rfl)) (
  ce_fc (P := P_Jx4a65c_grow_92f84) (ok_li (ok_getf (ci := 3) (k := 1) (C := RJx4a65c) (T := TJx4a65c) (N := 3) dJx4a65c_grow_92f84_1 rfl ce_uJx4a65c (by decide) gw_1505 (fun _ _ _ _ h => h))) (
  ce_fc (P := P_Jx4a65c_grow_92f84) (ok_li (ok_alen dJx4a65c_grow_92f84_4)) (
  ce_fc (P := P_Jx4a65c_grow_92f84) (ok_li (ok_istore_n dJx4a65c_grow_92f84_5 rfl)) (
  ce_fc (P := P_Jx4a65c_grow_92f84) (ok_li (ok_iload_n dJx4a65c_grow_92f84_6 rfl)) (
  ce_fc (P := P_Jx4a65c_grow_92f84) (ok_li (ok_if_gt dJx4a65c_grow_92f84_7 (by decide))) (
  ce_fc (P := P_Jx4a65c_grow_92f84) (ok_li (ok_aload_n dJx4a65c_grow_92f84_10 rfl)) (
  ce_fc (P := P_Jx4a65c_grow_92f84) (ok_li (ok_getf (ci := 3) (k := 1) (C := RJx4a65c) (T := TJx4a65c) (N := 3) dJx4a65c_grow_92f84_11 rfl ce_uJx4a65c (by decide) gw_1505 (fun _ _ _ _ h => h))) (
  ce_fc (P := P_Jx4a65c_grow_92f84) (ok_li (ok_gets (sv := (.inr (.inr (.inl (.inr 1))))) ce_z6 dJx4a65c_grow_92f84_14 gw_1503 rfl)) (
  ce_fc (P := P_Jx4a65c_grow_92f84) (ok_li (ok_acmp_eq dJx4a65c_grow_92f84_17 (by decide))) (
  ce_fc (P := P_Jx4a65c_grow_92f84) (ok_li (ok_iload_n dJx4a65c_grow_92f84_20 rfl)) (
  ce_fc (P := P_Jx4a65c_grow_92f84) (ok_li (ok_iload_n dJx4a65c_grow_92f84_21 rfl)) (
  ce_fc (P := P_Jx4a65c_grow_92f84) (ok_li (ok_iload_n dJx4a65c_grow_92f84_22 rfl)) (
  ce_fc (P := P_Jx4a65c_grow_92f84) (ok_li (ok_isub dJx4a65c_grow_92f84_23)) (
  ce_fn (P := P_Jx4a65c_grow_92f84)))))))))))))))
noncomputable def tb_Jx4a65c_grow_92f84_1 : List (Nat × ce_N) := [(24, ce_li (ce_iload 2 25)),
  (25, ce_li (ce_push (.inl (.inl (1))) 26)),
  (26, ce_li (ce_bin ce_shr 27)),
  (27, ce_call 3 0 0 30 (.inr true) F_J8_newLength_cabcc),
  (30, ce_li (ce_istore 3 31 4)),
  (31, ce_li (ce_aload 0 32)),
  (32, ce_li (ce_aload 0 33)),
  (33, ce_li (ce_getf 3 1 36)),
  (36, ce_li (ce_iload 3 37)),
  (37, ce_call 2 1 22 40 (.inr true) F_J7_copyOf_1904c),
  (40, ce_li (ce_dup_x1 41)),
  (41, ce_li (ce_putf (tyJx4a65c 1) 3 1 44)),
  (44, ce_reta),
  (45, ce_li (ce_aload 0 46))]
theorem tk_Jx4a65c_grow_92f84_1 : ∀ x ∈ tb_Jx4a65c_grow_92f84_1, P_Jx4a65c_grow_92f84 x.1 x.2 :=
  ce_fc (P := P_Jx4a65c_grow_92f84) (ok_li (ok_iload_n dJx4a65c_grow_92f84_24 rfl)) (
  ce_fc (P := P_Jx4a65c_grow_92f84) (ok_li (ok_iconst dJx4a65c_grow_92f84_25)) (
  ce_fc (P := P_Jx4a65c_grow_92f84) (ok_li (ok_ishr dJx4a65c_grow_92f84_26)) (
  ce_fc (P := P_Jx4a65c_grow_92f84) (ok_call (ru_S m_J8_newLength_cabcc (by decide) (by decide) gw_1728 gw_1726 gw_1727 gw_30 hp_J8_newLength_cabcc dJx4a65c_grow_92f84_27) ca_t) (
  ce_fc (P := P_Jx4a65c_grow_92f84) (ok_li (ok_istore_n dJx4a65c_grow_92f84_30 rfl)) (
  ce_fc (P := P_Jx4a65c_grow_92f84) (ok_li (ok_aload_n dJx4a65c_grow_92f84_31 rfl)) (
  ce_fc (P := P_Jx4a65c_grow_92f84) (ok_li (ok_aload_n dJx4a65c_grow_92f84_32 rfl)) (
  ce_fc (P := P_Jx4a65c_grow_92f84) (ok_li (ok_getf (ci := 3) (k := 1) (C := RJx4a65c) (T := TJx4a65c) (N := 3) dJx4a65c_grow_92f84_33 rfl ce_uJx4a65c (by decide) gw_1505 (fun _ _ _ _ h => h))) (
  ce_fc (P := P_Jx4a65c_grow_92f84) (ok_li (ok_iload_n dJx4a65c_grow_92f84_36 rfl)) (
  ce_fc (P := P_Jx4a65c_grow_92f84) (ok_call (ru_S m_J7_copyOf_1904c (by decide) (by decide) gw_1736 gw_1734 gw_1735 gw_31 hp_J7_copyOf_1904c dJx4a65c_grow_92f84_37) ca_t) (
  ce_fc (P := P_Jx4a65c_grow_92f84) (ok_li (ok_dup_x1 dJx4a65c_grow_92f84_40)) (
  ce_fc (P := P_Jx4a65c_grow_92f84) (ok_li (ok_putf (ci := 3) (k := 1) (C := RJx4a65c) (T := TJx4a65c) (N := 3) (ty0 := tyJx4a65c) dJx4a65c_grow_92f84_41 rfl ce_uJx4a65c (by decide) gw_1505 (fun _ _ _ _ h => h) tyJx4a65c_ok nmJx4a65c (Or.inl rfl))) (
  ce_fc (P := P_Jx4a65c_grow_92f84) (ok_reta dJx4a65c_grow_92f84_44 rfl (Or.inr ⟨_, rfl⟩)) (
  ce_fc (P := P_Jx4a65c_grow_92f84) (ok_li (ok_aload_n dJx4a65c_grow_92f84_45 rfl)) (
  ce_fn (P := P_Jx4a65c_grow_92f84)))))))))))))))
noncomputable def tb_Jx4a65c_grow_92f84_2 : List (Nat × ce_N) := [(46, ce_li (ce_push (.inl (.inl (10))) 48)),
  (48, ce_li (ce_iload 1 49)),
  (49, ce_li (ce_mm true 52)),
  (52, ce_li (ce_newa 6 3 55)),
  (55, ce_li (ce_dup_x1 56)),
  (56, ce_li (ce_putf (tyJx4a65c 1) 3 1 59)),
  (59, ce_reta)]
theorem tk_Jx4a65c_grow_92f84_2 : ∀ x ∈ tb_Jx4a65c_grow_92f84_2, P_Jx4a65c_grow_92f84 x.1 x.2 :=
  ce_fc (P := P_Jx4a65c_grow_92f84) (ok_li (ok_bipush dJx4a65c_grow_92f84_46 (by decide))) (
  ce_fc (P := P_Jx4a65c_grow_92f84) (ok_li (ok_iload_n dJx4a65c_grow_92f84_48 rfl)) (
  ce_fc (P := P_Jx4a65c_grow_92f84) (ok_li (ok_mmax dJx4a65c_grow_92f84_49 gw_1783 gw_593 gw_25 gw_594)) (
  ce_fc (P := P_Jx4a65c_grow_92f84) (ok_li (ok_newq (C := "java/lang/Object") (t := 6) dJx4a65c_grow_92f84_52 gw_1784 (by decide) (fun _ => rfl) (fun z ad n => ce_refs (by decide) (by decide) (by decide) z ad n))) (
  ce_fc (P := P_Jx4a65c_grow_92f84) (ok_li (ok_dup_x1 dJx4a65c_grow_92f84_55)) (
  ce_fc (P := P_Jx4a65c_grow_92f84) (ok_li (ok_putf (ci := 3) (k := 1) (C := RJx4a65c) (T := TJx4a65c) (N := 3) (ty0 := tyJx4a65c) dJx4a65c_grow_92f84_56 rfl ce_uJx4a65c (by decide) gw_1505 (fun _ _ _ _ h => h) tyJx4a65c_ok nmJx4a65c (Or.inl rfl))) (
  ce_fc (P := P_Jx4a65c_grow_92f84) (ok_reta dJx4a65c_grow_92f84_59 rfl (Or.inr ⟨_, rfl⟩)) (
  ce_fn (P := P_Jx4a65c_grow_92f84))))))))
noncomputable def ta_Jx4a65c_grow_92f84 : Nat → Option ce_N := (ce_tr 24 (ce_fd tb_Jx4a65c_grow_92f84_0) (ce_tr 46 (ce_fd tb_Jx4a65c_grow_92f84_1) (ce_fd tb_Jx4a65c_grow_92f84_2)))
theorem tx_Jx4a65c_grow_92f84 : ∀ pc f, ta_Jx4a65c_grow_92f84 pc = some f → P_Jx4a65c_grow_92f84 pc f := (ce_tr_ok (P := P_Jx4a65c_grow_92f84) (ce_fd_ok (P := P_Jx4a65c_grow_92f84) tk_Jx4a65c_grow_92f84_0) (ce_tr_ok (P := P_Jx4a65c_grow_92f84) (ce_fd_ok (P := P_Jx4a65c_grow_92f84) tk_Jx4a65c_grow_92f84_1) (ce_fd_ok (P := P_Jx4a65c_grow_92f84) tk_Jx4a65c_grow_92f84_2)))
noncomputable def F_Jx4a65c_grow_92f84 : ce_C := ce_M ta_Jx4a65c_grow_92f84 4 1 22 1000000
theorem m_Jx4a65c_grow_92f84 : ∀ l : Launch, l.stackTraces = false → ce_MS l yJx4a65c_grow_92f84 (.code yJx4a65c_grow_92f84 cJx4a65c_grow_92f84 4 (some (.array (.object "java/lang/Object")))) 2 1 22 F_Jx4a65c_grow_92f84 := fun l hl => ce_met hl (by decide +kernel) tx_Jx4a65c_grow_92f84
theorem hp_Jx4a65c_grow_92f84 : yJx4a65c_grow_92f84.cls ≠ "java/lang/invoke/MethodHandle" ∧ yJx4a65c_grow_92f84.cls ≠ "java/lang/invoke/VarHandle" ∧ (parseMethodDescriptor yJx4a65c_grow_92f84.desc).map (fun d => d.parameters.length) = some 1 := by decide +kernel
abbrev P_Jx4a65c_init_da8c8 : Nat → ce_N → Prop := ce_OKN "java/util/ArrayList" "<init>" cJx4a65c_init_da8c8 1 none 2 (some [])
noncomputable def tb_Jx4a65c_init_da8c8_0 : List (Nat × ce_N) := [(0, ce_li (ce_aload 0 1)),
  (1, ce_call 1 0 0 4 (.inr true) (ce_CI F_Jxc12de_init_da8c8)),
  (4, ce_li (ce_aload 0 5)),
  (5, ce_li (ce_push (.inr (.inr (.inl (.inr 1)))) 8)),
  (8, ce_li (ce_putf (tyJx4a65c 1) 3 1 11)),
  (11, ce_ret0)]
theorem tk_Jx4a65c_init_da8c8_0 : ∀ x ∈ tb_Jx4a65c_init_da8c8_0, P_Jx4a65c_init_da8c8 x.1 x.2 :=
  ce_fc (P := P_Jx4a65c_init_da8c8) (ok_li (ok_aload_n dJx4a65c_init_da8c8_0 rfl)) (
  ce_fc (P := P_Jx4a65c_init_da8c8) (ok_call (ru_I m_Jxc12de_init_da8c8 (by decide) (by decide) gw_1498 gw_1496 gw_1497 gw_15 rfl hp_Jxc12de_init_da8c8 dJx4a65c_init_da8c8_1) ca_t) (
  ce_fc (P := P_Jx4a65c_init_da8c8) (ok_li (ok_aload_n dJx4a65c_init_da8c8_4 rfl)) (
  ce_fc (P := P_Jx4a65c_init_da8c8) (ok_li (ok_gets (sv := (.inr (.inr (.inl (.inr 1))))) ce_z6 dJx4a65c_init_da8c8_5 gw_1503 rfl)) (
  ce_fc (P := P_Jx4a65c_init_da8c8) (ok_li (ok_putf (ci := 3) (k := 1) (C := RJx4a65c) (T := TJx4a65c) (N := 3) (ty0 := tyJx4a65c) dJx4a65c_init_da8c8_8 rfl ce_uJx4a65c (by decide) gw_1505 (fun _ _ _ _ h => h) tyJx4a65c_ok nmJx4a65c (Or.inl rfl))) (
  ce_fc (P := P_Jx4a65c_init_da8c8) (ok_ret0 dJx4a65c_init_da8c8_11 rfl) (
  ce_fn (P := P_Jx4a65c_init_da8c8)))))))
noncomputable def ta_Jx4a65c_init_da8c8 : Nat → Option ce_N := (ce_fd tb_Jx4a65c_init_da8c8_0)
theorem tx_Jx4a65c_init_da8c8 : ∀ pc f, ta_Jx4a65c_init_da8c8 pc = some f → P_Jx4a65c_init_da8c8 pc f := (ce_fd_ok (P := P_Jx4a65c_init_da8c8) tk_Jx4a65c_init_da8c8_0)
noncomputable def F_Jx4a65c_init_da8c8 : ce_C := ce_M ta_Jx4a65c_init_da8c8 1 0 0 1000000
theorem m_Jx4a65c_init_da8c8 : ∀ l : Launch, l.stackTraces = false → ce_MS l yJx4a65c_init_da8c8 (.code yJx4a65c_init_da8c8 cJx4a65c_init_da8c8 1 none) 2 0 0 F_Jx4a65c_init_da8c8 := fun l hl => ce_met hl (by decide +kernel) tx_Jx4a65c_init_da8c8
theorem hp_Jx4a65c_init_da8c8 : yJx4a65c_init_da8c8.cls ≠ "java/lang/invoke/MethodHandle" ∧ yJx4a65c_init_da8c8.cls ≠ "java/lang/invoke/VarHandle" ∧ (parseMethodDescriptor yJx4a65c_init_da8c8.desc).map (fun d => d.parameters.length) = some 0 := by decide +kernel
abbrev P_L_area : Nat → ce_N → Prop := ce_OKN "CarcasswrightLaw" "area" cL_area 4 (some .int) 2 (some [(0, 8, 11, 13)])
noncomputable def tb_L_area_0 : List (Nat × ce_N) := [(0, ce_li (ce_aload 2 1)),
  (1, ce_li (ce_push (.inl (.inl (0))) 2)),
  (2, ce_li (ce_aload 0 3)),
  (3, ce_li (ce_iload 1 4)),
  (4, ce_call 2 1 6 7 (.inl (0, 12, 3)) (ce_CV 15 F_X11_area)),
  (7, ce_li (ce_last 8)),
  (8, ce_li (ce_goto 14)),
  (12, ce_li (ce_push (.inl (.inl (1))) 13)),
  (13, ce_reti .int),
  (14, ce_li (ce_push (.inl (.inl (0))) 15)),
  (15, ce_reti .int)]
theorem tk_L_area_0 : ∀ x ∈ tb_L_area_0, P_L_area x.1 x.2 :=
  ce_fc (P := P_L_area) (ok_li (ok_aload_n dL_area_0 rfl)) (
  ce_fc (P := P_L_area) (ok_li (ok_iconst dL_area_1)) (
  ce_fc (P := P_L_area) (ok_li (ok_aload_n dL_area_2 rfl)) (
  ce_fc (P := P_L_area) (ok_li (ok_iload_n dL_area_3 rfl)) (
  ce_fc (P := P_L_area) (ok_call (ca := .inl (0, 12, 3)) (hh := some [(0, 8, 11, 13)]) (ru_V (ci := 15) (C := RX11) (Tf := TX11) (N := 7) m_X11_area (by decide) (by decide) rfl gw_1470 gw_1467 gw_1468 gw_1469 gw_1 ⟨rfl, hp_X11_area⟩ dL_area_4) (⟨_, _, _, (3 : Fin 4), rfl, rfl, by decide, by decide, gw_716, gn_0, Or.inl ⟨dL_area_11, rfl, rfl⟩, by decide⟩)) (
  ce_fc (P := P_L_area) (ok_li (ok_last dL_area_7)) (
  ce_fc (P := P_L_area) (ok_li (ok_goto dL_area_8 (by decide))) (
  ce_fc (P := P_L_area) (ok_li (ok_iconst dL_area_12)) (
  ce_fc (P := P_L_area) (ok_reti dL_area_13 rfl) (
  ce_fc (P := P_L_area) (ok_li (ok_iconst dL_area_14)) (
  ce_fc (P := P_L_area) (ok_reti dL_area_15 rfl) (
  ce_fn (P := P_L_area))))))))))))
noncomputable def ta_L_area : Nat → Option ce_N := (ce_fd tb_L_area_0)
theorem tx_L_area : ∀ pc f, ta_L_area pc = some f → P_L_area pc f := (ce_fd_ok (P := P_L_area) tk_L_area_0)
noncomputable def F_L_area : ce_C := ce_M ta_L_area 4 1 6 1000000
theorem m_L_area : ∀ l : Launch, l.stackTraces = false → ce_MS l yL_area (.codeWith yL_area cL_area 4 (some .int) [(0, 8, 11, 13)]) 2 1 6 F_L_area := fun l hl => ce_metW hl (by decide +kernel) tx_L_area
theorem hp_L_area : yL_area.cls ≠ "java/lang/invoke/MethodHandle" ∧ yL_area.cls ≠ "java/lang/invoke/VarHandle" ∧ (parseMethodDescriptor yL_area.desc).map (fun d => d.parameters.length) = some 3 := by decide +kernel
abbrev P_L_board : Nat → ce_N → Prop := ce_OKN "CarcasswrightLaw" "board" cL_board 5 (some .int) 2 (some [(0, 10, 13, 27), (0, 10, 17, 13)])
noncomputable def tb_L_board_0 : List (Nat × ce_N) := [(0, ce_li (ce_aload 3 1)),
  (1, ce_li (ce_push (.inl (.inl (0))) 2)),
  (2, ce_li (ce_aload 0 3)),
  (3, ce_li (ce_iload 1 4)),
  (4, ce_li (ce_iload 2 5)),
  (5, ce_call 3 1 6 8 (.inl (1, 15, 4)) (ce_CV 15 F_X11_board)),
  (15, ce_li (ce_push (.inl (.inl (1))) 16)),
  (16, ce_reti .int)]
theorem tk_L_board_0 : ∀ x ∈ tb_L_board_0, P_L_board x.1 x.2 :=
  ce_fc (P := P_L_board) (ok_li (ok_aload_n dL_board_0 rfl)) (
  ce_fc (P := P_L_board) (ok_li (ok_iconst dL_board_1)) (
  ce_fc (P := P_L_board) (ok_li (ok_aload_n dL_board_2 rfl)) (
  ce_fc (P := P_L_board) (ok_li (ok_iload_n dL_board_3 rfl)) (
  ce_fc (P := P_L_board) (ok_li (ok_iload_n dL_board_4 rfl)) (
  ce_fc (P := P_L_board) (ok_call (ca := .inl (1, 15, 4)) (hh := some [(0, 10, 13, 27), (0, 10, 17, 13)]) (ru_V (ci := 15) (C := RX11) (Tf := TX11) (N := 7) m_X11_board (by decide) (by decide) rfl gw_1230 gw_1227 gw_1228 gw_1229 gw_1 ⟨rfl, hp_X11_board⟩ dL_board_5) (⟨_, _, _, (0 : Fin 4), rfl, rfl, by decide, by decide, gw_810, gn_1, Or.inr ⟨dL_board_13, rfl⟩, by decide⟩)) (
  ce_fc (P := P_L_board) (ok_li (ok_iconst dL_board_15)) (
  ce_fc (P := P_L_board) (ok_reti dL_board_16 rfl) (
  ce_fn (P := P_L_board)))))))))
noncomputable def ta_L_board : Nat → Option ce_N := (ce_fd tb_L_board_0)
theorem tx_L_board : ∀ pc f, ta_L_board pc = some f → P_L_board pc f := (ce_fd_ok (P := P_L_board) tk_L_board_0)
noncomputable def F_L_board : ce_C := ce_M ta_L_board 5 1 6 1000000
theorem m_L_board : ∀ l : Launch, l.stackTraces = false → ce_MS l yL_board (.codeWith yL_board cL_board 5 (some .int) [(0, 10, 13, 27), (0, 10, 17, 13)]) 2 1 6 F_L_board := fun l hl => ce_metW hl (by decide +kernel) tx_L_board
theorem hp_L_board : yL_board.cls ≠ "java/lang/invoke/MethodHandle" ∧ yL_board.cls ≠ "java/lang/invoke/VarHandle" ∧ (parseMethodDescriptor yL_board.desc).map (fun d => d.parameters.length) = some 4 := by decide +kernel
abbrev P_L_change : Nat → ce_N → Prop := ce_OKN "CarcasswrightLaw" "change" cL_change 5 (some .int) 2 (some [(0, 10, 13, 27), (0, 10, 17, 21)])
noncomputable def tb_L_change_0 : List (Nat × ce_N) := [(0, ce_li (ce_aload 3 1)),
  (1, ce_li (ce_push (.inl (.inl (0))) 2)),
  (2, ce_li (ce_aload 0 3)),
  (3, ce_li (ce_iload 1 4)),
  (4, ce_li (ce_iload 2 5)),
  (5, ce_call 3 1 6 8 (.inl (1, 15, 4)) (ce_CV 15 F_X11_change)),
  (15, ce_li (ce_push (.inl (.inl (1))) 16)),
  (16, ce_reti .int)]
theorem tk_L_change_0 : ∀ x ∈ tb_L_change_0, P_L_change x.1 x.2 :=
  ce_fc (P := P_L_change) (ok_li (ok_aload_n dL_change_0 rfl)) (
  ce_fc (P := P_L_change) (ok_li (ok_iconst dL_change_1)) (
  ce_fc (P := P_L_change) (ok_li (ok_aload_n dL_change_2 rfl)) (
  ce_fc (P := P_L_change) (ok_li (ok_iload_n dL_change_3 rfl)) (
  ce_fc (P := P_L_change) (ok_li (ok_iload_n dL_change_4 rfl)) (
  ce_fc (P := P_L_change) (ok_call (ca := .inl (1, 15, 4)) (hh := some [(0, 10, 13, 27), (0, 10, 17, 21)]) (ru_V (ci := 15) (C := RX11) (Tf := TX11) (N := 7) m_X11_change (by decide) (by decide) rfl gw_1011 gw_1008 gw_1009 gw_1010 gw_1 ⟨rfl, hp_X11_change⟩ dL_change_5) (⟨_, _, _, (0 : Fin 4), rfl, rfl, by decide, by decide, gw_810, gn_1, Or.inr ⟨dL_change_13, rfl⟩, by decide⟩)) (
  ce_fc (P := P_L_change) (ok_li (ok_iconst dL_change_15)) (
  ce_fc (P := P_L_change) (ok_reti dL_change_16 rfl) (
  ce_fn (P := P_L_change)))))))))
noncomputable def ta_L_change : Nat → Option ce_N := (ce_fd tb_L_change_0)
theorem tx_L_change : ∀ pc f, ta_L_change pc = some f → P_L_change pc f := (ce_fd_ok (P := P_L_change) tk_L_change_0)
noncomputable def F_L_change : ce_C := ce_M ta_L_change 5 1 6 1000000
theorem m_L_change : ∀ l : Launch, l.stackTraces = false → ce_MS l yL_change (.codeWith yL_change cL_change 5 (some .int) [(0, 10, 13, 27), (0, 10, 17, 21)]) 2 1 6 F_L_change := fun l hl => ce_metW hl (by decide +kernel) tx_L_change
theorem hp_L_change : yL_change.cls ≠ "java/lang/invoke/MethodHandle" ∧ yL_change.cls ≠ "java/lang/invoke/VarHandle" ∧ (parseMethodDescriptor yL_change.desc).map (fun d => d.parameters.length) = some 4 := by decide +kernel
abbrev P_L_cut : Nat → ce_N → Prop := ce_OKN "CarcasswrightLaw" "cut" cL_cut 4 (some .int) 2 (some [(0, 9, 12, 27), (0, 9, 15, 44), (0, 9, 18, 21)])
noncomputable def tb_L_cut_0 : List (Nat × ce_N) := [(0, ce_li (ce_aload 2 1)),
  (1, ce_li (ce_push (.inl (.inl (0))) 2)),
  (2, ce_li (ce_aload 0 3)),
  (3, ce_li (ce_iload 1 4)),
  (4, ce_call 2 1 6 7 (.inl (1, 13, 3)) (ce_CV 15 F_X11_cut)),
  (13, ce_li (ce_push (.inl (.inl (1))) 14)),
  (14, ce_reti .int)]
theorem tk_L_cut_0 : ∀ x ∈ tb_L_cut_0, P_L_cut x.1 x.2 :=
  ce_fc (P := P_L_cut) (ok_li (ok_aload_n dL_cut_0 rfl)) (
  ce_fc (P := P_L_cut) (ok_li (ok_iconst dL_cut_1)) (
  ce_fc (P := P_L_cut) (ok_li (ok_aload_n dL_cut_2 rfl)) (
  ce_fc (P := P_L_cut) (ok_li (ok_iload_n dL_cut_3 rfl)) (
  ce_fc (P := P_L_cut) (ok_call (ca := .inl (1, 13, 3)) (hh := some [(0, 9, 12, 27), (0, 9, 15, 44), (0, 9, 18, 21)]) (ru_V (ci := 15) (C := RX11) (Tf := TX11) (N := 7) m_X11_cut (by decide) (by decide) rfl gw_1256 gw_1253 gw_1254 gw_1255 gw_1 ⟨rfl, hp_X11_cut⟩ dL_cut_4) (⟨_, _, _, (3 : Fin 4), rfl, rfl, by decide, by decide, gw_810, gn_1, Or.inl ⟨dL_cut_12, rfl, rfl⟩, by decide⟩)) (
  ce_fc (P := P_L_cut) (ok_li (ok_iconst dL_cut_13)) (
  ce_fc (P := P_L_cut) (ok_reti dL_cut_14 rfl) (
  ce_fn (P := P_L_cut))))))))
noncomputable def ta_L_cut : Nat → Option ce_N := (ce_fd tb_L_cut_0)
theorem tx_L_cut : ∀ pc f, ta_L_cut pc = some f → P_L_cut pc f := (ce_fd_ok (P := P_L_cut) tk_L_cut_0)
noncomputable def F_L_cut : ce_C := ce_M ta_L_cut 4 1 6 1000000
theorem m_L_cut : ∀ l : Launch, l.stackTraces = false → ce_MS l yL_cut (.codeWith yL_cut cL_cut 4 (some .int) [(0, 9, 12, 27), (0, 9, 15, 44), (0, 9, 18, 21)]) 2 1 6 F_L_cut := fun l hl => ce_metW hl (by decide +kernel) tx_L_cut
theorem hp_L_cut : yL_cut.cls ≠ "java/lang/invoke/MethodHandle" ∧ yL_cut.cls ≠ "java/lang/invoke/VarHandle" ∧ (parseMethodDescriptor yL_cut.desc).map (fun d => d.parameters.length) = some 3 := by decide +kernel
abbrev P_L_edged : Nat → ce_N → Prop := ce_OKN "CarcasswrightLaw" "edged" cL_edged 4 (some .int) 2 (some [(0, 9, 12, 13)])
noncomputable def tb_L_edged_0 : List (Nat × ce_N) := [(0, ce_li (ce_aload 2 1)),
  (1, ce_li (ce_push (.inl (.inl (0))) 2)),
  (2, ce_li (ce_aload 0 3)),
  (3, ce_li (ce_iload 1 4)),
  (4, ce_call 2 1 6 7 (.inl (0, 13, 3)) (ce_CV 15 F_X11_edged)),
  (7, ce_li (ce_i2l 8)),
  (8, ce_li (ce_last 9)),
  (9, ce_li (ce_goto 15)),
  (13, ce_li (ce_push (.inl (.inl (1))) 14)),
  (14, ce_reti .int),
  (15, ce_li (ce_push (.inl (.inl (0))) 16)),
  (16, ce_reti .int)]
theorem tk_L_edged_0 : ∀ x ∈ tb_L_edged_0, P_L_edged x.1 x.2 :=
  ce_fc (P := P_L_edged) (ok_li (ok_aload_n dL_edged_0 rfl)) (
  ce_fc (P := P_L_edged) (ok_li (ok_iconst dL_edged_1)) (
  ce_fc (P := P_L_edged) (ok_li (ok_aload_n dL_edged_2 rfl)) (
  ce_fc (P := P_L_edged) (ok_li (ok_iload_n dL_edged_3 rfl)) (
  ce_fc (P := P_L_edged) (ok_call (ca := .inl (0, 13, 3)) (hh := some [(0, 9, 12, 13)]) (ru_V (ci := 15) (C := RX11) (Tf := TX11) (N := 7) m_X11_edged (by decide) (by decide) rfl gw_1362 gw_1359 gw_1360 gw_1361 gw_1 ⟨rfl, hp_X11_edged⟩ dL_edged_4) (⟨_, _, _, (3 : Fin 4), rfl, rfl, by decide, by decide, gw_716, gn_0, Or.inl ⟨dL_edged_12, rfl, rfl⟩, by decide⟩)) (
  ce_fc (P := P_L_edged) (ok_li (ok_i2l dL_edged_7)) (
  ce_fc (P := P_L_edged) (ok_li (ok_last dL_edged_8)) (
  ce_fc (P := P_L_edged) (ok_li (ok_goto dL_edged_9 (by decide))) (
  ce_fc (P := P_L_edged) (ok_li (ok_iconst dL_edged_13)) (
  ce_fc (P := P_L_edged) (ok_reti dL_edged_14 rfl) (
  ce_fc (P := P_L_edged) (ok_li (ok_iconst dL_edged_15)) (
  ce_fc (P := P_L_edged) (ok_reti dL_edged_16 rfl) (
  ce_fn (P := P_L_edged)))))))))))))
noncomputable def ta_L_edged : Nat → Option ce_N := (ce_fd tb_L_edged_0)
theorem tx_L_edged : ∀ pc f, ta_L_edged pc = some f → P_L_edged pc f := (ce_fd_ok (P := P_L_edged) tk_L_edged_0)
noncomputable def F_L_edged : ce_C := ce_M ta_L_edged 4 1 6 1000000
theorem m_L_edged : ∀ l : Launch, l.stackTraces = false → ce_MS l yL_edged (.codeWith yL_edged cL_edged 4 (some .int) [(0, 9, 12, 13)]) 2 1 6 F_L_edged := fun l hl => ce_metW hl (by decide +kernel) tx_L_edged
theorem hp_L_edged : yL_edged.cls ≠ "java/lang/invoke/MethodHandle" ∧ yL_edged.cls ≠ "java/lang/invoke/VarHandle" ∧ (parseMethodDescriptor yL_edged.desc).map (fun d => d.parameters.length) = some 3 := by decide +kernel
abbrev P_L_from : Nat → ce_N → Prop := ce_OKN "CarcasswrightLaw" "from" cL_from 4 (some .int) 2 (some [(0, 9, 12, 27)])
noncomputable def tb_L_from_0 : List (Nat × ce_N) := [(0, ce_li (ce_aload 2 1)),
  (1, ce_li (ce_push (.inl (.inl (0))) 2)),
  (2, ce_li (ce_aload 0 3)),
  (3, ce_li (ce_iload 1 4)),
  (4, ce_call 2 1 6 7 (.inl (1, 13, 3)) (ce_CV 15 F_X11_from)),
  (13, ce_li (ce_push (.inl (.inl (1))) 14)),
  (14, ce_reti .int)]
theorem tk_L_from_0 : ∀ x ∈ tb_L_from_0, P_L_from x.1 x.2 :=
  ce_fc (P := P_L_from) (ok_li (ok_aload_n dL_from_0 rfl)) (
  ce_fc (P := P_L_from) (ok_li (ok_iconst dL_from_1)) (
  ce_fc (P := P_L_from) (ok_li (ok_aload_n dL_from_2 rfl)) (
  ce_fc (P := P_L_from) (ok_li (ok_iload_n dL_from_3 rfl)) (
  ce_fc (P := P_L_from) (ok_call (ca := .inl (1, 13, 3)) (hh := some [(0, 9, 12, 27)]) (ru_V (ci := 15) (C := RX11) (Tf := TX11) (N := 7) m_X11_from (by decide) (by decide) rfl gw_1045 gw_1042 gw_1043 gw_1044 gw_1 ⟨rfl, hp_X11_from⟩ dL_from_4) (⟨_, _, _, (3 : Fin 4), rfl, rfl, by decide, by decide, gw_810, gn_1, Or.inl ⟨dL_from_12, rfl, rfl⟩, by decide⟩)) (
  ce_fc (P := P_L_from) (ok_li (ok_iconst dL_from_13)) (
  ce_fc (P := P_L_from) (ok_reti dL_from_14 rfl) (
  ce_fn (P := P_L_from))))))))
noncomputable def ta_L_from : Nat → Option ce_N := (ce_fd tb_L_from_0)
theorem tx_L_from : ∀ pc f, ta_L_from pc = some f → P_L_from pc f := (ce_fd_ok (P := P_L_from) tk_L_from_0)
noncomputable def F_L_from : ce_C := ce_M ta_L_from 4 1 6 1000000
theorem m_L_from : ∀ l : Launch, l.stackTraces = false → ce_MS l yL_from (.codeWith yL_from cL_from 4 (some .int) [(0, 9, 12, 27)]) 2 1 6 F_L_from := fun l hl => ce_metW hl (by decide +kernel) tx_L_from
theorem hp_L_from : yL_from.cls ≠ "java/lang/invoke/MethodHandle" ∧ yL_from.cls ≠ "java/lang/invoke/VarHandle" ∧ (parseMethodDescriptor yL_from.desc).map (fun d => d.parameters.length) = some 3 := by decide +kernel
abbrev P_L_hinges : Nat → ce_N → Prop := ce_OKN "CarcasswrightLaw" "hinges" cL_hinges 4 (some .int) 2 (some [(0, 9, 12, 27)])
noncomputable def tb_L_hinges_0 : List (Nat × ce_N) := [(0, ce_li (ce_aload 2 1)),
  (1, ce_li (ce_push (.inl (.inl (0))) 2)),
  (2, ce_li (ce_aload 0 3)),
  (3, ce_li (ce_iload 1 4)),
  (4, ce_call 2 1 6 7 (.inl (1, 13, 3)) (ce_CV 15 F_X11_hinges)),
  (13, ce_li (ce_push (.inl (.inl (1))) 14)),
  (14, ce_reti .int)]
theorem tk_L_hinges_0 : ∀ x ∈ tb_L_hinges_0, P_L_hinges x.1 x.2 :=
  ce_fc (P := P_L_hinges) (ok_li (ok_aload_n dL_hinges_0 rfl)) (
  ce_fc (P := P_L_hinges) (ok_li (ok_iconst dL_hinges_1)) (
  ce_fc (P := P_L_hinges) (ok_li (ok_aload_n dL_hinges_2 rfl)) (
  ce_fc (P := P_L_hinges) (ok_li (ok_iload_n dL_hinges_3 rfl)) (
  ce_fc (P := P_L_hinges) (ok_call (ca := .inl (1, 13, 3)) (hh := some [(0, 9, 12, 27)]) (ru_V (ci := 15) (C := RX11) (Tf := TX11) (N := 7) m_X11_hinges (by decide) (by decide) rfl gw_1129 gw_1126 gw_1127 gw_1128 gw_1 ⟨rfl, hp_X11_hinges⟩ dL_hinges_4) (⟨_, _, _, (3 : Fin 4), rfl, rfl, by decide, by decide, gw_810, gn_1, Or.inl ⟨dL_hinges_12, rfl, rfl⟩, by decide⟩)) (
  ce_fc (P := P_L_hinges) (ok_li (ok_iconst dL_hinges_13)) (
  ce_fc (P := P_L_hinges) (ok_reti dL_hinges_14 rfl) (
  ce_fn (P := P_L_hinges))))))))
noncomputable def ta_L_hinges : Nat → Option ce_N := (ce_fd tb_L_hinges_0)
theorem tx_L_hinges : ∀ pc f, ta_L_hinges pc = some f → P_L_hinges pc f := (ce_fd_ok (P := P_L_hinges) tk_L_hinges_0)
noncomputable def F_L_hinges : ce_C := ce_M ta_L_hinges 4 1 6 1000000
theorem m_L_hinges : ∀ l : Launch, l.stackTraces = false → ce_MS l yL_hinges (.codeWith yL_hinges cL_hinges 4 (some .int) [(0, 9, 12, 27)]) 2 1 6 F_L_hinges := fun l hl => ce_metW hl (by decide +kernel) tx_L_hinges
theorem hp_L_hinges : yL_hinges.cls ≠ "java/lang/invoke/MethodHandle" ∧ yL_hinges.cls ≠ "java/lang/invoke/VarHandle" ∧ (parseMethodDescriptor yL_hinges.desc).map (fun d => d.parameters.length) = some 3 := by decide +kernel
abbrev P_L_job : Nat → ce_N → Prop := ce_OKN "CarcasswrightLaw" "job" cL_job 6 (some .int) 2 (some [(0, 12, 15, 13), (0, 12, 19, 15)])
noncomputable def tb_L_job_0 : List (Nat × ce_N) := [(0, ce_li (ce_aload 4 2)),
  (2, ce_li (ce_push (.inl (.inl (0))) 3)),
  (3, ce_li (ce_aload 0 4)),
  (4, ce_li (ce_iload 1 5)),
  (5, ce_li (ce_iload 2 6)),
  (6, ce_li (ce_iload 3 7)),
  (7, ce_call 4 1 6 10 (.inl (0, 17, 5)) (ce_CV 15 F_X11_job)),
  (10, ce_li (ce_i2l 11)),
  (11, ce_li (ce_last 12)),
  (12, ce_li (ce_goto 23)),
  (17, ce_li (ce_push (.inl (.inl (1))) 18)),
  (18, ce_reti .int),
  (23, ce_li (ce_push (.inl (.inl (0))) 24)),
  (24, ce_reti .int)]
theorem tk_L_job_0 : ∀ x ∈ tb_L_job_0, P_L_job x.1 x.2 :=
  ce_fc (P := P_L_job) (ok_li (ok_aload dL_job_0)) (
  ce_fc (P := P_L_job) (ok_li (ok_iconst dL_job_2)) (
  ce_fc (P := P_L_job) (ok_li (ok_aload_n dL_job_3 rfl)) (
  ce_fc (P := P_L_job) (ok_li (ok_iload_n dL_job_4 rfl)) (
  ce_fc (P := P_L_job) (ok_li (ok_iload_n dL_job_5 rfl)) (
  ce_fc (P := P_L_job) (ok_li (ok_iload_n dL_job_6 rfl)) (
  ce_fc (P := P_L_job) (ok_call (ca := .inl (0, 17, 5)) (hh := some [(0, 12, 15, 13), (0, 12, 19, 15)]) (ru_V (ci := 15) (C := RX11) (Tf := TX11) (N := 7) m_X11_job (by decide) (by decide) rfl gw_1445 gw_1442 gw_1443 gw_1444 gw_1 ⟨rfl, hp_X11_job⟩ dL_job_7) (⟨_, _, _, (0 : Fin 4), rfl, rfl, by decide, by decide, gw_716, gn_0, Or.inr ⟨dL_job_15, rfl⟩, by decide⟩)) (
  ce_fc (P := P_L_job) (ok_li (ok_i2l dL_job_10)) (
  ce_fc (P := P_L_job) (ok_li (ok_last dL_job_11)) (
  ce_fc (P := P_L_job) (ok_li (ok_goto dL_job_12 (by decide))) (
  ce_fc (P := P_L_job) (ok_li (ok_iconst dL_job_17)) (
  ce_fc (P := P_L_job) (ok_reti dL_job_18 rfl) (
  ce_fc (P := P_L_job) (ok_li (ok_iconst dL_job_23)) (
  ce_fc (P := P_L_job) (ok_reti dL_job_24 rfl) (
  ce_fn (P := P_L_job)))))))))))))))
noncomputable def ta_L_job : Nat → Option ce_N := (ce_fd tb_L_job_0)
theorem tx_L_job : ∀ pc f, ta_L_job pc = some f → P_L_job pc f := (ce_fd_ok (P := P_L_job) tk_L_job_0)
noncomputable def F_L_job : ce_C := ce_M ta_L_job 6 1 6 1000000
theorem m_L_job : ∀ l : Launch, l.stackTraces = false → ce_MS l yL_job (.codeWith yL_job cL_job 6 (some .int) [(0, 12, 15, 13), (0, 12, 19, 15)]) 2 1 6 F_L_job := fun l hl => ce_metW hl (by decide +kernel) tx_L_job
theorem hp_L_job : yL_job.cls ≠ "java/lang/invoke/MethodHandle" ∧ yL_job.cls ≠ "java/lang/invoke/VarHandle" ∧ (parseMethodDescriptor yL_job.desc).map (fun d => d.parameters.length) = some 5 := by decide +kernel
abbrev P_L_lengthOf : Nat → ce_N → Prop := ce_OKN "CarcasswrightLaw" "lengthOf" cL_lengthOf 4 (some .int) 2 (some [(0, 9, 12, 27)])
noncomputable def tb_L_lengthOf_0 : List (Nat × ce_N) := [(0, ce_li (ce_aload 2 1)),
  (1, ce_li (ce_push (.inl (.inl (0))) 2)),
  (2, ce_li (ce_aload 0 3)),
  (3, ce_li (ce_iload 1 4)),
  (4, ce_call 2 1 6 7 (.inl (1, 13, 3)) (ce_CV 15 F_X11_lengthOf)),
  (13, ce_li (ce_push (.inl (.inl (1))) 14)),
  (14, ce_reti .int)]
theorem tk_L_lengthOf_0 : ∀ x ∈ tb_L_lengthOf_0, P_L_lengthOf x.1 x.2 :=
  ce_fc (P := P_L_lengthOf) (ok_li (ok_aload_n dL_lengthOf_0 rfl)) (
  ce_fc (P := P_L_lengthOf) (ok_li (ok_iconst dL_lengthOf_1)) (
  ce_fc (P := P_L_lengthOf) (ok_li (ok_aload_n dL_lengthOf_2 rfl)) (
  ce_fc (P := P_L_lengthOf) (ok_li (ok_iload_n dL_lengthOf_3 rfl)) (
  ce_fc (P := P_L_lengthOf) (ok_call (ca := .inl (1, 13, 3)) (hh := some [(0, 9, 12, 27)]) (ru_V (ci := 15) (C := RX11) (Tf := TX11) (N := 7) m_X11_lengthOf (by decide) (by decide) rfl gw_814 gw_811 gw_812 gw_813 gw_1 ⟨rfl, hp_X11_lengthOf⟩ dL_lengthOf_4) (⟨_, _, _, (3 : Fin 4), rfl, rfl, by decide, by decide, gw_810, gn_1, Or.inl ⟨dL_lengthOf_12, rfl, rfl⟩, by decide⟩)) (
  ce_fc (P := P_L_lengthOf) (ok_li (ok_iconst dL_lengthOf_13)) (
  ce_fc (P := P_L_lengthOf) (ok_reti dL_lengthOf_14 rfl) (
  ce_fn (P := P_L_lengthOf))))))))
noncomputable def ta_L_lengthOf : Nat → Option ce_N := (ce_fd tb_L_lengthOf_0)
theorem tx_L_lengthOf : ∀ pc f, ta_L_lengthOf pc = some f → P_L_lengthOf pc f := (ce_fd_ok (P := P_L_lengthOf) tk_L_lengthOf_0)
noncomputable def F_L_lengthOf : ce_C := ce_M ta_L_lengthOf 4 1 6 1000000
theorem m_L_lengthOf : ∀ l : Launch, l.stackTraces = false → ce_MS l yL_lengthOf (.codeWith yL_lengthOf cL_lengthOf 4 (some .int) [(0, 9, 12, 27)]) 2 1 6 F_L_lengthOf := fun l hl => ce_metW hl (by decide +kernel) tx_L_lengthOf
theorem hp_L_lengthOf : yL_lengthOf.cls ≠ "java/lang/invoke/MethodHandle" ∧ yL_lengthOf.cls ≠ "java/lang/invoke/VarHandle" ∧ (parseMethodDescriptor yL_lengthOf.desc).map (fun d => d.parameters.length) = some 3 := by decide +kernel
abbrev P_L_obstacle : Nat → ce_N → Prop := ce_OKN "CarcasswrightLaw" "obstacle" cL_obstacle 8 (some .int) 2 (some [(0, 16, 19, 27), (0, 16, 23, 13), (0, 16, 27, 15)])
noncomputable def tb_L_obstacle_0 : List (Nat × ce_N) := [(0, ce_li (ce_aload 6 2)),
  (2, ce_li (ce_push (.inl (.inl (0))) 3)),
  (3, ce_li (ce_aload 0 4)),
  (4, ce_li (ce_iload 1 5)),
  (5, ce_li (ce_iload 2 6)),
  (6, ce_li (ce_iload 3 7)),
  (7, ce_li (ce_iload 4 9)),
  (9, ce_li (ce_iload 5 11)),
  (11, ce_call 6 1 6 14 (.inl (1, 21, 7)) (ce_CV 15 F_X11_obstacle)),
  (21, ce_li (ce_push (.inl (.inl (1))) 22)),
  (22, ce_reti .int)]
theorem tk_L_obstacle_0 : ∀ x ∈ tb_L_obstacle_0, P_L_obstacle x.1 x.2 :=
  ce_fc (P := P_L_obstacle) (ok_li (ok_aload dL_obstacle_0)) (
  ce_fc (P := P_L_obstacle) (ok_li (ok_iconst dL_obstacle_2)) (
  ce_fc (P := P_L_obstacle) (ok_li (ok_aload_n dL_obstacle_3 rfl)) (
  ce_fc (P := P_L_obstacle) (ok_li (ok_iload_n dL_obstacle_4 rfl)) (
  ce_fc (P := P_L_obstacle) (ok_li (ok_iload_n dL_obstacle_5 rfl)) (
  ce_fc (P := P_L_obstacle) (ok_li (ok_iload_n dL_obstacle_6 rfl)) (
  ce_fc (P := P_L_obstacle) (ok_li (ok_iload dL_obstacle_7)) (
  ce_fc (P := P_L_obstacle) (ok_li (ok_iload dL_obstacle_9)) (
  ce_fc (P := P_L_obstacle) (ok_call (ca := .inl (1, 21, 7)) (hh := some [(0, 16, 19, 27), (0, 16, 23, 13), (0, 16, 27, 15)]) (ru_V (ci := 15) (C := RX11) (Tf := TX11) (N := 7) m_X11_obstacle (by decide) (by decide) rfl gw_829 gw_826 gw_827 gw_828 gw_1 ⟨rfl, hp_X11_obstacle⟩ dL_obstacle_11) (⟨_, _, _, (0 : Fin 4), rfl, rfl, by decide, by decide, gw_810, gn_1, Or.inr ⟨dL_obstacle_19, rfl⟩, by decide⟩)) (
  ce_fc (P := P_L_obstacle) (ok_li (ok_iconst dL_obstacle_21)) (
  ce_fc (P := P_L_obstacle) (ok_reti dL_obstacle_22 rfl) (
  ce_fn (P := P_L_obstacle))))))))))))
noncomputable def ta_L_obstacle : Nat → Option ce_N := (ce_fd tb_L_obstacle_0)
theorem tx_L_obstacle : ∀ pc f, ta_L_obstacle pc = some f → P_L_obstacle pc f := (ce_fd_ok (P := P_L_obstacle) tk_L_obstacle_0)
noncomputable def F_L_obstacle : ce_C := ce_M ta_L_obstacle 8 1 6 1000000
theorem m_L_obstacle : ∀ l : Launch, l.stackTraces = false → ce_MS l yL_obstacle (.codeWith yL_obstacle cL_obstacle 8 (some .int) [(0, 16, 19, 27), (0, 16, 23, 13), (0, 16, 27, 15)]) 2 1 6 F_L_obstacle := fun l hl => ce_metW hl (by decide +kernel) tx_L_obstacle
theorem hp_L_obstacle : yL_obstacle.cls ≠ "java/lang/invoke/MethodHandle" ∧ yL_obstacle.cls ≠ "java/lang/invoke/VarHandle" ∧ (parseMethodDescriptor yL_obstacle.desc).map (fun d => d.parameters.length) = some 7 := by decide +kernel
abbrev P_L_packs : Nat → ce_N → Prop := ce_OKN "CarcasswrightLaw" "packs" cL_packs 5 (some .int) 2 (some [(0, 10, 13, 27), (0, 10, 17, 13), (0, 10, 21, 21)])
noncomputable def tb_L_packs_0 : List (Nat × ce_N) := [(0, ce_li (ce_aload 3 1)),
  (1, ce_li (ce_push (.inl (.inl (0))) 2)),
  (2, ce_li (ce_aload 0 3)),
  (3, ce_li (ce_iload 1 4)),
  (4, ce_li (ce_iload 2 5)),
  (5, ce_call 3 1 6 8 (.inl (1, 15, 4)) (ce_CV 15 F_X11_packs)),
  (15, ce_li (ce_push (.inl (.inl (1))) 16)),
  (16, ce_reti .int)]
theorem tk_L_packs_0 : ∀ x ∈ tb_L_packs_0, P_L_packs x.1 x.2 :=
  ce_fc (P := P_L_packs) (ok_li (ok_aload_n dL_packs_0 rfl)) (
  ce_fc (P := P_L_packs) (ok_li (ok_iconst dL_packs_1)) (
  ce_fc (P := P_L_packs) (ok_li (ok_aload_n dL_packs_2 rfl)) (
  ce_fc (P := P_L_packs) (ok_li (ok_iload_n dL_packs_3 rfl)) (
  ce_fc (P := P_L_packs) (ok_li (ok_iload_n dL_packs_4 rfl)) (
  ce_fc (P := P_L_packs) (ok_call (ca := .inl (1, 15, 4)) (hh := some [(0, 10, 13, 27), (0, 10, 17, 13), (0, 10, 21, 21)]) (ru_V (ci := 15) (C := RX11) (Tf := TX11) (N := 7) m_X11_packs (by decide) (by decide) rfl gw_1400 gw_1397 gw_1398 gw_1399 gw_1 ⟨rfl, hp_X11_packs⟩ dL_packs_5) (⟨_, _, _, (0 : Fin 4), rfl, rfl, by decide, by decide, gw_810, gn_1, Or.inr ⟨dL_packs_13, rfl⟩, by decide⟩)) (
  ce_fc (P := P_L_packs) (ok_li (ok_iconst dL_packs_15)) (
  ce_fc (P := P_L_packs) (ok_reti dL_packs_16 rfl) (
  ce_fn (P := P_L_packs)))))))))
noncomputable def ta_L_packs : Nat → Option ce_N := (ce_fd tb_L_packs_0)
theorem tx_L_packs : ∀ pc f, ta_L_packs pc = some f → P_L_packs pc f := (ce_fd_ok (P := P_L_packs) tk_L_packs_0)
noncomputable def F_L_packs : ce_C := ce_M ta_L_packs 5 1 6 1000000
theorem m_L_packs : ∀ l : Launch, l.stackTraces = false → ce_MS l yL_packs (.codeWith yL_packs cL_packs 5 (some .int) [(0, 10, 13, 27), (0, 10, 17, 13), (0, 10, 21, 21)]) 2 1 6 F_L_packs := fun l hl => ce_metW hl (by decide +kernel) tx_L_packs
theorem hp_L_packs : yL_packs.cls ≠ "java/lang/invoke/MethodHandle" ∧ yL_packs.cls ≠ "java/lang/invoke/VarHandle" ∧ (parseMethodDescriptor yL_packs.desc).map (fun d => d.parameters.length) = some 4 := by decide +kernel
abbrev P_L_parts : Nat → ce_N → Prop := ce_OKN "CarcasswrightLaw" "parts" cL_parts 4 (some .int) 2 (some [(0, 9, 12, 27)])
noncomputable def tb_L_parts_0 : List (Nat × ce_N) := [(0, ce_li (ce_aload 2 1)),
  (1, ce_li (ce_push (.inl (.inl (0))) 2)),
  (2, ce_li (ce_aload 0 3)),
  (3, ce_li (ce_iload 1 4)),
  (4, ce_call 2 1 6 7 (.inl (1, 13, 3)) (ce_CV 15 F_X11_parts)),
  (13, ce_li (ce_push (.inl (.inl (1))) 14)),
  (14, ce_reti .int)]
theorem tk_L_parts_0 : ∀ x ∈ tb_L_parts_0, P_L_parts x.1 x.2 :=
  ce_fc (P := P_L_parts) (ok_li (ok_aload_n dL_parts_0 rfl)) (
  ce_fc (P := P_L_parts) (ok_li (ok_iconst dL_parts_1)) (
  ce_fc (P := P_L_parts) (ok_li (ok_aload_n dL_parts_2 rfl)) (
  ce_fc (P := P_L_parts) (ok_li (ok_iload_n dL_parts_3 rfl)) (
  ce_fc (P := P_L_parts) (ok_call (ca := .inl (1, 13, 3)) (hh := some [(0, 9, 12, 27)]) (ru_V (ci := 15) (C := RX11) (Tf := TX11) (N := 7) m_X11_parts (by decide) (by decide) rfl gw_1074 gw_1071 gw_1072 gw_1073 gw_1 ⟨rfl, hp_X11_parts⟩ dL_parts_4) (⟨_, _, _, (3 : Fin 4), rfl, rfl, by decide, by decide, gw_810, gn_1, Or.inl ⟨dL_parts_12, rfl, rfl⟩, by decide⟩)) (
  ce_fc (P := P_L_parts) (ok_li (ok_iconst dL_parts_13)) (
  ce_fc (P := P_L_parts) (ok_reti dL_parts_14 rfl) (
  ce_fn (P := P_L_parts))))))))
noncomputable def ta_L_parts : Nat → Option ce_N := (ce_fd tb_L_parts_0)
theorem tx_L_parts : ∀ pc f, ta_L_parts pc = some f → P_L_parts pc f := (ce_fd_ok (P := P_L_parts) tk_L_parts_0)
noncomputable def F_L_parts : ce_C := ce_M ta_L_parts 4 1 6 1000000
theorem m_L_parts : ∀ l : Launch, l.stackTraces = false → ce_MS l yL_parts (.codeWith yL_parts cL_parts 4 (some .int) [(0, 9, 12, 27)]) 2 1 6 F_L_parts := fun l hl => ce_metW hl (by decide +kernel) tx_L_parts
theorem hp_L_parts : yL_parts.cls ≠ "java/lang/invoke/MethodHandle" ∧ yL_parts.cls ≠ "java/lang/invoke/VarHandle" ∧ (parseMethodDescriptor yL_parts.desc).map (fun d => d.parameters.length) = some 3 := by decide +kernel
abbrev P_L_place : Nat → ce_N → Prop := ce_OKN "CarcasswrightLaw" "place" cL_place 7 (some .int) 2 (some [(0, 14, 17, 27), (0, 14, 21, 13), (0, 14, 25, 15), (0, 14, 29, 21)])
noncomputable def tb_L_place_0 : List (Nat × ce_N) := [(0, ce_li (ce_aload 5 2)),
  (2, ce_li (ce_push (.inl (.inl (0))) 3)),
  (3, ce_li (ce_aload 0 4)),
  (4, ce_li (ce_iload 1 5)),
  (5, ce_li (ce_iload 2 6)),
  (6, ce_li (ce_iload 3 7)),
  (7, ce_li (ce_iload 4 9)),
  (9, ce_call 5 1 6 12 (.inl (1, 19, 6)) (ce_CV 15 F_X11_place)),
  (19, ce_li (ce_push (.inl (.inl (1))) 20)),
  (20, ce_reti .int)]
theorem tk_L_place_0 : ∀ x ∈ tb_L_place_0, P_L_place x.1 x.2 :=
  ce_fc (P := P_L_place) (ok_li (ok_aload dL_place_0)) (
  ce_fc (P := P_L_place) (ok_li (ok_iconst dL_place_2)) (
  ce_fc (P := P_L_place) (ok_li (ok_aload_n dL_place_3 rfl)) (
  ce_fc (P := P_L_place) (ok_li (ok_iload_n dL_place_4 rfl)) (
  ce_fc (P := P_L_place) (ok_li (ok_iload_n dL_place_5 rfl)) (
  ce_fc (P := P_L_place) (ok_li (ok_iload_n dL_place_6 rfl)) (
  ce_fc (P := P_L_place) (ok_li (ok_iload dL_place_7)) (
  ce_fc (P := P_L_place) (ok_call (ca := .inl (1, 19, 6)) (hh := some [(0, 14, 17, 27), (0, 14, 21, 13), (0, 14, 25, 15), (0, 14, 29, 21)]) (ru_V (ci := 15) (C := RX11) (Tf := TX11) (N := 7) m_X11_place (by decide) (by decide) rfl gw_960 gw_957 gw_958 gw_959 gw_1 ⟨rfl, hp_X11_place⟩ dL_place_9) (⟨_, _, _, (0 : Fin 4), rfl, rfl, by decide, by decide, gw_810, gn_1, Or.inr ⟨dL_place_17, rfl⟩, by decide⟩)) (
  ce_fc (P := P_L_place) (ok_li (ok_iconst dL_place_19)) (
  ce_fc (P := P_L_place) (ok_reti dL_place_20 rfl) (
  ce_fn (P := P_L_place)))))))))))
noncomputable def ta_L_place : Nat → Option ce_N := (ce_fd tb_L_place_0)
theorem tx_L_place : ∀ pc f, ta_L_place pc = some f → P_L_place pc f := (ce_fd_ok (P := P_L_place) tk_L_place_0)
noncomputable def F_L_place : ce_C := ce_M ta_L_place 7 1 6 1000000
theorem m_L_place : ∀ l : Launch, l.stackTraces = false → ce_MS l yL_place (.codeWith yL_place cL_place 7 (some .int) [(0, 14, 17, 27), (0, 14, 21, 13), (0, 14, 25, 15), (0, 14, 29, 21)]) 2 1 6 F_L_place := fun l hl => ce_metW hl (by decide +kernel) tx_L_place
theorem hp_L_place : yL_place.cls ≠ "java/lang/invoke/MethodHandle" ∧ yL_place.cls ≠ "java/lang/invoke/VarHandle" ∧ (parseMethodDescriptor yL_place.desc).map (fun d => d.parameters.length) = some 6 := by decide +kernel
abbrev P_L_price : Nat → ce_N → Prop := ce_OKN "CarcasswrightLaw" "price" cL_price 4 (some .int) 2 (some [(0, 9, 12, 27)])
noncomputable def tb_L_price_0 : List (Nat × ce_N) := [(0, ce_li (ce_aload 2 1)),
  (1, ce_li (ce_push (.inl (.inl (0))) 2)),
  (2, ce_li (ce_aload 0 3)),
  (3, ce_li (ce_iload 1 4)),
  (4, ce_call 2 1 6 7 (.inl (1, 13, 3)) (ce_CV 15 F_X11_price)),
  (13, ce_li (ce_push (.inl (.inl (1))) 14)),
  (14, ce_reti .int)]
theorem tk_L_price_0 : ∀ x ∈ tb_L_price_0, P_L_price x.1 x.2 :=
  ce_fc (P := P_L_price) (ok_li (ok_aload_n dL_price_0 rfl)) (
  ce_fc (P := P_L_price) (ok_li (ok_iconst dL_price_1)) (
  ce_fc (P := P_L_price) (ok_li (ok_aload_n dL_price_2 rfl)) (
  ce_fc (P := P_L_price) (ok_li (ok_iload_n dL_price_3 rfl)) (
  ce_fc (P := P_L_price) (ok_call (ca := .inl (1, 13, 3)) (hh := some [(0, 9, 12, 27)]) (ru_V (ci := 15) (C := RX11) (Tf := TX11) (N := 7) m_X11_price (by decide) (by decide) rfl gw_1387 gw_1384 gw_1385 gw_1386 gw_1 ⟨rfl, hp_X11_price⟩ dL_price_4) (⟨_, _, _, (3 : Fin 4), rfl, rfl, by decide, by decide, gw_810, gn_1, Or.inl ⟨dL_price_12, rfl, rfl⟩, by decide⟩)) (
  ce_fc (P := P_L_price) (ok_li (ok_iconst dL_price_13)) (
  ce_fc (P := P_L_price) (ok_reti dL_price_14 rfl) (
  ce_fn (P := P_L_price))))))))
noncomputable def ta_L_price : Nat → Option ce_N := (ce_fd tb_L_price_0)
theorem tx_L_price : ∀ pc f, ta_L_price pc = some f → P_L_price pc f := (ce_fd_ok (P := P_L_price) tk_L_price_0)
noncomputable def F_L_price : ce_C := ce_M ta_L_price 4 1 6 1000000
theorem m_L_price : ∀ l : Launch, l.stackTraces = false → ce_MS l yL_price (.codeWith yL_price cL_price 4 (some .int) [(0, 9, 12, 27)]) 2 1 6 F_L_price := fun l hl => ce_metW hl (by decide +kernel) tx_L_price
theorem hp_L_price : yL_price.cls ≠ "java/lang/invoke/MethodHandle" ∧ yL_price.cls ≠ "java/lang/invoke/VarHandle" ∧ (parseMethodDescriptor yL_price.desc).map (fun d => d.parameters.length) = some 3 := by decide +kernel
abbrev P_L_setOff : Nat → ce_N → Prop := ce_OKN "CarcasswrightLaw" "setOff" cL_setOff 6 (some .int) 2 (some [(0, 12, 15, 27), (0, 12, 19, 13)])
noncomputable def tb_L_setOff_0 : List (Nat × ce_N) := [(0, ce_li (ce_aload 4 2)),
  (2, ce_li (ce_push (.inl (.inl (0))) 3)),
  (3, ce_li (ce_aload 0 4)),
  (4, ce_li (ce_iload 1 5)),
  (5, ce_li (ce_iload 2 6)),
  (6, ce_li (ce_iload 3 7)),
  (7, ce_call 4 1 6 10 (.inl (1, 17, 5)) (ce_CV 15 F_X11_setOff)),
  (17, ce_li (ce_push (.inl (.inl (1))) 18)),
  (18, ce_reti .int)]
theorem tk_L_setOff_0 : ∀ x ∈ tb_L_setOff_0, P_L_setOff x.1 x.2 :=
  ce_fc (P := P_L_setOff) (ok_li (ok_aload dL_setOff_0)) (
  ce_fc (P := P_L_setOff) (ok_li (ok_iconst dL_setOff_2)) (
  ce_fc (P := P_L_setOff) (ok_li (ok_aload_n dL_setOff_3 rfl)) (
  ce_fc (P := P_L_setOff) (ok_li (ok_iload_n dL_setOff_4 rfl)) (
  ce_fc (P := P_L_setOff) (ok_li (ok_iload_n dL_setOff_5 rfl)) (
  ce_fc (P := P_L_setOff) (ok_li (ok_iload_n dL_setOff_6 rfl)) (
  ce_fc (P := P_L_setOff) (ok_call (ca := .inl (1, 17, 5)) (hh := some [(0, 12, 15, 27), (0, 12, 19, 13)]) (ru_V (ci := 15) (C := RX11) (Tf := TX11) (N := 7) m_X11_setOff (by decide) (by decide) rfl gw_822 gw_819 gw_820 gw_821 gw_1 ⟨rfl, hp_X11_setOff⟩ dL_setOff_7) (⟨_, _, _, (0 : Fin 4), rfl, rfl, by decide, by decide, gw_810, gn_1, Or.inr ⟨dL_setOff_15, rfl⟩, by decide⟩)) (
  ce_fc (P := P_L_setOff) (ok_li (ok_iconst dL_setOff_17)) (
  ce_fc (P := P_L_setOff) (ok_reti dL_setOff_18 rfl) (
  ce_fn (P := P_L_setOff))))))))))
noncomputable def ta_L_setOff : Nat → Option ce_N := (ce_fd tb_L_setOff_0)
theorem tx_L_setOff : ∀ pc f, ta_L_setOff pc = some f → P_L_setOff pc f := (ce_fd_ok (P := P_L_setOff) tk_L_setOff_0)
noncomputable def F_L_setOff : ce_C := ce_M ta_L_setOff 6 1 6 1000000
theorem m_L_setOff : ∀ l : Launch, l.stackTraces = false → ce_MS l yL_setOff (.codeWith yL_setOff cL_setOff 6 (some .int) [(0, 12, 15, 27), (0, 12, 19, 13)]) 2 1 6 F_L_setOff := fun l hl => ce_metW hl (by decide +kernel) tx_L_setOff
theorem hp_L_setOff : yL_setOff.cls ≠ "java/lang/invoke/MethodHandle" ∧ yL_setOff.cls ≠ "java/lang/invoke/VarHandle" ∧ (parseMethodDescriptor yL_setOff.desc).map (fun d => d.parameters.length) = some 5 := by decide +kernel
abbrev P_L_setRate : Nat → ce_N → Prop := ce_OKN "CarcasswrightLaw" "setRate" cL_setRate 5 (some .int) 2 (some [(0, 10, 13, 13)])
noncomputable def tb_L_setRate_0 : List (Nat × ce_N) := [(0, ce_li (ce_aload 3 1)),
  (1, ce_li (ce_push (.inl (.inl (0))) 2)),
  (2, ce_li (ce_aload 0 3)),
  (3, ce_li (ce_iload 1 4)),
  (4, ce_li (ce_iload 2 5)),
  (5, ce_call 3 1 6 8 (.inl (0, 15, 4)) (ce_CV 15 F_X11_setRate)),
  (8, ce_li (ce_i2l 9)),
  (9, ce_li (ce_last 10)),
  (10, ce_li (ce_goto 17)),
  (15, ce_li (ce_push (.inl (.inl (1))) 16)),
  (16, ce_reti .int),
  (17, ce_li (ce_push (.inl (.inl (0))) 18)),
  (18, ce_reti .int)]
theorem tk_L_setRate_0 : ∀ x ∈ tb_L_setRate_0, P_L_setRate x.1 x.2 :=
  ce_fc (P := P_L_setRate) (ok_li (ok_aload_n dL_setRate_0 rfl)) (
  ce_fc (P := P_L_setRate) (ok_li (ok_iconst dL_setRate_1)) (
  ce_fc (P := P_L_setRate) (ok_li (ok_aload_n dL_setRate_2 rfl)) (
  ce_fc (P := P_L_setRate) (ok_li (ok_iload_n dL_setRate_3 rfl)) (
  ce_fc (P := P_L_setRate) (ok_li (ok_iload_n dL_setRate_4 rfl)) (
  ce_fc (P := P_L_setRate) (ok_call (ca := .inl (0, 15, 4)) (hh := some [(0, 10, 13, 13)]) (ru_V (ci := 15) (C := RX11) (Tf := TX11) (N := 7) m_X11_setRate (by decide) (by decide) rfl gw_1380 gw_1377 gw_1378 gw_1379 gw_1 ⟨rfl, hp_X11_setRate⟩ dL_setRate_5) (⟨_, _, _, (0 : Fin 4), rfl, rfl, by decide, by decide, gw_716, gn_0, Or.inr ⟨dL_setRate_13, rfl⟩, by decide⟩)) (
  ce_fc (P := P_L_setRate) (ok_li (ok_i2l dL_setRate_8)) (
  ce_fc (P := P_L_setRate) (ok_li (ok_last dL_setRate_9)) (
  ce_fc (P := P_L_setRate) (ok_li (ok_goto dL_setRate_10 (by decide))) (
  ce_fc (P := P_L_setRate) (ok_li (ok_iconst dL_setRate_15)) (
  ce_fc (P := P_L_setRate) (ok_reti dL_setRate_16 rfl) (
  ce_fc (P := P_L_setRate) (ok_li (ok_iconst dL_setRate_17)) (
  ce_fc (P := P_L_setRate) (ok_reti dL_setRate_18 rfl) (
  ce_fn (P := P_L_setRate))))))))))))))
noncomputable def ta_L_setRate : Nat → Option ce_N := (ce_fd tb_L_setRate_0)
theorem tx_L_setRate : ∀ pc f, ta_L_setRate pc = some f → P_L_setRate pc f := (ce_fd_ok (P := P_L_setRate) tk_L_setRate_0)
noncomputable def F_L_setRate : ce_C := ce_M ta_L_setRate 5 1 6 1000000
theorem m_L_setRate : ∀ l : Launch, l.stackTraces = false → ce_MS l yL_setRate (.codeWith yL_setRate cL_setRate 5 (some .int) [(0, 10, 13, 13)]) 2 1 6 F_L_setRate := fun l hl => ce_metW hl (by decide +kernel) tx_L_setRate
theorem hp_L_setRate : yL_setRate.cls ≠ "java/lang/invoke/MethodHandle" ∧ yL_setRate.cls ≠ "java/lang/invoke/VarHandle" ∧ (parseMethodDescriptor yL_setRate.desc).map (fun d => d.parameters.length) = some 4 := by decide +kernel
abbrev P_L_setSetup : Nat → ce_N → Prop := ce_OKN "CarcasswrightLaw" "setSetup" cL_setSetup 4 (some .int) 2 (some [(0, 9, 12, 13)])
noncomputable def tb_L_setSetup_0 : List (Nat × ce_N) := [(0, ce_li (ce_aload 2 1)),
  (1, ce_li (ce_push (.inl (.inl (0))) 2)),
  (2, ce_li (ce_aload 0 3)),
  (3, ce_li (ce_iload 1 4)),
  (4, ce_call 2 1 6 7 (.inl (0, 13, 3)) (ce_CV 15 F_X11_setSetup)),
  (7, ce_li (ce_i2l 8)),
  (8, ce_li (ce_last 9)),
  (9, ce_li (ce_goto 15)),
  (13, ce_li (ce_push (.inl (.inl (1))) 14)),
  (14, ce_reti .int),
  (15, ce_li (ce_push (.inl (.inl (0))) 16)),
  (16, ce_reti .int)]
theorem tk_L_setSetup_0 : ∀ x ∈ tb_L_setSetup_0, P_L_setSetup x.1 x.2 :=
  ce_fc (P := P_L_setSetup) (ok_li (ok_aload_n dL_setSetup_0 rfl)) (
  ce_fc (P := P_L_setSetup) (ok_li (ok_iconst dL_setSetup_1)) (
  ce_fc (P := P_L_setSetup) (ok_li (ok_aload_n dL_setSetup_2 rfl)) (
  ce_fc (P := P_L_setSetup) (ok_li (ok_iload_n dL_setSetup_3 rfl)) (
  ce_fc (P := P_L_setSetup) (ok_call (ca := .inl (0, 13, 3)) (hh := some [(0, 9, 12, 13)]) (ru_V (ci := 15) (C := RX11) (Tf := TX11) (N := 7) m_X11_setSetup (by decide) (by decide) rfl gw_1456 gw_1453 gw_1454 gw_1455 gw_1 ⟨rfl, hp_X11_setSetup⟩ dL_setSetup_4) (⟨_, _, _, (3 : Fin 4), rfl, rfl, by decide, by decide, gw_716, gn_0, Or.inl ⟨dL_setSetup_12, rfl, rfl⟩, by decide⟩)) (
  ce_fc (P := P_L_setSetup) (ok_li (ok_i2l dL_setSetup_7)) (
  ce_fc (P := P_L_setSetup) (ok_li (ok_last dL_setSetup_8)) (
  ce_fc (P := P_L_setSetup) (ok_li (ok_goto dL_setSetup_9 (by decide))) (
  ce_fc (P := P_L_setSetup) (ok_li (ok_iconst dL_setSetup_13)) (
  ce_fc (P := P_L_setSetup) (ok_reti dL_setSetup_14 rfl) (
  ce_fc (P := P_L_setSetup) (ok_li (ok_iconst dL_setSetup_15)) (
  ce_fc (P := P_L_setSetup) (ok_reti dL_setSetup_16 rfl) (
  ce_fn (P := P_L_setSetup)))))))))))))
noncomputable def ta_L_setSetup : Nat → Option ce_N := (ce_fd tb_L_setSetup_0)
theorem tx_L_setSetup : ∀ pc f, ta_L_setSetup pc = some f → P_L_setSetup pc f := (ce_fd_ok (P := P_L_setSetup) tk_L_setSetup_0)
noncomputable def F_L_setSetup : ce_C := ce_M ta_L_setSetup 4 1 6 1000000
theorem m_L_setSetup : ∀ l : Launch, l.stackTraces = false → ce_MS l yL_setSetup (.codeWith yL_setSetup cL_setSetup 4 (some .int) [(0, 9, 12, 13)]) 2 1 6 F_L_setSetup := fun l hl => ce_metW hl (by decide +kernel) tx_L_setSetup
theorem hp_L_setSetup : yL_setSetup.cls ≠ "java/lang/invoke/MethodHandle" ∧ yL_setSetup.cls ≠ "java/lang/invoke/VarHandle" ∧ (parseMethodDescriptor yL_setSetup.desc).map (fun d => d.parameters.length) = some 3 := by decide +kernel
abbrev P_L_shift : Nat → ce_N → Prop := ce_OKN "CarcasswrightLaw" "shift" cL_shift 5 (some .int) 2 (some [(0, 10, 13, 27), (0, 10, 17, 13), (0, 10, 21, 21)])
noncomputable def tb_L_shift_0 : List (Nat × ce_N) := [(0, ce_li (ce_aload 3 1)),
  (1, ce_li (ce_push (.inl (.inl (0))) 2)),
  (2, ce_li (ce_aload 0 3)),
  (3, ce_li (ce_iload 1 4)),
  (4, ce_li (ce_iload 2 5)),
  (5, ce_call 3 1 6 8 (.inl (1, 15, 4)) (ce_CV 15 F_X11_shift)),
  (15, ce_li (ce_push (.inl (.inl (1))) 16)),
  (16, ce_reti .int)]
theorem tk_L_shift_0 : ∀ x ∈ tb_L_shift_0, P_L_shift x.1 x.2 :=
  ce_fc (P := P_L_shift) (ok_li (ok_aload_n dL_shift_0 rfl)) (
  ce_fc (P := P_L_shift) (ok_li (ok_iconst dL_shift_1)) (
  ce_fc (P := P_L_shift) (ok_li (ok_aload_n dL_shift_2 rfl)) (
  ce_fc (P := P_L_shift) (ok_li (ok_iload_n dL_shift_3 rfl)) (
  ce_fc (P := P_L_shift) (ok_li (ok_iload_n dL_shift_4 rfl)) (
  ce_fc (P := P_L_shift) (ok_call (ca := .inl (1, 15, 4)) (hh := some [(0, 10, 13, 27), (0, 10, 17, 13), (0, 10, 21, 21)]) (ru_V (ci := 15) (C := RX11) (Tf := TX11) (N := 7) m_X11_shift (by decide) (by decide) rfl gw_1003 gw_1000 gw_1001 gw_1002 gw_1 ⟨rfl, hp_X11_shift⟩ dL_shift_5) (⟨_, _, _, (0 : Fin 4), rfl, rfl, by decide, by decide, gw_810, gn_1, Or.inr ⟨dL_shift_13, rfl⟩, by decide⟩)) (
  ce_fc (P := P_L_shift) (ok_li (ok_iconst dL_shift_15)) (
  ce_fc (P := P_L_shift) (ok_reti dL_shift_16 rfl) (
  ce_fn (P := P_L_shift)))))))))
noncomputable def ta_L_shift : Nat → Option ce_N := (ce_fd tb_L_shift_0)
theorem tx_L_shift : ∀ pc f, ta_L_shift pc = some f → P_L_shift pc f := (ce_fd_ok (P := P_L_shift) tk_L_shift_0)
noncomputable def F_L_shift : ce_C := ce_M ta_L_shift 5 1 6 1000000
theorem m_L_shift : ∀ l : Launch, l.stackTraces = false → ce_MS l yL_shift (.codeWith yL_shift cL_shift 5 (some .int) [(0, 10, 13, 27), (0, 10, 17, 13), (0, 10, 21, 21)]) 2 1 6 F_L_shift := fun l hl => ce_metW hl (by decide +kernel) tx_L_shift
theorem hp_L_shift : yL_shift.cls ≠ "java/lang/invoke/MethodHandle" ∧ yL_shift.cls ≠ "java/lang/invoke/VarHandle" ∧ (parseMethodDescriptor yL_shift.desc).map (fun d => d.parameters.length) = some 4 := by decide +kernel
abbrev P_L_told : Nat → ce_N → Prop := ce_OKN "CarcasswrightLaw" "told" cL_told 5 (some .int) 2 (some [(0, 10, 13, 27), (0, 10, 17, 13)])
noncomputable def tb_L_told_0 : List (Nat × ce_N) := [(0, ce_li (ce_aload 3 1)),
  (1, ce_li (ce_push (.inl (.inl (0))) 2)),
  (2, ce_li (ce_aload 0 3)),
  (3, ce_li (ce_iload 1 4)),
  (4, ce_li (ce_iload 2 5)),
  (5, ce_call 3 1 6 8 (.inl (1, 15, 4)) (ce_CV 15 F_X11_told)),
  (15, ce_li (ce_push (.inl (.inl (1))) 16)),
  (16, ce_reti .int)]
theorem tk_L_told_0 : ∀ x ∈ tb_L_told_0, P_L_told x.1 x.2 :=
  ce_fc (P := P_L_told) (ok_li (ok_aload_n dL_told_0 rfl)) (
  ce_fc (P := P_L_told) (ok_li (ok_iconst dL_told_1)) (
  ce_fc (P := P_L_told) (ok_li (ok_aload_n dL_told_2 rfl)) (
  ce_fc (P := P_L_told) (ok_li (ok_iload_n dL_told_3 rfl)) (
  ce_fc (P := P_L_told) (ok_li (ok_iload_n dL_told_4 rfl)) (
  ce_fc (P := P_L_told) (ok_call (ca := .inl (1, 15, 4)) (hh := some [(0, 10, 13, 27), (0, 10, 17, 13)]) (ru_V (ci := 15) (C := RX11) (Tf := TX11) (N := 7) m_X11_told (by decide) (by decide) rfl gw_952 gw_949 gw_950 gw_951 gw_1 ⟨rfl, hp_X11_told⟩ dL_told_5) (⟨_, _, _, (0 : Fin 4), rfl, rfl, by decide, by decide, gw_810, gn_1, Or.inr ⟨dL_told_13, rfl⟩, by decide⟩)) (
  ce_fc (P := P_L_told) (ok_li (ok_iconst dL_told_15)) (
  ce_fc (P := P_L_told) (ok_reti dL_told_16 rfl) (
  ce_fn (P := P_L_told)))))))))
noncomputable def ta_L_told : Nat → Option ce_N := (ce_fd tb_L_told_0)
theorem tx_L_told : ∀ pc f, ta_L_told pc = some f → P_L_told pc f := (ce_fd_ok (P := P_L_told) tk_L_told_0)
noncomputable def F_L_told : ce_C := ce_M ta_L_told 5 1 6 1000000
theorem m_L_told : ∀ l : Launch, l.stackTraces = false → ce_MS l yL_told (.codeWith yL_told cL_told 5 (some .int) [(0, 10, 13, 27), (0, 10, 17, 13)]) 2 1 6 F_L_told := fun l hl => ce_metW hl (by decide +kernel) tx_L_told
theorem hp_L_told : yL_told.cls ≠ "java/lang/invoke/MethodHandle" ∧ yL_told.cls ≠ "java/lang/invoke/VarHandle" ∧ (parseMethodDescriptor yL_told.desc).map (fun d => d.parameters.length) = some 4 := by decide +kernel
abbrev P_L_type : Nat → ce_N → Prop := ce_OKN "CarcasswrightLaw" "type" cL_type 4 (some .int) 2 (some [(0, 9, 12, 15)])
noncomputable def tb_L_type_0 : List (Nat × ce_N) := [(0, ce_li (ce_aload 2 1)),
  (1, ce_li (ce_push (.inl (.inl (0))) 2)),
  (2, ce_li (ce_aload 0 3)),
  (3, ce_li (ce_iload 1 4)),
  (4, ce_call 2 0 0 7 (.inr false) (ce_CV 15 F_X11_type)),
  (7, ce_li (ce_i2l 8)),
  (8, ce_li (ce_last 9)),
  (9, ce_li (ce_goto 15)),
  (15, ce_li (ce_push (.inl (.inl (0))) 16)),
  (16, ce_reti .int)]
theorem tk_L_type_0 : ∀ x ∈ tb_L_type_0, P_L_type x.1 x.2 :=
  ce_fc (P := P_L_type) (ok_li (ok_aload_n dL_type_0 rfl)) (
  ce_fc (P := P_L_type) (ok_li (ok_iconst dL_type_1)) (
  ce_fc (P := P_L_type) (ok_li (ok_aload_n dL_type_2 rfl)) (
  ce_fc (P := P_L_type) (ok_li (ok_iload_n dL_type_3 rfl)) (
  ce_fc (P := P_L_type) (ok_call (ru_V (ci := 15) (C := RX11) (Tf := TX11) (N := 7) m_X11_type (by decide) (by decide) rfl gw_840 gw_837 gw_838 gw_839 gw_1 ⟨rfl, hp_X11_type⟩ dL_type_4) ca_f) (
  ce_fc (P := P_L_type) (ok_li (ok_i2l dL_type_7)) (
  ce_fc (P := P_L_type) (ok_li (ok_last dL_type_8)) (
  ce_fc (P := P_L_type) (ok_li (ok_goto dL_type_9 (by decide))) (
  ce_fc (P := P_L_type) (ok_li (ok_iconst dL_type_15)) (
  ce_fc (P := P_L_type) (ok_reti dL_type_16 rfl) (
  ce_fn (P := P_L_type)))))))))))
noncomputable def ta_L_type : Nat → Option ce_N := (ce_fd tb_L_type_0)
theorem tx_L_type : ∀ pc f, ta_L_type pc = some f → P_L_type pc f := (ce_fd_ok (P := P_L_type) tk_L_type_0)
noncomputable def F_L_type : ce_C := ce_M ta_L_type 4 0 0 1000000
theorem m_L_type : ∀ l : Launch, l.stackTraces = false → ce_MS l yL_type (.codeWith yL_type cL_type 4 (some .int) [(0, 9, 12, 15)]) 2 0 0 F_L_type := fun l hl => ce_metW hl (by decide +kernel) tx_L_type
theorem hp_L_type : yL_type.cls ≠ "java/lang/invoke/MethodHandle" ∧ yL_type.cls ≠ "java/lang/invoke/VarHandle" ∧ (parseMethodDescriptor yL_type.desc).map (fun d => d.parameters.length) = some 3 := by decide +kernel
abbrev P_L_uncut : Nat → ce_N → Prop := ce_OKN "CarcasswrightLaw" "uncut" cL_uncut 4 (some .int) 2 (some [(0, 9, 12, 27)])
noncomputable def tb_L_uncut_0 : List (Nat × ce_N) := [(0, ce_li (ce_aload 2 1)),
  (1, ce_li (ce_push (.inl (.inl (0))) 2)),
  (2, ce_li (ce_aload 0 3)),
  (3, ce_li (ce_iload 1 4)),
  (4, ce_call 2 1 6 7 (.inl (1, 13, 3)) (ce_CV 15 F_X11_uncut)),
  (13, ce_li (ce_push (.inl (.inl (1))) 14)),
  (14, ce_reti .int)]
theorem tk_L_uncut_0 : ∀ x ∈ tb_L_uncut_0, P_L_uncut x.1 x.2 :=
  ce_fc (P := P_L_uncut) (ok_li (ok_aload_n dL_uncut_0 rfl)) (
  ce_fc (P := P_L_uncut) (ok_li (ok_iconst dL_uncut_1)) (
  ce_fc (P := P_L_uncut) (ok_li (ok_aload_n dL_uncut_2 rfl)) (
  ce_fc (P := P_L_uncut) (ok_li (ok_iload_n dL_uncut_3 rfl)) (
  ce_fc (P := P_L_uncut) (ok_call (ca := .inl (1, 13, 3)) (hh := some [(0, 9, 12, 27)]) (ru_V (ci := 15) (C := RX11) (Tf := TX11) (N := 7) m_X11_uncut (by decide) (by decide) rfl gw_1238 gw_1235 gw_1236 gw_1237 gw_1 ⟨rfl, hp_X11_uncut⟩ dL_uncut_4) (⟨_, _, _, (3 : Fin 4), rfl, rfl, by decide, by decide, gw_810, gn_1, Or.inl ⟨dL_uncut_12, rfl, rfl⟩, by decide⟩)) (
  ce_fc (P := P_L_uncut) (ok_li (ok_iconst dL_uncut_13)) (
  ce_fc (P := P_L_uncut) (ok_reti dL_uncut_14 rfl) (
  ce_fn (P := P_L_uncut))))))))
noncomputable def ta_L_uncut : Nat → Option ce_N := (ce_fd tb_L_uncut_0)
theorem tx_L_uncut : ∀ pc f, ta_L_uncut pc = some f → P_L_uncut pc f := (ce_fd_ok (P := P_L_uncut) tk_L_uncut_0)
noncomputable def F_L_uncut : ce_C := ce_M ta_L_uncut 4 1 6 1000000
theorem m_L_uncut : ∀ l : Launch, l.stackTraces = false → ce_MS l yL_uncut (.codeWith yL_uncut cL_uncut 4 (some .int) [(0, 9, 12, 27)]) 2 1 6 F_L_uncut := fun l hl => ce_metW hl (by decide +kernel) tx_L_uncut
theorem hp_L_uncut : yL_uncut.cls ≠ "java/lang/invoke/MethodHandle" ∧ yL_uncut.cls ≠ "java/lang/invoke/VarHandle" ∧ (parseMethodDescriptor yL_uncut.desc).map (fun d => d.parameters.length) = some 3 := by decide +kernel
