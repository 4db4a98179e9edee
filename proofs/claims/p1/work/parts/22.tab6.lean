abbrev P_X21_job : Nat → ce_N → Prop := ce_OKN "CarcasswrightModel" "job" cX21_job 4 (some .int) 6 (some [])
noncomputable def tb_X21_job_0 : List (Nat × ce_N) := [(0, ce_li (ce_aload 0 1)),
  (1, ce_li (ce_iload 1 2)),
  (2, ce_li (ce_push (.inl (.inl (0))) 3)),
  (3, ce_li (ce_push (.inl (.inl (2))) 4)),
  (4, ce_call 3 0 0 7 (.inr true) F_X21_in),
  (7, ce_li (ce_if true false false 31 10)),
  (10, ce_li (ce_iload 2 11)),
  (11, ce_li (ce_push (.inl (.inl (1))) 12)),
  (12, ce_li (ce_push (.inl (.inl (99))) 14)),
  (14, ce_call 3 0 0 17 (.inr true) F_X21_in),
  (17, ce_li (ce_if true false false 31 20)),
  (20, ce_li (ce_iload 3 21)),
  (21, ce_li (ce_push (.inl (.inl (0))) 22)),
  (22, ce_li (ce_push (.inl (.inl (999))) 25))]
theorem tk_X21_job_0 : ∀ x ∈ tb_X21_job_0, P_X21_job x.1 x.2 :=
  ce_fc (P := P_X21_job) (ok_li (ok_aload_n dX21_job_0 rfl)) (
  ce_fc (P := P_X21_job) (ok_li (ok_iload_n dX21_job_1 rfl)) (
  ce_fc (P := P_X21_job) (ok_li (ok_iconst dX21_job_2)) (
  ce_fc (P := P_X21_job) (ok_li (ok_iconst dX21_job_3)) (
  ce_fc (P := P_X21_job) (ok_call (ru_S m_X21_in (by decide) (by decide) gw_1676 gw_1674 gw_1675 gw_13 hp_X21_in dX21_job_4) ca_t) (
  ce_fc (P := P_X21_job) (ok_li (ok_if_eq dX21_job_7 (by decide))) (
  ce_fc (P := P_X21_job) (ok_li (ok_iload_n dX21_job_10 rfl)) (
  ce_fc (P := P_X21_job) (ok_li (ok_iconst dX21_job_11)) (
  ce_fc (P := P_X21_job) (ok_li (ok_bipush dX21_job_12 (by decide))) (
  ce_fc (P := P_X21_job) (ok_call (ru_S m_X21_in (by decide) (by decide) gw_1676 gw_1674 gw_1675 gw_13 hp_X21_in dX21_job_14) ca_t) (
  ce_fc (P := P_X21_job) (ok_li (ok_if_eq dX21_job_17 (by decide))) (
  ce_fc (P := P_X21_job) (ok_li (ok_iload_n dX21_job_20 rfl)) (
  ce_fc (P := P_X21_job) (ok_li (ok_iconst dX21_job_21)) (
  ce_fc (P := P_X21_job) (ok_li (ok_sipush dX21_job_22 (by decide))) (
  ce_fn (P := P_X21_job)))))))))))))))
noncomputable def tb_X21_job_1 : List (Nat × ce_N) := [(25, ce_call 3 0 0 28 (.inr true) F_X21_in),
  (28, ce_li (ce_if true false true 35 31)),
  (31, ce_li (ce_push (.inl (.inl (1))) 32)),
  (32, ce_li (ce_goto 52)),
  (35, ce_li (ce_aload 0 36)),
  (36, ce_li (ce_getf 20 7 39)),
  (39, ce_call 1 0 0 42 (.inr true) (ce_CV 3 F_Jx4a65c_size_8abf5)),
  (42, ce_li (ce_push (.inl (.inl (6))) 44)),
  (44, ce_li (ce_icmp true false true 51 47)),
  (51, ce_li (ce_push (.inl (.inl (0))) 52)),
  (52, ce_li (ce_putf (tyX21 0) 20 0 55)),
  (55, ce_li (ce_aload 0 56)),
  (56, ce_li (ce_getf 20 0 59)),
  (59, ce_li (ce_if false true true 64 62))]
theorem tk_X21_job_1 : ∀ x ∈ tb_X21_job_1, P_X21_job x.1 x.2 :=
  ce_fc (P := P_X21_job) (ok_call (ru_S m_X21_in (by decide) (by decide) gw_1676 gw_1674 gw_1675 gw_13 hp_X21_in dX21_job_25) ca_t) (
  ce_fc (P := P_X21_job) (ok_li (ok_if_ne dX21_job_28 (by decide))) (
  ce_fc (P := P_X21_job) (ok_li (ok_iconst dX21_job_31)) (
  ce_fc (P := P_X21_job) (ok_li (ok_goto dX21_job_32 (by decide))) (
  ce_fc (P := P_X21_job) (ok_li (ok_aload_n dX21_job_35 rfl)) (
  ce_fc (P := P_X21_job) (ok_li (ok_getf (ci := 20) (k := 7) (C := RX21) (T := TX21) (N := 20) dX21_job_36 rfl ce_uX21 (by decide) gw_1528 (fun _ _ _ _ h => h))) (
  ce_fc (P := P_X21_job) (ok_call (ru_V (ci := 3) (C := RJx4a65c) (Tf := TJx4a65c) (N := 3) m_Jx4a65c_size_8abf5 (by decide) (by decide) rfl gw_1680 gw_1677 gw_1678 gw_1679 gw_16 ⟨rfl, hp_Jx4a65c_size_8abf5⟩ dX21_job_39) ca_t) (
  ce_fc (P := P_X21_job) (ok_li (ok_bipush dX21_job_42 (by decide))) (
  ce_fc (P := P_X21_job) (ok_li (ok_icmp_ne dX21_job_44 (by decide))) (
  ce_fc (P := P_X21_job) (ok_li (ok_iconst dX21_job_51)) (
  ce_fc (P := P_X21_job) (ok_li (ok_putf (ci := 20) (k := 0) (C := RX21) (T := TX21) (N := 20) (ty0 := tyX21) dX21_job_52 rfl ce_uX21 (by decide) gw_1521 (fun _ _ _ _ h => h) tyX21_ok nmX21 (Or.inl rfl))) (
  ce_fc (P := P_X21_job) (ok_li (ok_aload_n dX21_job_55 rfl)) (
  ce_fc (P := P_X21_job) (ok_li (ok_getf (ci := 20) (k := 0) (C := RX21) (T := TX21) (N := 20) dX21_job_56 rfl ce_uX21 (by decide) gw_1521 (fun _ _ _ _ h => h))) (
  ce_fc (P := P_X21_job) (ok_li (ok_if_le dX21_job_59 (by decide))) (
  ce_fn (P := P_X21_job)))))))))))))))
noncomputable def tb_X21_job_2 : List (Nat × ce_N) := [(62, ce_li (ce_push (.inl (.inl (0))) 63)),
  (63, ce_reti .int),
  (64, ce_li (ce_aload 0 65)),
  (65, ce_li (ce_getf 20 7 68)),
  (68, ce_li (ce_new 17 3 dl_X14 71)),
  (71, ce_li (ce_dup 72)),
  (72, ce_li (ce_iload 1 73)),
  (73, ce_li (ce_iload 2 74)),
  (74, ce_li (ce_iload 3 75)),
  (75, ce_call 4 0 0 78 (.inr true) (ce_CI F_X14_init)),
  (78, ce_call 2 1 22 81 (.inr true) (ce_CV 3 F_Jx4a65c_add_9ea2d)),
  (81, ce_li (ce_pop 82)),
  (82, ce_li (ce_aload 0 83)),
  (83, ce_li (ce_getf 20 7 86))]
theorem tk_X21_job_2 : ∀ x ∈ tb_X21_job_2, P_X21_job x.1 x.2 :=
  ce_fc (P := P_X21_job) (ok_li (ok_iconst dX21_job_62)) (
  ce_fc (P := P_X21_job) (ok_reti dX21_job_63 rfl) (
  ce_fc (P := P_X21_job) (ok_li (ok_aload_n dX21_job_64 rfl)) (
  ce_fc (P := P_X21_job) (ok_li (ok_getf (ci := 20) (k := 7) (C := RX21) (T := TX21) (N := 20) dX21_job_65 rfl ce_uX21 (by decide) gw_1528 (fun _ _ _ _ h => h))) (
  ce_fc (P := P_X21_job) (ok_li (ok_new (ci := 17) (C := RX14) (T := TX14) (N := 3) (ty0 := tyX14) dX21_job_68 rfl ce_uX14 tyX14_ok gw_2781 gw_2782 gw_50 dv_X14 rfl)) (
  ce_fc (P := P_X21_job) (ok_li (ok_dup dX21_job_71)) (
  ce_fc (P := P_X21_job) (ok_li (ok_iload_n dX21_job_72 rfl)) (
  ce_fc (P := P_X21_job) (ok_li (ok_iload_n dX21_job_73 rfl)) (
  ce_fc (P := P_X21_job) (ok_li (ok_iload_n dX21_job_74 rfl)) (
  ce_fc (P := P_X21_job) (ok_call (ru_I m_X14_init (by decide) (by decide) gw_2785 gw_2783 gw_2784 gw_50 rfl hp_X14_init dX21_job_75) ca_t) (
  ce_fc (P := P_X21_job) (ok_call (ru_V (ci := 3) (C := RJx4a65c) (Tf := TJx4a65c) (N := 3) m_Jx4a65c_add_9ea2d (by decide) (by decide) rfl gw_1713 gw_1710 gw_1711 gw_1712 gw_16 ⟨rfl, hp_Jx4a65c_add_9ea2d⟩ dX21_job_78) ca_t) (
  ce_fc (P := P_X21_job) (ok_li (ok_pop dX21_job_81)) (
  ce_fc (P := P_X21_job) (ok_li (ok_aload_n dX21_job_82 rfl)) (
  ce_fc (P := P_X21_job) (ok_li (ok_getf (ci := 20) (k := 7) (C := RX21) (T := TX21) (N := 20) dX21_job_83 rfl ce_uX21 (by decide) gw_1528 (fun _ _ _ _ h => h))) (
  ce_fn (P := P_X21_job)))))))))))))))
noncomputable def tb_X21_job_3 : List (Nat × ce_N) := [(86, ce_call 1 0 0 89 (.inr true) (ce_CV 3 F_Jx4a65c_size_8abf5)),
  (89, ce_li (ce_push (.inl (.inl (1))) 90)),
  (90, ce_li (ce_bin ce_subo 91)),
  (91, ce_reti .int)]
theorem tk_X21_job_3 : ∀ x ∈ tb_X21_job_3, P_X21_job x.1 x.2 :=
  ce_fc (P := P_X21_job) (ok_call (ru_V (ci := 3) (C := RJx4a65c) (Tf := TJx4a65c) (N := 3) m_Jx4a65c_size_8abf5 (by decide) (by decide) rfl gw_1680 gw_1677 gw_1678 gw_1679 gw_16 ⟨rfl, hp_Jx4a65c_size_8abf5⟩ dX21_job_86) ca_t) (
  ce_fc (P := P_X21_job) (ok_li (ok_iconst dX21_job_89)) (
  ce_fc (P := P_X21_job) (ok_li (ok_isub dX21_job_90)) (
  ce_fc (P := P_X21_job) (ok_reti dX21_job_91 rfl) (
  ce_fn (P := P_X21_job)))))
noncomputable def ta_X21_job : Nat → Option ce_N := (ce_tr 62 (ce_tr 25 (ce_fd tb_X21_job_0) (ce_fd tb_X21_job_1)) (ce_tr 86 (ce_fd tb_X21_job_2) (ce_fd tb_X21_job_3)))
theorem tx_X21_job : ∀ pc f, ta_X21_job pc = some f → P_X21_job pc f := (ce_tr_ok (P := P_X21_job) (ce_tr_ok (P := P_X21_job) (ce_fd_ok (P := P_X21_job) tk_X21_job_0) (ce_fd_ok (P := P_X21_job) tk_X21_job_1)) (ce_tr_ok (P := P_X21_job) (ce_fd_ok (P := P_X21_job) tk_X21_job_2) (ce_fd_ok (P := P_X21_job) tk_X21_job_3)))
noncomputable def F_X21_job : ce_C := ce_M ta_X21_job 4 2 25 1000000
theorem m_X21_job : ∀ l : Launch, l.stackTraces = false → ce_MS l yX21_job (.code yX21_job cX21_job 4 (some .int)) 6 2 25 F_X21_job := fun l hl => ce_met hl (by decide +kernel) tx_X21_job
theorem hp_X21_job : yX21_job.cls ≠ "java/lang/invoke/MethodHandle" ∧ yX21_job.cls ≠ "java/lang/invoke/VarHandle" ∧ (parseMethodDescriptor yX21_job.desc).map (fun d => d.parameters.length) = some 3 := by decide +kernel
abbrev P_J4_append_cf468 : Nat → ce_N → Prop := ce_OKN "java/lang/StringBuilder" "append" cJ4_append_cf468 2 (some (.object "java/lang/StringBuilder")) 7 (some [])
noncomputable def tb_J4_append_cf468_0 : List (Nat × ce_N) := [(0, ce_li (ce_aload 0 1)),
  (1, ce_li (ce_iload 1 2)),
  (2, ce_call 2 1 32 5 (.inr true) (ce_CV 1 F_J5_append_3fe6f)),
  (5, ce_li (ce_pop 6)),
  (6, ce_li (ce_aload 0 7)),
  (7, ce_reta)]
theorem tk_J4_append_cf468_0 : ∀ x ∈ tb_J4_append_cf468_0, P_J4_append_cf468 x.1 x.2 :=
  ce_fc (P := P_J4_append_cf468) (ok_li (ok_aload_n dJ4_append_cf468_0 rfl)) (
  ce_fc (P := P_J4_append_cf468) (ok_li (ok_iload_n dJ4_append_cf468_1 rfl)) (
  ce_fc (P := P_J4_append_cf468) (ok_call (ru_SU (ci := 1) (C := RJ4) (Tf := TJ4) (N := 4) m_J5_append_3fe6f (by decide) (by decide) rfl gw_2038 gw_2036 gw_2864 gw_1954 gw_2037 gw_38 ⟨by decide, hp_J5_append_3fe6f.2.2⟩ dJ4_append_cf468_2) ca_t) (
  ce_fc (P := P_J4_append_cf468) (ok_li (ok_pop dJ4_append_cf468_5)) (
  ce_fc (P := P_J4_append_cf468) (ok_li (ok_aload_n dJ4_append_cf468_6 rfl)) (
  ce_fc (P := P_J4_append_cf468) (ok_reta dJ4_append_cf468_7 rfl (Or.inl ⟨_, rfl⟩)) (
  ce_fn (P := P_J4_append_cf468)))))))
noncomputable def ta_J4_append_cf468 : Nat → Option ce_N := (ce_fd tb_J4_append_cf468_0)
theorem tx_J4_append_cf468 : ∀ pc f, ta_J4_append_cf468 pc = some f → P_J4_append_cf468 pc f := (ce_fd_ok (P := P_J4_append_cf468) tk_J4_append_cf468_0)
noncomputable def F_J4_append_cf468 : ce_C := ce_M ta_J4_append_cf468 2 1 32 1000000
theorem m_J4_append_cf468 : ∀ l : Launch, l.stackTraces = false → ce_MS l yJ4_append_cf468 (.code yJ4_append_cf468 cJ4_append_cf468 2 (some (.object "java/lang/StringBuilder"))) 7 1 32 F_J4_append_cf468 := fun l hl => ce_met hl (by decide +kernel) tx_J4_append_cf468
theorem hp_J4_append_cf468 : yJ4_append_cf468.cls ≠ "java/lang/invoke/MethodHandle" ∧ yJ4_append_cf468.cls ≠ "java/lang/invoke/VarHandle" ∧ (parseMethodDescriptor yJ4_append_cf468.desc).map (fun d => d.parameters.length) = some 1 := by decide +kernel
abbrev P_J5_putStringAt_47b60 : Nat → ce_N → Prop := ce_OKN "java/lang/AbstractStringBuilder" "putStringAt" cJ5_putStringAt_47b60 3 none 7 (some [])
noncomputable def tb_J5_putStringAt_47b60_0 : List (Nat × ce_N) := [(0, ce_li (ce_aload 0 1)),
  (1, ce_li (ce_aload 2 2)),
  (2, ce_call 2 1 32 5 (.inr true) (ce_CV 1 F_J5_inflateIfNeededFor_a7421)),
  (5, ce_li (ce_aload 2 6)),
  (6, ce_li (ce_aload 0 7)),
  (7, ce_li (ce_getf 1 0 10)),
  (10, ce_li (ce_iload 1 11)),
  (11, ce_li (ce_aload 0 12)),
  (12, ce_li (ce_getf 1 1 15)),
  (15, ce_call 4 0 0 18 (.inr true) (ce_CV 0 F_J0_getBytes_840e7)),
  (18, ce_ret0)]
theorem tk_J5_putStringAt_47b60_0 : ∀ x ∈ tb_J5_putStringAt_47b60_0, P_J5_putStringAt_47b60 x.1 x.2 :=
  ce_fc (P := P_J5_putStringAt_47b60) (ok_li (ok_aload_n dJ5_putStringAt_47b60_0 rfl)) (
  ce_fc (P := P_J5_putStringAt_47b60) (ok_li (ok_aload_n dJ5_putStringAt_47b60_1 rfl)) (
  ce_fc (P := P_J5_putStringAt_47b60) (ok_call (ru_U (ci := 1) (C := RJ4) (Tf := TJ4) (N := 4) m_J5_inflateIfNeededFor_a7421 (by decide) (by decide) rfl gw_2005 gw_2002 gw_2004 gx_2 gw_38 gw_2862 hp_J5_inflateIfNeededFor_a7421 dJ5_putStringAt_47b60_2) ca_t) (
  ce_fc (P := P_J5_putStringAt_47b60) (ok_li (ok_aload_n dJ5_putStringAt_47b60_5 rfl)) (
  ce_fc (P := P_J5_putStringAt_47b60) (ok_li (ok_aload_n dJ5_putStringAt_47b60_6 rfl)) (
  ce_fc (P := P_J5_putStringAt_47b60) (ok_li (ok_getf (ci := 1) (k := 0) (C := RJ4) (T := TJ4) (N := 4) dJ5_putStringAt_47b60_7 rfl ce_uJ4 (by decide) gw_1942 (fun _ _ _ _ h => h))) (
  ce_fc (P := P_J5_putStringAt_47b60) (ok_li (ok_iload_n dJ5_putStringAt_47b60_10 rfl)) (
  ce_fc (P := P_J5_putStringAt_47b60) (ok_li (ok_aload_n dJ5_putStringAt_47b60_11 rfl)) (
  ce_fc (P := P_J5_putStringAt_47b60) (ok_li (ok_getf (ci := 1) (k := 1) (C := RJ4) (T := TJ4) (N := 4) dJ5_putStringAt_47b60_12 rfl ce_uJ4 (by decide) gw_1943 (fun _ _ _ _ h => h))) (
  ce_fc (P := P_J5_putStringAt_47b60) (ok_call (ru_V (ci := 0) (C := RJ0) (Tf := TJ0) (N := 4) m_J0_getBytes_840e7 (by decide) (by decide) rfl gw_2029 gw_2026 gw_2027 gw_2028 gw_23 ⟨rfl, hp_J0_getBytes_840e7⟩ dJ5_putStringAt_47b60_15) ca_t) (
  ce_fc (P := P_J5_putStringAt_47b60) (ok_ret0 dJ5_putStringAt_47b60_18 rfl) (
  ce_fn (P := P_J5_putStringAt_47b60))))))))))))
noncomputable def ta_J5_putStringAt_47b60 : Nat → Option ce_N := (ce_fd tb_J5_putStringAt_47b60_0)
theorem tx_J5_putStringAt_47b60 : ∀ pc f, ta_J5_putStringAt_47b60 pc = some f → P_J5_putStringAt_47b60 pc f := (ce_fd_ok (P := P_J5_putStringAt_47b60) tk_J5_putStringAt_47b60_0)
noncomputable def F_J5_putStringAt_47b60 : ce_C := ce_M ta_J5_putStringAt_47b60 3 1 32 1000000
theorem m_J5_putStringAt_47b60 : ∀ l : Launch, l.stackTraces = false → ce_MS l yJ5_putStringAt_47b60 (.code yJ5_putStringAt_47b60 cJ5_putStringAt_47b60 3 none) 7 1 32 F_J5_putStringAt_47b60 := fun l hl => ce_met hl (by decide +kernel) tx_J5_putStringAt_47b60
theorem hp_J5_putStringAt_47b60 : yJ5_putStringAt_47b60.cls ≠ "java/lang/invoke/MethodHandle" ∧ yJ5_putStringAt_47b60.cls ≠ "java/lang/invoke/VarHandle" ∧ (parseMethodDescriptor yJ5_putStringAt_47b60.desc).map (fun d => d.parameters.length) = some 2 := by decide +kernel
abbrev P_J5_append_cf1ce : Nat → ce_N → Prop := ce_OKN "java/lang/AbstractStringBuilder" "append" cJ5_append_cf1ce 3 (some (.object "java/lang/AbstractStringBuilder")) 8 (some [])
noncomputable def tb_J5_append_cf1ce_0 : List (Nat × ce_N) := [(0, ce_li (ce_aload 1 1)),
  (1, ce_li (ce_ifnn 9 4)),
  (9, ce_li (ce_aload 1 10)),
  (10, ce_call 1 0 0 13 (.inr true) (ce_CV 0 F_J0_length_8abf5)),
  (13, ce_li (ce_istore 2 14 3)),
  (14, ce_li (ce_aload 0 15)),
  (15, ce_li (ce_aload 0 16)),
  (16, ce_li (ce_getf 1 3 19)),
  (19, ce_li (ce_iload 2 20)),
  (20, ce_li (ce_bin ce_addo 21)),
  (21, ce_call 2 0 0 24 (.inr true) (ce_CV 1 F_J5_ensureCapacityInternal_d00df)),
  (24, ce_li (ce_aload 0 25)),
  (25, ce_li (ce_aload 0 26)),
  (26, ce_li (ce_getf 1 3 29))]
theorem tk_J5_append_cf1ce_0 : ∀ x ∈ tb_J5_append_cf1ce_0, P_J5_append_cf1ce x.1 x.2 :=
  ce_fc (P := P_J5_append_cf1ce) (ok_li (ok_aload_n dJ5_append_cf1ce_0 rfl)) (
  ce_fc (P := P_J5_append_cf1ce) (ok_li (ok_ifnn dJ5_append_cf1ce_1 (by decide))) (
  ce_fc (P := P_J5_append_cf1ce) (ok_li (ok_aload_n dJ5_append_cf1ce_9 rfl)) (
  ce_fc (P := P_J5_append_cf1ce) (ok_call (ru_V (ci := 0) (C := RJ0) (Tf := TJ0) (N := 4) m_J0_length_8abf5 (by decide) (by decide) rfl gw_1609 gw_1997 gw_1607 gw_1608 gw_23 ⟨rfl, hp_J0_length_8abf5⟩ dJ5_append_cf1ce_10) ca_t) (
  ce_fc (P := P_J5_append_cf1ce) (ok_li (ok_istore_n dJ5_append_cf1ce_13 rfl)) (
  ce_fc (P := P_J5_append_cf1ce) (ok_li (ok_aload_n dJ5_append_cf1ce_14 rfl)) (
  ce_fc (P := P_J5_append_cf1ce) (ok_li (ok_aload_n dJ5_append_cf1ce_15 rfl)) (
  ce_fc (P := P_J5_append_cf1ce) (ok_li (ok_getf (ci := 1) (k := 3) (C := RJ4) (T := TJ4) (N := 4) dJ5_append_cf1ce_16 rfl ce_uJ4 (by decide) gw_1945 (fun _ _ _ _ h => h))) (
  ce_fc (P := P_J5_append_cf1ce) (ok_li (ok_iload_n dJ5_append_cf1ce_19 rfl)) (
  ce_fc (P := P_J5_append_cf1ce) (ok_li (ok_iadd dJ5_append_cf1ce_20)) (
  ce_fc (P := P_J5_append_cf1ce) (ok_call (ru_U (ci := 1) (C := RJ4) (Tf := TJ4) (N := 4) m_J5_ensureCapacityInternal_d00df (by decide) (by decide) rfl gw_1969 gw_1966 gw_1968 gx_0 gw_38 gw_2859 hp_J5_ensureCapacityInternal_d00df dJ5_append_cf1ce_21) ca_t) (
  ce_fc (P := P_J5_append_cf1ce) (ok_li (ok_aload_n dJ5_append_cf1ce_24 rfl)) (
  ce_fc (P := P_J5_append_cf1ce) (ok_li (ok_aload_n dJ5_append_cf1ce_25 rfl)) (
  ce_fc (P := P_J5_append_cf1ce) (ok_li (ok_getf (ci := 1) (k := 3) (C := RJ4) (T := TJ4) (N := 4) dJ5_append_cf1ce_26 rfl ce_uJ4 (by decide) gw_1945 (fun _ _ _ _ h => h))) (
  ce_fn (P := P_J5_append_cf1ce)))))))))))))))
noncomputable def tb_J5_append_cf1ce_1 : List (Nat × ce_N) := [(29, ce_li (ce_aload 1 30)),
  (30, ce_call 3 1 32 33 (.inr true) (ce_CV 1 F_J5_putStringAt_47b60)),
  (33, ce_li (ce_aload 0 34)),
  (34, ce_li (ce_dup 35)),
  (35, ce_li (ce_getf 1 3 38)),
  (38, ce_li (ce_iload 2 39)),
  (39, ce_li (ce_bin ce_addo 40)),
  (40, ce_li (ce_putf (tyJ4 3) 1 3 43)),
  (43, ce_li (ce_aload 0 44)),
  (44, ce_reta)]
theorem tk_J5_append_cf1ce_1 : ∀ x ∈ tb_J5_append_cf1ce_1, P_J5_append_cf1ce x.1 x.2 :=
  ce_fc (P := P_J5_append_cf1ce) (ok_li (ok_aload_n dJ5_append_cf1ce_29 rfl)) (
  ce_fc (P := P_J5_append_cf1ce) (ok_call (ru_U (ci := 1) (C := RJ4) (Tf := TJ4) (N := 4) m_J5_putStringAt_47b60 (by decide) (by decide) rfl gw_2001 gw_1998 gw_2000 gx_1 gw_38 gw_2861 hp_J5_putStringAt_47b60 dJ5_append_cf1ce_30) ca_t) (
  ce_fc (P := P_J5_append_cf1ce) (ok_li (ok_aload_n dJ5_append_cf1ce_33 rfl)) (
  ce_fc (P := P_J5_append_cf1ce) (ok_li (ok_dup dJ5_append_cf1ce_34)) (
  ce_fc (P := P_J5_append_cf1ce) (ok_li (ok_getf (ci := 1) (k := 3) (C := RJ4) (T := TJ4) (N := 4) dJ5_append_cf1ce_35 rfl ce_uJ4 (by decide) gw_1945 (fun _ _ _ _ h => h))) (
  ce_fc (P := P_J5_append_cf1ce) (ok_li (ok_iload_n dJ5_append_cf1ce_38 rfl)) (
  ce_fc (P := P_J5_append_cf1ce) (ok_li (ok_iadd dJ5_append_cf1ce_39)) (
  ce_fc (P := P_J5_append_cf1ce) (ok_li (ok_putf (ci := 1) (k := 3) (C := RJ4) (T := TJ4) (N := 4) (ty0 := tyJ4) dJ5_append_cf1ce_40 rfl ce_uJ4 (by decide) gw_1945 (fun _ _ _ _ h => h) tyJ4_ok nmJ4 (Or.inl rfl))) (
  ce_fc (P := P_J5_append_cf1ce) (ok_li (ok_aload_n dJ5_append_cf1ce_43 rfl)) (
  ce_fc (P := P_J5_append_cf1ce) (ok_reta dJ5_append_cf1ce_44 rfl (Or.inl ⟨_, rfl⟩)) (
  ce_fn (P := P_J5_append_cf1ce)))))))))))
noncomputable def ta_J5_append_cf1ce : Nat → Option ce_N := (ce_tr 29 (ce_fd tb_J5_append_cf1ce_0) (ce_fd tb_J5_append_cf1ce_1))
theorem tx_J5_append_cf1ce : ∀ pc f, ta_J5_append_cf1ce pc = some f → P_J5_append_cf1ce pc f := (ce_tr_ok (P := P_J5_append_cf1ce) (ce_fd_ok (P := P_J5_append_cf1ce) tk_J5_append_cf1ce_0) (ce_fd_ok (P := P_J5_append_cf1ce) tk_J5_append_cf1ce_1))
noncomputable def F_J5_append_cf1ce : ce_C := ce_M ta_J5_append_cf1ce 3 1 32 1000000
theorem m_J5_append_cf1ce : ∀ l : Launch, l.stackTraces = false → ce_MS l yJ5_append_cf1ce (.code yJ5_append_cf1ce cJ5_append_cf1ce 3 (some (.object "java/lang/AbstractStringBuilder"))) 8 1 32 F_J5_append_cf1ce := fun l hl => ce_met hl (by decide +kernel) tx_J5_append_cf1ce
theorem hp_J5_append_cf1ce : yJ5_append_cf1ce.cls ≠ "java/lang/invoke/MethodHandle" ∧ yJ5_append_cf1ce.cls ≠ "java/lang/invoke/VarHandle" ∧ (parseMethodDescriptor yJ5_append_cf1ce.desc).map (fun d => d.parameters.length) = some 1 := by decide +kernel
abbrev P_J4_append_15ec4 : Nat → ce_N → Prop := ce_OKN "java/lang/StringBuilder" "append" cJ4_append_15ec4 2 (some (.object "java/lang/StringBuilder")) 9 (some [])
noncomputable def tb_J4_append_15ec4_0 : List (Nat × ce_N) := [(0, ce_li (ce_aload 0 1)),
  (1, ce_li (ce_aload 1 2)),
  (2, ce_call 2 1 32 5 (.inr true) (ce_CV 1 F_J5_append_cf1ce)),
  (5, ce_li (ce_pop 6)),
  (6, ce_li (ce_aload 0 7)),
  (7, ce_reta)]
theorem tk_J4_append_15ec4_0 : ∀ x ∈ tb_J4_append_15ec4_0, P_J4_append_15ec4 x.1 x.2 :=
  ce_fc (P := P_J4_append_15ec4) (ok_li (ok_aload_n dJ4_append_15ec4_0 rfl)) (
  ce_fc (P := P_J4_append_15ec4) (ok_li (ok_aload_n dJ4_append_15ec4_1 rfl)) (
  ce_fc (P := P_J4_append_15ec4) (ok_call (ru_SU (ci := 1) (C := RJ4) (Tf := TJ4) (N := 4) m_J5_append_cf1ce (by decide) (by decide) rfl gw_1961 gw_1959 gw_2857 gw_1954 gw_1960 gw_38 ⟨by decide, hp_J5_append_cf1ce.2.2⟩ dJ4_append_15ec4_2) ca_t) (
  ce_fc (P := P_J4_append_15ec4) (ok_li (ok_pop dJ4_append_15ec4_5)) (
  ce_fc (P := P_J4_append_15ec4) (ok_li (ok_aload_n dJ4_append_15ec4_6 rfl)) (
  ce_fc (P := P_J4_append_15ec4) (ok_reta dJ4_append_15ec4_7 rfl (Or.inl ⟨_, rfl⟩)) (
  ce_fn (P := P_J4_append_15ec4)))))))
noncomputable def ta_J4_append_15ec4 : Nat → Option ce_N := (ce_fd tb_J4_append_15ec4_0)
theorem tx_J4_append_15ec4 : ∀ pc f, ta_J4_append_15ec4 pc = some f → P_J4_append_15ec4 pc f := (ce_fd_ok (P := P_J4_append_15ec4) tk_J4_append_15ec4_0)
noncomputable def F_J4_append_15ec4 : ce_C := ce_M ta_J4_append_15ec4 2 1 32 1000000
theorem m_J4_append_15ec4 : ∀ l : Launch, l.stackTraces = false → ce_MS l yJ4_append_15ec4 (.code yJ4_append_15ec4 cJ4_append_15ec4 2 (some (.object "java/lang/StringBuilder"))) 9 1 32 F_J4_append_15ec4 := fun l hl => ce_met hl (by decide +kernel) tx_J4_append_15ec4
theorem hp_J4_append_15ec4 : yJ4_append_15ec4.cls ≠ "java/lang/invoke/MethodHandle" ∧ yJ4_append_15ec4.cls ≠ "java/lang/invoke/VarHandle" ∧ (parseMethodDescriptor yJ4_append_15ec4.desc).map (fun d => d.parameters.length) = some 1 := by decide +kernel
abbrev P_X21_type : Nat → ce_N → Prop := ce_OKN "CarcasswrightModel" "type" cX21_type 2 (some .int) 10 (some [])
noncomputable def tb_X21_type_0 : List (Nat × ce_N) := [(0, ce_li (ce_aload 0 1)),
  (1, ce_li (ce_aload 0 2)),
  (2, ce_li (ce_getf 20 3 5)),
  (5, ce_call 1 0 0 8 (.inr true) (ce_CV 0 F_J0_length_8abf5)),
  (8, ce_li (ce_push (.inl (.inl (30))) 10)),
  (10, ce_li (ce_icmp true false true 17 13)),
  (17, ce_li (ce_push (.inl (.inl (0))) 18)),
  (18, ce_li (ce_putf (tyX21 0) 20 0 21)),
  (21, ce_li (ce_new 1 4 dl_J4 24)),
  (24, ce_li (ce_dup 25)),
  (25, ce_call 1 1 16 28 (.inr true) (ce_CI F_J4_init_da8c8)),
  (28, ce_li (ce_aload 0 29)),
  (29, ce_li (ce_dup_x1 30)),
  (30, ce_li (ce_getf 20 3 33))]
theorem tk_X21_type_0 : ∀ x ∈ tb_X21_type_0, P_X21_type x.1 x.2 :=
  ce_fc (P := P_X21_type) (ok_li (ok_aload_n dX21_type_0 rfl)) (
  ce_fc (P := P_X21_type) (ok_li (ok_aload_n dX21_type_1 rfl)) (
  ce_fc (P := P_X21_type) (ok_li (ok_getf (ci := 20) (k := 3) (C := RX21) (T := TX21) (N := 20) dX21_type_2 rfl ce_uX21 (by decide) gw_1524 (fun _ _ _ _ h => h))) (
  ce_fc (P := P_X21_type) (ok_call (ru_V (ci := 0) (C := RJ0) (Tf := TJ0) (N := 4) m_J0_length_8abf5 (by decide) (by decide) rfl gw_1609 gw_1924 gw_1607 gw_1608 gw_23 ⟨rfl, hp_J0_length_8abf5⟩ dX21_type_5) ca_t) (
  ce_fc (P := P_X21_type) (ok_li (ok_bipush dX21_type_8 (by decide))) (
  ce_fc (P := P_X21_type) (ok_li (ok_icmp_ne dX21_type_10 (by decide))) (
  ce_fc (P := P_X21_type) (ok_li (ok_iconst dX21_type_17)) (
  ce_fc (P := P_X21_type) (ok_li (ok_putf (ci := 20) (k := 0) (C := RX21) (T := TX21) (N := 20) (ty0 := tyX21) dX21_type_18 rfl ce_uX21 (by decide) gw_1521 (fun _ _ _ _ h => h) tyX21_ok nmX21 (Or.inl rfl))) (
  ce_fc (P := P_X21_type) (ok_li (ok_new (ci := 1) (C := RJ4) (T := TJ4) (N := 4) (ty0 := tyJ4) dX21_type_21 rfl ce_uJ4 tyJ4_ok gw_1925 gw_1926 gw_39 dv_J4 rfl)) (
  ce_fc (P := P_X21_type) (ok_li (ok_dup dX21_type_24)) (
  ce_fc (P := P_X21_type) (ok_call (ru_I m_J4_init_da8c8 (by decide) (by decide) gw_1929 gw_1927 gw_1928 gw_39 rfl hp_J4_init_da8c8 dX21_type_25) ca_t) (
  ce_fc (P := P_X21_type) (ok_li (ok_aload_n dX21_type_28 rfl)) (
  ce_fc (P := P_X21_type) (ok_li (ok_dup_x1 dX21_type_29)) (
  ce_fc (P := P_X21_type) (ok_li (ok_getf (ci := 20) (k := 3) (C := RX21) (T := TX21) (N := 20) dX21_type_30 rfl ce_uX21 (by decide) gw_1524 (fun _ _ _ _ h => h))) (
  ce_fn (P := P_X21_type)))))))))))))))
noncomputable def tb_X21_type_1 : List (Nat × ce_N) := [(33, ce_call 2 1 32 36 (.inr true) (ce_CV 1 F_J4_append_15ec4)),
  (36, ce_li (ce_aload 0 37)),
  (37, ce_li (ce_getf 20 0 40)),
  (40, ce_li (ce_if false true true 48 43)),
  (48, ce_li (ce_new 1 4 dl_J4 51)),
  (51, ce_li (ce_dup 52)),
  (52, ce_call 1 1 16 55 (.inr true) (ce_CI F_J4_init_da8c8)),
  (55, ce_li (ce_push (.inr (.inr (.inl (.inr 2)))) 57)),
  (57, ce_call 2 1 32 60 (.inr true) (ce_CV 1 F_J4_append_15ec4)),
  (60, ce_li (ce_iload 1 61)),
  (61, ce_call 2 1 32 64 (.inr true) (ce_CV 1 F_J4_append_cf468)),
  (64, ce_call 1 2 6 67 (.inr true) (ce_CV 1 F_J4_toString_0e30d)),
  (67, ce_call 2 1 32 70 (.inr true) (ce_CV 1 F_J4_append_15ec4)),
  (70, ce_call 1 2 6 73 (.inr true) (ce_CV 1 F_J4_toString_0e30d))]
theorem tk_X21_type_1 : ∀ x ∈ tb_X21_type_1, P_X21_type x.1 x.2 :=
  ce_fc (P := P_X21_type) (ok_call (ru_V (ci := 1) (C := RJ4) (Tf := TJ4) (N := 4) m_J4_append_15ec4 (by decide) (by decide) rfl gw_1958 gw_1955 gw_1956 gw_1957 gw_39 ⟨rfl, hp_J4_append_15ec4⟩ dX21_type_33) ca_t) (
  ce_fc (P := P_X21_type) (ok_li (ok_aload_n dX21_type_36 rfl)) (
  ce_fc (P := P_X21_type) (ok_li (ok_getf (ci := 20) (k := 0) (C := RX21) (T := TX21) (N := 20) dX21_type_37 rfl ce_uX21 (by decide) gw_1521 (fun _ _ _ _ h => h))) (
  ce_fc (P := P_X21_type) (ok_li (ok_if_le dX21_type_40 (by decide))) (
  ce_fc (P := P_X21_type) (ok_li (ok_new (ci := 1) (C := RJ4) (T := TJ4) (N := 4) (ty0 := tyJ4) dX21_type_48 rfl ce_uJ4 tyJ4_ok gw_1925 gw_1926 gw_39 dv_J4 rfl)) (
  ce_fc (P := P_X21_type) (ok_li (ok_dup dX21_type_51)) (
  ce_fc (P := P_X21_type) (ok_call (ru_I m_J4_init_da8c8 (by decide) (by decide) gw_1929 gw_1927 gw_1928 gw_39 rfl hp_J4_init_da8c8 dX21_type_52) ca_t) (
  ce_fc (P := P_X21_type) (ok_li (ok_ldcS ce_s2 dX21_type_55)) (
  ce_fc (P := P_X21_type) (ok_call (ru_V (ci := 1) (C := RJ4) (Tf := TJ4) (N := 4) m_J4_append_15ec4 (by decide) (by decide) rfl gw_1958 gw_1955 gw_1956 gw_1957 gw_39 ⟨rfl, hp_J4_append_15ec4⟩ dX21_type_57) ca_t) (
  ce_fc (P := P_X21_type) (ok_li (ok_iload_n dX21_type_60 rfl)) (
  ce_fc (P := P_X21_type) (ok_call (ru_V (ci := 1) (C := RJ4) (Tf := TJ4) (N := 4) m_J4_append_cf468 (by decide) (by decide) rfl gw_2035 gw_2032 gw_2033 gw_2034 gw_39 ⟨rfl, hp_J4_append_cf468⟩ dX21_type_61) ca_t) (
  ce_fc (P := P_X21_type) (ok_call (ru_V (ci := 1) (C := RJ4) (Tf := TJ4) (N := 4) m_J4_toString_0e30d (by decide) (by decide) rfl gw_2055 gw_2052 gw_2053 gw_2054 gw_39 ⟨rfl, hp_J4_toString_0e30d⟩ dX21_type_64) ca_t) (
  ce_fc (P := P_X21_type) (ok_call (ru_V (ci := 1) (C := RJ4) (Tf := TJ4) (N := 4) m_J4_append_15ec4 (by decide) (by decide) rfl gw_1958 gw_1955 gw_1956 gw_1957 gw_39 ⟨rfl, hp_J4_append_15ec4⟩ dX21_type_67) ca_t) (
  ce_fc (P := P_X21_type) (ok_call (ru_V (ci := 1) (C := RJ4) (Tf := TJ4) (N := 4) m_J4_toString_0e30d (by decide) (by decide) rfl gw_2055 gw_2052 gw_2053 gw_2054 gw_39 ⟨rfl, hp_J4_toString_0e30d⟩ dX21_type_70) ca_t) (
  ce_fn (P := P_X21_type)))))))))))))))
noncomputable def tb_X21_type_2 : List (Nat × ce_N) := [(73, ce_li (ce_putf (tyX21 3) 20 3 76)),
  (76, ce_li (ce_aload 0 77)),
  (77, ce_li (ce_getf 20 0 80)),
  (80, ce_li (ce_if false true true 87 83)),
  (87, ce_li (ce_aload 0 88)),
  (88, ce_li (ce_getf 20 3 91)),
  (91, ce_call 1 0 0 94 (.inr true) (ce_CV 0 F_J0_length_8abf5)),
  (94, ce_reti .int)]
theorem tk_X21_type_2 : ∀ x ∈ tb_X21_type_2, P_X21_type x.1 x.2 :=
  ce_fc (P := P_X21_type) (ok_li (ok_putf (ci := 20) (k := 3) (C := RX21) (T := TX21) (N := 20) (ty0 := tyX21) dX21_type_73 rfl ce_uX21 (by decide) gw_1524 (fun _ _ _ _ h => h) tyX21_ok nmX21 (Or.inl rfl))) (
  ce_fc (P := P_X21_type) (ok_li (ok_aload_n dX21_type_76 rfl)) (
  ce_fc (P := P_X21_type) (ok_li (ok_getf (ci := 20) (k := 0) (C := RX21) (T := TX21) (N := 20) dX21_type_77 rfl ce_uX21 (by decide) gw_1521 (fun _ _ _ _ h => h))) (
  ce_fc (P := P_X21_type) (ok_li (ok_if_le dX21_type_80 (by decide))) (
  ce_fc (P := P_X21_type) (ok_li (ok_aload_n dX21_type_87 rfl)) (
  ce_fc (P := P_X21_type) (ok_li (ok_getf (ci := 20) (k := 3) (C := RX21) (T := TX21) (N := 20) dX21_type_88 rfl ce_uX21 (by decide) gw_1524 (fun _ _ _ _ h => h))) (
  ce_fc (P := P_X21_type) (ok_call (ru_V (ci := 0) (C := RJ0) (Tf := TJ0) (N := 4) m_J0_length_8abf5 (by decide) (by decide) rfl gw_1609 gw_1924 gw_1607 gw_1608 gw_23 ⟨rfl, hp_J0_length_8abf5⟩ dX21_type_91) ca_t) (
  ce_fc (P := P_X21_type) (ok_reti dX21_type_94 rfl) (
  ce_fn (P := P_X21_type)))))))))
noncomputable def ta_X21_type : Nat → Option ce_N := (ce_tr 33 (ce_fd tb_X21_type_0) (ce_tr 73 (ce_fd tb_X21_type_1) (ce_fd tb_X21_type_2)))
theorem tx_X21_type : ∀ pc f, ta_X21_type pc = some f → P_X21_type pc f := (ce_tr_ok (P := P_X21_type) (ce_fd_ok (P := P_X21_type) tk_X21_type_0) (ce_tr_ok (P := P_X21_type) (ce_fd_ok (P := P_X21_type) tk_X21_type_1) (ce_fd_ok (P := P_X21_type) tk_X21_type_2)))
noncomputable def F_X21_type : ce_C := ce_M ta_X21_type 2 12 180 1000000
theorem m_X21_type : ∀ l : Launch, l.stackTraces = false → ce_MS l yX21_type (.code yX21_type cX21_type 2 (some .int)) 10 12 180 F_X21_type := fun l hl => ce_met hl (by decide +kernel) tx_X21_type
theorem hp_X21_type : yX21_type.cls ≠ "java/lang/invoke/MethodHandle" ∧ yX21_type.cls ≠ "java/lang/invoke/VarHandle" ∧ (parseMethodDescriptor yX21_type.desc).map (fun d => d.parameters.length) = some 1 := by decide +kernel
