abbrev P_J0_coder_7d493 : Nat → ce_N → Prop := ce_OKN "java/lang/String" "coder" cJ0_coder_7d493 1 (some .byte) 0 (some [])
noncomputable def tb_J0_coder_7d493_0 : List (Nat × ce_N) := [(0, ce_li (ce_push (.inl (.inl 1)) 3)),
  (3, ce_li (ce_if true false false 13 6)),
  (6, ce_li (ce_aload 0 7)),
  (7, ce_li (ce_gets 1 10)),
  (10, ce_li (ce_goto 14)),
  (14, ce_reti .byte)]
theorem tk_J0_coder_7d493_0 : ∀ x ∈ tb_J0_coder_7d493_0, P_J0_coder_7d493 x.1 x.2 :=
  ce_fc (P := P_J0_coder_7d493) (ok_li (ok_gets (sv := (.inl (.inl 1))) ce_z1 dJ0_coder_7d493_0 gw_1604 rfl)) (
  ce_fc (P := P_J0_coder_7d493) (ok_li (ok_if_eq dJ0_coder_7d493_3 (by decide))) (
  ce_fc (P := P_J0_coder_7d493) (ok_li (ok_aload_n dJ0_coder_7d493_6 rfl)) (
  ce_fc (P := P_J0_coder_7d493) (ok_li (ok_gets1 dJ0_coder_7d493_7 gw_2142)) (
  ce_fc (P := P_J0_coder_7d493) (ok_li (ok_goto dJ0_coder_7d493_10 (by decide))) (
  ce_fc (P := P_J0_coder_7d493) (ok_reti dJ0_coder_7d493_14 rfl) (
  ce_fn (P := P_J0_coder_7d493)))))))
noncomputable def ta_J0_coder_7d493 : Nat → Option ce_N := (ce_fd tb_J0_coder_7d493_0)
theorem tx_J0_coder_7d493 : ∀ pc f, ta_J0_coder_7d493 pc = some f → P_J0_coder_7d493 pc f := (ce_fd_ok (P := P_J0_coder_7d493) tk_J0_coder_7d493_0)
noncomputable def F_J0_coder_7d493 : ce_C := ce_M ta_J0_coder_7d493 1 0 0 1000000
theorem m_J0_coder_7d493 : ∀ l : Launch, l.stackTraces = false → ce_MS l yJ0_coder_7d493 (.code yJ0_coder_7d493 cJ0_coder_7d493 1 (some .byte)) 0 0 0 F_J0_coder_7d493 := fun l hl => ce_met hl (by decide +kernel) tx_J0_coder_7d493
theorem hp_J0_coder_7d493 : yJ0_coder_7d493.cls ≠ "java/lang/invoke/MethodHandle" ∧ yJ0_coder_7d493.cls ≠ "java/lang/invoke/VarHandle" ∧ (parseMethodDescriptor yJ0_coder_7d493.desc).map (fun d => d.parameters.length) = some 0 := by decide +kernel
abbrev P_J0_isLatin1_aae02 : Nat → ce_N → Prop := ce_OKN "java/lang/String" "isLatin1" cJ0_isLatin1_aae02 1 (some .boolean) 0 (some [])
noncomputable def tb_J0_isLatin1_aae02_0 : List (Nat × ce_N) := [(0, ce_li (ce_push (.inl (.inl 1)) 3)),
  (3, ce_li (ce_if true false false 17 6)),
  (6, ce_li (ce_aload 0 7)),
  (7, ce_li (ce_gets 1 10)),
  (10, ce_li (ce_if true false true 17 13)),
  (13, ce_li (ce_push (.inl (.inl (1))) 14)),
  (14, ce_li (ce_goto 18)),
  (18, ce_reti .boolean)]
theorem tk_J0_isLatin1_aae02_0 : ∀ x ∈ tb_J0_isLatin1_aae02_0, P_J0_isLatin1_aae02 x.1 x.2 :=
  ce_fc (P := P_J0_isLatin1_aae02) (ok_li (ok_gets (sv := (.inl (.inl 1))) ce_z1 dJ0_isLatin1_aae02_0 gw_1604 rfl)) (
  ce_fc (P := P_J0_isLatin1_aae02) (ok_li (ok_if_eq dJ0_isLatin1_aae02_3 (by decide))) (
  ce_fc (P := P_J0_isLatin1_aae02) (ok_li (ok_aload_n dJ0_isLatin1_aae02_6 rfl)) (
  ce_fc (P := P_J0_isLatin1_aae02) (ok_li (ok_gets1 dJ0_isLatin1_aae02_7 gw_2142)) (
  ce_fc (P := P_J0_isLatin1_aae02) (ok_li (ok_if_ne dJ0_isLatin1_aae02_10 (by decide))) (
  ce_fc (P := P_J0_isLatin1_aae02) (ok_li (ok_iconst dJ0_isLatin1_aae02_13)) (
  ce_fc (P := P_J0_isLatin1_aae02) (ok_li (ok_goto dJ0_isLatin1_aae02_14 (by decide))) (
  ce_fc (P := P_J0_isLatin1_aae02) (ok_reti dJ0_isLatin1_aae02_18 rfl) (
  ce_fn (P := P_J0_isLatin1_aae02)))))))))
noncomputable def ta_J0_isLatin1_aae02 : Nat → Option ce_N := (ce_fd tb_J0_isLatin1_aae02_0)
theorem tx_J0_isLatin1_aae02 : ∀ pc f, ta_J0_isLatin1_aae02 pc = some f → P_J0_isLatin1_aae02 pc f := (ce_fd_ok (P := P_J0_isLatin1_aae02) tk_J0_isLatin1_aae02_0)
noncomputable def F_J0_isLatin1_aae02 : ce_C := ce_M ta_J0_isLatin1_aae02 1 0 0 1000000
theorem m_J0_isLatin1_aae02 : ∀ l : Launch, l.stackTraces = false → ce_MS l yJ0_isLatin1_aae02 (.code yJ0_isLatin1_aae02 cJ0_isLatin1_aae02 1 (some .boolean)) 0 0 0 F_J0_isLatin1_aae02 := fun l hl => ce_met hl (by decide +kernel) tx_J0_isLatin1_aae02
theorem hp_J0_isLatin1_aae02 : yJ0_isLatin1_aae02.cls ≠ "java/lang/invoke/MethodHandle" ∧ yJ0_isLatin1_aae02.cls ≠ "java/lang/invoke/VarHandle" ∧ (parseMethodDescriptor yJ0_isLatin1_aae02.desc).map (fun d => d.parameters.length) = some 0 := by decide +kernel
abbrev P_J1_canEncode_9a6ad : Nat → ce_N → Prop := ce_OKN "java/lang/StringLatin1" "canEncode" cJ1_canEncode_9a6ad 1 (some .boolean) 0 (some [])
noncomputable def tb_J1_canEncode_9a6ad_0 : List (Nat × ce_N) := [(0, ce_li (ce_iload 0 1)),
  (1, ce_li (ce_if false false false 15 4)),
  (4, ce_li (ce_iload 0 5)),
  (5, ce_li (ce_push (.inl (.inl (255))) 8)),
  (8, ce_li (ce_icmp false true false 15 11)),
  (11, ce_li (ce_push (.inl (.inl (1))) 12)),
  (12, ce_li (ce_goto 16)),
  (16, ce_reti .boolean)]
theorem tk_J1_canEncode_9a6ad_0 : ∀ x ∈ tb_J1_canEncode_9a6ad_0, P_J1_canEncode_9a6ad x.1 x.2 :=
  ce_fc (P := P_J1_canEncode_9a6ad) (ok_li (ok_iload_n dJ1_canEncode_9a6ad_0 rfl)) (
  ce_fc (P := P_J1_canEncode_9a6ad) (ok_li (ok_if_lt dJ1_canEncode_9a6ad_1 (by decide))) (
  ce_fc (P := P_J1_canEncode_9a6ad) (ok_li (ok_iload_n dJ1_canEncode_9a6ad_4 rfl)) (
  ce_fc (P := P_J1_canEncode_9a6ad) (ok_li (ok_sipush dJ1_canEncode_9a6ad_5 (by decide))) (
  ce_fc (P := P_J1_canEncode_9a6ad) (ok_li (ok_icmp_gt dJ1_canEncode_9a6ad_8 (by decide))) (
  ce_fc (P := P_J1_canEncode_9a6ad) (ok_li (ok_iconst dJ1_canEncode_9a6ad_11)) (
  ce_fc (P := P_J1_canEncode_9a6ad) (ok_li (ok_goto dJ1_canEncode_9a6ad_12 (by decide))) (
  ce_fc (P := P_J1_canEncode_9a6ad) (ok_reti dJ1_canEncode_9a6ad_16 rfl) (
  ce_fn (P := P_J1_canEncode_9a6ad)))))))))
noncomputable def ta_J1_canEncode_9a6ad : Nat → Option ce_N := (ce_fd tb_J1_canEncode_9a6ad_0)
theorem tx_J1_canEncode_9a6ad : ∀ pc f, ta_J1_canEncode_9a6ad pc = some f → P_J1_canEncode_9a6ad pc f := (ce_fd_ok (P := P_J1_canEncode_9a6ad) tk_J1_canEncode_9a6ad_0)
noncomputable def F_J1_canEncode_9a6ad : ce_C := ce_M ta_J1_canEncode_9a6ad 1 0 0 1000000
theorem m_J1_canEncode_9a6ad : ∀ l : Launch, l.stackTraces = false → ce_MS l yJ1_canEncode_9a6ad (.code yJ1_canEncode_9a6ad cJ1_canEncode_9a6ad 1 (some .boolean)) 0 0 0 F_J1_canEncode_9a6ad := fun l hl => ce_met hl (by decide +kernel) tx_J1_canEncode_9a6ad
theorem hp_J1_canEncode_9a6ad : yJ1_canEncode_9a6ad.cls ≠ "java/lang/invoke/MethodHandle" ∧ yJ1_canEncode_9a6ad.cls ≠ "java/lang/invoke/VarHandle" ∧ (parseMethodDescriptor yJ1_canEncode_9a6ad.desc).map (fun d => d.parameters.length) = some 1 := by decide +kernel
abbrev P_J1_indexOfChar_4cfef : Nat → ce_N → Prop := ce_OKN "java/lang/StringLatin1" "indexOfChar" cJ1_indexOfChar_4cfef 6 (some .int) 0 (some [])
noncomputable def tb_J1_indexOfChar_4cfef_0 : List (Nat × ce_N) := [(0, ce_li (ce_iload 1 1)),
  (1, ce_li (ce_i2b 2)),
  (2, ce_li (ce_istore 4 4 6)),
  (4, ce_li (ce_iload 2 5)),
  (5, ce_li (ce_istore 5 7 6)),
  (7, ce_li (ce_iload 5 9)),
  (9, ce_li (ce_iload 3 10)),
  (10, ce_li (ce_icmp false false true 31 13)),
  (13, ce_li (ce_aload 0 14)),
  (14, ce_li (ce_iload 5 16)),
  (16, ce_li (ce_bald 17)),
  (17, ce_li (ce_iload 4 19)),
  (19, ce_li (ce_icmp true false true 25 22)),
  (22, ce_li (ce_iload 5 24))]
theorem tk_J1_indexOfChar_4cfef_0 : ∀ x ∈ tb_J1_indexOfChar_4cfef_0, P_J1_indexOfChar_4cfef x.1 x.2 :=
  ce_fc (P := P_J1_indexOfChar_4cfef) (ok_li (ok_iload_n dJ1_indexOfChar_4cfef_0 rfl)) (
  ce_fc (P := P_J1_indexOfChar_4cfef) (ok_li (ok_i2b dJ1_indexOfChar_4cfef_1)) (
  ce_fc (P := P_J1_indexOfChar_4cfef) (ok_li (ok_istore dJ1_indexOfChar_4cfef_2)) (
  ce_fc (P := P_J1_indexOfChar_4cfef) (ok_li (ok_iload_n dJ1_indexOfChar_4cfef_4 rfl)) (
  ce_fc (P := P_J1_indexOfChar_4cfef) (ok_li (ok_istore dJ1_indexOfChar_4cfef_5)) (
  ce_fc (P := P_J1_indexOfChar_4cfef) (ok_li (ok_iload dJ1_indexOfChar_4cfef_7)) (
  ce_fc (P := P_J1_indexOfChar_4cfef) (ok_li (ok_iload_n dJ1_indexOfChar_4cfef_9 rfl)) (
  ce_fc (P := P_J1_indexOfChar_4cfef) (ok_li (ok_icmp_ge dJ1_indexOfChar_4cfef_10 (by decide))) (
  ce_fc (P := P_J1_indexOfChar_4cfef) (ok_li (ok_aload_n dJ1_indexOfChar_4cfef_13 rfl)) (
  ce_fc (P := P_J1_indexOfChar_4cfef) (ok_li (ok_iload dJ1_indexOfChar_4cfef_14)) (
  ce_fc (P := P_J1_indexOfChar_4cfef) (ok_li (ok_bald dJ1_indexOfChar_4cfef_16)) (
  ce_fc (P := P_J1_indexOfChar_4cfef) (ok_li (ok_iload dJ1_indexOfChar_4cfef_17)) (
  ce_fc (P := P_J1_indexOfChar_4cfef) (ok_li (ok_icmp_ne dJ1_indexOfChar_4cfef_19 (by decide))) (
  ce_fc (P := P_J1_indexOfChar_4cfef) (ok_li (ok_iload dJ1_indexOfChar_4cfef_22)) (
  ce_fn (P := P_J1_indexOfChar_4cfef)))))))))))))))
noncomputable def tb_J1_indexOfChar_4cfef_1 : List (Nat × ce_N) := [(24, ce_reti .int)]
theorem tk_J1_indexOfChar_4cfef_1 : ∀ x ∈ tb_J1_indexOfChar_4cfef_1, P_J1_indexOfChar_4cfef x.1 x.2 :=
  ce_fc (P := P_J1_indexOfChar_4cfef) (ok_reti dJ1_indexOfChar_4cfef_24 rfl) (
  ce_fn (P := P_J1_indexOfChar_4cfef))
noncomputable def ta_J1_indexOfChar_4cfef : Nat → Option ce_N := (ce_tr 24 (ce_fd tb_J1_indexOfChar_4cfef_0) (ce_fd tb_J1_indexOfChar_4cfef_1))
theorem tx_J1_indexOfChar_4cfef : ∀ pc f, ta_J1_indexOfChar_4cfef pc = some f → P_J1_indexOfChar_4cfef pc f := (ce_tr_ok (P := P_J1_indexOfChar_4cfef) (ce_fd_ok (P := P_J1_indexOfChar_4cfef) tk_J1_indexOfChar_4cfef_0) (ce_fd_ok (P := P_J1_indexOfChar_4cfef) tk_J1_indexOfChar_4cfef_1))
noncomputable def F_J1_indexOfChar_4cfef : ce_C := ce_M ta_J1_indexOfChar_4cfef 6 0 0 1000000
theorem m_J1_indexOfChar_4cfef : ∀ l : Launch, l.stackTraces = false → ce_MS l yJ1_indexOfChar_4cfef (.code yJ1_indexOfChar_4cfef cJ1_indexOfChar_4cfef 6 (some .int)) 0 0 0 F_J1_indexOfChar_4cfef := fun l hl => ce_met hl (by decide +kernel) tx_J1_indexOfChar_4cfef
theorem hp_J1_indexOfChar_4cfef : yJ1_indexOfChar_4cfef.cls ≠ "java/lang/invoke/MethodHandle" ∧ yJ1_indexOfChar_4cfef.cls ≠ "java/lang/invoke/VarHandle" ∧ (parseMethodDescriptor yJ1_indexOfChar_4cfef.desc).map (fun d => d.parameters.length) = some 4 := by decide +kernel
abbrev P_J3_checkIndex_8e157 : Nat → ce_N → Prop := ce_OKN "jdk/internal/util/Preconditions" "checkIndex" cJ3_checkIndex_8e157 3 (some .int) 0 (some [])
noncomputable def tb_J3_checkIndex_8e157_0 : List (Nat × ce_N) := [(0, ce_li (ce_iload 0 1)),
  (1, ce_li (ce_if false false false 9 4)),
  (4, ce_li (ce_iload 0 5)),
  (5, ce_li (ce_iload 1 6)),
  (6, ce_li (ce_icmp false false false 16 9)),
  (16, ce_li (ce_iload 0 17)),
  (17, ce_reti .int)]
theorem tk_J3_checkIndex_8e157_0 : ∀ x ∈ tb_J3_checkIndex_8e157_0, P_J3_checkIndex_8e157 x.1 x.2 :=
  ce_fc (P := P_J3_checkIndex_8e157) (ok_li (ok_iload_n dJ3_checkIndex_8e157_0 rfl)) (
  ce_fc (P := P_J3_checkIndex_8e157) (ok_li (ok_if_lt dJ3_checkIndex_8e157_1 (by decide))) (
  ce_fc (P := P_J3_checkIndex_8e157) (ok_li (ok_iload_n dJ3_checkIndex_8e157_4 rfl)) (
  ce_fc (P := P_J3_checkIndex_8e157) (ok_li (ok_iload_n dJ3_checkIndex_8e157_5 rfl)) (
  ce_fc (P := P_J3_checkIndex_8e157) (ok_li (ok_icmp_lt dJ3_checkIndex_8e157_6 (by decide))) (
  ce_fc (P := P_J3_checkIndex_8e157) (ok_li (ok_iload_n dJ3_checkIndex_8e157_16 rfl)) (
  ce_fc (P := P_J3_checkIndex_8e157) (ok_reti dJ3_checkIndex_8e157_17 rfl) (
  ce_fn (P := P_J3_checkIndex_8e157))))))))
noncomputable def ta_J3_checkIndex_8e157 : Nat → Option ce_N := (ce_fd tb_J3_checkIndex_8e157_0)
theorem tx_J3_checkIndex_8e157 : ∀ pc f, ta_J3_checkIndex_8e157 pc = some f → P_J3_checkIndex_8e157 pc f := (ce_fd_ok (P := P_J3_checkIndex_8e157) tk_J3_checkIndex_8e157_0)
noncomputable def F_J3_checkIndex_8e157 : ce_C := ce_M ta_J3_checkIndex_8e157 3 0 0 1000000
theorem m_J3_checkIndex_8e157 : ∀ l : Launch, l.stackTraces = false → ce_MS l yJ3_checkIndex_8e157 (.code yJ3_checkIndex_8e157 cJ3_checkIndex_8e157 3 (some .int)) 0 0 0 F_J3_checkIndex_8e157 := fun l hl => ce_met hl (by decide +kernel) tx_J3_checkIndex_8e157
theorem hp_J3_checkIndex_8e157 : yJ3_checkIndex_8e157.cls ≠ "java/lang/invoke/MethodHandle" ∧ yJ3_checkIndex_8e157.cls ≠ "java/lang/invoke/VarHandle" ∧ (parseMethodDescriptor yJ3_checkIndex_8e157.desc).map (fun d => d.parameters.length) = some 3 := by decide +kernel
abbrev P_Jx35411_hasNext_aae02 : Nat → ce_N → Prop := ce_OKN "java/util/ArrayList$Itr" "hasNext" cJx35411_hasNext_aae02 1 (some .boolean) 0 (some [])
noncomputable def tb_Jx35411_hasNext_aae02_0 : List (Nat × ce_N) := [(0, ce_li (ce_aload 0 1)),
  (1, ce_li (ce_getf 2 0 4)),
  (4, ce_li (ce_aload 0 5)),
  (5, ce_li (ce_getf 2 3 8)),
  (8, ce_li (ce_getf 3 2 11)),
  (11, ce_li (ce_icmp true false false 18 14)),
  (18, ce_li (ce_push (.inl (.inl (0))) 19)),
  (19, ce_reti .boolean)]
theorem tk_Jx35411_hasNext_aae02_0 : ∀ x ∈ tb_Jx35411_hasNext_aae02_0, P_Jx35411_hasNext_aae02 x.1 x.2 :=
  ce_fc (P := P_Jx35411_hasNext_aae02) (ok_li (ok_aload_n dJx35411_hasNext_aae02_0 rfl)) (
  ce_fc (P := P_Jx35411_hasNext_aae02) (ok_li (ok_getf (ci := 2) (k := 0) (C := RJx35411) (T := TJx35411) (N := 4) dJx35411_hasNext_aae02_1 rfl ce_uJx35411 (by decide) gw_1807 (fun _ _ _ _ h => h))) (
  ce_fc (P := P_Jx35411_hasNext_aae02) (ok_li (ok_aload_n dJx35411_hasNext_aae02_4 rfl)) (
  ce_fc (P := P_Jx35411_hasNext_aae02) (ok_li (ok_getf (ci := 2) (k := 3) (C := RJx35411) (T := TJx35411) (N := 4) dJx35411_hasNext_aae02_5 rfl ce_uJx35411 (by decide) gw_1810 (fun _ _ _ _ h => h))) (
  ce_fc (P := P_Jx35411_hasNext_aae02) (ok_li (ok_getfN (ci := 3) (k := 2) (C := RJx4a65c) (T := TJx4a65c) (N := 3) dJx35411_hasNext_aae02_8 rfl ce_uJx4a65c (by decide) gn_21 (fun _ _ _ _ h => h))) (
  ce_fc (P := P_Jx35411_hasNext_aae02) (ok_li (ok_icmp_eq dJx35411_hasNext_aae02_11 (by decide))) (
  ce_fc (P := P_Jx35411_hasNext_aae02) (ok_li (ok_iconst dJx35411_hasNext_aae02_18)) (
  ce_fc (P := P_Jx35411_hasNext_aae02) (ok_reti dJx35411_hasNext_aae02_19 rfl) (
  ce_fn (P := P_Jx35411_hasNext_aae02)))))))))
noncomputable def ta_Jx35411_hasNext_aae02 : Nat → Option ce_N := (ce_fd tb_Jx35411_hasNext_aae02_0)
theorem tx_Jx35411_hasNext_aae02 : ∀ pc f, ta_Jx35411_hasNext_aae02 pc = some f → P_Jx35411_hasNext_aae02 pc f := (ce_fd_ok (P := P_Jx35411_hasNext_aae02) tk_Jx35411_hasNext_aae02_0)
noncomputable def F_Jx35411_hasNext_aae02 : ce_C := ce_M ta_Jx35411_hasNext_aae02 1 0 0 1000000
theorem m_Jx35411_hasNext_aae02 : ∀ l : Launch, l.stackTraces = false → ce_MS l ce_yI (.code ce_yI cJx35411_hasNext_aae02 1 (some .boolean)) 0 0 0 F_Jx35411_hasNext_aae02 := fun l hl => ce_met hl (by decide +kernel) tx_Jx35411_hasNext_aae02
theorem hp_Jx35411_hasNext_aae02 : ce_yI.cls ≠ "java/lang/invoke/MethodHandle" ∧ ce_yI.cls ≠ "java/lang/invoke/VarHandle" ∧ (parseMethodDescriptor ce_yI.desc).map (fun d => d.parameters.length) = some 0 := by decide +kernel
abbrev P_Jx35411_init_45d68 : Nat → ce_N → Prop := ce_OKN "java/util/ArrayList$Itr" "<init>" cJx35411_init_45d68 2 none 0 (some [])
noncomputable def tb_Jx35411_init_45d68_0 : List (Nat × ce_N) := [(0, ce_li (ce_aload 0 1)),
  (1, ce_li (ce_aload 1 2)),
  (2, ce_li (ce_putf (tyJx35411 3) 2 3 5)),
  (5, ce_li (ce_aload 0 6)),
  (6, ce_li (ce_oi 9)),
  (9, ce_li (ce_aload 0 10)),
  (10, ce_li (ce_push (.inl (.inl (-1))) 11)),
  (11, ce_li (ce_putf (tyJx35411 1) 2 1 14)),
  (14, ce_li (ce_aload 0 15)),
  (15, ce_li (ce_aload 0 16)),
  (16, ce_li (ce_getf 2 3 19)),
  (19, ce_li (ce_getf 3 0 22)),
  (22, ce_li (ce_putf (tyJx35411 2) 2 2 25)),
  (25, ce_ret0)]
theorem tk_Jx35411_init_45d68_0 : ∀ x ∈ tb_Jx35411_init_45d68_0, P_Jx35411_init_45d68 x.1 x.2 :=
  ce_fc (P := P_Jx35411_init_45d68) (ok_li (ok_aload_n dJx35411_init_45d68_0 rfl)) (
  ce_fc (P := P_Jx35411_init_45d68) (ok_li (ok_aload_n dJx35411_init_45d68_1 rfl)) (
  ce_fc (P := P_Jx35411_init_45d68) (ok_li (ok_putf (ci := 2) (k := 3) (C := RJx35411) (T := TJx35411) (N := 4) (ty0 := tyJx35411) dJx35411_init_45d68_2 rfl ce_uJx35411 (by decide) gw_1810 (fun _ _ _ _ h => h) tyJx35411_ok nmJx35411 (Or.inr ⟨rfl, rfl, rfl⟩))) (
  ce_fc (P := P_Jx35411_init_45d68) (ok_li (ok_aload_n dJx35411_init_45d68_5 rfl)) (
  ce_fc (P := P_Jx35411_init_45d68) (ok_li (ok_oi dJx35411_init_45d68_6 gw_1806 gw_57 gw_58)) (
  ce_fc (P := P_Jx35411_init_45d68) (ok_li (ok_aload_n dJx35411_init_45d68_9 rfl)) (
  ce_fc (P := P_Jx35411_init_45d68) (ok_li (ok_iconst dJx35411_init_45d68_10)) (
  ce_fc (P := P_Jx35411_init_45d68) (ok_li (ok_putf (ci := 2) (k := 1) (C := RJx35411) (T := TJx35411) (N := 4) (ty0 := tyJx35411) dJx35411_init_45d68_11 rfl ce_uJx35411 (by decide) gw_1808 (fun _ _ _ _ h => h) tyJx35411_ok nmJx35411 (Or.inl rfl))) (
  ce_fc (P := P_Jx35411_init_45d68) (ok_li (ok_aload_n dJx35411_init_45d68_14 rfl)) (
  ce_fc (P := P_Jx35411_init_45d68) (ok_li (ok_aload_n dJx35411_init_45d68_15 rfl)) (
  ce_fc (P := P_Jx35411_init_45d68) (ok_li (ok_getf (ci := 2) (k := 3) (C := RJx35411) (T := TJx35411) (N := 4) dJx35411_init_45d68_16 rfl ce_uJx35411 (by decide) gw_1810 (fun _ _ _ _ h => h))) (
  ce_fc (P := P_Jx35411_init_45d68) (ok_li (ok_getf (ci := 3) (k := 0) (C := RJx4a65c) (T := TJx4a65c) (N := 3) dJx35411_init_45d68_19 rfl ce_uJx4a65c (by decide) gw_1510 (fun s args hw x h => u_same (hw _ gw_1511) x h))) (
  ce_fc (P := P_Jx35411_init_45d68) (ok_li (ok_putf (ci := 2) (k := 2) (C := RJx35411) (T := TJx35411) (N := 4) (ty0 := tyJx35411) dJx35411_init_45d68_22 rfl ce_uJx35411 (by decide) gw_1809 (fun _ _ _ _ h => h) tyJx35411_ok nmJx35411 (Or.inl rfl))) (
  ce_fc (P := P_Jx35411_init_45d68) (ok_ret0 dJx35411_init_45d68_25 rfl) (
  ce_fn (P := P_Jx35411_init_45d68)))))))))))))))
noncomputable def ta_Jx35411_init_45d68 : Nat → Option ce_N := (ce_fd tb_Jx35411_init_45d68_0)
theorem tx_Jx35411_init_45d68 : ∀ pc f, ta_Jx35411_init_45d68 pc = some f → P_Jx35411_init_45d68 pc f := (ce_fd_ok (P := P_Jx35411_init_45d68) tk_Jx35411_init_45d68_0)
noncomputable def F_Jx35411_init_45d68 : ce_C := ce_M ta_Jx35411_init_45d68 2 0 0 1000000
theorem m_Jx35411_init_45d68 : ∀ l : Launch, l.stackTraces = false → ce_MS l yJx35411_init_45d68 (.code yJx35411_init_45d68 cJx35411_init_45d68 2 none) 0 0 0 F_Jx35411_init_45d68 := fun l hl => ce_met hl (by decide +kernel) tx_Jx35411_init_45d68
theorem hp_Jx35411_init_45d68 : yJx35411_init_45d68.cls ≠ "java/lang/invoke/MethodHandle" ∧ yJx35411_init_45d68.cls ≠ "java/lang/invoke/VarHandle" ∧ (parseMethodDescriptor yJx35411_init_45d68.desc).map (fun d => d.parameters.length) = some 1 := by decide +kernel
abbrev P_Jx4a65c_elementData_915e3 : Nat → ce_N → Prop := ce_OKN "java/util/ArrayList" "elementData" cJx4a65c_elementData_915e3 2 (some (.object "java/lang/Object")) 0 (some [])
noncomputable def tb_Jx4a65c_elementData_915e3_0 : List (Nat × ce_N) := [(0, ce_li (ce_aload 0 1)),
  (1, ce_li (ce_getf 3 1 4)),
  (4, ce_li (ce_iload 1 5)),
  (5, ce_li (ce_aald 6)),
  (6, ce_reta)]
theorem tk_Jx4a65c_elementData_915e3_0 : ∀ x ∈ tb_Jx4a65c_elementData_915e3_0, P_Jx4a65c_elementData_915e3 x.1 x.2 :=
  ce_fc (P := P_Jx4a65c_elementData_915e3) (ok_li (ok_aload_n dJx4a65c_elementData_915e3_0 rfl)) (
  ce_fc (P := P_Jx4a65c_elementData_915e3) (ok_li (ok_getf (ci := 3) (k := 1) (C := RJx4a65c) (T := TJx4a65c) (N := 3) dJx4a65c_elementData_915e3_1 rfl ce_uJx4a65c (by decide) gw_1505 (fun _ _ _ _ h => h))) (
  ce_fc (P := P_Jx4a65c_elementData_915e3) (ok_li (ok_iload_n dJx4a65c_elementData_915e3_4 rfl)) (
  ce_fc (P := P_Jx4a65c_elementData_915e3) (ok_li (ok_aald dJx4a65c_elementData_915e3_5)) (
  ce_fc (P := P_Jx4a65c_elementData_915e3) (ok_reta dJx4a65c_elementData_915e3_6 rfl (Or.inl ⟨_, rfl⟩)) (
  ce_fn (P := P_Jx4a65c_elementData_915e3))))))
noncomputable def ta_Jx4a65c_elementData_915e3 : Nat → Option ce_N := (ce_fd tb_Jx4a65c_elementData_915e3_0)
theorem tx_Jx4a65c_elementData_915e3 : ∀ pc f, ta_Jx4a65c_elementData_915e3 pc = some f → P_Jx4a65c_elementData_915e3 pc f := (ce_fd_ok (P := P_Jx4a65c_elementData_915e3) tk_Jx4a65c_elementData_915e3_0)
noncomputable def F_Jx4a65c_elementData_915e3 : ce_C := ce_M ta_Jx4a65c_elementData_915e3 2 0 0 1000000
theorem m_Jx4a65c_elementData_915e3 : ∀ l : Launch, l.stackTraces = false → ce_MS l yJx4a65c_elementData_915e3 (.code yJx4a65c_elementData_915e3 cJx4a65c_elementData_915e3 2 (some (.object "java/lang/Object"))) 0 0 0 F_Jx4a65c_elementData_915e3 := fun l hl => ce_met hl (by decide +kernel) tx_Jx4a65c_elementData_915e3
theorem hp_Jx4a65c_elementData_915e3 : yJx4a65c_elementData_915e3.cls ≠ "java/lang/invoke/MethodHandle" ∧ yJx4a65c_elementData_915e3.cls ≠ "java/lang/invoke/VarHandle" ∧ (parseMethodDescriptor yJx4a65c_elementData_915e3.desc).map (fun d => d.parameters.length) = some 1 := by decide +kernel
abbrev P_Jx4a65c_grow_92f84 : Nat → ce_N → Prop := ce_OKN "java/util/ArrayList" "grow" cJx4a65c_grow_92f84 4 (some (.array (.object "java/lang/Object"))) 0 (some [])
noncomputable def tb_Jx4a65c_grow_92f84_0 : List (Nat × ce_N) := [(0, ce_li (ce_aload 0 1)),
  (1, ce_li (ce_getf 3 1 4)),
  (4, ce_li (ce_alen 5)),
  (5, ce_li (ce_istore 2 6 4)),
  (6, ce_li (ce_iload 2 7)),
  (7, ce_li (ce_if false true false 20 10)),
  (10, ce_li (ce_aload 0 11)),
  (11, ce_li (ce_getf 3 1 14)),
  (14, ce_li (ce_push (.inr (.inr (.inl (.inr 1)))) 17)),
  (17, ce_li (ce_acmp false 45 20)),
  (45, ce_li (ce_aload 0 46)),
  (46, ce_li (ce_push (.inl (.inl (10))) 48)),
  (48, ce_li (ce_iload 1 49)),
  (49, ce_li (ce_mm true 52))]
theorem tk_Jx4a65c_grow_92f84_0 : ∀ x ∈ tb_Jx4a65c_grow_92f84_0, P_Jx4a65c_grow_92f84 x.1 x.2 :=
  ce_fc (P := P_Jx4a65c_grow_92f84) (ok_li (ok_aload_n dJx4a65c_grow_92f84_0 rfl)) (
  ce_fc (P := P_Jx4a65c_grow_92f84) (ok_li (ok_getf (ci := 3) (k := 1) (C := RJx4a65c) (T := TJx4a65c) (N := 3) dJx4a65c_grow_92f84_1 rfl ce_uJx4a65c (by decide) gw_1505 (fun _ _ _ _ h => h))) (
  ce_fc (P := P_Jx4a65c_grow_92f84) (ok_li (ok_alen dJx4a65c_grow_92f84_4)) (
  ce_fc (P := P_Jx4a65c_grow_92f84) (ok_li (ok_istore_n dJx4a65c_grow_92f84_5 rfl)) (
  ce_fc (P := P_Jx4a65c_grow_92f84) (ok_li (ok_iload_n dJx4a65c_grow_92f84_6 rfl)) (
  ce_fc (P := P_Jx4a65c_grow_92f84) (ok_li (ok_if_gt dJx4a65c_grow_92f84_7 (by decide))) (
  ce_fc (P := P_Jx4a65c_grow_92f84) (ok_li (ok_aload_n dJx4a65c_grow_92f84_10 rfl)) (
  ce_fc (P := P_Jx4a65c_grow_92f84) (ok_li (ok_getf (ci := 3) (k := 1) (C := RJx4a65c) (T := TJx4a65c) (N := 3) dJx4a65c_grow_92f84_11 rfl ce_uJx4a65c (by decide) gw_1505 (fun _ _ _ _ h => h))) (
  ce_fc (P := P_Jx4a65c_grow_92f84) (ok_li (ok_gets (sv := (.inr (.inr (.inl (.inr 1))))) ce_z6 dJx4a65c_grow_92f84_14 gw_1503 rfl)) (
  ce_fc (P := P_Jx4a65c_grow_92f84) (ok_li (ok_acmp_eq dJx4a65c_grow_92f84_17 (by decide))) (
  ce_fc (P := P_Jx4a65c_grow_92f84) (ok_li (ok_aload_n dJx4a65c_grow_92f84_45 rfl)) (
  ce_fc (P := P_Jx4a65c_grow_92f84) (ok_li (ok_bipush dJx4a65c_grow_92f84_46 (by decide))) (
  ce_fc (P := P_Jx4a65c_grow_92f84) (ok_li (ok_iload_n dJx4a65c_grow_92f84_48 rfl)) (
  ce_fc (P := P_Jx4a65c_grow_92f84) (ok_li (ok_mmax dJx4a65c_grow_92f84_49 gw_1783 gw_593 gw_25 gw_594)) (
  ce_fn (P := P_Jx4a65c_grow_92f84)))))))))))))))
noncomputable def tb_Jx4a65c_grow_92f84_1 : List (Nat × ce_N) := [(52, ce_li (ce_newa 6 3 55)),
  (55, ce_li (ce_dup_x1 56)),
  (56, ce_li (ce_putf (tyJx4a65c 1) 3 1 59)),
  (59, ce_reta)]
theorem tk_Jx4a65c_grow_92f84_1 : ∀ x ∈ tb_Jx4a65c_grow_92f84_1, P_Jx4a65c_grow_92f84 x.1 x.2 :=
  ce_fc (P := P_Jx4a65c_grow_92f84) (ok_li (ok_newq (C := "java/lang/Object") (t := 6) dJx4a65c_grow_92f84_52 gw_1784 (by decide) (fun _ => rfl) (fun z ad n => ce_refs (by decide) (by decide) (by decide) z ad n))) (
  ce_fc (P := P_Jx4a65c_grow_92f84) (ok_li (ok_dup_x1 dJx4a65c_grow_92f84_55)) (
  ce_fc (P := P_Jx4a65c_grow_92f84) (ok_li (ok_putf (ci := 3) (k := 1) (C := RJx4a65c) (T := TJx4a65c) (N := 3) (ty0 := tyJx4a65c) dJx4a65c_grow_92f84_56 rfl ce_uJx4a65c (by decide) gw_1505 (fun _ _ _ _ h => h) tyJx4a65c_ok nmJx4a65c (Or.inl rfl))) (
  ce_fc (P := P_Jx4a65c_grow_92f84) (ok_reta dJx4a65c_grow_92f84_59 rfl (Or.inr ⟨_, rfl⟩)) (
  ce_fn (P := P_Jx4a65c_grow_92f84)))))
noncomputable def ta_Jx4a65c_grow_92f84 : Nat → Option ce_N := (ce_tr 52 (ce_fd tb_Jx4a65c_grow_92f84_0) (ce_fd tb_Jx4a65c_grow_92f84_1))
theorem tx_Jx4a65c_grow_92f84 : ∀ pc f, ta_Jx4a65c_grow_92f84 pc = some f → P_Jx4a65c_grow_92f84 pc f := (ce_tr_ok (P := P_Jx4a65c_grow_92f84) (ce_fd_ok (P := P_Jx4a65c_grow_92f84) tk_Jx4a65c_grow_92f84_0) (ce_fd_ok (P := P_Jx4a65c_grow_92f84) tk_Jx4a65c_grow_92f84_1))
noncomputable def F_Jx4a65c_grow_92f84 : ce_C := ce_M ta_Jx4a65c_grow_92f84 4 1 10 1000000
theorem m_Jx4a65c_grow_92f84 : ∀ l : Launch, l.stackTraces = false → ce_MS l yJx4a65c_grow_92f84 (.code yJx4a65c_grow_92f84 cJx4a65c_grow_92f84 4 (some (.array (.object "java/lang/Object")))) 0 1 10 F_Jx4a65c_grow_92f84 := fun l hl => ce_met hl (by decide +kernel) tx_Jx4a65c_grow_92f84
theorem hp_Jx4a65c_grow_92f84 : yJx4a65c_grow_92f84.cls ≠ "java/lang/invoke/MethodHandle" ∧ yJx4a65c_grow_92f84.cls ≠ "java/lang/invoke/VarHandle" ∧ (parseMethodDescriptor yJx4a65c_grow_92f84.desc).map (fun d => d.parameters.length) = some 1 := by decide +kernel
abbrev P_Jx4a65c_isEmpty_aae02 : Nat → ce_N → Prop := ce_OKN "java/util/ArrayList" "isEmpty" cJx4a65c_isEmpty_aae02 1 (some .boolean) 0 (some [])
noncomputable def tb_Jx4a65c_isEmpty_aae02_0 : List (Nat × ce_N) := [(0, ce_li (ce_aload 0 1)),
  (1, ce_li (ce_getf 3 2 4)),
  (4, ce_li (ce_if true false true 11 7)),
  (7, ce_li (ce_push (.inl (.inl (1))) 8)),
  (8, ce_li (ce_goto 12)),
  (12, ce_reti .boolean)]
theorem tk_Jx4a65c_isEmpty_aae02_0 : ∀ x ∈ tb_Jx4a65c_isEmpty_aae02_0, P_Jx4a65c_isEmpty_aae02 x.1 x.2 :=
  ce_fc (P := P_Jx4a65c_isEmpty_aae02) (ok_li (ok_aload_n dJx4a65c_isEmpty_aae02_0 rfl)) (
  ce_fc (P := P_Jx4a65c_isEmpty_aae02) (ok_li (ok_getf (ci := 3) (k := 2) (C := RJx4a65c) (T := TJx4a65c) (N := 3) dJx4a65c_isEmpty_aae02_1 rfl ce_uJx4a65c (by decide) gw_1508 (fun _ _ _ _ h => h))) (
  ce_fc (P := P_Jx4a65c_isEmpty_aae02) (ok_li (ok_if_ne dJx4a65c_isEmpty_aae02_4 (by decide))) (
  ce_fc (P := P_Jx4a65c_isEmpty_aae02) (ok_li (ok_iconst dJx4a65c_isEmpty_aae02_7)) (
  ce_fc (P := P_Jx4a65c_isEmpty_aae02) (ok_li (ok_goto dJx4a65c_isEmpty_aae02_8 (by decide))) (
  ce_fc (P := P_Jx4a65c_isEmpty_aae02) (ok_reti dJx4a65c_isEmpty_aae02_12 rfl) (
  ce_fn (P := P_Jx4a65c_isEmpty_aae02)))))))
noncomputable def ta_Jx4a65c_isEmpty_aae02 : Nat → Option ce_N := (ce_fd tb_Jx4a65c_isEmpty_aae02_0)
theorem tx_Jx4a65c_isEmpty_aae02 : ∀ pc f, ta_Jx4a65c_isEmpty_aae02 pc = some f → P_Jx4a65c_isEmpty_aae02 pc f := (ce_fd_ok (P := P_Jx4a65c_isEmpty_aae02) tk_Jx4a65c_isEmpty_aae02_0)
noncomputable def F_Jx4a65c_isEmpty_aae02 : ce_C := ce_M ta_Jx4a65c_isEmpty_aae02 1 0 0 1000000
theorem m_Jx4a65c_isEmpty_aae02 : ∀ l : Launch, l.stackTraces = false → ce_MS l yJx4a65c_isEmpty_aae02 (.code yJx4a65c_isEmpty_aae02 cJx4a65c_isEmpty_aae02 1 (some .boolean)) 0 0 0 F_Jx4a65c_isEmpty_aae02 := fun l hl => ce_met hl (by decide +kernel) tx_Jx4a65c_isEmpty_aae02
theorem hp_Jx4a65c_isEmpty_aae02 : yJx4a65c_isEmpty_aae02.cls ≠ "java/lang/invoke/MethodHandle" ∧ yJx4a65c_isEmpty_aae02.cls ≠ "java/lang/invoke/VarHandle" ∧ (parseMethodDescriptor yJx4a65c_isEmpty_aae02.desc).map (fun d => d.parameters.length) = some 0 := by decide +kernel
abbrev P_Jx4a65c_size_8abf5 : Nat → ce_N → Prop := ce_OKN "java/util/ArrayList" "size" cJx4a65c_size_8abf5 1 (some .int) 0 (some [])
noncomputable def tb_Jx4a65c_size_8abf5_0 : List (Nat × ce_N) := [(0, ce_li (ce_aload 0 1)),
  (1, ce_li (ce_getf 3 2 4)),
  (4, ce_reti .int)]
theorem tk_Jx4a65c_size_8abf5_0 : ∀ x ∈ tb_Jx4a65c_size_8abf5_0, P_Jx4a65c_size_8abf5 x.1 x.2 :=
  ce_fc (P := P_Jx4a65c_size_8abf5) (ok_li (ok_aload_n dJx4a65c_size_8abf5_0 rfl)) (
  ce_fc (P := P_Jx4a65c_size_8abf5) (ok_li (ok_getf (ci := 3) (k := 2) (C := RJx4a65c) (T := TJx4a65c) (N := 3) dJx4a65c_size_8abf5_1 rfl ce_uJx4a65c (by decide) gw_1508 (fun _ _ _ _ h => h))) (
  ce_fc (P := P_Jx4a65c_size_8abf5) (ok_reti dJx4a65c_size_8abf5_4 rfl) (
  ce_fn (P := P_Jx4a65c_size_8abf5))))
noncomputable def ta_Jx4a65c_size_8abf5 : Nat → Option ce_N := (ce_fd tb_Jx4a65c_size_8abf5_0)
theorem tx_Jx4a65c_size_8abf5 : ∀ pc f, ta_Jx4a65c_size_8abf5 pc = some f → P_Jx4a65c_size_8abf5 pc f := (ce_fd_ok (P := P_Jx4a65c_size_8abf5) tk_Jx4a65c_size_8abf5_0)
noncomputable def F_Jx4a65c_size_8abf5 : ce_C := ce_M ta_Jx4a65c_size_8abf5 1 0 0 1000000
theorem m_Jx4a65c_size_8abf5 : ∀ l : Launch, l.stackTraces = false → ce_MS l yJx4a65c_size_8abf5 (.code yJx4a65c_size_8abf5 cJx4a65c_size_8abf5 1 (some .int)) 0 0 0 F_Jx4a65c_size_8abf5 := fun l hl => ce_met hl (by decide +kernel) tx_Jx4a65c_size_8abf5
theorem hp_Jx4a65c_size_8abf5 : yJx4a65c_size_8abf5.cls ≠ "java/lang/invoke/MethodHandle" ∧ yJx4a65c_size_8abf5.cls ≠ "java/lang/invoke/VarHandle" ∧ (parseMethodDescriptor yJx4a65c_size_8abf5.desc).map (fun d => d.parameters.length) = some 0 := by decide +kernel
abbrev P_Jxa1e45_init_da8c8 : Nat → ce_N → Prop := ce_OKN "java/util/AbstractCollection" "<init>" cJxa1e45_init_da8c8 1 none 0 (some [])
noncomputable def tb_Jxa1e45_init_da8c8_0 : List (Nat × ce_N) := [(0, ce_li (ce_aload 0 1)),
  (1, ce_li (ce_oi 4)),
  (4, ce_ret0)]
theorem tk_Jxa1e45_init_da8c8_0 : ∀ x ∈ tb_Jxa1e45_init_da8c8_0, P_Jxa1e45_init_da8c8 x.1 x.2 :=
  ce_fc (P := P_Jxa1e45_init_da8c8) (ok_li (ok_aload_n dJxa1e45_init_da8c8_0 rfl)) (
  ce_fc (P := P_Jxa1e45_init_da8c8) (ok_li (ok_oi dJxa1e45_init_da8c8_1 gw_1502 gw_57 gw_58)) (
  ce_fc (P := P_Jxa1e45_init_da8c8) (ok_ret0 dJxa1e45_init_da8c8_4 rfl) (
  ce_fn (P := P_Jxa1e45_init_da8c8))))
noncomputable def ta_Jxa1e45_init_da8c8 : Nat → Option ce_N := (ce_fd tb_Jxa1e45_init_da8c8_0)
theorem tx_Jxa1e45_init_da8c8 : ∀ pc f, ta_Jxa1e45_init_da8c8 pc = some f → P_Jxa1e45_init_da8c8 pc f := (ce_fd_ok (P := P_Jxa1e45_init_da8c8) tk_Jxa1e45_init_da8c8_0)
noncomputable def F_Jxa1e45_init_da8c8 : ce_C := ce_M ta_Jxa1e45_init_da8c8 1 0 0 1000000
theorem m_Jxa1e45_init_da8c8 : ∀ l : Launch, l.stackTraces = false → ce_MS l yJxa1e45_init_da8c8 (.code yJxa1e45_init_da8c8 cJxa1e45_init_da8c8 1 none) 0 0 0 F_Jxa1e45_init_da8c8 := fun l hl => ce_met hl (by decide +kernel) tx_Jxa1e45_init_da8c8
theorem hp_Jxa1e45_init_da8c8 : yJxa1e45_init_da8c8.cls ≠ "java/lang/invoke/MethodHandle" ∧ yJxa1e45_init_da8c8.cls ≠ "java/lang/invoke/VarHandle" ∧ (parseMethodDescriptor yJxa1e45_init_da8c8.desc).map (fun d => d.parameters.length) = some 0 := by decide +kernel
abbrev P_X0_init : Nat → ce_N → Prop := ce_OKN "Carcasswright$Board" "<init>" cX0_init 1 none 0 (some [])
noncomputable def tb_X0_init_0 : List (Nat × ce_N) := [(0, ce_li (ce_aload 0 1)),
  (1, ce_li (ce_oi 4)),
  (4, ce_ret0)]
theorem tk_X0_init_0 : ∀ x ∈ tb_X0_init_0, P_X0_init x.1 x.2 :=
  ce_fc (P := P_X0_init) (ok_li (ok_aload_n dX0_init_0 rfl)) (
  ce_fc (P := P_X0_init) (ok_li (ok_oi dX0_init_1 gw_296 gw_57 gw_58)) (
  ce_fc (P := P_X0_init) (ok_ret0 dX0_init_4 rfl) (
  ce_fn (P := P_X0_init))))
noncomputable def ta_X0_init : Nat → Option ce_N := (ce_fd tb_X0_init_0)
theorem tx_X0_init : ∀ pc f, ta_X0_init pc = some f → P_X0_init pc f := (ce_fd_ok (P := P_X0_init) tk_X0_init_0)
noncomputable def F_X0_init : ce_C := ce_M ta_X0_init 1 0 0 1000000
theorem m_X0_init : ∀ l : Launch, l.stackTraces = false → ce_MS l yX0_init (.code yX0_init cX0_init 1 none) 0 0 0 F_X0_init := fun l hl => ce_met hl (by decide +kernel) tx_X0_init
theorem hp_X0_init : yX0_init.cls ≠ "java/lang/invoke/MethodHandle" ∧ yX0_init.cls ≠ "java/lang/invoke/VarHandle" ∧ (parseMethodDescriptor yX0_init.desc).map (fun d => d.parameters.length) = some 0 := by decide +kernel
abbrev P_X10_init : Nat → ce_N → Prop := ce_OKN "Carcasswright$Wall" "<init>" cX10_init 1 none 0 (some [])
noncomputable def tb_X10_init_0 : List (Nat × ce_N) := [(0, ce_li (ce_aload 0 1)),
  (1, ce_li (ce_oi 4)),
  (4, ce_li (ce_aload 0 5)),
  (5, ce_li (ce_push (.inl (.inl (101))) 7)),
  (7, ce_li (ce_putf (tyX10 0) 14 0 10)),
  (10, ce_ret0)]
theorem tk_X10_init_0 : ∀ x ∈ tb_X10_init_0, P_X10_init x.1 x.2 :=
  ce_fc (P := P_X10_init) (ok_li (ok_aload_n dX10_init_0 rfl)) (
  ce_fc (P := P_X10_init) (ok_li (ok_oi dX10_init_1 gw_169 gw_57 gw_58)) (
  ce_fc (P := P_X10_init) (ok_li (ok_aload_n dX10_init_4 rfl)) (
  ce_fc (P := P_X10_init) (ok_li (ok_bipush dX10_init_5 (by decide))) (
  ce_fc (P := P_X10_init) (ok_li (ok_putf (ci := 14) (k := 0) (C := RX10) (T := TX10) (N := 6) (ty0 := tyX10) dX10_init_7 rfl ce_uX10 (by decide) gw_170 (fun _ _ _ _ h => h) tyX10_ok nmX10 (Or.inl rfl))) (
  ce_fc (P := P_X10_init) (ok_ret0 dX10_init_10 rfl) (
  ce_fn (P := P_X10_init)))))))
noncomputable def ta_X10_init : Nat → Option ce_N := (ce_fd tb_X10_init_0)
theorem tx_X10_init : ∀ pc f, ta_X10_init pc = some f → P_X10_init pc f := (ce_fd_ok (P := P_X10_init) tk_X10_init_0)
noncomputable def F_X10_init : ce_C := ce_M ta_X10_init 1 0 0 1000000
theorem m_X10_init : ∀ l : Launch, l.stackTraces = false → ce_MS l yX10_init (.code yX10_init cX10_init 1 none) 0 0 0 F_X10_init := fun l hl => ce_met hl (by decide +kernel) tx_X10_init
theorem hp_X10_init : yX10_init.cls ≠ "java/lang/invoke/MethodHandle" ∧ yX10_init.cls ≠ "java/lang/invoke/VarHandle" ∧ (parseMethodDescriptor yX10_init.desc).map (fun d => d.parameters.length) = some 0 := by decide +kernel
abbrev P_X11_isOutside : Nat → ce_N → Prop := ce_OKN "Carcasswright" "isOutside" cX11_isOutside 3 (some .boolean) 0 (some [])
noncomputable def tb_X11_isOutside_0 : List (Nat × ce_N) := [(0, ce_li (ce_iload 0 1)),
  (1, ce_li (ce_iload 1 2)),
  (2, ce_li (ce_icmp false false false 10 5)),
  (5, ce_li (ce_iload 0 6)),
  (6, ce_li (ce_iload 2 7)),
  (7, ce_li (ce_icmp false true true 14 10)),
  (14, ce_li (ce_push (.inl (.inl (0))) 15)),
  (15, ce_reti .boolean)]
theorem tk_X11_isOutside_0 : ∀ x ∈ tb_X11_isOutside_0, P_X11_isOutside x.1 x.2 :=
  ce_fc (P := P_X11_isOutside) (ok_li (ok_iload_n dX11_isOutside_0 rfl)) (
  ce_fc (P := P_X11_isOutside) (ok_li (ok_iload_n dX11_isOutside_1 rfl)) (
  ce_fc (P := P_X11_isOutside) (ok_li (ok_icmp_lt dX11_isOutside_2 (by decide))) (
  ce_fc (P := P_X11_isOutside) (ok_li (ok_iload_n dX11_isOutside_5 rfl)) (
  ce_fc (P := P_X11_isOutside) (ok_li (ok_iload_n dX11_isOutside_6 rfl)) (
  ce_fc (P := P_X11_isOutside) (ok_li (ok_icmp_le dX11_isOutside_7 (by decide))) (
  ce_fc (P := P_X11_isOutside) (ok_li (ok_iconst dX11_isOutside_14)) (
  ce_fc (P := P_X11_isOutside) (ok_reti dX11_isOutside_15 rfl) (
  ce_fn (P := P_X11_isOutside)))))))))
noncomputable def ta_X11_isOutside : Nat → Option ce_N := (ce_fd tb_X11_isOutside_0)
theorem tx_X11_isOutside : ∀ pc f, ta_X11_isOutside pc = some f → P_X11_isOutside pc f := (ce_fd_ok (P := P_X11_isOutside) tk_X11_isOutside_0)
noncomputable def F_X11_isOutside : ce_C := ce_M ta_X11_isOutside 3 0 0 1000000
theorem m_X11_isOutside : ∀ l : Launch, l.stackTraces = false → ce_MS l yX11_isOutside (.code yX11_isOutside cX11_isOutside 3 (some .boolean)) 0 0 0 F_X11_isOutside := fun l hl => ce_met hl (by decide +kernel) tx_X11_isOutside
theorem hp_X11_isOutside : yX11_isOutside.cls ≠ "java/lang/invoke/MethodHandle" ∧ yX11_isOutside.cls ≠ "java/lang/invoke/VarHandle" ∧ (parseMethodDescriptor yX11_isOutside.desc).map (fun d => d.parameters.length) = some 3 := by decide +kernel
abbrev P_X1_init : Nat → ce_N → Prop := ce_OKN "Carcasswright$Jobs" "<init>" cX1_init 1 none 0 (some [])
noncomputable def tb_X1_init_0 : List (Nat × ce_N) := [(0, ce_li (ce_aload 0 1)),
  (1, ce_li (ce_oi 4)),
  (4, ce_li (ce_aload 0 5)),
  (5, ce_li (ce_push (.inl (.inl (6))) 7)),
  (7, ce_li (ce_newa 0 2 9)),
  (9, ce_li (ce_putf (tyX1 0) 5 0 12)),
  (12, ce_li (ce_aload 0 13)),
  (13, ce_li (ce_push (.inl (.inl (6))) 15)),
  (15, ce_li (ce_newa 0 2 17)),
  (17, ce_li (ce_putf (tyX1 1) 5 1 20)),
  (20, ce_li (ce_aload 0 21)),
  (21, ce_li (ce_push (.inl (.inl (6))) 23)),
  (23, ce_li (ce_newa 0 2 25)),
  (25, ce_li (ce_putf (tyX1 2) 5 2 28))]
theorem tk_X1_init_0 : ∀ x ∈ tb_X1_init_0, P_X1_init x.1 x.2 :=
  ce_fc (P := P_X1_init) (ok_li (ok_aload_n dX1_init_0 rfl)) (
  ce_fc (P := P_X1_init) (ok_li (ok_oi dX1_init_1 gw_424 gw_57 gw_58)) (
  ce_fc (P := P_X1_init) (ok_li (ok_aload_n dX1_init_4 rfl)) (
  ce_fc (P := P_X1_init) (ok_li (ok_bipush dX1_init_5 (by decide))) (
  ce_fc (P := P_X1_init) (ok_li (ok_newa_int dX1_init_7 gw_193)) (
  ce_fc (P := P_X1_init) (ok_li (ok_putf (ci := 5) (k := 0) (C := RX1) (T := TX1) (N := 8) (ty0 := tyX1) dX1_init_9 rfl ce_uX1 (by decide) gw_425 (fun _ _ _ _ h => h) tyX1_ok nmX1 (Or.inr ⟨rfl, rfl, rfl⟩))) (
  ce_fc (P := P_X1_init) (ok_li (ok_aload_n dX1_init_12 rfl)) (
  ce_fc (P := P_X1_init) (ok_li (ok_bipush dX1_init_13 (by decide))) (
  ce_fc (P := P_X1_init) (ok_li (ok_newa_int dX1_init_15 gw_193)) (
  ce_fc (P := P_X1_init) (ok_li (ok_putf (ci := 5) (k := 1) (C := RX1) (T := TX1) (N := 8) (ty0 := tyX1) dX1_init_17 rfl ce_uX1 (by decide) gw_426 (fun _ _ _ _ h => h) tyX1_ok nmX1 (Or.inr ⟨rfl, rfl, rfl⟩))) (
  ce_fc (P := P_X1_init) (ok_li (ok_aload_n dX1_init_20 rfl)) (
  ce_fc (P := P_X1_init) (ok_li (ok_bipush dX1_init_21 (by decide))) (
  ce_fc (P := P_X1_init) (ok_li (ok_newa_int dX1_init_23 gw_193)) (
  ce_fc (P := P_X1_init) (ok_li (ok_putf (ci := 5) (k := 2) (C := RX1) (T := TX1) (N := 8) (ty0 := tyX1) dX1_init_25 rfl ce_uX1 (by decide) gw_427 (fun _ _ _ _ h => h) tyX1_ok nmX1 (Or.inr ⟨rfl, rfl, rfl⟩))) (
  ce_fn (P := P_X1_init)))))))))))))))
noncomputable def tb_X1_init_1 : List (Nat × ce_N) := [(28, ce_li (ce_aload 0 29)),
  (29, ce_li (ce_push (.inl (.inl (6))) 31)),
  (31, ce_li (ce_newa 0 2 33)),
  (33, ce_li (ce_putf (tyX1 3) 5 3 36)),
  (36, ce_li (ce_aload 0 37)),
  (37, ce_li (ce_push (.inl (.inl (6))) 39)),
  (39, ce_li (ce_newa 0 2 41)),
  (41, ce_li (ce_putf (tyX1 4) 5 4 44)),
  (44, ce_li (ce_aload 0 45)),
  (45, ce_li (ce_push (.inl (.inl (2))) 46)),
  (46, ce_li (ce_putf (tyX1 6) 5 6 49)),
  (49, ce_ret0)]
theorem tk_X1_init_1 : ∀ x ∈ tb_X1_init_1, P_X1_init x.1 x.2 :=
  ce_fc (P := P_X1_init) (ok_li (ok_aload_n dX1_init_28 rfl)) (
  ce_fc (P := P_X1_init) (ok_li (ok_bipush dX1_init_29 (by decide))) (
  ce_fc (P := P_X1_init) (ok_li (ok_newa_int dX1_init_31 gw_193)) (
  ce_fc (P := P_X1_init) (ok_li (ok_putf (ci := 5) (k := 3) (C := RX1) (T := TX1) (N := 8) (ty0 := tyX1) dX1_init_33 rfl ce_uX1 (by decide) gw_428 (fun _ _ _ _ h => h) tyX1_ok nmX1 (Or.inr ⟨rfl, rfl, rfl⟩))) (
  ce_fc (P := P_X1_init) (ok_li (ok_aload_n dX1_init_36 rfl)) (
  ce_fc (P := P_X1_init) (ok_li (ok_bipush dX1_init_37 (by decide))) (
  ce_fc (P := P_X1_init) (ok_li (ok_newa_int dX1_init_39 gw_193)) (
  ce_fc (P := P_X1_init) (ok_li (ok_putf (ci := 5) (k := 4) (C := RX1) (T := TX1) (N := 8) (ty0 := tyX1) dX1_init_41 rfl ce_uX1 (by decide) gw_429 (fun _ _ _ _ h => h) tyX1_ok nmX1 (Or.inr ⟨rfl, rfl, rfl⟩))) (
  ce_fc (P := P_X1_init) (ok_li (ok_aload_n dX1_init_44 rfl)) (
  ce_fc (P := P_X1_init) (ok_li (ok_iconst dX1_init_45)) (
  ce_fc (P := P_X1_init) (ok_li (ok_putf (ci := 5) (k := 6) (C := RX1) (T := TX1) (N := 8) (ty0 := tyX1) dX1_init_46 rfl ce_uX1 (by decide) gw_433 (fun _ _ _ _ h => h) tyX1_ok nmX1 (Or.inl rfl))) (
  ce_fc (P := P_X1_init) (ok_ret0 dX1_init_49 rfl) (
  ce_fn (P := P_X1_init)))))))))))))
noncomputable def ta_X1_init : Nat → Option ce_N := (ce_tr 28 (ce_fd tb_X1_init_0) (ce_fd tb_X1_init_1))
theorem tx_X1_init : ∀ pc f, ta_X1_init pc = some f → P_X1_init pc f := (ce_tr_ok (P := P_X1_init) (ce_fd_ok (P := P_X1_init) tk_X1_init_0) (ce_fd_ok (P := P_X1_init) tk_X1_init_1))
noncomputable def F_X1_init : ce_C := ce_M ta_X1_init 1 5 30 1000000
theorem m_X1_init : ∀ l : Launch, l.stackTraces = false → ce_MS l yX1_init (.code yX1_init cX1_init 1 none) 0 5 30 F_X1_init := fun l hl => ce_met hl (by decide +kernel) tx_X1_init
theorem hp_X1_init : yX1_init.cls ≠ "java/lang/invoke/MethodHandle" ∧ yX1_init.cls ≠ "java/lang/invoke/VarHandle" ∧ (parseMethodDescriptor yX1_init.desc).map (fun d => d.parameters.length) = some 0 := by decide +kernel
abbrev P_X20_init : Nat → ce_N → Prop := ce_OKN "CarcasswrightModel$Wall" "<init>" cX20_init 3 none 0 (some [])
noncomputable def tb_X20_init_0 : List (Nat × ce_N) := [(0, ce_li (ce_aload 0 1)),
  (1, ce_li (ce_oi 4)),
  (4, ce_li (ce_aload 0 5)),
  (5, ce_li (ce_iload 1 6)),
  (6, ce_li (ce_putf (tyX20 0) 19 0 9)),
  (9, ce_li (ce_aload 0 10)),
  (10, ce_li (ce_iload 2 11)),
  (11, ce_li (ce_putf (tyX20 1) 19 1 14)),
  (14, ce_li (ce_aload 0 15)),
  (15, ce_li (ce_iload 2 16)),
  (16, ce_li (ce_putf (tyX20 2) 19 2 19)),
  (19, ce_ret0)]
theorem tk_X20_init_0 : ∀ x ∈ tb_X20_init_0, P_X20_init x.1 x.2 :=
  ce_fc (P := P_X20_init) (ok_li (ok_aload_n dX20_init_0 rfl)) (
  ce_fc (P := P_X20_init) (ok_li (ok_oi dX20_init_1 gw_1690 gw_57 gw_58)) (
  ce_fc (P := P_X20_init) (ok_li (ok_aload_n dX20_init_4 rfl)) (
  ce_fc (P := P_X20_init) (ok_li (ok_iload_n dX20_init_5 rfl)) (
  ce_fc (P := P_X20_init) (ok_li (ok_putf (ci := 19) (k := 0) (C := RX20) (T := TX20) (N := 5) (ty0 := tyX20) dX20_init_6 rfl ce_uX20 (by decide) gw_1691 (fun _ _ _ _ h => h) tyX20_ok nmX20 (Or.inr ⟨rfl, rfl, rfl⟩))) (
  ce_fc (P := P_X20_init) (ok_li (ok_aload_n dX20_init_9 rfl)) (
  ce_fc (P := P_X20_init) (ok_li (ok_iload_n dX20_init_10 rfl)) (
  ce_fc (P := P_X20_init) (ok_li (ok_putf (ci := 19) (k := 1) (C := RX20) (T := TX20) (N := 5) (ty0 := tyX20) dX20_init_11 rfl ce_uX20 (by decide) gw_1693 (fun _ _ _ _ h => h) tyX20_ok nmX20 (Or.inr ⟨rfl, rfl, rfl⟩))) (
  ce_fc (P := P_X20_init) (ok_li (ok_aload_n dX20_init_14 rfl)) (
  ce_fc (P := P_X20_init) (ok_li (ok_iload_n dX20_init_15 rfl)) (
  ce_fc (P := P_X20_init) (ok_li (ok_putf (ci := 19) (k := 2) (C := RX20) (T := TX20) (N := 5) (ty0 := tyX20) dX20_init_16 rfl ce_uX20 (by decide) gw_1695 (fun _ _ _ _ h => h) tyX20_ok nmX20 (Or.inl rfl))) (
  ce_fc (P := P_X20_init) (ok_ret0 dX20_init_19 rfl) (
  ce_fn (P := P_X20_init)))))))))))))
noncomputable def ta_X20_init : Nat → Option ce_N := (ce_fd tb_X20_init_0)
theorem tx_X20_init : ∀ pc f, ta_X20_init pc = some f → P_X20_init pc f := (ce_fd_ok (P := P_X20_init) tk_X20_init_0)
noncomputable def F_X20_init : ce_C := ce_M ta_X20_init 3 0 0 1000000
theorem m_X20_init : ∀ l : Launch, l.stackTraces = false → ce_MS l yX20_init (.code yX20_init cX20_init 3 none) 0 0 0 F_X20_init := fun l hl => ce_met hl (by decide +kernel) tx_X20_init
theorem hp_X20_init : yX20_init.cls ≠ "java/lang/invoke/MethodHandle" ∧ yX20_init.cls ≠ "java/lang/invoke/VarHandle" ∧ (parseMethodDescriptor yX20_init.desc).map (fun d => d.parameters.length) = some 2 := by decide +kernel
abbrev P_X21_in : Nat → ce_N → Prop := ce_OKN "CarcasswrightModel" "in" cX21_in 3 (some .boolean) 0 (some [])
noncomputable def tb_X21_in_0 : List (Nat × ce_N) := [(0, ce_li (ce_iload 0 1)),
  (1, ce_li (ce_iload 1 2)),
  (2, ce_li (ce_icmp false false false 14 5)),
  (5, ce_li (ce_iload 0 6)),
  (6, ce_li (ce_iload 2 7)),
  (7, ce_li (ce_icmp false true false 14 10)),
  (10, ce_li (ce_push (.inl (.inl (1))) 11)),
  (11, ce_li (ce_goto 15)),
  (15, ce_reti .boolean)]
theorem tk_X21_in_0 : ∀ x ∈ tb_X21_in_0, P_X21_in x.1 x.2 :=
  ce_fc (P := P_X21_in) (ok_li (ok_iload_n dX21_in_0 rfl)) (
  ce_fc (P := P_X21_in) (ok_li (ok_iload_n dX21_in_1 rfl)) (
  ce_fc (P := P_X21_in) (ok_li (ok_icmp_lt dX21_in_2 (by decide))) (
  ce_fc (P := P_X21_in) (ok_li (ok_iload_n dX21_in_5 rfl)) (
  ce_fc (P := P_X21_in) (ok_li (ok_iload_n dX21_in_6 rfl)) (
  ce_fc (P := P_X21_in) (ok_li (ok_icmp_gt dX21_in_7 (by decide))) (
  ce_fc (P := P_X21_in) (ok_li (ok_iconst dX21_in_10)) (
  ce_fc (P := P_X21_in) (ok_li (ok_goto dX21_in_11 (by decide))) (
  ce_fc (P := P_X21_in) (ok_reti dX21_in_15 rfl) (
  ce_fn (P := P_X21_in))))))))))
noncomputable def ta_X21_in : Nat → Option ce_N := (ce_fd tb_X21_in_0)
theorem tx_X21_in : ∀ pc f, ta_X21_in pc = some f → P_X21_in pc f := (ce_fd_ok (P := P_X21_in) tk_X21_in_0)
noncomputable def F_X21_in : ce_C := ce_M ta_X21_in 3 0 0 1000000
theorem m_X21_in : ∀ l : Launch, l.stackTraces = false → ce_MS l yX21_in (.code yX21_in cX21_in 3 (some .boolean)) 0 0 0 F_X21_in := fun l hl => ce_met hl (by decide +kernel) tx_X21_in
theorem hp_X21_in : yX21_in.cls ≠ "java/lang/invoke/MethodHandle" ∧ yX21_in.cls ≠ "java/lang/invoke/VarHandle" ∧ (parseMethodDescriptor yX21_in.desc).map (fun d => d.parameters.length) = some 3 := by decide +kernel
abbrev P_X2_init : Nat → ce_N → Prop := ce_OKN "Carcasswright$ModuleType" "<init>" cX2_init 1 none 0 (some [])
noncomputable def tb_X2_init_0 : List (Nat × ce_N) := [(0, ce_li (ce_aload 0 1)),
  (1, ce_li (ce_oi 4)),
  (4, ce_li (ce_aload 0 5)),
  (5, ce_li (ce_push (.inl (.inl (98))) 7)),
  (7, ce_li (ce_putf (tyX2 0) 6 0 10)),
  (10, ce_ret0)]
theorem tk_X2_init_0 : ∀ x ∈ tb_X2_init_0, P_X2_init x.1 x.2 :=
  ce_fc (P := P_X2_init) (ok_li (ok_aload_n dX2_init_0 rfl)) (
  ce_fc (P := P_X2_init) (ok_li (ok_oi dX2_init_1 gw_71 gw_57 gw_58)) (
  ce_fc (P := P_X2_init) (ok_li (ok_aload_n dX2_init_4 rfl)) (
  ce_fc (P := P_X2_init) (ok_li (ok_bipush dX2_init_5 (by decide))) (
  ce_fc (P := P_X2_init) (ok_li (ok_putf (ci := 6) (k := 0) (C := RX2) (T := TX2) (N := 9) (ty0 := tyX2) dX2_init_7 rfl ce_uX2 (by decide) gw_72 (fun _ _ _ _ h => h) tyX2_ok nmX2 (Or.inl rfl))) (
  ce_fc (P := P_X2_init) (ok_ret0 dX2_init_10 rfl) (
  ce_fn (P := P_X2_init)))))))
noncomputable def ta_X2_init : Nat → Option ce_N := (ce_fd tb_X2_init_0)
theorem tx_X2_init : ∀ pc f, ta_X2_init pc = some f → P_X2_init pc f := (ce_fd_ok (P := P_X2_init) tk_X2_init_0)
noncomputable def F_X2_init : ce_C := ce_M ta_X2_init 1 0 0 1000000
theorem m_X2_init : ∀ l : Launch, l.stackTraces = false → ce_MS l yX2_init (.code yX2_init cX2_init 1 none) 0 0 0 F_X2_init := fun l hl => ce_met hl (by decide +kernel) tx_X2_init
theorem hp_X2_init : yX2_init.cls ≠ "java/lang/invoke/MethodHandle" ∧ yX2_init.cls ≠ "java/lang/invoke/VarHandle" ∧ (parseMethodDescriptor yX2_init.desc).map (fun d => d.parameters.length) = some 0 := by decide +kernel
abbrev P_X3_init : Nat → ce_N → Prop := ce_OKN "Carcasswright$Obstacle" "<init>" cX3_init 1 none 0 (some [])
noncomputable def tb_X3_init_0 : List (Nat × ce_N) := [(0, ce_li (ce_aload 0 1)),
  (1, ce_li (ce_oi 4)),
  (4, ce_ret0)]
theorem tk_X3_init_0 : ∀ x ∈ tb_X3_init_0, P_X3_init x.1 x.2 :=
  ce_fc (P := P_X3_init) (ok_li (ok_aload_n dX3_init_0 rfl)) (
  ce_fc (P := P_X3_init) (ok_li (ok_oi dX3_init_1 gw_198 gw_57 gw_58)) (
  ce_fc (P := P_X3_init) (ok_ret0 dX3_init_4 rfl) (
  ce_fn (P := P_X3_init))))
noncomputable def ta_X3_init : Nat → Option ce_N := (ce_fd tb_X3_init_0)
theorem tx_X3_init : ∀ pc f, ta_X3_init pc = some f → P_X3_init pc f := (ce_fd_ok (P := P_X3_init) tk_X3_init_0)
noncomputable def F_X3_init : ce_C := ce_M ta_X3_init 1 0 0 1000000
theorem m_X3_init : ∀ l : Launch, l.stackTraces = false → ce_MS l yX3_init (.code yX3_init cX3_init 1 none) 0 0 0 F_X3_init := fun l hl => ce_met hl (by decide +kernel) tx_X3_init
theorem hp_X3_init : yX3_init.cls ≠ "java/lang/invoke/MethodHandle" ∧ yX3_init.cls ≠ "java/lang/invoke/VarHandle" ∧ (parseMethodDescriptor yX3_init.desc).map (fun d => d.parameters.length) = some 0 := by decide +kernel
abbrev P_X4_init : Nat → ce_N → Prop := ce_OKN "Carcasswright$Packer" "<init>" cX4_init 1 none 0 (some [])
noncomputable def tb_X4_init_0 : List (Nat × ce_N) := [(0, ce_li (ce_aload 0 1)),
  (1, ce_li (ce_oi 4)),
  (4, ce_li (ce_aload 0 5)),
  (5, ce_li (ce_push (.inl (.inl (25))) 7)),
  (7, ce_li (ce_newa 0 2 9)),
  (9, ce_li (ce_putf (tyX4 0) 8 0 12)),
  (12, ce_li (ce_aload 0 13)),
  (13, ce_li (ce_push (.inl (.inl (25))) 15)),
  (15, ce_li (ce_newa 0 2 17)),
  (17, ce_li (ce_putf (tyX4 1) 8 1 20)),
  (20, ce_li (ce_aload 0 21)),
  (21, ce_li (ce_push (.inl (.inl (25))) 23)),
  (23, ce_li (ce_newa 0 2 25)),
  (25, ce_li (ce_putf (tyX4 2) 8 2 28))]
theorem tk_X4_init_0 : ∀ x ∈ tb_X4_init_0, P_X4_init x.1 x.2 :=
  ce_fc (P := P_X4_init) (ok_li (ok_aload_n dX4_init_0 rfl)) (
  ce_fc (P := P_X4_init) (ok_li (ok_oi dX4_init_1 gw_404 gw_57 gw_58)) (
  ce_fc (P := P_X4_init) (ok_li (ok_aload_n dX4_init_4 rfl)) (
  ce_fc (P := P_X4_init) (ok_li (ok_bipush dX4_init_5 (by decide))) (
  ce_fc (P := P_X4_init) (ok_li (ok_newa_int dX4_init_7 gw_193)) (
  ce_fc (P := P_X4_init) (ok_li (ok_putf (ci := 8) (k := 0) (C := RX4) (T := TX4) (N := 4) (ty0 := tyX4) dX4_init_9 rfl ce_uX4 (by decide) gw_405 (fun _ _ _ _ h => h) tyX4_ok nmX4 (Or.inr ⟨rfl, rfl, rfl⟩))) (
  ce_fc (P := P_X4_init) (ok_li (ok_aload_n dX4_init_12 rfl)) (
  ce_fc (P := P_X4_init) (ok_li (ok_bipush dX4_init_13 (by decide))) (
  ce_fc (P := P_X4_init) (ok_li (ok_newa_int dX4_init_15 gw_193)) (
  ce_fc (P := P_X4_init) (ok_li (ok_putf (ci := 8) (k := 1) (C := RX4) (T := TX4) (N := 4) (ty0 := tyX4) dX4_init_17 rfl ce_uX4 (by decide) gw_406 (fun _ _ _ _ h => h) tyX4_ok nmX4 (Or.inr ⟨rfl, rfl, rfl⟩))) (
  ce_fc (P := P_X4_init) (ok_li (ok_aload_n dX4_init_20 rfl)) (
  ce_fc (P := P_X4_init) (ok_li (ok_bipush dX4_init_21 (by decide))) (
  ce_fc (P := P_X4_init) (ok_li (ok_newa_int dX4_init_23 gw_193)) (
  ce_fc (P := P_X4_init) (ok_li (ok_putf (ci := 8) (k := 2) (C := RX4) (T := TX4) (N := 4) (ty0 := tyX4) dX4_init_25 rfl ce_uX4 (by decide) gw_407 (fun _ _ _ _ h => h) tyX4_ok nmX4 (Or.inr ⟨rfl, rfl, rfl⟩))) (
  ce_fn (P := P_X4_init)))))))))))))))
noncomputable def tb_X4_init_1 : List (Nat × ce_N) := [(28, ce_ret0)]
theorem tk_X4_init_1 : ∀ x ∈ tb_X4_init_1, P_X4_init x.1 x.2 :=
  ce_fc (P := P_X4_init) (ok_ret0 dX4_init_28 rfl) (
  ce_fn (P := P_X4_init))
noncomputable def ta_X4_init : Nat → Option ce_N := (ce_tr 28 (ce_fd tb_X4_init_0) (ce_fd tb_X4_init_1))
theorem tx_X4_init : ∀ pc f, ta_X4_init pc = some f → P_X4_init pc f := (ce_tr_ok (P := P_X4_init) (ce_fd_ok (P := P_X4_init) tk_X4_init_0) (ce_fd_ok (P := P_X4_init) tk_X4_init_1))
noncomputable def F_X4_init : ce_C := ce_M ta_X4_init 1 3 75 1000000
theorem m_X4_init : ∀ l : Launch, l.stackTraces = false → ce_MS l yX4_init (.code yX4_init cX4_init 1 none) 0 3 75 F_X4_init := fun l hl => ce_met hl (by decide +kernel) tx_X4_init
theorem hp_X4_init : yX4_init.cls ≠ "java/lang/invoke/MethodHandle" ∧ yX4_init.cls ≠ "java/lang/invoke/VarHandle" ∧ (parseMethodDescriptor yX4_init.desc).map (fun d => d.parameters.length) = some 0 := by decide +kernel
abbrev P_X5_init : Nat → ce_N → Prop := ce_OKN "Carcasswright$PlacedModule" "<init>" cX5_init 2 none 0 (some [])
noncomputable def tb_X5_init_0 : List (Nat × ce_N) := [(0, ce_li (ce_aload 0 1)),
  (1, ce_li (ce_oi 4)),
  (4, ce_li (ce_aload 0 5)),
  (5, ce_li (ce_aload 1 6)),
  (6, ce_li (ce_putf (tyX5 0) 9 0 9)),
  (9, ce_ret0)]
theorem tk_X5_init_0 : ∀ x ∈ tb_X5_init_0, P_X5_init x.1 x.2 :=
  ce_fc (P := P_X5_init) (ok_li (ok_aload_n dX5_init_0 rfl)) (
  ce_fc (P := P_X5_init) (ok_li (ok_oi dX5_init_1 gw_219 gw_57 gw_58)) (
  ce_fc (P := P_X5_init) (ok_li (ok_aload_n dX5_init_4 rfl)) (
  ce_fc (P := P_X5_init) (ok_li (ok_aload_n dX5_init_5 rfl)) (
  ce_fc (P := P_X5_init) (ok_li (ok_putf (ci := 9) (k := 0) (C := RX5) (T := TX5) (N := 5) (ty0 := tyX5) dX5_init_6 rfl ce_uX5 (by decide) gw_220 (fun _ _ _ _ h => h) tyX5_ok nmX5 (Or.inl rfl))) (
  ce_fc (P := P_X5_init) (ok_ret0 dX5_init_9 rfl) (
  ce_fn (P := P_X5_init)))))))
noncomputable def ta_X5_init : Nat → Option ce_N := (ce_fd tb_X5_init_0)
theorem tx_X5_init : ∀ pc f, ta_X5_init pc = some f → P_X5_init pc f := (ce_fd_ok (P := P_X5_init) tk_X5_init_0)
noncomputable def F_X5_init : ce_C := ce_M ta_X5_init 2 0 0 1000000
theorem m_X5_init : ∀ l : Launch, l.stackTraces = false → ce_MS l yX5_init (.code yX5_init cX5_init 2 none) 0 0 0 F_X5_init := fun l hl => ce_met hl (by decide +kernel) tx_X5_init
theorem hp_X5_init : yX5_init.cls ≠ "java/lang/invoke/MethodHandle" ∧ yX5_init.cls ≠ "java/lang/invoke/VarHandle" ∧ (parseMethodDescriptor yX5_init.desc).map (fun d => d.parameters.length) = some 1 := by decide +kernel
abbrev P_X6_firstBehind : Nat → ce_N → Prop := ce_OKN "Carcasswright$Room" "firstBehind" cX6_firstBehind 9 (some (.object "Carcasswright$PlacedModule")) 0 (some [])
noncomputable def tb_X6_firstBehind_0 : List (Nat × ce_N) := [(0, ce_li (ce_push (.inr (.inr (.inr .null))) 1)),
  (1, ce_li (ce_astore 4 3 9)),
  (3, ce_li (ce_iload 2 4)),
  (4, ce_li (ce_if true false false 12 7)),
  (12, ce_li (ce_push (.inl (.inl (117))) 14)),
  (14, ce_li (ce_istore 5 16 9)),
  (16, ce_li (ce_push (.inl (.inl (0))) 17)),
  (17, ce_li (ce_istore 6 19 9)),
  (19, ce_li (ce_iload 6 21)),
  (21, ce_li (ce_aload 0 22)),
  (22, ce_li (ce_getf 10 8 25)),
  (25, ce_li (ce_icmp false false true 107 28)),
  (107, ce_li (ce_aload 4 109)),
  (109, ce_reta)]
theorem tk_X6_firstBehind_0 : ∀ x ∈ tb_X6_firstBehind_0, P_X6_firstBehind x.1 x.2 :=
  ce_fc (P := P_X6_firstBehind) (ok_li (ok_null dX6_firstBehind_0)) (
  ce_fc (P := P_X6_firstBehind) (ok_li (ok_astore dX6_firstBehind_1)) (
  ce_fc (P := P_X6_firstBehind) (ok_li (ok_iload_n dX6_firstBehind_3 rfl)) (
  ce_fc (P := P_X6_firstBehind) (ok_li (ok_if_eq dX6_firstBehind_4 (by decide))) (
  ce_fc (P := P_X6_firstBehind) (ok_li (ok_bipush dX6_firstBehind_12 (by decide))) (
  ce_fc (P := P_X6_firstBehind) (ok_li (ok_istore dX6_firstBehind_14)) (
  ce_fc (P := P_X6_firstBehind) (ok_li (ok_iconst dX6_firstBehind_16)) (
  ce_fc (P := P_X6_firstBehind) (ok_li (ok_istore dX6_firstBehind_17)) (
  ce_fc (P := P_X6_firstBehind) (ok_li (ok_iload dX6_firstBehind_19)) (
  ce_fc (P := P_X6_firstBehind) (ok_li (ok_aload_n dX6_firstBehind_21 rfl)) (
  ce_fc (P := P_X6_firstBehind) (ok_li (ok_getf (ci := 10) (k := 8) (C := RX6) (T := TX6) (N := 10) dX6_firstBehind_22 rfl ce_uX6 (by decide) gw_260 (fun _ _ _ _ h => h))) (
  ce_fc (P := P_X6_firstBehind) (ok_li (ok_icmp_ge dX6_firstBehind_25 (by decide))) (
  ce_fc (P := P_X6_firstBehind) (ok_li (ok_aload dX6_firstBehind_107)) (
  ce_fc (P := P_X6_firstBehind) (ok_reta dX6_firstBehind_109 rfl (Or.inl ⟨_, rfl⟩)) (
  ce_fn (P := P_X6_firstBehind)))))))))))))))
noncomputable def ta_X6_firstBehind : Nat → Option ce_N := (ce_fd tb_X6_firstBehind_0)
theorem tx_X6_firstBehind : ∀ pc f, ta_X6_firstBehind pc = some f → P_X6_firstBehind pc f := (ce_fd_ok (P := P_X6_firstBehind) tk_X6_firstBehind_0)
noncomputable def F_X6_firstBehind : ce_C := ce_M ta_X6_firstBehind 9 0 0 1000000
theorem m_X6_firstBehind : ∀ l : Launch, l.stackTraces = false → ce_MS l yX6_firstBehind (.code yX6_firstBehind cX6_firstBehind 9 (some (.object "Carcasswright$PlacedModule"))) 0 0 0 F_X6_firstBehind := fun l hl => ce_met hl (by decide +kernel) tx_X6_firstBehind
theorem hp_X6_firstBehind : yX6_firstBehind.cls ≠ "java/lang/invoke/MethodHandle" ∧ yX6_firstBehind.cls ≠ "java/lang/invoke/VarHandle" ∧ (parseMethodDescriptor yX6_firstBehind.desc).map (fun d => d.parameters.length) = some 3 := by decide +kernel
abbrev P_X6_wallAt : Nat → ce_N → Prop := ce_OKN "Carcasswright$Room" "wallAt" cX6_wallAt 2 (some (.object "Carcasswright$Wall")) 0 (some [])
noncomputable def tb_X6_wallAt_0 : List (Nat × ce_N) := [(0, ce_li (ce_iload 1 1)),
  (1, ce_li (ce_if false false false 18 4)),
  (4, ce_li (ce_iload 1 5)),
  (5, ce_li (ce_aload 0 6)),
  (6, ce_li (ce_getf 10 6 9)),
  (9, ce_li (ce_icmp false false true 18 12)),
  (12, ce_li (ce_iload 1 13)),
  (13, ce_li (ce_push (.inl (.inl (6))) 15)),
  (15, ce_li (ce_icmp false false false 26 18)),
  (26, ce_li (ce_aload 0 27)),
  (27, ce_li (ce_getf 10 0 30)),
  (30, ce_li (ce_iload 1 31)),
  (31, ce_li (ce_aald 32)),
  (32, ce_reta)]
theorem tk_X6_wallAt_0 : ∀ x ∈ tb_X6_wallAt_0, P_X6_wallAt x.1 x.2 :=
  ce_fc (P := P_X6_wallAt) (ok_li (ok_iload_n dX6_wallAt_0 rfl)) (
  ce_fc (P := P_X6_wallAt) (ok_li (ok_if_lt dX6_wallAt_1 (by decide))) (
  ce_fc (P := P_X6_wallAt) (ok_li (ok_iload_n dX6_wallAt_4 rfl)) (
  ce_fc (P := P_X6_wallAt) (ok_li (ok_aload_n dX6_wallAt_5 rfl)) (
  ce_fc (P := P_X6_wallAt) (ok_li (ok_getf (ci := 10) (k := 6) (C := RX6) (T := TX6) (N := 10) dX6_wallAt_6 rfl ce_uX6 (by decide) gw_255 (fun _ _ _ _ h => h))) (
  ce_fc (P := P_X6_wallAt) (ok_li (ok_icmp_ge dX6_wallAt_9 (by decide))) (
  ce_fc (P := P_X6_wallAt) (ok_li (ok_iload_n dX6_wallAt_12 rfl)) (
  ce_fc (P := P_X6_wallAt) (ok_li (ok_bipush dX6_wallAt_13 (by decide))) (
  ce_fc (P := P_X6_wallAt) (ok_li (ok_icmp_lt dX6_wallAt_15 (by decide))) (
  ce_fc (P := P_X6_wallAt) (ok_li (ok_aload_n dX6_wallAt_26 rfl)) (
  ce_fc (P := P_X6_wallAt) (ok_li (ok_getf (ci := 10) (k := 0) (C := RX6) (T := TX6) (N := 10) dX6_wallAt_27 rfl ce_uX6 (by decide) gw_247 (fun _ _ _ _ h => h))) (
  ce_fc (P := P_X6_wallAt) (ok_li (ok_iload_n dX6_wallAt_30 rfl)) (
  ce_fc (P := P_X6_wallAt) (ok_li (ok_aald dX6_wallAt_31)) (
  ce_fc (P := P_X6_wallAt) (ok_reta dX6_wallAt_32 rfl (Or.inl ⟨_, rfl⟩)) (
  ce_fn (P := P_X6_wallAt)))))))))))))))
noncomputable def ta_X6_wallAt : Nat → Option ce_N := (ce_fd tb_X6_wallAt_0)
theorem tx_X6_wallAt : ∀ pc f, ta_X6_wallAt pc = some f → P_X6_wallAt pc f := (ce_fd_ok (P := P_X6_wallAt) tk_X6_wallAt_0)
noncomputable def F_X6_wallAt : ce_C := ce_M ta_X6_wallAt 2 0 0 1000000
theorem m_X6_wallAt : ∀ l : Launch, l.stackTraces = false → ce_MS l yX6_wallAt (.code yX6_wallAt cX6_wallAt 2 (some (.object "Carcasswright$Wall"))) 0 0 0 F_X6_wallAt := fun l hl => ce_met hl (by decide +kernel) tx_X6_wallAt
theorem hp_X6_wallAt : yX6_wallAt.cls ≠ "java/lang/invoke/MethodHandle" ∧ yX6_wallAt.cls ≠ "java/lang/invoke/VarHandle" ∧ (parseMethodDescriptor yX6_wallAt.desc).map (fun d => d.parameters.length) = some 1 := by decide +kernel
abbrev P_X9_first : Nat → ce_N → Prop := ce_OKN "Carcasswright$Types" "first" cX9_first 1 (some (.object "Carcasswright$ModuleType")) 0 (some [])
noncomputable def tb_X9_first_0 : List (Nat × ce_N) := [(0, ce_li (ce_aload 0 1)),
  (1, ce_li (ce_getf 13 1 4)),
  (4, ce_li (ce_push (.inl (.inl (0))) 5)),
  (5, ce_li (ce_aald 6)),
  (6, ce_reta)]
theorem tk_X9_first_0 : ∀ x ∈ tb_X9_first_0, P_X9_first x.1 x.2 :=
  ce_fc (P := P_X9_first) (ok_li (ok_aload_n dX9_first_0 rfl)) (
  ce_fc (P := P_X9_first) (ok_li (ok_getf (ci := 13) (k := 1) (C := RX9) (T := TX9) (N := 10) dX9_first_1 rfl ce_uX9 (by decide) gw_115 (fun _ _ _ _ h => h))) (
  ce_fc (P := P_X9_first) (ok_li (ok_iconst dX9_first_4)) (
  ce_fc (P := P_X9_first) (ok_li (ok_aald dX9_first_5)) (
  ce_fc (P := P_X9_first) (ok_reta dX9_first_6 rfl (Or.inl ⟨_, rfl⟩)) (
  ce_fn (P := P_X9_first))))))
noncomputable def ta_X9_first : Nat → Option ce_N := (ce_fd tb_X9_first_0)
theorem tx_X9_first : ∀ pc f, ta_X9_first pc = some f → P_X9_first pc f := (ce_fd_ok (P := P_X9_first) tk_X9_first_0)
noncomputable def F_X9_first : ce_C := ce_M ta_X9_first 1 0 0 1000000
theorem m_X9_first : ∀ l : Launch, l.stackTraces = false → ce_MS l yX9_first (.code yX9_first cX9_first 1 (some (.object "Carcasswright$ModuleType"))) 0 0 0 F_X9_first := fun l hl => ce_met hl (by decide +kernel) tx_X9_first
theorem hp_X9_first : yX9_first.cls ≠ "java/lang/invoke/MethodHandle" ∧ yX9_first.cls ≠ "java/lang/invoke/VarHandle" ∧ (parseMethodDescriptor yX9_first.desc).map (fun d => d.parameters.length) = some 0 := by decide +kernel
abbrev P_J0_length_8abf5 : Nat → ce_N → Prop := ce_OKN "java/lang/String" "length" cJ0_length_8abf5 1 (some .int) 1 (some [])
noncomputable def tb_J0_length_8abf5_0 : List (Nat × ce_N) := [(0, ce_li (ce_aload 0 1)),
  (1, ce_li (ce_gets 0 4)),
  (4, ce_li (ce_alen 5)),
  (5, ce_li (ce_aload 0 6)),
  (6, ce_call 1 0 0 9 (.inr true) (ce_CV 0 F_J0_coder_7d493)),
  (9, ce_li (ce_bin ce_shr 10)),
  (10, ce_reti .int)]
theorem tk_J0_length_8abf5_0 : ∀ x ∈ tb_J0_length_8abf5_0, P_J0_length_8abf5 x.1 x.2 :=
  ce_fc (P := P_J0_length_8abf5) (ok_li (ok_aload_n dJ0_length_8abf5_0 rfl)) (
  ce_fc (P := P_J0_length_8abf5) (ok_li (ok_gets0 dJ0_length_8abf5_1 gw_2141)) (
  ce_fc (P := P_J0_length_8abf5) (ok_li (ok_alen dJ0_length_8abf5_4)) (
  ce_fc (P := P_J0_length_8abf5) (ok_li (ok_aload_n dJ0_length_8abf5_5 rfl)) (
  ce_fc (P := P_J0_length_8abf5) (ok_call (ru_V (ci := 0) (C := RJ0) (Tf := TJ0) (N := 4) m_J0_coder_7d493 (by decide) (by decide) rfl gw_1613 gw_1610 gw_1611 gw_1612 gw_23 ⟨rfl, hp_J0_coder_7d493⟩ dJ0_length_8abf5_6) ca_t) (
  ce_fc (P := P_J0_length_8abf5) (ok_li (ok_ishr dJ0_length_8abf5_9)) (
  ce_fc (P := P_J0_length_8abf5) (ok_reti dJ0_length_8abf5_10 rfl) (
  ce_fn (P := P_J0_length_8abf5))))))))
noncomputable def ta_J0_length_8abf5 : Nat → Option ce_N := (ce_fd tb_J0_length_8abf5_0)
theorem tx_J0_length_8abf5 : ∀ pc f, ta_J0_length_8abf5 pc = some f → P_J0_length_8abf5 pc f := (ce_fd_ok (P := P_J0_length_8abf5) tk_J0_length_8abf5_0)
noncomputable def F_J0_length_8abf5 : ce_C := ce_M ta_J0_length_8abf5 1 0 0 1000000
theorem m_J0_length_8abf5 : ∀ l : Launch, l.stackTraces = false → ce_MS l yJ0_length_8abf5 (.code yJ0_length_8abf5 cJ0_length_8abf5 1 (some .int)) 1 0 0 F_J0_length_8abf5 := fun l hl => ce_met hl (by decide +kernel) tx_J0_length_8abf5
theorem hp_J0_length_8abf5 : yJ0_length_8abf5.cls ≠ "java/lang/invoke/MethodHandle" ∧ yJ0_length_8abf5.cls ≠ "java/lang/invoke/VarHandle" ∧ (parseMethodDescriptor yJ0_length_8abf5.desc).map (fun d => d.parameters.length) = some 0 := by decide +kernel
abbrev P_J15_checkIndex_7cf53 : Nat → ce_N → Prop := ce_OKN "java/util/Objects" "checkIndex" cJ15_checkIndex_7cf53 2 (some .int) 1 (some [])
noncomputable def tb_J15_checkIndex_7cf53_0 : List (Nat × ce_N) := [(0, ce_li (ce_iload 0 1)),
  (1, ce_li (ce_iload 1 2)),
  (2, ce_li (ce_push (.inr (.inr (.inr .null))) 3)),
  (3, ce_call 3 0 0 6 (.inr true) F_J3_checkIndex_8e157),
  (6, ce_reti .int)]
theorem tk_J15_checkIndex_7cf53_0 : ∀ x ∈ tb_J15_checkIndex_7cf53_0, P_J15_checkIndex_7cf53 x.1 x.2 :=
  ce_fc (P := P_J15_checkIndex_7cf53) (ok_li (ok_iload_n dJ15_checkIndex_7cf53_0 rfl)) (
  ce_fc (P := P_J15_checkIndex_7cf53) (ok_li (ok_iload_n dJ15_checkIndex_7cf53_1 rfl)) (
  ce_fc (P := P_J15_checkIndex_7cf53) (ok_li (ok_null dJ15_checkIndex_7cf53_2)) (
  ce_fc (P := P_J15_checkIndex_7cf53) (ok_call (ru_S m_J3_checkIndex_8e157 (by decide) (by decide) gw_1863 gw_1861 gw_1862 gw_27 hp_J3_checkIndex_8e157 dJ15_checkIndex_7cf53_3) ca_t) (
  ce_fc (P := P_J15_checkIndex_7cf53) (ok_reti dJ15_checkIndex_7cf53_6 rfl) (
  ce_fn (P := P_J15_checkIndex_7cf53))))))
noncomputable def ta_J15_checkIndex_7cf53 : Nat → Option ce_N := (ce_fd tb_J15_checkIndex_7cf53_0)
theorem tx_J15_checkIndex_7cf53 : ∀ pc f, ta_J15_checkIndex_7cf53 pc = some f → P_J15_checkIndex_7cf53 pc f := (ce_fd_ok (P := P_J15_checkIndex_7cf53) tk_J15_checkIndex_7cf53_0)
noncomputable def F_J15_checkIndex_7cf53 : ce_C := ce_M ta_J15_checkIndex_7cf53 2 0 0 1000000
theorem m_J15_checkIndex_7cf53 : ∀ l : Launch, l.stackTraces = false → ce_MS l yJ15_checkIndex_7cf53 (.code yJ15_checkIndex_7cf53 cJ15_checkIndex_7cf53 2 (some .int)) 1 0 0 F_J15_checkIndex_7cf53 := fun l hl => ce_met hl (by decide +kernel) tx_J15_checkIndex_7cf53
theorem hp_J15_checkIndex_7cf53 : yJ15_checkIndex_7cf53.cls ≠ "java/lang/invoke/MethodHandle" ∧ yJ15_checkIndex_7cf53.cls ≠ "java/lang/invoke/VarHandle" ∧ (parseMethodDescriptor yJ15_checkIndex_7cf53.desc).map (fun d => d.parameters.length) = some 2 := by decide +kernel
abbrev P_J1_indexOf_4cfef : Nat → ce_N → Prop := ce_OKN "java/lang/StringLatin1" "indexOf" cJ1_indexOf_4cfef 4 (some .int) 1 (some [])
noncomputable def tb_J1_indexOf_4cfef_0 : List (Nat × ce_N) := [(0, ce_li (ce_iload 1 1)),
  (1, ce_call 1 0 0 4 (.inr true) F_J1_canEncode_9a6ad),
  (4, ce_li (ce_if true false true 9 7)),
  (9, ce_li (ce_iload 2 10)),
  (10, ce_li (ce_push (.inl (.inl (0))) 11)),
  (11, ce_li (ce_mm true 14)),
  (14, ce_li (ce_istore 2 15 4)),
  (15, ce_li (ce_iload 3 16)),
  (16, ce_li (ce_aload 0 17)),
  (17, ce_li (ce_alen 18)),
  (18, ce_li (ce_mm false 21)),
  (21, ce_li (ce_istore 3 22 4)),
  (22, ce_li (ce_iload 2 23)),
  (23, ce_li (ce_iload 3 24))]
theorem tk_J1_indexOf_4cfef_0 : ∀ x ∈ tb_J1_indexOf_4cfef_0, P_J1_indexOf_4cfef x.1 x.2 :=
  ce_fc (P := P_J1_indexOf_4cfef) (ok_li (ok_iload_n dJ1_indexOf_4cfef_0 rfl)) (
  ce_fc (P := P_J1_indexOf_4cfef) (ok_call (ru_S m_J1_canEncode_9a6ad (by decide) (by decide) gw_1619 gw_1617 gw_1618 gw_24 hp_J1_canEncode_9a6ad dJ1_indexOf_4cfef_1) ca_t) (
  ce_fc (P := P_J1_indexOf_4cfef) (ok_li (ok_if_ne dJ1_indexOf_4cfef_4 (by decide))) (
  ce_fc (P := P_J1_indexOf_4cfef) (ok_li (ok_iload_n dJ1_indexOf_4cfef_9 rfl)) (
  ce_fc (P := P_J1_indexOf_4cfef) (ok_li (ok_iconst dJ1_indexOf_4cfef_10)) (
  ce_fc (P := P_J1_indexOf_4cfef) (ok_li (ok_mmax dJ1_indexOf_4cfef_11 gw_1620 gw_593 gw_25 gw_594)) (
  ce_fc (P := P_J1_indexOf_4cfef) (ok_li (ok_istore_n dJ1_indexOf_4cfef_14 rfl)) (
  ce_fc (P := P_J1_indexOf_4cfef) (ok_li (ok_iload_n dJ1_indexOf_4cfef_15 rfl)) (
  ce_fc (P := P_J1_indexOf_4cfef) (ok_li (ok_aload_n dJ1_indexOf_4cfef_16 rfl)) (
  ce_fc (P := P_J1_indexOf_4cfef) (ok_li (ok_alen dJ1_indexOf_4cfef_17)) (
  ce_fc (P := P_J1_indexOf_4cfef) (ok_li (ok_mmin dJ1_indexOf_4cfef_18 gw_1621 gw_604 gw_25 gw_605)) (
  ce_fc (P := P_J1_indexOf_4cfef) (ok_li (ok_istore_n dJ1_indexOf_4cfef_21 rfl)) (
  ce_fc (P := P_J1_indexOf_4cfef) (ok_li (ok_iload_n dJ1_indexOf_4cfef_22 rfl)) (
  ce_fc (P := P_J1_indexOf_4cfef) (ok_li (ok_iload_n dJ1_indexOf_4cfef_23 rfl)) (
  ce_fn (P := P_J1_indexOf_4cfef)))))))))))))))
noncomputable def tb_J1_indexOf_4cfef_1 : List (Nat × ce_N) := [(24, ce_li (ce_icmp false false false 29 27)),
  (29, ce_li (ce_aload 0 30)),
  (30, ce_li (ce_iload 1 31)),
  (31, ce_li (ce_iload 2 32)),
  (32, ce_li (ce_iload 3 33)),
  (33, ce_call 4 0 0 36 (.inr true) F_J1_indexOfChar_4cfef),
  (36, ce_reti .int)]
theorem tk_J1_indexOf_4cfef_1 : ∀ x ∈ tb_J1_indexOf_4cfef_1, P_J1_indexOf_4cfef x.1 x.2 :=
  ce_fc (P := P_J1_indexOf_4cfef) (ok_li (ok_icmp_lt dJ1_indexOf_4cfef_24 (by decide))) (
  ce_fc (P := P_J1_indexOf_4cfef) (ok_li (ok_aload_n dJ1_indexOf_4cfef_29 rfl)) (
  ce_fc (P := P_J1_indexOf_4cfef) (ok_li (ok_iload_n dJ1_indexOf_4cfef_30 rfl)) (
  ce_fc (P := P_J1_indexOf_4cfef) (ok_li (ok_iload_n dJ1_indexOf_4cfef_31 rfl)) (
  ce_fc (P := P_J1_indexOf_4cfef) (ok_li (ok_iload_n dJ1_indexOf_4cfef_32 rfl)) (
  ce_fc (P := P_J1_indexOf_4cfef) (ok_call (ru_S m_J1_indexOfChar_4cfef (by decide) (by decide) gw_1624 gw_1622 gw_1623 gw_24 hp_J1_indexOfChar_4cfef dJ1_indexOf_4cfef_33) ca_t) (
  ce_fc (P := P_J1_indexOf_4cfef) (ok_reti dJ1_indexOf_4cfef_36 rfl) (
  ce_fn (P := P_J1_indexOf_4cfef))))))))
noncomputable def ta_J1_indexOf_4cfef : Nat → Option ce_N := (ce_tr 24 (ce_fd tb_J1_indexOf_4cfef_0) (ce_fd tb_J1_indexOf_4cfef_1))
theorem tx_J1_indexOf_4cfef : ∀ pc f, ta_J1_indexOf_4cfef pc = some f → P_J1_indexOf_4cfef pc f := (ce_tr_ok (P := P_J1_indexOf_4cfef) (ce_fd_ok (P := P_J1_indexOf_4cfef) tk_J1_indexOf_4cfef_0) (ce_fd_ok (P := P_J1_indexOf_4cfef) tk_J1_indexOf_4cfef_1))
noncomputable def F_J1_indexOf_4cfef : ce_C := ce_M ta_J1_indexOf_4cfef 4 0 0 1000000
theorem m_J1_indexOf_4cfef : ∀ l : Launch, l.stackTraces = false → ce_MS l yJ1_indexOf_4cfef (.code yJ1_indexOf_4cfef cJ1_indexOf_4cfef 4 (some .int)) 1 0 0 F_J1_indexOf_4cfef := fun l hl => ce_met hl (by decide +kernel) tx_J1_indexOf_4cfef
theorem hp_J1_indexOf_4cfef : yJ1_indexOf_4cfef.cls ≠ "java/lang/invoke/MethodHandle" ∧ yJ1_indexOf_4cfef.cls ≠ "java/lang/invoke/VarHandle" ∧ (parseMethodDescriptor yJ1_indexOf_4cfef.desc).map (fun d => d.parameters.length) = some 4 := by decide +kernel
abbrev P_Jx4a65c_grow_d5877 : Nat → ce_N → Prop := ce_OKN "java/util/ArrayList" "grow" cJx4a65c_grow_d5877 1 (some (.array (.object "java/lang/Object"))) 1 (some [])
noncomputable def tb_Jx4a65c_grow_d5877_0 : List (Nat × ce_N) := [(0, ce_li (ce_aload 0 1)),
  (1, ce_li (ce_aload 0 2)),
  (2, ce_li (ce_getf 3 2 5)),
  (5, ce_li (ce_push (.inl (.inl (1))) 6)),
  (6, ce_li (ce_bin ce_addo 7)),
  (7, ce_call 2 1 10 10 (.inr true) (ce_CV 3 F_Jx4a65c_grow_92f84)),
  (10, ce_reta)]
theorem tk_Jx4a65c_grow_d5877_0 : ∀ x ∈ tb_Jx4a65c_grow_d5877_0, P_Jx4a65c_grow_d5877 x.1 x.2 :=
  ce_fc (P := P_Jx4a65c_grow_d5877) (ok_li (ok_aload_n dJx4a65c_grow_d5877_0 rfl)) (
  ce_fc (P := P_Jx4a65c_grow_d5877) (ok_li (ok_aload_n dJx4a65c_grow_d5877_1 rfl)) (
  ce_fc (P := P_Jx4a65c_grow_d5877) (ok_li (ok_getf (ci := 3) (k := 2) (C := RJx4a65c) (T := TJx4a65c) (N := 3) dJx4a65c_grow_d5877_2 rfl ce_uJx4a65c (by decide) gw_1508 (fun _ _ _ _ h => h))) (
  ce_fc (P := P_Jx4a65c_grow_d5877) (ok_li (ok_iconst dJx4a65c_grow_d5877_5)) (
  ce_fc (P := P_Jx4a65c_grow_d5877) (ok_li (ok_iadd dJx4a65c_grow_d5877_6)) (
  ce_fc (P := P_Jx4a65c_grow_d5877) (ok_call (ru_V (ci := 3) (C := RJx4a65c) (Tf := TJx4a65c) (N := 3) m_Jx4a65c_grow_92f84 (by decide) (by decide) rfl gw_1725 gw_1722 gw_1724 gp_6 gw_16 ⟨rfl, hp_Jx4a65c_grow_92f84⟩ dJx4a65c_grow_d5877_7) ca_t) (
  ce_fc (P := P_Jx4a65c_grow_d5877) (ok_reta dJx4a65c_grow_d5877_10 rfl (Or.inr ⟨_, rfl⟩)) (
  ce_fn (P := P_Jx4a65c_grow_d5877))))))))
noncomputable def ta_Jx4a65c_grow_d5877 : Nat → Option ce_N := (ce_fd tb_Jx4a65c_grow_d5877_0)
theorem tx_Jx4a65c_grow_d5877 : ∀ pc f, ta_Jx4a65c_grow_d5877 pc = some f → P_Jx4a65c_grow_d5877 pc f := (ce_fd_ok (P := P_Jx4a65c_grow_d5877) tk_Jx4a65c_grow_d5877_0)
noncomputable def F_Jx4a65c_grow_d5877 : ce_C := ce_M ta_Jx4a65c_grow_d5877 1 1 10 1000000
theorem m_Jx4a65c_grow_d5877 : ∀ l : Launch, l.stackTraces = false → ce_MS l yJx4a65c_grow_d5877 (.code yJx4a65c_grow_d5877 cJx4a65c_grow_d5877 1 (some (.array (.object "java/lang/Object")))) 1 1 10 F_Jx4a65c_grow_d5877 := fun l hl => ce_met hl (by decide +kernel) tx_Jx4a65c_grow_d5877
theorem hp_Jx4a65c_grow_d5877 : yJx4a65c_grow_d5877.cls ≠ "java/lang/invoke/MethodHandle" ∧ yJx4a65c_grow_d5877.cls ≠ "java/lang/invoke/VarHandle" ∧ (parseMethodDescriptor yJx4a65c_grow_d5877.desc).map (fun d => d.parameters.length) = some 0 := by decide +kernel
abbrev P_Jx4a65c_iterator_32c93 : Nat → ce_N → Prop := ce_OKN "java/util/ArrayList" "iterator" cJx4a65c_iterator_32c93 1 (some (.object "java/util/Iterator")) 1 (some [])
noncomputable def tb_Jx4a65c_iterator_32c93_0 : List (Nat × ce_N) := [(0, ce_li (ce_new 2 4 dl_Jx35411 3)),
  (3, ce_li (ce_dup 4)),
  (4, ce_li (ce_aload 0 5)),
  (5, ce_call 2 0 0 8 (.inr true) (ce_CI F_Jx35411_init_45d68)),
  (8, ce_reta)]
theorem tk_Jx4a65c_iterator_32c93_0 : ∀ x ∈ tb_Jx4a65c_iterator_32c93_0, P_Jx4a65c_iterator_32c93 x.1 x.2 :=
  ce_fc (P := P_Jx4a65c_iterator_32c93) (ok_li (ok_new (ci := 2) (C := RJx35411) (T := TJx35411) (N := 4) (ty0 := tyJx35411) dJx4a65c_iterator_32c93_0 rfl ce_uJx35411 tyJx35411_ok gw_1801 gw_1802 gw_34 dv_Jx35411 rfl)) (
  ce_fc (P := P_Jx4a65c_iterator_32c93) (ok_li (ok_dup dJx4a65c_iterator_32c93_3)) (
  ce_fc (P := P_Jx4a65c_iterator_32c93) (ok_li (ok_aload_n dJx4a65c_iterator_32c93_4 rfl)) (
  ce_fc (P := P_Jx4a65c_iterator_32c93) (ok_call (ru_I m_Jx35411_init_45d68 (by decide) (by decide) gw_1805 gw_1803 gw_1804 gw_34 rfl hp_Jx35411_init_45d68 dJx4a65c_iterator_32c93_5) ca_t) (
  ce_fc (P := P_Jx4a65c_iterator_32c93) (ok_reta dJx4a65c_iterator_32c93_8 rfl (Or.inl ⟨_, rfl⟩)) (
  ce_fn (P := P_Jx4a65c_iterator_32c93))))))
noncomputable def ta_Jx4a65c_iterator_32c93 : Nat → Option ce_N := (ce_fd tb_Jx4a65c_iterator_32c93_0)
theorem tx_Jx4a65c_iterator_32c93 : ∀ pc f, ta_Jx4a65c_iterator_32c93 pc = some f → P_Jx4a65c_iterator_32c93 pc f := (ce_fd_ok (P := P_Jx4a65c_iterator_32c93) tk_Jx4a65c_iterator_32c93_0)
noncomputable def F_Jx4a65c_iterator_32c93 : ce_C := ce_M ta_Jx4a65c_iterator_32c93 1 1 4 1000000
theorem m_Jx4a65c_iterator_32c93 : ∀ l : Launch, l.stackTraces = false → ce_MS l yJx4a65c_iterator_32c93 (.code yJx4a65c_iterator_32c93 cJx4a65c_iterator_32c93 1 (some (.object "java/util/Iterator"))) 1 1 4 F_Jx4a65c_iterator_32c93 := fun l hl => ce_met hl (by decide +kernel) tx_Jx4a65c_iterator_32c93
theorem hp_Jx4a65c_iterator_32c93 : yJx4a65c_iterator_32c93.cls ≠ "java/lang/invoke/MethodHandle" ∧ yJx4a65c_iterator_32c93.cls ≠ "java/lang/invoke/VarHandle" ∧ (parseMethodDescriptor yJx4a65c_iterator_32c93.desc).map (fun d => d.parameters.length) = some 0 := by decide +kernel
abbrev P_Jxc12de_init_da8c8 : Nat → ce_N → Prop := ce_OKN "java/util/AbstractList" "<init>" cJxc12de_init_da8c8 1 none 1 (some [])
noncomputable def tb_Jxc12de_init_da8c8_0 : List (Nat × ce_N) := [(0, ce_li (ce_aload 0 1)),
  (1, ce_call 1 0 0 4 (.inr true) (ce_CI F_Jxa1e45_init_da8c8)),
  (4, ce_li (ce_aload 0 5)),
  (5, ce_li (ce_push (.inl (.inl (0))) 6)),
  (6, ce_li (ce_putf (tyJx4a65c 0) 3 0 9)),
  (9, ce_ret0)]
theorem tk_Jxc12de_init_da8c8_0 : ∀ x ∈ tb_Jxc12de_init_da8c8_0, P_Jxc12de_init_da8c8 x.1 x.2 :=
  ce_fc (P := P_Jxc12de_init_da8c8) (ok_li (ok_aload_n dJxc12de_init_da8c8_0 rfl)) (
  ce_fc (P := P_Jxc12de_init_da8c8) (ok_call (ru_I m_Jxa1e45_init_da8c8 (by decide) (by decide) gw_1501 gw_1499 gw_1500 gw_14 rfl hp_Jxa1e45_init_da8c8 dJxc12de_init_da8c8_1) ca_t) (
  ce_fc (P := P_Jxc12de_init_da8c8) (ok_li (ok_aload_n dJxc12de_init_da8c8_4 rfl)) (
  ce_fc (P := P_Jxc12de_init_da8c8) (ok_li (ok_iconst dJxc12de_init_da8c8_5)) (
  ce_fc (P := P_Jxc12de_init_da8c8) (ok_li (ok_putf (ci := 3) (k := 0) (C := RJx4a65c) (T := TJx4a65c) (N := 3) (ty0 := tyJx4a65c) dJxc12de_init_da8c8_6 rfl ce_uJx4a65c (by decide) gw_1509 (fun _ _ _ _ h => h) tyJx4a65c_ok nmJx4a65c (Or.inl rfl))) (
  ce_fc (P := P_Jxc12de_init_da8c8) (ok_ret0 dJxc12de_init_da8c8_9 rfl) (
  ce_fn (P := P_Jxc12de_init_da8c8)))))))
noncomputable def ta_Jxc12de_init_da8c8 : Nat → Option ce_N := (ce_fd tb_Jxc12de_init_da8c8_0)
theorem tx_Jxc12de_init_da8c8 : ∀ pc f, ta_Jxc12de_init_da8c8 pc = some f → P_Jxc12de_init_da8c8 pc f := (ce_fd_ok (P := P_Jxc12de_init_da8c8) tk_Jxc12de_init_da8c8_0)
noncomputable def F_Jxc12de_init_da8c8 : ce_C := ce_M ta_Jxc12de_init_da8c8 1 0 0 1000000
theorem m_Jxc12de_init_da8c8 : ∀ l : Launch, l.stackTraces = false → ce_MS l yJxc12de_init_da8c8 (.code yJxc12de_init_da8c8 cJxc12de_init_da8c8 1 none) 1 0 0 F_Jxc12de_init_da8c8 := fun l hl => ce_met hl (by decide +kernel) tx_Jxc12de_init_da8c8
theorem hp_Jxc12de_init_da8c8 : yJxc12de_init_da8c8.cls ≠ "java/lang/invoke/MethodHandle" ∧ yJxc12de_init_da8c8.cls ≠ "java/lang/invoke/VarHandle" ∧ (parseMethodDescriptor yJxc12de_init_da8c8.desc).map (fun d => d.parameters.length) = some 0 := by decide +kernel
abbrev P_X21_noWall : Nat → ce_N → Prop := ce_OKN "CarcasswrightModel" "noWall" cX21_noWall 2 (some .boolean) 1 (some [])
noncomputable def tb_X21_noWall_0 : List (Nat × ce_N) := [(0, ce_li (ce_aload 0 1)),
  (1, ce_li (ce_iload 1 2)),
  (2, ce_li (ce_push (.inl (.inl (0))) 3)),
  (3, ce_li (ce_aload 0 4)),
  (4, ce_li (ce_getf 20 1 7)),
  (7, ce_call 1 0 0 10 (.inr true) (ce_CV 3 F_Jx4a65c_size_8abf5)),
  (10, ce_li (ce_push (.inl (.inl (1))) 11)),
  (11, ce_li (ce_bin ce_subo 12)),
  (12, ce_call 3 0 0 15 (.inr true) F_X21_in),
  (15, ce_li (ce_if true false false 22 18)),
  (18, ce_li (ce_push (.inl (.inl (0))) 19)),
  (19, ce_li (ce_goto 23)),
  (23, ce_li (ce_putf (tyX21 0) 20 0 26)),
  (26, ce_li (ce_aload 0 27))]
theorem tk_X21_noWall_0 : ∀ x ∈ tb_X21_noWall_0, P_X21_noWall x.1 x.2 :=
  ce_fc (P := P_X21_noWall) (ok_li (ok_aload_n dX21_noWall_0 rfl)) (
  ce_fc (P := P_X21_noWall) (ok_li (ok_iload_n dX21_noWall_1 rfl)) (
  ce_fc (P := P_X21_noWall) (ok_li (ok_iconst dX21_noWall_2)) (
  ce_fc (P := P_X21_noWall) (ok_li (ok_aload_n dX21_noWall_3 rfl)) (
  ce_fc (P := P_X21_noWall) (ok_li (ok_getf (ci := 20) (k := 1) (C := RX21) (T := TX21) (N := 20) dX21_noWall_4 rfl ce_uX21 (by decide) gw_1522 (fun _ _ _ _ h => h))) (
  ce_fc (P := P_X21_noWall) (ok_call (ru_V (ci := 3) (C := RJx4a65c) (Tf := TJx4a65c) (N := 3) m_Jx4a65c_size_8abf5 (by decide) (by decide) rfl gw_1680 gw_1677 gw_1678 gw_1679 gw_16 ⟨rfl, hp_Jx4a65c_size_8abf5⟩ dX21_noWall_7) ca_t) (
  ce_fc (P := P_X21_noWall) (ok_li (ok_iconst dX21_noWall_10)) (
  ce_fc (P := P_X21_noWall) (ok_li (ok_isub dX21_noWall_11)) (
  ce_fc (P := P_X21_noWall) (ok_call (ru_S m_X21_in (by decide) (by decide) gw_1676 gw_1674 gw_1675 gw_13 hp_X21_in dX21_noWall_12) ca_t) (
  ce_fc (P := P_X21_noWall) (ok_li (ok_if_eq dX21_noWall_15 (by decide))) (
  ce_fc (P := P_X21_noWall) (ok_li (ok_iconst dX21_noWall_18)) (
  ce_fc (P := P_X21_noWall) (ok_li (ok_goto dX21_noWall_19 (by decide))) (
  ce_fc (P := P_X21_noWall) (ok_li (ok_putf (ci := 20) (k := 0) (C := RX21) (T := TX21) (N := 20) (ty0 := tyX21) dX21_noWall_23 rfl ce_uX21 (by decide) gw_1521 (fun _ _ _ _ h => h) tyX21_ok nmX21 (Or.inl rfl))) (
  ce_fc (P := P_X21_noWall) (ok_li (ok_aload_n dX21_noWall_26 rfl)) (
  ce_fn (P := P_X21_noWall)))))))))))))))
noncomputable def tb_X21_noWall_1 : List (Nat × ce_N) := [(27, ce_li (ce_getf 20 0 30)),
  (30, ce_li (ce_if false true true 37 33)),
  (37, ce_li (ce_push (.inl (.inl (0))) 38)),
  (38, ce_reti .boolean)]
theorem tk_X21_noWall_1 : ∀ x ∈ tb_X21_noWall_1, P_X21_noWall x.1 x.2 :=
  ce_fc (P := P_X21_noWall) (ok_li (ok_getf (ci := 20) (k := 0) (C := RX21) (T := TX21) (N := 20) dX21_noWall_27 rfl ce_uX21 (by decide) gw_1521 (fun _ _ _ _ h => h))) (
  ce_fc (P := P_X21_noWall) (ok_li (ok_if_le dX21_noWall_30 (by decide))) (
  ce_fc (P := P_X21_noWall) (ok_li (ok_iconst dX21_noWall_37)) (
  ce_fc (P := P_X21_noWall) (ok_reti dX21_noWall_38 rfl) (
  ce_fn (P := P_X21_noWall)))))
noncomputable def ta_X21_noWall : Nat → Option ce_N := (ce_tr 27 (ce_fd tb_X21_noWall_0) (ce_fd tb_X21_noWall_1))
theorem tx_X21_noWall : ∀ pc f, ta_X21_noWall pc = some f → P_X21_noWall pc f := (ce_tr_ok (P := P_X21_noWall) (ce_fd_ok (P := P_X21_noWall) tk_X21_noWall_0) (ce_fd_ok (P := P_X21_noWall) tk_X21_noWall_1))
noncomputable def F_X21_noWall : ce_C := ce_M ta_X21_noWall 2 0 0 1000000
theorem m_X21_noWall : ∀ l : Launch, l.stackTraces = false → ce_MS l yX21_noWall (.code yX21_noWall cX21_noWall 2 (some .boolean)) 1 0 0 F_X21_noWall := fun l hl => ce_met hl (by decide +kernel) tx_X21_noWall
theorem hp_X21_noWall : yX21_noWall.cls ≠ "java/lang/invoke/MethodHandle" ∧ yX21_noWall.cls ≠ "java/lang/invoke/VarHandle" ∧ (parseMethodDescriptor yX21_noWall.desc).map (fun d => d.parameters.length) = some 1 := by decide +kernel
abbrev P_X6_build : Nat → ce_N → Prop := ce_OKN "Carcasswright$Room" "build" cX6_build 5 (some .int) 1 (some [])
noncomputable def tb_X6_build_0 : List (Nat × ce_N) := [(0, ce_li (ce_aload 0 1)),
  (1, ce_li (ce_getf 10 6 4)),
  (4, ce_li (ce_istore 3 5 5)),
  (5, ce_li (ce_aload 0 6)),
  (6, ce_li (ce_dup 7)),
  (7, ce_li (ce_getf 10 6 10)),
  (10, ce_li (ce_push (.inl (.inl (1))) 11)),
  (11, ce_li (ce_bin ce_addo 12)),
  (12, ce_li (ce_putf (tyX6 6) 10 6 15)),
  (15, ce_li (ce_aload 0 16)),
  (16, ce_li (ce_iload 3 17)),
  (17, ce_call 2 0 0 20 (.inr true) (ce_CV 10 F_X6_wallAt)),
  (20, ce_li (ce_astore 4 22 5)),
  (22, ce_li (ce_aload 4 24))]
theorem tk_X6_build_0 : ∀ x ∈ tb_X6_build_0, P_X6_build x.1 x.2 :=
  ce_fc (P := P_X6_build) (ok_li (ok_aload_n dX6_build_0 rfl)) (
  ce_fc (P := P_X6_build) (ok_li (ok_getf (ci := 10) (k := 6) (C := RX6) (T := TX6) (N := 10) dX6_build_1 rfl ce_uX6 (by decide) gw_255 (fun _ _ _ _ h => h))) (
  ce_fc (P := P_X6_build) (ok_li (ok_istore_n dX6_build_4 rfl)) (
  ce_fc (P := P_X6_build) (ok_li (ok_aload_n dX6_build_5 rfl)) (
  ce_fc (P := P_X6_build) (ok_li (ok_dup dX6_build_6)) (
  ce_fc (P := P_X6_build) (ok_li (ok_getf (ci := 10) (k := 6) (C := RX6) (T := TX6) (N := 10) dX6_build_7 rfl ce_uX6 (by decide) gw_255 (fun _ _ _ _ h => h))) (
  ce_fc (P := P_X6_build) (ok_li (ok_iconst dX6_build_10)) (
  ce_fc (P := P_X6_build) (ok_li (ok_iadd dX6_build_11)) (
  ce_fc (P := P_X6_build) (ok_li (ok_putf (ci := 10) (k := 6) (C := RX6) (T := TX6) (N := 10) (ty0 := tyX6) dX6_build_12 rfl ce_uX6 (by decide) gw_255 (fun _ _ _ _ h => h) tyX6_ok nmX6 (Or.inl rfl))) (
  ce_fc (P := P_X6_build) (ok_li (ok_aload_n dX6_build_15 rfl)) (
  ce_fc (P := P_X6_build) (ok_li (ok_iload_n dX6_build_16 rfl)) (
  ce_fc (P := P_X6_build) (ok_call (ru_V (ci := 10) (C := RX6) (Tf := TX6) (N := 10) m_X6_wallAt (by decide) (by decide) rfl gw_487 gw_484 gw_485 gw_486 gw_4 ⟨rfl, hp_X6_wallAt⟩ dX6_build_17) ca_t) (
  ce_fc (P := P_X6_build) (ok_li (ok_astore dX6_build_20)) (
  ce_fc (P := P_X6_build) (ok_li (ok_aload dX6_build_22)) (
  ce_fn (P := P_X6_build)))))))))))))))
noncomputable def tb_X6_build_1 : List (Nat × ce_N) := [(24, ce_li (ce_iload 1 25)),
  (25, ce_li (ce_putf (tyX10 0) 14 0 28)),
  (28, ce_li (ce_aload 4 30)),
  (30, ce_li (ce_iload 2 31)),
  (31, ce_li (ce_putf (tyX10 1) 14 1 34)),
  (34, ce_li (ce_aload 4 36)),
  (36, ce_li (ce_iload 2 37)),
  (37, ce_li (ce_putf (tyX10 2) 14 2 40)),
  (40, ce_li (ce_iload 3 41)),
  (41, ce_reti .int)]
theorem tk_X6_build_1 : ∀ x ∈ tb_X6_build_1, P_X6_build x.1 x.2 :=
  ce_fc (P := P_X6_build) (ok_li (ok_iload_n dX6_build_24 rfl)) (
  ce_fc (P := P_X6_build) (ok_li (ok_putf (ci := 14) (k := 0) (C := RX10) (T := TX10) (N := 6) (ty0 := tyX10) dX6_build_25 rfl ce_uX10 (by decide) gw_171 (fun _ _ _ _ h => h) tyX10_ok nmX10 (Or.inl rfl))) (
  ce_fc (P := P_X6_build) (ok_li (ok_aload dX6_build_28)) (
  ce_fc (P := P_X6_build) (ok_li (ok_iload_n dX6_build_30 rfl)) (
  ce_fc (P := P_X6_build) (ok_li (ok_putf (ci := 14) (k := 1) (C := RX10) (T := TX10) (N := 6) (ty0 := tyX10) dX6_build_31 rfl ce_uX10 (by decide) gw_172 (fun _ _ _ _ h => h) tyX10_ok nmX10 (Or.inl rfl))) (
  ce_fc (P := P_X6_build) (ok_li (ok_aload dX6_build_34)) (
  ce_fc (P := P_X6_build) (ok_li (ok_iload_n dX6_build_36 rfl)) (
  ce_fc (P := P_X6_build) (ok_li (ok_putf (ci := 14) (k := 2) (C := RX10) (T := TX10) (N := 6) (ty0 := tyX10) dX6_build_37 rfl ce_uX10 (by decide) gw_174 (fun _ _ _ _ h => h) tyX10_ok nmX10 (Or.inl rfl))) (
  ce_fc (P := P_X6_build) (ok_li (ok_iload_n dX6_build_40 rfl)) (
  ce_fc (P := P_X6_build) (ok_reti dX6_build_41 rfl) (
  ce_fn (P := P_X6_build)))))))))))
noncomputable def ta_X6_build : Nat → Option ce_N := (ce_tr 24 (ce_fd tb_X6_build_0) (ce_fd tb_X6_build_1))
theorem tx_X6_build : ∀ pc f, ta_X6_build pc = some f → P_X6_build pc f := (ce_tr_ok (P := P_X6_build) (ce_fd_ok (P := P_X6_build) tk_X6_build_0) (ce_fd_ok (P := P_X6_build) tk_X6_build_1))
noncomputable def F_X6_build : ce_C := ce_M ta_X6_build 5 0 0 1000000
theorem m_X6_build : ∀ l : Launch, l.stackTraces = false → ce_MS l yX6_build (.code yX6_build cX6_build 5 (some .int)) 1 0 0 F_X6_build := fun l hl => ce_met hl (by decide +kernel) tx_X6_build
theorem hp_X6_build : yX6_build.cls ≠ "java/lang/invoke/MethodHandle" ∧ yX6_build.cls ≠ "java/lang/invoke/VarHandle" ∧ (parseMethodDescriptor yX6_build.desc).map (fun d => d.parameters.length) = some 2 := by decide +kernel
abbrev P_X6_freeRows : Nat → ce_N → Prop := ce_OKN "Carcasswright$Room" "freeRows" cX6_freeRows 11 (some .int) 1 (some [])
noncomputable def tb_X6_freeRows_0 : List (Nat × ce_N) := [(0, ce_li (ce_aload 0 1)),
  (1, ce_li (ce_iload 1 2)),
  (2, ce_call 2 0 0 5 (.inr true) (ce_CV 10 F_X6_wallAt)),
  (5, ce_li (ce_getf 14 2 8)),
  (8, ce_li (ce_istore 4 10 11)),
  (10, ce_li (ce_push (.inl (.inl (0))) 11)),
  (11, ce_li (ce_istore 5 13 11)),
  (13, ce_li (ce_push (.inl (.inl (0))) 14)),
  (14, ce_li (ce_istore 6 16 11)),
  (16, ce_li (ce_push (.inl (.inl (0))) 17)),
  (17, ce_li (ce_istore 7 19 11)),
  (19, ce_li (ce_push (.inl (.inl (0))) 20)),
  (20, ce_li (ce_istore 8 22 11)),
  (22, ce_li (ce_iload 8 24))]
theorem tk_X6_freeRows_0 : ∀ x ∈ tb_X6_freeRows_0, P_X6_freeRows x.1 x.2 :=
  ce_fc (P := P_X6_freeRows) (ok_li (ok_aload_n dX6_freeRows_0 rfl)) (
  ce_fc (P := P_X6_freeRows) (ok_li (ok_iload_n dX6_freeRows_1 rfl)) (
  ce_fc (P := P_X6_freeRows) (ok_call (ru_V (ci := 10) (C := RX6) (Tf := TX6) (N := 10) m_X6_wallAt (by decide) (by decide) rfl gw_487 gw_484 gw_485 gw_486 gw_4 ⟨rfl, hp_X6_wallAt⟩ dX6_freeRows_2) ca_t) (
  ce_fc (P := P_X6_freeRows) (ok_li (ok_getf (ci := 14) (k := 2) (C := RX10) (T := TX10) (N := 6) dX6_freeRows_5 rfl ce_uX10 (by decide) gw_174 (fun _ _ _ _ h => h))) (
  ce_fc (P := P_X6_freeRows) (ok_li (ok_istore dX6_freeRows_8)) (
  ce_fc (P := P_X6_freeRows) (ok_li (ok_iconst dX6_freeRows_10)) (
  ce_fc (P := P_X6_freeRows) (ok_li (ok_istore dX6_freeRows_11)) (
  ce_fc (P := P_X6_freeRows) (ok_li (ok_iconst dX6_freeRows_13)) (
  ce_fc (P := P_X6_freeRows) (ok_li (ok_istore dX6_freeRows_14)) (
  ce_fc (P := P_X6_freeRows) (ok_li (ok_iconst dX6_freeRows_16)) (
  ce_fc (P := P_X6_freeRows) (ok_li (ok_istore dX6_freeRows_17)) (
  ce_fc (P := P_X6_freeRows) (ok_li (ok_iconst dX6_freeRows_19)) (
  ce_fc (P := P_X6_freeRows) (ok_li (ok_istore dX6_freeRows_20)) (
  ce_fc (P := P_X6_freeRows) (ok_li (ok_iload dX6_freeRows_22)) (
  ce_fn (P := P_X6_freeRows)))))))))))))))
noncomputable def tb_X6_freeRows_1 : List (Nat × ce_N) := [(24, ce_li (ce_aload 0 25)),
  (25, ce_li (ce_getf 10 8 28)),
  (28, ce_li (ce_icmp false true false 98 31)),
  (31, ce_li (ce_aload 0 32)),
  (32, ce_li (ce_iload 1 33)),
  (33, ce_li (ce_iload 2 34)),
  (34, ce_li (ce_iload 7 36)),
  (36, ce_call 4 0 0 39 (.inr true) (ce_CV 10 F_X6_firstBehind)),
  (39, ce_li (ce_astore 9 41 11)),
  (41, ce_li (ce_aload 9 43)),
  (43, ce_li (ce_ifnn 51 46)),
  (46, ce_li (ce_iload 4 48)),
  (48, ce_li (ce_goto 56)),
  (56, ce_li (ce_iload 7 58))]
theorem tk_X6_freeRows_1 : ∀ x ∈ tb_X6_freeRows_1, P_X6_freeRows x.1 x.2 :=
  ce_fc (P := P_X6_freeRows) (ok_li (ok_aload_n dX6_freeRows_24 rfl)) (
  ce_fc (P := P_X6_freeRows) (ok_li (ok_getf (ci := 10) (k := 8) (C := RX6) (T := TX6) (N := 10) dX6_freeRows_25 rfl ce_uX6 (by decide) gw_260 (fun _ _ _ _ h => h))) (
  ce_fc (P := P_X6_freeRows) (ok_li (ok_icmp_gt dX6_freeRows_28 (by decide))) (
  ce_fc (P := P_X6_freeRows) (ok_li (ok_aload_n dX6_freeRows_31 rfl)) (
  ce_fc (P := P_X6_freeRows) (ok_li (ok_iload_n dX6_freeRows_32 rfl)) (
  ce_fc (P := P_X6_freeRows) (ok_li (ok_iload_n dX6_freeRows_33 rfl)) (
  ce_fc (P := P_X6_freeRows) (ok_li (ok_iload dX6_freeRows_34)) (
  ce_fc (P := P_X6_freeRows) (ok_call (ru_V (ci := 10) (C := RX6) (Tf := TX6) (N := 10) m_X6_firstBehind (by decide) (by decide) rfl gw_1060 gw_1057 gw_1058 gw_1059 gw_4 ⟨rfl, hp_X6_firstBehind⟩ dX6_freeRows_36) ca_t) (
  ce_fc (P := P_X6_freeRows) (ok_li (ok_astore dX6_freeRows_39)) (
  ce_fc (P := P_X6_freeRows) (ok_li (ok_aload dX6_freeRows_41)) (
  ce_fc (P := P_X6_freeRows) (ok_li (ok_ifnn dX6_freeRows_43 (by decide))) (
  ce_fc (P := P_X6_freeRows) (ok_li (ok_iload dX6_freeRows_46)) (
  ce_fc (P := P_X6_freeRows) (ok_li (ok_goto dX6_freeRows_48 (by decide))) (
  ce_fc (P := P_X6_freeRows) (ok_li (ok_iload dX6_freeRows_56)) (
  ce_fn (P := P_X6_freeRows)))))))))))))))
noncomputable def tb_X6_freeRows_2 : List (Nat × ce_N) := [(58, ce_li (ce_bin ce_subo 59)),
  (59, ce_li (ce_istore 10 61 11)),
  (61, ce_li (ce_iload 5 63)),
  (63, ce_li (ce_iload 10 65)),
  (65, ce_li (ce_bin ce_addo 66)),
  (66, ce_li (ce_istore 5 68 11)),
  (68, ce_li (ce_iload 6 70)),
  (70, ce_li (ce_iload 10 72)),
  (72, ce_li (ce_mm true 75)),
  (75, ce_li (ce_istore 6 77 11)),
  (77, ce_li (ce_aload 9 79)),
  (79, ce_li (ce_ifnn 85 82)),
  (82, ce_li (ce_goto 98)),
  (98, ce_li (ce_iload 3 99))]
theorem tk_X6_freeRows_2 : ∀ x ∈ tb_X6_freeRows_2, P_X6_freeRows x.1 x.2 :=
  ce_fc (P := P_X6_freeRows) (ok_li (ok_isub dX6_freeRows_58)) (
  ce_fc (P := P_X6_freeRows) (ok_li (ok_istore dX6_freeRows_59)) (
  ce_fc (P := P_X6_freeRows) (ok_li (ok_iload dX6_freeRows_61)) (
  ce_fc (P := P_X6_freeRows) (ok_li (ok_iload dX6_freeRows_63)) (
  ce_fc (P := P_X6_freeRows) (ok_li (ok_iadd dX6_freeRows_65)) (
  ce_fc (P := P_X6_freeRows) (ok_li (ok_istore dX6_freeRows_66)) (
  ce_fc (P := P_X6_freeRows) (ok_li (ok_iload dX6_freeRows_68)) (
  ce_fc (P := P_X6_freeRows) (ok_li (ok_iload dX6_freeRows_70)) (
  ce_fc (P := P_X6_freeRows) (ok_li (ok_mmax dX6_freeRows_72 gw_797 gw_593 gw_25 gw_594)) (
  ce_fc (P := P_X6_freeRows) (ok_li (ok_istore dX6_freeRows_75)) (
  ce_fc (P := P_X6_freeRows) (ok_li (ok_aload dX6_freeRows_77)) (
  ce_fc (P := P_X6_freeRows) (ok_li (ok_ifnn dX6_freeRows_79 (by decide))) (
  ce_fc (P := P_X6_freeRows) (ok_li (ok_goto dX6_freeRows_82 (by decide))) (
  ce_fc (P := P_X6_freeRows) (ok_li (ok_iload_n dX6_freeRows_98 rfl)) (
  ce_fn (P := P_X6_freeRows)))))))))))))))
noncomputable def tb_X6_freeRows_3 : List (Nat × ce_N) := [(99, ce_li (ce_if true false false 107 102)),
  (107, ce_li (ce_iload 5 109)),
  (109, ce_reti .int)]
theorem tk_X6_freeRows_3 : ∀ x ∈ tb_X6_freeRows_3, P_X6_freeRows x.1 x.2 :=
  ce_fc (P := P_X6_freeRows) (ok_li (ok_if_eq dX6_freeRows_99 (by decide))) (
  ce_fc (P := P_X6_freeRows) (ok_li (ok_iload dX6_freeRows_107)) (
  ce_fc (P := P_X6_freeRows) (ok_reti dX6_freeRows_109 rfl) (
  ce_fn (P := P_X6_freeRows))))
noncomputable def ta_X6_freeRows : Nat → Option ce_N := (ce_tr 58 (ce_tr 24 (ce_fd tb_X6_freeRows_0) (ce_fd tb_X6_freeRows_1)) (ce_tr 99 (ce_fd tb_X6_freeRows_2) (ce_fd tb_X6_freeRows_3)))
theorem tx_X6_freeRows : ∀ pc f, ta_X6_freeRows pc = some f → P_X6_freeRows pc f := (ce_tr_ok (P := P_X6_freeRows) (ce_tr_ok (P := P_X6_freeRows) (ce_fd_ok (P := P_X6_freeRows) tk_X6_freeRows_0) (ce_fd_ok (P := P_X6_freeRows) tk_X6_freeRows_1)) (ce_tr_ok (P := P_X6_freeRows) (ce_fd_ok (P := P_X6_freeRows) tk_X6_freeRows_2) (ce_fd_ok (P := P_X6_freeRows) tk_X6_freeRows_3)))
noncomputable def F_X6_freeRows : ce_C := ce_M ta_X6_freeRows 11 0 0 1000000
theorem m_X6_freeRows : ∀ l : Launch, l.stackTraces = false → ce_MS l yX6_freeRows (.code yX6_freeRows cX6_freeRows 11 (some .int)) 1 0 0 F_X6_freeRows := fun l hl => ce_met hl (by decide +kernel) tx_X6_freeRows
theorem hp_X6_freeRows : yX6_freeRows.cls ≠ "java/lang/invoke/MethodHandle" ∧ yX6_freeRows.cls ≠ "java/lang/invoke/VarHandle" ∧ (parseMethodDescriptor yX6_freeRows.desc).map (fun d => d.parameters.length) = some 3 := by decide +kernel
abbrev P_X6_init : Nat → ce_N → Prop := ce_OKN "Carcasswright$Room" "<init>" cX6_init 3 none 1 (some [])
noncomputable def tb_X6_init_0 : List (Nat × ce_N) := [(0, ce_li (ce_aload 0 1)),
  (1, ce_li (ce_oi 4)),
  (4, ce_li (ce_aload 0 5)),
  (5, ce_li (ce_push (.inl (.inl (6))) 7)),
  (7, ce_li (ce_newa 7 3 10)),
  (10, ce_li (ce_putf (tyX6 0) 10 0 13)),
  (13, ce_li (ce_aload 0 14)),
  (14, ce_li (ce_push (.inl (.inl (8))) 16)),
  (16, ce_li (ce_newa 8 3 19)),
  (19, ce_li (ce_putf (tyX6 1) 10 1 22)),
  (22, ce_li (ce_aload 0 23)),
  (23, ce_li (ce_push (.inl (.inl (16))) 25)),
  (25, ce_li (ce_newa 9 3 28)),
  (28, ce_li (ce_putf (tyX6 2) 10 2 31))]
theorem tk_X6_init_0 : ∀ x ∈ tb_X6_init_0, P_X6_init x.1 x.2 :=
  ce_fc (P := P_X6_init) (ok_li (ok_aload_n dX6_init_0 rfl)) (
  ce_fc (P := P_X6_init) (ok_li (ok_oi dX6_init_1 gw_158 gw_57 gw_58)) (
  ce_fc (P := P_X6_init) (ok_li (ok_aload_n dX6_init_4 rfl)) (
  ce_fc (P := P_X6_init) (ok_li (ok_bipush dX6_init_5 (by decide))) (
  ce_fc (P := P_X6_init) (ok_li (ok_newq (C := "Carcasswright$Wall") (t := 7) dX6_init_7 gw_159 (by decide) (fun _ => rfl) (fun z ad n => ce_refs (by decide) (by decide) (by decide) z ad n))) (
  ce_fc (P := P_X6_init) (ok_li (ok_putf (ci := 10) (k := 0) (C := RX6) (T := TX6) (N := 10) (ty0 := tyX6) dX6_init_10 rfl ce_uX6 (by decide) gw_247 (fun _ _ _ _ h => h) tyX6_ok nmX6 (Or.inr ⟨rfl, rfl, rfl⟩))) (
  ce_fc (P := P_X6_init) (ok_li (ok_aload_n dX6_init_13 rfl)) (
  ce_fc (P := P_X6_init) (ok_li (ok_bipush dX6_init_14 (by decide))) (
  ce_fc (P := P_X6_init) (ok_li (ok_newq (C := "Carcasswright$Obstacle") (t := 8) dX6_init_16 gw_161 (by decide) (fun _ => rfl) (fun z ad n => ce_refs (by decide) (by decide) (by decide) z ad n))) (
  ce_fc (P := P_X6_init) (ok_li (ok_putf (ci := 10) (k := 1) (C := RX6) (T := TX6) (N := 10) (ty0 := tyX6) dX6_init_19 rfl ce_uX6 (by decide) gw_248 (fun _ _ _ _ h => h) tyX6_ok nmX6 (Or.inr ⟨rfl, rfl, rfl⟩))) (
  ce_fc (P := P_X6_init) (ok_li (ok_aload_n dX6_init_22 rfl)) (
  ce_fc (P := P_X6_init) (ok_li (ok_bipush dX6_init_23 (by decide))) (
  ce_fc (P := P_X6_init) (ok_li (ok_newq (C := "Carcasswright$PlacedModule") (t := 9) dX6_init_25 gw_163 (by decide) (fun _ => rfl) (fun z ad n => ce_refs (by decide) (by decide) (by decide) z ad n))) (
  ce_fc (P := P_X6_init) (ok_li (ok_putf (ci := 10) (k := 2) (C := RX6) (T := TX6) (N := 10) (ty0 := tyX6) dX6_init_28 rfl ce_uX6 (by decide) gw_249 (fun _ _ _ _ h => h) tyX6_ok nmX6 (Or.inr ⟨rfl, rfl, rfl⟩))) (
  ce_fn (P := P_X6_init)))))))))))))))
noncomputable def tb_X6_init_1 : List (Nat × ce_N) := [(31, ce_li (ce_aload 0 32)),
  (32, ce_li (ce_push (.inl (.inl (2))) 33)),
  (33, ce_li (ce_newa 1 2 35)),
  (35, ce_li (ce_putf (tyX6 4) 10 4 38)),
  (38, ce_li (ce_aload 0 39)),
  (39, ce_li (ce_push (.inl (.inl (2))) 40)),
  (40, ce_li (ce_newa 0 2 42)),
  (42, ce_li (ce_putf (tyX6 5) 10 5 45)),
  (45, ce_li (ce_push (.inl (.inl (0))) 46)),
  (46, ce_li (ce_istore 2 47 3)),
  (47, ce_li (ce_iload 2 48)),
  (48, ce_li (ce_push (.inl (.inl (6))) 50)),
  (50, ce_li (ce_icmp false false true 72 53)),
  (53, ce_li (ce_aload 0 54))]
theorem tk_X6_init_1 : ∀ x ∈ tb_X6_init_1, P_X6_init x.1 x.2 :=
  ce_fc (P := P_X6_init) (ok_li (ok_aload_n dX6_init_31 rfl)) (
  ce_fc (P := P_X6_init) (ok_li (ok_iconst dX6_init_32)) (
  ce_fc (P := P_X6_init) (ok_li (ok_newa_char dX6_init_33 gw_113)) (
  ce_fc (P := P_X6_init) (ok_li (ok_putf (ci := 10) (k := 4) (C := RX6) (T := TX6) (N := 10) (ty0 := tyX6) dX6_init_35 rfl ce_uX6 (by decide) gw_251 (fun _ _ _ _ h => h) tyX6_ok nmX6 (Or.inr ⟨rfl, rfl, rfl⟩))) (
  ce_fc (P := P_X6_init) (ok_li (ok_aload_n dX6_init_38 rfl)) (
  ce_fc (P := P_X6_init) (ok_li (ok_iconst dX6_init_39)) (
  ce_fc (P := P_X6_init) (ok_li (ok_newa_int dX6_init_40 gw_193)) (
  ce_fc (P := P_X6_init) (ok_li (ok_putf (ci := 10) (k := 5) (C := RX6) (T := TX6) (N := 10) (ty0 := tyX6) dX6_init_42 rfl ce_uX6 (by decide) gw_253 (fun _ _ _ _ h => h) tyX6_ok nmX6 (Or.inr ⟨rfl, rfl, rfl⟩))) (
  ce_fc (P := P_X6_init) (ok_li (ok_iconst dX6_init_45)) (
  ce_fc (P := P_X6_init) (ok_li (ok_istore_n dX6_init_46 rfl)) (
  ce_fc (P := P_X6_init) (ok_li (ok_iload_n dX6_init_47 rfl)) (
  ce_fc (P := P_X6_init) (ok_li (ok_bipush dX6_init_48 (by decide))) (
  ce_fc (P := P_X6_init) (ok_li (ok_icmp_ge dX6_init_50 (by decide))) (
  ce_fc (P := P_X6_init) (ok_li (ok_aload_n dX6_init_53 rfl)) (
  ce_fn (P := P_X6_init)))))))))))))))
noncomputable def tb_X6_init_2 : List (Nat × ce_N) := [(54, ce_li (ce_getf 10 0 57)),
  (57, ce_li (ce_iload 2 58)),
  (58, ce_li (ce_new 14 6 dl_X10 61)),
  (61, ce_li (ce_dup 62)),
  (62, ce_call 1 0 0 65 (.inr true) (ce_CI F_X10_init)),
  (65, ce_li (ce_aast 66)),
  (66, ce_li (ce_iinc 2 (1) 69 3)),
  (69, ce_li (ce_goto 47)),
  (72, ce_li (ce_push (.inl (.inl (0))) 73)),
  (73, ce_li (ce_istore 2 74 3)),
  (74, ce_li (ce_iload 2 75)),
  (75, ce_li (ce_push (.inl (.inl (8))) 77)),
  (77, ce_li (ce_icmp false false true 99 80)),
  (80, ce_li (ce_aload 0 81))]
theorem tk_X6_init_2 : ∀ x ∈ tb_X6_init_2, P_X6_init x.1 x.2 :=
  ce_fc (P := P_X6_init) (ok_li (ok_getf (ci := 10) (k := 0) (C := RX6) (T := TX6) (N := 10) dX6_init_54 rfl ce_uX6 (by decide) gw_247 (fun _ _ _ _ h => h))) (
  ce_fc (P := P_X6_init) (ok_li (ok_iload_n dX6_init_57 rfl)) (
  ce_fc (P := P_X6_init) (ok_li (ok_new (ci := 14) (C := RX10) (T := TX10) (N := 6) (ty0 := tyX10) dX6_init_58 rfl ce_uX10 tyX10_ok gw_159 gw_165 gw_5 dv_X10 rfl)) (
  ce_fc (P := P_X6_init) (ok_li (ok_dup dX6_init_61)) (
  ce_fc (P := P_X6_init) (ok_call (ru_IN m_X10_init (by decide) (by decide) gw_168 gn_9 gw_167 gw_5 rfl hp_X10_init dX6_init_62) ca_t) (
  ce_fc (P := P_X6_init) (ok_li (ok_aast dX6_init_65)) (
  ce_fc (P := P_X6_init) (ok_li (ok_iinc dX6_init_66)) (
  ce_fc (P := P_X6_init) (ok_li (ok_goto dX6_init_69 (by decide))) (
  ce_fc (P := P_X6_init) (ok_li (ok_iconst dX6_init_72)) (
  ce_fc (P := P_X6_init) (ok_li (ok_istore_n dX6_init_73 rfl)) (
  ce_fc (P := P_X6_init) (ok_li (ok_iload_n dX6_init_74 rfl)) (
  ce_fc (P := P_X6_init) (ok_li (ok_bipush dX6_init_75 (by decide))) (
  ce_fc (P := P_X6_init) (ok_li (ok_icmp_ge dX6_init_77 (by decide))) (
  ce_fc (P := P_X6_init) (ok_li (ok_aload_n dX6_init_80 rfl)) (
  ce_fn (P := P_X6_init)))))))))))))))
noncomputable def tb_X6_init_3 : List (Nat × ce_N) := [(81, ce_li (ce_getf 10 1 84)),
  (84, ce_li (ce_iload 2 85)),
  (85, ce_li (ce_new 7 5 dl_X3 88)),
  (88, ce_li (ce_dup 89)),
  (89, ce_call 1 0 0 92 (.inr true) (ce_CI F_X3_init)),
  (92, ce_li (ce_aast 93)),
  (93, ce_li (ce_iinc 2 (1) 96 3)),
  (96, ce_li (ce_goto 74)),
  (99, ce_li (ce_push (.inl (.inl (0))) 100)),
  (100, ce_li (ce_istore 2 101 3)),
  (101, ce_li (ce_iload 2 102)),
  (102, ce_li (ce_push (.inl (.inl (16))) 104)),
  (104, ce_li (ce_icmp false false true 127 107)),
  (107, ce_li (ce_aload 0 108))]
theorem tk_X6_init_3 : ∀ x ∈ tb_X6_init_3, P_X6_init x.1 x.2 :=
  ce_fc (P := P_X6_init) (ok_li (ok_getf (ci := 10) (k := 1) (C := RX6) (T := TX6) (N := 10) dX6_init_81 rfl ce_uX6 (by decide) gw_248 (fun _ _ _ _ h => h))) (
  ce_fc (P := P_X6_init) (ok_li (ok_iload_n dX6_init_84 rfl)) (
  ce_fc (P := P_X6_init) (ok_li (ok_new (ci := 7) (C := RX3) (T := TX3) (N := 5) (ty0 := tyX3) dX6_init_85 rfl ce_uX3 tyX3_ok gw_161 gw_194 gw_6 dv_X3 rfl)) (
  ce_fc (P := P_X6_init) (ok_li (ok_dup dX6_init_88)) (
  ce_fc (P := P_X6_init) (ok_call (ru_IN m_X3_init (by decide) (by decide) gw_197 gn_10 gw_196 gw_6 rfl hp_X3_init dX6_init_89) ca_t) (
  ce_fc (P := P_X6_init) (ok_li (ok_aast dX6_init_92)) (
  ce_fc (P := P_X6_init) (ok_li (ok_iinc dX6_init_93)) (
  ce_fc (P := P_X6_init) (ok_li (ok_goto dX6_init_96 (by decide))) (
  ce_fc (P := P_X6_init) (ok_li (ok_iconst dX6_init_99)) (
  ce_fc (P := P_X6_init) (ok_li (ok_istore_n dX6_init_100 rfl)) (
  ce_fc (P := P_X6_init) (ok_li (ok_iload_n dX6_init_101 rfl)) (
  ce_fc (P := P_X6_init) (ok_li (ok_bipush dX6_init_102 (by decide))) (
  ce_fc (P := P_X6_init) (ok_li (ok_icmp_ge dX6_init_104 (by decide))) (
  ce_fc (P := P_X6_init) (ok_li (ok_aload_n dX6_init_107 rfl)) (
  ce_fn (P := P_X6_init)))))))))))))))
noncomputable def tb_X6_init_4 : List (Nat × ce_N) := [(108, ce_li (ce_getf 10 2 111)),
  (111, ce_li (ce_iload 2 112)),
  (112, ce_li (ce_new 9 5 dl_X5 115)),
  (115, ce_li (ce_dup 116)),
  (116, ce_li (ce_aload 1 117)),
  (117, ce_call 2 0 0 120 (.inr true) (ce_CI F_X5_init)),
  (120, ce_li (ce_aast 121)),
  (121, ce_li (ce_iinc 2 (1) 124 3)),
  (124, ce_li (ce_goto 101)),
  (127, ce_li (ce_aload 0 128)),
  (128, ce_li (ce_new 9 5 dl_X5 131)),
  (131, ce_li (ce_dup 132)),
  (132, ce_li (ce_aload 1 133)),
  (133, ce_call 2 0 0 136 (.inr true) (ce_CI F_X5_init))]
theorem tk_X6_init_4 : ∀ x ∈ tb_X6_init_4, P_X6_init x.1 x.2 :=
  ce_fc (P := P_X6_init) (ok_li (ok_getf (ci := 10) (k := 2) (C := RX6) (T := TX6) (N := 10) dX6_init_108 rfl ce_uX6 (by decide) gw_249 (fun _ _ _ _ h => h))) (
  ce_fc (P := P_X6_init) (ok_li (ok_iload_n dX6_init_111 rfl)) (
  ce_fc (P := P_X6_init) (ok_li (ok_new (ci := 9) (C := RX5) (T := TX5) (N := 5) (ty0 := tyX5) dX6_init_112 rfl ce_uX5 tyX5_ok gw_163 gw_215 gw_7 dv_X5 rfl)) (
  ce_fc (P := P_X6_init) (ok_li (ok_dup dX6_init_115)) (
  ce_fc (P := P_X6_init) (ok_li (ok_aload_n dX6_init_116 rfl)) (
  ce_fc (P := P_X6_init) (ok_call (ru_I m_X5_init (by decide) (by decide) gw_218 gw_216 gw_217 gw_7 rfl hp_X5_init dX6_init_117) ca_t) (
  ce_fc (P := P_X6_init) (ok_li (ok_aast dX6_init_120)) (
  ce_fc (P := P_X6_init) (ok_li (ok_iinc dX6_init_121)) (
  ce_fc (P := P_X6_init) (ok_li (ok_goto dX6_init_124 (by decide))) (
  ce_fc (P := P_X6_init) (ok_li (ok_aload_n dX6_init_127 rfl)) (
  ce_fc (P := P_X6_init) (ok_li (ok_new (ci := 9) (C := RX5) (T := TX5) (N := 5) (ty0 := tyX5) dX6_init_128 rfl ce_uX5 tyX5_ok gw_163 gw_215 gw_7 dv_X5 rfl)) (
  ce_fc (P := P_X6_init) (ok_li (ok_dup dX6_init_131)) (
  ce_fc (P := P_X6_init) (ok_li (ok_aload_n dX6_init_132 rfl)) (
  ce_fc (P := P_X6_init) (ok_call (ru_I m_X5_init (by decide) (by decide) gw_218 gw_216 gw_217 gw_7 rfl hp_X5_init dX6_init_133) ca_t) (
  ce_fn (P := P_X6_init)))))))))))))))
noncomputable def tb_X6_init_5 : List (Nat × ce_N) := [(136, ce_li (ce_putf (tyX6 3) 10 3 139)),
  (139, ce_ret0)]
theorem tk_X6_init_5 : ∀ x ∈ tb_X6_init_5, P_X6_init x.1 x.2 :=
  ce_fc (P := P_X6_init) (ok_li (ok_putf (ci := 10) (k := 3) (C := RX6) (T := TX6) (N := 10) (ty0 := tyX6) dX6_init_136 rfl ce_uX6 (by decide) gw_250 (fun _ _ _ _ h => h) tyX6_ok nmX6 (Or.inr ⟨rfl, rfl, rfl⟩))) (
  ce_fc (P := P_X6_init) (ok_ret0 dX6_init_139 rfl) (
  ce_fn (P := P_X6_init)))
noncomputable def ta_X6_init : Nat → Option ce_N := (ce_tr 81 (ce_tr 31 (ce_fd tb_X6_init_0) (ce_tr 54 (ce_fd tb_X6_init_1) (ce_fd tb_X6_init_2))) (ce_tr 108 (ce_fd tb_X6_init_3) (ce_tr 136 (ce_fd tb_X6_init_4) (ce_fd tb_X6_init_5))))
theorem tx_X6_init : ∀ pc f, ta_X6_init pc = some f → P_X6_init pc f := (ce_tr_ok (P := P_X6_init) (ce_tr_ok (P := P_X6_init) (ce_fd_ok (P := P_X6_init) tk_X6_init_0) (ce_tr_ok (P := P_X6_init) (ce_fd_ok (P := P_X6_init) tk_X6_init_1) (ce_fd_ok (P := P_X6_init) tk_X6_init_2))) (ce_tr_ok (P := P_X6_init) (ce_fd_ok (P := P_X6_init) tk_X6_init_3) (ce_tr_ok (P := P_X6_init) (ce_fd_ok (P := P_X6_init) tk_X6_init_4) (ce_fd_ok (P := P_X6_init) tk_X6_init_5))))
noncomputable def F_X6_init : ce_C := ce_M ta_X6_init 3 36 195 1000000
theorem m_X6_init : ∀ l : Launch, l.stackTraces = false → ce_MS l yX6_init (.code yX6_init cX6_init 3 none) 1 36 195 F_X6_init := fun l hl => ce_met hl (by decide +kernel) tx_X6_init
theorem hp_X6_init : yX6_init.cls ≠ "java/lang/invoke/MethodHandle" ∧ yX6_init.cls ≠ "java/lang/invoke/VarHandle" ∧ (parseMethodDescriptor yX6_init.desc).map (fun d => d.parameters.length) = some 1 := by decide +kernel
abbrev P_X7_init : Nat → ce_N → Prop := ce_OKN "Carcasswright$Saw" "<init>" cX7_init 3 none 1 (some [])
noncomputable def tb_X7_init_0 : List (Nat × ce_N) := [(0, ce_li (ce_aload 0 1)),
  (1, ce_li (ce_oi 4)),
  (4, ce_li (ce_aload 0 5)),
  (5, ce_li (ce_push (.inl (.inl (25))) 7)),
  (7, ce_li (ce_newa 0 2 9)),
  (9, ce_li (ce_putf (tyX7 1) 11 1 12)),
  (12, ce_li (ce_aload 0 13)),
  (13, ce_li (ce_push (.inl (.inl (25))) 15)),
  (15, ce_li (ce_newa 0 2 17)),
  (17, ce_li (ce_putf (tyX7 2) 11 2 20)),
  (20, ce_li (ce_aload 0 21)),
  (21, ce_li (ce_push (.inl (.inl (25))) 23)),
  (23, ce_li (ce_newa 0 2 25)),
  (25, ce_li (ce_putf (tyX7 4) 11 4 28))]
theorem tk_X7_init_0 : ∀ x ∈ tb_X7_init_0, P_X7_init x.1 x.2 :=
  ce_fc (P := P_X7_init) (ok_li (ok_aload_n dX7_init_0 rfl)) (
  ce_fc (P := P_X7_init) (ok_li (ok_oi dX7_init_1 gw_355 gw_57 gw_58)) (
  ce_fc (P := P_X7_init) (ok_li (ok_aload_n dX7_init_4 rfl)) (
  ce_fc (P := P_X7_init) (ok_li (ok_bipush dX7_init_5 (by decide))) (
  ce_fc (P := P_X7_init) (ok_li (ok_newa_int dX7_init_7 gw_193)) (
  ce_fc (P := P_X7_init) (ok_li (ok_putf (ci := 11) (k := 1) (C := RX7) (T := TX7) (N := 13) (ty0 := tyX7) dX7_init_9 rfl ce_uX7 (by decide) gw_359 (fun _ _ _ _ h => h) tyX7_ok nmX7 (Or.inr ⟨rfl, rfl, rfl⟩))) (
  ce_fc (P := P_X7_init) (ok_li (ok_aload_n dX7_init_12 rfl)) (
  ce_fc (P := P_X7_init) (ok_li (ok_bipush dX7_init_13 (by decide))) (
  ce_fc (P := P_X7_init) (ok_li (ok_newa_int dX7_init_15 gw_193)) (
  ce_fc (P := P_X7_init) (ok_li (ok_putf (ci := 11) (k := 2) (C := RX7) (T := TX7) (N := 13) (ty0 := tyX7) dX7_init_17 rfl ce_uX7 (by decide) gw_360 (fun _ _ _ _ h => h) tyX7_ok nmX7 (Or.inr ⟨rfl, rfl, rfl⟩))) (
  ce_fc (P := P_X7_init) (ok_li (ok_aload_n dX7_init_20 rfl)) (
  ce_fc (P := P_X7_init) (ok_li (ok_bipush dX7_init_21 (by decide))) (
  ce_fc (P := P_X7_init) (ok_li (ok_newa_int dX7_init_23 gw_193)) (
  ce_fc (P := P_X7_init) (ok_li (ok_putf (ci := 11) (k := 4) (C := RX7) (T := TX7) (N := 13) (ty0 := tyX7) dX7_init_25 rfl ce_uX7 (by decide) gw_362 (fun _ _ _ _ h => h) tyX7_ok nmX7 (Or.inr ⟨rfl, rfl, rfl⟩))) (
  ce_fn (P := P_X7_init)))))))))))))))
noncomputable def tb_X7_init_1 : List (Nat × ce_N) := [(28, ce_li (ce_aload 0 29)),
  (29, ce_li (ce_push (.inl (.inl (25))) 31)),
  (31, ce_li (ce_newa 0 2 33)),
  (33, ce_li (ce_putf (tyX7 7) 11 7 36)),
  (36, ce_li (ce_aload 0 37)),
  (37, ce_li (ce_push (.inl (.inl (25))) 39)),
  (39, ce_li (ce_newa 0 2 41)),
  (41, ce_li (ce_putf (tyX7 8) 11 8 44)),
  (44, ce_li (ce_aload 0 45)),
  (45, ce_li (ce_push (.inl (.inl (25))) 47)),
  (47, ce_li (ce_newa 0 2 49)),
  (49, ce_li (ce_putf (tyX7 9) 11 9 52)),
  (52, ce_li (ce_aload 0 53)),
  (53, ce_li (ce_push (.inl (.inl (50))) 55))]
theorem tk_X7_init_1 : ∀ x ∈ tb_X7_init_1, P_X7_init x.1 x.2 :=
  ce_fc (P := P_X7_init) (ok_li (ok_aload_n dX7_init_28 rfl)) (
  ce_fc (P := P_X7_init) (ok_li (ok_bipush dX7_init_29 (by decide))) (
  ce_fc (P := P_X7_init) (ok_li (ok_newa_int dX7_init_31 gw_193)) (
  ce_fc (P := P_X7_init) (ok_li (ok_putf (ci := 11) (k := 7) (C := RX7) (T := TX7) (N := 13) (ty0 := tyX7) dX7_init_33 rfl ce_uX7 (by decide) gw_366 (fun _ _ _ _ h => h) tyX7_ok nmX7 (Or.inr ⟨rfl, rfl, rfl⟩))) (
  ce_fc (P := P_X7_init) (ok_li (ok_aload_n dX7_init_36 rfl)) (
  ce_fc (P := P_X7_init) (ok_li (ok_bipush dX7_init_37 (by decide))) (
  ce_fc (P := P_X7_init) (ok_li (ok_newa_int dX7_init_39 gw_193)) (
  ce_fc (P := P_X7_init) (ok_li (ok_putf (ci := 11) (k := 8) (C := RX7) (T := TX7) (N := 13) (ty0 := tyX7) dX7_init_41 rfl ce_uX7 (by decide) gw_367 (fun _ _ _ _ h => h) tyX7_ok nmX7 (Or.inr ⟨rfl, rfl, rfl⟩))) (
  ce_fc (P := P_X7_init) (ok_li (ok_aload_n dX7_init_44 rfl)) (
  ce_fc (P := P_X7_init) (ok_li (ok_bipush dX7_init_45 (by decide))) (
  ce_fc (P := P_X7_init) (ok_li (ok_newa_int dX7_init_47 gw_193)) (
  ce_fc (P := P_X7_init) (ok_li (ok_putf (ci := 11) (k := 9) (C := RX7) (T := TX7) (N := 13) (ty0 := tyX7) dX7_init_49 rfl ce_uX7 (by decide) gw_368 (fun _ _ _ _ h => h) tyX7_ok nmX7 (Or.inr ⟨rfl, rfl, rfl⟩))) (
  ce_fc (P := P_X7_init) (ok_li (ok_aload_n dX7_init_52 rfl)) (
  ce_fc (P := P_X7_init) (ok_li (ok_bipush dX7_init_53 (by decide))) (
  ce_fn (P := P_X7_init)))))))))))))))
noncomputable def tb_X7_init_2 : List (Nat × ce_N) := [(55, ce_li (ce_newa 11 3 58)),
  (58, ce_li (ce_putf (tyX7 11) 11 11 61)),
  (61, ce_li (ce_aload 0 62)),
  (62, ce_li (ce_aload 1 63)),
  (63, ce_li (ce_putf (tyX7 0) 11 0 66)),
  (66, ce_li (ce_push (.inl (.inl (0))) 67)),
  (67, ce_li (ce_istore 2 68 3)),
  (68, ce_li (ce_iload 2 69)),
  (69, ce_li (ce_push (.inl (.inl (50))) 71)),
  (71, ce_li (ce_icmp false false true 93 74)),
  (74, ce_li (ce_aload 0 75)),
  (75, ce_li (ce_getf 11 11 78)),
  (78, ce_li (ce_iload 2 79)),
  (79, ce_li (ce_new 4 7 dl_X0 82))]
theorem tk_X7_init_2 : ∀ x ∈ tb_X7_init_2, P_X7_init x.1 x.2 :=
  ce_fc (P := P_X7_init) (ok_li (ok_newq (C := "Carcasswright$Board") (t := 11) dX7_init_55 gw_356 (by decide) (fun _ => rfl) (fun z ad n => ce_refs (by decide) (by decide) (by decide) z ad n))) (
  ce_fc (P := P_X7_init) (ok_li (ok_putf (ci := 11) (k := 11) (C := RX7) (T := TX7) (N := 13) (ty0 := tyX7) dX7_init_58 rfl ce_uX7 (by decide) gw_370 (fun _ _ _ _ h => h) tyX7_ok nmX7 (Or.inr ⟨rfl, rfl, rfl⟩))) (
  ce_fc (P := P_X7_init) (ok_li (ok_aload_n dX7_init_61 rfl)) (
  ce_fc (P := P_X7_init) (ok_li (ok_aload_n dX7_init_62 rfl)) (
  ce_fc (P := P_X7_init) (ok_li (ok_putf (ci := 11) (k := 0) (C := RX7) (T := TX7) (N := 13) (ty0 := tyX7) dX7_init_63 rfl ce_uX7 (by decide) gw_358 (fun _ _ _ _ h => h) tyX7_ok nmX7 (Or.inr ⟨rfl, rfl, rfl⟩))) (
  ce_fc (P := P_X7_init) (ok_li (ok_iconst dX7_init_66)) (
  ce_fc (P := P_X7_init) (ok_li (ok_istore_n dX7_init_67 rfl)) (
  ce_fc (P := P_X7_init) (ok_li (ok_iload_n dX7_init_68 rfl)) (
  ce_fc (P := P_X7_init) (ok_li (ok_bipush dX7_init_69 (by decide))) (
  ce_fc (P := P_X7_init) (ok_li (ok_icmp_ge dX7_init_71 (by decide))) (
  ce_fc (P := P_X7_init) (ok_li (ok_aload_n dX7_init_74 rfl)) (
  ce_fc (P := P_X7_init) (ok_li (ok_getf (ci := 11) (k := 11) (C := RX7) (T := TX7) (N := 13) dX7_init_75 rfl ce_uX7 (by decide) gw_370 (fun _ _ _ _ h => h))) (
  ce_fc (P := P_X7_init) (ok_li (ok_iload_n dX7_init_78 rfl)) (
  ce_fc (P := P_X7_init) (ok_li (ok_new (ci := 4) (C := RX0) (T := TX0) (N := 7) (ty0 := tyX0) dX7_init_79 rfl ce_uX0 tyX0_ok gw_356 gw_292 gw_9 dv_X0 rfl)) (
  ce_fn (P := P_X7_init)))))))))))))))
noncomputable def tb_X7_init_3 : List (Nat × ce_N) := [(82, ce_li (ce_dup 83)),
  (83, ce_call 1 0 0 86 (.inr true) (ce_CI F_X0_init)),
  (86, ce_li (ce_aast 87)),
  (87, ce_li (ce_iinc 2 (1) 90 3)),
  (90, ce_li (ce_goto 68)),
  (93, ce_ret0)]
theorem tk_X7_init_3 : ∀ x ∈ tb_X7_init_3, P_X7_init x.1 x.2 :=
  ce_fc (P := P_X7_init) (ok_li (ok_dup dX7_init_82)) (
  ce_fc (P := P_X7_init) (ok_call (ru_IN m_X0_init (by decide) (by decide) gw_295 gn_12 gw_294 gw_9 rfl hp_X0_init dX7_init_83) ca_t) (
  ce_fc (P := P_X7_init) (ok_li (ok_aast dX7_init_86)) (
  ce_fc (P := P_X7_init) (ok_li (ok_iinc dX7_init_87)) (
  ce_fc (P := P_X7_init) (ok_li (ok_goto dX7_init_90 (by decide))) (
  ce_fc (P := P_X7_init) (ok_ret0 dX7_init_93 rfl) (
  ce_fn (P := P_X7_init)))))))
noncomputable def ta_X7_init : Nat → Option ce_N := (ce_tr 55 (ce_tr 28 (ce_fd tb_X7_init_0) (ce_fd tb_X7_init_1)) (ce_tr 82 (ce_fd tb_X7_init_2) (ce_fd tb_X7_init_3)))
theorem tx_X7_init : ∀ pc f, ta_X7_init pc = some f → P_X7_init pc f := (ce_tr_ok (P := P_X7_init) (ce_tr_ok (P := P_X7_init) (ce_fd_ok (P := P_X7_init) tk_X7_init_0) (ce_fd_ok (P := P_X7_init) tk_X7_init_1)) (ce_tr_ok (P := P_X7_init) (ce_fd_ok (P := P_X7_init) tk_X7_init_2) (ce_fd_ok (P := P_X7_init) tk_X7_init_3)))
noncomputable def F_X7_init : ce_C := ce_M ta_X7_init 3 57 550 1000000
theorem m_X7_init : ∀ l : Launch, l.stackTraces = false → ce_MS l yX7_init (.code yX7_init cX7_init 3 none) 1 57 550 F_X7_init := fun l hl => ce_met hl (by decide +kernel) tx_X7_init
theorem hp_X7_init : yX7_init.cls ≠ "java/lang/invoke/MethodHandle" ∧ yX7_init.cls ≠ "java/lang/invoke/VarHandle" ∧ (parseMethodDescriptor yX7_init.desc).map (fun d => d.parameters.length) = some 1 := by decide +kernel
abbrev P_X8_init : Nat → ce_N → Prop := ce_OKN "Carcasswright$Stock" "<init>" cX8_init 2 none 1 (some [])
noncomputable def tb_X8_init_0 : List (Nat × ce_N) := [(0, ce_li (ce_aload 0 1)),
  (1, ce_li (ce_oi 4)),
  (4, ce_li (ce_aload 0 5)),
  (5, ce_li (ce_push (.inl (.inl (60))) 7)),
  (7, ce_li (ce_newa 11 3 10)),
  (10, ce_li (ce_putf (tyX8 0) 12 0 13)),
  (13, ce_li (ce_push (.inl (.inl (0))) 14)),
  (14, ce_li (ce_istore 1 15 2)),
  (15, ce_li (ce_iload 1 16)),
  (16, ce_li (ce_push (.inl (.inl (60))) 18)),
  (18, ce_li (ce_icmp false false true 40 21)),
  (21, ce_li (ce_aload 0 22)),
  (22, ce_li (ce_getf 12 0 25)),
  (25, ce_li (ce_iload 1 26))]
theorem tk_X8_init_0 : ∀ x ∈ tb_X8_init_0, P_X8_init x.1 x.2 :=
  ce_fc (P := P_X8_init) (ok_li (ok_aload_n dX8_init_0 rfl)) (
  ce_fc (P := P_X8_init) (ok_li (ok_oi dX8_init_1 gw_289 gw_57 gw_58)) (
  ce_fc (P := P_X8_init) (ok_li (ok_aload_n dX8_init_4 rfl)) (
  ce_fc (P := P_X8_init) (ok_li (ok_bipush dX8_init_5 (by decide))) (
  ce_fc (P := P_X8_init) (ok_li (ok_newq (C := "Carcasswright$Board") (t := 11) dX8_init_7 gw_290 (by decide) (fun _ => rfl) (fun z ad n => ce_refs (by decide) (by decide) (by decide) z ad n))) (
  ce_fc (P := P_X8_init) (ok_li (ok_putf (ci := 12) (k := 0) (C := RX8) (T := TX8) (N := 5) (ty0 := tyX8) dX8_init_10 rfl ce_uX8 (by decide) gw_332 (fun _ _ _ _ h => h) tyX8_ok nmX8 (Or.inr ⟨rfl, rfl, rfl⟩))) (
  ce_fc (P := P_X8_init) (ok_li (ok_iconst dX8_init_13)) (
  ce_fc (P := P_X8_init) (ok_li (ok_istore_n dX8_init_14 rfl)) (
  ce_fc (P := P_X8_init) (ok_li (ok_iload_n dX8_init_15 rfl)) (
  ce_fc (P := P_X8_init) (ok_li (ok_bipush dX8_init_16 (by decide))) (
  ce_fc (P := P_X8_init) (ok_li (ok_icmp_ge dX8_init_18 (by decide))) (
  ce_fc (P := P_X8_init) (ok_li (ok_aload_n dX8_init_21 rfl)) (
  ce_fc (P := P_X8_init) (ok_li (ok_getf (ci := 12) (k := 0) (C := RX8) (T := TX8) (N := 5) dX8_init_22 rfl ce_uX8 (by decide) gw_332 (fun _ _ _ _ h => h))) (
  ce_fc (P := P_X8_init) (ok_li (ok_iload_n dX8_init_25 rfl)) (
  ce_fn (P := P_X8_init)))))))))))))))
noncomputable def tb_X8_init_1 : List (Nat × ce_N) := [(26, ce_li (ce_new 4 7 dl_X0 29)),
  (29, ce_li (ce_dup 30)),
  (30, ce_call 1 0 0 33 (.inr true) (ce_CI F_X0_init)),
  (33, ce_li (ce_aast 34)),
  (34, ce_li (ce_iinc 1 (1) 37 2)),
  (37, ce_li (ce_goto 15)),
  (40, ce_ret0)]
theorem tk_X8_init_1 : ∀ x ∈ tb_X8_init_1, P_X8_init x.1 x.2 :=
  ce_fc (P := P_X8_init) (ok_li (ok_new (ci := 4) (C := RX0) (T := TX0) (N := 7) (ty0 := tyX0) dX8_init_26 rfl ce_uX0 tyX0_ok gw_290 gw_292 gw_9 dv_X0 rfl)) (
  ce_fc (P := P_X8_init) (ok_li (ok_dup dX8_init_29)) (
  ce_fc (P := P_X8_init) (ok_call (ru_IN m_X0_init (by decide) (by decide) gw_295 gn_11 gw_294 gw_9 rfl hp_X0_init dX8_init_30) ca_t) (
  ce_fc (P := P_X8_init) (ok_li (ok_aast dX8_init_33)) (
  ce_fc (P := P_X8_init) (ok_li (ok_iinc dX8_init_34)) (
  ce_fc (P := P_X8_init) (ok_li (ok_goto dX8_init_37 (by decide))) (
  ce_fc (P := P_X8_init) (ok_ret0 dX8_init_40 rfl) (
  ce_fn (P := P_X8_init))))))))
noncomputable def ta_X8_init : Nat → Option ce_N := (ce_tr 26 (ce_fd tb_X8_init_0) (ce_fd tb_X8_init_1))
theorem tx_X8_init : ∀ pc f, ta_X8_init pc = some f → P_X8_init pc f := (ce_tr_ok (P := P_X8_init) (ce_fd_ok (P := P_X8_init) tk_X8_init_0) (ce_fd_ok (P := P_X8_init) tk_X8_init_1))
noncomputable def F_X8_init : ce_C := ce_M ta_X8_init 2 61 480 1000000
theorem m_X8_init : ∀ l : Launch, l.stackTraces = false → ce_MS l yX8_init (.code yX8_init cX8_init 2 none) 1 61 480 F_X8_init := fun l hl => ce_met hl (by decide +kernel) tx_X8_init
theorem hp_X8_init : yX8_init.cls ≠ "java/lang/invoke/MethodHandle" ∧ yX8_init.cls ≠ "java/lang/invoke/VarHandle" ∧ (parseMethodDescriptor yX8_init.desc).map (fun d => d.parameters.length) = some 0 := by decide +kernel
abbrev P_X9_init : Nat → ce_N → Prop := ce_OKN "Carcasswright$Types" "<init>" cX9_init 2 none 1 (some [])
noncomputable def tb_X9_init_0 : List (Nat × ce_N) := [(0, ce_li (ce_aload 0 1)),
  (1, ce_li (ce_oi 4)),
  (4, ce_li (ce_aload 0 5)),
  (5, ce_li (ce_push (.inl (.inl (30))) 7)),
  (7, ce_li (ce_newa 1 2 9)),
  (9, ce_li (ce_putf (tyX9 0) 13 0 12)),
  (12, ce_li (ce_aload 0 13)),
  (13, ce_li (ce_push (.inl (.inl (8))) 15)),
  (15, ce_li (ce_newa 10 3 18)),
  (18, ce_li (ce_putf (tyX9 1) 13 1 21)),
  (21, ce_li (ce_aload 0 22)),
  (22, ce_li (ce_new 6 9 dl_X2 25)),
  (25, ce_li (ce_dup 26)),
  (26, ce_call 1 0 0 29 (.inr true) (ce_CI F_X2_init))]
theorem tk_X9_init_0 : ∀ x ∈ tb_X9_init_0, P_X9_init x.1 x.2 :=
  ce_fc (P := P_X9_init) (ok_li (ok_aload_n dX9_init_0 rfl)) (
  ce_fc (P := P_X9_init) (ok_li (ok_oi dX9_init_1 gw_64 gw_57 gw_58)) (
  ce_fc (P := P_X9_init) (ok_li (ok_aload_n dX9_init_4 rfl)) (
  ce_fc (P := P_X9_init) (ok_li (ok_bipush dX9_init_5 (by decide))) (
  ce_fc (P := P_X9_init) (ok_li (ok_newa_char dX9_init_7 gw_113)) (
  ce_fc (P := P_X9_init) (ok_li (ok_putf (ci := 13) (k := 0) (C := RX9) (T := TX9) (N := 10) (ty0 := tyX9) dX9_init_9 rfl ce_uX9 (by decide) gw_114 (fun _ _ _ _ h => h) tyX9_ok nmX9 (Or.inr ⟨rfl, rfl, rfl⟩))) (
  ce_fc (P := P_X9_init) (ok_li (ok_aload_n dX9_init_12 rfl)) (
  ce_fc (P := P_X9_init) (ok_li (ok_bipush dX9_init_13 (by decide))) (
  ce_fc (P := P_X9_init) (ok_li (ok_newq (C := "Carcasswright$ModuleType") (t := 10) dX9_init_15 gw_65 (by decide) (fun _ => rfl) (fun z ad n => ce_refs (by decide) (by decide) (by decide) z ad n))) (
  ce_fc (P := P_X9_init) (ok_li (ok_putf (ci := 13) (k := 1) (C := RX9) (T := TX9) (N := 10) (ty0 := tyX9) dX9_init_18 rfl ce_uX9 (by decide) gw_115 (fun _ _ _ _ h => h) tyX9_ok nmX9 (Or.inr ⟨rfl, rfl, rfl⟩))) (
  ce_fc (P := P_X9_init) (ok_li (ok_aload_n dX9_init_21 rfl)) (
  ce_fc (P := P_X9_init) (ok_li (ok_new (ci := 6) (C := RX2) (T := TX2) (N := 9) (ty0 := tyX2) dX9_init_22 rfl ce_uX2 tyX2_ok gw_65 gw_67 gw_3 dv_X2 rfl)) (
  ce_fc (P := P_X9_init) (ok_li (ok_dup dX9_init_25)) (
  ce_fc (P := P_X9_init) (ok_call (ru_IN m_X2_init (by decide) (by decide) gw_70 gn_8 gw_69 gw_3 rfl hp_X2_init dX9_init_26) ca_t) (
  ce_fn (P := P_X9_init)))))))))))))))
noncomputable def tb_X9_init_1 : List (Nat × ce_N) := [(29, ce_li (ce_putf (tyX9 2) 13 2 32)),
  (32, ce_li (ce_push (.inl (.inl (0))) 33)),
  (33, ce_li (ce_istore 1 34 2)),
  (34, ce_li (ce_iload 1 35)),
  (35, ce_li (ce_push (.inl (.inl (8))) 37)),
  (37, ce_li (ce_icmp false false true 59 40)),
  (40, ce_li (ce_aload 0 41)),
  (41, ce_li (ce_getf 13 1 44)),
  (44, ce_li (ce_iload 1 45)),
  (45, ce_li (ce_new 6 9 dl_X2 48)),
  (48, ce_li (ce_dup 49)),
  (49, ce_call 1 0 0 52 (.inr true) (ce_CI F_X2_init)),
  (52, ce_li (ce_aast 53)),
  (53, ce_li (ce_iinc 1 (1) 56 2))]
theorem tk_X9_init_1 : ∀ x ∈ tb_X9_init_1, P_X9_init x.1 x.2 :=
  ce_fc (P := P_X9_init) (ok_li (ok_putf (ci := 13) (k := 2) (C := RX9) (T := TX9) (N := 10) (ty0 := tyX9) dX9_init_29 rfl ce_uX9 (by decide) gw_116 (fun _ _ _ _ h => h) tyX9_ok nmX9 (Or.inr ⟨rfl, rfl, rfl⟩))) (
  ce_fc (P := P_X9_init) (ok_li (ok_iconst dX9_init_32)) (
  ce_fc (P := P_X9_init) (ok_li (ok_istore_n dX9_init_33 rfl)) (
  ce_fc (P := P_X9_init) (ok_li (ok_iload_n dX9_init_34 rfl)) (
  ce_fc (P := P_X9_init) (ok_li (ok_bipush dX9_init_35 (by decide))) (
  ce_fc (P := P_X9_init) (ok_li (ok_icmp_ge dX9_init_37 (by decide))) (
  ce_fc (P := P_X9_init) (ok_li (ok_aload_n dX9_init_40 rfl)) (
  ce_fc (P := P_X9_init) (ok_li (ok_getf (ci := 13) (k := 1) (C := RX9) (T := TX9) (N := 10) dX9_init_41 rfl ce_uX9 (by decide) gw_115 (fun _ _ _ _ h => h))) (
  ce_fc (P := P_X9_init) (ok_li (ok_iload_n dX9_init_44 rfl)) (
  ce_fc (P := P_X9_init) (ok_li (ok_new (ci := 6) (C := RX2) (T := TX2) (N := 9) (ty0 := tyX2) dX9_init_45 rfl ce_uX2 tyX2_ok gw_65 gw_67 gw_3 dv_X2 rfl)) (
  ce_fc (P := P_X9_init) (ok_li (ok_dup dX9_init_48)) (
  ce_fc (P := P_X9_init) (ok_call (ru_IN m_X2_init (by decide) (by decide) gw_70 gn_8 gw_69 gw_3 rfl hp_X2_init dX9_init_49) ca_t) (
  ce_fc (P := P_X9_init) (ok_li (ok_aast dX9_init_52)) (
  ce_fc (P := P_X9_init) (ok_li (ok_iinc dX9_init_53)) (
  ce_fn (P := P_X9_init)))))))))))))))
noncomputable def tb_X9_init_2 : List (Nat × ce_N) := [(56, ce_li (ce_goto 34)),
  (59, ce_ret0)]
theorem tk_X9_init_2 : ∀ x ∈ tb_X9_init_2, P_X9_init x.1 x.2 :=
  ce_fc (P := P_X9_init) (ok_li (ok_goto dX9_init_56 (by decide))) (
  ce_fc (P := P_X9_init) (ok_ret0 dX9_init_59 rfl) (
  ce_fn (P := P_X9_init)))
noncomputable def ta_X9_init : Nat → Option ce_N := (ce_tr 29 (ce_fd tb_X9_init_0) (ce_tr 56 (ce_fd tb_X9_init_1) (ce_fd tb_X9_init_2)))
theorem tx_X9_init : ∀ pc f, ta_X9_init pc = some f → P_X9_init pc f := (ce_tr_ok (P := P_X9_init) (ce_fd_ok (P := P_X9_init) tk_X9_init_0) (ce_tr_ok (P := P_X9_init) (ce_fd_ok (P := P_X9_init) tk_X9_init_1) (ce_fd_ok (P := P_X9_init) tk_X9_init_2)))
noncomputable def F_X9_init : ce_C := ce_M ta_X9_init 2 11 119 1000000
theorem m_X9_init : ∀ l : Launch, l.stackTraces = false → ce_MS l yX9_init (.code yX9_init cX9_init 2 none) 1 11 119 F_X9_init := fun l hl => ce_met hl (by decide +kernel) tx_X9_init
theorem hp_X9_init : yX9_init.cls ≠ "java/lang/invoke/MethodHandle" ∧ yX9_init.cls ≠ "java/lang/invoke/VarHandle" ∧ (parseMethodDescriptor yX9_init.desc).map (fun d => d.parameters.length) = some 0 := by decide +kernel
abbrev P_J0_indexOf_7cf53 : Nat → ce_N → Prop := ce_OKN "java/lang/String" "indexOf" cJ0_indexOf_7cf53 3 (some .int) 2 (some [])
noncomputable def tb_J0_indexOf_7cf53_0 : List (Nat × ce_N) := [(0, ce_li (ce_aload 0 1)),
  (1, ce_call 1 0 0 4 (.inr true) (ce_CV 0 F_J0_isLatin1_aae02)),
  (4, ce_li (ce_if true false false 23 7)),
  (7, ce_li (ce_aload 0 8)),
  (8, ce_li (ce_gets 0 11)),
  (11, ce_li (ce_iload 1 12)),
  (12, ce_li (ce_iload 2 13)),
  (13, ce_li (ce_aload 0 14)),
  (14, ce_call 1 0 0 17 (.inr true) (ce_CV 0 F_J0_length_8abf5)),
  (17, ce_call 4 0 0 20 (.inr true) F_J1_indexOf_4cfef),
  (20, ce_li (ce_goto 36)),
  (36, ce_reti .int)]
theorem tk_J0_indexOf_7cf53_0 : ∀ x ∈ tb_J0_indexOf_7cf53_0, P_J0_indexOf_7cf53 x.1 x.2 :=
  ce_fc (P := P_J0_indexOf_7cf53) (ok_li (ok_aload_n dJ0_indexOf_7cf53_0 rfl)) (
  ce_fc (P := P_J0_indexOf_7cf53) (ok_call (ru_V (ci := 0) (C := RJ0) (Tf := TJ0) (N := 4) m_J0_isLatin1_aae02 (by decide) (by decide) rfl gw_1603 gw_1600 gw_1601 gw_1602 gw_23 ⟨rfl, hp_J0_isLatin1_aae02⟩ dJ0_indexOf_7cf53_1) ca_t) (
  ce_fc (P := P_J0_indexOf_7cf53) (ok_li (ok_if_eq dJ0_indexOf_7cf53_4 (by decide))) (
  ce_fc (P := P_J0_indexOf_7cf53) (ok_li (ok_aload_n dJ0_indexOf_7cf53_7 rfl)) (
  ce_fc (P := P_J0_indexOf_7cf53) (ok_li (ok_gets0 dJ0_indexOf_7cf53_8 gw_2141)) (
  ce_fc (P := P_J0_indexOf_7cf53) (ok_li (ok_iload_n dJ0_indexOf_7cf53_11 rfl)) (
  ce_fc (P := P_J0_indexOf_7cf53) (ok_li (ok_iload_n dJ0_indexOf_7cf53_12 rfl)) (
  ce_fc (P := P_J0_indexOf_7cf53) (ok_li (ok_aload_n dJ0_indexOf_7cf53_13 rfl)) (
  ce_fc (P := P_J0_indexOf_7cf53) (ok_call (ru_V (ci := 0) (C := RJ0) (Tf := TJ0) (N := 4) m_J0_length_8abf5 (by decide) (by decide) rfl gw_1609 gw_1606 gw_1607 gw_1608 gw_23 ⟨rfl, hp_J0_length_8abf5⟩ dJ0_indexOf_7cf53_14) ca_t) (
  ce_fc (P := P_J0_indexOf_7cf53) (ok_call (ru_S m_J1_indexOf_4cfef (by decide) (by decide) gw_1616 gw_1614 gw_1615 gw_24 hp_J1_indexOf_4cfef dJ0_indexOf_7cf53_17) ca_t) (
  ce_fc (P := P_J0_indexOf_7cf53) (ok_li (ok_goto dJ0_indexOf_7cf53_20 (by decide))) (
  ce_fc (P := P_J0_indexOf_7cf53) (ok_reti dJ0_indexOf_7cf53_36 rfl) (
  ce_fn (P := P_J0_indexOf_7cf53)))))))))))))
noncomputable def ta_J0_indexOf_7cf53 : Nat → Option ce_N := (ce_fd tb_J0_indexOf_7cf53_0)
theorem tx_J0_indexOf_7cf53 : ∀ pc f, ta_J0_indexOf_7cf53 pc = some f → P_J0_indexOf_7cf53 pc f := (ce_fd_ok (P := P_J0_indexOf_7cf53) tk_J0_indexOf_7cf53_0)
noncomputable def F_J0_indexOf_7cf53 : ce_C := ce_M ta_J0_indexOf_7cf53 3 0 0 1000000
theorem m_J0_indexOf_7cf53 : ∀ l : Launch, l.stackTraces = false → ce_MS l yJ0_indexOf_7cf53 (.code yJ0_indexOf_7cf53 cJ0_indexOf_7cf53 3 (some .int)) 2 0 0 F_J0_indexOf_7cf53 := fun l hl => ce_met hl (by decide +kernel) tx_J0_indexOf_7cf53
theorem hp_J0_indexOf_7cf53 : yJ0_indexOf_7cf53.cls ≠ "java/lang/invoke/MethodHandle" ∧ yJ0_indexOf_7cf53.cls ≠ "java/lang/invoke/VarHandle" ∧ (parseMethodDescriptor yJ0_indexOf_7cf53.desc).map (fun d => d.parameters.length) = some 2 := by decide +kernel
abbrev P_Jx4a65c_add_72be8 : Nat → ce_N → Prop := ce_OKN "java/util/ArrayList" "add" cJx4a65c_add_72be8 4 none 2 (some [])
noncomputable def tb_Jx4a65c_add_72be8_0 : List (Nat × ce_N) := [(0, ce_li (ce_iload 3 1)),
  (1, ce_li (ce_aload 2 2)),
  (2, ce_li (ce_alen 3)),
  (3, ce_li (ce_icmp true false true 11 6)),
  (6, ce_li (ce_aload 0 7)),
  (7, ce_call 1 1 10 10 (.inr true) (ce_CV 3 F_Jx4a65c_grow_d5877)),
  (10, ce_li (ce_astore 2 11 4)),
  (11, ce_li (ce_aload 2 12)),
  (12, ce_li (ce_iload 3 13)),
  (13, ce_li (ce_aload 1 14)),
  (14, ce_li (ce_aast 15)),
  (15, ce_li (ce_aload 0 16)),
  (16, ce_li (ce_iload 3 17)),
  (17, ce_li (ce_push (.inl (.inl (1))) 18))]
theorem tk_Jx4a65c_add_72be8_0 : ∀ x ∈ tb_Jx4a65c_add_72be8_0, P_Jx4a65c_add_72be8 x.1 x.2 :=
  ce_fc (P := P_Jx4a65c_add_72be8) (ok_li (ok_iload_n dJx4a65c_add_72be8_0 rfl)) (
  ce_fc (P := P_Jx4a65c_add_72be8) (ok_li (ok_aload_n dJx4a65c_add_72be8_1 rfl)) (
  ce_fc (P := P_Jx4a65c_add_72be8) (ok_li (ok_alen dJx4a65c_add_72be8_2)) (
  ce_fc (P := P_Jx4a65c_add_72be8) (ok_li (ok_icmp_ne dJx4a65c_add_72be8_3 (by decide))) (
  ce_fc (P := P_Jx4a65c_add_72be8) (ok_li (ok_aload_n dJx4a65c_add_72be8_6 rfl)) (
  ce_fc (P := P_Jx4a65c_add_72be8) (ok_call (ru_V (ci := 3) (C := RJx4a65c) (Tf := TJx4a65c) (N := 3) m_Jx4a65c_grow_d5877 (by decide) (by decide) rfl gw_1721 gw_1718 gw_1720 gp_5 gw_16 ⟨rfl, hp_Jx4a65c_grow_d5877⟩ dJx4a65c_add_72be8_7) ca_t) (
  ce_fc (P := P_Jx4a65c_add_72be8) (ok_li (ok_astore_n dJx4a65c_add_72be8_10 rfl)) (
  ce_fc (P := P_Jx4a65c_add_72be8) (ok_li (ok_aload_n dJx4a65c_add_72be8_11 rfl)) (
  ce_fc (P := P_Jx4a65c_add_72be8) (ok_li (ok_iload_n dJx4a65c_add_72be8_12 rfl)) (
  ce_fc (P := P_Jx4a65c_add_72be8) (ok_li (ok_aload_n dJx4a65c_add_72be8_13 rfl)) (
  ce_fc (P := P_Jx4a65c_add_72be8) (ok_li (ok_aast dJx4a65c_add_72be8_14)) (
  ce_fc (P := P_Jx4a65c_add_72be8) (ok_li (ok_aload_n dJx4a65c_add_72be8_15 rfl)) (
  ce_fc (P := P_Jx4a65c_add_72be8) (ok_li (ok_iload_n dJx4a65c_add_72be8_16 rfl)) (
  ce_fc (P := P_Jx4a65c_add_72be8) (ok_li (ok_iconst dJx4a65c_add_72be8_17)) (
  ce_fn (P := P_Jx4a65c_add_72be8)))))))))))))))
noncomputable def tb_Jx4a65c_add_72be8_1 : List (Nat × ce_N) := [(18, ce_li (ce_bin ce_addo 19)),
  (19, ce_li (ce_putf (tyJx4a65c 2) 3 2 22)),
  (22, ce_ret0)]
theorem tk_Jx4a65c_add_72be8_1 : ∀ x ∈ tb_Jx4a65c_add_72be8_1, P_Jx4a65c_add_72be8 x.1 x.2 :=
  ce_fc (P := P_Jx4a65c_add_72be8) (ok_li (ok_iadd dJx4a65c_add_72be8_18)) (
  ce_fc (P := P_Jx4a65c_add_72be8) (ok_li (ok_putf (ci := 3) (k := 2) (C := RJx4a65c) (T := TJx4a65c) (N := 3) (ty0 := tyJx4a65c) dJx4a65c_add_72be8_19 rfl ce_uJx4a65c (by decide) gw_1508 (fun _ _ _ _ h => h) tyJx4a65c_ok nmJx4a65c (Or.inl rfl))) (
  ce_fc (P := P_Jx4a65c_add_72be8) (ok_ret0 dJx4a65c_add_72be8_22 rfl) (
  ce_fn (P := P_Jx4a65c_add_72be8))))
noncomputable def ta_Jx4a65c_add_72be8 : Nat → Option ce_N := (ce_tr 18 (ce_fd tb_Jx4a65c_add_72be8_0) (ce_fd tb_Jx4a65c_add_72be8_1))
theorem tx_Jx4a65c_add_72be8 : ∀ pc f, ta_Jx4a65c_add_72be8 pc = some f → P_Jx4a65c_add_72be8 pc f := (ce_tr_ok (P := P_Jx4a65c_add_72be8) (ce_fd_ok (P := P_Jx4a65c_add_72be8) tk_Jx4a65c_add_72be8_0) (ce_fd_ok (P := P_Jx4a65c_add_72be8) tk_Jx4a65c_add_72be8_1))
noncomputable def F_Jx4a65c_add_72be8 : ce_C := ce_M ta_Jx4a65c_add_72be8 4 1 10 1000000
theorem m_Jx4a65c_add_72be8 : ∀ l : Launch, l.stackTraces = false → ce_MS l yJx4a65c_add_72be8 (.code yJx4a65c_add_72be8 cJx4a65c_add_72be8 4 none) 2 1 10 F_Jx4a65c_add_72be8 := fun l hl => ce_met hl (by decide +kernel) tx_Jx4a65c_add_72be8
theorem hp_Jx4a65c_add_72be8 : yJx4a65c_add_72be8.cls ≠ "java/lang/invoke/MethodHandle" ∧ yJx4a65c_add_72be8.cls ≠ "java/lang/invoke/VarHandle" ∧ (parseMethodDescriptor yJx4a65c_add_72be8.desc).map (fun d => d.parameters.length) = some 3 := by decide +kernel
abbrev P_Jx4a65c_get_915e3 : Nat → ce_N → Prop := ce_OKN "java/util/ArrayList" "get" cJx4a65c_get_915e3 2 (some (.object "java/lang/Object")) 2 (some [])
noncomputable def tb_Jx4a65c_get_915e3_0 : List (Nat × ce_N) := [(0, ce_li (ce_iload 1 1)),
  (1, ce_li (ce_aload 0 2)),
  (2, ce_li (ce_getf 3 2 5)),
  (5, ce_call 2 0 0 8 (.inr true) F_J15_checkIndex_7cf53),
  (8, ce_li (ce_pop 9)),
  (9, ce_li (ce_aload 0 10)),
  (10, ce_li (ce_iload 1 11)),
  (11, ce_call 2 0 0 14 (.inr true) (ce_CV 3 F_Jx4a65c_elementData_915e3)),
  (14, ce_reta)]
theorem tk_Jx4a65c_get_915e3_0 : ∀ x ∈ tb_Jx4a65c_get_915e3_0, P_Jx4a65c_get_915e3 x.1 x.2 :=
  ce_fc (P := P_Jx4a65c_get_915e3) (ok_li (ok_iload_n dJx4a65c_get_915e3_0 rfl)) (
  ce_fc (P := P_Jx4a65c_get_915e3) (ok_li (ok_aload_n dJx4a65c_get_915e3_1 rfl)) (
  ce_fc (P := P_Jx4a65c_get_915e3) (ok_li (ok_getf (ci := 3) (k := 2) (C := RJx4a65c) (T := TJx4a65c) (N := 3) dJx4a65c_get_915e3_2 rfl ce_uJx4a65c (by decide) gw_1508 (fun _ _ _ _ h => h))) (
  ce_fc (P := P_Jx4a65c_get_915e3) (ok_call (ru_S m_J15_checkIndex_7cf53 (by decide) (by decide) gw_1860 gw_1858 gw_1859 gw_36 hp_J15_checkIndex_7cf53 dJx4a65c_get_915e3_5) ca_t) (
  ce_fc (P := P_Jx4a65c_get_915e3) (ok_li (ok_pop dJx4a65c_get_915e3_8)) (
  ce_fc (P := P_Jx4a65c_get_915e3) (ok_li (ok_aload_n dJx4a65c_get_915e3_9 rfl)) (
  ce_fc (P := P_Jx4a65c_get_915e3) (ok_li (ok_iload_n dJx4a65c_get_915e3_10 rfl)) (
  ce_fc (P := P_Jx4a65c_get_915e3) (ok_call (ru_V (ci := 3) (C := RJx4a65c) (Tf := TJx4a65c) (N := 3) m_Jx4a65c_elementData_915e3 (by decide) (by decide) rfl gw_1867 gw_1864 gw_1865 gw_1866 gw_16 ⟨rfl, hp_Jx4a65c_elementData_915e3⟩ dJx4a65c_get_915e3_11) ca_t) (
  ce_fc (P := P_Jx4a65c_get_915e3) (ok_reta dJx4a65c_get_915e3_14 rfl (Or.inl ⟨_, rfl⟩)) (
  ce_fn (P := P_Jx4a65c_get_915e3))))))))))
noncomputable def ta_Jx4a65c_get_915e3 : Nat → Option ce_N := (ce_fd tb_Jx4a65c_get_915e3_0)
theorem tx_Jx4a65c_get_915e3 : ∀ pc f, ta_Jx4a65c_get_915e3 pc = some f → P_Jx4a65c_get_915e3 pc f := (ce_fd_ok (P := P_Jx4a65c_get_915e3) tk_Jx4a65c_get_915e3_0)
noncomputable def F_Jx4a65c_get_915e3 : ce_C := ce_M ta_Jx4a65c_get_915e3 2 0 0 1000000
theorem m_Jx4a65c_get_915e3 : ∀ l : Launch, l.stackTraces = false → ce_MS l yJx4a65c_get_915e3 (.code yJx4a65c_get_915e3 cJx4a65c_get_915e3 2 (some (.object "java/lang/Object"))) 2 0 0 F_Jx4a65c_get_915e3 := fun l hl => ce_met hl (by decide +kernel) tx_Jx4a65c_get_915e3
theorem hp_Jx4a65c_get_915e3 : yJx4a65c_get_915e3.cls ≠ "java/lang/invoke/MethodHandle" ∧ yJx4a65c_get_915e3.cls ≠ "java/lang/invoke/VarHandle" ∧ (parseMethodDescriptor yJx4a65c_get_915e3.desc).map (fun d => d.parameters.length) = some 1 := by decide +kernel
abbrev P_Jx4a65c_init_da8c8 : Nat → ce_N → Prop := ce_OKN "java/util/ArrayList" "<init>" cJx4a65c_init_da8c8 1 none 2 (some [])
noncomputable def tb_Jx4a65c_init_da8c8_0 : List (Nat × ce_N) := [(0, ce_li (ce_aload 0 1)),
  (1, ce_call 1 0 0 4 (.inr true) (ce_CI F_Jxc12de_init_da8c8)),
  (4, ce_li (ce_aload 0 5)),
  (5, ce_li (ce_push (.inr (.inr (.inl (.inr 1)))) 8)),
  (8, ce_li (ce_putf (tyJx4a65c 1) 3 1 11)),
  (11, ce_ret0)]
theorem tk_Jx4a65c_init_da8c8_0 : ∀ x ∈ tb_Jx4a65c_init_da8c8_0, P_Jx4a65c_init_da8c8 x.1 x.2 :=
  ce_fc (P := P_Jx4a65c_init_da8c8) (ok_li (ok_aload_n dJx4a65c_init_da8c8_0 rfl)) (
  ce_fc (P := P_Jx4a65c_init_da8c8) (ok_call (ru_I m_Jxc12de_init_da8c8 (by decide) (by decide) gw_1498 gw_1496 gw_1497 gw_15 rfl hp_Jxc12de_init_da8c8 dJx4a65c_init_da8c8_1) ca_t) (
  ce_fc (P := P_Jx4a65c_init_da8c8) (ok_li (ok_aload_n dJx4a65c_init_da8c8_4 rfl)) (
  ce_fc (P := P_Jx4a65c_init_da8c8) (ok_li (ok_gets (sv := (.inr (.inr (.inl (.inr 1))))) ce_z6 dJx4a65c_init_da8c8_5 gw_1503 rfl)) (
  ce_fc (P := P_Jx4a65c_init_da8c8) (ok_li (ok_putf (ci := 3) (k := 1) (C := RJx4a65c) (T := TJx4a65c) (N := 3) (ty0 := tyJx4a65c) dJx4a65c_init_da8c8_8 rfl ce_uJx4a65c (by decide) gw_1505 (fun _ _ _ _ h => h) tyJx4a65c_ok nmJx4a65c (Or.inl rfl))) (
  ce_fc (P := P_Jx4a65c_init_da8c8) (ok_ret0 dJx4a65c_init_da8c8_11 rfl) (
  ce_fn (P := P_Jx4a65c_init_da8c8)))))))
noncomputable def ta_Jx4a65c_init_da8c8 : Nat → Option ce_N := (ce_fd tb_Jx4a65c_init_da8c8_0)
theorem tx_Jx4a65c_init_da8c8 : ∀ pc f, ta_Jx4a65c_init_da8c8 pc = some f → P_Jx4a65c_init_da8c8 pc f := (ce_fd_ok (P := P_Jx4a65c_init_da8c8) tk_Jx4a65c_init_da8c8_0)
noncomputable def F_Jx4a65c_init_da8c8 : ce_C := ce_M ta_Jx4a65c_init_da8c8 1 0 0 1000000
theorem m_Jx4a65c_init_da8c8 : ∀ l : Launch, l.stackTraces = false → ce_MS l yJx4a65c_init_da8c8 (.code yJx4a65c_init_da8c8 cJx4a65c_init_da8c8 1 none) 2 0 0 F_Jx4a65c_init_da8c8 := fun l hl => ce_met hl (by decide +kernel) tx_Jx4a65c_init_da8c8
theorem hp_Jx4a65c_init_da8c8 : yJx4a65c_init_da8c8.cls ≠ "java/lang/invoke/MethodHandle" ∧ yJx4a65c_init_da8c8.cls ≠ "java/lang/invoke/VarHandle" ∧ (parseMethodDescriptor yJx4a65c_init_da8c8.desc).map (fun d => d.parameters.length) = some 0 := by decide +kernel
abbrev P_X11_addWall : Nat → ce_N → Prop := ce_OKN "Carcasswright" "addWall" cX11_addWall 4 (some .int) 2 (some [])
noncomputable def tb_X11_addWall_0 : List (Nat × ce_N) := [(0, ce_li (ce_iload 1 1)),
  (1, ce_li (ce_push (.inl (.inl (101))) 3)),
  (3, ce_li (ce_icmp true false false 24 6)),
  (24, ce_li (ce_push (.inl (.inl (1))) 25)),
  (25, ce_li (ce_goto 29)),
  (29, ce_li (ce_istore 3 30 4)),
  (30, ce_li (ce_iload 3 31)),
  (31, ce_li (ce_if true false false 47 34)),
  (34, ce_li (ce_iload 2 35)),
  (35, ce_li (ce_push (.inl (.inl (500))) 38)),
  (38, ce_li (ce_push (.inl (.inl (9999))) 41)),
  (41, ce_call 3 0 0 44 (.inr true) F_X11_isOutside),
  (44, ce_li (ce_if true false false 55 47)),
  (55, ce_li (ce_aload 0 56))]
theorem tk_X11_addWall_0 : ∀ x ∈ tb_X11_addWall_0, P_X11_addWall x.1 x.2 :=
  ce_fc (P := P_X11_addWall) (ok_li (ok_iload_n dX11_addWall_0 rfl)) (
  ce_fc (P := P_X11_addWall) (ok_li (ok_bipush dX11_addWall_1 (by decide))) (
  ce_fc (P := P_X11_addWall) (ok_li (ok_icmp_eq dX11_addWall_3 (by decide))) (
  ce_fc (P := P_X11_addWall) (ok_li (ok_iconst dX11_addWall_24)) (
  ce_fc (P := P_X11_addWall) (ok_li (ok_goto dX11_addWall_25 (by decide))) (
  ce_fc (P := P_X11_addWall) (ok_li (ok_istore_n dX11_addWall_29 rfl)) (
  ce_fc (P := P_X11_addWall) (ok_li (ok_iload_n dX11_addWall_30 rfl)) (
  ce_fc (P := P_X11_addWall) (ok_li (ok_if_eq dX11_addWall_31 (by decide))) (
  ce_fc (P := P_X11_addWall) (ok_li (ok_iload_n dX11_addWall_34 rfl)) (
  ce_fc (P := P_X11_addWall) (ok_li (ok_sipush dX11_addWall_35 (by decide))) (
  ce_fc (P := P_X11_addWall) (ok_li (ok_sipush dX11_addWall_38 (by decide))) (
  ce_fc (P := P_X11_addWall) (ok_call (ru_S m_X11_isOutside (by decide) (by decide) gw_724 gw_722 gw_723 gw_1 hp_X11_isOutside dX11_addWall_41) ca_t) (
  ce_fc (P := P_X11_addWall) (ok_li (ok_if_eq dX11_addWall_44 (by decide))) (
  ce_fc (P := P_X11_addWall) (ok_li (ok_aload_n dX11_addWall_55 rfl)) (
  ce_fn (P := P_X11_addWall)))))))))))))))
noncomputable def tb_X11_addWall_1 : List (Nat × ce_N) := [(56, ce_li (ce_getf 15 1 59)),
  (59, ce_li (ce_getf 10 6 62)),
  (62, ce_li (ce_push (.inl (.inl (6))) 64)),
  (64, ce_li (ce_icmp false false true 77 67)),
  (67, ce_li (ce_aload 0 68)),
  (68, ce_li (ce_getf 15 1 71)),
  (71, ce_li (ce_getf 10 8 74)),
  (74, ce_li (ce_if false true true 85 77)),
  (85, ce_li (ce_aload 0 86)),
  (86, ce_li (ce_getf 15 1 89)),
  (89, ce_li (ce_iload 1 90)),
  (90, ce_li (ce_iload 2 91)),
  (91, ce_call 3 0 0 94 (.inr true) (ce_CV 10 F_X6_build)),
  (94, ce_reti .int)]
theorem tk_X11_addWall_1 : ∀ x ∈ tb_X11_addWall_1, P_X11_addWall x.1 x.2 :=
  ce_fc (P := P_X11_addWall) (ok_li (ok_getf (ci := 15) (k := 1) (C := RX11) (T := TX11) (N := 7) dX11_addWall_56 rfl ce_uX11 (by decide) gw_455 (fun _ _ _ _ h => h))) (
  ce_fc (P := P_X11_addWall) (ok_li (ok_getf (ci := 10) (k := 6) (C := RX6) (T := TX6) (N := 10) dX11_addWall_59 rfl ce_uX6 (by decide) gw_256 (fun _ _ _ _ h => h))) (
  ce_fc (P := P_X11_addWall) (ok_li (ok_bipush dX11_addWall_62 (by decide))) (
  ce_fc (P := P_X11_addWall) (ok_li (ok_icmp_ge dX11_addWall_64 (by decide))) (
  ce_fc (P := P_X11_addWall) (ok_li (ok_aload_n dX11_addWall_67 rfl)) (
  ce_fc (P := P_X11_addWall) (ok_li (ok_getf (ci := 15) (k := 1) (C := RX11) (T := TX11) (N := 7) dX11_addWall_68 rfl ce_uX11 (by decide) gw_455 (fun _ _ _ _ h => h))) (
  ce_fc (P := P_X11_addWall) (ok_li (ok_getf (ci := 10) (k := 8) (C := RX6) (T := TX6) (N := 10) dX11_addWall_71 rfl ce_uX6 (by decide) gw_259 (fun _ _ _ _ h => h))) (
  ce_fc (P := P_X11_addWall) (ok_li (ok_if_le dX11_addWall_74 (by decide))) (
  ce_fc (P := P_X11_addWall) (ok_li (ok_aload_n dX11_addWall_85 rfl)) (
  ce_fc (P := P_X11_addWall) (ok_li (ok_getf (ci := 15) (k := 1) (C := RX11) (T := TX11) (N := 7) dX11_addWall_86 rfl ce_uX11 (by decide) gw_455 (fun _ _ _ _ h => h))) (
  ce_fc (P := P_X11_addWall) (ok_li (ok_iload_n dX11_addWall_89 rfl)) (
  ce_fc (P := P_X11_addWall) (ok_li (ok_iload_n dX11_addWall_90 rfl)) (
  ce_fc (P := P_X11_addWall) (ok_call (ru_V (ci := 10) (C := RX6) (Tf := TX6) (N := 10) m_X6_build (by decide) (by decide) rfl gw_758 gw_755 gw_756 gw_757 gw_4 ⟨rfl, hp_X6_build⟩ dX11_addWall_91) ca_t) (
  ce_fc (P := P_X11_addWall) (ok_reti dX11_addWall_94 rfl) (
  ce_fn (P := P_X11_addWall)))))))))))))))
noncomputable def ta_X11_addWall : Nat → Option ce_N := (ce_tr 56 (ce_fd tb_X11_addWall_0) (ce_fd tb_X11_addWall_1))
theorem tx_X11_addWall : ∀ pc f, ta_X11_addWall pc = some f → P_X11_addWall pc f := (ce_tr_ok (P := P_X11_addWall) (ce_fd_ok (P := P_X11_addWall) tk_X11_addWall_0) (ce_fd_ok (P := P_X11_addWall) tk_X11_addWall_1))
noncomputable def F_X11_addWall : ce_C := ce_M ta_X11_addWall 4 0 0 1000000
theorem m_X11_addWall : ∀ l : Launch, l.stackTraces = false → ce_MS l yX11_addWall (.code yX11_addWall cX11_addWall 4 (some .int)) 2 0 0 F_X11_addWall := fun l hl => ce_met hl (by decide +kernel) tx_X11_addWall
theorem hp_X11_addWall : yX11_addWall.cls ≠ "java/lang/invoke/MethodHandle" ∧ yX11_addWall.cls ≠ "java/lang/invoke/VarHandle" ∧ (parseMethodDescriptor yX11_addWall.desc).map (fun d => d.parameters.length) = some 2 := by decide +kernel
abbrev P_X11_free : Nat → ce_N → Prop := ce_OKN "Carcasswright" "free" cX11_free 3 (some .int) 2 (some [])
noncomputable def tb_X11_free_0 : List (Nat × ce_N) := [(0, ce_li (ce_aload 0 1)),
  (1, ce_li (ce_getf 15 1 4)),
  (4, ce_li (ce_iload 1 5)),
  (5, ce_li (ce_iload 2 6)),
  (6, ce_li (ce_push (.inl (.inl (0))) 7)),
  (7, ce_call 4 0 0 10 (.inr true) (ce_CV 10 F_X6_freeRows)),
  (10, ce_reti .int)]
theorem tk_X11_free_0 : ∀ x ∈ tb_X11_free_0, P_X11_free x.1 x.2 :=
  ce_fc (P := P_X11_free) (ok_li (ok_aload_n dX11_free_0 rfl)) (
  ce_fc (P := P_X11_free) (ok_li (ok_getf (ci := 15) (k := 1) (C := RX11) (T := TX11) (N := 7) dX11_free_1 rfl ce_uX11 (by decide) gw_455 (fun _ _ _ _ h => h))) (
  ce_fc (P := P_X11_free) (ok_li (ok_iload_n dX11_free_4 rfl)) (
  ce_fc (P := P_X11_free) (ok_li (ok_iload_n dX11_free_5 rfl)) (
  ce_fc (P := P_X11_free) (ok_li (ok_iconst dX11_free_6)) (
  ce_fc (P := P_X11_free) (ok_call (ru_V (ci := 10) (C := RX6) (Tf := TX6) (N := 10) m_X6_freeRows (by decide) (by decide) rfl gw_1056 gw_1053 gw_1054 gw_1055 gw_4 ⟨rfl, hp_X6_freeRows⟩ dX11_free_7) ca_t) (
  ce_fc (P := P_X11_free) (ok_reti dX11_free_10 rfl) (
  ce_fn (P := P_X11_free))))))))
noncomputable def ta_X11_free : Nat → Option ce_N := (ce_fd tb_X11_free_0)
theorem tx_X11_free : ∀ pc f, ta_X11_free pc = some f → P_X11_free pc f := (ce_fd_ok (P := P_X11_free) tk_X11_free_0)
noncomputable def F_X11_free : ce_C := ce_M ta_X11_free 3 0 0 1000000
theorem m_X11_free : ∀ l : Launch, l.stackTraces = false → ce_MS l yX11_free (.code yX11_free cX11_free 3 (some .int)) 2 0 0 F_X11_free := fun l hl => ce_met hl (by decide +kernel) tx_X11_free
theorem hp_X11_free : yX11_free.cls ≠ "java/lang/invoke/MethodHandle" ∧ yX11_free.cls ≠ "java/lang/invoke/VarHandle" ∧ (parseMethodDescriptor yX11_free.desc).map (fun d => d.parameters.length) = some 2 := by decide +kernel
