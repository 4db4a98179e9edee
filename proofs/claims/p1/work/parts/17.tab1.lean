abbrev P_J0_coder_7d493 : Nat → ce_N → Prop := ce_OKN "java/lang/String" "coder" cJ0_coder_7d493 1 (some .byte) 0 (some [])
noncomputable def tb_J0_coder_7d493_0 : List (Nat × ce_N) := [(0, ce_li (ce_push (.inl (.inl 1)) 3)),
  (3, ce_li (ce_if true false false 13 6)),
  (6, ce_li (ce_aload 0 7)),
  (7, ce_li (ce_gets 1 10)),
  (10, ce_li (ce_goto 14)),
  (14, ce_reti .byte)]
theorem tk_J0_coder_7d493_0 : ∀ x ∈ tb_J0_coder_7d493_0, P_J0_coder_7d493 x.1 x.2 :=
  ce_fc (P := P_J0_coder_7d493) (ok_li (ok_gets (sv := (.inl (.inl 1))) ce_z1 dJ0_coder_7d493_0 gw_1604 rfl)) (
  ce_fc (P := P_J0_coder_7d493) (ok_li (ok_if_eq dJ0_coder_7d493_3 (by decide))) (
  ce_fc (P := P_J0_coder_7d493) (ok_li (ok_aload_n dJ0_coder_7d493_6 rfl)) (
  ce_fc (P := P_J0_coder_7d493) (ok_li (ok_gets1 dJ0_coder_7d493_7 gw_2142)) (
  ce_fc (P := P_J0_coder_7d493) (ok_li (ok_goto dJ0_coder_7d493_10 (by decide))) (
  ce_fc (P := P_J0_coder_7d493) (ok_reti dJ0_coder_7d493_14 rfl) (
  ce_fn (P := P_J0_coder_7d493)))))))
noncomputable def ta_J0_coder_7d493 : Nat → Option ce_N := (ce_fd tb_J0_coder_7d493_0)
theorem tx_J0_coder_7d493 : ∀ pc f, ta_J0_coder_7d493 pc = some f → P_J0_coder_7d493 pc f := (ce_fd_ok (P := P_J0_coder_7d493) tk_J0_coder_7d493_0)
noncomputable def F_J0_coder_7d493 : ce_C := ce_M ta_J0_coder_7d493 1 0 0 1000000
theorem m_J0_coder_7d493 : ∀ l : Launch, l.stackTraces = false → ce_MS l yJ0_coder_7d493 (.code yJ0_coder_7d493 cJ0_coder_7d493 1 (some .byte)) 0 0 0 F_J0_coder_7d493 := fun l hl => ce_met hl (by decide +kernel) tx_J0_coder_7d493
theorem hp_J0_coder_7d493 : yJ0_coder_7d493.cls ≠ "java/lang/invoke/MethodHandle" ∧ yJ0_coder_7d493.cls ≠ "java/lang/invoke/VarHandle" ∧ (parseMethodDescriptor yJ0_coder_7d493.desc).map (fun d => d.parameters.length) = some 0 := by decide +kernel
abbrev P_J0_isEmpty_aae02 : Nat → ce_N → Prop := ce_OKN "java/lang/String" "isEmpty" cJ0_isEmpty_aae02 1 (some .boolean) 0 (some [])
noncomputable def tb_J0_isEmpty_aae02_0 : List (Nat × ce_N) := [(0, ce_li (ce_aload 0 1)),
  (1, ce_li (ce_gets 0 4)),
  (4, ce_li (ce_alen 5)),
  (5, ce_li (ce_if true false true 12 8)),
  (8, ce_li (ce_push (.inl (.inl (1))) 9)),
  (9, ce_li (ce_goto 13)),
  (13, ce_reti .boolean)]
theorem tk_J0_isEmpty_aae02_0 : ∀ x ∈ tb_J0_isEmpty_aae02_0, P_J0_isEmpty_aae02 x.1 x.2 :=
  ce_fc (P := P_J0_isEmpty_aae02) (ok_li (ok_aload_n dJ0_isEmpty_aae02_0 rfl)) (
  ce_fc (P := P_J0_isEmpty_aae02) (ok_li (ok_gets0 dJ0_isEmpty_aae02_1 gw_2141)) (
  ce_fc (P := P_J0_isEmpty_aae02) (ok_li (ok_alen dJ0_isEmpty_aae02_4)) (
  ce_fc (P := P_J0_isEmpty_aae02) (ok_li (ok_if_ne dJ0_isEmpty_aae02_5 (by decide))) (
  ce_fc (P := P_J0_isEmpty_aae02) (ok_li (ok_iconst dJ0_isEmpty_aae02_8)) (
  ce_fc (P := P_J0_isEmpty_aae02) (ok_li (ok_goto dJ0_isEmpty_aae02_9 (by decide))) (
  ce_fc (P := P_J0_isEmpty_aae02) (ok_reti dJ0_isEmpty_aae02_13 rfl) (
  ce_fn (P := P_J0_isEmpty_aae02))))))))
noncomputable def ta_J0_isEmpty_aae02 : Nat → Option ce_N := (ce_fd tb_J0_isEmpty_aae02_0)
theorem tx_J0_isEmpty_aae02 : ∀ pc f, ta_J0_isEmpty_aae02 pc = some f → P_J0_isEmpty_aae02 pc f := (ce_fd_ok (P := P_J0_isEmpty_aae02) tk_J0_isEmpty_aae02_0)
noncomputable def F_J0_isEmpty_aae02 : ce_C := ce_M ta_J0_isEmpty_aae02 1 0 0 1000000
theorem m_J0_isEmpty_aae02 : ∀ l : Launch, l.stackTraces = false → ce_MS l yJ0_isEmpty_aae02 (.code yJ0_isEmpty_aae02 cJ0_isEmpty_aae02 1 (some .boolean)) 0 0 0 F_J0_isEmpty_aae02 := fun l hl => ce_met hl (by decide +kernel) tx_J0_isEmpty_aae02
theorem hp_J0_isEmpty_aae02 : yJ0_isEmpty_aae02.cls ≠ "java/lang/invoke/MethodHandle" ∧ yJ0_isEmpty_aae02.cls ≠ "java/lang/invoke/VarHandle" ∧ (parseMethodDescriptor yJ0_isEmpty_aae02.desc).map (fun d => d.parameters.length) = some 0 := by decide +kernel
abbrev P_J0_isLatin1_aae02 : Nat → ce_N → Prop := ce_OKN "java/lang/String" "isLatin1" cJ0_isLatin1_aae02 1 (some .boolean) 0 (some [])
noncomputable def tb_J0_isLatin1_aae02_0 : List (Nat × ce_N) := [(0, ce_li (ce_push (.inl (.inl 1)) 3)),
  (3, ce_li (ce_if true false false 17 6)),
  (6, ce_li (ce_aload 0 7)),
  (7, ce_li (ce_gets 1 10)),
  (10, ce_li (ce_if true false true 17 13)),
  (13, ce_li (ce_push (.inl (.inl (1))) 14)),
  (14, ce_li (ce_goto 18)),
  (18, ce_reti .boolean)]
theorem tk_J0_isLatin1_aae02_0 : ∀ x ∈ tb_J0_isLatin1_aae02_0, P_J0_isLatin1_aae02 x.1 x.2 :=
  ce_fc (P := P_J0_isLatin1_aae02) (ok_li (ok_gets (sv := (.inl (.inl 1))) ce_z1 dJ0_isLatin1_aae02_0 gw_1604 rfl)) (
  ce_fc (P := P_J0_isLatin1_aae02) (ok_li (ok_if_eq dJ0_isLatin1_aae02_3 (by decide))) (
  ce_fc (P := P_J0_isLatin1_aae02) (ok_li (ok_aload_n dJ0_isLatin1_aae02_6 rfl)) (
  ce_fc (P := P_J0_isLatin1_aae02) (ok_li (ok_gets1 dJ0_isLatin1_aae02_7 gw_2142)) (
  ce_fc (P := P_J0_isLatin1_aae02) (ok_li (ok_if_ne dJ0_isLatin1_aae02_10 (by decide))) (
  ce_fc (P := P_J0_isLatin1_aae02) (ok_li (ok_iconst dJ0_isLatin1_aae02_13)) (
  ce_fc (P := P_J0_isLatin1_aae02) (ok_li (ok_goto dJ0_isLatin1_aae02_14 (by decide))) (
  ce_fc (P := P_J0_isLatin1_aae02) (ok_reti dJ0_isLatin1_aae02_18 rfl) (
  ce_fn (P := P_J0_isLatin1_aae02)))))))))
noncomputable def ta_J0_isLatin1_aae02 : Nat → Option ce_N := (ce_fd tb_J0_isLatin1_aae02_0)
theorem tx_J0_isLatin1_aae02 : ∀ pc f, ta_J0_isLatin1_aae02 pc = some f → P_J0_isLatin1_aae02 pc f := (ce_fd_ok (P := P_J0_isLatin1_aae02) tk_J0_isLatin1_aae02_0)
noncomputable def F_J0_isLatin1_aae02 : ce_C := ce_M ta_J0_isLatin1_aae02 1 0 0 1000000
theorem m_J0_isLatin1_aae02 : ∀ l : Launch, l.stackTraces = false → ce_MS l yJ0_isLatin1_aae02 (.code yJ0_isLatin1_aae02 cJ0_isLatin1_aae02 1 (some .boolean)) 0 0 0 F_J0_isLatin1_aae02 := fun l hl => ce_met hl (by decide +kernel) tx_J0_isLatin1_aae02
theorem hp_J0_isLatin1_aae02 : yJ0_isLatin1_aae02.cls ≠ "java/lang/invoke/MethodHandle" ∧ yJ0_isLatin1_aae02.cls ≠ "java/lang/invoke/VarHandle" ∧ (parseMethodDescriptor yJ0_isLatin1_aae02.desc).map (fun d => d.parameters.length) = some 0 := by decide +kernel
abbrev P_J1_canEncode_9a6ad : Nat → ce_N → Prop := ce_OKN "java/lang/StringLatin1" "canEncode" cJ1_canEncode_9a6ad 1 (some .boolean) 0 (some [])
noncomputable def tb_J1_canEncode_9a6ad_0 : List (Nat × ce_N) := [(0, ce_li (ce_iload 0 1)),
  (1, ce_li (ce_if false false false 15 4)),
  (4, ce_li (ce_iload 0 5)),
  (5, ce_li (ce_push (.inl (.inl (255))) 8)),
  (8, ce_li (ce_icmp false true false 15 11)),
  (11, ce_li (ce_push (.inl (.inl (1))) 12)),
  (12, ce_li (ce_goto 16)),
  (15, ce_li (ce_push (.inl (.inl (0))) 16)),
  (16, ce_reti .boolean)]
theorem tk_J1_canEncode_9a6ad_0 : ∀ x ∈ tb_J1_canEncode_9a6ad_0, P_J1_canEncode_9a6ad x.1 x.2 :=
  ce_fc (P := P_J1_canEncode_9a6ad) (ok_li (ok_iload_n dJ1_canEncode_9a6ad_0 rfl)) (
  ce_fc (P := P_J1_canEncode_9a6ad) (ok_li (ok_if_lt dJ1_canEncode_9a6ad_1 (by decide))) (
  ce_fc (P := P_J1_canEncode_9a6ad) (ok_li (ok_iload_n dJ1_canEncode_9a6ad_4 rfl)) (
  ce_fc (P := P_J1_canEncode_9a6ad) (ok_li (ok_sipush dJ1_canEncode_9a6ad_5 (by decide))) (
  ce_fc (P := P_J1_canEncode_9a6ad) (ok_li (ok_icmp_gt dJ1_canEncode_9a6ad_8 (by decide))) (
  ce_fc (P := P_J1_canEncode_9a6ad) (ok_li (ok_iconst dJ1_canEncode_9a6ad_11)) (
  ce_fc (P := P_J1_canEncode_9a6ad) (ok_li (ok_goto dJ1_canEncode_9a6ad_12 (by decide))) (
  ce_fc (P := P_J1_canEncode_9a6ad) (ok_li (ok_iconst dJ1_canEncode_9a6ad_15)) (
  ce_fc (P := P_J1_canEncode_9a6ad) (ok_reti dJ1_canEncode_9a6ad_16 rfl) (
  ce_fn (P := P_J1_canEncode_9a6ad))))))))))
noncomputable def ta_J1_canEncode_9a6ad : Nat → Option ce_N := (ce_fd tb_J1_canEncode_9a6ad_0)
theorem tx_J1_canEncode_9a6ad : ∀ pc f, ta_J1_canEncode_9a6ad pc = some f → P_J1_canEncode_9a6ad pc f := (ce_fd_ok (P := P_J1_canEncode_9a6ad) tk_J1_canEncode_9a6ad_0)
noncomputable def F_J1_canEncode_9a6ad : ce_C := ce_M ta_J1_canEncode_9a6ad 1 0 0 1000000
theorem m_J1_canEncode_9a6ad : ∀ l : Launch, l.stackTraces = false → ce_MS l yJ1_canEncode_9a6ad (.code yJ1_canEncode_9a6ad cJ1_canEncode_9a6ad 1 (some .boolean)) 0 0 0 F_J1_canEncode_9a6ad := fun l hl => ce_met hl (by decide +kernel) tx_J1_canEncode_9a6ad
theorem hp_J1_canEncode_9a6ad : yJ1_canEncode_9a6ad.cls ≠ "java/lang/invoke/MethodHandle" ∧ yJ1_canEncode_9a6ad.cls ≠ "java/lang/invoke/VarHandle" ∧ (parseMethodDescriptor yJ1_canEncode_9a6ad.desc).map (fun d => d.parameters.length) = some 1 := by decide +kernel
abbrev P_J1_canEncode_fc78d : Nat → ce_N → Prop := ce_OKN "java/lang/StringLatin1" "canEncode" cJ1_canEncode_fc78d 1 (some .boolean) 0 (some [])
noncomputable def tb_J1_canEncode_fc78d_0 : List (Nat × ce_N) := [(0, ce_li (ce_iload 0 1)),
  (1, ce_li (ce_push (.inl (.inl (255))) 4)),
  (4, ce_li (ce_icmp false true false 11 7)),
  (7, ce_li (ce_push (.inl (.inl (1))) 8)),
  (8, ce_li (ce_goto 12)),
  (11, ce_li (ce_push (.inl (.inl (0))) 12)),
  (12, ce_reti .boolean)]
theorem tk_J1_canEncode_fc78d_0 : ∀ x ∈ tb_J1_canEncode_fc78d_0, P_J1_canEncode_fc78d x.1 x.2 :=
  ce_fc (P := P_J1_canEncode_fc78d) (ok_li (ok_iload_n dJ1_canEncode_fc78d_0 rfl)) (
  ce_fc (P := P_J1_canEncode_fc78d) (ok_li (ok_sipush dJ1_canEncode_fc78d_1 (by decide))) (
  ce_fc (P := P_J1_canEncode_fc78d) (ok_li (ok_icmp_gt dJ1_canEncode_fc78d_4 (by decide))) (
  ce_fc (P := P_J1_canEncode_fc78d) (ok_li (ok_iconst dJ1_canEncode_fc78d_7)) (
  ce_fc (P := P_J1_canEncode_fc78d) (ok_li (ok_goto dJ1_canEncode_fc78d_8 (by decide))) (
  ce_fc (P := P_J1_canEncode_fc78d) (ok_li (ok_iconst dJ1_canEncode_fc78d_11)) (
  ce_fc (P := P_J1_canEncode_fc78d) (ok_reti dJ1_canEncode_fc78d_12 rfl) (
  ce_fn (P := P_J1_canEncode_fc78d))))))))
noncomputable def ta_J1_canEncode_fc78d : Nat → Option ce_N := (ce_fd tb_J1_canEncode_fc78d_0)
theorem tx_J1_canEncode_fc78d : ∀ pc f, ta_J1_canEncode_fc78d pc = some f → P_J1_canEncode_fc78d pc f := (ce_fd_ok (P := P_J1_canEncode_fc78d) tk_J1_canEncode_fc78d_0)
noncomputable def F_J1_canEncode_fc78d : ce_C := ce_M ta_J1_canEncode_fc78d 1 0 0 1000000
theorem m_J1_canEncode_fc78d : ∀ l : Launch, l.stackTraces = false → ce_MS l yJ1_canEncode_fc78d (.code yJ1_canEncode_fc78d cJ1_canEncode_fc78d 1 (some .boolean)) 0 0 0 F_J1_canEncode_fc78d := fun l hl => ce_met hl (by decide +kernel) tx_J1_canEncode_fc78d
theorem hp_J1_canEncode_fc78d : yJ1_canEncode_fc78d.cls ≠ "java/lang/invoke/MethodHandle" ∧ yJ1_canEncode_fc78d.cls ≠ "java/lang/invoke/VarHandle" ∧ (parseMethodDescriptor yJ1_canEncode_fc78d.desc).map (fun d => d.parameters.length) = some 1 := by decide +kernel
abbrev P_J1_indexOfChar_4cfef : Nat → ce_N → Prop := ce_OKN "java/lang/StringLatin1" "indexOfChar" cJ1_indexOfChar_4cfef 6 (some .int) 0 (some [])
noncomputable def tb_J1_indexOfChar_4cfef_0 : List (Nat × ce_N) := [(0, ce_li (ce_iload 1 1)),
  (1, ce_li (ce_i2bF 2 1)),
  (2, ce_li (ce_istore 4 4 6)),
  (4, ce_li (ce_iload 2 5)),
  (5, ce_li (ce_istore 5 7 6)),
  (7, ce_li (ce_iload 5 9)),
  (9, ce_li (ce_iload 3 10)),
  (10, ce_li (ce_icmp false false true 31 13)),
  (13, ce_li (ce_aload 0 14)),
  (14, ce_li (ce_iload 5 16)),
  (16, ce_li (ce_bald 17)),
  (17, ce_li (ce_iload 4 19)),
  (19, ce_li (ce_icmp true false true 25 22)),
  (22, ce_li (ce_iload 5 24))]
theorem tk_J1_indexOfChar_4cfef_0 : ∀ x ∈ tb_J1_indexOfChar_4cfef_0, P_J1_indexOfChar_4cfef x.1 x.2 :=
  ce_fc (P := P_J1_indexOfChar_4cfef) (ok_li (ok_iload_n dJ1_indexOfChar_4cfef_0 rfl)) (
  ce_fc (P := P_J1_indexOfChar_4cfef) (ok_li (ok_i2bF dJ1_indexOfChar_4cfef_1)) (
  ce_fc (P := P_J1_indexOfChar_4cfef) (ok_li (ok_istore dJ1_indexOfChar_4cfef_2)) (
  ce_fc (P := P_J1_indexOfChar_4cfef) (ok_li (ok_iload_n dJ1_indexOfChar_4cfef_4 rfl)) (
  ce_fc (P := P_J1_indexOfChar_4cfef) (ok_li (ok_istore dJ1_indexOfChar_4cfef_5)) (
  ce_fc (P := P_J1_indexOfChar_4cfef) (ok_li (ok_iload dJ1_indexOfChar_4cfef_7)) (
  ce_fc (P := P_J1_indexOfChar_4cfef) (ok_li (ok_iload_n dJ1_indexOfChar_4cfef_9 rfl)) (
  ce_fc (P := P_J1_indexOfChar_4cfef) (ok_li (ok_icmp_ge dJ1_indexOfChar_4cfef_10 (by decide))) (
  ce_fc (P := P_J1_indexOfChar_4cfef) (ok_li (ok_aload_n dJ1_indexOfChar_4cfef_13 rfl)) (
  ce_fc (P := P_J1_indexOfChar_4cfef) (ok_li (ok_iload dJ1_indexOfChar_4cfef_14)) (
  ce_fc (P := P_J1_indexOfChar_4cfef) (ok_li (ok_bald dJ1_indexOfChar_4cfef_16)) (
  ce_fc (P := P_J1_indexOfChar_4cfef) (ok_li (ok_iload dJ1_indexOfChar_4cfef_17)) (
  ce_fc (P := P_J1_indexOfChar_4cfef) (ok_li (ok_icmp_ne dJ1_indexOfChar_4cfef_19 (by decide))) (
  ce_fc (P := P_J1_indexOfChar_4cfef) (ok_li (ok_iload dJ1_indexOfChar_4cfef_22)) (
  ce_fn (P := P_J1_indexOfChar_4cfef)))))))))))))))
noncomputable def tb_J1_indexOfChar_4cfef_1 : List (Nat × ce_N) := [(24, ce_reti .int),
  (25, ce_li (ce_iinc 5 (1) 28 6)),
  (28, ce_li (ce_goto 7)),
  (31, ce_li (ce_push (.inl (.inl (-1))) 32)),
  (32, ce_reti .int)]
theorem tk_J1_indexOfChar_4cfef_1 : ∀ x ∈ tb_J1_indexOfChar_4cfef_1, P_J1_indexOfChar_4cfef x.1 x.2 :=
  ce_fc (P := P_J1_indexOfChar_4cfef) (ok_reti dJ1_indexOfChar_4cfef_24 rfl) (
  ce_fc (P := P_J1_indexOfChar_4cfef) (ok_li (ok_iinc dJ1_indexOfChar_4cfef_25)) (
  ce_fc (P := P_J1_indexOfChar_4cfef) (ok_li (ok_goto dJ1_indexOfChar_4cfef_28 (by decide))) (
  ce_fc (P := P_J1_indexOfChar_4cfef) (ok_li (ok_iconst dJ1_indexOfChar_4cfef_31)) (
  ce_fc (P := P_J1_indexOfChar_4cfef) (ok_reti dJ1_indexOfChar_4cfef_32 rfl) (
  ce_fn (P := P_J1_indexOfChar_4cfef))))))
noncomputable def ta_J1_indexOfChar_4cfef : Nat → Option ce_N := (ce_tr 24 (ce_fd tb_J1_indexOfChar_4cfef_0) (ce_fd tb_J1_indexOfChar_4cfef_1))
theorem tx_J1_indexOfChar_4cfef : ∀ pc f, ta_J1_indexOfChar_4cfef pc = some f → P_J1_indexOfChar_4cfef pc f := (ce_tr_ok (P := P_J1_indexOfChar_4cfef) (ce_fd_ok (P := P_J1_indexOfChar_4cfef) tk_J1_indexOfChar_4cfef_0) (ce_fd_ok (P := P_J1_indexOfChar_4cfef) tk_J1_indexOfChar_4cfef_1))
noncomputable def F_J1_indexOfChar_4cfef : ce_C := ce_M ta_J1_indexOfChar_4cfef 6 0 0 1000000
theorem m_J1_indexOfChar_4cfef : ∀ l : Launch, l.stackTraces = false → ce_MS l yJ1_indexOfChar_4cfef (.code yJ1_indexOfChar_4cfef cJ1_indexOfChar_4cfef 6 (some .int)) 0 0 0 F_J1_indexOfChar_4cfef := fun l hl => ce_met hl (by decide +kernel) tx_J1_indexOfChar_4cfef
theorem hp_J1_indexOfChar_4cfef : yJ1_indexOfChar_4cfef.cls ≠ "java/lang/invoke/MethodHandle" ∧ yJ1_indexOfChar_4cfef.cls ≠ "java/lang/invoke/VarHandle" ∧ (parseMethodDescriptor yJ1_indexOfChar_4cfef.desc).map (fun d => d.parameters.length) = some 4 := by decide +kernel
abbrev P_J2_length_9d52b : Nat → ce_N → Prop := ce_OKN "java/lang/StringUTF16" "length" cJ2_length_9d52b 1 (some .int) 0 (some [])
noncomputable def tb_J2_length_9d52b_0 : List (Nat × ce_N) := [(0, ce_li (ce_aload 0 1)),
  (1, ce_li (ce_alen 2)),
  (2, ce_li (ce_push (.inl (.inl (1))) 3)),
  (3, ce_li (ce_bin ce_shr 4)),
  (4, ce_reti .int)]
theorem tk_J2_length_9d52b_0 : ∀ x ∈ tb_J2_length_9d52b_0, P_J2_length_9d52b x.1 x.2 :=
  ce_fc (P := P_J2_length_9d52b) (ok_li (ok_aload_n dJ2_length_9d52b_0 rfl)) (
  ce_fc (P := P_J2_length_9d52b) (ok_li (ok_alen dJ2_length_9d52b_1)) (
  ce_fc (P := P_J2_length_9d52b) (ok_li (ok_iconst dJ2_length_9d52b_2)) (
  ce_fc (P := P_J2_length_9d52b) (ok_li (ok_ishr dJ2_length_9d52b_3)) (
  ce_fc (P := P_J2_length_9d52b) (ok_reti dJ2_length_9d52b_4 rfl) (
  ce_fn (P := P_J2_length_9d52b))))))
noncomputable def ta_J2_length_9d52b : Nat → Option ce_N := (ce_fd tb_J2_length_9d52b_0)
theorem tx_J2_length_9d52b : ∀ pc f, ta_J2_length_9d52b pc = some f → P_J2_length_9d52b pc f := (ce_fd_ok (P := P_J2_length_9d52b) tk_J2_length_9d52b_0)
noncomputable def F_J2_length_9d52b : ce_C := ce_M ta_J2_length_9d52b 1 0 0 1000000
theorem m_J2_length_9d52b : ∀ l : Launch, l.stackTraces = false → ce_MS l yJ2_length_9d52b (.code yJ2_length_9d52b cJ2_length_9d52b 1 (some .int)) 0 0 0 F_J2_length_9d52b := fun l hl => ce_met hl (by decide +kernel) tx_J2_length_9d52b
theorem hp_J2_length_9d52b : yJ2_length_9d52b.cls ≠ "java/lang/invoke/MethodHandle" ∧ yJ2_length_9d52b.cls ≠ "java/lang/invoke/VarHandle" ∧ (parseMethodDescriptor yJ2_length_9d52b.desc).map (fun d => d.parameters.length) = some 1 := by decide +kernel
abbrev P_J2_newBytesLength_0f7a4 : Nat → ce_N → Prop := ce_OKN "java/lang/StringUTF16" "newBytesLength" cJ2_newBytesLength_0f7a4 1 (some .int) 0 (some [])
noncomputable def tb_J2_newBytesLength_0f7a4_0 : List (Nat × ce_N) := [(0, ce_li (ce_iload 0 1)),
  (1, ce_li (ce_if false false true 12 4)),
  (12, ce_li (ce_iload 0 13)),
  (13, ce_li (ce_push (.inl (.inl (1073741823))) 15)),
  (15, ce_li (ce_icmp false false false 55 18)),
  (55, ce_li (ce_iload 0 56)),
  (56, ce_li (ce_push (.inl (.inl (1))) 57)),
  (57, ce_li (ce_bin (ce_num fun x y => x <<< (y &&& 31)) 58)),
  (58, ce_reti .int)]
theorem tk_J2_newBytesLength_0f7a4_0 : ∀ x ∈ tb_J2_newBytesLength_0f7a4_0, P_J2_newBytesLength_0f7a4 x.1 x.2 :=
  ce_fc (P := P_J2_newBytesLength_0f7a4) (ok_li (ok_iload_n dJ2_newBytesLength_0f7a4_0 rfl)) (
  ce_fc (P := P_J2_newBytesLength_0f7a4) (ok_li (ok_if_ge dJ2_newBytesLength_0f7a4_1 (by decide))) (
  ce_fc (P := P_J2_newBytesLength_0f7a4) (ok_li (ok_iload_n dJ2_newBytesLength_0f7a4_12 rfl)) (
  ce_fc (P := P_J2_newBytesLength_0f7a4) (ok_li (ok_ldc dJ2_newBytesLength_0f7a4_13 gw_1941)) (
  ce_fc (P := P_J2_newBytesLength_0f7a4) (ok_li (ok_icmp_lt dJ2_newBytesLength_0f7a4_15 (by decide))) (
  ce_fc (P := P_J2_newBytesLength_0f7a4) (ok_li (ok_iload_n dJ2_newBytesLength_0f7a4_55 rfl)) (
  ce_fc (P := P_J2_newBytesLength_0f7a4) (ok_li (ok_iconst dJ2_newBytesLength_0f7a4_56)) (
  ce_fc (P := P_J2_newBytesLength_0f7a4) (ok_li (ok_ishl dJ2_newBytesLength_0f7a4_57)) (
  ce_fc (P := P_J2_newBytesLength_0f7a4) (ok_reti dJ2_newBytesLength_0f7a4_58 rfl) (
  ce_fn (P := P_J2_newBytesLength_0f7a4))))))))))
noncomputable def ta_J2_newBytesLength_0f7a4 : Nat → Option ce_N := (ce_fd tb_J2_newBytesLength_0f7a4_0)
theorem tx_J2_newBytesLength_0f7a4 : ∀ pc f, ta_J2_newBytesLength_0f7a4 pc = some f → P_J2_newBytesLength_0f7a4 pc f := (ce_fd_ok (P := P_J2_newBytesLength_0f7a4) tk_J2_newBytesLength_0f7a4_0)
noncomputable def F_J2_newBytesLength_0f7a4 : ce_C := ce_M ta_J2_newBytesLength_0f7a4 1 0 0 1000000
theorem m_J2_newBytesLength_0f7a4 : ∀ l : Launch, l.stackTraces = false → ce_MS l yJ2_newBytesLength_0f7a4 (.code yJ2_newBytesLength_0f7a4 cJ2_newBytesLength_0f7a4 1 (some .int)) 0 0 0 F_J2_newBytesLength_0f7a4 := fun l hl => ce_met hl (by decide +kernel) tx_J2_newBytesLength_0f7a4
theorem hp_J2_newBytesLength_0f7a4 : yJ2_newBytesLength_0f7a4.cls ≠ "java/lang/invoke/MethodHandle" ∧ yJ2_newBytesLength_0f7a4.cls ≠ "java/lang/invoke/VarHandle" ∧ (parseMethodDescriptor yJ2_newBytesLength_0f7a4.desc).map (fun d => d.parameters.length) = some 1 := by decide +kernel
abbrev P_J2_putChar_b72d1 : Nat → ce_N → Prop := ce_OKN "java/lang/StringUTF16" "putChar" cJ2_putChar_b72d1 3 none 0 (some [])
noncomputable def tb_J2_putChar_b72d1_0 : List (Nat × ce_N) := [(0, ce_li (ce_push (.inl (.inl 1)) 3)),
  (3, ce_li (ce_if true false true 28 6)),
  (28, ce_li (ce_iload 1 29)),
  (29, ce_li (ce_push (.inl (.inl (1))) 30)),
  (30, ce_li (ce_bin (ce_num fun x y => x <<< (y &&& 31)) 31)),
  (31, ce_li (ce_istore 1 32 3)),
  (32, ce_li (ce_aload 0 33)),
  (33, ce_li (ce_iload 1 34)),
  (34, ce_li (ce_iinc 1 (1) 37 3)),
  (37, ce_li (ce_iload 2 38)),
  (38, ce_li (ce_push (.inl (.inl 0)) 41)),
  (41, ce_li (ce_bin ce_shr 42)),
  (42, ce_li (ce_i2b 43)),
  (43, ce_li (ce_iast 2 44 43))]
theorem tk_J2_putChar_b72d1_0 : ∀ x ∈ tb_J2_putChar_b72d1_0, P_J2_putChar_b72d1 x.1 x.2 :=
  ce_fc (P := P_J2_putChar_b72d1) (ok_li (ok_gets (sv := (.inl (.inl 1))) ce_z2 dJ2_putChar_b72d1_0 gw_1654 rfl)) (
  ce_fc (P := P_J2_putChar_b72d1) (ok_li (ok_if_ne dJ2_putChar_b72d1_3 (by decide))) (
  ce_fc (P := P_J2_putChar_b72d1) (ok_li (ok_iload_n dJ2_putChar_b72d1_28 rfl)) (
  ce_fc (P := P_J2_putChar_b72d1) (ok_li (ok_iconst dJ2_putChar_b72d1_29)) (
  ce_fc (P := P_J2_putChar_b72d1) (ok_li (ok_ishl dJ2_putChar_b72d1_30)) (
  ce_fc (P := P_J2_putChar_b72d1) (ok_li (ok_istore_n dJ2_putChar_b72d1_31 rfl)) (
  ce_fc (P := P_J2_putChar_b72d1) (ok_li (ok_aload_n dJ2_putChar_b72d1_32 rfl)) (
  ce_fc (P := P_J2_putChar_b72d1) (ok_li (ok_iload_n dJ2_putChar_b72d1_33 rfl)) (
  ce_fc (P := P_J2_putChar_b72d1) (ok_li (ok_iinc dJ2_putChar_b72d1_34)) (
  ce_fc (P := P_J2_putChar_b72d1) (ok_li (ok_iload_n dJ2_putChar_b72d1_37 rfl)) (
  ce_fc (P := P_J2_putChar_b72d1) (ok_li (ok_gets (sv := (.inl (.inl 0))) ce_z3 dJ2_putChar_b72d1_38 gw_1656 rfl)) (
  ce_fc (P := P_J2_putChar_b72d1) (ok_li (ok_ishr dJ2_putChar_b72d1_41)) (
  ce_fc (P := P_J2_putChar_b72d1) (ok_li (ok_i2b dJ2_putChar_b72d1_42)) (
  ce_fc (P := P_J2_putChar_b72d1) (ok_li (ok_bastore dJ2_putChar_b72d1_43)) (
  ce_fn (P := P_J2_putChar_b72d1)))))))))))))))
noncomputable def tb_J2_putChar_b72d1_1 : List (Nat × ce_N) := [(44, ce_li (ce_aload 0 45)),
  (45, ce_li (ce_iload 1 46)),
  (46, ce_li (ce_iload 2 47)),
  (47, ce_li (ce_push (.inl (.inl 8)) 50)),
  (50, ce_li (ce_bin ce_shr 51)),
  (51, ce_li (ce_i2b 52)),
  (52, ce_li (ce_iast 2 53 52)),
  (53, ce_ret0)]
theorem tk_J2_putChar_b72d1_1 : ∀ x ∈ tb_J2_putChar_b72d1_1, P_J2_putChar_b72d1 x.1 x.2 :=
  ce_fc (P := P_J2_putChar_b72d1) (ok_li (ok_aload_n dJ2_putChar_b72d1_44 rfl)) (
  ce_fc (P := P_J2_putChar_b72d1) (ok_li (ok_iload_n dJ2_putChar_b72d1_45 rfl)) (
  ce_fc (P := P_J2_putChar_b72d1) (ok_li (ok_iload_n dJ2_putChar_b72d1_46 rfl)) (
  ce_fc (P := P_J2_putChar_b72d1) (ok_li (ok_gets (sv := (.inl (.inl 8))) ce_z4 dJ2_putChar_b72d1_47 gw_1658 rfl)) (
  ce_fc (P := P_J2_putChar_b72d1) (ok_li (ok_ishr dJ2_putChar_b72d1_50)) (
  ce_fc (P := P_J2_putChar_b72d1) (ok_li (ok_i2b dJ2_putChar_b72d1_51)) (
  ce_fc (P := P_J2_putChar_b72d1) (ok_li (ok_bastore dJ2_putChar_b72d1_52)) (
  ce_fc (P := P_J2_putChar_b72d1) (ok_ret0 dJ2_putChar_b72d1_53 rfl) (
  ce_fn (P := P_J2_putChar_b72d1)))))))))
noncomputable def ta_J2_putChar_b72d1 : Nat → Option ce_N := (ce_tr 44 (ce_fd tb_J2_putChar_b72d1_0) (ce_fd tb_J2_putChar_b72d1_1))
theorem tx_J2_putChar_b72d1 : ∀ pc f, ta_J2_putChar_b72d1 pc = some f → P_J2_putChar_b72d1 pc f := (ce_tr_ok (P := P_J2_putChar_b72d1) (ce_fd_ok (P := P_J2_putChar_b72d1) tk_J2_putChar_b72d1_0) (ce_fd_ok (P := P_J2_putChar_b72d1) tk_J2_putChar_b72d1_1))
noncomputable def F_J2_putChar_b72d1 : ce_C := ce_M ta_J2_putChar_b72d1 3 0 0 1000000
theorem m_J2_putChar_b72d1 : ∀ l : Launch, l.stackTraces = false → ce_MS l yJ2_putChar_b72d1 (.code yJ2_putChar_b72d1 cJ2_putChar_b72d1 3 none) 0 0 0 F_J2_putChar_b72d1 := fun l hl => ce_met hl (by decide +kernel) tx_J2_putChar_b72d1
theorem hp_J2_putChar_b72d1 : yJ2_putChar_b72d1.cls ≠ "java/lang/invoke/MethodHandle" ∧ yJ2_putChar_b72d1.cls ≠ "java/lang/invoke/VarHandle" ∧ (parseMethodDescriptor yJ2_putChar_b72d1.desc).map (fun d => d.parameters.length) = some 3 := by decide +kernel
abbrev P_J3_checkFromIndexSize_8c36e : Nat → ce_N → Prop := ce_OKN "jdk/internal/util/Preconditions" "checkFromIndexSize" cJ3_checkFromIndexSize_8c36e 4 (some .int) 0 (some [])
noncomputable def tb_J3_checkFromIndexSize_8c36e_0 : List (Nat × ce_N) := [(0, ce_li (ce_iload 2 1)),
  (1, ce_li (ce_iload 0 2)),
  (2, ce_li (ce_bin (ce_num fun x y => x ||| y) 3)),
  (3, ce_li (ce_iload 1 4)),
  (4, ce_li (ce_bin (ce_num fun x y => x ||| y) 5)),
  (5, ce_li (ce_if false false false 15 8)),
  (8, ce_li (ce_iload 1 9)),
  (9, ce_li (ce_iload 2 10)),
  (10, ce_li (ce_iload 0 11)),
  (11, ce_li (ce_bin ce_subo 12)),
  (12, ce_li (ce_icmp false true true 23 15)),
  (23, ce_li (ce_iload 0 24)),
  (24, ce_reti .int)]
theorem tk_J3_checkFromIndexSize_8c36e_0 : ∀ x ∈ tb_J3_checkFromIndexSize_8c36e_0, P_J3_checkFromIndexSize_8c36e x.1 x.2 :=
  ce_fc (P := P_J3_checkFromIndexSize_8c36e) (ok_li (ok_iload_n dJ3_checkFromIndexSize_8c36e_0 rfl)) (
  ce_fc (P := P_J3_checkFromIndexSize_8c36e) (ok_li (ok_iload_n dJ3_checkFromIndexSize_8c36e_1 rfl)) (
  ce_fc (P := P_J3_checkFromIndexSize_8c36e) (ok_li (ok_ior dJ3_checkFromIndexSize_8c36e_2)) (
  ce_fc (P := P_J3_checkFromIndexSize_8c36e) (ok_li (ok_iload_n dJ3_checkFromIndexSize_8c36e_3 rfl)) (
  ce_fc (P := P_J3_checkFromIndexSize_8c36e) (ok_li (ok_ior dJ3_checkFromIndexSize_8c36e_4)) (
  ce_fc (P := P_J3_checkFromIndexSize_8c36e) (ok_li (ok_if_lt dJ3_checkFromIndexSize_8c36e_5 (by decide))) (
  ce_fc (P := P_J3_checkFromIndexSize_8c36e) (ok_li (ok_iload_n dJ3_checkFromIndexSize_8c36e_8 rfl)) (
  ce_fc (P := P_J3_checkFromIndexSize_8c36e) (ok_li (ok_iload_n dJ3_checkFromIndexSize_8c36e_9 rfl)) (
  ce_fc (P := P_J3_checkFromIndexSize_8c36e) (ok_li (ok_iload_n dJ3_checkFromIndexSize_8c36e_10 rfl)) (
  ce_fc (P := P_J3_checkFromIndexSize_8c36e) (ok_li (ok_isub dJ3_checkFromIndexSize_8c36e_11)) (
  ce_fc (P := P_J3_checkFromIndexSize_8c36e) (ok_li (ok_icmp_le dJ3_checkFromIndexSize_8c36e_12 (by decide))) (
  ce_fc (P := P_J3_checkFromIndexSize_8c36e) (ok_li (ok_iload_n dJ3_checkFromIndexSize_8c36e_23 rfl)) (
  ce_fc (P := P_J3_checkFromIndexSize_8c36e) (ok_reti dJ3_checkFromIndexSize_8c36e_24 rfl) (
  ce_fn (P := P_J3_checkFromIndexSize_8c36e))))))))))))))
noncomputable def ta_J3_checkFromIndexSize_8c36e : Nat → Option ce_N := (ce_fd tb_J3_checkFromIndexSize_8c36e_0)
theorem tx_J3_checkFromIndexSize_8c36e : ∀ pc f, ta_J3_checkFromIndexSize_8c36e pc = some f → P_J3_checkFromIndexSize_8c36e pc f := (ce_fd_ok (P := P_J3_checkFromIndexSize_8c36e) tk_J3_checkFromIndexSize_8c36e_0)
noncomputable def F_J3_checkFromIndexSize_8c36e : ce_C := ce_M ta_J3_checkFromIndexSize_8c36e 4 0 0 1000000
theorem m_J3_checkFromIndexSize_8c36e : ∀ l : Launch, l.stackTraces = false → ce_MS l yJ3_checkFromIndexSize_8c36e (.code yJ3_checkFromIndexSize_8c36e cJ3_checkFromIndexSize_8c36e 4 (some .int)) 0 0 0 F_J3_checkFromIndexSize_8c36e := fun l hl => ce_met hl (by decide +kernel) tx_J3_checkFromIndexSize_8c36e
theorem hp_J3_checkFromIndexSize_8c36e : yJ3_checkFromIndexSize_8c36e.cls ≠ "java/lang/invoke/MethodHandle" ∧ yJ3_checkFromIndexSize_8c36e.cls ≠ "java/lang/invoke/VarHandle" ∧ (parseMethodDescriptor yJ3_checkFromIndexSize_8c36e.desc).map (fun d => d.parameters.length) = some 4 := by decide +kernel
abbrev P_J3_checkIndex_8e157 : Nat → ce_N → Prop := ce_OKN "jdk/internal/util/Preconditions" "checkIndex" cJ3_checkIndex_8e157 3 (some .int) 0 (some [])
noncomputable def tb_J3_checkIndex_8e157_0 : List (Nat × ce_N) := [(0, ce_li (ce_iload 0 1)),
  (1, ce_li (ce_if false false false 9 4)),
  (4, ce_li (ce_iload 0 5)),
  (5, ce_li (ce_iload 1 6)),
  (6, ce_li (ce_icmp false false false 16 9)),
  (16, ce_li (ce_iload 0 17)),
  (17, ce_reti .int)]
theorem tk_J3_checkIndex_8e157_0 : ∀ x ∈ tb_J3_checkIndex_8e157_0, P_J3_checkIndex_8e157 x.1 x.2 :=
  ce_fc (P := P_J3_checkIndex_8e157) (ok_li (ok_iload_n dJ3_checkIndex_8e157_0 rfl)) (
  ce_fc (P := P_J3_checkIndex_8e157) (ok_li (ok_if_lt dJ3_checkIndex_8e157_1 (by decide))) (
  ce_fc (P := P_J3_checkIndex_8e157) (ok_li (ok_iload_n dJ3_checkIndex_8e157_4 rfl)) (
  ce_fc (P := P_J3_checkIndex_8e157) (ok_li (ok_iload_n dJ3_checkIndex_8e157_5 rfl)) (
  ce_fc (P := P_J3_checkIndex_8e157) (ok_li (ok_icmp_lt dJ3_checkIndex_8e157_6 (by decide))) (
  ce_fc (P := P_J3_checkIndex_8e157) (ok_li (ok_iload_n dJ3_checkIndex_8e157_16 rfl)) (
  ce_fc (P := P_J3_checkIndex_8e157) (ok_reti dJ3_checkIndex_8e157_17 rfl) (
  ce_fn (P := P_J3_checkIndex_8e157))))))))
noncomputable def ta_J3_checkIndex_8e157 : Nat → Option ce_N := (ce_fd tb_J3_checkIndex_8e157_0)
theorem tx_J3_checkIndex_8e157 : ∀ pc f, ta_J3_checkIndex_8e157 pc = some f → P_J3_checkIndex_8e157 pc f := (ce_fd_ok (P := P_J3_checkIndex_8e157) tk_J3_checkIndex_8e157_0)
noncomputable def F_J3_checkIndex_8e157 : ce_C := ce_M ta_J3_checkIndex_8e157 3 0 0 1000000
theorem m_J3_checkIndex_8e157 : ∀ l : Launch, l.stackTraces = false → ce_MS l yJ3_checkIndex_8e157 (.code yJ3_checkIndex_8e157 cJ3_checkIndex_8e157 3 (some .int)) 0 0 0 F_J3_checkIndex_8e157 := fun l hl => ce_met hl (by decide +kernel) tx_J3_checkIndex_8e157
theorem hp_J3_checkIndex_8e157 : yJ3_checkIndex_8e157.cls ≠ "java/lang/invoke/MethodHandle" ∧ yJ3_checkIndex_8e157.cls ≠ "java/lang/invoke/VarHandle" ∧ (parseMethodDescriptor yJ3_checkIndex_8e157.desc).map (fun d => d.parameters.length) = some 3 := by decide +kernel
abbrev P_J5_ensureCapacityInternal_d00df : Nat → ce_N → Prop := ce_OKN "java/lang/AbstractStringBuilder" "ensureCapacityInternal" cJ5_ensureCapacityInternal_d00df 3 none 0 (some [])
noncomputable def tb_J5_ensureCapacityInternal_d00df_0 : List (Nat × ce_N) := [(0, ce_li (ce_aload 0 1)),
  (1, ce_li (ce_getf 1 0 4)),
  (4, ce_li (ce_alen 5)),
  (5, ce_li (ce_aload 0 6)),
  (6, ce_li (ce_getf 1 1 9)),
  (9, ce_li (ce_bin ce_shr 10)),
  (10, ce_li (ce_istore 2 11 3)),
  (11, ce_li (ce_iload 1 12)),
  (12, ce_li (ce_iload 2 13)),
  (13, ce_li (ce_bin ce_subo 14)),
  (14, ce_li (ce_if false true true 38 17)),
  (38, ce_ret0)]
theorem tk_J5_ensureCapacityInternal_d00df_0 : ∀ x ∈ tb_J5_ensureCapacityInternal_d00df_0, P_J5_ensureCapacityInternal_d00df x.1 x.2 :=
  ce_fc (P := P_J5_ensureCapacityInternal_d00df) (ok_li (ok_aload_n dJ5_ensureCapacityInternal_d00df_0 rfl)) (
  ce_fc (P := P_J5_ensureCapacityInternal_d00df) (ok_li (ok_getf (ci := 1) (k := 0) (C := RJ4) (T := TJ4) (N := 4) dJ5_ensureCapacityInternal_d00df_1 rfl ce_uJ4 (by decide) gw_1942 (fun _ _ _ _ h => h))) (
  ce_fc (P := P_J5_ensureCapacityInternal_d00df) (ok_li (ok_alen dJ5_ensureCapacityInternal_d00df_4)) (
  ce_fc (P := P_J5_ensureCapacityInternal_d00df) (ok_li (ok_aload_n dJ5_ensureCapacityInternal_d00df_5 rfl)) (
  ce_fc (P := P_J5_ensureCapacityInternal_d00df) (ok_li (ok_getf (ci := 1) (k := 1) (C := RJ4) (T := TJ4) (N := 4) dJ5_ensureCapacityInternal_d00df_6 rfl ce_uJ4 (by decide) gw_1943 (fun _ _ _ _ h => h))) (
  ce_fc (P := P_J5_ensureCapacityInternal_d00df) (ok_li (ok_ishr dJ5_ensureCapacityInternal_d00df_9)) (
  ce_fc (P := P_J5_ensureCapacityInternal_d00df) (ok_li (ok_istore_n dJ5_ensureCapacityInternal_d00df_10 rfl)) (
  ce_fc (P := P_J5_ensureCapacityInternal_d00df) (ok_li (ok_iload_n dJ5_ensureCapacityInternal_d00df_11 rfl)) (
  ce_fc (P := P_J5_ensureCapacityInternal_d00df) (ok_li (ok_iload_n dJ5_ensureCapacityInternal_d00df_12 rfl)) (
  ce_fc (P := P_J5_ensureCapacityInternal_d00df) (ok_li (ok_isub dJ5_ensureCapacityInternal_d00df_13)) (
  ce_fc (P := P_J5_ensureCapacityInternal_d00df) (ok_li (ok_if_le dJ5_ensureCapacityInternal_d00df_14 (by decide))) (
  ce_fc (P := P_J5_ensureCapacityInternal_d00df) (ok_ret0 dJ5_ensureCapacityInternal_d00df_38 rfl) (
  ce_fn (P := P_J5_ensureCapacityInternal_d00df)))))))))))))
noncomputable def ta_J5_ensureCapacityInternal_d00df : Nat → Option ce_N := (ce_fd tb_J5_ensureCapacityInternal_d00df_0)
theorem tx_J5_ensureCapacityInternal_d00df : ∀ pc f, ta_J5_ensureCapacityInternal_d00df pc = some f → P_J5_ensureCapacityInternal_d00df pc f := (ce_fd_ok (P := P_J5_ensureCapacityInternal_d00df) tk_J5_ensureCapacityInternal_d00df_0)
noncomputable def F_J5_ensureCapacityInternal_d00df : ce_C := ce_M ta_J5_ensureCapacityInternal_d00df 3 0 0 1000000
theorem m_J5_ensureCapacityInternal_d00df : ∀ l : Launch, l.stackTraces = false → ce_MS l yJ5_ensureCapacityInternal_d00df (.code yJ5_ensureCapacityInternal_d00df cJ5_ensureCapacityInternal_d00df 3 none) 0 0 0 F_J5_ensureCapacityInternal_d00df := fun l hl => ce_met hl (by decide +kernel) tx_J5_ensureCapacityInternal_d00df
theorem hp_J5_ensureCapacityInternal_d00df : yJ5_ensureCapacityInternal_d00df.cls ≠ "java/lang/invoke/MethodHandle" ∧ yJ5_ensureCapacityInternal_d00df.cls ≠ "java/lang/invoke/VarHandle" ∧ (parseMethodDescriptor yJ5_ensureCapacityInternal_d00df.desc).map (fun d => d.parameters.length) = some 1 := by decide +kernel
abbrev P_J5_getValue_6d5f1 : Nat → ce_N → Prop := ce_OKN "java/lang/AbstractStringBuilder" "getValue" cJ5_getValue_6d5f1 1 (some (.array .byte)) 0 (some [])
noncomputable def tb_J5_getValue_6d5f1_0 : List (Nat × ce_N) := [(0, ce_li (ce_aload 0 1)),
  (1, ce_li (ce_getf 1 0 4)),
  (4, ce_reta)]
theorem tk_J5_getValue_6d5f1_0 : ∀ x ∈ tb_J5_getValue_6d5f1_0, P_J5_getValue_6d5f1 x.1 x.2 :=
  ce_fc (P := P_J5_getValue_6d5f1) (ok_li (ok_aload_n dJ5_getValue_6d5f1_0 rfl)) (
  ce_fc (P := P_J5_getValue_6d5f1) (ok_li (ok_getf (ci := 1) (k := 0) (C := RJ4) (T := TJ4) (N := 4) dJ5_getValue_6d5f1_1 rfl ce_uJ4 (by decide) gw_1942 (fun _ _ _ _ h => h))) (
  ce_fc (P := P_J5_getValue_6d5f1) (ok_reta dJ5_getValue_6d5f1_4 rfl (Or.inr ⟨_, rfl⟩)) (
  ce_fn (P := P_J5_getValue_6d5f1))))
noncomputable def ta_J5_getValue_6d5f1 : Nat → Option ce_N := (ce_fd tb_J5_getValue_6d5f1_0)
theorem tx_J5_getValue_6d5f1 : ∀ pc f, ta_J5_getValue_6d5f1 pc = some f → P_J5_getValue_6d5f1 pc f := (ce_fd_ok (P := P_J5_getValue_6d5f1) tk_J5_getValue_6d5f1_0)
noncomputable def F_J5_getValue_6d5f1 : ce_C := ce_M ta_J5_getValue_6d5f1 1 0 0 1000000
theorem m_J5_getValue_6d5f1 : ∀ l : Launch, l.stackTraces = false → ce_MS l yJ5_getValue_6d5f1 (.code yJ5_getValue_6d5f1 cJ5_getValue_6d5f1 1 (some (.array .byte))) 0 0 0 F_J5_getValue_6d5f1 := fun l hl => ce_met hl (by decide +kernel) tx_J5_getValue_6d5f1
theorem hp_J5_getValue_6d5f1 : yJ5_getValue_6d5f1.cls ≠ "java/lang/invoke/MethodHandle" ∧ yJ5_getValue_6d5f1.cls ≠ "java/lang/invoke/VarHandle" ∧ (parseMethodDescriptor yJ5_getValue_6d5f1.desc).map (fun d => d.parameters.length) = some 0 := by decide +kernel
abbrev P_J5_init_d00df : Nat → ce_N → Prop := ce_OKN "java/lang/AbstractStringBuilder" "<init>" cJ5_init_d00df 2 none 0 (some [])
noncomputable def tb_J5_init_d00df_0 : List (Nat × ce_N) := [(0, ce_li (ce_aload 0 1)),
  (1, ce_li (ce_oi 4)),
  (4, ce_li (ce_push (.inl (.inl 1)) 7)),
  (7, ce_li (ce_if true false false 25 10)),
  (10, ce_li (ce_aload 0 11)),
  (11, ce_li (ce_iload 1 12)),
  (12, ce_li (ce_newa 2 2 14)),
  (14, ce_li (ce_putf (tyJ4 0) 1 0 17)),
  (17, ce_li (ce_aload 0 18)),
  (18, ce_li (ce_push (.inl (.inl (0))) 19)),
  (19, ce_li (ce_putf (tyJ4 1) 1 1 22)),
  (22, ce_li (ce_goto 38)),
  (38, ce_ret0)]
theorem tk_J5_init_d00df_0 : ∀ x ∈ tb_J5_init_d00df_0, P_J5_init_d00df x.1 x.2 :=
  ce_fc (P := P_J5_init_d00df) (ok_li (ok_aload_n dJ5_init_d00df_0 rfl)) (
  ce_fc (P := P_J5_init_d00df) (ok_li (ok_oi dJ5_init_d00df_1 gw_1933 gw_57 gw_58)) (
  ce_fc (P := P_J5_init_d00df) (ok_li (ok_gets (sv := (.inl (.inl 1))) ce_z1 dJ5_init_d00df_4 gw_1934 rfl)) (
  ce_fc (P := P_J5_init_d00df) (ok_li (ok_if_eq dJ5_init_d00df_7 (by decide))) (
  ce_fc (P := P_J5_init_d00df) (ok_li (ok_aload_n dJ5_init_d00df_10 rfl)) (
  ce_fc (P := P_J5_init_d00df) (ok_li (ok_iload_n dJ5_init_d00df_11 rfl)) (
  ce_fc (P := P_J5_init_d00df) (ok_li (ok_newa_byte dJ5_init_d00df_12 gw_1582)) (
  ce_fc (P := P_J5_init_d00df) (ok_li (ok_putf (ci := 1) (k := 0) (C := RJ4) (T := TJ4) (N := 4) (ty0 := tyJ4) dJ5_init_d00df_14 rfl ce_uJ4 (by decide) gw_1942 (fun _ _ _ _ h => h) tyJ4_ok nmJ4 (Or.inl rfl))) (
  ce_fc (P := P_J5_init_d00df) (ok_li (ok_aload_n dJ5_init_d00df_17 rfl)) (
  ce_fc (P := P_J5_init_d00df) (ok_li (ok_iconst dJ5_init_d00df_18)) (
  ce_fc (P := P_J5_init_d00df) (ok_li (ok_putf (ci := 1) (k := 1) (C := RJ4) (T := TJ4) (N := 4) (ty0 := tyJ4) dJ5_init_d00df_19 rfl ce_uJ4 (by decide) gw_1943 (fun _ _ _ _ h => h) tyJ4_ok nmJ4 (Or.inl rfl))) (
  ce_fc (P := P_J5_init_d00df) (ok_li (ok_goto dJ5_init_d00df_22 (by decide))) (
  ce_fc (P := P_J5_init_d00df) (ok_ret0 dJ5_init_d00df_38 rfl) (
  ce_fn (P := P_J5_init_d00df))))))))))))))
noncomputable def ta_J5_init_d00df : Nat → Option ce_N := (ce_fd tb_J5_init_d00df_0)
theorem tx_J5_init_d00df : ∀ pc f, ta_J5_init_d00df pc = some f → P_J5_init_d00df pc f := (ce_fd_ok (P := P_J5_init_d00df) tk_J5_init_d00df_0)
noncomputable def F_J5_init_d00df : ce_C := ce_M ta_J5_init_d00df 2 1 16 1000000
theorem m_J5_init_d00df : ∀ l : Launch, l.stackTraces = false → ce_MS l yJ5_init_d00df (.code yJ5_init_d00df cJ5_init_d00df 2 none) 0 1 16 F_J5_init_d00df := fun l hl => ce_met hl (by decide +kernel) tx_J5_init_d00df
theorem hp_J5_init_d00df : yJ5_init_d00df.cls ≠ "java/lang/invoke/MethodHandle" ∧ yJ5_init_d00df.cls ≠ "java/lang/invoke/VarHandle" ∧ (parseMethodDescriptor yJ5_init_d00df.desc).map (fun d => d.parameters.length) = some 1 := by decide +kernel
abbrev P_J5_isLatin1_aae02 : Nat → ce_N → Prop := ce_OKN "java/lang/AbstractStringBuilder" "isLatin1" cJ5_isLatin1_aae02 1 (some .boolean) 0 (some [])
noncomputable def tb_J5_isLatin1_aae02_0 : List (Nat × ce_N) := [(0, ce_li (ce_push (.inl (.inl 1)) 3)),
  (3, ce_li (ce_if true false false 17 6)),
  (6, ce_li (ce_aload 0 7)),
  (7, ce_li (ce_getf 1 1 10)),
  (10, ce_li (ce_if true false true 17 13)),
  (13, ce_li (ce_push (.inl (.inl (1))) 14)),
  (14, ce_li (ce_goto 18)),
  (17, ce_li (ce_push (.inl (.inl (0))) 18)),
  (18, ce_reti .boolean)]
theorem tk_J5_isLatin1_aae02_0 : ∀ x ∈ tb_J5_isLatin1_aae02_0, P_J5_isLatin1_aae02 x.1 x.2 :=
  ce_fc (P := P_J5_isLatin1_aae02) (ok_li (ok_gets (sv := (.inl (.inl 1))) ce_z1 dJ5_isLatin1_aae02_0 gw_1934 rfl)) (
  ce_fc (P := P_J5_isLatin1_aae02) (ok_li (ok_if_eq dJ5_isLatin1_aae02_3 (by decide))) (
  ce_fc (P := P_J5_isLatin1_aae02) (ok_li (ok_aload_n dJ5_isLatin1_aae02_6 rfl)) (
  ce_fc (P := P_J5_isLatin1_aae02) (ok_li (ok_getf (ci := 1) (k := 1) (C := RJ4) (T := TJ4) (N := 4) dJ5_isLatin1_aae02_7 rfl ce_uJ4 (by decide) gw_1943 (fun _ _ _ _ h => h))) (
  ce_fc (P := P_J5_isLatin1_aae02) (ok_li (ok_if_ne dJ5_isLatin1_aae02_10 (by decide))) (
  ce_fc (P := P_J5_isLatin1_aae02) (ok_li (ok_iconst dJ5_isLatin1_aae02_13)) (
  ce_fc (P := P_J5_isLatin1_aae02) (ok_li (ok_goto dJ5_isLatin1_aae02_14 (by decide))) (
  ce_fc (P := P_J5_isLatin1_aae02) (ok_li (ok_iconst dJ5_isLatin1_aae02_17)) (
  ce_fc (P := P_J5_isLatin1_aae02) (ok_reti dJ5_isLatin1_aae02_18 rfl) (
  ce_fn (P := P_J5_isLatin1_aae02))))))))))
noncomputable def ta_J5_isLatin1_aae02 : Nat → Option ce_N := (ce_fd tb_J5_isLatin1_aae02_0)
theorem tx_J5_isLatin1_aae02 : ∀ pc f, ta_J5_isLatin1_aae02 pc = some f → P_J5_isLatin1_aae02 pc f := (ce_fd_ok (P := P_J5_isLatin1_aae02) tk_J5_isLatin1_aae02_0)
noncomputable def F_J5_isLatin1_aae02 : ce_C := ce_M ta_J5_isLatin1_aae02 1 0 0 1000000
theorem m_J5_isLatin1_aae02 : ∀ l : Launch, l.stackTraces = false → ce_MS l yJ5_isLatin1_aae02 (.code yJ5_isLatin1_aae02 cJ5_isLatin1_aae02 1 (some .boolean)) 0 0 0 F_J5_isLatin1_aae02 := fun l hl => ce_met hl (by decide +kernel) tx_J5_isLatin1_aae02
theorem hp_J5_isLatin1_aae02 : yJ5_isLatin1_aae02.cls ≠ "java/lang/invoke/MethodHandle" ∧ yJ5_isLatin1_aae02.cls ≠ "java/lang/invoke/VarHandle" ∧ (parseMethodDescriptor yJ5_isLatin1_aae02.desc).map (fun d => d.parameters.length) = some 0 := by decide +kernel
abbrev P_J5_length_8abf5 : Nat → ce_N → Prop := ce_OKN "java/lang/AbstractStringBuilder" "length" cJ5_length_8abf5 1 (some .int) 0 (some [])
noncomputable def tb_J5_length_8abf5_0 : List (Nat × ce_N) := [(0, ce_li (ce_aload 0 1)),
  (1, ce_li (ce_getf 1 3 4)),
  (4, ce_reti .int)]
theorem tk_J5_length_8abf5_0 : ∀ x ∈ tb_J5_length_8abf5_0, P_J5_length_8abf5 x.1 x.2 :=
  ce_fc (P := P_J5_length_8abf5) (ok_li (ok_aload_n dJ5_length_8abf5_0 rfl)) (
  ce_fc (P := P_J5_length_8abf5) (ok_li (ok_getf (ci := 1) (k := 3) (C := RJ4) (T := TJ4) (N := 4) dJ5_length_8abf5_1 rfl ce_uJ4 (by decide) gw_1945 (fun _ _ _ _ h => h))) (
  ce_fc (P := P_J5_length_8abf5) (ok_reti dJ5_length_8abf5_4 rfl) (
  ce_fn (P := P_J5_length_8abf5))))
noncomputable def ta_J5_length_8abf5 : Nat → Option ce_N := (ce_fd tb_J5_length_8abf5_0)
theorem tx_J5_length_8abf5 : ∀ pc f, ta_J5_length_8abf5 pc = some f → P_J5_length_8abf5 pc f := (ce_fd_ok (P := P_J5_length_8abf5) tk_J5_length_8abf5_0)
noncomputable def F_J5_length_8abf5 : ce_C := ce_M ta_J5_length_8abf5 1 0 0 1000000
theorem m_J5_length_8abf5 : ∀ l : Launch, l.stackTraces = false → ce_MS l yJ5_length_8abf5 (.code yJ5_length_8abf5 cJ5_length_8abf5 1 (some .int)) 0 0 0 F_J5_length_8abf5 := fun l hl => ce_met hl (by decide +kernel) tx_J5_length_8abf5
theorem hp_J5_length_8abf5 : yJ5_length_8abf5.cls ≠ "java/lang/invoke/MethodHandle" ∧ yJ5_length_8abf5.cls ≠ "java/lang/invoke/VarHandle" ∧ (parseMethodDescriptor yJ5_length_8abf5.desc).map (fun d => d.parameters.length) = some 0 := by decide +kernel
abbrev P_J7_checkLength_df160 : Nat → ce_N → Prop := ce_OKN "java/util/Arrays" "checkLength" cJ7_checkLength_df160 2 none 0 (some [])
noncomputable def tb_J7_checkLength_df160_0 : List (Nat × ce_N) := [(0, ce_li (ce_iload 1 1)),
  (1, ce_li (ce_iload 0 2)),
  (2, ce_li (ce_icmp false false true 37 5)),
  (37, ce_ret0)]
theorem tk_J7_checkLength_df160_0 : ∀ x ∈ tb_J7_checkLength_df160_0, P_J7_checkLength_df160 x.1 x.2 :=
  ce_fc (P := P_J7_checkLength_df160) (ok_li (ok_iload_n dJ7_checkLength_df160_0 rfl)) (
  ce_fc (P := P_J7_checkLength_df160) (ok_li (ok_iload_n dJ7_checkLength_df160_1 rfl)) (
  ce_fc (P := P_J7_checkLength_df160) (ok_li (ok_icmp_ge dJ7_checkLength_df160_2 (by decide))) (
  ce_fc (P := P_J7_checkLength_df160) (ok_ret0 dJ7_checkLength_df160_37 rfl) (
  ce_fn (P := P_J7_checkLength_df160)))))
noncomputable def ta_J7_checkLength_df160 : Nat → Option ce_N := (ce_fd tb_J7_checkLength_df160_0)
theorem tx_J7_checkLength_df160 : ∀ pc f, ta_J7_checkLength_df160 pc = some f → P_J7_checkLength_df160 pc f := (ce_fd_ok (P := P_J7_checkLength_df160) tk_J7_checkLength_df160_0)
noncomputable def F_J7_checkLength_df160 : ce_C := ce_M ta_J7_checkLength_df160 2 0 0 1000000
theorem m_J7_checkLength_df160 : ∀ l : Launch, l.stackTraces = false → ce_MS l yJ7_checkLength_df160 (.code yJ7_checkLength_df160 cJ7_checkLength_df160 2 none) 0 0 0 F_J7_checkLength_df160 := fun l hl => ce_met hl (by decide +kernel) tx_J7_checkLength_df160
theorem hp_J7_checkLength_df160 : yJ7_checkLength_df160.cls ≠ "java/lang/invoke/MethodHandle" ∧ yJ7_checkLength_df160.cls ≠ "java/lang/invoke/VarHandle" ∧ (parseMethodDescriptor yJ7_checkLength_df160.desc).map (fun d => d.parameters.length) = some 2 := by decide +kernel
abbrev P_J7_copyOf_6403c : Nat → ce_N → Prop := ce_OKN "java/util/Arrays" "copyOf" cJ7_copyOf_6403c 4 (some (.array (.object "java/lang/Object"))) 0 (some [])
noncomputable def tb_J7_copyOf_6403c_0 : List (Nat × ce_N) := [(0, ce_li (ce_aload 2 1)),
  (1, ce_li (ce_push (.inr (.inr (.inl (.inr 6)))) 3)),
  (3, ce_li (ce_acmp true 13 6)),
  (6, ce_li (ce_iload 1 7)),
  (7, ce_li (ce_newa 6 3 10)),
  (10, ce_li (ce_goto 24)),
  (24, ce_li (ce_astore 3 25 4)),
  (25, ce_li (ce_aload 0 26)),
  (26, ce_li (ce_push (.inl (.inl (0))) 27)),
  (27, ce_li (ce_aload 3 28)),
  (28, ce_li (ce_push (.inl (.inl (0))) 29)),
  (29, ce_li (ce_aload 0 30)),
  (30, ce_li (ce_alen 31)),
  (31, ce_li (ce_iload 1 32))]
theorem tk_J7_copyOf_6403c_0 : ∀ x ∈ tb_J7_copyOf_6403c_0, P_J7_copyOf_6403c x.1 x.2 :=
  ce_fc (P := P_J7_copyOf_6403c) (ok_li (ok_aload_n dJ7_copyOf_6403c_0 rfl)) (
  ce_fc (P := P_J7_copyOf_6403c) (ok_li (ok_ldcM dJ7_copyOf_6403c_1 gw_1776)) (
  ce_fc (P := P_J7_copyOf_6403c) (ok_li (ok_acmp_ne dJ7_copyOf_6403c_3 (by decide))) (
  ce_fc (P := P_J7_copyOf_6403c) (ok_li (ok_iload_n dJ7_copyOf_6403c_6 rfl)) (
  ce_fc (P := P_J7_copyOf_6403c) (ok_li (ok_newq (C := "java/lang/Object") (t := 6) dJ7_copyOf_6403c_7 gw_1778 (by decide) (fun _ => rfl) (fun z ad n => ce_refs (by decide) (by decide) (by decide) z ad n))) (
  ce_fc (P := P_J7_copyOf_6403c) (ok_li (ok_goto dJ7_copyOf_6403c_10 (by decide))) (
  ce_fc (P := P_J7_copyOf_6403c) (ok_li (ok_astore_n dJ7_copyOf_6403c_24 rfl)) (
  ce_fc (P := P_J7_copyOf_6403c) (ok_li (ok_aload_n dJ7_copyOf_6403c_25 rfl)) (
  ce_fc (P := P_J7_copyOf_6403c) (ok_li (ok_iconst dJ7_copyOf_6403c_26)) (
  ce_fc (P := P_J7_copyOf_6403c) (ok_li (ok_aload_n dJ7_copyOf_6403c_27 rfl)) (
  ce_fc (P := P_J7_copyOf_6403c) (ok_li (ok_iconst dJ7_copyOf_6403c_28)) (
  ce_fc (P := P_J7_copyOf_6403c) (ok_li (ok_aload_n dJ7_copyOf_6403c_29 rfl)) (
  ce_fc (P := P_J7_copyOf_6403c) (ok_li (ok_alen dJ7_copyOf_6403c_30)) (
  ce_fc (P := P_J7_copyOf_6403c) (ok_li (ok_iload_n dJ7_copyOf_6403c_31 rfl)) (
  ce_fn (P := P_J7_copyOf_6403c)))))))))))))))
noncomputable def tb_J7_copyOf_6403c_1 : List (Nat × ce_N) := [(32, ce_li (ce_mm false 35)),
  (35, ce_li (ce_cpq 38)),
  (38, ce_li (ce_aload 3 39)),
  (39, ce_reta)]
theorem tk_J7_copyOf_6403c_1 : ∀ x ∈ tb_J7_copyOf_6403c_1, P_J7_copyOf_6403c x.1 x.2 :=
  ce_fc (P := P_J7_copyOf_6403c) (ok_li (ok_mmin dJ7_copyOf_6403c_32 gw_1779 gw_604 gw_25 gw_605)) (
  ce_fc (P := P_J7_copyOf_6403c) (ok_li (ok_cpq (T16 := TX12) (N16 := 7) rfl gn_6 dJ7_copyOf_6403c_35 gw_1780 gw_1782 gw_1781 gw_32)) (
  ce_fc (P := P_J7_copyOf_6403c) (ok_li (ok_aload_n dJ7_copyOf_6403c_38 rfl)) (
  ce_fc (P := P_J7_copyOf_6403c) (ok_reta dJ7_copyOf_6403c_39 rfl (Or.inr ⟨_, rfl⟩)) (
  ce_fn (P := P_J7_copyOf_6403c)))))
noncomputable def ta_J7_copyOf_6403c : Nat → Option ce_N := (ce_tr 32 (ce_fd tb_J7_copyOf_6403c_0) (ce_fd tb_J7_copyOf_6403c_1))
theorem tx_J7_copyOf_6403c : ∀ pc f, ta_J7_copyOf_6403c pc = some f → P_J7_copyOf_6403c pc f := (ce_tr_ok (P := P_J7_copyOf_6403c) (ce_fd_ok (P := P_J7_copyOf_6403c) tk_J7_copyOf_6403c_0) (ce_fd_ok (P := P_J7_copyOf_6403c) tk_J7_copyOf_6403c_1))
noncomputable def F_J7_copyOf_6403c : ce_C := ce_M ta_J7_copyOf_6403c 4 1 22 1000000
theorem m_J7_copyOf_6403c : ∀ l : Launch, l.stackTraces = false → ce_MS l yJ7_copyOf_6403c (.code yJ7_copyOf_6403c cJ7_copyOf_6403c 4 (some (.array (.object "java/lang/Object")))) 0 1 22 F_J7_copyOf_6403c := fun l hl => ce_met hl (by decide +kernel) tx_J7_copyOf_6403c
theorem hp_J7_copyOf_6403c : yJ7_copyOf_6403c.cls ≠ "java/lang/invoke/MethodHandle" ∧ yJ7_copyOf_6403c.cls ≠ "java/lang/invoke/VarHandle" ∧ (parseMethodDescriptor yJ7_copyOf_6403c.desc).map (fun d => d.parameters.length) = some 3 := by decide +kernel
abbrev P_J8_newLength_cabcc : Nat → ce_N → Prop := ce_OKN "jdk/internal/util/ArraysSupport" "newLength" cJ8_newLength_cabcc 4 (some .int) 0 (some [])
noncomputable def tb_J8_newLength_cabcc_0 : List (Nat × ce_N) := [(0, ce_li (ce_iload 0 1)),
  (1, ce_li (ce_iload 1 2)),
  (2, ce_li (ce_iload 2 3)),
  (3, ce_li (ce_mm true 6)),
  (6, ce_li (ce_bin ce_addo 7)),
  (7, ce_li (ce_istore 3 8 4)),
  (8, ce_li (ce_push (.inl (.inl (0))) 9)),
  (9, ce_li (ce_iload 3 10)),
  (10, ce_li (ce_icmp false false true 21 13)),
  (13, ce_li (ce_iload 3 14)),
  (14, ce_li (ce_push (.inl (.inl (2147483639))) 16)),
  (16, ce_li (ce_icmp false true false 21 19)),
  (19, ce_li (ce_iload 3 20)),
  (20, ce_reti .int)]
theorem tk_J8_newLength_cabcc_0 : ∀ x ∈ tb_J8_newLength_cabcc_0, P_J8_newLength_cabcc x.1 x.2 :=
  ce_fc (P := P_J8_newLength_cabcc) (ok_li (ok_iload_n dJ8_newLength_cabcc_0 rfl)) (
  ce_fc (P := P_J8_newLength_cabcc) (ok_li (ok_iload_n dJ8_newLength_cabcc_1 rfl)) (
  ce_fc (P := P_J8_newLength_cabcc) (ok_li (ok_iload_n dJ8_newLength_cabcc_2 rfl)) (
  ce_fc (P := P_J8_newLength_cabcc) (ok_li (ok_mmax dJ8_newLength_cabcc_3 gw_1729 gw_593 gw_25 gw_594)) (
  ce_fc (P := P_J8_newLength_cabcc) (ok_li (ok_iadd dJ8_newLength_cabcc_6)) (
  ce_fc (P := P_J8_newLength_cabcc) (ok_li (ok_istore_n dJ8_newLength_cabcc_7 rfl)) (
  ce_fc (P := P_J8_newLength_cabcc) (ok_li (ok_iconst dJ8_newLength_cabcc_8)) (
  ce_fc (P := P_J8_newLength_cabcc) (ok_li (ok_iload_n dJ8_newLength_cabcc_9 rfl)) (
  ce_fc (P := P_J8_newLength_cabcc) (ok_li (ok_icmp_ge dJ8_newLength_cabcc_10 (by decide))) (
  ce_fc (P := P_J8_newLength_cabcc) (ok_li (ok_iload_n dJ8_newLength_cabcc_13 rfl)) (
  ce_fc (P := P_J8_newLength_cabcc) (ok_li (ok_ldc dJ8_newLength_cabcc_14 gw_1730)) (
  ce_fc (P := P_J8_newLength_cabcc) (ok_li (ok_icmp_gt dJ8_newLength_cabcc_16 (by decide))) (
  ce_fc (P := P_J8_newLength_cabcc) (ok_li (ok_iload_n dJ8_newLength_cabcc_19 rfl)) (
  ce_fc (P := P_J8_newLength_cabcc) (ok_reti dJ8_newLength_cabcc_20 rfl) (
  ce_fn (P := P_J8_newLength_cabcc)))))))))))))))
noncomputable def ta_J8_newLength_cabcc : Nat → Option ce_N := (ce_fd tb_J8_newLength_cabcc_0)
theorem tx_J8_newLength_cabcc : ∀ pc f, ta_J8_newLength_cabcc pc = some f → P_J8_newLength_cabcc pc f := (ce_fd_ok (P := P_J8_newLength_cabcc) tk_J8_newLength_cabcc_0)
noncomputable def F_J8_newLength_cabcc : ce_C := ce_M ta_J8_newLength_cabcc 4 0 0 1000000
theorem m_J8_newLength_cabcc : ∀ l : Launch, l.stackTraces = false → ce_MS l yJ8_newLength_cabcc (.code yJ8_newLength_cabcc cJ8_newLength_cabcc 4 (some .int)) 0 0 0 F_J8_newLength_cabcc := fun l hl => ce_met hl (by decide +kernel) tx_J8_newLength_cabcc
theorem hp_J8_newLength_cabcc : yJ8_newLength_cabcc.cls ≠ "java/lang/invoke/MethodHandle" ∧ yJ8_newLength_cabcc.cls ≠ "java/lang/invoke/VarHandle" ∧ (parseMethodDescriptor yJ8_newLength_cabcc.desc).map (fun d => d.parameters.length) = some 3 := by decide +kernel
abbrev P_Jx35411_hasNext_aae02 : Nat → ce_N → Prop := ce_OKN "java/util/ArrayList$Itr" "hasNext" cJx35411_hasNext_aae02 1 (some .boolean) 0 (some [])
noncomputable def tb_Jx35411_hasNext_aae02_0 : List (Nat × ce_N) := [(0, ce_li (ce_aload 0 1)),
  (1, ce_li (ce_getf 2 0 4)),
  (4, ce_li (ce_aload 0 5)),
  (5, ce_li (ce_getf 2 3 8)),
  (8, ce_li (ce_getf 3 2 11)),
  (11, ce_li (ce_icmp true false false 18 14)),
  (18, ce_li (ce_push (.inl (.inl (0))) 19)),
  (19, ce_reti .boolean)]
theorem tk_Jx35411_hasNext_aae02_0 : ∀ x ∈ tb_Jx35411_hasNext_aae02_0, P_Jx35411_hasNext_aae02 x.1 x.2 :=
  ce_fc (P := P_Jx35411_hasNext_aae02) (ok_li (ok_aload_n dJx35411_hasNext_aae02_0 rfl)) (
  ce_fc (P := P_Jx35411_hasNext_aae02) (ok_li (ok_getf (ci := 2) (k := 0) (C := RJx35411) (T := TJx35411) (N := 4) dJx35411_hasNext_aae02_1 rfl ce_uJx35411 (by decide) gw_1807 (fun _ _ _ _ h => h))) (
  ce_fc (P := P_Jx35411_hasNext_aae02) (ok_li (ok_aload_n dJx35411_hasNext_aae02_4 rfl)) (
  ce_fc (P := P_Jx35411_hasNext_aae02) (ok_li (ok_getf (ci := 2) (k := 3) (C := RJx35411) (T := TJx35411) (N := 4) dJx35411_hasNext_aae02_5 rfl ce_uJx35411 (by decide) gw_1810 (fun _ _ _ _ h => h))) (
  ce_fc (P := P_Jx35411_hasNext_aae02) (ok_li (ok_getfN (ci := 3) (k := 2) (C := RJx4a65c) (T := TJx4a65c) (N := 3) dJx35411_hasNext_aae02_8 rfl ce_uJx4a65c (by decide) gn_21 (fun _ _ _ _ h => h))) (
  ce_fc (P := P_Jx35411_hasNext_aae02) (ok_li (ok_icmp_eq dJx35411_hasNext_aae02_11 (by decide))) (
  ce_fc (P := P_Jx35411_hasNext_aae02) (ok_li (ok_iconst dJx35411_hasNext_aae02_18)) (
  ce_fc (P := P_Jx35411_hasNext_aae02) (ok_reti dJx35411_hasNext_aae02_19 rfl) (
  ce_fn (P := P_Jx35411_hasNext_aae02)))))))))
noncomputable def ta_Jx35411_hasNext_aae02 : Nat → Option ce_N := (ce_fd tb_Jx35411_hasNext_aae02_0)
theorem tx_Jx35411_hasNext_aae02 : ∀ pc f, ta_Jx35411_hasNext_aae02 pc = some f → P_Jx35411_hasNext_aae02 pc f := (ce_fd_ok (P := P_Jx35411_hasNext_aae02) tk_Jx35411_hasNext_aae02_0)
noncomputable def F_Jx35411_hasNext_aae02 : ce_C := ce_M ta_Jx35411_hasNext_aae02 1 0 0 1000000
theorem m_Jx35411_hasNext_aae02 : ∀ l : Launch, l.stackTraces = false → ce_MS l ce_yI (.code ce_yI cJx35411_hasNext_aae02 1 (some .boolean)) 0 0 0 F_Jx35411_hasNext_aae02 := fun l hl => ce_met hl (by decide +kernel) tx_Jx35411_hasNext_aae02
theorem hp_Jx35411_hasNext_aae02 : ce_yI.cls ≠ "java/lang/invoke/MethodHandle" ∧ ce_yI.cls ≠ "java/lang/invoke/VarHandle" ∧ (parseMethodDescriptor ce_yI.desc).map (fun d => d.parameters.length) = some 0 := by decide +kernel
abbrev P_Jx35411_init_45d68 : Nat → ce_N → Prop := ce_OKN "java/util/ArrayList$Itr" "<init>" cJx35411_init_45d68 2 none 0 (some [])
noncomputable def tb_Jx35411_init_45d68_0 : List (Nat × ce_N) := [(0, ce_li (ce_aload 0 1)),
  (1, ce_li (ce_aload 1 2)),
  (2, ce_li (ce_putf (tyJx35411 3) 2 3 5)),
  (5, ce_li (ce_aload 0 6)),
  (6, ce_li (ce_oi 9)),
  (9, ce_li (ce_aload 0 10)),
  (10, ce_li (ce_push (.inl (.inl (-1))) 11)),
  (11, ce_li (ce_putf (tyJx35411 1) 2 1 14)),
  (14, ce_li (ce_aload 0 15)),
  (15, ce_li (ce_aload 0 16)),
  (16, ce_li (ce_getf 2 3 19)),
  (19, ce_li (ce_getf 3 0 22)),
  (22, ce_li (ce_putf (tyJx35411 2) 2 2 25)),
  (25, ce_ret0)]
theorem tk_Jx35411_init_45d68_0 : ∀ x ∈ tb_Jx35411_init_45d68_0, P_Jx35411_init_45d68 x.1 x.2 :=
  ce_fc (P := P_Jx35411_init_45d68) (ok_li (ok_aload_n dJx35411_init_45d68_0 rfl)) (
  ce_fc (P := P_Jx35411_init_45d68) (ok_li (ok_aload_n dJx35411_init_45d68_1 rfl)) (
  ce_fc (P := P_Jx35411_init_45d68) (ok_li (ok_putf (ci := 2) (k := 3) (C := RJx35411) (T := TJx35411) (N := 4) (ty0 := tyJx35411) dJx35411_init_45d68_2 rfl ce_uJx35411 (by decide) gw_1810 (fun _ _ _ _ h => h) tyJx35411_ok nmJx35411 (Or.inr ⟨rfl, rfl, rfl⟩))) (
  ce_fc (P := P_Jx35411_init_45d68) (ok_li (ok_aload_n dJx35411_init_45d68_5 rfl)) (
  ce_fc (P := P_Jx35411_init_45d68) (ok_li (ok_oi dJx35411_init_45d68_6 gw_1806 gw_57 gw_58)) (
  ce_fc (P := P_Jx35411_init_45d68) (ok_li (ok_aload_n dJx35411_init_45d68_9 rfl)) (
  ce_fc (P := P_Jx35411_init_45d68) (ok_li (ok_iconst dJx35411_init_45d68_10)) (
  ce_fc (P := P_Jx35411_init_45d68) (ok_li (ok_putf (ci := 2) (k := 1) (C := RJx35411) (T := TJx35411) (N := 4) (ty0 := tyJx35411) dJx35411_init_45d68_11 rfl ce_uJx35411 (by decide) gw_1808 (fun _ _ _ _ h => h) tyJx35411_ok nmJx35411 (Or.inl rfl))) (
  ce_fc (P := P_Jx35411_init_45d68) (ok_li (ok_aload_n dJx35411_init_45d68_14 rfl)) (
  ce_fc (P := P_Jx35411_init_45d68) (ok_li (ok_aload_n dJx35411_init_45d68_15 rfl)) (
  ce_fc (P := P_Jx35411_init_45d68) (ok_li (ok_getf (ci := 2) (k := 3) (C := RJx35411) (T := TJx35411) (N := 4) dJx35411_init_45d68_16 rfl ce_uJx35411 (by decide) gw_1810 (fun _ _ _ _ h => h))) (
  ce_fc (P := P_Jx35411_init_45d68) (ok_li (ok_getf (ci := 3) (k := 0) (C := RJx4a65c) (T := TJx4a65c) (N := 3) dJx35411_init_45d68_19 rfl ce_uJx4a65c (by decide) gw_1510 (fun s args hw x h => u_same (hw _ gw_1511) x h))) (
  ce_fc (P := P_Jx35411_init_45d68) (ok_li (ok_putf (ci := 2) (k := 2) (C := RJx35411) (T := TJx35411) (N := 4) (ty0 := tyJx35411) dJx35411_init_45d68_22 rfl ce_uJx35411 (by decide) gw_1809 (fun _ _ _ _ h => h) tyJx35411_ok nmJx35411 (Or.inl rfl))) (
  ce_fc (P := P_Jx35411_init_45d68) (ok_ret0 dJx35411_init_45d68_25 rfl) (
  ce_fn (P := P_Jx35411_init_45d68)))))))))))))))
noncomputable def ta_Jx35411_init_45d68 : Nat → Option ce_N := (ce_fd tb_Jx35411_init_45d68_0)
theorem tx_Jx35411_init_45d68 : ∀ pc f, ta_Jx35411_init_45d68 pc = some f → P_Jx35411_init_45d68 pc f := (ce_fd_ok (P := P_Jx35411_init_45d68) tk_Jx35411_init_45d68_0)
noncomputable def F_Jx35411_init_45d68 : ce_C := ce_M ta_Jx35411_init_45d68 2 0 0 1000000
theorem m_Jx35411_init_45d68 : ∀ l : Launch, l.stackTraces = false → ce_MS l yJx35411_init_45d68 (.code yJx35411_init_45d68 cJx35411_init_45d68 2 none) 0 0 0 F_Jx35411_init_45d68 := fun l hl => ce_met hl (by decide +kernel) tx_Jx35411_init_45d68
theorem hp_Jx35411_init_45d68 : yJx35411_init_45d68.cls ≠ "java/lang/invoke/MethodHandle" ∧ yJx35411_init_45d68.cls ≠ "java/lang/invoke/VarHandle" ∧ (parseMethodDescriptor yJx35411_init_45d68.desc).map (fun d => d.parameters.length) = some 1 := by decide +kernel
abbrev P_Jx4a65c_isEmpty_aae02 : Nat → ce_N → Prop := ce_OKN "java/util/ArrayList" "isEmpty" cJx4a65c_isEmpty_aae02 1 (some .boolean) 0 (some [])
noncomputable def tb_Jx4a65c_isEmpty_aae02_0 : List (Nat × ce_N) := [(0, ce_li (ce_aload 0 1)),
  (1, ce_li (ce_getf 3 2 4)),
  (4, ce_li (ce_if true false true 11 7)),
  (7, ce_li (ce_push (.inl (.inl (1))) 8)),
  (8, ce_li (ce_goto 12)),
  (12, ce_reti .boolean)]
theorem tk_Jx4a65c_isEmpty_aae02_0 : ∀ x ∈ tb_Jx4a65c_isEmpty_aae02_0, P_Jx4a65c_isEmpty_aae02 x.1 x.2 :=
  ce_fc (P := P_Jx4a65c_isEmpty_aae02) (ok_li (ok_aload_n dJx4a65c_isEmpty_aae02_0 rfl)) (
  ce_fc (P := P_Jx4a65c_isEmpty_aae02) (ok_li (ok_getf (ci := 3) (k := 2) (C := RJx4a65c) (T := TJx4a65c) (N := 3) dJx4a65c_isEmpty_aae02_1 rfl ce_uJx4a65c (by decide) gw_1508 (fun _ _ _ _ h => h))) (
  ce_fc (P := P_Jx4a65c_isEmpty_aae02) (ok_li (ok_if_ne dJx4a65c_isEmpty_aae02_4 (by decide))) (
  ce_fc (P := P_Jx4a65c_isEmpty_aae02) (ok_li (ok_iconst dJx4a65c_isEmpty_aae02_7)) (
  ce_fc (P := P_Jx4a65c_isEmpty_aae02) (ok_li (ok_goto dJx4a65c_isEmpty_aae02_8 (by decide))) (
  ce_fc (P := P_Jx4a65c_isEmpty_aae02) (ok_reti dJx4a65c_isEmpty_aae02_12 rfl) (
  ce_fn (P := P_Jx4a65c_isEmpty_aae02)))))))
noncomputable def ta_Jx4a65c_isEmpty_aae02 : Nat → Option ce_N := (ce_fd tb_Jx4a65c_isEmpty_aae02_0)
theorem tx_Jx4a65c_isEmpty_aae02 : ∀ pc f, ta_Jx4a65c_isEmpty_aae02 pc = some f → P_Jx4a65c_isEmpty_aae02 pc f := (ce_fd_ok (P := P_Jx4a65c_isEmpty_aae02) tk_Jx4a65c_isEmpty_aae02_0)
noncomputable def F_Jx4a65c_isEmpty_aae02 : ce_C := ce_M ta_Jx4a65c_isEmpty_aae02 1 0 0 1000000
theorem m_Jx4a65c_isEmpty_aae02 : ∀ l : Launch, l.stackTraces = false → ce_MS l yJx4a65c_isEmpty_aae02 (.code yJx4a65c_isEmpty_aae02 cJx4a65c_isEmpty_aae02 1 (some .boolean)) 0 0 0 F_Jx4a65c_isEmpty_aae02 := fun l hl => ce_met hl (by decide +kernel) tx_Jx4a65c_isEmpty_aae02
theorem hp_Jx4a65c_isEmpty_aae02 : yJx4a65c_isEmpty_aae02.cls ≠ "java/lang/invoke/MethodHandle" ∧ yJx4a65c_isEmpty_aae02.cls ≠ "java/lang/invoke/VarHandle" ∧ (parseMethodDescriptor yJx4a65c_isEmpty_aae02.desc).map (fun d => d.parameters.length) = some 0 := by decide +kernel
abbrev P_Jx4a65c_size_8abf5 : Nat → ce_N → Prop := ce_OKN "java/util/ArrayList" "size" cJx4a65c_size_8abf5 1 (some .int) 0 (some [])
noncomputable def tb_Jx4a65c_size_8abf5_0 : List (Nat × ce_N) := [(0, ce_li (ce_aload 0 1)),
  (1, ce_li (ce_getf 3 2 4)),
  (4, ce_reti .int)]
theorem tk_Jx4a65c_size_8abf5_0 : ∀ x ∈ tb_Jx4a65c_size_8abf5_0, P_Jx4a65c_size_8abf5 x.1 x.2 :=
  ce_fc (P := P_Jx4a65c_size_8abf5) (ok_li (ok_aload_n dJx4a65c_size_8abf5_0 rfl)) (
  ce_fc (P := P_Jx4a65c_size_8abf5) (ok_li (ok_getf (ci := 3) (k := 2) (C := RJx4a65c) (T := TJx4a65c) (N := 3) dJx4a65c_size_8abf5_1 rfl ce_uJx4a65c (by decide) gw_1508 (fun _ _ _ _ h => h))) (
  ce_fc (P := P_Jx4a65c_size_8abf5) (ok_reti dJx4a65c_size_8abf5_4 rfl) (
  ce_fn (P := P_Jx4a65c_size_8abf5))))
noncomputable def ta_Jx4a65c_size_8abf5 : Nat → Option ce_N := (ce_fd tb_Jx4a65c_size_8abf5_0)
theorem tx_Jx4a65c_size_8abf5 : ∀ pc f, ta_Jx4a65c_size_8abf5 pc = some f → P_Jx4a65c_size_8abf5 pc f := (ce_fd_ok (P := P_Jx4a65c_size_8abf5) tk_Jx4a65c_size_8abf5_0)
noncomputable def F_Jx4a65c_size_8abf5 : ce_C := ce_M ta_Jx4a65c_size_8abf5 1 0 0 1000000
theorem m_Jx4a65c_size_8abf5 : ∀ l : Launch, l.stackTraces = false → ce_MS l yJx4a65c_size_8abf5 (.code yJx4a65c_size_8abf5 cJx4a65c_size_8abf5 1 (some .int)) 0 0 0 F_Jx4a65c_size_8abf5 := fun l hl => ce_met hl (by decide +kernel) tx_Jx4a65c_size_8abf5
theorem hp_Jx4a65c_size_8abf5 : yJx4a65c_size_8abf5.cls ≠ "java/lang/invoke/MethodHandle" ∧ yJx4a65c_size_8abf5.cls ≠ "java/lang/invoke/VarHandle" ∧ (parseMethodDescriptor yJx4a65c_size_8abf5.desc).map (fun d => d.parameters.length) = some 0 := by decide +kernel
abbrev P_Jxa1e45_init_da8c8 : Nat → ce_N → Prop := ce_OKN "java/util/AbstractCollection" "<init>" cJxa1e45_init_da8c8 1 none 0 (some [])
noncomputable def tb_Jxa1e45_init_da8c8_0 : List (Nat × ce_N) := [(0, ce_li (ce_aload 0 1)),
  (1, ce_li (ce_oi 4)),
  (4, ce_ret0)]
theorem tk_Jxa1e45_init_da8c8_0 : ∀ x ∈ tb_Jxa1e45_init_da8c8_0, P_Jxa1e45_init_da8c8 x.1 x.2 :=
  ce_fc (P := P_Jxa1e45_init_da8c8) (ok_li (ok_aload_n dJxa1e45_init_da8c8_0 rfl)) (
  ce_fc (P := P_Jxa1e45_init_da8c8) (ok_li (ok_oi dJxa1e45_init_da8c8_1 gw_1502 gw_57 gw_58)) (
  ce_fc (P := P_Jxa1e45_init_da8c8) (ok_ret0 dJxa1e45_init_da8c8_4 rfl) (
  ce_fn (P := P_Jxa1e45_init_da8c8))))
noncomputable def ta_Jxa1e45_init_da8c8 : Nat → Option ce_N := (ce_fd tb_Jxa1e45_init_da8c8_0)
theorem tx_Jxa1e45_init_da8c8 : ∀ pc f, ta_Jxa1e45_init_da8c8 pc = some f → P_Jxa1e45_init_da8c8 pc f := (ce_fd_ok (P := P_Jxa1e45_init_da8c8) tk_Jxa1e45_init_da8c8_0)
noncomputable def F_Jxa1e45_init_da8c8 : ce_C := ce_M ta_Jxa1e45_init_da8c8 1 0 0 1000000
theorem m_Jxa1e45_init_da8c8 : ∀ l : Launch, l.stackTraces = false → ce_MS l yJxa1e45_init_da8c8 (.code yJxa1e45_init_da8c8 cJxa1e45_init_da8c8 1 none) 0 0 0 F_Jxa1e45_init_da8c8 := fun l hl => ce_met hl (by decide +kernel) tx_Jxa1e45_init_da8c8
theorem hp_Jxa1e45_init_da8c8 : yJxa1e45_init_da8c8.cls ≠ "java/lang/invoke/MethodHandle" ∧ yJxa1e45_init_da8c8.cls ≠ "java/lang/invoke/VarHandle" ∧ (parseMethodDescriptor yJxa1e45_init_da8c8.desc).map (fun d => d.parameters.length) = some 0 := by decide +kernel
abbrev P_X0_become : Nat → ce_N → Prop := ce_OKN "Carcasswright$Board" "become" cX0_become 5 none 0 (some [])
noncomputable def tb_X0_become_0 : List (Nat × ce_N) := [(0, ce_li (ce_aload 0 1)),
  (1, ce_li (ce_iload 1 2)),
  (2, ce_li (ce_putf (tyX0 0) 4 0 5)),
  (5, ce_li (ce_aload 0 6)),
  (6, ce_li (ce_iload 2 7)),
  (7, ce_li (ce_putf (tyX0 1) 4 1 10)),
  (10, ce_li (ce_aload 0 11)),
  (11, ce_li (ce_iload 3 12)),
  (12, ce_li (ce_putf (tyX0 2) 4 2 15)),
  (15, ce_li (ce_aload 0 16)),
  (16, ce_li (ce_iload 4 18)),
  (18, ce_li (ce_putf (tyX0 3) 4 3 21)),
  (21, ce_ret0)]
theorem tk_X0_become_0 : ∀ x ∈ tb_X0_become_0, P_X0_become x.1 x.2 :=
  ce_fc (P := P_X0_become) (ok_li (ok_aload_n dX0_become_0 rfl)) (
  ce_fc (P := P_X0_become) (ok_li (ok_iload_n dX0_become_1 rfl)) (
  ce_fc (P := P_X0_become) (ok_li (ok_putf (ci := 4) (k := 0) (C := RX0) (T := TX0) (N := 7) (ty0 := tyX0) dX0_become_2 rfl ce_uX0 (by decide) gw_297 (fun _ _ _ _ h => h) tyX0_ok nmX0 (Or.inl rfl))) (
  ce_fc (P := P_X0_become) (ok_li (ok_aload_n dX0_become_5 rfl)) (
  ce_fc (P := P_X0_become) (ok_li (ok_iload_n dX0_become_6 rfl)) (
  ce_fc (P := P_X0_become) (ok_li (ok_putf (ci := 4) (k := 1) (C := RX0) (T := TX0) (N := 7) (ty0 := tyX0) dX0_become_7 rfl ce_uX0 (by decide) gw_300 (fun _ _ _ _ h => h) tyX0_ok nmX0 (Or.inl rfl))) (
  ce_fc (P := P_X0_become) (ok_li (ok_aload_n dX0_become_10 rfl)) (
  ce_fc (P := P_X0_become) (ok_li (ok_iload_n dX0_become_11 rfl)) (
  ce_fc (P := P_X0_become) (ok_li (ok_putf (ci := 4) (k := 2) (C := RX0) (T := TX0) (N := 7) (ty0 := tyX0) dX0_become_12 rfl ce_uX0 (by decide) gw_303 (fun _ _ _ _ h => h) tyX0_ok nmX0 (Or.inl rfl))) (
  ce_fc (P := P_X0_become) (ok_li (ok_aload_n dX0_become_15 rfl)) (
  ce_fc (P := P_X0_become) (ok_li (ok_iload dX0_become_16)) (
  ce_fc (P := P_X0_become) (ok_li (ok_putf (ci := 4) (k := 3) (C := RX0) (T := TX0) (N := 7) (ty0 := tyX0) dX0_become_18 rfl ce_uX0 (by decide) gw_307 (fun _ _ _ _ h => h) tyX0_ok nmX0 (Or.inl rfl))) (
  ce_fc (P := P_X0_become) (ok_ret0 dX0_become_21 rfl) (
  ce_fn (P := P_X0_become))))))))))))))
noncomputable def ta_X0_become : Nat → Option ce_N := (ce_fd tb_X0_become_0)
theorem tx_X0_become : ∀ pc f, ta_X0_become pc = some f → P_X0_become pc f := (ce_fd_ok (P := P_X0_become) tk_X0_become_0)
noncomputable def F_X0_become : ce_C := ce_M ta_X0_become 5 0 0 1000000
theorem m_X0_become : ∀ l : Launch, l.stackTraces = false → ce_MS l yX0_become (.code yX0_become cX0_become 5 none) 0 0 0 F_X0_become := fun l hl => ce_met hl (by decide +kernel) tx_X0_become
theorem hp_X0_become : yX0_become.cls ≠ "java/lang/invoke/MethodHandle" ∧ yX0_become.cls ≠ "java/lang/invoke/VarHandle" ∧ (parseMethodDescriptor yX0_become.desc).map (fun d => d.parameters.length) = some 4 := by decide +kernel
abbrev P_X0_init : Nat → ce_N → Prop := ce_OKN "Carcasswright$Board" "<init>" cX0_init 1 none 0 (some [])
noncomputable def tb_X0_init_0 : List (Nat × ce_N) := [(0, ce_li (ce_aload 0 1)),
  (1, ce_li (ce_oi 4)),
  (4, ce_ret0)]
theorem tk_X0_init_0 : ∀ x ∈ tb_X0_init_0, P_X0_init x.1 x.2 :=
  ce_fc (P := P_X0_init) (ok_li (ok_aload_n dX0_init_0 rfl)) (
  ce_fc (P := P_X0_init) (ok_li (ok_oi dX0_init_1 gw_296 gw_57 gw_58)) (
  ce_fc (P := P_X0_init) (ok_ret0 dX0_init_4 rfl) (
  ce_fn (P := P_X0_init))))
noncomputable def ta_X0_init : Nat → Option ce_N := (ce_fd tb_X0_init_0)
theorem tx_X0_init : ∀ pc f, ta_X0_init pc = some f → P_X0_init pc f := (ce_fd_ok (P := P_X0_init) tk_X0_init_0)
noncomputable def F_X0_init : ce_C := ce_M ta_X0_init 1 0 0 1000000
theorem m_X0_init : ∀ l : Launch, l.stackTraces = false → ce_MS l yX0_init (.code yX0_init cX0_init 1 none) 0 0 0 F_X0_init := fun l hl => ce_met hl (by decide +kernel) tx_X0_init
theorem hp_X0_init : yX0_init.cls ≠ "java/lang/invoke/MethodHandle" ∧ yX0_init.cls ≠ "java/lang/invoke/VarHandle" ∧ (parseMethodDescriptor yX0_init.desc).map (fun d => d.parameters.length) = some 0 := by decide +kernel
abbrev P_X10_init : Nat → ce_N → Prop := ce_OKN "Carcasswright$Wall" "<init>" cX10_init 1 none 0 (some [])
noncomputable def tb_X10_init_0 : List (Nat × ce_N) := [(0, ce_li (ce_aload 0 1)),
  (1, ce_li (ce_oi 4)),
  (4, ce_li (ce_aload 0 5)),
  (5, ce_li (ce_push (.inl (.inl (101))) 7)),
  (7, ce_li (ce_putf (tyX10 0) 14 0 10)),
  (10, ce_ret0)]
theorem tk_X10_init_0 : ∀ x ∈ tb_X10_init_0, P_X10_init x.1 x.2 :=
  ce_fc (P := P_X10_init) (ok_li (ok_aload_n dX10_init_0 rfl)) (
  ce_fc (P := P_X10_init) (ok_li (ok_oi dX10_init_1 gw_169 gw_57 gw_58)) (
  ce_fc (P := P_X10_init) (ok_li (ok_aload_n dX10_init_4 rfl)) (
  ce_fc (P := P_X10_init) (ok_li (ok_bipush dX10_init_5 (by decide))) (
  ce_fc (P := P_X10_init) (ok_li (ok_putf (ci := 14) (k := 0) (C := RX10) (T := TX10) (N := 6) (ty0 := tyX10) dX10_init_7 rfl ce_uX10 (by decide) gw_170 (fun _ _ _ _ h => h) tyX10_ok nmX10 (Or.inl rfl))) (
  ce_fc (P := P_X10_init) (ok_ret0 dX10_init_10 rfl) (
  ce_fn (P := P_X10_init)))))))
noncomputable def ta_X10_init : Nat → Option ce_N := (ce_fd tb_X10_init_0)
theorem tx_X10_init : ∀ pc f, ta_X10_init pc = some f → P_X10_init pc f := (ce_fd_ok (P := P_X10_init) tk_X10_init_0)
noncomputable def F_X10_init : ce_C := ce_M ta_X10_init 1 0 0 1000000
theorem m_X10_init : ∀ l : Launch, l.stackTraces = false → ce_MS l yX10_init (.code yX10_init cX10_init 1 none) 0 0 0 F_X10_init := fun l hl => ce_met hl (by decide +kernel) tx_X10_init
theorem hp_X10_init : yX10_init.cls ≠ "java/lang/invoke/MethodHandle" ∧ yX10_init.cls ≠ "java/lang/invoke/VarHandle" ∧ (parseMethodDescriptor yX10_init.desc).map (fun d => d.parameters.length) = some 0 := by decide +kernel
abbrev P_X11_boards : Nat → ce_N → Prop := ce_OKN "Carcasswright" "boards" cX11_boards 1 (some .int) 0 (some [])
noncomputable def tb_X11_boards_0 : List (Nat × ce_N) := [(0, ce_li (ce_aload 0 1)),
  (1, ce_li (ce_getf 15 2 4)),
  (4, ce_li (ce_getf 12 1 7)),
  (7, ce_reti .int)]
theorem tk_X11_boards_0 : ∀ x ∈ tb_X11_boards_0, P_X11_boards x.1 x.2 :=
  ce_fc (P := P_X11_boards) (ok_li (ok_aload_n dX11_boards_0 rfl)) (
  ce_fc (P := P_X11_boards) (ok_li (ok_getf (ci := 15) (k := 2) (C := RX11) (T := TX11) (N := 7) dX11_boards_1 rfl ce_uX11 (by decide) gw_456 (fun _ _ _ _ h => h))) (
  ce_fc (P := P_X11_boards) (ok_li (ok_getf (ci := 12) (k := 1) (C := RX8) (T := TX8) (N := 5) dX11_boards_4 rfl ce_uX8 (by decide) gw_334 (fun _ _ _ _ h => h))) (
  ce_fc (P := P_X11_boards) (ok_reti dX11_boards_7 rfl) (
  ce_fn (P := P_X11_boards)))))
noncomputable def ta_X11_boards : Nat → Option ce_N := (ce_fd tb_X11_boards_0)
theorem tx_X11_boards : ∀ pc f, ta_X11_boards pc = some f → P_X11_boards pc f := (ce_fd_ok (P := P_X11_boards) tk_X11_boards_0)
noncomputable def F_X11_boards : ce_C := ce_M ta_X11_boards 1 0 0 1000000
theorem m_X11_boards : ∀ l : Launch, l.stackTraces = false → ce_MS l yX11_boards (.code yX11_boards cX11_boards 1 (some .int)) 0 0 0 F_X11_boards := fun l hl => ce_met hl (by decide +kernel) tx_X11_boards
theorem hp_X11_boards : yX11_boards.cls ≠ "java/lang/invoke/MethodHandle" ∧ yX11_boards.cls ≠ "java/lang/invoke/VarHandle" ∧ (parseMethodDescriptor yX11_boards.desc).map (fun d => d.parameters.length) = some 0 := by decide +kernel
abbrev P_X11_clash : Nat → ce_N → Prop := ce_OKN "Carcasswright" "clash" cX11_clash 2 (some .char) 0 (some [])
noncomputable def tb_X11_clash_0 : List (Nat × ce_N) := [(0, ce_li (ce_iload 1 1)),
  (1, ce_li (ce_if false false false 20 4)),
  (4, ce_li (ce_iload 1 5)),
  (5, ce_li (ce_aload 0 6)),
  (6, ce_li (ce_getf 15 1 9)),
  (9, ce_li (ce_getf 10 9 12)),
  (12, ce_li (ce_icmp false false true 20 15)),
  (20, ce_thr 2)]
theorem tk_X11_clash_0 : ∀ x ∈ tb_X11_clash_0, P_X11_clash x.1 x.2 :=
  ce_fc (P := P_X11_clash) (ok_li (ok_iload_n dX11_clash_0 rfl)) (
  ce_fc (P := P_X11_clash) (ok_li (ok_if_lt dX11_clash_1 (by decide))) (
  ce_fc (P := P_X11_clash) (ok_li (ok_iload_n dX11_clash_4 rfl)) (
  ce_fc (P := P_X11_clash) (ok_li (ok_aload_n dX11_clash_5 rfl)) (
  ce_fc (P := P_X11_clash) (ok_li (ok_getf (ci := 15) (k := 1) (C := RX11) (T := TX11) (N := 7) dX11_clash_6 rfl ce_uX11 (by decide) gw_455 (fun _ _ _ _ h => h))) (
  ce_fc (P := P_X11_clash) (ok_li (ok_getf (ci := 10) (k := 9) (C := RX6) (T := TX6) (N := 10) dX11_clash_9 rfl ce_uX6 (by decide) gw_262 (fun _ _ _ _ h => h))) (
  ce_fc (P := P_X11_clash) (ok_li (ok_icmp_ge dX11_clash_12 (by decide))) (
  ce_fc (P := P_X11_clash) (ok_thr (k := 2) (names := ["java/lang/RuntimeException", "java/lang/Exception"]) dX11_clash_20 dX11_clash_23 dX11_clash_24 dX11_clash_27 rfl (by decide +kernel) (by decide +kernel) (by decide) gw_912 gw_35 (th_2 gw_921) (by decide +kernel) (by decide +kernel)) (
  ce_fn (P := P_X11_clash)))))))))
noncomputable def ta_X11_clash : Nat → Option ce_N := (ce_fd tb_X11_clash_0)
theorem tx_X11_clash : ∀ pc f, ta_X11_clash pc = some f → P_X11_clash pc f := (ce_fd_ok (P := P_X11_clash) tk_X11_clash_0)
noncomputable def F_X11_clash : ce_C := ce_M ta_X11_clash 2 1 6 1000000
theorem m_X11_clash : ∀ l : Launch, l.stackTraces = false → ce_MS l yX11_clash (.code yX11_clash cX11_clash 2 (some .char)) 0 1 6 F_X11_clash := fun l hl => ce_met hl (by decide +kernel) tx_X11_clash
theorem hp_X11_clash : yX11_clash.cls ≠ "java/lang/invoke/MethodHandle" ∧ yX11_clash.cls ≠ "java/lang/invoke/VarHandle" ∧ (parseMethodDescriptor yX11_clash.desc).map (fun d => d.parameters.length) = some 1 := by decide +kernel
abbrev P_X11_clashNumber : Nat → ce_N → Prop := ce_OKN "Carcasswright" "clashNumber" cX11_clashNumber 2 (some .int) 0 (some [])
noncomputable def tb_X11_clashNumber_0 : List (Nat × ce_N) := [(0, ce_li (ce_iload 1 1)),
  (1, ce_li (ce_if false false false 20 4)),
  (4, ce_li (ce_iload 1 5)),
  (5, ce_li (ce_aload 0 6)),
  (6, ce_li (ce_getf 15 1 9)),
  (9, ce_li (ce_getf 10 9 12)),
  (12, ce_li (ce_icmp false false true 20 15)),
  (20, ce_thr 2)]
theorem tk_X11_clashNumber_0 : ∀ x ∈ tb_X11_clashNumber_0, P_X11_clashNumber x.1 x.2 :=
  ce_fc (P := P_X11_clashNumber) (ok_li (ok_iload_n dX11_clashNumber_0 rfl)) (
  ce_fc (P := P_X11_clashNumber) (ok_li (ok_if_lt dX11_clashNumber_1 (by decide))) (
  ce_fc (P := P_X11_clashNumber) (ok_li (ok_iload_n dX11_clashNumber_4 rfl)) (
  ce_fc (P := P_X11_clashNumber) (ok_li (ok_aload_n dX11_clashNumber_5 rfl)) (
  ce_fc (P := P_X11_clashNumber) (ok_li (ok_getf (ci := 15) (k := 1) (C := RX11) (T := TX11) (N := 7) dX11_clashNumber_6 rfl ce_uX11 (by decide) gw_455 (fun _ _ _ _ h => h))) (
  ce_fc (P := P_X11_clashNumber) (ok_li (ok_getf (ci := 10) (k := 9) (C := RX6) (T := TX6) (N := 10) dX11_clashNumber_9 rfl ce_uX6 (by decide) gw_262 (fun _ _ _ _ h => h))) (
  ce_fc (P := P_X11_clashNumber) (ok_li (ok_icmp_ge dX11_clashNumber_12 (by decide))) (
  ce_fc (P := P_X11_clashNumber) (ok_thr (k := 2) (names := ["java/lang/RuntimeException", "java/lang/Exception"]) dX11_clashNumber_20 dX11_clashNumber_23 dX11_clashNumber_24 dX11_clashNumber_27 rfl (by decide +kernel) (by decide +kernel) (by decide) gw_912 gw_35 (th_2 gw_921) (by decide +kernel) (by decide +kernel)) (
  ce_fn (P := P_X11_clashNumber)))))))))
noncomputable def ta_X11_clashNumber : Nat → Option ce_N := (ce_fd tb_X11_clashNumber_0)
theorem tx_X11_clashNumber : ∀ pc f, ta_X11_clashNumber pc = some f → P_X11_clashNumber pc f := (ce_fd_ok (P := P_X11_clashNumber) tk_X11_clashNumber_0)
noncomputable def F_X11_clashNumber : ce_C := ce_M ta_X11_clashNumber 2 1 6 1000000
theorem m_X11_clashNumber : ∀ l : Launch, l.stackTraces = false → ce_MS l yX11_clashNumber (.code yX11_clashNumber cX11_clashNumber 2 (some .int)) 0 1 6 F_X11_clashNumber := fun l hl => ce_met hl (by decide +kernel) tx_X11_clashNumber
theorem hp_X11_clashNumber : yX11_clashNumber.cls ≠ "java/lang/invoke/MethodHandle" ∧ yX11_clashNumber.cls ≠ "java/lang/invoke/VarHandle" ∧ (parseMethodDescriptor yX11_clashNumber.desc).map (fun d => d.parameters.length) = some 1 := by decide +kernel
abbrev P_X11_close : Nat → ce_N → Prop := ce_OKN "Carcasswright" "close" cX11_close 2 (some .int) 0 (some [])
noncomputable def tb_X11_close_0 : List (Nat × ce_N) := [(0, ce_li (ce_aload 0 1)),
  (1, ce_li (ce_getf 15 1 4)),
  (4, ce_li (ce_getf 10 6 7)),
  (7, ce_li (ce_push (.inl (.inl (4))) 8)),
  (8, ce_li (ce_icmp false false false 31 11)),
  (31, ce_thr 3)]
theorem tk_X11_close_0 : ∀ x ∈ tb_X11_close_0, P_X11_close x.1 x.2 :=
  ce_fc (P := P_X11_close) (ok_li (ok_aload_n dX11_close_0 rfl)) (
  ce_fc (P := P_X11_close) (ok_li (ok_getf (ci := 15) (k := 1) (C := RX11) (T := TX11) (N := 7) dX11_close_1 rfl ce_uX11 (by decide) gw_455 (fun _ _ _ _ h => h))) (
  ce_fc (P := P_X11_close) (ok_li (ok_getf (ci := 10) (k := 6) (C := RX6) (T := TX6) (N := 10) dX11_close_4 rfl ce_uX6 (by decide) gw_256 (fun _ _ _ _ h => h))) (
  ce_fc (P := P_X11_close) (ok_li (ok_iconst dX11_close_7)) (
  ce_fc (P := P_X11_close) (ok_li (ok_icmp_lt dX11_close_8 (by decide))) (
  ce_fc (P := P_X11_close) (ok_thr (k := 3) (names := ["java/lang/RuntimeException", "java/lang/Exception"]) dX11_close_31 dX11_close_34 dX11_close_35 dX11_close_38 rfl (by decide +kernel) (by decide +kernel) (by decide) gw_775 gw_33 (th_3 gw_784) (by decide +kernel) (by decide +kernel)) (
  ce_fn (P := P_X11_close)))))))
noncomputable def ta_X11_close : Nat → Option ce_N := (ce_fd tb_X11_close_0)
theorem tx_X11_close : ∀ pc f, ta_X11_close pc = some f → P_X11_close pc f := (ce_fd_ok (P := P_X11_close) tk_X11_close_0)
noncomputable def F_X11_close : ce_C := ce_M ta_X11_close 2 1 6 1000000
theorem m_X11_close : ∀ l : Launch, l.stackTraces = false → ce_MS l yX11_close (.code yX11_close cX11_close 2 (some .int)) 0 1 6 F_X11_close := fun l hl => ce_met hl (by decide +kernel) tx_X11_close
theorem hp_X11_close : yX11_close.cls ≠ "java/lang/invoke/MethodHandle" ∧ yX11_close.cls ≠ "java/lang/invoke/VarHandle" ∧ (parseMethodDescriptor yX11_close.desc).map (fun d => d.parameters.length) = some 0 := by decide +kernel
abbrev P_X11_cutShare : Nat → ce_N → Prop := ce_OKN "Carcasswright" "cutShare" cX11_cutShare 5 (some .float) 0 (some [])
noncomputable def tb_X11_cutShare_0 : List (Nat × ce_N) := [(0, ce_li (ce_push (.inl (.inl (0))) 1)),
  (1, ce_li (ce_istore 1 2 5)),
  (2, ce_li (ce_push (.inl (.inl (0))) 3)),
  (3, ce_li (ce_istore 2 4 5)),
  (4, ce_li (ce_push (.inl (.inl (0))) 5)),
  (5, ce_li (ce_istore 3 6 5)),
  (6, ce_li (ce_iload 3 7)),
  (7, ce_li (ce_aload 0 8)),
  (8, ce_li (ce_getf 15 1 11)),
  (11, ce_li (ce_getf 10 8 14)),
  (14, ce_li (ce_icmp false false true 55 17)),
  (55, ce_li (ce_iload 1 56)),
  (56, ce_li (ce_if true false true 67 59)),
  (59, ce_thr 2)]
theorem tk_X11_cutShare_0 : ∀ x ∈ tb_X11_cutShare_0, P_X11_cutShare x.1 x.2 :=
  ce_fc (P := P_X11_cutShare) (ok_li (ok_iconst dX11_cutShare_0)) (
  ce_fc (P := P_X11_cutShare) (ok_li (ok_istore_n dX11_cutShare_1 rfl)) (
  ce_fc (P := P_X11_cutShare) (ok_li (ok_iconst dX11_cutShare_2)) (
  ce_fc (P := P_X11_cutShare) (ok_li (ok_istore_n dX11_cutShare_3 rfl)) (
  ce_fc (P := P_X11_cutShare) (ok_li (ok_iconst dX11_cutShare_4)) (
  ce_fc (P := P_X11_cutShare) (ok_li (ok_istore_n dX11_cutShare_5 rfl)) (
  ce_fc (P := P_X11_cutShare) (ok_li (ok_iload_n dX11_cutShare_6 rfl)) (
  ce_fc (P := P_X11_cutShare) (ok_li (ok_aload_n dX11_cutShare_7 rfl)) (
  ce_fc (P := P_X11_cutShare) (ok_li (ok_getf (ci := 15) (k := 1) (C := RX11) (T := TX11) (N := 7) dX11_cutShare_8 rfl ce_uX11 (by decide) gw_455 (fun _ _ _ _ h => h))) (
  ce_fc (P := P_X11_cutShare) (ok_li (ok_getf (ci := 10) (k := 8) (C := RX6) (T := TX6) (N := 10) dX11_cutShare_11 rfl ce_uX6 (by decide) gw_259 (fun _ _ _ _ h => h))) (
  ce_fc (P := P_X11_cutShare) (ok_li (ok_icmp_ge dX11_cutShare_14 (by decide))) (
  ce_fc (P := P_X11_cutShare) (ok_li (ok_iload_n dX11_cutShare_55 rfl)) (
  ce_fc (P := P_X11_cutShare) (ok_li (ok_if_ne dX11_cutShare_56 (by decide))) (
  ce_fc (P := P_X11_cutShare) (ok_thr (k := 2) (names := ["java/lang/RuntimeException", "java/lang/Exception"]) dX11_cutShare_59 dX11_cutShare_62 dX11_cutShare_63 dX11_cutShare_66 rfl (by decide +kernel) (by decide +kernel) (by decide) gw_912 gw_35 (th_2 gw_921) (by decide +kernel) (by decide +kernel)) (
  ce_fn (P := P_X11_cutShare)))))))))))))))
noncomputable def ta_X11_cutShare : Nat → Option ce_N := (ce_fd tb_X11_cutShare_0)
theorem tx_X11_cutShare : ∀ pc f, ta_X11_cutShare pc = some f → P_X11_cutShare pc f := (ce_fd_ok (P := P_X11_cutShare) tk_X11_cutShare_0)
noncomputable def F_X11_cutShare : ce_C := ce_M ta_X11_cutShare 5 1 6 1000000
theorem m_X11_cutShare : ∀ l : Launch, l.stackTraces = false → ce_MS l yX11_cutShare (.code yX11_cutShare cX11_cutShare 5 (some .float)) 0 1 6 F_X11_cutShare := fun l hl => ce_met hl (by decide +kernel) tx_X11_cutShare
theorem hp_X11_cutShare : yX11_cutShare.cls ≠ "java/lang/invoke/MethodHandle" ∧ yX11_cutShare.cls ≠ "java/lang/invoke/VarHandle" ∧ (parseMethodDescriptor yX11_cutShare.desc).map (fun d => d.parameters.length) = some 0 := by decide +kernel
abbrev P_X11_isClosedRoom : Nat → ce_N → Prop := ce_OKN "Carcasswright" "isClosedRoom" cX11_isClosedRoom 1 (some .boolean) 0 (some [])
noncomputable def tb_X11_isClosedRoom_0 : List (Nat × ce_N) := [(0, ce_li (ce_aload 0 1)),
  (1, ce_li (ce_getf 15 1 4)),
  (4, ce_li (ce_getf 10 6 7)),
  (7, ce_li (ce_if false true true 42 10)),
  (42, ce_li (ce_push (.inl (.inl (0))) 43)),
  (43, ce_reti .boolean)]
theorem tk_X11_isClosedRoom_0 : ∀ x ∈ tb_X11_isClosedRoom_0, P_X11_isClosedRoom x.1 x.2 :=
  ce_fc (P := P_X11_isClosedRoom) (ok_li (ok_aload_n dX11_isClosedRoom_0 rfl)) (
  ce_fc (P := P_X11_isClosedRoom) (ok_li (ok_getf (ci := 15) (k := 1) (C := RX11) (T := TX11) (N := 7) dX11_isClosedRoom_1 rfl ce_uX11 (by decide) gw_455 (fun _ _ _ _ h => h))) (
  ce_fc (P := P_X11_isClosedRoom) (ok_li (ok_getf (ci := 10) (k := 6) (C := RX6) (T := TX6) (N := 10) dX11_isClosedRoom_4 rfl ce_uX6 (by decide) gw_256 (fun _ _ _ _ h => h))) (
  ce_fc (P := P_X11_isClosedRoom) (ok_li (ok_if_le dX11_isClosedRoom_7 (by decide))) (
  ce_fc (P := P_X11_isClosedRoom) (ok_li (ok_iconst dX11_isClosedRoom_42)) (
  ce_fc (P := P_X11_isClosedRoom) (ok_reti dX11_isClosedRoom_43 rfl) (
  ce_fn (P := P_X11_isClosedRoom)))))))
noncomputable def ta_X11_isClosedRoom : Nat → Option ce_N := (ce_fd tb_X11_isClosedRoom_0)
theorem tx_X11_isClosedRoom : ∀ pc f, ta_X11_isClosedRoom pc = some f → P_X11_isClosedRoom pc f := (ce_fd_ok (P := P_X11_isClosedRoom) tk_X11_isClosedRoom_0)
noncomputable def F_X11_isClosedRoom : ce_C := ce_M ta_X11_isClosedRoom 1 0 0 1000000
theorem m_X11_isClosedRoom : ∀ l : Launch, l.stackTraces = false → ce_MS l yX11_isClosedRoom (.code yX11_isClosedRoom cX11_isClosedRoom 1 (some .boolean)) 0 0 0 F_X11_isClosedRoom := fun l hl => ce_met hl (by decide +kernel) tx_X11_isClosedRoom
theorem hp_X11_isClosedRoom : yX11_isClosedRoom.cls ≠ "java/lang/invoke/MethodHandle" ∧ yX11_isClosedRoom.cls ≠ "java/lang/invoke/VarHandle" ∧ (parseMethodDescriptor yX11_isClosedRoom.desc).map (fun d => d.parameters.length) = some 0 := by decide +kernel
abbrev P_X11_isNoColour : Nat → ce_N → Prop := ce_OKN "Carcasswright" "isNoColour" cX11_isNoColour 1 (some .boolean) 0 (some [])
noncomputable def tb_X11_isNoColour_0 : List (Nat × ce_N) := [(0, ce_li (ce_iload 0 1)),
  (1, ce_li (ce_if false false false 9 4)),
  (4, ce_li (ce_iload 0 5)),
  (5, ce_li (ce_push (.inl (.inl (3))) 6)),
  (6, ce_li (ce_icmp false false false 13 9)),
  (9, ce_li (ce_push (.inl (.inl (1))) 10)),
  (10, ce_li (ce_goto 14)),
  (13, ce_li (ce_push (.inl (.inl (0))) 14)),
  (14, ce_reti .boolean)]
theorem tk_X11_isNoColour_0 : ∀ x ∈ tb_X11_isNoColour_0, P_X11_isNoColour x.1 x.2 :=
  ce_fc (P := P_X11_isNoColour) (ok_li (ok_iload_n dX11_isNoColour_0 rfl)) (
  ce_fc (P := P_X11_isNoColour) (ok_li (ok_if_lt dX11_isNoColour_1 (by decide))) (
  ce_fc (P := P_X11_isNoColour) (ok_li (ok_iload_n dX11_isNoColour_4 rfl)) (
  ce_fc (P := P_X11_isNoColour) (ok_li (ok_iconst dX11_isNoColour_5)) (
  ce_fc (P := P_X11_isNoColour) (ok_li (ok_icmp_lt dX11_isNoColour_6 (by decide))) (
  ce_fc (P := P_X11_isNoColour) (ok_li (ok_iconst dX11_isNoColour_9)) (
  ce_fc (P := P_X11_isNoColour) (ok_li (ok_goto dX11_isNoColour_10 (by decide))) (
  ce_fc (P := P_X11_isNoColour) (ok_li (ok_iconst dX11_isNoColour_13)) (
  ce_fc (P := P_X11_isNoColour) (ok_reti dX11_isNoColour_14 rfl) (
  ce_fn (P := P_X11_isNoColour))))))))))
noncomputable def ta_X11_isNoColour : Nat → Option ce_N := (ce_fd tb_X11_isNoColour_0)
theorem tx_X11_isNoColour : ∀ pc f, ta_X11_isNoColour pc = some f → P_X11_isNoColour pc f := (ce_fd_ok (P := P_X11_isNoColour) tk_X11_isNoColour_0)
noncomputable def F_X11_isNoColour : ce_C := ce_M ta_X11_isNoColour 1 0 0 1000000
theorem m_X11_isNoColour : ∀ l : Launch, l.stackTraces = false → ce_MS l yX11_isNoColour (.code yX11_isNoColour cX11_isNoColour 1 (some .boolean)) 0 0 0 F_X11_isNoColour := fun l hl => ce_met hl (by decide +kernel) tx_X11_isNoColour
theorem hp_X11_isNoColour : yX11_isNoColour.cls ≠ "java/lang/invoke/MethodHandle" ∧ yX11_isNoColour.cls ≠ "java/lang/invoke/VarHandle" ∧ (parseMethodDescriptor yX11_isNoColour.desc).map (fun d => d.parameters.length) = some 1 := by decide +kernel
abbrev P_X11_isOutside : Nat → ce_N → Prop := ce_OKN "Carcasswright" "isOutside" cX11_isOutside 3 (some .boolean) 0 (some [])
noncomputable def tb_X11_isOutside_0 : List (Nat × ce_N) := [(0, ce_li (ce_iload 0 1)),
  (1, ce_li (ce_iload 1 2)),
  (2, ce_li (ce_icmp false false false 10 5)),
  (5, ce_li (ce_iload 0 6)),
  (6, ce_li (ce_iload 2 7)),
  (7, ce_li (ce_icmp false true true 14 10)),
  (10, ce_li (ce_push (.inl (.inl (1))) 11)),
  (11, ce_li (ce_goto 15)),
  (14, ce_li (ce_push (.inl (.inl (0))) 15)),
  (15, ce_reti .boolean)]
theorem tk_X11_isOutside_0 : ∀ x ∈ tb_X11_isOutside_0, P_X11_isOutside x.1 x.2 :=
  ce_fc (P := P_X11_isOutside) (ok_li (ok_iload_n dX11_isOutside_0 rfl)) (
  ce_fc (P := P_X11_isOutside) (ok_li (ok_iload_n dX11_isOutside_1 rfl)) (
  ce_fc (P := P_X11_isOutside) (ok_li (ok_icmp_lt dX11_isOutside_2 (by decide))) (
  ce_fc (P := P_X11_isOutside) (ok_li (ok_iload_n dX11_isOutside_5 rfl)) (
  ce_fc (P := P_X11_isOutside) (ok_li (ok_iload_n dX11_isOutside_6 rfl)) (
  ce_fc (P := P_X11_isOutside) (ok_li (ok_icmp_le dX11_isOutside_7 (by decide))) (
  ce_fc (P := P_X11_isOutside) (ok_li (ok_iconst dX11_isOutside_10)) (
  ce_fc (P := P_X11_isOutside) (ok_li (ok_goto dX11_isOutside_11 (by decide))) (
  ce_fc (P := P_X11_isOutside) (ok_li (ok_iconst dX11_isOutside_14)) (
  ce_fc (P := P_X11_isOutside) (ok_reti dX11_isOutside_15 rfl) (
  ce_fn (P := P_X11_isOutside)))))))))))
noncomputable def ta_X11_isOutside : Nat → Option ce_N := (ce_fd tb_X11_isOutside_0)
theorem tx_X11_isOutside : ∀ pc f, ta_X11_isOutside pc = some f → P_X11_isOutside pc f := (ce_fd_ok (P := P_X11_isOutside) tk_X11_isOutside_0)
noncomputable def F_X11_isOutside : ce_C := ce_M ta_X11_isOutside 3 0 0 1000000
theorem m_X11_isOutside : ∀ l : Launch, l.stackTraces = false → ce_MS l yX11_isOutside (.code yX11_isOutside cX11_isOutside 3 (some .boolean)) 0 0 0 F_X11_isOutside := fun l hl => ce_met hl (by decide +kernel) tx_X11_isOutside
theorem hp_X11_isOutside : yX11_isOutside.cls ≠ "java/lang/invoke/MethodHandle" ∧ yX11_isOutside.cls ≠ "java/lang/invoke/VarHandle" ∧ (parseMethodDescriptor yX11_isOutside.desc).map (fun d => d.parameters.length) = some 3 := by decide +kernel
abbrev P_X11_jobAt : Nat → ce_N → Prop := ce_OKN "Carcasswright" "jobAt" cX11_jobAt 2 (some .int) 0 (some [])
noncomputable def tb_X11_jobAt_0 : List (Nat × ce_N) := [(0, ce_li (ce_iload 1 1)),
  (1, ce_li (ce_if false false false 21 4)),
  (4, ce_li (ce_iload 1 5)),
  (5, ce_li (ce_aload 0 6)),
  (6, ce_li (ce_getf 15 5 9)),
  (9, ce_li (ce_getf 5 5 12)),
  (12, ce_li (ce_icmp false false true 21 15)),
  (21, ce_thr 1)]
theorem tk_X11_jobAt_0 : ∀ x ∈ tb_X11_jobAt_0, P_X11_jobAt x.1 x.2 :=
  ce_fc (P := P_X11_jobAt) (ok_li (ok_iload_n dX11_jobAt_0 rfl)) (
  ce_fc (P := P_X11_jobAt) (ok_li (ok_if_lt dX11_jobAt_1 (by decide))) (
  ce_fc (P := P_X11_jobAt) (ok_li (ok_iload_n dX11_jobAt_4 rfl)) (
  ce_fc (P := P_X11_jobAt) (ok_li (ok_aload_n dX11_jobAt_5 rfl)) (
  ce_fc (P := P_X11_jobAt) (ok_li (ok_getf (ci := 15) (k := 5) (C := RX11) (T := TX11) (N := 7) dX11_jobAt_6 rfl ce_uX11 (by decide) gw_459 (fun _ _ _ _ h => h))) (
  ce_fc (P := P_X11_jobAt) (ok_li (ok_getf (ci := 5) (k := 5) (C := RX1) (T := TX1) (N := 8) dX11_jobAt_9 rfl ce_uX1 (by decide) gw_432 (fun _ _ _ _ h => h))) (
  ce_fc (P := P_X11_jobAt) (ok_li (ok_icmp_ge dX11_jobAt_12 (by decide))) (
  ce_fc (P := P_X11_jobAt) (ok_thr (k := 1) (names := ["java/lang/RuntimeException", "java/lang/Exception"]) dX11_jobAt_21 dX11_jobAt_24 dX11_jobAt_25 dX11_jobAt_28 rfl (by decide +kernel) (by decide +kernel) (by decide) gw_1086 gw_22 (th_1 gw_1087) (by decide +kernel) (by decide +kernel)) (
  ce_fn (P := P_X11_jobAt)))))))))
noncomputable def ta_X11_jobAt : Nat → Option ce_N := (ce_fd tb_X11_jobAt_0)
theorem tx_X11_jobAt : ∀ pc f, ta_X11_jobAt pc = some f → P_X11_jobAt pc f := (ce_fd_ok (P := P_X11_jobAt) tk_X11_jobAt_0)
noncomputable def F_X11_jobAt : ce_C := ce_M ta_X11_jobAt 2 1 6 1000000
theorem m_X11_jobAt : ∀ l : Launch, l.stackTraces = false → ce_MS l yX11_jobAt (.code yX11_jobAt cX11_jobAt 2 (some .int)) 0 1 6 F_X11_jobAt := fun l hl => ce_met hl (by decide +kernel) tx_X11_jobAt
theorem hp_X11_jobAt : yX11_jobAt.cls ≠ "java/lang/invoke/MethodHandle" ∧ yX11_jobAt.cls ≠ "java/lang/invoke/VarHandle" ∧ (parseMethodDescriptor yX11_jobAt.desc).map (fun d => d.parameters.length) = some 1 := by decide +kernel
abbrev P_X11_meanWidth : Nat → ce_N → Prop := ce_OKN "Carcasswright" "meanWidth" cX11_meanWidth 3 (some .double) 0 (some [])
noncomputable def tb_X11_meanWidth_0 : List (Nat × ce_N) := [(0, ce_li (ce_push (.inl (.inl (0))) 1)),
  (1, ce_li (ce_istore 1 2 3)),
  (2, ce_li (ce_push (.inl (.inl (0))) 3)),
  (3, ce_li (ce_istore 2 4 3)),
  (4, ce_li (ce_iload 2 5)),
  (5, ce_li (ce_aload 0 6)),
  (6, ce_li (ce_getf 15 1 9)),
  (9, ce_li (ce_getf 10 8 12)),
  (12, ce_li (ce_icmp false false true 38 15)),
  (38, ce_li (ce_aload 0 39)),
  (39, ce_li (ce_getf 15 1 42)),
  (42, ce_li (ce_getf 10 8 45)),
  (45, ce_li (ce_if true false true 56 48)),
  (48, ce_thr 2)]
theorem tk_X11_meanWidth_0 : ∀ x ∈ tb_X11_meanWidth_0, P_X11_meanWidth x.1 x.2 :=
  ce_fc (P := P_X11_meanWidth) (ok_li (ok_iconst dX11_meanWidth_0)) (
  ce_fc (P := P_X11_meanWidth) (ok_li (ok_istore_n dX11_meanWidth_1 rfl)) (
  ce_fc (P := P_X11_meanWidth) (ok_li (ok_iconst dX11_meanWidth_2)) (
  ce_fc (P := P_X11_meanWidth) (ok_li (ok_istore_n dX11_meanWidth_3 rfl)) (
  ce_fc (P := P_X11_meanWidth) (ok_li (ok_iload_n dX11_meanWidth_4 rfl)) (
  ce_fc (P := P_X11_meanWidth) (ok_li (ok_aload_n dX11_meanWidth_5 rfl)) (
  ce_fc (P := P_X11_meanWidth) (ok_li (ok_getf (ci := 15) (k := 1) (C := RX11) (T := TX11) (N := 7) dX11_meanWidth_6 rfl ce_uX11 (by decide) gw_455 (fun _ _ _ _ h => h))) (
  ce_fc (P := P_X11_meanWidth) (ok_li (ok_getf (ci := 10) (k := 8) (C := RX6) (T := TX6) (N := 10) dX11_meanWidth_9 rfl ce_uX6 (by decide) gw_259 (fun _ _ _ _ h => h))) (
  ce_fc (P := P_X11_meanWidth) (ok_li (ok_icmp_ge dX11_meanWidth_12 (by decide))) (
  ce_fc (P := P_X11_meanWidth) (ok_li (ok_aload_n dX11_meanWidth_38 rfl)) (
  ce_fc (P := P_X11_meanWidth) (ok_li (ok_getf (ci := 15) (k := 1) (C := RX11) (T := TX11) (N := 7) dX11_meanWidth_39 rfl ce_uX11 (by decide) gw_455 (fun _ _ _ _ h => h))) (
  ce_fc (P := P_X11_meanWidth) (ok_li (ok_getf (ci := 10) (k := 8) (C := RX6) (T := TX6) (N := 10) dX11_meanWidth_42 rfl ce_uX6 (by decide) gw_259 (fun _ _ _ _ h => h))) (
  ce_fc (P := P_X11_meanWidth) (ok_li (ok_if_ne dX11_meanWidth_45 (by decide))) (
  ce_fc (P := P_X11_meanWidth) (ok_thr (k := 2) (names := ["java/lang/RuntimeException", "java/lang/Exception"]) dX11_meanWidth_48 dX11_meanWidth_51 dX11_meanWidth_52 dX11_meanWidth_55 rfl (by decide +kernel) (by decide +kernel) (by decide) gw_912 gw_35 (th_2 gw_921) (by decide +kernel) (by decide +kernel)) (
  ce_fn (P := P_X11_meanWidth)))))))))))))))
noncomputable def ta_X11_meanWidth : Nat → Option ce_N := (ce_fd tb_X11_meanWidth_0)
theorem tx_X11_meanWidth : ∀ pc f, ta_X11_meanWidth pc = some f → P_X11_meanWidth pc f := (ce_fd_ok (P := P_X11_meanWidth) tk_X11_meanWidth_0)
noncomputable def F_X11_meanWidth : ce_C := ce_M ta_X11_meanWidth 3 1 6 1000000
theorem m_X11_meanWidth : ∀ l : Launch, l.stackTraces = false → ce_MS l yX11_meanWidth (.code yX11_meanWidth cX11_meanWidth 3 (some .double)) 0 1 6 F_X11_meanWidth := fun l hl => ce_met hl (by decide +kernel) tx_X11_meanWidth
theorem hp_X11_meanWidth : yX11_meanWidth.cls ≠ "java/lang/invoke/MethodHandle" ∧ yX11_meanWidth.cls ≠ "java/lang/invoke/VarHandle" ∧ (parseMethodDescriptor yX11_meanWidth.desc).map (fun d => d.parameters.length) = some 0 := by decide +kernel
abbrev P_X11_modules : Nat → ce_N → Prop := ce_OKN "Carcasswright" "modules" cX11_modules 1 (some .int) 0 (some [])
noncomputable def tb_X11_modules_0 : List (Nat × ce_N) := [(0, ce_li (ce_aload 0 1)),
  (1, ce_li (ce_getf 15 1 4)),
  (4, ce_li (ce_getf 10 8 7)),
  (7, ce_reti .int)]
theorem tk_X11_modules_0 : ∀ x ∈ tb_X11_modules_0, P_X11_modules x.1 x.2 :=
  ce_fc (P := P_X11_modules) (ok_li (ok_aload_n dX11_modules_0 rfl)) (
  ce_fc (P := P_X11_modules) (ok_li (ok_getf (ci := 15) (k := 1) (C := RX11) (T := TX11) (N := 7) dX11_modules_1 rfl ce_uX11 (by decide) gw_455 (fun _ _ _ _ h => h))) (
  ce_fc (P := P_X11_modules) (ok_li (ok_getf (ci := 10) (k := 8) (C := RX6) (T := TX6) (N := 10) dX11_modules_4 rfl ce_uX6 (by decide) gw_259 (fun _ _ _ _ h => h))) (
  ce_fc (P := P_X11_modules) (ok_reti dX11_modules_7 rfl) (
  ce_fn (P := P_X11_modules)))))
noncomputable def ta_X11_modules : Nat → Option ce_N := (ce_fd tb_X11_modules_0)
theorem tx_X11_modules : ∀ pc f, ta_X11_modules pc = some f → P_X11_modules pc f := (ce_fd_ok (P := P_X11_modules) tk_X11_modules_0)
noncomputable def F_X11_modules : ce_C := ce_M ta_X11_modules 1 0 0 1000000
theorem m_X11_modules : ∀ l : Launch, l.stackTraces = false → ce_MS l yX11_modules (.code yX11_modules cX11_modules 1 (some .int)) 0 0 0 F_X11_modules := fun l hl => ce_met hl (by decide +kernel) tx_X11_modules
theorem hp_X11_modules : yX11_modules.cls ≠ "java/lang/invoke/MethodHandle" ∧ yX11_modules.cls ≠ "java/lang/invoke/VarHandle" ∧ (parseMethodDescriptor yX11_modules.desc).map (fun d => d.parameters.length) = some 0 := by decide +kernel
abbrev P_X12_area : Nat → ce_N → Prop := ce_OKN "CarcasswrightModel$Board" "area" cX12_area 1 (some .long) 0 (some [])
noncomputable def tb_X12_area_0 : List (Nat × ce_N) := [(0, ce_li (ce_aload 0 1)),
  (1, ce_li (ce_getf 16 2 4)),
  (4, ce_li (ce_i2l 5)),
  (5, ce_li (ce_aload 0 6)),
  (6, ce_li (ce_getf 16 3 9)),
  (9, ce_li (ce_i2l 10)),
  (10, ce_li (ce_binL ce_lmul 11)),
  (11, ce_retl)]
theorem tk_X12_area_0 : ∀ x ∈ tb_X12_area_0, P_X12_area x.1 x.2 :=
  ce_fc (P := P_X12_area) (ok_li (ok_aload_n dX12_area_0 rfl)) (
  ce_fc (P := P_X12_area) (ok_li (ok_getf (ci := 16) (k := 2) (C := RX12) (T := TX12) (N := 7) dX12_area_1 rfl ce_uX12 (by decide) gw_2565 (fun _ _ _ _ h => h))) (
  ce_fc (P := P_X12_area) (ok_li (ok_i2l dX12_area_4)) (
  ce_fc (P := P_X12_area) (ok_li (ok_aload_n dX12_area_5 rfl)) (
  ce_fc (P := P_X12_area) (ok_li (ok_getf (ci := 16) (k := 3) (C := RX12) (T := TX12) (N := 7) dX12_area_6 rfl ce_uX12 (by decide) gw_2567 (fun _ _ _ _ h => h))) (
  ce_fc (P := P_X12_area) (ok_li (ok_i2l dX12_area_9)) (
  ce_fc (P := P_X12_area) (ok_li (ok_lmul dX12_area_10)) (
  ce_fc (P := P_X12_area) (ok_retl dX12_area_11 rfl) (
  ce_fn (P := P_X12_area)))))))))
noncomputable def ta_X12_area : Nat → Option ce_N := (ce_fd tb_X12_area_0)
theorem tx_X12_area : ∀ pc f, ta_X12_area pc = some f → P_X12_area pc f := (ce_fd_ok (P := P_X12_area) tk_X12_area_0)
noncomputable def F_X12_area : ce_C := ce_M ta_X12_area 1 0 0 1000000
theorem m_X12_area : ∀ l : Launch, l.stackTraces = false → ce_MS l yX12_area (.code yX12_area cX12_area 1 (some .long)) 0 0 0 F_X12_area := fun l hl => ce_met hl (by decide +kernel) tx_X12_area
theorem hp_X12_area : yX12_area.cls ≠ "java/lang/invoke/MethodHandle" ∧ yX12_area.cls ≠ "java/lang/invoke/VarHandle" ∧ (parseMethodDescriptor yX12_area.desc).map (fun d => d.parameters.length) = some 0 := by decide +kernel
abbrev P_X14_init : Nat → ce_N → Prop := ce_OKN "CarcasswrightModel$Job" "<init>" cX14_init 4 none 0 (some [])
noncomputable def tb_X14_init_0 : List (Nat × ce_N) := [(0, ce_li (ce_aload 0 1)),
  (1, ce_li (ce_oi 4)),
  (4, ce_li (ce_aload 0 5)),
  (5, ce_li (ce_iload 1 6)),
  (6, ce_li (ce_putf (tyX14 0) 17 0 9)),
  (9, ce_li (ce_aload 0 10)),
  (10, ce_li (ce_iload 2 11)),
  (11, ce_li (ce_putf (tyX14 1) 17 1 14)),
  (14, ce_li (ce_aload 0 15)),
  (15, ce_li (ce_iload 3 16)),
  (16, ce_li (ce_putf (tyX14 2) 17 2 19)),
  (19, ce_ret0)]
theorem tk_X14_init_0 : ∀ x ∈ tb_X14_init_0, P_X14_init x.1 x.2 :=
  ce_fc (P := P_X14_init) (ok_li (ok_aload_n dX14_init_0 rfl)) (
  ce_fc (P := P_X14_init) (ok_li (ok_oi dX14_init_1 gw_2786 gw_57 gw_58)) (
  ce_fc (P := P_X14_init) (ok_li (ok_aload_n dX14_init_4 rfl)) (
  ce_fc (P := P_X14_init) (ok_li (ok_iload_n dX14_init_5 rfl)) (
  ce_fc (P := P_X14_init) (ok_li (ok_putf (ci := 17) (k := 0) (C := RX14) (T := TX14) (N := 3) (ty0 := tyX14) dX14_init_6 rfl ce_uX14 (by decide) gw_2787 (fun _ _ _ _ h => h) tyX14_ok nmX14 (Or.inr ⟨rfl, rfl, rfl⟩))) (
  ce_fc (P := P_X14_init) (ok_li (ok_aload_n dX14_init_9 rfl)) (
  ce_fc (P := P_X14_init) (ok_li (ok_iload_n dX14_init_10 rfl)) (
  ce_fc (P := P_X14_init) (ok_li (ok_putf (ci := 17) (k := 1) (C := RX14) (T := TX14) (N := 3) (ty0 := tyX14) dX14_init_11 rfl ce_uX14 (by decide) gw_2789 (fun _ _ _ _ h => h) tyX14_ok nmX14 (Or.inr ⟨rfl, rfl, rfl⟩))) (
  ce_fc (P := P_X14_init) (ok_li (ok_aload_n dX14_init_14 rfl)) (
  ce_fc (P := P_X14_init) (ok_li (ok_iload_n dX14_init_15 rfl)) (
  ce_fc (P := P_X14_init) (ok_li (ok_putf (ci := 17) (k := 2) (C := RX14) (T := TX14) (N := 3) (ty0 := tyX14) dX14_init_16 rfl ce_uX14 (by decide) gw_2791 (fun _ _ _ _ h => h) tyX14_ok nmX14 (Or.inr ⟨rfl, rfl, rfl⟩))) (
  ce_fc (P := P_X14_init) (ok_ret0 dX14_init_19 rfl) (
  ce_fn (P := P_X14_init)))))))))))))
noncomputable def ta_X14_init : Nat → Option ce_N := (ce_fd tb_X14_init_0)
theorem tx_X14_init : ∀ pc f, ta_X14_init pc = some f → P_X14_init pc f := (ce_fd_ok (P := P_X14_init) tk_X14_init_0)
noncomputable def F_X14_init : ce_C := ce_M ta_X14_init 4 0 0 1000000
theorem m_X14_init : ∀ l : Launch, l.stackTraces = false → ce_MS l yX14_init (.code yX14_init cX14_init 4 none) 0 0 0 F_X14_init := fun l hl => ce_met hl (by decide +kernel) tx_X14_init
theorem hp_X14_init : yX14_init.cls ≠ "java/lang/invoke/MethodHandle" ∧ yX14_init.cls ≠ "java/lang/invoke/VarHandle" ∧ (parseMethodDescriptor yX14_init.desc).map (fun d => d.parameters.length) = some 3 := by decide +kernel
abbrev P_X19_init : Nat → ce_N → Prop := ce_OKN "CarcasswrightModel$Type" "<init>" cX19_init 1 none 0 (some [])
noncomputable def tb_X19_init_0 : List (Nat × ce_N) := [(0, ce_li (ce_aload 0 1)),
  (1, ce_li (ce_oi 4)),
  (4, ce_li (ce_aload 0 5)),
  (5, ce_li (ce_push (.inl (.inl (600))) 8)),
  (8, ce_li (ce_putf (tyX19 1) 18 1 11)),
  (11, ce_ret0)]
theorem tk_X19_init_0 : ∀ x ∈ tb_X19_init_0, P_X19_init x.1 x.2 :=
  ce_fc (P := P_X19_init) (ok_li (ok_aload_n dX19_init_0 rfl)) (
  ce_fc (P := P_X19_init) (ok_li (ok_oi dX19_init_1 gw_2169 gw_57 gw_58)) (
  ce_fc (P := P_X19_init) (ok_li (ok_aload_n dX19_init_4 rfl)) (
  ce_fc (P := P_X19_init) (ok_li (ok_sipush dX19_init_5 (by decide))) (
  ce_fc (P := P_X19_init) (ok_li (ok_putf (ci := 18) (k := 1) (C := RX19) (T := TX19) (N := 5) (ty0 := tyX19) dX19_init_8 rfl ce_uX19 (by decide) gw_2173 (fun _ _ _ _ h => h) tyX19_ok nmX19 (Or.inl rfl))) (
  ce_fc (P := P_X19_init) (ok_ret0 dX19_init_11 rfl) (
  ce_fn (P := P_X19_init)))))))
noncomputable def ta_X19_init : Nat → Option ce_N := (ce_fd tb_X19_init_0)
theorem tx_X19_init : ∀ pc f, ta_X19_init pc = some f → P_X19_init pc f := (ce_fd_ok (P := P_X19_init) tk_X19_init_0)
noncomputable def F_X19_init : ce_C := ce_M ta_X19_init 1 0 0 1000000
theorem m_X19_init : ∀ l : Launch, l.stackTraces = false → ce_MS l yX19_init (.code yX19_init cX19_init 1 none) 0 0 0 F_X19_init := fun l hl => ce_met hl (by decide +kernel) tx_X19_init
theorem hp_X19_init : yX19_init.cls ≠ "java/lang/invoke/MethodHandle" ∧ yX19_init.cls ≠ "java/lang/invoke/VarHandle" ∧ (parseMethodDescriptor yX19_init.desc).map (fun d => d.parameters.length) = some 0 := by decide +kernel
abbrev P_X1_append : Nat → ce_N → Prop := ce_OKN "Carcasswright$Jobs" "append" cX1_append 5 (some .int) 0 (some [])
noncomputable def tb_X1_append_0 : List (Nat × ce_N) := [(0, ce_li (ce_aload 0 1)),
  (1, ce_li (ce_getf 5 5 4)),
  (4, ce_li (ce_istore 4 6 5)),
  (6, ce_li (ce_iload 4 8)),
  (8, ce_li (ce_if false false false 18 11)),
  (11, ce_li (ce_iload 4 13)),
  (13, ce_li (ce_push (.inl (.inl (6))) 15)),
  (15, ce_li (ce_icmp false false false 20 18)),
  (20, ce_li (ce_aload 0 21)),
  (21, ce_li (ce_getf 5 0 24)),
  (24, ce_li (ce_iload 4 26)),
  (26, ce_li (ce_iload 1 27)),
  (27, ce_li (ce_iast 0 28 27)),
  (28, ce_li (ce_aload 0 29))]
theorem tk_X1_append_0 : ∀ x ∈ tb_X1_append_0, P_X1_append x.1 x.2 :=
  ce_fc (P := P_X1_append) (ok_li (ok_aload_n dX1_append_0 rfl)) (
  ce_fc (P := P_X1_append) (ok_li (ok_getf (ci := 5) (k := 5) (C := RX1) (T := TX1) (N := 8) dX1_append_1 rfl ce_uX1 (by decide) gw_431 (fun _ _ _ _ h => h))) (
  ce_fc (P := P_X1_append) (ok_li (ok_istore dX1_append_4)) (
  ce_fc (P := P_X1_append) (ok_li (ok_iload dX1_append_6)) (
  ce_fc (P := P_X1_append) (ok_li (ok_if_lt dX1_append_8 (by decide))) (
  ce_fc (P := P_X1_append) (ok_li (ok_iload dX1_append_11)) (
  ce_fc (P := P_X1_append) (ok_li (ok_bipush dX1_append_13 (by decide))) (
  ce_fc (P := P_X1_append) (ok_li (ok_icmp_lt dX1_append_15 (by decide))) (
  ce_fc (P := P_X1_append) (ok_li (ok_aload_n dX1_append_20 rfl)) (
  ce_fc (P := P_X1_append) (ok_li (ok_getf (ci := 5) (k := 0) (C := RX1) (T := TX1) (N := 8) dX1_append_21 rfl ce_uX1 (by decide) gw_425 (fun _ _ _ _ h => h))) (
  ce_fc (P := P_X1_append) (ok_li (ok_iload dX1_append_24)) (
  ce_fc (P := P_X1_append) (ok_li (ok_iload_n dX1_append_26 rfl)) (
  ce_fc (P := P_X1_append) (ok_li (ok_iastore dX1_append_27)) (
  ce_fc (P := P_X1_append) (ok_li (ok_aload_n dX1_append_28 rfl)) (
  ce_fn (P := P_X1_append)))))))))))))))
noncomputable def tb_X1_append_1 : List (Nat × ce_N) := [(29, ce_li (ce_getf 5 1 32)),
  (32, ce_li (ce_iload 4 34)),
  (34, ce_li (ce_iload 2 35)),
  (35, ce_li (ce_iast 0 36 35)),
  (36, ce_li (ce_aload 0 37)),
  (37, ce_li (ce_getf 5 2 40)),
  (40, ce_li (ce_iload 4 42)),
  (42, ce_li (ce_iload 3 43)),
  (43, ce_li (ce_iast 0 44 43)),
  (44, ce_li (ce_aload 0 45)),
  (45, ce_li (ce_dup 46)),
  (46, ce_li (ce_getf 5 5 49)),
  (49, ce_li (ce_push (.inl (.inl (1))) 50)),
  (50, ce_li (ce_bin ce_addo 51))]
theorem tk_X1_append_1 : ∀ x ∈ tb_X1_append_1, P_X1_append x.1 x.2 :=
  ce_fc (P := P_X1_append) (ok_li (ok_getf (ci := 5) (k := 1) (C := RX1) (T := TX1) (N := 8) dX1_append_29 rfl ce_uX1 (by decide) gw_426 (fun _ _ _ _ h => h))) (
  ce_fc (P := P_X1_append) (ok_li (ok_iload dX1_append_32)) (
  ce_fc (P := P_X1_append) (ok_li (ok_iload_n dX1_append_34 rfl)) (
  ce_fc (P := P_X1_append) (ok_li (ok_iastore dX1_append_35)) (
  ce_fc (P := P_X1_append) (ok_li (ok_aload_n dX1_append_36 rfl)) (
  ce_fc (P := P_X1_append) (ok_li (ok_getf (ci := 5) (k := 2) (C := RX1) (T := TX1) (N := 8) dX1_append_37 rfl ce_uX1 (by decide) gw_427 (fun _ _ _ _ h => h))) (
  ce_fc (P := P_X1_append) (ok_li (ok_iload dX1_append_40)) (
  ce_fc (P := P_X1_append) (ok_li (ok_iload_n dX1_append_42 rfl)) (
  ce_fc (P := P_X1_append) (ok_li (ok_iastore dX1_append_43)) (
  ce_fc (P := P_X1_append) (ok_li (ok_aload_n dX1_append_44 rfl)) (
  ce_fc (P := P_X1_append) (ok_li (ok_dup dX1_append_45)) (
  ce_fc (P := P_X1_append) (ok_li (ok_getf (ci := 5) (k := 5) (C := RX1) (T := TX1) (N := 8) dX1_append_46 rfl ce_uX1 (by decide) gw_431 (fun _ _ _ _ h => h))) (
  ce_fc (P := P_X1_append) (ok_li (ok_iconst dX1_append_49)) (
  ce_fc (P := P_X1_append) (ok_li (ok_iadd dX1_append_50)) (
  ce_fn (P := P_X1_append)))))))))))))))
noncomputable def tb_X1_append_2 : List (Nat × ce_N) := [(51, ce_li (ce_putf (tyX1 5) 5 5 54)),
  (54, ce_li (ce_iload 4 56)),
  (56, ce_reti .int)]
theorem tk_X1_append_2 : ∀ x ∈ tb_X1_append_2, P_X1_append x.1 x.2 :=
  ce_fc (P := P_X1_append) (ok_li (ok_putf (ci := 5) (k := 5) (C := RX1) (T := TX1) (N := 8) (ty0 := tyX1) dX1_append_51 rfl ce_uX1 (by decide) gw_431 (fun _ _ _ _ h => h) tyX1_ok nmX1 (Or.inl rfl))) (
  ce_fc (P := P_X1_append) (ok_li (ok_iload dX1_append_54)) (
  ce_fc (P := P_X1_append) (ok_reti dX1_append_56 rfl) (
  ce_fn (P := P_X1_append))))
noncomputable def ta_X1_append : Nat → Option ce_N := (ce_tr 29 (ce_fd tb_X1_append_0) (ce_tr 51 (ce_fd tb_X1_append_1) (ce_fd tb_X1_append_2)))
theorem tx_X1_append : ∀ pc f, ta_X1_append pc = some f → P_X1_append pc f := (ce_tr_ok (P := P_X1_append) (ce_fd_ok (P := P_X1_append) tk_X1_append_0) (ce_tr_ok (P := P_X1_append) (ce_fd_ok (P := P_X1_append) tk_X1_append_1) (ce_fd_ok (P := P_X1_append) tk_X1_append_2)))
noncomputable def F_X1_append : ce_C := ce_M ta_X1_append 5 0 0 1000000
theorem m_X1_append : ∀ l : Launch, l.stackTraces = false → ce_MS l yX1_append (.code yX1_append cX1_append 5 (some .int)) 0 0 0 F_X1_append := fun l hl => ce_met hl (by decide +kernel) tx_X1_append
theorem hp_X1_append : yX1_append.cls ≠ "java/lang/invoke/MethodHandle" ∧ yX1_append.cls ≠ "java/lang/invoke/VarHandle" ∧ (parseMethodDescriptor yX1_append.desc).map (fun d => d.parameters.length) = some 3 := by decide +kernel
abbrev P_X1_goToNextOrder : Nat → ce_N → Prop := ce_OKN "Carcasswright$Jobs" "goToNextOrder" cX1_goToNextOrder 3 (some .boolean) 0 (some [])
noncomputable def tb_X1_goToNextOrder_0 : List (Nat × ce_N) := [(0, ce_li (ce_aload 0 1)),
  (1, ce_li (ce_getf 5 5 4)),
  (4, ce_li (ce_push (.inl (.inl (6))) 6)),
  (6, ce_li (ce_mm false 9)),
  (9, ce_li (ce_push (.inl (.inl (1))) 10)),
  (10, ce_li (ce_bin ce_subo 11)),
  (11, ce_li (ce_istore 1 12 3)),
  (12, ce_li (ce_iload 1 13)),
  (13, ce_li (ce_push (.inl (.inl (1))) 14)),
  (14, ce_li (ce_bin ce_subo 15)),
  (15, ce_li (ce_istore 2 16 3)),
  (16, ce_li (ce_iload 2 17)),
  (17, ce_li (ce_if false false false 59 20)),
  (59, ce_li (ce_push (.inl (.inl (0))) 60))]
theorem tk_X1_goToNextOrder_0 : ∀ x ∈ tb_X1_goToNextOrder_0, P_X1_goToNextOrder x.1 x.2 :=
  ce_fc (P := P_X1_goToNextOrder) (ok_li (ok_aload_n dX1_goToNextOrder_0 rfl)) (
  ce_fc (P := P_X1_goToNextOrder) (ok_li (ok_getf (ci := 5) (k := 5) (C := RX1) (T := TX1) (N := 8) dX1_goToNextOrder_1 rfl ce_uX1 (by decide) gw_431 (fun _ _ _ _ h => h))) (
  ce_fc (P := P_X1_goToNextOrder) (ok_li (ok_bipush dX1_goToNextOrder_4 (by decide))) (
  ce_fc (P := P_X1_goToNextOrder) (ok_li (ok_mmin dX1_goToNextOrder_6 gw_603 gw_604 gw_25 gw_605)) (
  ce_fc (P := P_X1_goToNextOrder) (ok_li (ok_iconst dX1_goToNextOrder_9)) (
  ce_fc (P := P_X1_goToNextOrder) (ok_li (ok_isub dX1_goToNextOrder_10)) (
  ce_fc (P := P_X1_goToNextOrder) (ok_li (ok_istore_n dX1_goToNextOrder_11 rfl)) (
  ce_fc (P := P_X1_goToNextOrder) (ok_li (ok_iload_n dX1_goToNextOrder_12 rfl)) (
  ce_fc (P := P_X1_goToNextOrder) (ok_li (ok_iconst dX1_goToNextOrder_13)) (
  ce_fc (P := P_X1_goToNextOrder) (ok_li (ok_isub dX1_goToNextOrder_14)) (
  ce_fc (P := P_X1_goToNextOrder) (ok_li (ok_istore_n dX1_goToNextOrder_15 rfl)) (
  ce_fc (P := P_X1_goToNextOrder) (ok_li (ok_iload_n dX1_goToNextOrder_16 rfl)) (
  ce_fc (P := P_X1_goToNextOrder) (ok_li (ok_if_lt dX1_goToNextOrder_17 (by decide))) (
  ce_fc (P := P_X1_goToNextOrder) (ok_li (ok_iconst dX1_goToNextOrder_59)) (
  ce_fn (P := P_X1_goToNextOrder)))))))))))))))
noncomputable def tb_X1_goToNextOrder_1 : List (Nat × ce_N) := [(60, ce_reti .boolean)]
theorem tk_X1_goToNextOrder_1 : ∀ x ∈ tb_X1_goToNextOrder_1, P_X1_goToNextOrder x.1 x.2 :=
  ce_fc (P := P_X1_goToNextOrder) (ok_reti dX1_goToNextOrder_60 rfl) (
  ce_fn (P := P_X1_goToNextOrder))
noncomputable def ta_X1_goToNextOrder : Nat → Option ce_N := (ce_tr 60 (ce_fd tb_X1_goToNextOrder_0) (ce_fd tb_X1_goToNextOrder_1))
theorem tx_X1_goToNextOrder : ∀ pc f, ta_X1_goToNextOrder pc = some f → P_X1_goToNextOrder pc f := (ce_tr_ok (P := P_X1_goToNextOrder) (ce_fd_ok (P := P_X1_goToNextOrder) tk_X1_goToNextOrder_0) (ce_fd_ok (P := P_X1_goToNextOrder) tk_X1_goToNextOrder_1))
noncomputable def F_X1_goToNextOrder : ce_C := ce_M ta_X1_goToNextOrder 3 0 0 1000000
theorem m_X1_goToNextOrder : ∀ l : Launch, l.stackTraces = false → ce_MS l yX1_goToNextOrder (.code yX1_goToNextOrder cX1_goToNextOrder 3 (some .boolean)) 0 0 0 F_X1_goToNextOrder := fun l hl => ce_met hl (by decide +kernel) tx_X1_goToNextOrder
theorem hp_X1_goToNextOrder : yX1_goToNextOrder.cls ≠ "java/lang/invoke/MethodHandle" ∧ yX1_goToNextOrder.cls ≠ "java/lang/invoke/VarHandle" ∧ (parseMethodDescriptor yX1_goToNextOrder.desc).map (fun d => d.parameters.length) = some 0 := by decide +kernel
abbrev P_X1_init : Nat → ce_N → Prop := ce_OKN "Carcasswright$Jobs" "<init>" cX1_init 1 none 0 (some [])
noncomputable def tb_X1_init_0 : List (Nat × ce_N) := [(0, ce_li (ce_aload 0 1)),
  (1, ce_li (ce_oi 4)),
  (4, ce_li (ce_aload 0 5)),
  (5, ce_li (ce_push (.inl (.inl (6))) 7)),
  (7, ce_li (ce_newa 0 2 9)),
  (9, ce_li (ce_putf (tyX1 0) 5 0 12)),
  (12, ce_li (ce_aload 0 13)),
  (13, ce_li (ce_push (.inl (.inl (6))) 15)),
  (15, ce_li (ce_newa 0 2 17)),
  (17, ce_li (ce_putf (tyX1 1) 5 1 20)),
  (20, ce_li (ce_aload 0 21)),
  (21, ce_li (ce_push (.inl (.inl (6))) 23)),
  (23, ce_li (ce_newa 0 2 25)),
  (25, ce_li (ce_putf (tyX1 2) 5 2 28))]
theorem tk_X1_init_0 : ∀ x ∈ tb_X1_init_0, P_X1_init x.1 x.2 :=
  ce_fc (P := P_X1_init) (ok_li (ok_aload_n dX1_init_0 rfl)) (
  ce_fc (P := P_X1_init) (ok_li (ok_oi dX1_init_1 gw_424 gw_57 gw_58)) (
  ce_fc (P := P_X1_init) (ok_li (ok_aload_n dX1_init_4 rfl)) (
  ce_fc (P := P_X1_init) (ok_li (ok_bipush dX1_init_5 (by decide))) (
  ce_fc (P := P_X1_init) (ok_li (ok_newa_int dX1_init_7 gw_193)) (
  ce_fc (P := P_X1_init) (ok_li (ok_putf (ci := 5) (k := 0) (C := RX1) (T := TX1) (N := 8) (ty0 := tyX1) dX1_init_9 rfl ce_uX1 (by decide) gw_425 (fun _ _ _ _ h => h) tyX1_ok nmX1 (Or.inr ⟨rfl, rfl, rfl⟩))) (
  ce_fc (P := P_X1_init) (ok_li (ok_aload_n dX1_init_12 rfl)) (
  ce_fc (P := P_X1_init) (ok_li (ok_bipush dX1_init_13 (by decide))) (
  ce_fc (P := P_X1_init) (ok_li (ok_newa_int dX1_init_15 gw_193)) (
  ce_fc (P := P_X1_init) (ok_li (ok_putf (ci := 5) (k := 1) (C := RX1) (T := TX1) (N := 8) (ty0 := tyX1) dX1_init_17 rfl ce_uX1 (by decide) gw_426 (fun _ _ _ _ h => h) tyX1_ok nmX1 (Or.inr ⟨rfl, rfl, rfl⟩))) (
  ce_fc (P := P_X1_init) (ok_li (ok_aload_n dX1_init_20 rfl)) (
  ce_fc (P := P_X1_init) (ok_li (ok_bipush dX1_init_21 (by decide))) (
  ce_fc (P := P_X1_init) (ok_li (ok_newa_int dX1_init_23 gw_193)) (
  ce_fc (P := P_X1_init) (ok_li (ok_putf (ci := 5) (k := 2) (C := RX1) (T := TX1) (N := 8) (ty0 := tyX1) dX1_init_25 rfl ce_uX1 (by decide) gw_427 (fun _ _ _ _ h => h) tyX1_ok nmX1 (Or.inr ⟨rfl, rfl, rfl⟩))) (
  ce_fn (P := P_X1_init)))))))))))))))
noncomputable def tb_X1_init_1 : List (Nat × ce_N) := [(28, ce_li (ce_aload 0 29)),
  (29, ce_li (ce_push (.inl (.inl (6))) 31)),
  (31, ce_li (ce_newa 0 2 33)),
  (33, ce_li (ce_putf (tyX1 3) 5 3 36)),
  (36, ce_li (ce_aload 0 37)),
  (37, ce_li (ce_push (.inl (.inl (6))) 39)),
  (39, ce_li (ce_newa 0 2 41)),
  (41, ce_li (ce_putf (tyX1 4) 5 4 44)),
  (44, ce_li (ce_aload 0 45)),
  (45, ce_li (ce_push (.inl (.inl (2))) 46)),
  (46, ce_li (ce_putf (tyX1 6) 5 6 49)),
  (49, ce_ret0)]
theorem tk_X1_init_1 : ∀ x ∈ tb_X1_init_1, P_X1_init x.1 x.2 :=
  ce_fc (P := P_X1_init) (ok_li (ok_aload_n dX1_init_28 rfl)) (
  ce_fc (P := P_X1_init) (ok_li (ok_bipush dX1_init_29 (by decide))) (
  ce_fc (P := P_X1_init) (ok_li (ok_newa_int dX1_init_31 gw_193)) (
  ce_fc (P := P_X1_init) (ok_li (ok_putf (ci := 5) (k := 3) (C := RX1) (T := TX1) (N := 8) (ty0 := tyX1) dX1_init_33 rfl ce_uX1 (by decide) gw_428 (fun _ _ _ _ h => h) tyX1_ok nmX1 (Or.inr ⟨rfl, rfl, rfl⟩))) (
  ce_fc (P := P_X1_init) (ok_li (ok_aload_n dX1_init_36 rfl)) (
  ce_fc (P := P_X1_init) (ok_li (ok_bipush dX1_init_37 (by decide))) (
  ce_fc (P := P_X1_init) (ok_li (ok_newa_int dX1_init_39 gw_193)) (
  ce_fc (P := P_X1_init) (ok_li (ok_putf (ci := 5) (k := 4) (C := RX1) (T := TX1) (N := 8) (ty0 := tyX1) dX1_init_41 rfl ce_uX1 (by decide) gw_429 (fun _ _ _ _ h => h) tyX1_ok nmX1 (Or.inr ⟨rfl, rfl, rfl⟩))) (
  ce_fc (P := P_X1_init) (ok_li (ok_aload_n dX1_init_44 rfl)) (
  ce_fc (P := P_X1_init) (ok_li (ok_iconst dX1_init_45)) (
  ce_fc (P := P_X1_init) (ok_li (ok_putf (ci := 5) (k := 6) (C := RX1) (T := TX1) (N := 8) (ty0 := tyX1) dX1_init_46 rfl ce_uX1 (by decide) gw_433 (fun _ _ _ _ h => h) tyX1_ok nmX1 (Or.inl rfl))) (
  ce_fc (P := P_X1_init) (ok_ret0 dX1_init_49 rfl) (
  ce_fn (P := P_X1_init)))))))))))))
noncomputable def ta_X1_init : Nat → Option ce_N := (ce_tr 28 (ce_fd tb_X1_init_0) (ce_fd tb_X1_init_1))
theorem tx_X1_init : ∀ pc f, ta_X1_init pc = some f → P_X1_init pc f := (ce_tr_ok (P := P_X1_init) (ce_fd_ok (P := P_X1_init) tk_X1_init_0) (ce_fd_ok (P := P_X1_init) tk_X1_init_1))
noncomputable def F_X1_init : ce_C := ce_M ta_X1_init 1 5 30 1000000
theorem m_X1_init : ∀ l : Launch, l.stackTraces = false → ce_MS l yX1_init (.code yX1_init cX1_init 1 none) 0 5 30 F_X1_init := fun l hl => ce_met hl (by decide +kernel) tx_X1_init
theorem hp_X1_init : yX1_init.cls ≠ "java/lang/invoke/MethodHandle" ∧ yX1_init.cls ≠ "java/lang/invoke/VarHandle" ∧ (parseMethodDescriptor yX1_init.desc).map (fun d => d.parameters.length) = some 0 := by decide +kernel
abbrev P_X1_keepOrder : Nat → ce_N → Prop := ce_OKN "Carcasswright$Jobs" "keepOrder" cX1_keepOrder 2 none 0 (some [])
noncomputable def tb_X1_keepOrder_0 : List (Nat × ce_N) := [(0, ce_li (ce_push (.inl (.inl (0))) 1)),
  (1, ce_li (ce_istore 1 2 2)),
  (2, ce_li (ce_iload 1 3)),
  (3, ce_li (ce_push (.inl (.inl (6))) 5)),
  (5, ce_li (ce_icmp false false true 26 8)),
  (8, ce_li (ce_aload 0 9)),
  (9, ce_li (ce_getf 5 4 12)),
  (12, ce_li (ce_iload 1 13)),
  (13, ce_li (ce_aload 0 14)),
  (14, ce_li (ce_getf 5 3 17)),
  (17, ce_li (ce_iload 1 18)),
  (18, ce_li (ce_iald 19 18)),
  (19, ce_li (ce_iast 0 20 19)),
  (20, ce_li (ce_iinc 1 (1) 23 2))]
theorem tk_X1_keepOrder_0 : ∀ x ∈ tb_X1_keepOrder_0, P_X1_keepOrder x.1 x.2 :=
  ce_fc (P := P_X1_keepOrder) (ok_li (ok_iconst dX1_keepOrder_0)) (
  ce_fc (P := P_X1_keepOrder) (ok_li (ok_istore_n dX1_keepOrder_1 rfl)) (
  ce_fc (P := P_X1_keepOrder) (ok_li (ok_iload_n dX1_keepOrder_2 rfl)) (
  ce_fc (P := P_X1_keepOrder) (ok_li (ok_bipush dX1_keepOrder_3 (by decide))) (
  ce_fc (P := P_X1_keepOrder) (ok_li (ok_icmp_ge dX1_keepOrder_5 (by decide))) (
  ce_fc (P := P_X1_keepOrder) (ok_li (ok_aload_n dX1_keepOrder_8 rfl)) (
  ce_fc (P := P_X1_keepOrder) (ok_li (ok_getf (ci := 5) (k := 4) (C := RX1) (T := TX1) (N := 8) dX1_keepOrder_9 rfl ce_uX1 (by decide) gw_429 (fun _ _ _ _ h => h))) (
  ce_fc (P := P_X1_keepOrder) (ok_li (ok_iload_n dX1_keepOrder_12 rfl)) (
  ce_fc (P := P_X1_keepOrder) (ok_li (ok_aload_n dX1_keepOrder_13 rfl)) (
  ce_fc (P := P_X1_keepOrder) (ok_li (ok_getf (ci := 5) (k := 3) (C := RX1) (T := TX1) (N := 8) dX1_keepOrder_14 rfl ce_uX1 (by decide) gw_428 (fun _ _ _ _ h => h))) (
  ce_fc (P := P_X1_keepOrder) (ok_li (ok_iload_n dX1_keepOrder_17 rfl)) (
  ce_fc (P := P_X1_keepOrder) (ok_li (ok_iald dX1_keepOrder_18)) (
  ce_fc (P := P_X1_keepOrder) (ok_li (ok_iastore dX1_keepOrder_19)) (
  ce_fc (P := P_X1_keepOrder) (ok_li (ok_iinc dX1_keepOrder_20)) (
  ce_fn (P := P_X1_keepOrder)))))))))))))))
noncomputable def tb_X1_keepOrder_1 : List (Nat × ce_N) := [(23, ce_li (ce_goto 2)),
  (26, ce_ret0)]
theorem tk_X1_keepOrder_1 : ∀ x ∈ tb_X1_keepOrder_1, P_X1_keepOrder x.1 x.2 :=
  ce_fc (P := P_X1_keepOrder) (ok_li (ok_goto dX1_keepOrder_23 (by decide))) (
  ce_fc (P := P_X1_keepOrder) (ok_ret0 dX1_keepOrder_26 rfl) (
  ce_fn (P := P_X1_keepOrder)))
noncomputable def ta_X1_keepOrder : Nat → Option ce_N := (ce_tr 23 (ce_fd tb_X1_keepOrder_0) (ce_fd tb_X1_keepOrder_1))
theorem tx_X1_keepOrder : ∀ pc f, ta_X1_keepOrder pc = some f → P_X1_keepOrder pc f := (ce_tr_ok (P := P_X1_keepOrder) (ce_fd_ok (P := P_X1_keepOrder) tk_X1_keepOrder_0) (ce_fd_ok (P := P_X1_keepOrder) tk_X1_keepOrder_1))
noncomputable def F_X1_keepOrder : ce_C := ce_M ta_X1_keepOrder 2 0 0 1000000
theorem m_X1_keepOrder : ∀ l : Launch, l.stackTraces = false → ce_MS l yX1_keepOrder (.code yX1_keepOrder cX1_keepOrder 2 none) 0 0 0 F_X1_keepOrder := fun l hl => ce_met hl (by decide +kernel) tx_X1_keepOrder
theorem hp_X1_keepOrder : yX1_keepOrder.cls ≠ "java/lang/invoke/MethodHandle" ∧ yX1_keepOrder.cls ≠ "java/lang/invoke/VarHandle" ∧ (parseMethodDescriptor yX1_keepOrder.desc).map (fun d => d.parameters.length) = some 0 := by decide +kernel
abbrev P_X1_lateInOrder : Nat → ce_N → Prop := ce_OKN "Carcasswright$Jobs" "lateInOrder" cX1_lateInOrder 6 (some .int) 0 (some [])
noncomputable def tb_X1_lateInOrder_0 : List (Nat × ce_N) := [(0, ce_li (ce_push (.inl (.inl (0))) 1)),
  (1, ce_li (ce_istore 1 2 6)),
  (2, ce_li (ce_push (.inl (.inl (0))) 3)),
  (3, ce_li (ce_istore 2 4 6)),
  (4, ce_li (ce_push (.inl (.inl (-1))) 5)),
  (5, ce_li (ce_istore 3 6 6)),
  (6, ce_li (ce_push (.inl (.inl (0))) 7)),
  (7, ce_li (ce_istore 4 9 6)),
  (9, ce_li (ce_iload 4 11)),
  (11, ce_li (ce_aload 0 12)),
  (12, ce_li (ce_getf 5 5 15)),
  (15, ce_li (ce_icmp false false true 109 18)),
  (109, ce_li (ce_iload 1 110)),
  (110, ce_reti .int)]
theorem tk_X1_lateInOrder_0 : ∀ x ∈ tb_X1_lateInOrder_0, P_X1_lateInOrder x.1 x.2 :=
  ce_fc (P := P_X1_lateInOrder) (ok_li (ok_iconst dX1_lateInOrder_0)) (
  ce_fc (P := P_X1_lateInOrder) (ok_li (ok_istore_n dX1_lateInOrder_1 rfl)) (
  ce_fc (P := P_X1_lateInOrder) (ok_li (ok_iconst dX1_lateInOrder_2)) (
  ce_fc (P := P_X1_lateInOrder) (ok_li (ok_istore_n dX1_lateInOrder_3 rfl)) (
  ce_fc (P := P_X1_lateInOrder) (ok_li (ok_iconst dX1_lateInOrder_4)) (
  ce_fc (P := P_X1_lateInOrder) (ok_li (ok_istore_n dX1_lateInOrder_5 rfl)) (
  ce_fc (P := P_X1_lateInOrder) (ok_li (ok_iconst dX1_lateInOrder_6)) (
  ce_fc (P := P_X1_lateInOrder) (ok_li (ok_istore dX1_lateInOrder_7)) (
  ce_fc (P := P_X1_lateInOrder) (ok_li (ok_iload dX1_lateInOrder_9)) (
  ce_fc (P := P_X1_lateInOrder) (ok_li (ok_aload_n dX1_lateInOrder_11 rfl)) (
  ce_fc (P := P_X1_lateInOrder) (ok_li (ok_getf (ci := 5) (k := 5) (C := RX1) (T := TX1) (N := 8) dX1_lateInOrder_12 rfl ce_uX1 (by decide) gw_431 (fun _ _ _ _ h => h))) (
  ce_fc (P := P_X1_lateInOrder) (ok_li (ok_icmp_ge dX1_lateInOrder_15 (by decide))) (
  ce_fc (P := P_X1_lateInOrder) (ok_li (ok_iload_n dX1_lateInOrder_109 rfl)) (
  ce_fc (P := P_X1_lateInOrder) (ok_reti dX1_lateInOrder_110 rfl) (
  ce_fn (P := P_X1_lateInOrder)))))))))))))))
noncomputable def ta_X1_lateInOrder : Nat → Option ce_N := (ce_fd tb_X1_lateInOrder_0)
theorem tx_X1_lateInOrder : ∀ pc f, ta_X1_lateInOrder pc = some f → P_X1_lateInOrder pc f := (ce_fd_ok (P := P_X1_lateInOrder) tk_X1_lateInOrder_0)
noncomputable def F_X1_lateInOrder : ce_C := ce_M ta_X1_lateInOrder 6 0 0 1000000
theorem m_X1_lateInOrder : ∀ l : Launch, l.stackTraces = false → ce_MS l yX1_lateInOrder (.code yX1_lateInOrder cX1_lateInOrder 6 (some .int)) 0 0 0 F_X1_lateInOrder := fun l hl => ce_met hl (by decide +kernel) tx_X1_lateInOrder
theorem hp_X1_lateInOrder : yX1_lateInOrder.cls ≠ "java/lang/invoke/MethodHandle" ∧ yX1_lateInOrder.cls ≠ "java/lang/invoke/VarHandle" ∧ (parseMethodDescriptor yX1_lateInOrder.desc).map (fun d => d.parameters.length) = some 0 := by decide +kernel
abbrev P_X20_init : Nat → ce_N → Prop := ce_OKN "CarcasswrightModel$Wall" "<init>" cX20_init 3 none 0 (some [])
noncomputable def tb_X20_init_0 : List (Nat × ce_N) := [(0, ce_li (ce_aload 0 1)),
  (1, ce_li (ce_oi 4)),
  (4, ce_li (ce_aload 0 5)),
  (5, ce_li (ce_iload 1 6)),
  (6, ce_li (ce_putf (tyX20 0) 19 0 9)),
  (9, ce_li (ce_aload 0 10)),
  (10, ce_li (ce_iload 2 11)),
  (11, ce_li (ce_putf (tyX20 1) 19 1 14)),
  (14, ce_li (ce_aload 0 15)),
  (15, ce_li (ce_iload 2 16)),
  (16, ce_li (ce_putf (tyX20 2) 19 2 19)),
  (19, ce_ret0)]
theorem tk_X20_init_0 : ∀ x ∈ tb_X20_init_0, P_X20_init x.1 x.2 :=
  ce_fc (P := P_X20_init) (ok_li (ok_aload_n dX20_init_0 rfl)) (
  ce_fc (P := P_X20_init) (ok_li (ok_oi dX20_init_1 gw_1690 gw_57 gw_58)) (
  ce_fc (P := P_X20_init) (ok_li (ok_aload_n dX20_init_4 rfl)) (
  ce_fc (P := P_X20_init) (ok_li (ok_iload_n dX20_init_5 rfl)) (
  ce_fc (P := P_X20_init) (ok_li (ok_putf (ci := 19) (k := 0) (C := RX20) (T := TX20) (N := 5) (ty0 := tyX20) dX20_init_6 rfl ce_uX20 (by decide) gw_1691 (fun _ _ _ _ h => h) tyX20_ok nmX20 (Or.inr ⟨rfl, rfl, rfl⟩))) (
  ce_fc (P := P_X20_init) (ok_li (ok_aload_n dX20_init_9 rfl)) (
  ce_fc (P := P_X20_init) (ok_li (ok_iload_n dX20_init_10 rfl)) (
  ce_fc (P := P_X20_init) (ok_li (ok_putf (ci := 19) (k := 1) (C := RX20) (T := TX20) (N := 5) (ty0 := tyX20) dX20_init_11 rfl ce_uX20 (by decide) gw_1693 (fun _ _ _ _ h => h) tyX20_ok nmX20 (Or.inr ⟨rfl, rfl, rfl⟩))) (
  ce_fc (P := P_X20_init) (ok_li (ok_aload_n dX20_init_14 rfl)) (
  ce_fc (P := P_X20_init) (ok_li (ok_iload_n dX20_init_15 rfl)) (
  ce_fc (P := P_X20_init) (ok_li (ok_putf (ci := 19) (k := 2) (C := RX20) (T := TX20) (N := 5) (ty0 := tyX20) dX20_init_16 rfl ce_uX20 (by decide) gw_1695 (fun _ _ _ _ h => h) tyX20_ok nmX20 (Or.inl rfl))) (
  ce_fc (P := P_X20_init) (ok_ret0 dX20_init_19 rfl) (
  ce_fn (P := P_X20_init)))))))))))))
noncomputable def ta_X20_init : Nat → Option ce_N := (ce_fd tb_X20_init_0)
theorem tx_X20_init : ∀ pc f, ta_X20_init pc = some f → P_X20_init pc f := (ce_fd_ok (P := P_X20_init) tk_X20_init_0)
noncomputable def F_X20_init : ce_C := ce_M ta_X20_init 3 0 0 1000000
theorem m_X20_init : ∀ l : Launch, l.stackTraces = false → ce_MS l yX20_init (.code yX20_init cX20_init 3 none) 0 0 0 F_X20_init := fun l hl => ce_met hl (by decide +kernel) tx_X20_init
theorem hp_X20_init : yX20_init.cls ≠ "java/lang/invoke/MethodHandle" ∧ yX20_init.cls ≠ "java/lang/invoke/VarHandle" ∧ (parseMethodDescriptor yX20_init.desc).map (fun d => d.parameters.length) = some 2 := by decide +kernel
abbrev P_X21_faults : Nat → ce_N → Prop := ce_OKN "CarcasswrightModel" "faults" cX21_faults 3 none 0 (some [])
noncomputable def tb_X21_faults_0 : List (Nat × ce_N) := [(0, ce_li (ce_aload 0 1)),
  (1, ce_li (ce_aload 0 2)),
  (2, ce_li (ce_getf 20 16 5)),
  (5, ce_li (ce_push (.inl (.inl (32))) 7)),
  (7, ce_li (ce_icmp true false true 14 10)),
  (10, ce_li (ce_iload 1 11)),
  (11, ce_li (ce_goto 18)),
  (18, ce_li (ce_putf (tyX21 16) 20 16 21)),
  (21, ce_li (ce_aload 0 22)),
  (22, ce_li (ce_iload 2 23)),
  (23, ce_li (ce_putf (tyX21 17) 20 17 26)),
  (26, ce_ret0)]
theorem tk_X21_faults_0 : ∀ x ∈ tb_X21_faults_0, P_X21_faults x.1 x.2 :=
  ce_fc (P := P_X21_faults) (ok_li (ok_aload_n dX21_faults_0 rfl)) (
  ce_fc (P := P_X21_faults) (ok_li (ok_aload_n dX21_faults_1 rfl)) (
  ce_fc (P := P_X21_faults) (ok_li (ok_getf (ci := 20) (k := 16) (C := RX21) (T := TX21) (N := 20) dX21_faults_2 rfl ce_uX21 (by decide) gw_1537 (fun _ _ _ _ h => h))) (
  ce_fc (P := P_X21_faults) (ok_li (ok_bipush dX21_faults_5 (by decide))) (
  ce_fc (P := P_X21_faults) (ok_li (ok_icmp_ne dX21_faults_7 (by decide))) (
  ce_fc (P := P_X21_faults) (ok_li (ok_iload_n dX21_faults_10 rfl)) (
  ce_fc (P := P_X21_faults) (ok_li (ok_goto dX21_faults_11 (by decide))) (
  ce_fc (P := P_X21_faults) (ok_li (ok_putf (ci := 20) (k := 16) (C := RX21) (T := TX21) (N := 20) (ty0 := tyX21) dX21_faults_18 rfl ce_uX21 (by decide) gw_1537 (fun _ _ _ _ h => h) tyX21_ok nmX21 (Or.inl rfl))) (
  ce_fc (P := P_X21_faults) (ok_li (ok_aload_n dX21_faults_21 rfl)) (
  ce_fc (P := P_X21_faults) (ok_li (ok_iload_n dX21_faults_22 rfl)) (
  ce_fc (P := P_X21_faults) (ok_li (ok_putf (ci := 20) (k := 17) (C := RX21) (T := TX21) (N := 20) (ty0 := tyX21) dX21_faults_23 rfl ce_uX21 (by decide) gw_1538 (fun _ _ _ _ h => h) tyX21_ok nmX21 (Or.inl rfl))) (
  ce_fc (P := P_X21_faults) (ok_ret0 dX21_faults_26 rfl) (
  ce_fn (P := P_X21_faults)))))))))))))
noncomputable def ta_X21_faults : Nat → Option ce_N := (ce_fd tb_X21_faults_0)
theorem tx_X21_faults : ∀ pc f, ta_X21_faults pc = some f → P_X21_faults pc f := (ce_fd_ok (P := P_X21_faults) tk_X21_faults_0)
noncomputable def F_X21_faults : ce_C := ce_M ta_X21_faults 3 0 0 1000000
theorem m_X21_faults : ∀ l : Launch, l.stackTraces = false → ce_MS l yX21_faults (.code yX21_faults cX21_faults 3 none) 0 0 0 F_X21_faults := fun l hl => ce_met hl (by decide +kernel) tx_X21_faults
theorem hp_X21_faults : yX21_faults.cls ≠ "java/lang/invoke/MethodHandle" ∧ yX21_faults.cls ≠ "java/lang/invoke/VarHandle" ∧ (parseMethodDescriptor yX21_faults.desc).map (fun d => d.parameters.length) = some 2 := by decide +kernel
abbrev P_X21_in : Nat → ce_N → Prop := ce_OKN "CarcasswrightModel" "in" cX21_in 3 (some .boolean) 0 (some [])
noncomputable def tb_X21_in_0 : List (Nat × ce_N) := [(0, ce_li (ce_iload 0 1)),
  (1, ce_li (ce_iload 1 2)),
  (2, ce_li (ce_icmp false false false 14 5)),
  (5, ce_li (ce_iload 0 6)),
  (6, ce_li (ce_iload 2 7)),
  (7, ce_li (ce_icmp false true false 14 10)),
  (10, ce_li (ce_push (.inl (.inl (1))) 11)),
  (11, ce_li (ce_goto 15)),
  (14, ce_li (ce_push (.inl (.inl (0))) 15)),
  (15, ce_reti .boolean)]
theorem tk_X21_in_0 : ∀ x ∈ tb_X21_in_0, P_X21_in x.1 x.2 :=
  ce_fc (P := P_X21_in) (ok_li (ok_iload_n dX21_in_0 rfl)) (
  ce_fc (P := P_X21_in) (ok_li (ok_iload_n dX21_in_1 rfl)) (
  ce_fc (P := P_X21_in) (ok_li (ok_icmp_lt dX21_in_2 (by decide))) (
  ce_fc (P := P_X21_in) (ok_li (ok_iload_n dX21_in_5 rfl)) (
  ce_fc (P := P_X21_in) (ok_li (ok_iload_n dX21_in_6 rfl)) (
  ce_fc (P := P_X21_in) (ok_li (ok_icmp_gt dX21_in_7 (by decide))) (
  ce_fc (P := P_X21_in) (ok_li (ok_iconst dX21_in_10)) (
  ce_fc (P := P_X21_in) (ok_li (ok_goto dX21_in_11 (by decide))) (
  ce_fc (P := P_X21_in) (ok_li (ok_iconst dX21_in_14)) (
  ce_fc (P := P_X21_in) (ok_reti dX21_in_15 rfl) (
  ce_fn (P := P_X21_in)))))))))))
noncomputable def ta_X21_in : Nat → Option ce_N := (ce_fd tb_X21_in_0)
theorem tx_X21_in : ∀ pc f, ta_X21_in pc = some f → P_X21_in pc f := (ce_fd_ok (P := P_X21_in) tk_X21_in_0)
noncomputable def F_X21_in : ce_C := ce_M ta_X21_in 3 0 0 1000000
theorem m_X21_in : ∀ l : Launch, l.stackTraces = false → ce_MS l yX21_in (.code yX21_in cX21_in 3 (some .boolean)) 0 0 0 F_X21_in := fun l hl => ce_met hl (by decide +kernel) tx_X21_in
theorem hp_X21_in : yX21_in.cls ≠ "java/lang/invoke/MethodHandle" ∧ yX21_in.cls ≠ "java/lang/invoke/VarHandle" ∧ (parseMethodDescriptor yX21_in.desc).map (fun d => d.parameters.length) = some 3 := by decide +kernel
abbrev P_X21_isSound : Nat → ce_N → Prop := ce_OKN "CarcasswrightModel" "isSound" cX21_isSound 1 (some .boolean) 0 (some [])
noncomputable def tb_X21_isSound_0 : List (Nat × ce_N) := [(0, ce_li (ce_aload 0 1)),
  (1, ce_li (ce_push (.inl (.inl (0))) 2)),
  (2, ce_li (ce_putf (tyX21 0) 20 0 5)),
  (5, ce_li (ce_push (.inl (.inl (1))) 6)),
  (6, ce_reti .boolean)]
theorem tk_X21_isSound_0 : ∀ x ∈ tb_X21_isSound_0, P_X21_isSound x.1 x.2 :=
  ce_fc (P := P_X21_isSound) (ok_li (ok_aload_n dX21_isSound_0 rfl)) (
  ce_fc (P := P_X21_isSound) (ok_li (ok_iconst dX21_isSound_1)) (
  ce_fc (P := P_X21_isSound) (ok_li (ok_putf (ci := 20) (k := 0) (C := RX21) (T := TX21) (N := 20) (ty0 := tyX21) dX21_isSound_2 rfl ce_uX21 (by decide) gw_1521 (fun _ _ _ _ h => h) tyX21_ok nmX21 (Or.inl rfl))) (
  ce_fc (P := P_X21_isSound) (ok_li (ok_iconst dX21_isSound_5)) (
  ce_fc (P := P_X21_isSound) (ok_reti dX21_isSound_6 rfl) (
  ce_fn (P := P_X21_isSound))))))
noncomputable def ta_X21_isSound : Nat → Option ce_N := (ce_fd tb_X21_isSound_0)
theorem tx_X21_isSound : ∀ pc f, ta_X21_isSound pc = some f → P_X21_isSound pc f := (ce_fd_ok (P := P_X21_isSound) tk_X21_isSound_0)
noncomputable def F_X21_isSound : ce_C := ce_M ta_X21_isSound 1 0 0 1000000
theorem m_X21_isSound : ∀ l : Launch, l.stackTraces = false → ce_MS l yX21_isSound (.code yX21_isSound cX21_isSound 1 (some .boolean)) 0 0 0 F_X21_isSound := fun l hl => ce_met hl (by decide +kernel) tx_X21_isSound
theorem hp_X21_isSound : yX21_isSound.cls ≠ "java/lang/invoke/MethodHandle" ∧ yX21_isSound.cls ≠ "java/lang/invoke/VarHandle" ∧ (parseMethodDescriptor yX21_isSound.desc).map (fun d => d.parameters.length) = some 0 := by decide +kernel
abbrev P_X21_raises : Nat → ce_N → Prop := ce_OKN "CarcasswrightModel" "raises" cX21_raises 2 (some .int) 0 (some [])
noncomputable def tb_X21_raises_0 : List (Nat × ce_N) := [(0, ce_li (ce_aload 0 1)),
  (1, ce_li (ce_iload 1 2)),
  (2, ce_li (ce_putf (tyX21 0) 20 0 5)),
  (5, ce_li (ce_push (.inl (.inl (0))) 6)),
  (6, ce_reti .int)]
theorem tk_X21_raises_0 : ∀ x ∈ tb_X21_raises_0, P_X21_raises x.1 x.2 :=
  ce_fc (P := P_X21_raises) (ok_li (ok_aload_n dX21_raises_0 rfl)) (
  ce_fc (P := P_X21_raises) (ok_li (ok_iload_n dX21_raises_1 rfl)) (
  ce_fc (P := P_X21_raises) (ok_li (ok_putf (ci := 20) (k := 0) (C := RX21) (T := TX21) (N := 20) (ty0 := tyX21) dX21_raises_2 rfl ce_uX21 (by decide) gw_1521 (fun _ _ _ _ h => h) tyX21_ok nmX21 (Or.inl rfl))) (
  ce_fc (P := P_X21_raises) (ok_li (ok_iconst dX21_raises_5)) (
  ce_fc (P := P_X21_raises) (ok_reti dX21_raises_6 rfl) (
  ce_fn (P := P_X21_raises))))))
noncomputable def ta_X21_raises : Nat → Option ce_N := (ce_fd tb_X21_raises_0)
theorem tx_X21_raises : ∀ pc f, ta_X21_raises pc = some f → P_X21_raises pc f := (ce_fd_ok (P := P_X21_raises) tk_X21_raises_0)
noncomputable def F_X21_raises : ce_C := ce_M ta_X21_raises 2 0 0 1000000
theorem m_X21_raises : ∀ l : Launch, l.stackTraces = false → ce_MS l yX21_raises (.code yX21_raises cX21_raises 2 (some .int)) 0 0 0 F_X21_raises := fun l hl => ce_met hl (by decide +kernel) tx_X21_raises
theorem hp_X21_raises : yX21_raises.cls ≠ "java/lang/invoke/MethodHandle" ∧ yX21_raises.cls ≠ "java/lang/invoke/VarHandle" ∧ (parseMethodDescriptor yX21_raises.desc).map (fun d => d.parameters.length) = some 1 := by decide +kernel
abbrev P_X21_thrown : Nat → ce_N → Prop := ce_OKN "CarcasswrightModel" "thrown" cX21_thrown 1 (some .int) 0 (some [])
noncomputable def tb_X21_thrown_0 : List (Nat × ce_N) := [(0, ce_li (ce_aload 0 1)),
  (1, ce_li (ce_getf 20 0 4)),
  (4, ce_reti .int)]
theorem tk_X21_thrown_0 : ∀ x ∈ tb_X21_thrown_0, P_X21_thrown x.1 x.2 :=
  ce_fc (P := P_X21_thrown) (ok_li (ok_aload_n dX21_thrown_0 rfl)) (
  ce_fc (P := P_X21_thrown) (ok_li (ok_getf (ci := 20) (k := 0) (C := RX21) (T := TX21) (N := 20) dX21_thrown_1 rfl ce_uX21 (by decide) gw_1521 (fun _ _ _ _ h => h))) (
  ce_fc (P := P_X21_thrown) (ok_reti dX21_thrown_4 rfl) (
  ce_fn (P := P_X21_thrown))))
noncomputable def ta_X21_thrown : Nat → Option ce_N := (ce_fd tb_X21_thrown_0)
theorem tx_X21_thrown : ∀ pc f, ta_X21_thrown pc = some f → P_X21_thrown pc f := (ce_fd_ok (P := P_X21_thrown) tk_X21_thrown_0)
noncomputable def F_X21_thrown : ce_C := ce_M ta_X21_thrown 1 0 0 1000000
theorem m_X21_thrown : ∀ l : Launch, l.stackTraces = false → ce_MS l yX21_thrown (.code yX21_thrown cX21_thrown 1 (some .int)) 0 0 0 F_X21_thrown := fun l hl => ce_met hl (by decide +kernel) tx_X21_thrown
theorem hp_X21_thrown : yX21_thrown.cls ≠ "java/lang/invoke/MethodHandle" ∧ yX21_thrown.cls ≠ "java/lang/invoke/VarHandle" ∧ (parseMethodDescriptor yX21_thrown.desc).map (fun d => d.parameters.length) = some 0 := by decide +kernel
abbrev P_X21_tries : Nat → ce_N → Prop := ce_OKN "CarcasswrightModel" "tries" cX21_tries 10 none 0 (some [])
noncomputable def tb_X21_tries_0 : List (Nat × ce_N) := [(0, ce_li (ce_iload 2 1)),
  (1, ce_li (ce_aload 1 2)),
  (2, ce_li (ce_alen 3)),
  (3, ce_li (ce_icmp true false true 33 6)),
  (6, ce_li (ce_iload 5 8)),
  (8, ce_li (ce_aload 0 9)),
  (9, ce_li (ce_getf 20 18 12)),
  (12, ce_li (ce_icmp false false true 32 15)),
  (15, ce_li (ce_aload 0 16)),
  (16, ce_li (ce_iload 5 18)),
  (18, ce_li (ce_putf (tyX21 18) 20 18 21)),
  (21, ce_li (ce_aload 0 22)),
  (22, ce_li (ce_aload 1 23)),
  (23, ce_li (ce_clo 26))]
theorem tk_X21_tries_0 : ∀ x ∈ tb_X21_tries_0, P_X21_tries x.1 x.2 :=
  ce_fc (P := P_X21_tries) (ok_li (ok_iload_n dX21_tries_0 rfl)) (
  ce_fc (P := P_X21_tries) (ok_li (ok_aload_n dX21_tries_1 rfl)) (
  ce_fc (P := P_X21_tries) (ok_li (ok_alen dX21_tries_2)) (
  ce_fc (P := P_X21_tries) (ok_li (ok_icmp_ne dX21_tries_3 (by decide))) (
  ce_fc (P := P_X21_tries) (ok_li (ok_iload dX21_tries_6)) (
  ce_fc (P := P_X21_tries) (ok_li (ok_aload_n dX21_tries_8 rfl)) (
  ce_fc (P := P_X21_tries) (ok_li (ok_getf (ci := 20) (k := 18) (C := RX21) (T := TX21) (N := 20) dX21_tries_9 rfl ce_uX21 (by decide) gw_1539 (fun _ _ _ _ h => h))) (
  ce_fc (P := P_X21_tries) (ok_li (ok_icmp_ge dX21_tries_12 (by decide))) (
  ce_fc (P := P_X21_tries) (ok_li (ok_aload_n dX21_tries_15 rfl)) (
  ce_fc (P := P_X21_tries) (ok_li (ok_iload dX21_tries_16)) (
  ce_fc (P := P_X21_tries) (ok_li (ok_putf (ci := 20) (k := 18) (C := RX21) (T := TX21) (N := 20) (ty0 := tyX21) dX21_tries_18 rfl ce_uX21 (by decide) gw_1539 (fun _ _ _ _ h => h) tyX21_ok nmX21 (Or.inl rfl))) (
  ce_fc (P := P_X21_tries) (ok_li (ok_aload_n dX21_tries_21 rfl)) (
  ce_fc (P := P_X21_tries) (ok_li (ok_aload_n dX21_tries_22 rfl)) (
  ce_fc (P := P_X21_tries) (ok_li (ok_clo dX21_tries_23 gw_2817 gw_2818 gw_1981 gw_1982 gw_2819 gn_7)) (
  ce_fn (P := P_X21_tries)))))))))))))))
noncomputable def tb_X21_tries_1 : List (Nat × ce_N) := [(26, ce_li (ce_castI 29)),
  (29, ce_li (ce_putf (tyX21 19) 20 19 32)),
  (32, ce_ret0)]
theorem tk_X21_tries_1 : ∀ x ∈ tb_X21_tries_1, P_X21_tries x.1 x.2 :=
  ce_fc (P := P_X21_tries) (ok_li (ok_castI dX21_tries_26 gw_2821)) (
  ce_fc (P := P_X21_tries) (ok_li (ok_putf (ci := 20) (k := 19) (C := RX21) (T := TX21) (N := 20) (ty0 := tyX21) dX21_tries_29 rfl ce_uX21 (by decide) gw_1540 (fun _ _ _ _ h => h) tyX21_ok nmX21 (Or.inl rfl))) (
  ce_fc (P := P_X21_tries) (ok_ret0 dX21_tries_32 rfl) (
  ce_fn (P := P_X21_tries))))
noncomputable def ta_X21_tries : Nat → Option ce_N := (ce_tr 26 (ce_fd tb_X21_tries_0) (ce_fd tb_X21_tries_1))
theorem tx_X21_tries : ∀ pc f, ta_X21_tries pc = some f → P_X21_tries pc f := (ce_tr_ok (P := P_X21_tries) (ce_fd_ok (P := P_X21_tries) tk_X21_tries_0) (ce_fd_ok (P := P_X21_tries) tk_X21_tries_1))
noncomputable def F_X21_tries : ce_C := ce_M ta_X21_tries 10 1 0 1000000
theorem m_X21_tries : ∀ l : Launch, l.stackTraces = false → ce_MS l yX21_tries (.code yX21_tries cX21_tries 10 none) 0 1 0 F_X21_tries := fun l hl => ce_met hl (by decide +kernel) tx_X21_tries
theorem hp_X21_tries : yX21_tries.cls ≠ "java/lang/invoke/MethodHandle" ∧ yX21_tries.cls ≠ "java/lang/invoke/VarHandle" ∧ (parseMethodDescriptor yX21_tries.desc).map (fun d => d.parameters.length) = some 5 := by decide +kernel
abbrev P_X2_init : Nat → ce_N → Prop := ce_OKN "Carcasswright$ModuleType" "<init>" cX2_init 1 none 0 (some [])
noncomputable def tb_X2_init_0 : List (Nat × ce_N) := [(0, ce_li (ce_aload 0 1)),
  (1, ce_li (ce_oi 4)),
  (4, ce_li (ce_aload 0 5)),
  (5, ce_li (ce_push (.inl (.inl (98))) 7)),
  (7, ce_li (ce_putf (tyX2 0) 6 0 10)),
  (10, ce_ret0)]
theorem tk_X2_init_0 : ∀ x ∈ tb_X2_init_0, P_X2_init x.1 x.2 :=
  ce_fc (P := P_X2_init) (ok_li (ok_aload_n dX2_init_0 rfl)) (
  ce_fc (P := P_X2_init) (ok_li (ok_oi dX2_init_1 gw_71 gw_57 gw_58)) (
  ce_fc (P := P_X2_init) (ok_li (ok_aload_n dX2_init_4 rfl)) (
  ce_fc (P := P_X2_init) (ok_li (ok_bipush dX2_init_5 (by decide))) (
  ce_fc (P := P_X2_init) (ok_li (ok_putf (ci := 6) (k := 0) (C := RX2) (T := TX2) (N := 9) (ty0 := tyX2) dX2_init_7 rfl ce_uX2 (by decide) gw_72 (fun _ _ _ _ h => h) tyX2_ok nmX2 (Or.inl rfl))) (
  ce_fc (P := P_X2_init) (ok_ret0 dX2_init_10 rfl) (
  ce_fn (P := P_X2_init)))))))
noncomputable def ta_X2_init : Nat → Option ce_N := (ce_fd tb_X2_init_0)
theorem tx_X2_init : ∀ pc f, ta_X2_init pc = some f → P_X2_init pc f := (ce_fd_ok (P := P_X2_init) tk_X2_init_0)
noncomputable def F_X2_init : ce_C := ce_M ta_X2_init 1 0 0 1000000
theorem m_X2_init : ∀ l : Launch, l.stackTraces = false → ce_MS l yX2_init (.code yX2_init cX2_init 1 none) 0 0 0 F_X2_init := fun l hl => ce_met hl (by decide +kernel) tx_X2_init
theorem hp_X2_init : yX2_init.cls ≠ "java/lang/invoke/MethodHandle" ∧ yX2_init.cls ≠ "java/lang/invoke/VarHandle" ∧ (parseMethodDescriptor yX2_init.desc).map (fun d => d.parameters.length) = some 0 := by decide +kernel
abbrev P_X2_reset : Nat → ce_N → Prop := ce_OKN "Carcasswright$ModuleType" "reset" cX2_reset 2 none 0 (some [])
noncomputable def tb_X2_reset_0 : List (Nat × ce_N) := [(0, ce_li (ce_aload 0 1)),
  (1, ce_li (ce_iload 1 2)),
  (2, ce_li (ce_putf (tyX2 0) 6 0 5)),
  (5, ce_li (ce_aload 0 6)),
  (6, ce_li (ce_aload 0 7)),
  (7, ce_li (ce_getf 6 0 10)),
  (10, ce_li (ce_push (.inl (.inl (117))) 12)),
  (12, ce_li (ce_icmp true false true 21 15)),
  (21, ce_li (ce_aload 0 22)),
  (22, ce_li (ce_getf 6 0 25)),
  (25, ce_li (ce_push (.inl (.inl (116))) 27)),
  (27, ce_li (ce_icmp true false true 36 30)),
  (36, ce_li (ce_push (.inl (.inl (720))) 39)),
  (39, ce_li (ce_putf (tyX2 1) 6 1 42))]
theorem tk_X2_reset_0 : ∀ x ∈ tb_X2_reset_0, P_X2_reset x.1 x.2 :=
  ce_fc (P := P_X2_reset) (ok_li (ok_aload_n dX2_reset_0 rfl)) (
  ce_fc (P := P_X2_reset) (ok_li (ok_iload_n dX2_reset_1 rfl)) (
  ce_fc (P := P_X2_reset) (ok_li (ok_putf (ci := 6) (k := 0) (C := RX2) (T := TX2) (N := 9) (ty0 := tyX2) dX2_reset_2 rfl ce_uX2 (by decide) gw_72 (fun _ _ _ _ h => h) tyX2_ok nmX2 (Or.inl rfl))) (
  ce_fc (P := P_X2_reset) (ok_li (ok_aload_n dX2_reset_5 rfl)) (
  ce_fc (P := P_X2_reset) (ok_li (ok_aload_n dX2_reset_6 rfl)) (
  ce_fc (P := P_X2_reset) (ok_li (ok_getf (ci := 6) (k := 0) (C := RX2) (T := TX2) (N := 9) dX2_reset_7 rfl ce_uX2 (by decide) gw_72 (fun _ _ _ _ h => h))) (
  ce_fc (P := P_X2_reset) (ok_li (ok_bipush dX2_reset_10 (by decide))) (
  ce_fc (P := P_X2_reset) (ok_li (ok_icmp_ne dX2_reset_12 (by decide))) (
  ce_fc (P := P_X2_reset) (ok_li (ok_aload_n dX2_reset_21 rfl)) (
  ce_fc (P := P_X2_reset) (ok_li (ok_getf (ci := 6) (k := 0) (C := RX2) (T := TX2) (N := 9) dX2_reset_22 rfl ce_uX2 (by decide) gw_72 (fun _ _ _ _ h => h))) (
  ce_fc (P := P_X2_reset) (ok_li (ok_bipush dX2_reset_25 (by decide))) (
  ce_fc (P := P_X2_reset) (ok_li (ok_icmp_ne dX2_reset_27 (by decide))) (
  ce_fc (P := P_X2_reset) (ok_li (ok_sipush dX2_reset_36 (by decide))) (
  ce_fc (P := P_X2_reset) (ok_li (ok_putf (ci := 6) (k := 1) (C := RX2) (T := TX2) (N := 9) (ty0 := tyX2) dX2_reset_39 rfl ce_uX2 (by decide) gw_74 (fun _ _ _ _ h => h) tyX2_ok nmX2 (Or.inl rfl))) (
  ce_fn (P := P_X2_reset)))))))))))))))
noncomputable def tb_X2_reset_1 : List (Nat × ce_N) := [(42, ce_li (ce_aload 0 43)),
  (43, ce_li (ce_aload 0 44)),
  (44, ce_li (ce_getf 6 0 47)),
  (47, ce_li (ce_push (.inl (.inl (117))) 49)),
  (49, ce_li (ce_icmp true false true 58 52)),
  (58, ce_li (ce_push (.inl (.inl (560))) 61)),
  (61, ce_li (ce_putf (tyX2 2) 6 2 64)),
  (64, ce_li (ce_aload 0 65)),
  (65, ce_li (ce_aload 0 66)),
  (66, ce_li (ce_getf 6 0 69)),
  (69, ce_li (ce_push (.inl (.inl (117))) 71)),
  (71, ce_li (ce_icmp true false true 80 74)),
  (80, ce_li (ce_push (.inl (.inl (0))) 81)),
  (81, ce_li (ce_putf (tyX2 3) 6 3 84))]
theorem tk_X2_reset_1 : ∀ x ∈ tb_X2_reset_1, P_X2_reset x.1 x.2 :=
  ce_fc (P := P_X2_reset) (ok_li (ok_aload_n dX2_reset_42 rfl)) (
  ce_fc (P := P_X2_reset) (ok_li (ok_aload_n dX2_reset_43 rfl)) (
  ce_fc (P := P_X2_reset) (ok_li (ok_getf (ci := 6) (k := 0) (C := RX2) (T := TX2) (N := 9) dX2_reset_44 rfl ce_uX2 (by decide) gw_72 (fun _ _ _ _ h => h))) (
  ce_fc (P := P_X2_reset) (ok_li (ok_bipush dX2_reset_47 (by decide))) (
  ce_fc (P := P_X2_reset) (ok_li (ok_icmp_ne dX2_reset_49 (by decide))) (
  ce_fc (P := P_X2_reset) (ok_li (ok_sipush dX2_reset_58 (by decide))) (
  ce_fc (P := P_X2_reset) (ok_li (ok_putf (ci := 6) (k := 2) (C := RX2) (T := TX2) (N := 9) (ty0 := tyX2) dX2_reset_61 rfl ce_uX2 (by decide) gw_76 (fun _ _ _ _ h => h) tyX2_ok nmX2 (Or.inl rfl))) (
  ce_fc (P := P_X2_reset) (ok_li (ok_aload_n dX2_reset_64 rfl)) (
  ce_fc (P := P_X2_reset) (ok_li (ok_aload_n dX2_reset_65 rfl)) (
  ce_fc (P := P_X2_reset) (ok_li (ok_getf (ci := 6) (k := 0) (C := RX2) (T := TX2) (N := 9) dX2_reset_66 rfl ce_uX2 (by decide) gw_72 (fun _ _ _ _ h => h))) (
  ce_fc (P := P_X2_reset) (ok_li (ok_bipush dX2_reset_69 (by decide))) (
  ce_fc (P := P_X2_reset) (ok_li (ok_icmp_ne dX2_reset_71 (by decide))) (
  ce_fc (P := P_X2_reset) (ok_li (ok_iconst dX2_reset_80)) (
  ce_fc (P := P_X2_reset) (ok_li (ok_putf (ci := 6) (k := 3) (C := RX2) (T := TX2) (N := 9) (ty0 := tyX2) dX2_reset_81 rfl ce_uX2 (by decide) gw_78 (fun _ _ _ _ h => h) tyX2_ok nmX2 (Or.inl rfl))) (
  ce_fn (P := P_X2_reset)))))))))))))))
noncomputable def tb_X2_reset_2 : List (Nat × ce_N) := [(84, ce_li (ce_aload 0 85)),
  (85, ce_li (ce_aload 0 86)),
  (86, ce_li (ce_getf 6 0 89)),
  (89, ce_li (ce_push (.inl (.inl (117))) 91)),
  (91, ce_li (ce_icmp true false true 100 94)),
  (100, ce_li (ce_aload 0 101)),
  (101, ce_li (ce_getf 6 0 104)),
  (104, ce_li (ce_push (.inl (.inl (116))) 106)),
  (106, ce_li (ce_icmp true false true 115 109)),
  (115, ce_li (ce_push (.inl (.inl (820))) 118)),
  (118, ce_li (ce_putf (tyX2 4) 6 4 121)),
  (121, ce_li (ce_aload 0 122)),
  (122, ce_li (ce_push (.inl (.inl (600))) 125)),
  (125, ce_li (ce_putf (tyX2 5) 6 5 128))]
theorem tk_X2_reset_2 : ∀ x ∈ tb_X2_reset_2, P_X2_reset x.1 x.2 :=
  ce_fc (P := P_X2_reset) (ok_li (ok_aload_n dX2_reset_84 rfl)) (
  ce_fc (P := P_X2_reset) (ok_li (ok_aload_n dX2_reset_85 rfl)) (
  ce_fc (P := P_X2_reset) (ok_li (ok_getf (ci := 6) (k := 0) (C := RX2) (T := TX2) (N := 9) dX2_reset_86 rfl ce_uX2 (by decide) gw_72 (fun _ _ _ _ h => h))) (
  ce_fc (P := P_X2_reset) (ok_li (ok_bipush dX2_reset_89 (by decide))) (
  ce_fc (P := P_X2_reset) (ok_li (ok_icmp_ne dX2_reset_91 (by decide))) (
  ce_fc (P := P_X2_reset) (ok_li (ok_aload_n dX2_reset_100 rfl)) (
  ce_fc (P := P_X2_reset) (ok_li (ok_getf (ci := 6) (k := 0) (C := RX2) (T := TX2) (N := 9) dX2_reset_101 rfl ce_uX2 (by decide) gw_72 (fun _ _ _ _ h => h))) (
  ce_fc (P := P_X2_reset) (ok_li (ok_bipush dX2_reset_104 (by decide))) (
  ce_fc (P := P_X2_reset) (ok_li (ok_icmp_ne dX2_reset_106 (by decide))) (
  ce_fc (P := P_X2_reset) (ok_li (ok_sipush dX2_reset_115 (by decide))) (
  ce_fc (P := P_X2_reset) (ok_li (ok_putf (ci := 6) (k := 4) (C := RX2) (T := TX2) (N := 9) (ty0 := tyX2) dX2_reset_118 rfl ce_uX2 (by decide) gw_81 (fun _ _ _ _ h => h) tyX2_ok nmX2 (Or.inl rfl))) (
  ce_fc (P := P_X2_reset) (ok_li (ok_aload_n dX2_reset_121 rfl)) (
  ce_fc (P := P_X2_reset) (ok_li (ok_sipush dX2_reset_122 (by decide))) (
  ce_fc (P := P_X2_reset) (ok_li (ok_putf (ci := 6) (k := 5) (C := RX2) (T := TX2) (N := 9) (ty0 := tyX2) dX2_reset_125 rfl ce_uX2 (by decide) gw_83 (fun _ _ _ _ h => h) tyX2_ok nmX2 (Or.inl rfl))) (
  ce_fn (P := P_X2_reset)))))))))))))))
noncomputable def tb_X2_reset_3 : List (Nat × ce_N) := [(128, ce_li (ce_aload 0 129)),
  (129, ce_li (ce_push (.inl (.inl (0))) 130)),
  (130, ce_li (ce_putf (tyX2 6) 6 6 133)),
  (133, ce_li (ce_aload 0 134)),
  (134, ce_li (ce_push (.inl (.inl (0))) 135)),
  (135, ce_li (ce_putf (tyX2 7) 6 7 138)),
  (138, ce_li (ce_aload 0 139)),
  (139, ce_li (ce_push (.inl (.inl (0))) 140)),
  (140, ce_li (ce_putf (tyX2 8) 6 8 143)),
  (143, ce_ret0)]
theorem tk_X2_reset_3 : ∀ x ∈ tb_X2_reset_3, P_X2_reset x.1 x.2 :=
  ce_fc (P := P_X2_reset) (ok_li (ok_aload_n dX2_reset_128 rfl)) (
  ce_fc (P := P_X2_reset) (ok_li (ok_iconst dX2_reset_129)) (
  ce_fc (P := P_X2_reset) (ok_li (ok_putf (ci := 6) (k := 6) (C := RX2) (T := TX2) (N := 9) (ty0 := tyX2) dX2_reset_130 rfl ce_uX2 (by decide) gw_87 (fun _ _ _ _ h => h) tyX2_ok nmX2 (Or.inl rfl))) (
  ce_fc (P := P_X2_reset) (ok_li (ok_aload_n dX2_reset_133 rfl)) (
  ce_fc (P := P_X2_reset) (ok_li (ok_iconst dX2_reset_134)) (
  ce_fc (P := P_X2_reset) (ok_li (ok_putf (ci := 6) (k := 7) (C := RX2) (T := TX2) (N := 9) (ty0 := tyX2) dX2_reset_135 rfl ce_uX2 (by decide) gw_90 (fun _ _ _ _ h => h) tyX2_ok nmX2 (Or.inl rfl))) (
  ce_fc (P := P_X2_reset) (ok_li (ok_aload_n dX2_reset_138 rfl)) (
  ce_fc (P := P_X2_reset) (ok_li (ok_iconst dX2_reset_139)) (
  ce_fc (P := P_X2_reset) (ok_li (ok_putf (ci := 6) (k := 8) (C := RX2) (T := TX2) (N := 9) (ty0 := tyX2) dX2_reset_140 rfl ce_uX2 (by decide) gw_92 (fun _ _ _ _ h => h) tyX2_ok nmX2 (Or.inl rfl))) (
  ce_fc (P := P_X2_reset) (ok_ret0 dX2_reset_143 rfl) (
  ce_fn (P := P_X2_reset)))))))))))
noncomputable def ta_X2_reset : Nat → Option ce_N := (ce_tr 84 (ce_tr 42 (ce_fd tb_X2_reset_0) (ce_fd tb_X2_reset_1)) (ce_tr 128 (ce_fd tb_X2_reset_2) (ce_fd tb_X2_reset_3)))
theorem tx_X2_reset : ∀ pc f, ta_X2_reset pc = some f → P_X2_reset pc f := (ce_tr_ok (P := P_X2_reset) (ce_tr_ok (P := P_X2_reset) (ce_fd_ok (P := P_X2_reset) tk_X2_reset_0) (ce_fd_ok (P := P_X2_reset) tk_X2_reset_1)) (ce_tr_ok (P := P_X2_reset) (ce_fd_ok (P := P_X2_reset) tk_X2_reset_2) (ce_fd_ok (P := P_X2_reset) tk_X2_reset_3)))
noncomputable def F_X2_reset : ce_C := ce_M ta_X2_reset 2 0 0 1000000
theorem m_X2_reset : ∀ l : Launch, l.stackTraces = false → ce_MS l yX2_reset (.code yX2_reset cX2_reset 2 none) 0 0 0 F_X2_reset := fun l hl => ce_met hl (by decide +kernel) tx_X2_reset
theorem hp_X2_reset : yX2_reset.cls ≠ "java/lang/invoke/MethodHandle" ∧ yX2_reset.cls ≠ "java/lang/invoke/VarHandle" ∧ (parseMethodDescriptor yX2_reset.desc).map (fun d => d.parameters.length) = some 1 := by decide +kernel
abbrev P_X3_init : Nat → ce_N → Prop := ce_OKN "Carcasswright$Obstacle" "<init>" cX3_init 1 none 0 (some [])
noncomputable def tb_X3_init_0 : List (Nat × ce_N) := [(0, ce_li (ce_aload 0 1)),
  (1, ce_li (ce_oi 4)),
  (4, ce_ret0)]
theorem tk_X3_init_0 : ∀ x ∈ tb_X3_init_0, P_X3_init x.1 x.2 :=
  ce_fc (P := P_X3_init) (ok_li (ok_aload_n dX3_init_0 rfl)) (
  ce_fc (P := P_X3_init) (ok_li (ok_oi dX3_init_1 gw_198 gw_57 gw_58)) (
  ce_fc (P := P_X3_init) (ok_ret0 dX3_init_4 rfl) (
  ce_fn (P := P_X3_init))))
noncomputable def ta_X3_init : Nat → Option ce_N := (ce_fd tb_X3_init_0)
theorem tx_X3_init : ∀ pc f, ta_X3_init pc = some f → P_X3_init pc f := (ce_fd_ok (P := P_X3_init) tk_X3_init_0)
noncomputable def F_X3_init : ce_C := ce_M ta_X3_init 1 0 0 1000000
theorem m_X3_init : ∀ l : Launch, l.stackTraces = false → ce_MS l yX3_init (.code yX3_init cX3_init 1 none) 0 0 0 F_X3_init := fun l hl => ce_met hl (by decide +kernel) tx_X3_init
theorem hp_X3_init : yX3_init.cls ≠ "java/lang/invoke/MethodHandle" ∧ yX3_init.cls ≠ "java/lang/invoke/VarHandle" ∧ (parseMethodDescriptor yX3_init.desc).map (fun d => d.parameters.length) = some 0 := by decide +kernel
abbrev P_X4_init : Nat → ce_N → Prop := ce_OKN "Carcasswright$Packer" "<init>" cX4_init 1 none 0 (some [])
noncomputable def tb_X4_init_0 : List (Nat × ce_N) := [(0, ce_li (ce_aload 0 1)),
  (1, ce_li (ce_oi 4)),
  (4, ce_li (ce_aload 0 5)),
  (5, ce_li (ce_push (.inl (.inl (25))) 7)),
  (7, ce_li (ce_newa 0 2 9)),
  (9, ce_li (ce_putf (tyX4 0) 8 0 12)),
  (12, ce_li (ce_aload 0 13)),
  (13, ce_li (ce_push (.inl (.inl (25))) 15)),
  (15, ce_li (ce_newa 0 2 17)),
  (17, ce_li (ce_putf (tyX4 1) 8 1 20)),
  (20, ce_li (ce_aload 0 21)),
  (21, ce_li (ce_push (.inl (.inl (25))) 23)),
  (23, ce_li (ce_newa 0 2 25)),
  (25, ce_li (ce_putf (tyX4 2) 8 2 28))]
theorem tk_X4_init_0 : ∀ x ∈ tb_X4_init_0, P_X4_init x.1 x.2 :=
  ce_fc (P := P_X4_init) (ok_li (ok_aload_n dX4_init_0 rfl)) (
  ce_fc (P := P_X4_init) (ok_li (ok_oi dX4_init_1 gw_404 gw_57 gw_58)) (
  ce_fc (P := P_X4_init) (ok_li (ok_aload_n dX4_init_4 rfl)) (
  ce_fc (P := P_X4_init) (ok_li (ok_bipush dX4_init_5 (by decide))) (
  ce_fc (P := P_X4_init) (ok_li (ok_newa_int dX4_init_7 gw_193)) (
  ce_fc (P := P_X4_init) (ok_li (ok_putf (ci := 8) (k := 0) (C := RX4) (T := TX4) (N := 4) (ty0 := tyX4) dX4_init_9 rfl ce_uX4 (by decide) gw_405 (fun _ _ _ _ h => h) tyX4_ok nmX4 (Or.inr ⟨rfl, rfl, rfl⟩))) (
  ce_fc (P := P_X4_init) (ok_li (ok_aload_n dX4_init_12 rfl)) (
  ce_fc (P := P_X4_init) (ok_li (ok_bipush dX4_init_13 (by decide))) (
  ce_fc (P := P_X4_init) (ok_li (ok_newa_int dX4_init_15 gw_193)) (
  ce_fc (P := P_X4_init) (ok_li (ok_putf (ci := 8) (k := 1) (C := RX4) (T := TX4) (N := 4) (ty0 := tyX4) dX4_init_17 rfl ce_uX4 (by decide) gw_406 (fun _ _ _ _ h => h) tyX4_ok nmX4 (Or.inr ⟨rfl, rfl, rfl⟩))) (
  ce_fc (P := P_X4_init) (ok_li (ok_aload_n dX4_init_20 rfl)) (
  ce_fc (P := P_X4_init) (ok_li (ok_bipush dX4_init_21 (by decide))) (
  ce_fc (P := P_X4_init) (ok_li (ok_newa_int dX4_init_23 gw_193)) (
  ce_fc (P := P_X4_init) (ok_li (ok_putf (ci := 8) (k := 2) (C := RX4) (T := TX4) (N := 4) (ty0 := tyX4) dX4_init_25 rfl ce_uX4 (by decide) gw_407 (fun _ _ _ _ h => h) tyX4_ok nmX4 (Or.inr ⟨rfl, rfl, rfl⟩))) (
  ce_fn (P := P_X4_init)))))))))))))))
noncomputable def tb_X4_init_1 : List (Nat × ce_N) := [(28, ce_ret0)]
theorem tk_X4_init_1 : ∀ x ∈ tb_X4_init_1, P_X4_init x.1 x.2 :=
  ce_fc (P := P_X4_init) (ok_ret0 dX4_init_28 rfl) (
  ce_fn (P := P_X4_init))
noncomputable def ta_X4_init : Nat → Option ce_N := (ce_tr 28 (ce_fd tb_X4_init_0) (ce_fd tb_X4_init_1))
theorem tx_X4_init : ∀ pc f, ta_X4_init pc = some f → P_X4_init pc f := (ce_tr_ok (P := P_X4_init) (ce_fd_ok (P := P_X4_init) tk_X4_init_0) (ce_fd_ok (P := P_X4_init) tk_X4_init_1))
noncomputable def F_X4_init : ce_C := ce_M ta_X4_init 1 3 75 1000000
theorem m_X4_init : ∀ l : Launch, l.stackTraces = false → ce_MS l yX4_init (.code yX4_init cX4_init 1 none) 0 3 75 F_X4_init := fun l hl => ce_met hl (by decide +kernel) tx_X4_init
theorem hp_X4_init : yX4_init.cls ≠ "java/lang/invoke/MethodHandle" ∧ yX4_init.cls ≠ "java/lang/invoke/VarHandle" ∧ (parseMethodDescriptor yX4_init.desc).map (fun d => d.parameters.length) = some 0 := by decide +kernel
abbrev P_X5_init : Nat → ce_N → Prop := ce_OKN "Carcasswright$PlacedModule" "<init>" cX5_init 2 none 0 (some [])
noncomputable def tb_X5_init_0 : List (Nat × ce_N) := [(0, ce_li (ce_aload 0 1)),
  (1, ce_li (ce_oi 4)),
  (4, ce_li (ce_aload 0 5)),
  (5, ce_li (ce_aload 1 6)),
  (6, ce_li (ce_putf (tyX5 0) 9 0 9)),
  (9, ce_ret0)]
theorem tk_X5_init_0 : ∀ x ∈ tb_X5_init_0, P_X5_init x.1 x.2 :=
  ce_fc (P := P_X5_init) (ok_li (ok_aload_n dX5_init_0 rfl)) (
  ce_fc (P := P_X5_init) (ok_li (ok_oi dX5_init_1 gw_219 gw_57 gw_58)) (
  ce_fc (P := P_X5_init) (ok_li (ok_aload_n dX5_init_4 rfl)) (
  ce_fc (P := P_X5_init) (ok_li (ok_aload_n dX5_init_5 rfl)) (
  ce_fc (P := P_X5_init) (ok_li (ok_putf (ci := 9) (k := 0) (C := RX5) (T := TX5) (N := 5) (ty0 := tyX5) dX5_init_6 rfl ce_uX5 (by decide) gw_220 (fun _ _ _ _ h => h) tyX5_ok nmX5 (Or.inl rfl))) (
  ce_fc (P := P_X5_init) (ok_ret0 dX5_init_9 rfl) (
  ce_fn (P := P_X5_init)))))))
noncomputable def ta_X5_init : Nat → Option ce_N := (ce_fd tb_X5_init_0)
theorem tx_X5_init : ∀ pc f, ta_X5_init pc = some f → P_X5_init pc f := (ce_fd_ok (P := P_X5_init) tk_X5_init_0)
noncomputable def F_X5_init : ce_C := ce_M ta_X5_init 2 0 0 1000000
theorem m_X5_init : ∀ l : Launch, l.stackTraces = false → ce_MS l yX5_init (.code yX5_init cX5_init 2 none) 0 0 0 F_X5_init := fun l hl => ce_met hl (by decide +kernel) tx_X5_init
theorem hp_X5_init : yX5_init.cls ≠ "java/lang/invoke/MethodHandle" ∧ yX5_init.cls ≠ "java/lang/invoke/VarHandle" ∧ (parseMethodDescriptor yX5_init.desc).map (fun d => d.parameters.length) = some 1 := by decide +kernel
abbrev P_X6_cutSquares : Nat → ce_N → Prop := ce_OKN "Carcasswright$Room" "cutSquares" cX6_cutSquares 5 (some .long) 0 (some [])
noncomputable def tb_X6_cutSquares_0 : List (Nat × ce_N) := [(0, ce_li (ce_push (.inr (.inl (.inl 0))) 1)),
  (1, ce_li (ce_lstore 1 2 5)),
  (2, ce_li (ce_push (.inl (.inl (0))) 3)),
  (3, ce_li (ce_istore 3 4 5)),
  (4, ce_li (ce_iload 3 5)),
  (5, ce_li (ce_aload 0 6)),
  (6, ce_li (ce_getf 10 8 9)),
  (9, ce_li (ce_icmp false false true 38 12)),
  (38, ce_li (ce_lload 1 39)),
  (39, ce_retl)]
theorem tk_X6_cutSquares_0 : ∀ x ∈ tb_X6_cutSquares_0, P_X6_cutSquares x.1 x.2 :=
  ce_fc (P := P_X6_cutSquares) (ok_li (ok_lconst0 dX6_cutSquares_0)) (
  ce_fc (P := P_X6_cutSquares) (ok_li (ok_lstore_n dX6_cutSquares_1 rfl)) (
  ce_fc (P := P_X6_cutSquares) (ok_li (ok_iconst dX6_cutSquares_2)) (
  ce_fc (P := P_X6_cutSquares) (ok_li (ok_istore_n dX6_cutSquares_3 rfl)) (
  ce_fc (P := P_X6_cutSquares) (ok_li (ok_iload_n dX6_cutSquares_4 rfl)) (
  ce_fc (P := P_X6_cutSquares) (ok_li (ok_aload_n dX6_cutSquares_5 rfl)) (
  ce_fc (P := P_X6_cutSquares) (ok_li (ok_getf (ci := 10) (k := 8) (C := RX6) (T := TX6) (N := 10) dX6_cutSquares_6 rfl ce_uX6 (by decide) gw_260 (fun _ _ _ _ h => h))) (
  ce_fc (P := P_X6_cutSquares) (ok_li (ok_icmp_ge dX6_cutSquares_9 (by decide))) (
  ce_fc (P := P_X6_cutSquares) (ok_li (ok_lload_n dX6_cutSquares_38 rfl)) (
  ce_fc (P := P_X6_cutSquares) (ok_retl dX6_cutSquares_39 rfl) (
  ce_fn (P := P_X6_cutSquares)))))))))))
noncomputable def ta_X6_cutSquares : Nat → Option ce_N := (ce_fd tb_X6_cutSquares_0)
theorem tx_X6_cutSquares : ∀ pc f, ta_X6_cutSquares pc = some f → P_X6_cutSquares pc f := (ce_fd_ok (P := P_X6_cutSquares) tk_X6_cutSquares_0)
noncomputable def F_X6_cutSquares : ce_C := ce_M ta_X6_cutSquares 5 0 0 1000000
theorem m_X6_cutSquares : ∀ l : Launch, l.stackTraces = false → ce_MS l yX6_cutSquares (.code yX6_cutSquares cX6_cutSquares 5 (some .long)) 0 0 0 F_X6_cutSquares := fun l hl => ce_met hl (by decide +kernel) tx_X6_cutSquares
theorem hp_X6_cutSquares : yX6_cutSquares.cls ≠ "java/lang/invoke/MethodHandle" ∧ yX6_cutSquares.cls ≠ "java/lang/invoke/VarHandle" ∧ (parseMethodDescriptor yX6_cutSquares.desc).map (fun d => d.parameters.length) = some 0 := by decide +kernel
abbrev P_X6_hasModulesInTheWay : Nat → ce_N → Prop := ce_OKN "Carcasswright$Room" "hasModulesInTheWay" cX6_hasModulesInTheWay 5 (some .boolean) 0 (some [])
noncomputable def tb_X6_hasModulesInTheWay_0 : List (Nat × ce_N) := [(0, ce_li (ce_push (.inl (.inl (0))) 1)),
  (1, ce_li (ce_istore 1 2 5)),
  (2, ce_li (ce_iload 1 3)),
  (3, ce_li (ce_aload 0 4)),
  (4, ce_li (ce_getf 10 8 7)),
  (7, ce_li (ce_icmp false false true 63 10)),
  (63, ce_li (ce_push (.inl (.inl (0))) 64)),
  (64, ce_reti .boolean)]
theorem tk_X6_hasModulesInTheWay_0 : ∀ x ∈ tb_X6_hasModulesInTheWay_0, P_X6_hasModulesInTheWay x.1 x.2 :=
  ce_fc (P := P_X6_hasModulesInTheWay) (ok_li (ok_iconst dX6_hasModulesInTheWay_0)) (
  ce_fc (P := P_X6_hasModulesInTheWay) (ok_li (ok_istore_n dX6_hasModulesInTheWay_1 rfl)) (
  ce_fc (P := P_X6_hasModulesInTheWay) (ok_li (ok_iload_n dX6_hasModulesInTheWay_2 rfl)) (
  ce_fc (P := P_X6_hasModulesInTheWay) (ok_li (ok_aload_n dX6_hasModulesInTheWay_3 rfl)) (
  ce_fc (P := P_X6_hasModulesInTheWay) (ok_li (ok_getf (ci := 10) (k := 8) (C := RX6) (T := TX6) (N := 10) dX6_hasModulesInTheWay_4 rfl ce_uX6 (by decide) gw_260 (fun _ _ _ _ h => h))) (
  ce_fc (P := P_X6_hasModulesInTheWay) (ok_li (ok_icmp_ge dX6_hasModulesInTheWay_7 (by decide))) (
  ce_fc (P := P_X6_hasModulesInTheWay) (ok_li (ok_iconst dX6_hasModulesInTheWay_63)) (
  ce_fc (P := P_X6_hasModulesInTheWay) (ok_reti dX6_hasModulesInTheWay_64 rfl) (
  ce_fn (P := P_X6_hasModulesInTheWay)))))))))
noncomputable def ta_X6_hasModulesInTheWay : Nat → Option ce_N := (ce_fd tb_X6_hasModulesInTheWay_0)
theorem tx_X6_hasModulesInTheWay : ∀ pc f, ta_X6_hasModulesInTheWay pc = some f → P_X6_hasModulesInTheWay pc f := (ce_fd_ok (P := P_X6_hasModulesInTheWay) tk_X6_hasModulesInTheWay_0)
noncomputable def F_X6_hasModulesInTheWay : ce_C := ce_M ta_X6_hasModulesInTheWay 5 0 0 1000000
theorem m_X6_hasModulesInTheWay : ∀ l : Launch, l.stackTraces = false → ce_MS l yX6_hasModulesInTheWay (.code yX6_hasModulesInTheWay cX6_hasModulesInTheWay 5 (some .boolean)) 0 0 0 F_X6_hasModulesInTheWay := fun l hl => ce_met hl (by decide +kernel) tx_X6_hasModulesInTheWay
theorem hp_X6_hasModulesInTheWay : yX6_hasModulesInTheWay.cls ≠ "java/lang/invoke/MethodHandle" ∧ yX6_hasModulesInTheWay.cls ≠ "java/lang/invoke/VarHandle" ∧ (parseMethodDescriptor yX6_hasModulesInTheWay.desc).map (fun d => d.parameters.length) = some 0 := by decide +kernel
abbrev P_X6_hasOnlyOwnParts : Nat → ce_N → Prop := ce_OKN "Carcasswright$Room" "hasOnlyOwnParts" cX6_hasOnlyOwnParts 3 (some .boolean) 0 (some [])
noncomputable def tb_X6_hasOnlyOwnParts_0 : List (Nat × ce_N) := [(0, ce_li (ce_push (.inl (.inl (0))) 1)),
  (1, ce_li (ce_istore 1 2 3)),
  (2, ce_li (ce_iload 1 3)),
  (3, ce_li (ce_aload 0 4)),
  (4, ce_li (ce_getf 10 8 7)),
  (7, ce_li (ce_icmp false false true 41 10)),
  (41, ce_li (ce_push (.inl (.inl (1))) 42)),
  (42, ce_reti .boolean)]
theorem tk_X6_hasOnlyOwnParts_0 : ∀ x ∈ tb_X6_hasOnlyOwnParts_0, P_X6_hasOnlyOwnParts x.1 x.2 :=
  ce_fc (P := P_X6_hasOnlyOwnParts) (ok_li (ok_iconst dX6_hasOnlyOwnParts_0)) (
  ce_fc (P := P_X6_hasOnlyOwnParts) (ok_li (ok_istore_n dX6_hasOnlyOwnParts_1 rfl)) (
  ce_fc (P := P_X6_hasOnlyOwnParts) (ok_li (ok_iload_n dX6_hasOnlyOwnParts_2 rfl)) (
  ce_fc (P := P_X6_hasOnlyOwnParts) (ok_li (ok_aload_n dX6_hasOnlyOwnParts_3 rfl)) (
  ce_fc (P := P_X6_hasOnlyOwnParts) (ok_li (ok_getf (ci := 10) (k := 8) (C := RX6) (T := TX6) (N := 10) dX6_hasOnlyOwnParts_4 rfl ce_uX6 (by decide) gw_260 (fun _ _ _ _ h => h))) (
  ce_fc (P := P_X6_hasOnlyOwnParts) (ok_li (ok_icmp_ge dX6_hasOnlyOwnParts_7 (by decide))) (
  ce_fc (P := P_X6_hasOnlyOwnParts) (ok_li (ok_iconst dX6_hasOnlyOwnParts_41)) (
  ce_fc (P := P_X6_hasOnlyOwnParts) (ok_reti dX6_hasOnlyOwnParts_42 rfl) (
  ce_fn (P := P_X6_hasOnlyOwnParts)))))))))
noncomputable def ta_X6_hasOnlyOwnParts : Nat → Option ce_N := (ce_fd tb_X6_hasOnlyOwnParts_0)
theorem tx_X6_hasOnlyOwnParts : ∀ pc f, ta_X6_hasOnlyOwnParts pc = some f → P_X6_hasOnlyOwnParts pc f := (ce_fd_ok (P := P_X6_hasOnlyOwnParts) tk_X6_hasOnlyOwnParts_0)
noncomputable def F_X6_hasOnlyOwnParts : ce_C := ce_M ta_X6_hasOnlyOwnParts 3 0 0 1000000
theorem m_X6_hasOnlyOwnParts : ∀ l : Launch, l.stackTraces = false → ce_MS l yX6_hasOnlyOwnParts (.code yX6_hasOnlyOwnParts cX6_hasOnlyOwnParts 3 (some .boolean)) 0 0 0 F_X6_hasOnlyOwnParts := fun l hl => ce_met hl (by decide +kernel) tx_X6_hasOnlyOwnParts
theorem hp_X6_hasOnlyOwnParts : yX6_hasOnlyOwnParts.cls ≠ "java/lang/invoke/MethodHandle" ∧ yX6_hasOnlyOwnParts.cls ≠ "java/lang/invoke/VarHandle" ∧ (parseMethodDescriptor yX6_hasOnlyOwnParts.desc).map (fun d => d.parameters.length) = some 0 := by decide +kernel
abbrev P_X6_moduleAt : Nat → ce_N → Prop := ce_OKN "Carcasswright$Room" "moduleAt" cX6_moduleAt 2 (some (.object "Carcasswright$PlacedModule")) 0 (some [])
noncomputable def tb_X6_moduleAt_0 : List (Nat × ce_N) := [(0, ce_li (ce_iload 1 1)),
  (1, ce_li (ce_if false false false 18 4)),
  (4, ce_li (ce_iload 1 5)),
  (5, ce_li (ce_aload 0 6)),
  (6, ce_li (ce_getf 10 8 9)),
  (9, ce_li (ce_icmp false false true 18 12)),
  (18, ce_thr 1)]
theorem tk_X6_moduleAt_0 : ∀ x ∈ tb_X6_moduleAt_0, P_X6_moduleAt x.1 x.2 :=
  ce_fc (P := P_X6_moduleAt) (ok_li (ok_iload_n dX6_moduleAt_0 rfl)) (
  ce_fc (P := P_X6_moduleAt) (ok_li (ok_if_lt dX6_moduleAt_1 (by decide))) (
  ce_fc (P := P_X6_moduleAt) (ok_li (ok_iload_n dX6_moduleAt_4 rfl)) (
  ce_fc (P := P_X6_moduleAt) (ok_li (ok_aload_n dX6_moduleAt_5 rfl)) (
  ce_fc (P := P_X6_moduleAt) (ok_li (ok_getf (ci := 10) (k := 8) (C := RX6) (T := TX6) (N := 10) dX6_moduleAt_6 rfl ce_uX6 (by decide) gw_260 (fun _ _ _ _ h => h))) (
  ce_fc (P := P_X6_moduleAt) (ok_li (ok_icmp_ge dX6_moduleAt_9 (by decide))) (
  ce_fc (P := P_X6_moduleAt) (ok_thr (k := 1) (names := ["java/lang/RuntimeException", "java/lang/Exception"]) dX6_moduleAt_18 dX6_moduleAt_21 dX6_moduleAt_22 dX6_moduleAt_25 rfl (by decide +kernel) (by decide +kernel) (by decide) gw_488 gw_22 (th_1 gw_531) (by decide +kernel) (by decide +kernel)) (
  ce_fn (P := P_X6_moduleAt))))))))
noncomputable def ta_X6_moduleAt : Nat → Option ce_N := (ce_fd tb_X6_moduleAt_0)
theorem tx_X6_moduleAt : ∀ pc f, ta_X6_moduleAt pc = some f → P_X6_moduleAt pc f := (ce_fd_ok (P := P_X6_moduleAt) tk_X6_moduleAt_0)
noncomputable def F_X6_moduleAt : ce_C := ce_M ta_X6_moduleAt 2 1 6 1000000
theorem m_X6_moduleAt : ∀ l : Launch, l.stackTraces = false → ce_MS l yX6_moduleAt (.code yX6_moduleAt cX6_moduleAt 2 (some (.object "Carcasswright$PlacedModule"))) 0 1 6 F_X6_moduleAt := fun l hl => ce_met hl (by decide +kernel) tx_X6_moduleAt
theorem hp_X6_moduleAt : yX6_moduleAt.cls ≠ "java/lang/invoke/MethodHandle" ∧ yX6_moduleAt.cls ≠ "java/lang/invoke/VarHandle" ∧ (parseMethodDescriptor yX6_moduleAt.desc).map (fun d => d.parameters.length) = some 1 := by decide +kernel
