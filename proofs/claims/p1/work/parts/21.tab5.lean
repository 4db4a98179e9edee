abbrev P_Jx4a65c_grow_d5877 : Nat → ce_N → Prop := ce_OKN "java/util/ArrayList" "grow" cJx4a65c_grow_d5877 1 (some (.array (.object "java/lang/Object"))) 3 (some [])
noncomputable def tb_Jx4a65c_grow_d5877_0 : List (Nat × ce_N) := [(0, ce_li (ce_aload 0 1)),
  (1, ce_li (ce_aload 0 2)),
  (2, ce_li (ce_getf 3 2 5)),
  (5, ce_li (ce_push (.inl (.inl (1))) 6)),
  (6, ce_li (ce_bin ce_addo 7)),
  (7, ce_call 2 1 22 10 (.inr true) (ce_CV 3 F_Jx4a65c_grow_92f84)),
  (10, ce_reta)]
theorem tk_Jx4a65c_grow_d5877_0 : ∀ x ∈ tb_Jx4a65c_grow_d5877_0, P_Jx4a65c_grow_d5877 x.1 x.2 :=
  ce_fc (P := P_Jx4a65c_grow_d5877) (ok_li (ok_aload_n dJx4a65c_grow_d5877_0 rfl)) (
  ce_fc (P := P_Jx4a65c_grow_d5877) (ok_li (ok_aload_n dJx4a65c_grow_d5877_1 rfl)) (
  ce_fc (P := P_Jx4a65c_grow_d5877) (ok_li (ok_getf (ci := 3) (k := 2) (C := RJx4a65c) (T := TJx4a65c) (N := 3) dJx4a65c_grow_d5877_2 rfl ce_uJx4a65c (by decide) gw_1508 (fun _ _ _ _ h => h))) (
  ce_fc (P := P_Jx4a65c_grow_d5877) (ok_li (ok_iconst dJx4a65c_grow_d5877_5)) (
  ce_fc (P := P_Jx4a65c_grow_d5877) (ok_li (ok_iadd dJx4a65c_grow_d5877_6)) (
  ce_fc (P := P_Jx4a65c_grow_d5877) (ok_call (ru_V (ci := 3) (C := RJx4a65c) (Tf := TJx4a65c) (N := 3) m_Jx4a65c_grow_92f84 (by decide) (by decide) rfl gw_1725 gw_1722 gw_1724 gp_6 gw_16 ⟨rfl, hp_Jx4a65c_grow_92f84⟩ dJx4a65c_grow_d5877_7) ca_t) (
  ce_fc (P := P_Jx4a65c_grow_d5877) (ok_reta dJx4a65c_grow_d5877_10 rfl (Or.inr ⟨_, rfl⟩)) (
  ce_fn (P := P_Jx4a65c_grow_d5877))))))))
noncomputable def ta_Jx4a65c_grow_d5877 : Nat → Option ce_N := (ce_fd tb_Jx4a65c_grow_d5877_0)
theorem tx_Jx4a65c_grow_d5877 : ∀ pc f, ta_Jx4a65c_grow_d5877 pc = some f → P_Jx4a65c_grow_d5877 pc f := (ce_fd_ok (P := P_Jx4a65c_grow_d5877) tk_Jx4a65c_grow_d5877_0)
noncomputable def F_Jx4a65c_grow_d5877 : ce_C := ce_M ta_Jx4a65c_grow_d5877 1 1 22 1000000
theorem m_Jx4a65c_grow_d5877 : ∀ l : Launch, l.stackTraces = false → ce_MS l yJx4a65c_grow_d5877 (.code yJx4a65c_grow_d5877 cJx4a65c_grow_d5877 1 (some (.array (.object "java/lang/Object")))) 3 1 22 F_Jx4a65c_grow_d5877 := fun l hl => ce_met hl (by decide +kernel) tx_Jx4a65c_grow_d5877
theorem hp_Jx4a65c_grow_d5877 : yJx4a65c_grow_d5877.cls ≠ "java/lang/invoke/MethodHandle" ∧ yJx4a65c_grow_d5877.cls ≠ "java/lang/invoke/VarHandle" ∧ (parseMethodDescriptor yJx4a65c_grow_d5877.desc).map (fun d => d.parameters.length) = some 0 := by decide +kernel
abbrev P_L_addBoards : Nat → ce_N → Prop := ce_OKN "CarcasswrightLaw" "addBoards" cL_addBoards 8 (some .int) 3 (some [(0, 16, 19, 13), (0, 16, 23, 15)])
noncomputable def tb_L_addBoards_0 : List (Nat × ce_N) := [(0, ce_li (ce_aload 6 2)),
  (2, ce_li (ce_push (.inl (.inl (0))) 3)),
  (3, ce_li (ce_aload 0 4)),
  (4, ce_li (ce_iload 1 5)),
  (5, ce_li (ce_iload 2 6)),
  (6, ce_li (ce_iload 3 7)),
  (7, ce_li (ce_iload 4 9)),
  (9, ce_li (ce_iload 5 11)),
  (11, ce_call 6 1 6 14 (.inl (0, 21, 7)) (ce_CV 15 F_X11_addBoards)),
  (14, ce_li (ce_i2l 15)),
  (15, ce_li (ce_last 16)),
  (16, ce_li (ce_goto 27)),
  (21, ce_li (ce_push (.inl (.inl (1))) 22)),
  (22, ce_reti .int)]
theorem tk_L_addBoards_0 : ∀ x ∈ tb_L_addBoards_0, P_L_addBoards x.1 x.2 :=
  ce_fc (P := P_L_addBoards) (ok_li (ok_aload dL_addBoards_0)) (
  ce_fc (P := P_L_addBoards) (ok_li (ok_iconst dL_addBoards_2)) (
  ce_fc (P := P_L_addBoards) (ok_li (ok_aload_n dL_addBoards_3 rfl)) (
  ce_fc (P := P_L_addBoards) (ok_li (ok_iload_n dL_addBoards_4 rfl)) (
  ce_fc (P := P_L_addBoards) (ok_li (ok_iload_n dL_addBoards_5 rfl)) (
  ce_fc (P := P_L_addBoards) (ok_li (ok_iload_n dL_addBoards_6 rfl)) (
  ce_fc (P := P_L_addBoards) (ok_li (ok_iload dL_addBoards_7)) (
  ce_fc (P := P_L_addBoards) (ok_li (ok_iload dL_addBoards_9)) (
  ce_fc (P := P_L_addBoards) (ok_call (ca := .inl (0, 21, 7)) (hh := some [(0, 16, 19, 13), (0, 16, 23, 15)]) (ru_V (ci := 15) (C := RX11) (Tf := TX11) (N := 7) m_X11_addBoards (by decide) (by decide) rfl gw_1215 gw_1212 gw_1213 gw_1214 gw_1 ⟨rfl, hp_X11_addBoards⟩ dL_addBoards_11) (⟨_, _, _, (0 : Fin 4), rfl, rfl, by decide, by decide, gw_716, gn_0, Or.inr ⟨dL_addBoards_19, rfl⟩, by decide⟩)) (
  ce_fc (P := P_L_addBoards) (ok_li (ok_i2l dL_addBoards_14)) (
  ce_fc (P := P_L_addBoards) (ok_li (ok_last dL_addBoards_15)) (
  ce_fc (P := P_L_addBoards) (ok_li (ok_goto dL_addBoards_16 (by decide))) (
  ce_fc (P := P_L_addBoards) (ok_li (ok_iconst dL_addBoards_21)) (
  ce_fc (P := P_L_addBoards) (ok_reti dL_addBoards_22 rfl) (
  ce_fn (P := P_L_addBoards)))))))))))))))
noncomputable def tb_L_addBoards_1 : List (Nat × ce_N) := [(27, ce_li (ce_push (.inl (.inl (0))) 28)),
  (28, ce_reti .int)]
theorem tk_L_addBoards_1 : ∀ x ∈ tb_L_addBoards_1, P_L_addBoards x.1 x.2 :=
  ce_fc (P := P_L_addBoards) (ok_li (ok_iconst dL_addBoards_27)) (
  ce_fc (P := P_L_addBoards) (ok_reti dL_addBoards_28 rfl) (
  ce_fn (P := P_L_addBoards)))
noncomputable def ta_L_addBoards : Nat → Option ce_N := (ce_tr 27 (ce_fd tb_L_addBoards_0) (ce_fd tb_L_addBoards_1))
theorem tx_L_addBoards : ∀ pc f, ta_L_addBoards pc = some f → P_L_addBoards pc f := (ce_tr_ok (P := P_L_addBoards) (ce_fd_ok (P := P_L_addBoards) tk_L_addBoards_0) (ce_fd_ok (P := P_L_addBoards) tk_L_addBoards_1))
noncomputable def F_L_addBoards : ce_C := ce_M ta_L_addBoards 8 1 6 1000000
theorem m_L_addBoards : ∀ l : Launch, l.stackTraces = false → ce_MS l yL_addBoards (.codeWith yL_addBoards cL_addBoards 8 (some .int) [(0, 16, 19, 13), (0, 16, 23, 15)]) 3 1 6 F_L_addBoards := fun l hl => ce_metW hl (by decide +kernel) tx_L_addBoards
theorem hp_L_addBoards : yL_addBoards.cls ≠ "java/lang/invoke/MethodHandle" ∧ yL_addBoards.cls ≠ "java/lang/invoke/VarHandle" ∧ (parseMethodDescriptor yL_addBoards.desc).map (fun d => d.parameters.length) = some 7 := by decide +kernel
abbrev P_L_addType : Nat → ce_N → Prop := ce_OKN "CarcasswrightLaw" "addType" cL_addType 3 (some .int) 3 (some [(0, 8, 11, 13), (0, 8, 14, 15)])
noncomputable def tb_L_addType_0 : List (Nat × ce_N) := [(0, ce_li (ce_aload 1 1)),
  (1, ce_li (ce_push (.inl (.inl (0))) 2)),
  (2, ce_li (ce_aload 0 3)),
  (3, ce_call 1 1 6 6 (.inl (0, 12, 2)) (ce_CV 15 F_X11_addType)),
  (12, ce_li (ce_push (.inl (.inl (1))) 13)),
  (13, ce_reti .int)]
theorem tk_L_addType_0 : ∀ x ∈ tb_L_addType_0, P_L_addType x.1 x.2 :=
  ce_fc (P := P_L_addType) (ok_li (ok_aload_n dL_addType_0 rfl)) (
  ce_fc (P := P_L_addType) (ok_li (ok_iconst dL_addType_1)) (
  ce_fc (P := P_L_addType) (ok_li (ok_aload_n dL_addType_2 rfl)) (
  ce_fc (P := P_L_addType) (ok_call (ca := .inl (0, 12, 2)) (hh := some [(0, 8, 11, 13), (0, 8, 14, 15)]) (ru_V (ci := 15) (C := RX11) (Tf := TX11) (N := 7) m_X11_addType (by decide) (by decide) rfl gw_940 gw_937 gw_938 gw_939 gw_1 ⟨rfl, hp_X11_addType⟩ dL_addType_3) (⟨_, _, _, (2 : Fin 4), rfl, rfl, by decide, by decide, gw_716, gn_0, Or.inl ⟨dL_addType_11, rfl, rfl⟩, by decide⟩)) (
  ce_fc (P := P_L_addType) (ok_li (ok_iconst dL_addType_12)) (
  ce_fc (P := P_L_addType) (ok_reti dL_addType_13 rfl) (
  ce_fn (P := P_L_addType)))))))
noncomputable def ta_L_addType : Nat → Option ce_N := (ce_fd tb_L_addType_0)
theorem tx_L_addType : ∀ pc f, ta_L_addType pc = some f → P_L_addType pc f := (ce_fd_ok (P := P_L_addType) tk_L_addType_0)
noncomputable def F_L_addType : ce_C := ce_M ta_L_addType 3 1 6 1000000
theorem m_L_addType : ∀ l : Launch, l.stackTraces = false → ce_MS l yL_addType (.codeWith yL_addType cL_addType 3 (some .int) [(0, 8, 11, 13), (0, 8, 14, 15)]) 3 1 6 F_L_addType := fun l hl => ce_metW hl (by decide +kernel) tx_L_addType
theorem hp_L_addType : yL_addType.cls ≠ "java/lang/invoke/MethodHandle" ∧ yL_addType.cls ≠ "java/lang/invoke/VarHandle" ∧ (parseMethodDescriptor yL_addType.desc).map (fun d => d.parameters.length) = some 2 := by decide +kernel
abbrev P_L_addWall : Nat → ce_N → Prop := ce_OKN "CarcasswrightLaw" "addWall" cL_addWall 5 (some .int) 3 (some [(0, 10, 13, 13), (0, 10, 17, 15)])
noncomputable def tb_L_addWall_0 : List (Nat × ce_N) := [(0, ce_li (ce_aload 3 1)),
  (1, ce_li (ce_push (.inl (.inl (0))) 2)),
  (2, ce_li (ce_aload 0 3)),
  (3, ce_li (ce_iload 1 4)),
  (4, ce_li (ce_iload 2 5)),
  (5, ce_call 3 1 6 8 (.inl (0, 15, 4)) (ce_CV 15 F_X11_addWall)),
  (8, ce_li (ce_i2l 9)),
  (9, ce_li (ce_last 10)),
  (10, ce_li (ce_goto 21)),
  (15, ce_li (ce_push (.inl (.inl (1))) 16)),
  (16, ce_reti .int),
  (21, ce_li (ce_push (.inl (.inl (0))) 22)),
  (22, ce_reti .int)]
theorem tk_L_addWall_0 : ∀ x ∈ tb_L_addWall_0, P_L_addWall x.1 x.2 :=
  ce_fc (P := P_L_addWall) (ok_li (ok_aload_n dL_addWall_0 rfl)) (
  ce_fc (P := P_L_addWall) (ok_li (ok_iconst dL_addWall_1)) (
  ce_fc (P := P_L_addWall) (ok_li (ok_aload_n dL_addWall_2 rfl)) (
  ce_fc (P := P_L_addWall) (ok_li (ok_iload_n dL_addWall_3 rfl)) (
  ce_fc (P := P_L_addWall) (ok_li (ok_iload_n dL_addWall_4 rfl)) (
  ce_fc (P := P_L_addWall) (ok_call (ca := .inl (0, 15, 4)) (hh := some [(0, 10, 13, 13), (0, 10, 17, 15)]) (ru_V (ci := 15) (C := RX11) (Tf := TX11) (N := 7) m_X11_addWall (by decide) (by decide) rfl gw_721 gw_718 gw_719 gw_720 gw_1 ⟨rfl, hp_X11_addWall⟩ dL_addWall_5) (⟨_, _, _, (0 : Fin 4), rfl, rfl, by decide, by decide, gw_716, gn_0, Or.inr ⟨dL_addWall_13, rfl⟩, by decide⟩)) (
  ce_fc (P := P_L_addWall) (ok_li (ok_i2l dL_addWall_8)) (
  ce_fc (P := P_L_addWall) (ok_li (ok_last dL_addWall_9)) (
  ce_fc (P := P_L_addWall) (ok_li (ok_goto dL_addWall_10 (by decide))) (
  ce_fc (P := P_L_addWall) (ok_li (ok_iconst dL_addWall_15)) (
  ce_fc (P := P_L_addWall) (ok_reti dL_addWall_16 rfl) (
  ce_fc (P := P_L_addWall) (ok_li (ok_iconst dL_addWall_21)) (
  ce_fc (P := P_L_addWall) (ok_reti dL_addWall_22 rfl) (
  ce_fn (P := P_L_addWall))))))))))))))
noncomputable def ta_L_addWall : Nat → Option ce_N := (ce_fd tb_L_addWall_0)
theorem tx_L_addWall : ∀ pc f, ta_L_addWall pc = some f → P_L_addWall pc f := (ce_fd_ok (P := P_L_addWall) tk_L_addWall_0)
noncomputable def F_L_addWall : ce_C := ce_M ta_L_addWall 5 1 6 1000000
theorem m_L_addWall : ∀ l : Launch, l.stackTraces = false → ce_MS l yL_addWall (.codeWith yL_addWall cL_addWall 5 (some .int) [(0, 10, 13, 13), (0, 10, 17, 15)]) 3 1 6 F_L_addWall := fun l hl => ce_metW hl (by decide +kernel) tx_L_addWall
theorem hp_L_addWall : yL_addWall.cls ≠ "java/lang/invoke/MethodHandle" ∧ yL_addWall.cls ≠ "java/lang/invoke/VarHandle" ∧ (parseMethodDescriptor yL_addWall.desc).map (fun d => d.parameters.length) = some 4 := by decide +kernel
abbrev P_L_clamp : Nat → ce_N → Prop := ce_OKN "CarcasswrightLaw" "clamp" cL_clamp 6 (some .int) 3 (some [(0, 12, 15, 27), (0, 12, 19, 44)])
noncomputable def tb_L_clamp_0 : List (Nat × ce_N) := [(0, ce_li (ce_aload 4 2)),
  (2, ce_li (ce_push (.inl (.inl (0))) 3)),
  (3, ce_li (ce_aload 0 4)),
  (4, ce_li (ce_iload 1 5)),
  (5, ce_li (ce_iload 2 6)),
  (6, ce_li (ce_iload 3 7)),
  (7, ce_call 4 1 6 10 (.inl (1, 17, 5)) (ce_CV 15 F_X11_clamp)),
  (17, ce_li (ce_push (.inl (.inl (1))) 18)),
  (18, ce_reti .int)]
theorem tk_L_clamp_0 : ∀ x ∈ tb_L_clamp_0, P_L_clamp x.1 x.2 :=
  ce_fc (P := P_L_clamp) (ok_li (ok_aload dL_clamp_0)) (
  ce_fc (P := P_L_clamp) (ok_li (ok_iconst dL_clamp_2)) (
  ce_fc (P := P_L_clamp) (ok_li (ok_aload_n dL_clamp_3 rfl)) (
  ce_fc (P := P_L_clamp) (ok_li (ok_iload_n dL_clamp_4 rfl)) (
  ce_fc (P := P_L_clamp) (ok_li (ok_iload_n dL_clamp_5 rfl)) (
  ce_fc (P := P_L_clamp) (ok_li (ok_iload_n dL_clamp_6 rfl)) (
  ce_fc (P := P_L_clamp) (ok_call (ca := .inl (1, 17, 5)) (hh := some [(0, 12, 15, 27), (0, 12, 19, 44)]) (ru_V (ci := 15) (C := RX11) (Tf := TX11) (N := 7) m_X11_clamp (by decide) (by decide) rfl gw_1195 gw_1192 gw_1193 gw_1194 gw_1 ⟨rfl, hp_X11_clamp⟩ dL_clamp_7) (⟨_, _, _, (0 : Fin 4), rfl, rfl, by decide, by decide, gw_810, gn_1, Or.inr ⟨dL_clamp_15, rfl⟩, by decide⟩)) (
  ce_fc (P := P_L_clamp) (ok_li (ok_iconst dL_clamp_17)) (
  ce_fc (P := P_L_clamp) (ok_reti dL_clamp_18 rfl) (
  ce_fn (P := P_L_clamp))))))))))
noncomputable def ta_L_clamp : Nat → Option ce_N := (ce_fd tb_L_clamp_0)
theorem tx_L_clamp : ∀ pc f, ta_L_clamp pc = some f → P_L_clamp pc f := (ce_fd_ok (P := P_L_clamp) tk_L_clamp_0)
noncomputable def F_L_clamp : ce_C := ce_M ta_L_clamp 6 1 6 1000000
theorem m_L_clamp : ∀ l : Launch, l.stackTraces = false → ce_MS l yL_clamp (.codeWith yL_clamp cL_clamp 6 (some .int) [(0, 12, 15, 27), (0, 12, 19, 44)]) 3 1 6 F_L_clamp := fun l hl => ce_metW hl (by decide +kernel) tx_L_clamp
theorem hp_L_clamp : yL_clamp.cls ≠ "java/lang/invoke/MethodHandle" ∧ yL_clamp.cls ≠ "java/lang/invoke/VarHandle" ∧ (parseMethodDescriptor yL_clamp.desc).map (fun d => d.parameters.length) = some 5 := by decide +kernel
abbrev P_L_drills : Nat → ce_N → Prop := ce_OKN "CarcasswrightLaw" "drills" cL_drills 5 (some .int) 3 (some [(0, 10, 13, 27)])
noncomputable def tb_L_drills_0 : List (Nat × ce_N) := [(0, ce_li (ce_aload 3 1)),
  (1, ce_li (ce_push (.inl (.inl (0))) 2)),
  (2, ce_li (ce_aload 0 3)),
  (3, ce_li (ce_iload 1 4)),
  (4, ce_li (ce_iload 2 5)),
  (5, ce_call 3 1 6 8 (.inl (1, 15, 4)) (ce_CV 15 F_X11_drills)),
  (15, ce_li (ce_push (.inl (.inl (1))) 16)),
  (16, ce_reti .int)]
theorem tk_L_drills_0 : ∀ x ∈ tb_L_drills_0, P_L_drills x.1 x.2 :=
  ce_fc (P := P_L_drills) (ok_li (ok_aload_n dL_drills_0 rfl)) (
  ce_fc (P := P_L_drills) (ok_li (ok_iconst dL_drills_1)) (
  ce_fc (P := P_L_drills) (ok_li (ok_aload_n dL_drills_2 rfl)) (
  ce_fc (P := P_L_drills) (ok_li (ok_iload_n dL_drills_3 rfl)) (
  ce_fc (P := P_L_drills) (ok_li (ok_iload_n dL_drills_4 rfl)) (
  ce_fc (P := P_L_drills) (ok_call (ca := .inl (1, 15, 4)) (hh := some [(0, 10, 13, 27)]) (ru_V (ci := 15) (C := RX11) (Tf := TX11) (N := 7) m_X11_drills (by decide) (by decide) rfl gw_1182 gw_1179 gw_1180 gw_1181 gw_1 ⟨rfl, hp_X11_drills⟩ dL_drills_5) (⟨_, _, _, (0 : Fin 4), rfl, rfl, by decide, by decide, gw_810, gn_1, Or.inr ⟨dL_drills_13, rfl⟩, by decide⟩)) (
  ce_fc (P := P_L_drills) (ok_li (ok_iconst dL_drills_15)) (
  ce_fc (P := P_L_drills) (ok_reti dL_drills_16 rfl) (
  ce_fn (P := P_L_drills)))))))))
noncomputable def ta_L_drills : Nat → Option ce_N := (ce_fd tb_L_drills_0)
theorem tx_L_drills : ∀ pc f, ta_L_drills pc = some f → P_L_drills pc f := (ce_fd_ok (P := P_L_drills) tk_L_drills_0)
noncomputable def F_L_drills : ce_C := ce_M ta_L_drills 5 1 6 1000000
theorem m_L_drills : ∀ l : Launch, l.stackTraces = false → ce_MS l yL_drills (.codeWith yL_drills cL_drills 5 (some .int) [(0, 10, 13, 27)]) 3 1 6 F_L_drills := fun l hl => ce_metW hl (by decide +kernel) tx_L_drills
theorem hp_L_drills : yL_drills.cls ≠ "java/lang/invoke/MethodHandle" ∧ yL_drills.cls ≠ "java/lang/invoke/VarHandle" ∧ (parseMethodDescriptor yL_drills.desc).map (fun d => d.parameters.length) = some 4 := by decide +kernel
abbrev P_L_fault : Nat → ce_N → Prop := ce_OKN "CarcasswrightLaw" "fault" cL_fault 3 (some .int) 3 (some [(0, 8, 11, 44)])
noncomputable def tb_L_fault_0 : List (Nat × ce_N) := [(0, ce_li (ce_aload 1 1)),
  (1, ce_li (ce_push (.inl (.inl (0))) 2)),
  (2, ce_li (ce_aload 0 3)),
  (3, ce_call 1 0 0 6 (.inl (2, 12, 2)) (ce_CV 15 F_X11_fault)),
  (6, ce_li (ce_i2l 7)),
  (7, ce_li (ce_last 8)),
  (8, ce_li (ce_goto 14)),
  (14, ce_li (ce_push (.inl (.inl (0))) 15)),
  (15, ce_reti .int)]
theorem tk_L_fault_0 : ∀ x ∈ tb_L_fault_0, P_L_fault x.1 x.2 :=
  ce_fc (P := P_L_fault) (ok_li (ok_aload_n dL_fault_0 rfl)) (
  ce_fc (P := P_L_fault) (ok_li (ok_iconst dL_fault_1)) (
  ce_fc (P := P_L_fault) (ok_li (ok_aload_n dL_fault_2 rfl)) (
  ce_fc (P := P_L_fault) (ok_call (ca := .inl (2, 12, 2)) (hh := some [(0, 8, 11, 44)]) (ru_V (ci := 15) (C := RX11) (Tf := TX11) (N := 7) m_X11_fault (by decide) (by decide) rfl gw_852 gw_849 gw_850 gw_851 gw_1 ⟨rfl, hp_X11_fault⟩ dL_fault_3) (⟨_, _, _, (2 : Fin 4), rfl, rfl, by decide, by decide, gw_848, gn_2, Or.inl ⟨dL_fault_11, rfl, rfl⟩, by decide⟩)) (
  ce_fc (P := P_L_fault) (ok_li (ok_i2l dL_fault_6)) (
  ce_fc (P := P_L_fault) (ok_li (ok_last dL_fault_7)) (
  ce_fc (P := P_L_fault) (ok_li (ok_goto dL_fault_8 (by decide))) (
  ce_fc (P := P_L_fault) (ok_li (ok_iconst dL_fault_14)) (
  ce_fc (P := P_L_fault) (ok_reti dL_fault_15 rfl) (
  ce_fn (P := P_L_fault))))))))))
noncomputable def ta_L_fault : Nat → Option ce_N := (ce_fd tb_L_fault_0)
theorem tx_L_fault : ∀ pc f, ta_L_fault pc = some f → P_L_fault pc f := (ce_fd_ok (P := P_L_fault) tk_L_fault_0)
noncomputable def F_L_fault : ce_C := ce_M ta_L_fault 3 0 0 1000000
theorem m_L_fault : ∀ l : Launch, l.stackTraces = false → ce_MS l yL_fault (.codeWith yL_fault cL_fault 3 (some .int) [(0, 8, 11, 44)]) 3 0 0 F_L_fault := fun l hl => ce_metW hl (by decide +kernel) tx_L_fault
theorem hp_L_fault : yL_fault.cls ≠ "java/lang/invoke/MethodHandle" ∧ yL_fault.cls ≠ "java/lang/invoke/VarHandle" ∧ (parseMethodDescriptor yL_fault.desc).map (fun d => d.parameters.length) = some 2 := by decide +kernel
abbrev P_L_faultKind : Nat → ce_N → Prop := ce_OKN "CarcasswrightLaw" "faultKind" cL_faultKind 3 (some .int) 3 (some [(0, 8, 11, 44)])
noncomputable def tb_L_faultKind_0 : List (Nat × ce_N) := [(0, ce_li (ce_aload 1 1)),
  (1, ce_li (ce_push (.inl (.inl (0))) 2)),
  (2, ce_li (ce_aload 0 3)),
  (3, ce_call 1 0 0 6 (.inl (2, 12, 2)) (ce_CV 15 F_X11_faultKind)),
  (6, ce_li (ce_i2l 7)),
  (7, ce_li (ce_last 8)),
  (8, ce_li (ce_goto 14)),
  (14, ce_li (ce_push (.inl (.inl (0))) 15)),
  (15, ce_reti .int)]
theorem tk_L_faultKind_0 : ∀ x ∈ tb_L_faultKind_0, P_L_faultKind x.1 x.2 :=
  ce_fc (P := P_L_faultKind) (ok_li (ok_aload_n dL_faultKind_0 rfl)) (
  ce_fc (P := P_L_faultKind) (ok_li (ok_iconst dL_faultKind_1)) (
  ce_fc (P := P_L_faultKind) (ok_li (ok_aload_n dL_faultKind_2 rfl)) (
  ce_fc (P := P_L_faultKind) (ok_call (ca := .inl (2, 12, 2)) (hh := some [(0, 8, 11, 44)]) (ru_V (ci := 15) (C := RX11) (Tf := TX11) (N := 7) m_X11_faultKind (by decide) (by decide) rfl gw_933 gw_930 gw_931 gw_932 gw_1 ⟨rfl, hp_X11_faultKind⟩ dL_faultKind_3) (⟨_, _, _, (2 : Fin 4), rfl, rfl, by decide, by decide, gw_848, gn_2, Or.inl ⟨dL_faultKind_11, rfl, rfl⟩, by decide⟩)) (
  ce_fc (P := P_L_faultKind) (ok_li (ok_i2l dL_faultKind_6)) (
  ce_fc (P := P_L_faultKind) (ok_li (ok_last dL_faultKind_7)) (
  ce_fc (P := P_L_faultKind) (ok_li (ok_goto dL_faultKind_8 (by decide))) (
  ce_fc (P := P_L_faultKind) (ok_li (ok_iconst dL_faultKind_14)) (
  ce_fc (P := P_L_faultKind) (ok_reti dL_faultKind_15 rfl) (
  ce_fn (P := P_L_faultKind))))))))))
noncomputable def ta_L_faultKind : Nat → Option ce_N := (ce_fd tb_L_faultKind_0)
theorem tx_L_faultKind : ∀ pc f, ta_L_faultKind pc = some f → P_L_faultKind pc f := (ce_fd_ok (P := P_L_faultKind) tk_L_faultKind_0)
noncomputable def F_L_faultKind : ce_C := ce_M ta_L_faultKind 3 0 0 1000000
theorem m_L_faultKind : ∀ l : Launch, l.stackTraces = false → ce_MS l yL_faultKind (.codeWith yL_faultKind cL_faultKind 3 (some .int) [(0, 8, 11, 44)]) 3 0 0 F_L_faultKind := fun l hl => ce_metW hl (by decide +kernel) tx_L_faultKind
theorem hp_L_faultKind : yL_faultKind.cls ≠ "java/lang/invoke/MethodHandle" ∧ yL_faultKind.cls ≠ "java/lang/invoke/VarHandle" ∧ (parseMethodDescriptor yL_faultKind.desc).map (fun d => d.parameters.length) = some 2 := by decide +kernel
abbrev P_L_free : Nat → ce_N → Prop := ce_OKN "CarcasswrightLaw" "free" cL_free 5 (some .int) 3 (some [(0, 10, 13, 27)])
noncomputable def tb_L_free_0 : List (Nat × ce_N) := [(0, ce_li (ce_aload 3 1)),
  (1, ce_li (ce_push (.inl (.inl (0))) 2)),
  (2, ce_li (ce_aload 0 3)),
  (3, ce_li (ce_iload 1 4)),
  (4, ce_li (ce_iload 2 5)),
  (5, ce_call 3 1 6 8 (.inl (1, 15, 4)) (ce_CV 15 F_X11_free)),
  (15, ce_li (ce_push (.inl (.inl (1))) 16)),
  (16, ce_reti .int)]
theorem tk_L_free_0 : ∀ x ∈ tb_L_free_0, P_L_free x.1 x.2 :=
  ce_fc (P := P_L_free) (ok_li (ok_aload_n dL_free_0 rfl)) (
  ce_fc (P := P_L_free) (ok_li (ok_iconst dL_free_1)) (
  ce_fc (P := P_L_free) (ok_li (ok_aload_n dL_free_2 rfl)) (
  ce_fc (P := P_L_free) (ok_li (ok_iload_n dL_free_3 rfl)) (
  ce_fc (P := P_L_free) (ok_li (ok_iload_n dL_free_4 rfl)) (
  ce_fc (P := P_L_free) (ok_call (ca := .inl (1, 15, 4)) (hh := some [(0, 10, 13, 27)]) (ru_V (ci := 15) (C := RX11) (Tf := TX11) (N := 7) m_X11_free (by decide) (by decide) rfl gw_1052 gw_1049 gw_1050 gw_1051 gw_1 ⟨rfl, hp_X11_free⟩ dL_free_5) (⟨_, _, _, (0 : Fin 4), rfl, rfl, by decide, by decide, gw_810, gn_1, Or.inr ⟨dL_free_13, rfl⟩, by decide⟩)) (
  ce_fc (P := P_L_free) (ok_li (ok_iconst dL_free_15)) (
  ce_fc (P := P_L_free) (ok_reti dL_free_16 rfl) (
  ce_fn (P := P_L_free)))))))))
noncomputable def ta_L_free : Nat → Option ce_N := (ce_fd tb_L_free_0)
theorem tx_L_free : ∀ pc f, ta_L_free pc = some f → P_L_free pc f := (ce_fd_ok (P := P_L_free) tk_L_free_0)
noncomputable def F_L_free : ce_C := ce_M ta_L_free 5 1 6 1000000
theorem m_L_free : ∀ l : Launch, l.stackTraces = false → ce_MS l yL_free (.codeWith yL_free cL_free 5 (some .int) [(0, 10, 13, 27)]) 3 1 6 F_L_free := fun l hl => ce_metW hl (by decide +kernel) tx_L_free
theorem hp_L_free : yL_free.cls ≠ "java/lang/invoke/MethodHandle" ∧ yL_free.cls ≠ "java/lang/invoke/VarHandle" ∧ (parseMethodDescriptor yL_free.desc).map (fun d => d.parameters.length) = some 4 := by decide +kernel
abbrev P_L_hole : Nat → ce_N → Prop := ce_OKN "CarcasswrightLaw" "hole" cL_hole 7 (some .int) 3 (some [(0, 14, 17, 27), (0, 14, 21, 13)])
noncomputable def tb_L_hole_0 : List (Nat × ce_N) := [(0, ce_li (ce_aload 5 2)),
  (2, ce_li (ce_push (.inl (.inl (0))) 3)),
  (3, ce_li (ce_aload 0 4)),
  (4, ce_li (ce_iload 1 5)),
  (5, ce_li (ce_iload 2 6)),
  (6, ce_li (ce_iload 3 7)),
  (7, ce_li (ce_iload 4 9)),
  (9, ce_call 5 1 6 12 (.inl (1, 19, 6)) (ce_CV 15 F_X11_hole)),
  (19, ce_li (ce_push (.inl (.inl (1))) 20)),
  (20, ce_reti .int)]
theorem tk_L_hole_0 : ∀ x ∈ tb_L_hole_0, P_L_hole x.1 x.2 :=
  ce_fc (P := P_L_hole) (ok_li (ok_aload dL_hole_0)) (
  ce_fc (P := P_L_hole) (ok_li (ok_iconst dL_hole_2)) (
  ce_fc (P := P_L_hole) (ok_li (ok_aload_n dL_hole_3 rfl)) (
  ce_fc (P := P_L_hole) (ok_li (ok_iload_n dL_hole_4 rfl)) (
  ce_fc (P := P_L_hole) (ok_li (ok_iload_n dL_hole_5 rfl)) (
  ce_fc (P := P_L_hole) (ok_li (ok_iload_n dL_hole_6 rfl)) (
  ce_fc (P := P_L_hole) (ok_li (ok_iload dL_hole_7)) (
  ce_fc (P := P_L_hole) (ok_call (ca := .inl (1, 19, 6)) (hh := some [(0, 14, 17, 27), (0, 14, 21, 13)]) (ru_V (ci := 15) (C := RX11) (Tf := TX11) (N := 7) m_X11_hole (by decide) (by decide) rfl gw_1159 gw_1156 gw_1157 gw_1158 gw_1 ⟨rfl, hp_X11_hole⟩ dL_hole_9) (⟨_, _, _, (0 : Fin 4), rfl, rfl, by decide, by decide, gw_810, gn_1, Or.inr ⟨dL_hole_17, rfl⟩, by decide⟩)) (
  ce_fc (P := P_L_hole) (ok_li (ok_iconst dL_hole_19)) (
  ce_fc (P := P_L_hole) (ok_reti dL_hole_20 rfl) (
  ce_fn (P := P_L_hole)))))))))))
noncomputable def ta_L_hole : Nat → Option ce_N := (ce_fd tb_L_hole_0)
theorem tx_L_hole : ∀ pc f, ta_L_hole pc = some f → P_L_hole pc f := (ce_fd_ok (P := P_L_hole) tk_L_hole_0)
noncomputable def F_L_hole : ce_C := ce_M ta_L_hole 7 1 6 1000000
theorem m_L_hole : ∀ l : Launch, l.stackTraces = false → ce_MS l yL_hole (.codeWith yL_hole cL_hole 7 (some .int) [(0, 14, 17, 27), (0, 14, 21, 13)]) 3 1 6 F_L_hole := fun l hl => ce_metW hl (by decide +kernel) tx_L_hole
theorem hp_L_hole : yL_hole.cls ≠ "java/lang/invoke/MethodHandle" ∧ yL_hole.cls ≠ "java/lang/invoke/VarHandle" ∧ (parseMethodDescriptor yL_hole.desc).map (fun d => d.parameters.length) = some 6 := by decide +kernel
abbrev P_L_holes : Nat → ce_N → Prop := ce_OKN "CarcasswrightLaw" "holes" cL_holes 5 (some .int) 3 (some [(0, 10, 13, 27)])
noncomputable def tb_L_holes_0 : List (Nat × ce_N) := [(0, ce_li (ce_aload 3 1)),
  (1, ce_li (ce_push (.inl (.inl (0))) 2)),
  (2, ce_li (ce_aload 0 3)),
  (3, ce_li (ce_iload 1 4)),
  (4, ce_li (ce_iload 2 5)),
  (5, ce_call 3 1 6 8 (.inl (1, 15, 4)) (ce_CV 15 F_X11_holes)),
  (15, ce_li (ce_push (.inl (.inl (1))) 16)),
  (16, ce_reti .int)]
theorem tk_L_holes_0 : ∀ x ∈ tb_L_holes_0, P_L_holes x.1 x.2 :=
  ce_fc (P := P_L_holes) (ok_li (ok_aload_n dL_holes_0 rfl)) (
  ce_fc (P := P_L_holes) (ok_li (ok_iconst dL_holes_1)) (
  ce_fc (P := P_L_holes) (ok_li (ok_aload_n dL_holes_2 rfl)) (
  ce_fc (P := P_L_holes) (ok_li (ok_iload_n dL_holes_3 rfl)) (
  ce_fc (P := P_L_holes) (ok_li (ok_iload_n dL_holes_4 rfl)) (
  ce_fc (P := P_L_holes) (ok_call (ca := .inl (1, 15, 4)) (hh := some [(0, 10, 13, 27)]) (ru_V (ci := 15) (C := RX11) (Tf := TX11) (N := 7) m_X11_holes (by decide) (by decide) rfl gw_1144 gw_1141 gw_1142 gw_1143 gw_1 ⟨rfl, hp_X11_holes⟩ dL_holes_5) (⟨_, _, _, (0 : Fin 4), rfl, rfl, by decide, by decide, gw_810, gn_1, Or.inr ⟨dL_holes_13, rfl⟩, by decide⟩)) (
  ce_fc (P := P_L_holes) (ok_li (ok_iconst dL_holes_15)) (
  ce_fc (P := P_L_holes) (ok_reti dL_holes_16 rfl) (
  ce_fn (P := P_L_holes)))))))))
noncomputable def ta_L_holes : Nat → Option ce_N := (ce_fd tb_L_holes_0)
theorem tx_L_holes : ∀ pc f, ta_L_holes pc = some f → P_L_holes pc f := (ce_fd_ok (P := P_L_holes) tk_L_holes_0)
noncomputable def F_L_holes : ce_C := ce_M ta_L_holes 5 1 6 1000000
theorem m_L_holes : ∀ l : Launch, l.stackTraces = false → ce_MS l yL_holes (.codeWith yL_holes cL_holes 5 (some .int) [(0, 10, 13, 27)]) 3 1 6 F_L_holes := fun l hl => ce_metW hl (by decide +kernel) tx_L_holes
theorem hp_L_holes : yL_holes.cls ≠ "java/lang/invoke/MethodHandle" ∧ yL_holes.cls ≠ "java/lang/invoke/VarHandle" ∧ (parseMethodDescriptor yL_holes.desc).map (fun d => d.parameters.length) = some 4 := by decide +kernel
abbrev P_L_kindOf : Nat → ce_N → Prop := ce_OKN "CarcasswrightLaw" "kindOf" cL_kindOf 5 (some .int) 3 (some [(0, 10, 13, 27)])
noncomputable def tb_L_kindOf_0 : List (Nat × ce_N) := [(0, ce_li (ce_aload 3 1)),
  (1, ce_li (ce_push (.inl (.inl (0))) 2)),
  (2, ce_li (ce_aload 0 3)),
  (3, ce_li (ce_iload 1 4)),
  (4, ce_li (ce_iload 2 5)),
  (5, ce_call 3 1 6 8 (.inl (1, 15, 4)) (ce_CV 15 F_X11_kindOf)),
  (15, ce_li (ce_push (.inl (.inl (1))) 16)),
  (16, ce_reti .int)]
theorem tk_L_kindOf_0 : ∀ x ∈ tb_L_kindOf_0, P_L_kindOf x.1 x.2 :=
  ce_fc (P := P_L_kindOf) (ok_li (ok_aload_n dL_kindOf_0 rfl)) (
  ce_fc (P := P_L_kindOf) (ok_li (ok_iconst dL_kindOf_1)) (
  ce_fc (P := P_L_kindOf) (ok_li (ok_aload_n dL_kindOf_2 rfl)) (
  ce_fc (P := P_L_kindOf) (ok_li (ok_iload_n dL_kindOf_3 rfl)) (
  ce_fc (P := P_L_kindOf) (ok_li (ok_iload_n dL_kindOf_4 rfl)) (
  ce_fc (P := P_L_kindOf) (ok_call (ca := .inl (1, 15, 4)) (hh := some [(0, 10, 13, 27)]) (ru_V (ci := 15) (C := RX11) (Tf := TX11) (N := 7) m_X11_kindOf (by decide) (by decide) rfl gw_1081 gw_1078 gw_1079 gw_1080 gw_1 ⟨rfl, hp_X11_kindOf⟩ dL_kindOf_5) (⟨_, _, _, (0 : Fin 4), rfl, rfl, by decide, by decide, gw_810, gn_1, Or.inr ⟨dL_kindOf_13, rfl⟩, by decide⟩)) (
  ce_fc (P := P_L_kindOf) (ok_li (ok_iconst dL_kindOf_15)) (
  ce_fc (P := P_L_kindOf) (ok_reti dL_kindOf_16 rfl) (
  ce_fn (P := P_L_kindOf)))))))))
noncomputable def ta_L_kindOf : Nat → Option ce_N := (ce_fd tb_L_kindOf_0)
theorem tx_L_kindOf : ∀ pc f, ta_L_kindOf pc = some f → P_L_kindOf pc f := (ce_fd_ok (P := P_L_kindOf) tk_L_kindOf_0)
noncomputable def F_L_kindOf : ce_C := ce_M ta_L_kindOf 5 1 6 1000000
theorem m_L_kindOf : ∀ l : Launch, l.stackTraces = false → ce_MS l yL_kindOf (.codeWith yL_kindOf cL_kindOf 5 (some .int) [(0, 10, 13, 27)]) 3 1 6 F_L_kindOf := fun l hl => ce_metW hl (by decide +kernel) tx_L_kindOf
theorem hp_L_kindOf : yL_kindOf.cls ≠ "java/lang/invoke/MethodHandle" ∧ yL_kindOf.cls ≠ "java/lang/invoke/VarHandle" ∧ (parseMethodDescriptor yL_kindOf.desc).map (fun d => d.parameters.length) = some 4 := by decide +kernel
abbrev P_L_lose : Nat → ce_N → Prop := ce_OKN "CarcasswrightLaw" "lose" cL_lose 5 (some .int) 3 (some [(0, 10, 13, 27), (0, 10, 17, 21)])
noncomputable def tb_L_lose_0 : List (Nat × ce_N) := [(0, ce_li (ce_aload 3 1)),
  (1, ce_li (ce_push (.inl (.inl (0))) 2)),
  (2, ce_li (ce_aload 0 3)),
  (3, ce_li (ce_iload 1 4)),
  (4, ce_li (ce_iload 2 5)),
  (5, ce_call 3 1 6 8 (.inl (1, 15, 4)) (ce_CV 15 F_X11_lose)),
  (15, ce_li (ce_push (.inl (.inl (1))) 16)),
  (16, ce_reti .int)]
theorem tk_L_lose_0 : ∀ x ∈ tb_L_lose_0, P_L_lose x.1 x.2 :=
  ce_fc (P := P_L_lose) (ok_li (ok_aload_n dL_lose_0 rfl)) (
  ce_fc (P := P_L_lose) (ok_li (ok_iconst dL_lose_1)) (
  ce_fc (P := P_L_lose) (ok_li (ok_aload_n dL_lose_2 rfl)) (
  ce_fc (P := P_L_lose) (ok_li (ok_iload_n dL_lose_3 rfl)) (
  ce_fc (P := P_L_lose) (ok_li (ok_iload_n dL_lose_4 rfl)) (
  ce_fc (P := P_L_lose) (ok_call (ca := .inl (1, 15, 4)) (hh := some [(0, 10, 13, 27), (0, 10, 17, 21)]) (ru_V (ci := 15) (C := RX11) (Tf := TX11) (N := 7) m_X11_lose (by decide) (by decide) rfl gw_1355 gw_1352 gw_1353 gw_1354 gw_1 ⟨rfl, hp_X11_lose⟩ dL_lose_5) (⟨_, _, _, (0 : Fin 4), rfl, rfl, by decide, by decide, gw_810, gn_1, Or.inr ⟨dL_lose_13, rfl⟩, by decide⟩)) (
  ce_fc (P := P_L_lose) (ok_li (ok_iconst dL_lose_15)) (
  ce_fc (P := P_L_lose) (ok_reti dL_lose_16 rfl) (
  ce_fn (P := P_L_lose)))))))))
noncomputable def ta_L_lose : Nat → Option ce_N := (ce_fd tb_L_lose_0)
theorem tx_L_lose : ∀ pc f, ta_L_lose pc = some f → P_L_lose pc f := (ce_fd_ok (P := P_L_lose) tk_L_lose_0)
noncomputable def F_L_lose : ce_C := ce_M ta_L_lose 5 1 6 1000000
theorem m_L_lose : ∀ l : Launch, l.stackTraces = false → ce_MS l yL_lose (.codeWith yL_lose cL_lose 5 (some .int) [(0, 10, 13, 27), (0, 10, 17, 21)]) 3 1 6 F_L_lose := fun l hl => ce_metW hl (by decide +kernel) tx_L_lose
theorem hp_L_lose : yL_lose.cls ≠ "java/lang/invoke/MethodHandle" ∧ yL_lose.cls ≠ "java/lang/invoke/VarHandle" ∧ (parseMethodDescriptor yL_lose.desc).map (fun d => d.parameters.length) = some 4 := by decide +kernel
abbrev P_L_packOf : Nat → ce_N → Prop := ce_OKN "CarcasswrightLaw" "packOf" cL_packOf 6 (some .int) 3 (some [(0, 12, 15, 27), (0, 12, 19, 13), (0, 12, 23, 21)])
noncomputable def tb_L_packOf_0 : List (Nat × ce_N) := [(0, ce_li (ce_aload 4 2)),
  (2, ce_li (ce_push (.inl (.inl (0))) 3)),
  (3, ce_li (ce_aload 0 4)),
  (4, ce_li (ce_iload 1 5)),
  (5, ce_li (ce_iload 2 6)),
  (6, ce_li (ce_iload 3 7)),
  (7, ce_call 4 1 6 10 (.inl (1, 17, 5)) (ce_CV 15 F_X11_packOf)),
  (17, ce_li (ce_push (.inl (.inl (1))) 18)),
  (18, ce_reti .int)]
theorem tk_L_packOf_0 : ∀ x ∈ tb_L_packOf_0, P_L_packOf x.1 x.2 :=
  ce_fc (P := P_L_packOf) (ok_li (ok_aload dL_packOf_0)) (
  ce_fc (P := P_L_packOf) (ok_li (ok_iconst dL_packOf_2)) (
  ce_fc (P := P_L_packOf) (ok_li (ok_aload_n dL_packOf_3 rfl)) (
  ce_fc (P := P_L_packOf) (ok_li (ok_iload_n dL_packOf_4 rfl)) (
  ce_fc (P := P_L_packOf) (ok_li (ok_iload_n dL_packOf_5 rfl)) (
  ce_fc (P := P_L_packOf) (ok_li (ok_iload_n dL_packOf_6 rfl)) (
  ce_fc (P := P_L_packOf) (ok_call (ca := .inl (1, 17, 5)) (hh := some [(0, 12, 15, 27), (0, 12, 19, 13), (0, 12, 23, 21)]) (ru_V (ci := 15) (C := RX11) (Tf := TX11) (N := 7) m_X11_packOf (by decide) (by decide) rfl gw_1427 gw_1424 gw_1425 gw_1426 gw_1 ⟨rfl, hp_X11_packOf⟩ dL_packOf_7) (⟨_, _, _, (0 : Fin 4), rfl, rfl, by decide, by decide, gw_810, gn_1, Or.inr ⟨dL_packOf_15, rfl⟩, by decide⟩)) (
  ce_fc (P := P_L_packOf) (ok_li (ok_iconst dL_packOf_17)) (
  ce_fc (P := P_L_packOf) (ok_reti dL_packOf_18 rfl) (
  ce_fn (P := P_L_packOf))))))))))
noncomputable def ta_L_packOf : Nat → Option ce_N := (ce_fd tb_L_packOf_0)
theorem tx_L_packOf : ∀ pc f, ta_L_packOf pc = some f → P_L_packOf pc f := (ce_fd_ok (P := P_L_packOf) tk_L_packOf_0)
noncomputable def F_L_packOf : ce_C := ce_M ta_L_packOf 6 1 6 1000000
theorem m_L_packOf : ∀ l : Launch, l.stackTraces = false → ce_MS l yL_packOf (.codeWith yL_packOf cL_packOf 6 (some .int) [(0, 12, 15, 27), (0, 12, 19, 13), (0, 12, 23, 21)]) 3 1 6 F_L_packOf := fun l hl => ce_metW hl (by decide +kernel) tx_L_packOf
theorem hp_L_packOf : yL_packOf.cls ≠ "java/lang/invoke/MethodHandle" ∧ yL_packOf.cls ≠ "java/lang/invoke/VarHandle" ∧ (parseMethodDescriptor yL_packOf.desc).map (fun d => d.parameters.length) = some 5 := by decide +kernel
abbrev P_L_size : Nat → ce_N → Prop := ce_OKN "CarcasswrightLaw" "size" cL_size 6 (some .int) 3 (some [(0, 12, 15, 27), (0, 12, 19, 13)])
noncomputable def tb_L_size_0 : List (Nat × ce_N) := [(0, ce_li (ce_aload 4 2)),
  (2, ce_li (ce_push (.inl (.inl (0))) 3)),
  (3, ce_li (ce_aload 0 4)),
  (4, ce_li (ce_iload 1 5)),
  (5, ce_li (ce_iload 2 6)),
  (6, ce_li (ce_iload 3 7)),
  (7, ce_call 4 1 6 10 (.inl (1, 17, 5)) (ce_CV 15 F_X11_size)),
  (17, ce_li (ce_push (.inl (.inl (1))) 18)),
  (18, ce_reti .int)]
theorem tk_L_size_0 : ∀ x ∈ tb_L_size_0, P_L_size x.1 x.2 :=
  ce_fc (P := P_L_size) (ok_li (ok_aload dL_size_0)) (
  ce_fc (P := P_L_size) (ok_li (ok_iconst dL_size_2)) (
  ce_fc (P := P_L_size) (ok_li (ok_aload_n dL_size_3 rfl)) (
  ce_fc (P := P_L_size) (ok_li (ok_iload_n dL_size_4 rfl)) (
  ce_fc (P := P_L_size) (ok_li (ok_iload_n dL_size_5 rfl)) (
  ce_fc (P := P_L_size) (ok_li (ok_iload_n dL_size_6 rfl)) (
  ce_fc (P := P_L_size) (ok_call (ca := .inl (1, 17, 5)) (hh := some [(0, 12, 15, 27), (0, 12, 19, 13)]) (ru_V (ci := 15) (C := RX11) (Tf := TX11) (N := 7) m_X11_size (by decide) (by decide) rfl gw_1095 gw_1092 gw_1093 gw_1094 gw_1 ⟨rfl, hp_X11_size⟩ dL_size_7) (⟨_, _, _, (0 : Fin 4), rfl, rfl, by decide, by decide, gw_810, gn_1, Or.inr ⟨dL_size_15, rfl⟩, by decide⟩)) (
  ce_fc (P := P_L_size) (ok_li (ok_iconst dL_size_17)) (
  ce_fc (P := P_L_size) (ok_reti dL_size_18 rfl) (
  ce_fn (P := P_L_size))))))))))
noncomputable def ta_L_size : Nat → Option ce_N := (ce_fd tb_L_size_0)
theorem tx_L_size : ∀ pc f, ta_L_size pc = some f → P_L_size pc f := (ce_fd_ok (P := P_L_size) tk_L_size_0)
noncomputable def F_L_size : ce_C := ce_M ta_L_size 6 1 6 1000000
theorem m_L_size : ∀ l : Launch, l.stackTraces = false → ce_MS l yL_size (.codeWith yL_size cL_size 6 (some .int) [(0, 12, 15, 27), (0, 12, 19, 13)]) 3 1 6 F_L_size := fun l hl => ce_metW hl (by decide +kernel) tx_L_size
theorem hp_L_size : yL_size.cls ≠ "java/lang/invoke/MethodHandle" ∧ yL_size.cls ≠ "java/lang/invoke/VarHandle" ∧ (parseMethodDescriptor yL_size.desc).map (fun d => d.parameters.length) = some 5 := by decide +kernel
abbrev P_L_stepAt : Nat → ce_N → Prop := ce_OKN "CarcasswrightLaw" "stepAt" cL_stepAt 5 (some .int) 3 (some [(0, 10, 13, 27)])
noncomputable def tb_L_stepAt_0 : List (Nat × ce_N) := [(0, ce_li (ce_aload 3 1)),
  (1, ce_li (ce_push (.inl (.inl (0))) 2)),
  (2, ce_li (ce_aload 0 3)),
  (3, ce_li (ce_iload 1 4)),
  (4, ce_li (ce_iload 2 5)),
  (5, ce_call 3 1 6 8 (.inl (1, 15, 4)) (ce_CV 15 F_X11_stepAt)),
  (15, ce_li (ce_push (.inl (.inl (1))) 16)),
  (16, ce_reti .int)]
theorem tk_L_stepAt_0 : ∀ x ∈ tb_L_stepAt_0, P_L_stepAt x.1 x.2 :=
  ce_fc (P := P_L_stepAt) (ok_li (ok_aload_n dL_stepAt_0 rfl)) (
  ce_fc (P := P_L_stepAt) (ok_li (ok_iconst dL_stepAt_1)) (
  ce_fc (P := P_L_stepAt) (ok_li (ok_aload_n dL_stepAt_2 rfl)) (
  ce_fc (P := P_L_stepAt) (ok_li (ok_iload_n dL_stepAt_3 rfl)) (
  ce_fc (P := P_L_stepAt) (ok_li (ok_iload_n dL_stepAt_4 rfl)) (
  ce_fc (P := P_L_stepAt) (ok_call (ca := .inl (1, 15, 4)) (hh := some [(0, 10, 13, 27)]) (ru_V (ci := 15) (C := RX11) (Tf := TX11) (N := 7) m_X11_stepAt (by decide) (by decide) rfl gw_1438 gw_1435 gw_1436 gw_1437 gw_1 ⟨rfl, hp_X11_stepAt⟩ dL_stepAt_5) (⟨_, _, _, (0 : Fin 4), rfl, rfl, by decide, by decide, gw_810, gn_1, Or.inr ⟨dL_stepAt_13, rfl⟩, by decide⟩)) (
  ce_fc (P := P_L_stepAt) (ok_li (ok_iconst dL_stepAt_15)) (
  ce_fc (P := P_L_stepAt) (ok_reti dL_stepAt_16 rfl) (
  ce_fn (P := P_L_stepAt)))))))))
noncomputable def ta_L_stepAt : Nat → Option ce_N := (ce_fd tb_L_stepAt_0)
theorem tx_L_stepAt : ∀ pc f, ta_L_stepAt pc = some f → P_L_stepAt pc f := (ce_fd_ok (P := P_L_stepAt) tk_L_stepAt_0)
noncomputable def F_L_stepAt : ce_C := ce_M ta_L_stepAt 5 1 6 1000000
theorem m_L_stepAt : ∀ l : Launch, l.stackTraces = false → ce_MS l yL_stepAt (.codeWith yL_stepAt cL_stepAt 5 (some .int) [(0, 10, 13, 27)]) 3 1 6 F_L_stepAt := fun l hl => ce_metW hl (by decide +kernel) tx_L_stepAt
theorem hp_L_stepAt : yL_stepAt.cls ≠ "java/lang/invoke/MethodHandle" ∧ yL_stepAt.cls ≠ "java/lang/invoke/VarHandle" ∧ (parseMethodDescriptor yL_stepAt.desc).map (fun d => d.parameters.length) = some 4 := by decide +kernel
abbrev P_L_weight : Nat → ce_N → Prop := ce_OKN "CarcasswrightLaw" "weight" cL_weight 5 (some .int) 3 (some [(0, 10, 13, 27)])
noncomputable def tb_L_weight_0 : List (Nat × ce_N) := [(0, ce_li (ce_aload 3 1)),
  (1, ce_li (ce_push (.inl (.inl (0))) 2)),
  (2, ce_li (ce_aload 0 3)),
  (3, ce_li (ce_iload 1 4)),
  (4, ce_li (ce_iload 2 5)),
  (5, ce_call 3 1 6 8 (.inl (1, 15, 4)) (ce_CV 15 F_X11_weight)),
  (15, ce_li (ce_push (.inl (.inl (1))) 16)),
  (16, ce_reti .int)]
theorem tk_L_weight_0 : ∀ x ∈ tb_L_weight_0, P_L_weight x.1 x.2 :=
  ce_fc (P := P_L_weight) (ok_li (ok_aload_n dL_weight_0 rfl)) (
  ce_fc (P := P_L_weight) (ok_li (ok_iconst dL_weight_1)) (
  ce_fc (P := P_L_weight) (ok_li (ok_aload_n dL_weight_2 rfl)) (
  ce_fc (P := P_L_weight) (ok_li (ok_iload_n dL_weight_3 rfl)) (
  ce_fc (P := P_L_weight) (ok_li (ok_iload_n dL_weight_4 rfl)) (
  ce_fc (P := P_L_weight) (ok_call (ca := .inl (1, 15, 4)) (hh := some [(0, 10, 13, 27)]) (ru_V (ci := 15) (C := RX11) (Tf := TX11) (N := 7) m_X11_weight (by decide) (by decide) rfl gw_1113 gw_1110 gw_1111 gw_1112 gw_1 ⟨rfl, hp_X11_weight⟩ dL_weight_5) (⟨_, _, _, (0 : Fin 4), rfl, rfl, by decide, by decide, gw_810, gn_1, Or.inr ⟨dL_weight_13, rfl⟩, by decide⟩)) (
  ce_fc (P := P_L_weight) (ok_li (ok_iconst dL_weight_15)) (
  ce_fc (P := P_L_weight) (ok_reti dL_weight_16 rfl) (
  ce_fn (P := P_L_weight)))))))))
noncomputable def ta_L_weight : Nat → Option ce_N := (ce_fd tb_L_weight_0)
theorem tx_L_weight : ∀ pc f, ta_L_weight pc = some f → P_L_weight pc f := (ce_fd_ok (P := P_L_weight) tk_L_weight_0)
noncomputable def F_L_weight : ce_C := ce_M ta_L_weight 5 1 6 1000000
theorem m_L_weight : ∀ l : Launch, l.stackTraces = false → ce_MS l yL_weight (.codeWith yL_weight cL_weight 5 (some .int) [(0, 10, 13, 27)]) 3 1 6 F_L_weight := fun l hl => ce_metW hl (by decide +kernel) tx_L_weight
theorem hp_L_weight : yL_weight.cls ≠ "java/lang/invoke/MethodHandle" ∧ yL_weight.cls ≠ "java/lang/invoke/VarHandle" ∧ (parseMethodDescriptor yL_weight.desc).map (fun d => d.parameters.length) = some 4 := by decide +kernel
abbrev P_L_widest : Nat → ce_N → Prop := ce_OKN "CarcasswrightLaw" "widest" cL_widest 5 (some .int) 3 (some [(0, 10, 13, 27)])
noncomputable def tb_L_widest_0 : List (Nat × ce_N) := [(0, ce_li (ce_aload 3 1)),
  (1, ce_li (ce_push (.inl (.inl (0))) 2)),
  (2, ce_li (ce_aload 0 3)),
  (3, ce_li (ce_iload 1 4)),
  (4, ce_li (ce_iload 2 5)),
  (5, ce_call 3 1 6 8 (.inl (1, 15, 4)) (ce_CV 15 F_X11_widest)),
  (15, ce_li (ce_push (.inl (.inl (1))) 16)),
  (16, ce_reti .int)]
theorem tk_L_widest_0 : ∀ x ∈ tb_L_widest_0, P_L_widest x.1 x.2 :=
  ce_fc (P := P_L_widest) (ok_li (ok_aload_n dL_widest_0 rfl)) (
  ce_fc (P := P_L_widest) (ok_li (ok_iconst dL_widest_1)) (
  ce_fc (P := P_L_widest) (ok_li (ok_aload_n dL_widest_2 rfl)) (
  ce_fc (P := P_L_widest) (ok_li (ok_iload_n dL_widest_3 rfl)) (
  ce_fc (P := P_L_widest) (ok_li (ok_iload_n dL_widest_4 rfl)) (
  ce_fc (P := P_L_widest) (ok_call (ca := .inl (1, 15, 4)) (hh := some [(0, 10, 13, 27)]) (ru_V (ci := 15) (C := RX11) (Tf := TX11) (N := 7) m_X11_widest (by decide) (by decide) rfl gw_1067 gw_1064 gw_1065 gw_1066 gw_1 ⟨rfl, hp_X11_widest⟩ dL_widest_5) (⟨_, _, _, (0 : Fin 4), rfl, rfl, by decide, by decide, gw_810, gn_1, Or.inr ⟨dL_widest_13, rfl⟩, by decide⟩)) (
  ce_fc (P := P_L_widest) (ok_li (ok_iconst dL_widest_15)) (
  ce_fc (P := P_L_widest) (ok_reti dL_widest_16 rfl) (
  ce_fn (P := P_L_widest)))))))))
noncomputable def ta_L_widest : Nat → Option ce_N := (ce_fd tb_L_widest_0)
theorem tx_L_widest : ∀ pc f, ta_L_widest pc = some f → P_L_widest pc f := (ce_fd_ok (P := P_L_widest) tk_L_widest_0)
noncomputable def F_L_widest : ce_C := ce_M ta_L_widest 5 1 6 1000000
theorem m_L_widest : ∀ l : Launch, l.stackTraces = false → ce_MS l yL_widest (.codeWith yL_widest cL_widest 5 (some .int) [(0, 10, 13, 27)]) 3 1 6 F_L_widest := fun l hl => ce_metW hl (by decide +kernel) tx_L_widest
theorem hp_L_widest : yL_widest.cls ≠ "java/lang/invoke/MethodHandle" ∧ yL_widest.cls ≠ "java/lang/invoke/VarHandle" ∧ (parseMethodDescriptor yL_widest.desc).map (fun d => d.parameters.length) = some 4 := by decide +kernel
abbrev P_X12_init : Nat → ce_N → Prop := ce_OKN "CarcasswrightModel$Board" "<init>" cX12_init 6 none 3 (some [])
noncomputable def tb_X12_init_0 : List (Nat × ce_N) := [(0, ce_li (ce_aload 0 1)),
  (1, ce_li (ce_oi 4)),
  (4, ce_li (ce_aload 0 5)),
  (5, ce_li (ce_new 3 3 dl_Jx4a65c 8)),
  (8, ce_li (ce_dup 9)),
  (9, ce_call 1 0 0 12 (.inr true) (ce_CI F_Jx4a65c_init_da8c8)),
  (12, ce_li (ce_putf (tyX12 5) 16 5 15)),
  (15, ce_li (ce_aload 0 16)),
  (16, ce_li (ce_new 3 3 dl_Jx4a65c 19)),
  (19, ce_li (ce_dup 20)),
  (20, ce_call 1 0 0 23 (.inr true) (ce_CI F_Jx4a65c_init_da8c8)),
  (23, ce_li (ce_putf (tyX12 6) 16 6 26)),
  (26, ce_li (ce_aload 0 27)),
  (27, ce_li (ce_iload 1 28))]
theorem tk_X12_init_0 : ∀ x ∈ tb_X12_init_0, P_X12_init x.1 x.2 :=
  ce_fc (P := P_X12_init) (ok_li (ok_aload_n dX12_init_0 rfl)) (
  ce_fc (P := P_X12_init) (ok_li (ok_oi dX12_init_1 gw_2558 gw_57 gw_58)) (
  ce_fc (P := P_X12_init) (ok_li (ok_aload_n dX12_init_4 rfl)) (
  ce_fc (P := P_X12_init) (ok_li (ok_new (ci := 3) (C := RJx4a65c) (T := TJx4a65c) (N := 3) (ty0 := tyJx4a65c) dX12_init_5 rfl ce_uJx4a65c tyJx4a65c_ok gw_2559 gw_1492 gw_16 dv_Jx4a65c rfl)) (
  ce_fc (P := P_X12_init) (ok_li (ok_dup dX12_init_8)) (
  ce_fc (P := P_X12_init) (ok_call (ru_I m_Jx4a65c_init_da8c8 (by decide) (by decide) gw_1495 gw_2560 gw_1494 gw_16 rfl hp_Jx4a65c_init_da8c8 dX12_init_9) ca_t) (
  ce_fc (P := P_X12_init) (ok_li (ok_putf (ci := 16) (k := 5) (C := RX12) (T := TX12) (N := 7) (ty0 := tyX12) dX12_init_12 rfl ce_uX12 (by decide) gw_2571 (fun _ _ _ _ h => h) tyX12_ok nmX12 (Or.inr ⟨rfl, rfl, rfl⟩))) (
  ce_fc (P := P_X12_init) (ok_li (ok_aload_n dX12_init_15 rfl)) (
  ce_fc (P := P_X12_init) (ok_li (ok_new (ci := 3) (C := RJx4a65c) (T := TJx4a65c) (N := 3) (ty0 := tyJx4a65c) dX12_init_16 rfl ce_uJx4a65c tyJx4a65c_ok gw_2559 gw_1492 gw_16 dv_Jx4a65c rfl)) (
  ce_fc (P := P_X12_init) (ok_li (ok_dup dX12_init_19)) (
  ce_fc (P := P_X12_init) (ok_call (ru_I m_Jx4a65c_init_da8c8 (by decide) (by decide) gw_1495 gw_2560 gw_1494 gw_16 rfl hp_Jx4a65c_init_da8c8 dX12_init_20) ca_t) (
  ce_fc (P := P_X12_init) (ok_li (ok_putf (ci := 16) (k := 6) (C := RX12) (T := TX12) (N := 7) (ty0 := tyX12) dX12_init_23 rfl ce_uX12 (by decide) gw_2572 (fun _ _ _ _ h => h) tyX12_ok nmX12 (Or.inr ⟨rfl, rfl, rfl⟩))) (
  ce_fc (P := P_X12_init) (ok_li (ok_aload_n dX12_init_26 rfl)) (
  ce_fc (P := P_X12_init) (ok_li (ok_iload_n dX12_init_27 rfl)) (
  ce_fn (P := P_X12_init)))))))))))))))
noncomputable def tb_X12_init_1 : List (Nat × ce_N) := [(28, ce_li (ce_putf (tyX12 0) 16 0 31)),
  (31, ce_li (ce_aload 0 32)),
  (32, ce_li (ce_iload 2 33)),
  (33, ce_li (ce_putf (tyX12 1) 16 1 36)),
  (36, ce_li (ce_aload 0 37)),
  (37, ce_li (ce_iload 3 38)),
  (38, ce_li (ce_putf (tyX12 2) 16 2 41)),
  (41, ce_li (ce_aload 0 42)),
  (42, ce_li (ce_iload 4 44)),
  (44, ce_li (ce_putf (tyX12 3) 16 3 47)),
  (47, ce_li (ce_aload 0 48)),
  (48, ce_li (ce_iload 5 50)),
  (50, ce_li (ce_putf (tyX12 4) 16 4 53)),
  (53, ce_ret0)]
theorem tk_X12_init_1 : ∀ x ∈ tb_X12_init_1, P_X12_init x.1 x.2 :=
  ce_fc (P := P_X12_init) (ok_li (ok_putf (ci := 16) (k := 0) (C := RX12) (T := TX12) (N := 7) (ty0 := tyX12) dX12_init_28 rfl ce_uX12 (by decide) gw_2561 (fun _ _ _ _ h => h) tyX12_ok nmX12 (Or.inr ⟨rfl, rfl, rfl⟩))) (
  ce_fc (P := P_X12_init) (ok_li (ok_aload_n dX12_init_31 rfl)) (
  ce_fc (P := P_X12_init) (ok_li (ok_iload_n dX12_init_32 rfl)) (
  ce_fc (P := P_X12_init) (ok_li (ok_putf (ci := 16) (k := 1) (C := RX12) (T := TX12) (N := 7) (ty0 := tyX12) dX12_init_33 rfl ce_uX12 (by decide) gw_2563 (fun _ _ _ _ h => h) tyX12_ok nmX12 (Or.inr ⟨rfl, rfl, rfl⟩))) (
  ce_fc (P := P_X12_init) (ok_li (ok_aload_n dX12_init_36 rfl)) (
  ce_fc (P := P_X12_init) (ok_li (ok_iload_n dX12_init_37 rfl)) (
  ce_fc (P := P_X12_init) (ok_li (ok_putf (ci := 16) (k := 2) (C := RX12) (T := TX12) (N := 7) (ty0 := tyX12) dX12_init_38 rfl ce_uX12 (by decide) gw_2565 (fun _ _ _ _ h => h) tyX12_ok nmX12 (Or.inr ⟨rfl, rfl, rfl⟩))) (
  ce_fc (P := P_X12_init) (ok_li (ok_aload_n dX12_init_41 rfl)) (
  ce_fc (P := P_X12_init) (ok_li (ok_iload dX12_init_42)) (
  ce_fc (P := P_X12_init) (ok_li (ok_putf (ci := 16) (k := 3) (C := RX12) (T := TX12) (N := 7) (ty0 := tyX12) dX12_init_44 rfl ce_uX12 (by decide) gw_2567 (fun _ _ _ _ h => h) tyX12_ok nmX12 (Or.inr ⟨rfl, rfl, rfl⟩))) (
  ce_fc (P := P_X12_init) (ok_li (ok_aload_n dX12_init_47 rfl)) (
  ce_fc (P := P_X12_init) (ok_li (ok_iload dX12_init_48)) (
  ce_fc (P := P_X12_init) (ok_li (ok_putf (ci := 16) (k := 4) (C := RX12) (T := TX12) (N := 7) (ty0 := tyX12) dX12_init_50 rfl ce_uX12 (by decide) gw_2569 (fun _ _ _ _ h => h) tyX12_ok nmX12 (Or.inr ⟨rfl, rfl, rfl⟩))) (
  ce_fc (P := P_X12_init) (ok_ret0 dX12_init_53 rfl) (
  ce_fn (P := P_X12_init)))))))))))))))
noncomputable def ta_X12_init : Nat → Option ce_N := (ce_tr 28 (ce_fd tb_X12_init_0) (ce_fd tb_X12_init_1))
theorem tx_X12_init : ∀ pc f, ta_X12_init pc = some f → P_X12_init pc f := (ce_tr_ok (P := P_X12_init) (ce_fd_ok (P := P_X12_init) tk_X12_init_0) (ce_fd_ok (P := P_X12_init) tk_X12_init_1))
noncomputable def F_X12_init : ce_C := ce_M ta_X12_init 6 2 6 1000000
theorem m_X12_init : ∀ l : Launch, l.stackTraces = false → ce_MS l yX12_init (.code yX12_init cX12_init 6 none) 3 2 6 F_X12_init := fun l hl => ce_met hl (by decide +kernel) tx_X12_init
theorem hp_X12_init : yX12_init.cls ≠ "java/lang/invoke/MethodHandle" ∧ yX12_init.cls ≠ "java/lang/invoke/VarHandle" ∧ (parseMethodDescriptor yX12_init.desc).map (fun d => d.parameters.length) = some 5 := by decide +kernel
abbrev P_X21_area : Nat → ce_N → Prop := ce_OKN "CarcasswrightModel" "area" cX21_area 2 (some .long) 3 (some [])
noncomputable def tb_X21_area_0 : List (Nat × ce_N) := [(0, ce_li (ce_aload 0 1)),
  (1, ce_li (ce_push (.inl (.inl (0))) 2)),
  (2, ce_li (ce_putf (tyX21 0) 20 0 5)),
  (5, ce_li (ce_iload 1 6)),
  (6, ce_li (ce_lsw 81 [(99, 56), (100, 71), (112, 66), (115, 61), (120, 76)])),
  (56, ce_li (ce_aload 0 57)),
  (57, ce_li (ce_getf 20 10 60)),
  (60, ce_retl),
  (61, ce_li (ce_aload 0 62)),
  (62, ce_call 1 1 4 65 (.inr true) (ce_CV 20 F_X21_stocked)),
  (65, ce_retl),
  (66, ce_li (ce_aload 0 67)),
  (67, ce_call 1 1 4 70 (.inr true) (ce_CV 20 F_X21_cutArea)),
  (70, ce_retl)]
theorem tk_X21_area_0 : ∀ x ∈ tb_X21_area_0, P_X21_area x.1 x.2 :=
  ce_fc (P := P_X21_area) (ok_li (ok_aload_n dX21_area_0 rfl)) (
  ce_fc (P := P_X21_area) (ok_li (ok_iconst dX21_area_1)) (
  ce_fc (P := P_X21_area) (ok_li (ok_putf (ci := 20) (k := 0) (C := RX21) (T := TX21) (N := 20) (ty0 := tyX21) dX21_area_2 rfl ce_uX21 (by decide) gw_1521 (fun _ _ _ _ h => h) tyX21_ok nmX21 (Or.inl rfl))) (
  ce_fc (P := P_X21_area) (ok_li (ok_iload_n dX21_area_5 rfl)) (
  ce_fc (P := P_X21_area) (ok_li (ok_lsw dX21_area_6 (by decide) (by decide) (by decide) (by decide))) (
  ce_fc (P := P_X21_area) (ok_li (ok_aload_n dX21_area_56 rfl)) (
  ce_fc (P := P_X21_area) (ok_li (ok_getf (ci := 20) (k := 10) (C := RX21) (T := TX21) (N := 20) dX21_area_57 rfl ce_uX21 (by decide) gw_1531 (fun _ _ _ _ h => h))) (
  ce_fc (P := P_X21_area) (ok_retl dX21_area_60 rfl) (
  ce_fc (P := P_X21_area) (ok_li (ok_aload_n dX21_area_61 rfl)) (
  ce_fc (P := P_X21_area) (ok_call (ru_V (ci := 20) (C := RX21) (Tf := TX21) (N := 20) m_X21_stocked (by decide) (by decide) rfl gw_2837 gw_2834 gw_2836 gp_31 gw_13 ⟨rfl, hp_X21_stocked⟩ dX21_area_62) ca_t) (
  ce_fc (P := P_X21_area) (ok_retl dX21_area_65 rfl) (
  ce_fc (P := P_X21_area) (ok_li (ok_aload_n dX21_area_66 rfl)) (
  ce_fc (P := P_X21_area) (ok_call (ru_V (ci := 20) (C := RX21) (Tf := TX21) (N := 20) m_X21_cutArea (by decide) (by decide) rfl gw_2841 gw_2838 gw_2840 gp_32 gw_13 ⟨rfl, hp_X21_cutArea⟩ dX21_area_67) ca_t) (
  ce_fc (P := P_X21_area) (ok_retl dX21_area_70 rfl) (
  ce_fn (P := P_X21_area)))))))))))))))
noncomputable def tb_X21_area_1 : List (Nat × ce_N) := [(71, ce_li (ce_aload 0 72)),
  (72, ce_li (ce_getf 20 11 75)),
  (75, ce_retl),
  (76, ce_li (ce_aload 0 77)),
  (77, ce_li (ce_getf 20 12 80)),
  (80, ce_retl),
  (81, ce_li (ce_aload 0 82)),
  (82, ce_li (ce_push (.inl (.inl (1))) 83)),
  (83, ce_li (ce_putf (tyX21 0) 20 0 86)),
  (86, ce_li (ce_push (.inr (.inl (.inl 0))) 87)),
  (87, ce_retl)]
theorem tk_X21_area_1 : ∀ x ∈ tb_X21_area_1, P_X21_area x.1 x.2 :=
  ce_fc (P := P_X21_area) (ok_li (ok_aload_n dX21_area_71 rfl)) (
  ce_fc (P := P_X21_area) (ok_li (ok_getf (ci := 20) (k := 11) (C := RX21) (T := TX21) (N := 20) dX21_area_72 rfl ce_uX21 (by decide) gw_1532 (fun _ _ _ _ h => h))) (
  ce_fc (P := P_X21_area) (ok_retl dX21_area_75 rfl) (
  ce_fc (P := P_X21_area) (ok_li (ok_aload_n dX21_area_76 rfl)) (
  ce_fc (P := P_X21_area) (ok_li (ok_getf (ci := 20) (k := 12) (C := RX21) (T := TX21) (N := 20) dX21_area_77 rfl ce_uX21 (by decide) gw_1533 (fun _ _ _ _ h => h))) (
  ce_fc (P := P_X21_area) (ok_retl dX21_area_80 rfl) (
  ce_fc (P := P_X21_area) (ok_li (ok_aload_n dX21_area_81 rfl)) (
  ce_fc (P := P_X21_area) (ok_li (ok_iconst dX21_area_82)) (
  ce_fc (P := P_X21_area) (ok_li (ok_putf (ci := 20) (k := 0) (C := RX21) (T := TX21) (N := 20) (ty0 := tyX21) dX21_area_83 rfl ce_uX21 (by decide) gw_1521 (fun _ _ _ _ h => h) tyX21_ok nmX21 (Or.inl rfl))) (
  ce_fc (P := P_X21_area) (ok_li (ok_lconst0 dX21_area_86)) (
  ce_fc (P := P_X21_area) (ok_retl dX21_area_87 rfl) (
  ce_fn (P := P_X21_area))))))))))))
noncomputable def ta_X21_area : Nat → Option ce_N := (ce_tr 71 (ce_fd tb_X21_area_0) (ce_fd tb_X21_area_1))
theorem tx_X21_area : ∀ pc f, ta_X21_area pc = some f → P_X21_area pc f := (ce_tr_ok (P := P_X21_area) (ce_fd_ok (P := P_X21_area) tk_X21_area_0) (ce_fd_ok (P := P_X21_area) tk_X21_area_1))
noncomputable def F_X21_area : ce_C := ce_M ta_X21_area 2 1 4 1000000
theorem m_X21_area : ∀ l : Launch, l.stackTraces = false → ce_MS l yX21_area (.code yX21_area cX21_area 2 (some .long)) 3 1 4 F_X21_area := fun l hl => ce_met hl (by decide +kernel) tx_X21_area
theorem hp_X21_area : yX21_area.cls ≠ "java/lang/invoke/MethodHandle" ∧ yX21_area.cls ≠ "java/lang/invoke/VarHandle" ∧ (parseMethodDescriptor yX21_area.desc).map (fun d => d.parameters.length) = some 1 := by decide +kernel
abbrev P_X21_clamp : Nat → ce_N → Prop := ce_OKN "CarcasswrightModel" "clamp" cX21_clamp 8 (some .int) 3 (some [])
noncomputable def tb_X21_clamp_0 : List (Nat × ce_N) := [(0, ce_li (ce_aload 0 1)),
  (1, ce_li (ce_iload 1 2)),
  (2, ce_li (ce_iload 2 3)),
  (3, ce_call 3 0 0 6 (.inr true) (ce_CV 20 F_X21_part)),
  (6, ce_li (ce_astore 4 8 8)),
  (8, ce_li (ce_aload 4 10)),
  (10, ce_li (ce_ifnn 15 13)),
  (13, ce_li (ce_push (.inl (.inl (0))) 14)),
  (14, ce_reti .int)]
theorem tk_X21_clamp_0 : ∀ x ∈ tb_X21_clamp_0, P_X21_clamp x.1 x.2 :=
  ce_fc (P := P_X21_clamp) (ok_li (ok_aload_n dX21_clamp_0 rfl)) (
  ce_fc (P := P_X21_clamp) (ok_li (ok_iload_n dX21_clamp_1 rfl)) (
  ce_fc (P := P_X21_clamp) (ok_li (ok_iload_n dX21_clamp_2 rfl)) (
  ce_fc (P := P_X21_clamp) (ok_call (ru_V (ci := 20) (C := RX21) (Tf := TX21) (N := 20) m_X21_part (by decide) (by decide) rfl gw_2469 gw_2466 gw_2468 gp_24 gw_13 ⟨rfl, hp_X21_part⟩ dX21_clamp_3) ca_t) (
  ce_fc (P := P_X21_clamp) (ok_li (ok_astore dX21_clamp_6)) (
  ce_fc (P := P_X21_clamp) (ok_li (ok_aload dX21_clamp_8)) (
  ce_fc (P := P_X21_clamp) (ok_li (ok_ifnn dX21_clamp_10 (by decide))) (
  ce_fc (P := P_X21_clamp) (ok_li (ok_iconst dX21_clamp_13)) (
  ce_fc (P := P_X21_clamp) (ok_reti dX21_clamp_14 rfl) (
  ce_fn (P := P_X21_clamp))))))))))
noncomputable def ta_X21_clamp : Nat → Option ce_N := (ce_fd tb_X21_clamp_0)
theorem tx_X21_clamp : ∀ pc f, ta_X21_clamp pc = some f → P_X21_clamp pc f := (ce_fd_ok (P := P_X21_clamp) tk_X21_clamp_0)
noncomputable def F_X21_clamp : ce_C := ce_M ta_X21_clamp 8 0 0 1000000
theorem m_X21_clamp : ∀ l : Launch, l.stackTraces = false → ce_MS l yX21_clamp (.code yX21_clamp cX21_clamp 8 (some .int)) 3 0 0 F_X21_clamp := fun l hl => ce_met hl (by decide +kernel) tx_X21_clamp
theorem hp_X21_clamp : yX21_clamp.cls ≠ "java/lang/invoke/MethodHandle" ∧ yX21_clamp.cls ≠ "java/lang/invoke/VarHandle" ∧ (parseMethodDescriptor yX21_clamp.desc).map (fun d => d.parameters.length) = some 3 := by decide +kernel
abbrev P_X21_drills : Nat → ce_N → Prop := ce_OKN "CarcasswrightModel" "drills" cX21_drills 7 (some .int) 3 (some [])
noncomputable def tb_X21_drills_0 : List (Nat × ce_N) := [(0, ce_li (ce_aload 0 1)),
  (1, ce_li (ce_iload 1 2)),
  (2, ce_li (ce_iload 2 3)),
  (3, ce_call 3 0 0 6 (.inr true) (ce_CV 20 F_X21_part)),
  (6, ce_li (ce_ifnn 11 9)),
  (9, ce_li (ce_push (.inl (.inl (0))) 10)),
  (10, ce_reti .int)]
theorem tk_X21_drills_0 : ∀ x ∈ tb_X21_drills_0, P_X21_drills x.1 x.2 :=
  ce_fc (P := P_X21_drills) (ok_li (ok_aload_n dX21_drills_0 rfl)) (
  ce_fc (P := P_X21_drills) (ok_li (ok_iload_n dX21_drills_1 rfl)) (
  ce_fc (P := P_X21_drills) (ok_li (ok_iload_n dX21_drills_2 rfl)) (
  ce_fc (P := P_X21_drills) (ok_call (ru_V (ci := 20) (C := RX21) (Tf := TX21) (N := 20) m_X21_part (by decide) (by decide) rfl gw_2469 gw_2466 gw_2468 gp_24 gw_13 ⟨rfl, hp_X21_part⟩ dX21_drills_3) ca_t) (
  ce_fc (P := P_X21_drills) (ok_li (ok_ifnn dX21_drills_6 (by decide))) (
  ce_fc (P := P_X21_drills) (ok_li (ok_iconst dX21_drills_9)) (
  ce_fc (P := P_X21_drills) (ok_reti dX21_drills_10 rfl) (
  ce_fn (P := P_X21_drills))))))))
noncomputable def ta_X21_drills : Nat → Option ce_N := (ce_fd tb_X21_drills_0)
theorem tx_X21_drills : ∀ pc f, ta_X21_drills pc = some f → P_X21_drills pc f := (ce_fd_ok (P := P_X21_drills) tk_X21_drills_0)
noncomputable def F_X21_drills : ce_C := ce_M ta_X21_drills 7 0 0 1000000
theorem m_X21_drills : ∀ l : Launch, l.stackTraces = false → ce_MS l yX21_drills (.code yX21_drills cX21_drills 7 (some .int)) 3 0 0 F_X21_drills := fun l hl => ce_met hl (by decide +kernel) tx_X21_drills
theorem hp_X21_drills : yX21_drills.cls ≠ "java/lang/invoke/MethodHandle" ∧ yX21_drills.cls ≠ "java/lang/invoke/VarHandle" ∧ (parseMethodDescriptor yX21_drills.desc).map (fun d => d.parameters.length) = some 2 := by decide +kernel
abbrev P_X21_hole : Nat → ce_N → Prop := ce_OKN "CarcasswrightModel" "hole" cX21_hole 7 (some .int) 3 (some [])
noncomputable def tb_X21_hole_0 : List (Nat × ce_N) := [(0, ce_li (ce_aload 0 1)),
  (1, ce_li (ce_iload 1 2)),
  (2, ce_li (ce_iload 2 3)),
  (3, ce_call 3 0 0 6 (.inr true) (ce_CV 20 F_X21_part)),
  (6, ce_li (ce_ifnn 11 9)),
  (9, ce_li (ce_push (.inl (.inl (0))) 10)),
  (10, ce_reti .int)]
theorem tk_X21_hole_0 : ∀ x ∈ tb_X21_hole_0, P_X21_hole x.1 x.2 :=
  ce_fc (P := P_X21_hole) (ok_li (ok_aload_n dX21_hole_0 rfl)) (
  ce_fc (P := P_X21_hole) (ok_li (ok_iload_n dX21_hole_1 rfl)) (
  ce_fc (P := P_X21_hole) (ok_li (ok_iload_n dX21_hole_2 rfl)) (
  ce_fc (P := P_X21_hole) (ok_call (ru_V (ci := 20) (C := RX21) (Tf := TX21) (N := 20) m_X21_part (by decide) (by decide) rfl gw_2469 gw_2466 gw_2468 gp_24 gw_13 ⟨rfl, hp_X21_part⟩ dX21_hole_3) ca_t) (
  ce_fc (P := P_X21_hole) (ok_li (ok_ifnn dX21_hole_6 (by decide))) (
  ce_fc (P := P_X21_hole) (ok_li (ok_iconst dX21_hole_9)) (
  ce_fc (P := P_X21_hole) (ok_reti dX21_hole_10 rfl) (
  ce_fn (P := P_X21_hole))))))))
noncomputable def ta_X21_hole : Nat → Option ce_N := (ce_fd tb_X21_hole_0)
theorem tx_X21_hole : ∀ pc f, ta_X21_hole pc = some f → P_X21_hole pc f := (ce_fd_ok (P := P_X21_hole) tk_X21_hole_0)
noncomputable def F_X21_hole : ce_C := ce_M ta_X21_hole 7 0 0 1000000
theorem m_X21_hole : ∀ l : Launch, l.stackTraces = false → ce_MS l yX21_hole (.code yX21_hole cX21_hole 7 (some .int)) 3 0 0 F_X21_hole := fun l hl => ce_met hl (by decide +kernel) tx_X21_hole
theorem hp_X21_hole : yX21_hole.cls ≠ "java/lang/invoke/MethodHandle" ∧ yX21_hole.cls ≠ "java/lang/invoke/VarHandle" ∧ (parseMethodDescriptor yX21_hole.desc).map (fun d => d.parameters.length) = some 4 := by decide +kernel
abbrev P_X21_holes : Nat → ce_N → Prop := ce_OKN "CarcasswrightModel" "holes" cX21_holes 3 (some .int) 3 (some [])
noncomputable def tb_X21_holes_0 : List (Nat × ce_N) := [(0, ce_li (ce_aload 0 1)),
  (1, ce_li (ce_iload 1 2)),
  (2, ce_li (ce_iload 2 3)),
  (3, ce_call 3 0 0 6 (.inr true) (ce_CV 20 F_X21_part)),
  (6, ce_li (ce_ifnn 13 9)),
  (9, ce_li (ce_push (.inl (.inl (0))) 10)),
  (10, ce_li (ce_goto 31)),
  (31, ce_reti .int)]
theorem tk_X21_holes_0 : ∀ x ∈ tb_X21_holes_0, P_X21_holes x.1 x.2 :=
  ce_fc (P := P_X21_holes) (ok_li (ok_aload_n dX21_holes_0 rfl)) (
  ce_fc (P := P_X21_holes) (ok_li (ok_iload_n dX21_holes_1 rfl)) (
  ce_fc (P := P_X21_holes) (ok_li (ok_iload_n dX21_holes_2 rfl)) (
  ce_fc (P := P_X21_holes) (ok_call (ru_V (ci := 20) (C := RX21) (Tf := TX21) (N := 20) m_X21_part (by decide) (by decide) rfl gw_2469 gw_2466 gw_2468 gp_24 gw_13 ⟨rfl, hp_X21_part⟩ dX21_holes_3) ca_t) (
  ce_fc (P := P_X21_holes) (ok_li (ok_ifnn dX21_holes_6 (by decide))) (
  ce_fc (P := P_X21_holes) (ok_li (ok_iconst dX21_holes_9)) (
  ce_fc (P := P_X21_holes) (ok_li (ok_goto dX21_holes_10 (by decide))) (
  ce_fc (P := P_X21_holes) (ok_reti dX21_holes_31 rfl) (
  ce_fn (P := P_X21_holes)))))))))
noncomputable def ta_X21_holes : Nat → Option ce_N := (ce_fd tb_X21_holes_0)
theorem tx_X21_holes : ∀ pc f, ta_X21_holes pc = some f → P_X21_holes pc f := (ce_fd_ok (P := P_X21_holes) tk_X21_holes_0)
noncomputable def F_X21_holes : ce_C := ce_M ta_X21_holes 3 0 0 1000000
theorem m_X21_holes : ∀ l : Launch, l.stackTraces = false → ce_MS l yX21_holes (.code yX21_holes cX21_holes 3 (some .int)) 3 0 0 F_X21_holes := fun l hl => ce_met hl (by decide +kernel) tx_X21_holes
theorem hp_X21_holes : yX21_holes.cls ≠ "java/lang/invoke/MethodHandle" ∧ yX21_holes.cls ≠ "java/lang/invoke/VarHandle" ∧ (parseMethodDescriptor yX21_holes.desc).map (fun d => d.parameters.length) = some 2 := by decide +kernel
abbrev P_X21_init : Nat → ce_N → Prop := ce_OKN "CarcasswrightModel" "<init>" cX21_init 1 none 3 (some [])
noncomputable def tb_X21_init_0 : List (Nat × ce_N) := [(0, ce_li (ce_aload 0 1)),
  (1, ce_li (ce_oi 4)),
  (4, ce_li (ce_aload 0 5)),
  (5, ce_li (ce_new 3 3 dl_Jx4a65c 8)),
  (8, ce_li (ce_dup 9)),
  (9, ce_call 1 0 0 12 (.inr true) (ce_CI F_Jx4a65c_init_da8c8)),
  (12, ce_li (ce_putf (tyX21 1) 20 1 15)),
  (15, ce_li (ce_aload 0 16)),
  (16, ce_li (ce_new 3 3 dl_Jx4a65c 19)),
  (19, ce_li (ce_dup 20)),
  (20, ce_call 1 0 0 23 (.inr true) (ce_CI F_Jx4a65c_init_da8c8)),
  (23, ce_li (ce_putf (tyX21 2) 20 2 26)),
  (26, ce_li (ce_aload 0 27)),
  (27, ce_li (ce_push (.inr (.inr (.inl (.inr 2)))) 29))]
theorem tk_X21_init_0 : ∀ x ∈ tb_X21_init_0, P_X21_init x.1 x.2 :=
  ce_fc (P := P_X21_init) (ok_li (ok_aload_n dX21_init_0 rfl)) (
  ce_fc (P := P_X21_init) (ok_li (ok_oi dX21_init_1 gw_1490 gw_57 gw_58)) (
  ce_fc (P := P_X21_init) (ok_li (ok_aload_n dX21_init_4 rfl)) (
  ce_fc (P := P_X21_init) (ok_li (ok_new (ci := 3) (C := RJx4a65c) (T := TJx4a65c) (N := 3) (ty0 := tyJx4a65c) dX21_init_5 rfl ce_uJx4a65c tyJx4a65c_ok gw_1491 gw_1492 gw_16 dv_Jx4a65c rfl)) (
  ce_fc (P := P_X21_init) (ok_li (ok_dup dX21_init_8)) (
  ce_fc (P := P_X21_init) (ok_call (ru_I m_Jx4a65c_init_da8c8 (by decide) (by decide) gw_1495 gw_1493 gw_1494 gw_16 rfl hp_Jx4a65c_init_da8c8 dX21_init_9) ca_t) (
  ce_fc (P := P_X21_init) (ok_li (ok_putf (ci := 20) (k := 1) (C := RX21) (T := TX21) (N := 20) (ty0 := tyX21) dX21_init_12 rfl ce_uX21 (by decide) gw_1522 (fun _ _ _ _ h => h) tyX21_ok nmX21 (Or.inr ⟨rfl, rfl, rfl⟩))) (
  ce_fc (P := P_X21_init) (ok_li (ok_aload_n dX21_init_15 rfl)) (
  ce_fc (P := P_X21_init) (ok_li (ok_new (ci := 3) (C := RJx4a65c) (T := TJx4a65c) (N := 3) (ty0 := tyJx4a65c) dX21_init_16 rfl ce_uJx4a65c tyJx4a65c_ok gw_1491 gw_1492 gw_16 dv_Jx4a65c rfl)) (
  ce_fc (P := P_X21_init) (ok_li (ok_dup dX21_init_19)) (
  ce_fc (P := P_X21_init) (ok_call (ru_I m_Jx4a65c_init_da8c8 (by decide) (by decide) gw_1495 gw_1493 gw_1494 gw_16 rfl hp_Jx4a65c_init_da8c8 dX21_init_20) ca_t) (
  ce_fc (P := P_X21_init) (ok_li (ok_putf (ci := 20) (k := 2) (C := RX21) (T := TX21) (N := 20) (ty0 := tyX21) dX21_init_23 rfl ce_uX21 (by decide) gw_1523 (fun _ _ _ _ h => h) tyX21_ok nmX21 (Or.inr ⟨rfl, rfl, rfl⟩))) (
  ce_fc (P := P_X21_init) (ok_li (ok_aload_n dX21_init_26 rfl)) (
  ce_fc (P := P_X21_init) (ok_li (ok_ldcS ce_s2 dX21_init_27)) (
  ce_fn (P := P_X21_init)))))))))))))))
noncomputable def tb_X21_init_1 : List (Nat × ce_N) := [(29, ce_li (ce_putf (tyX21 3) 20 3 32)),
  (32, ce_li (ce_aload 0 33)),
  (33, ce_li (ce_new 3 3 dl_Jx4a65c 36)),
  (36, ce_li (ce_dup 37)),
  (37, ce_call 1 0 0 40 (.inr true) (ce_CI F_Jx4a65c_init_da8c8)),
  (40, ce_li (ce_putf (tyX21 4) 20 4 43)),
  (43, ce_li (ce_aload 0 44)),
  (44, ce_li (ce_new 3 3 dl_Jx4a65c 47)),
  (47, ce_li (ce_dup 48)),
  (48, ce_call 1 0 0 51 (.inr true) (ce_CI F_Jx4a65c_init_da8c8)),
  (51, ce_li (ce_putf (tyX21 5) 20 5 54)),
  (54, ce_li (ce_aload 0 55)),
  (55, ce_li (ce_new 3 3 dl_Jx4a65c 58)),
  (58, ce_li (ce_dup 59))]
theorem tk_X21_init_1 : ∀ x ∈ tb_X21_init_1, P_X21_init x.1 x.2 :=
  ce_fc (P := P_X21_init) (ok_li (ok_putf (ci := 20) (k := 3) (C := RX21) (T := TX21) (N := 20) (ty0 := tyX21) dX21_init_29 rfl ce_uX21 (by decide) gw_1524 (fun _ _ _ _ h => h) tyX21_ok nmX21 (Or.inl rfl))) (
  ce_fc (P := P_X21_init) (ok_li (ok_aload_n dX21_init_32 rfl)) (
  ce_fc (P := P_X21_init) (ok_li (ok_new (ci := 3) (C := RJx4a65c) (T := TJx4a65c) (N := 3) (ty0 := tyJx4a65c) dX21_init_33 rfl ce_uJx4a65c tyJx4a65c_ok gw_1491 gw_1492 gw_16 dv_Jx4a65c rfl)) (
  ce_fc (P := P_X21_init) (ok_li (ok_dup dX21_init_36)) (
  ce_fc (P := P_X21_init) (ok_call (ru_I m_Jx4a65c_init_da8c8 (by decide) (by decide) gw_1495 gw_1493 gw_1494 gw_16 rfl hp_Jx4a65c_init_da8c8 dX21_init_37) ca_t) (
  ce_fc (P := P_X21_init) (ok_li (ok_putf (ci := 20) (k := 4) (C := RX21) (T := TX21) (N := 20) (ty0 := tyX21) dX21_init_40 rfl ce_uX21 (by decide) gw_1525 (fun _ _ _ _ h => h) tyX21_ok nmX21 (Or.inr ⟨rfl, rfl, rfl⟩))) (
  ce_fc (P := P_X21_init) (ok_li (ok_aload_n dX21_init_43 rfl)) (
  ce_fc (P := P_X21_init) (ok_li (ok_new (ci := 3) (C := RJx4a65c) (T := TJx4a65c) (N := 3) (ty0 := tyJx4a65c) dX21_init_44 rfl ce_uJx4a65c tyJx4a65c_ok gw_1491 gw_1492 gw_16 dv_Jx4a65c rfl)) (
  ce_fc (P := P_X21_init) (ok_li (ok_dup dX21_init_47)) (
  ce_fc (P := P_X21_init) (ok_call (ru_I m_Jx4a65c_init_da8c8 (by decide) (by decide) gw_1495 gw_1493 gw_1494 gw_16 rfl hp_Jx4a65c_init_da8c8 dX21_init_48) ca_t) (
  ce_fc (P := P_X21_init) (ok_li (ok_putf (ci := 20) (k := 5) (C := RX21) (T := TX21) (N := 20) (ty0 := tyX21) dX21_init_51 rfl ce_uX21 (by decide) gw_1526 (fun _ _ _ _ h => h) tyX21_ok nmX21 (Or.inr ⟨rfl, rfl, rfl⟩))) (
  ce_fc (P := P_X21_init) (ok_li (ok_aload_n dX21_init_54 rfl)) (
  ce_fc (P := P_X21_init) (ok_li (ok_new (ci := 3) (C := RJx4a65c) (T := TJx4a65c) (N := 3) (ty0 := tyJx4a65c) dX21_init_55 rfl ce_uJx4a65c tyJx4a65c_ok gw_1491 gw_1492 gw_16 dv_Jx4a65c rfl)) (
  ce_fc (P := P_X21_init) (ok_li (ok_dup dX21_init_58)) (
  ce_fn (P := P_X21_init)))))))))))))))
noncomputable def tb_X21_init_2 : List (Nat × ce_N) := [(59, ce_call 1 0 0 62 (.inr true) (ce_CI F_Jx4a65c_init_da8c8)),
  (62, ce_li (ce_putf (tyX21 6) 20 6 65)),
  (65, ce_li (ce_aload 0 66)),
  (66, ce_li (ce_new 3 3 dl_Jx4a65c 69)),
  (69, ce_li (ce_dup 70)),
  (70, ce_call 1 0 0 73 (.inr true) (ce_CI F_Jx4a65c_init_da8c8)),
  (73, ce_li (ce_putf (tyX21 7) 20 7 76)),
  (76, ce_li (ce_aload 0 77)),
  (77, ce_li (ce_push (.inl (.inl (3))) 78)),
  (78, ce_li (ce_newa 0 2 80)),
  (80, ce_li (ce_dup 81)),
  (81, ce_li (ce_push (.inl (.inl (0))) 82)),
  (82, ce_li (ce_push (.inl (.inl (2))) 83)),
  (83, ce_li (ce_iast 0 84 83))]
theorem tk_X21_init_2 : ∀ x ∈ tb_X21_init_2, P_X21_init x.1 x.2 :=
  ce_fc (P := P_X21_init) (ok_call (ru_I m_Jx4a65c_init_da8c8 (by decide) (by decide) gw_1495 gw_1493 gw_1494 gw_16 rfl hp_Jx4a65c_init_da8c8 dX21_init_59) ca_t) (
  ce_fc (P := P_X21_init) (ok_li (ok_putf (ci := 20) (k := 6) (C := RX21) (T := TX21) (N := 20) (ty0 := tyX21) dX21_init_62 rfl ce_uX21 (by decide) gw_1527 (fun _ _ _ _ h => h) tyX21_ok nmX21 (Or.inl rfl))) (
  ce_fc (P := P_X21_init) (ok_li (ok_aload_n dX21_init_65 rfl)) (
  ce_fc (P := P_X21_init) (ok_li (ok_new (ci := 3) (C := RJx4a65c) (T := TJx4a65c) (N := 3) (ty0 := tyJx4a65c) dX21_init_66 rfl ce_uJx4a65c tyJx4a65c_ok gw_1491 gw_1492 gw_16 dv_Jx4a65c rfl)) (
  ce_fc (P := P_X21_init) (ok_li (ok_dup dX21_init_69)) (
  ce_fc (P := P_X21_init) (ok_call (ru_I m_Jx4a65c_init_da8c8 (by decide) (by decide) gw_1495 gw_1493 gw_1494 gw_16 rfl hp_Jx4a65c_init_da8c8 dX21_init_70) ca_t) (
  ce_fc (P := P_X21_init) (ok_li (ok_putf (ci := 20) (k := 7) (C := RX21) (T := TX21) (N := 20) (ty0 := tyX21) dX21_init_73 rfl ce_uX21 (by decide) gw_1528 (fun _ _ _ _ h => h) tyX21_ok nmX21 (Or.inr ⟨rfl, rfl, rfl⟩))) (
  ce_fc (P := P_X21_init) (ok_li (ok_aload_n dX21_init_76 rfl)) (
  ce_fc (P := P_X21_init) (ok_li (ok_iconst dX21_init_77)) (
  ce_fc (P := P_X21_init) (ok_li (ok_newa_int dX21_init_78 gw_193)) (
  ce_fc (P := P_X21_init) (ok_li (ok_dup dX21_init_80)) (
  ce_fc (P := P_X21_init) (ok_li (ok_iconst dX21_init_81)) (
  ce_fc (P := P_X21_init) (ok_li (ok_iconst dX21_init_82)) (
  ce_fc (P := P_X21_init) (ok_li (ok_iastore dX21_init_83)) (
  ce_fn (P := P_X21_init)))))))))))))))
noncomputable def tb_X21_init_3 : List (Nat × ce_N) := [(84, ce_li (ce_dup 85)),
  (85, ce_li (ce_push (.inl (.inl (1))) 86)),
  (86, ce_li (ce_push (.inl (.inl (5))) 87)),
  (87, ce_li (ce_iast 0 88 87)),
  (88, ce_li (ce_dup 89)),
  (89, ce_li (ce_push (.inl (.inl (2))) 90)),
  (90, ce_li (ce_push (.inl (.inl (9))) 92)),
  (92, ce_li (ce_iast 0 93 92)),
  (93, ce_li (ce_putf (tyX21 8) 20 8 96)),
  (96, ce_li (ce_aload 0 97)),
  (97, ce_li (ce_push (.inl (.inl (2))) 98)),
  (98, ce_li (ce_putf (tyX21 9) 20 9 101)),
  (101, ce_li (ce_aload 0 102)),
  (102, ce_li (ce_push (.inr (.inr (.inl (.inr 2)))) 104))]
theorem tk_X21_init_3 : ∀ x ∈ tb_X21_init_3, P_X21_init x.1 x.2 :=
  ce_fc (P := P_X21_init) (ok_li (ok_dup dX21_init_84)) (
  ce_fc (P := P_X21_init) (ok_li (ok_iconst dX21_init_85)) (
  ce_fc (P := P_X21_init) (ok_li (ok_iconst dX21_init_86)) (
  ce_fc (P := P_X21_init) (ok_li (ok_iastore dX21_init_87)) (
  ce_fc (P := P_X21_init) (ok_li (ok_dup dX21_init_88)) (
  ce_fc (P := P_X21_init) (ok_li (ok_iconst dX21_init_89)) (
  ce_fc (P := P_X21_init) (ok_li (ok_bipush dX21_init_90 (by decide))) (
  ce_fc (P := P_X21_init) (ok_li (ok_iastore dX21_init_92)) (
  ce_fc (P := P_X21_init) (ok_li (ok_putf (ci := 20) (k := 8) (C := RX21) (T := TX21) (N := 20) (ty0 := tyX21) dX21_init_93 rfl ce_uX21 (by decide) gw_1529 (fun _ _ _ _ h => h) tyX21_ok nmX21 (Or.inr ⟨rfl, rfl, rfl⟩))) (
  ce_fc (P := P_X21_init) (ok_li (ok_aload_n dX21_init_96 rfl)) (
  ce_fc (P := P_X21_init) (ok_li (ok_iconst dX21_init_97)) (
  ce_fc (P := P_X21_init) (ok_li (ok_putf (ci := 20) (k := 9) (C := RX21) (T := TX21) (N := 20) (ty0 := tyX21) dX21_init_98 rfl ce_uX21 (by decide) gw_1530 (fun _ _ _ _ h => h) tyX21_ok nmX21 (Or.inl rfl))) (
  ce_fc (P := P_X21_init) (ok_li (ok_aload_n dX21_init_101 rfl)) (
  ce_fc (P := P_X21_init) (ok_li (ok_ldcS ce_s2 dX21_init_102)) (
  ce_fn (P := P_X21_init)))))))))))))))
noncomputable def tb_X21_init_4 : List (Nat × ce_N) := [(104, ce_li (ce_putf (tyX21 13) 20 13 107)),
  (107, ce_li (ce_aload 0 108)),
  (108, ce_li (ce_push (.inl (.inl (2))) 109)),
  (109, ce_li (ce_newa 0 2 111)),
  (111, ce_li (ce_putf (tyX21 14) 20 14 114)),
  (114, ce_li (ce_aload 0 115)),
  (115, ce_li (ce_push (.inl (.inl (0))) 116)),
  (116, ce_li (ce_newa 0 2 118)),
  (118, ce_li (ce_putf (tyX21 19) 20 19 121)),
  (121, ce_ret0)]
theorem tk_X21_init_4 : ∀ x ∈ tb_X21_init_4, P_X21_init x.1 x.2 :=
  ce_fc (P := P_X21_init) (ok_li (ok_putf (ci := 20) (k := 13) (C := RX21) (T := TX21) (N := 20) (ty0 := tyX21) dX21_init_104 rfl ce_uX21 (by decide) gw_1534 (fun _ _ _ _ h => h) tyX21_ok nmX21 (Or.inl rfl))) (
  ce_fc (P := P_X21_init) (ok_li (ok_aload_n dX21_init_107 rfl)) (
  ce_fc (P := P_X21_init) (ok_li (ok_iconst dX21_init_108)) (
  ce_fc (P := P_X21_init) (ok_li (ok_newa_int dX21_init_109 gw_193)) (
  ce_fc (P := P_X21_init) (ok_li (ok_putf (ci := 20) (k := 14) (C := RX21) (T := TX21) (N := 20) (ty0 := tyX21) dX21_init_111 rfl ce_uX21 (by decide) gw_1535 (fun _ _ _ _ h => h) tyX21_ok nmX21 (Or.inl rfl))) (
  ce_fc (P := P_X21_init) (ok_li (ok_aload_n dX21_init_114 rfl)) (
  ce_fc (P := P_X21_init) (ok_li (ok_iconst dX21_init_115)) (
  ce_fc (P := P_X21_init) (ok_li (ok_newa_int dX21_init_116 gw_193)) (
  ce_fc (P := P_X21_init) (ok_li (ok_putf (ci := 20) (k := 19) (C := RX21) (T := TX21) (N := 20) (ty0 := tyX21) dX21_init_118 rfl ce_uX21 (by decide) gw_1540 (fun _ _ _ _ h => h) tyX21_ok nmX21 (Or.inl rfl))) (
  ce_fc (P := P_X21_init) (ok_ret0 dX21_init_121 rfl) (
  ce_fn (P := P_X21_init)))))))))))
noncomputable def ta_X21_init : Nat → Option ce_N := (ce_tr 59 (ce_tr 29 (ce_fd tb_X21_init_0) (ce_fd tb_X21_init_1)) (ce_tr 84 (ce_fd tb_X21_init_2) (ce_tr 104 (ce_fd tb_X21_init_3) (ce_fd tb_X21_init_4))))
theorem tx_X21_init : ∀ pc f, ta_X21_init pc = some f → P_X21_init pc f := (ce_tr_ok (P := P_X21_init) (ce_tr_ok (P := P_X21_init) (ce_fd_ok (P := P_X21_init) tk_X21_init_0) (ce_fd_ok (P := P_X21_init) tk_X21_init_1)) (ce_tr_ok (P := P_X21_init) (ce_fd_ok (P := P_X21_init) tk_X21_init_2) (ce_tr_ok (P := P_X21_init) (ce_fd_ok (P := P_X21_init) tk_X21_init_3) (ce_fd_ok (P := P_X21_init) tk_X21_init_4))))
noncomputable def F_X21_init : ce_C := ce_M ta_X21_init 1 9 23 1000000
theorem m_X21_init : ∀ l : Launch, l.stackTraces = false → ce_MS l yX21_init (.code yX21_init cX21_init 1 none) 3 9 23 F_X21_init := fun l hl => ce_met hl (by decide +kernel) tx_X21_init
theorem hp_X21_init : yX21_init.cls ≠ "java/lang/invoke/MethodHandle" ∧ yX21_init.cls ≠ "java/lang/invoke/VarHandle" ∧ (parseMethodDescriptor yX21_init.desc).map (fun d => d.parameters.length) = some 0 := by decide +kernel
abbrev P_X21_kindOf : Nat → ce_N → Prop := ce_OKN "CarcasswrightModel" "kindOf" cX21_kindOf 4 (some .char) 3 (some [])
noncomputable def tb_X21_kindOf_0 : List (Nat × ce_N) := [(0, ce_li (ce_aload 0 1)),
  (1, ce_li (ce_iload 1 2)),
  (2, ce_li (ce_iload 2 3)),
  (3, ce_call 3 0 0 6 (.inr true) (ce_CV 20 F_X21_part)),
  (6, ce_li (ce_astore 3 7 4)),
  (7, ce_li (ce_aload 3 8)),
  (8, ce_li (ce_ifnn 16 11)),
  (11, ce_li (ce_push (.inl (.inl (32))) 13)),
  (13, ce_li (ce_goto 20)),
  (20, ce_reti .char)]
theorem tk_X21_kindOf_0 : ∀ x ∈ tb_X21_kindOf_0, P_X21_kindOf x.1 x.2 :=
  ce_fc (P := P_X21_kindOf) (ok_li (ok_aload_n dX21_kindOf_0 rfl)) (
  ce_fc (P := P_X21_kindOf) (ok_li (ok_iload_n dX21_kindOf_1 rfl)) (
  ce_fc (P := P_X21_kindOf) (ok_li (ok_iload_n dX21_kindOf_2 rfl)) (
  ce_fc (P := P_X21_kindOf) (ok_call (ru_V (ci := 20) (C := RX21) (Tf := TX21) (N := 20) m_X21_part (by decide) (by decide) rfl gw_2469 gw_2466 gw_2468 gp_24 gw_13 ⟨rfl, hp_X21_part⟩ dX21_kindOf_3) ca_t) (
  ce_fc (P := P_X21_kindOf) (ok_li (ok_astore_n dX21_kindOf_6 rfl)) (
  ce_fc (P := P_X21_kindOf) (ok_li (ok_aload_n dX21_kindOf_7 rfl)) (
  ce_fc (P := P_X21_kindOf) (ok_li (ok_ifnn dX21_kindOf_8 (by decide))) (
  ce_fc (P := P_X21_kindOf) (ok_li (ok_bipush dX21_kindOf_11 (by decide))) (
  ce_fc (P := P_X21_kindOf) (ok_li (ok_goto dX21_kindOf_13 (by decide))) (
  ce_fc (P := P_X21_kindOf) (ok_reti dX21_kindOf_20 rfl) (
  ce_fn (P := P_X21_kindOf)))))))))))
noncomputable def ta_X21_kindOf : Nat → Option ce_N := (ce_fd tb_X21_kindOf_0)
theorem tx_X21_kindOf : ∀ pc f, ta_X21_kindOf pc = some f → P_X21_kindOf pc f := (ce_fd_ok (P := P_X21_kindOf) tk_X21_kindOf_0)
noncomputable def F_X21_kindOf : ce_C := ce_M ta_X21_kindOf 4 0 0 1000000
theorem m_X21_kindOf : ∀ l : Launch, l.stackTraces = false → ce_MS l yX21_kindOf (.code yX21_kindOf cX21_kindOf 4 (some .char)) 3 0 0 F_X21_kindOf := fun l hl => ce_met hl (by decide +kernel) tx_X21_kindOf
theorem hp_X21_kindOf : yX21_kindOf.cls ≠ "java/lang/invoke/MethodHandle" ∧ yX21_kindOf.cls ≠ "java/lang/invoke/VarHandle" ∧ (parseMethodDescriptor yX21_kindOf.desc).map (fun d => d.parameters.length) = some 2 := by decide +kernel
abbrev P_X21_lose : Nat → ce_N → Prop := ce_OKN "CarcasswrightModel" "lose" cX21_lose 6 (some .int) 3 (some [])
noncomputable def tb_X21_lose_0 : List (Nat × ce_N) := [(0, ce_li (ce_aload 0 1)),
  (1, ce_li (ce_iload 1 2)),
  (2, ce_li (ce_iload 2 3)),
  (3, ce_call 3 0 0 6 (.inr true) (ce_CV 20 F_X21_part)),
  (6, ce_li (ce_astore 3 7 6)),
  (7, ce_li (ce_aload 3 8)),
  (8, ce_li (ce_ifnn 13 11)),
  (11, ce_li (ce_push (.inl (.inl (0))) 12)),
  (12, ce_reti .int)]
theorem tk_X21_lose_0 : ∀ x ∈ tb_X21_lose_0, P_X21_lose x.1 x.2 :=
  ce_fc (P := P_X21_lose) (ok_li (ok_aload_n dX21_lose_0 rfl)) (
  ce_fc (P := P_X21_lose) (ok_li (ok_iload_n dX21_lose_1 rfl)) (
  ce_fc (P := P_X21_lose) (ok_li (ok_iload_n dX21_lose_2 rfl)) (
  ce_fc (P := P_X21_lose) (ok_call (ru_V (ci := 20) (C := RX21) (Tf := TX21) (N := 20) m_X21_part (by decide) (by decide) rfl gw_2469 gw_2466 gw_2468 gp_24 gw_13 ⟨rfl, hp_X21_part⟩ dX21_lose_3) ca_t) (
  ce_fc (P := P_X21_lose) (ok_li (ok_astore_n dX21_lose_6 rfl)) (
  ce_fc (P := P_X21_lose) (ok_li (ok_aload_n dX21_lose_7 rfl)) (
  ce_fc (P := P_X21_lose) (ok_li (ok_ifnn dX21_lose_8 (by decide))) (
  ce_fc (P := P_X21_lose) (ok_li (ok_iconst dX21_lose_11)) (
  ce_fc (P := P_X21_lose) (ok_reti dX21_lose_12 rfl) (
  ce_fn (P := P_X21_lose))))))))))
noncomputable def ta_X21_lose : Nat → Option ce_N := (ce_fd tb_X21_lose_0)
theorem tx_X21_lose : ∀ pc f, ta_X21_lose pc = some f → P_X21_lose pc f := (ce_fd_ok (P := P_X21_lose) tk_X21_lose_0)
noncomputable def F_X21_lose : ce_C := ce_M ta_X21_lose 6 0 0 1000000
theorem m_X21_lose : ∀ l : Launch, l.stackTraces = false → ce_MS l yX21_lose (.code yX21_lose cX21_lose 6 (some .int)) 3 0 0 F_X21_lose := fun l hl => ce_met hl (by decide +kernel) tx_X21_lose
theorem hp_X21_lose : yX21_lose.cls ≠ "java/lang/invoke/MethodHandle" ∧ yX21_lose.cls ≠ "java/lang/invoke/VarHandle" ∧ (parseMethodDescriptor yX21_lose.desc).map (fun d => d.parameters.length) = some 2 := by decide +kernel
abbrev P_X21_packOf : Nat → ce_N → Prop := ce_OKN "CarcasswrightModel" "packOf" cX21_packOf 5 (some .int) 3 (some [])
noncomputable def tb_X21_packOf_0 : List (Nat × ce_N) := [(0, ce_li (ce_aload 0 1)),
  (1, ce_li (ce_iload 1 2)),
  (2, ce_li (ce_iload 3 3)),
  (3, ce_call 3 0 0 6 (.inr true) (ce_CV 20 F_X21_part)),
  (6, ce_li (ce_ifnn 11 9)),
  (9, ce_li (ce_push (.inl (.inl (0))) 10)),
  (10, ce_reti .int)]
theorem tk_X21_packOf_0 : ∀ x ∈ tb_X21_packOf_0, P_X21_packOf x.1 x.2 :=
  ce_fc (P := P_X21_packOf) (ok_li (ok_aload_n dX21_packOf_0 rfl)) (
  ce_fc (P := P_X21_packOf) (ok_li (ok_iload_n dX21_packOf_1 rfl)) (
  ce_fc (P := P_X21_packOf) (ok_li (ok_iload_n dX21_packOf_2 rfl)) (
  ce_fc (P := P_X21_packOf) (ok_call (ru_V (ci := 20) (C := RX21) (Tf := TX21) (N := 20) m_X21_part (by decide) (by decide) rfl gw_2469 gw_2466 gw_2468 gp_24 gw_13 ⟨rfl, hp_X21_part⟩ dX21_packOf_3) ca_t) (
  ce_fc (P := P_X21_packOf) (ok_li (ok_ifnn dX21_packOf_6 (by decide))) (
  ce_fc (P := P_X21_packOf) (ok_li (ok_iconst dX21_packOf_9)) (
  ce_fc (P := P_X21_packOf) (ok_reti dX21_packOf_10 rfl) (
  ce_fn (P := P_X21_packOf))))))))
noncomputable def ta_X21_packOf : Nat → Option ce_N := (ce_fd tb_X21_packOf_0)
theorem tx_X21_packOf : ∀ pc f, ta_X21_packOf pc = some f → P_X21_packOf pc f := (ce_fd_ok (P := P_X21_packOf) tk_X21_packOf_0)
noncomputable def F_X21_packOf : ce_C := ce_M ta_X21_packOf 5 0 0 1000000
theorem m_X21_packOf : ∀ l : Launch, l.stackTraces = false → ce_MS l yX21_packOf (.code yX21_packOf cX21_packOf 5 (some .int)) 3 0 0 F_X21_packOf := fun l hl => ce_met hl (by decide +kernel) tx_X21_packOf
theorem hp_X21_packOf : yX21_packOf.cls ≠ "java/lang/invoke/MethodHandle" ∧ yX21_packOf.cls ≠ "java/lang/invoke/VarHandle" ∧ (parseMethodDescriptor yX21_packOf.desc).map (fun d => d.parameters.length) = some 3 := by decide +kernel
abbrev P_X21_size : Nat → ce_N → Prop := ce_OKN "CarcasswrightModel" "size" cX21_size 5 (some .int) 3 (some [])
noncomputable def tb_X21_size_0 : List (Nat × ce_N) := [(0, ce_li (ce_aload 0 1)),
  (1, ce_li (ce_iload 1 2)),
  (2, ce_li (ce_iload 2 3)),
  (3, ce_call 3 0 0 6 (.inr true) (ce_CV 20 F_X21_part)),
  (6, ce_li (ce_astore 4 8 5)),
  (8, ce_li (ce_aload 4 10)),
  (10, ce_li (ce_ifnn 15 13)),
  (13, ce_li (ce_push (.inl (.inl (0))) 14)),
  (14, ce_reti .int)]
theorem tk_X21_size_0 : ∀ x ∈ tb_X21_size_0, P_X21_size x.1 x.2 :=
  ce_fc (P := P_X21_size) (ok_li (ok_aload_n dX21_size_0 rfl)) (
  ce_fc (P := P_X21_size) (ok_li (ok_iload_n dX21_size_1 rfl)) (
  ce_fc (P := P_X21_size) (ok_li (ok_iload_n dX21_size_2 rfl)) (
  ce_fc (P := P_X21_size) (ok_call (ru_V (ci := 20) (C := RX21) (Tf := TX21) (N := 20) m_X21_part (by decide) (by decide) rfl gw_2469 gw_2466 gw_2468 gp_24 gw_13 ⟨rfl, hp_X21_part⟩ dX21_size_3) ca_t) (
  ce_fc (P := P_X21_size) (ok_li (ok_astore dX21_size_6)) (
  ce_fc (P := P_X21_size) (ok_li (ok_aload dX21_size_8)) (
  ce_fc (P := P_X21_size) (ok_li (ok_ifnn dX21_size_10 (by decide))) (
  ce_fc (P := P_X21_size) (ok_li (ok_iconst dX21_size_13)) (
  ce_fc (P := P_X21_size) (ok_reti dX21_size_14 rfl) (
  ce_fn (P := P_X21_size))))))))))
noncomputable def ta_X21_size : Nat → Option ce_N := (ce_fd tb_X21_size_0)
theorem tx_X21_size : ∀ pc f, ta_X21_size pc = some f → P_X21_size pc f := (ce_fd_ok (P := P_X21_size) tk_X21_size_0)
noncomputable def F_X21_size : ce_C := ce_M ta_X21_size 5 0 0 1000000
theorem m_X21_size : ∀ l : Launch, l.stackTraces = false → ce_MS l yX21_size (.code yX21_size cX21_size 5 (some .int)) 3 0 0 F_X21_size := fun l hl => ce_met hl (by decide +kernel) tx_X21_size
theorem hp_X21_size : yX21_size.cls ≠ "java/lang/invoke/MethodHandle" ∧ yX21_size.cls ≠ "java/lang/invoke/VarHandle" ∧ (parseMethodDescriptor yX21_size.desc).map (fun d => d.parameters.length) = some 3 := by decide +kernel
abbrev P_X21_stepAt : Nat → ce_N → Prop := ce_OKN "CarcasswrightModel" "stepAt" cX21_stepAt 3 (some .int) 3 (some [])
noncomputable def tb_X21_stepAt_0 : List (Nat × ce_N) := [(0, ce_li (ce_aload 0 1)),
  (1, ce_li (ce_iload 1 2)),
  (2, ce_li (ce_iload 2 3)),
  (3, ce_call 3 0 0 6 (.inr true) (ce_CV 20 F_X21_part)),
  (6, ce_li (ce_ifnn 13 9)),
  (9, ce_li (ce_push (.inl (.inl (0))) 10)),
  (10, ce_li (ce_goto 14)),
  (14, ce_reti .int)]
theorem tk_X21_stepAt_0 : ∀ x ∈ tb_X21_stepAt_0, P_X21_stepAt x.1 x.2 :=
  ce_fc (P := P_X21_stepAt) (ok_li (ok_aload_n dX21_stepAt_0 rfl)) (
  ce_fc (P := P_X21_stepAt) (ok_li (ok_iload_n dX21_stepAt_1 rfl)) (
  ce_fc (P := P_X21_stepAt) (ok_li (ok_iload_n dX21_stepAt_2 rfl)) (
  ce_fc (P := P_X21_stepAt) (ok_call (ru_V (ci := 20) (C := RX21) (Tf := TX21) (N := 20) m_X21_part (by decide) (by decide) rfl gw_2469 gw_2466 gw_2468 gp_24 gw_13 ⟨rfl, hp_X21_part⟩ dX21_stepAt_3) ca_t) (
  ce_fc (P := P_X21_stepAt) (ok_li (ok_ifnn dX21_stepAt_6 (by decide))) (
  ce_fc (P := P_X21_stepAt) (ok_li (ok_iconst dX21_stepAt_9)) (
  ce_fc (P := P_X21_stepAt) (ok_li (ok_goto dX21_stepAt_10 (by decide))) (
  ce_fc (P := P_X21_stepAt) (ok_reti dX21_stepAt_14 rfl) (
  ce_fn (P := P_X21_stepAt)))))))))
noncomputable def ta_X21_stepAt : Nat → Option ce_N := (ce_fd tb_X21_stepAt_0)
theorem tx_X21_stepAt : ∀ pc f, ta_X21_stepAt pc = some f → P_X21_stepAt pc f := (ce_fd_ok (P := P_X21_stepAt) tk_X21_stepAt_0)
noncomputable def F_X21_stepAt : ce_C := ce_M ta_X21_stepAt 3 0 0 1000000
theorem m_X21_stepAt : ∀ l : Launch, l.stackTraces = false → ce_MS l yX21_stepAt (.code yX21_stepAt cX21_stepAt 3 (some .int)) 3 0 0 F_X21_stepAt := fun l hl => ce_met hl (by decide +kernel) tx_X21_stepAt
theorem hp_X21_stepAt : yX21_stepAt.cls ≠ "java/lang/invoke/MethodHandle" ∧ yX21_stepAt.cls ≠ "java/lang/invoke/VarHandle" ∧ (parseMethodDescriptor yX21_stepAt.desc).map (fun d => d.parameters.length) = some 2 := by decide +kernel
abbrev P_X21_weight : Nat → ce_N → Prop := ce_OKN "CarcasswrightModel" "weight" cX21_weight 4 (some .int) 3 (some [])
noncomputable def tb_X21_weight_0 : List (Nat × ce_N) := [(0, ce_li (ce_aload 0 1)),
  (1, ce_li (ce_iload 1 2)),
  (2, ce_li (ce_iload 2 3)),
  (3, ce_call 3 0 0 6 (.inr true) (ce_CV 20 F_X21_part)),
  (6, ce_li (ce_astore 3 7 4)),
  (7, ce_li (ce_aload 3 8)),
  (8, ce_li (ce_ifnn 15 11)),
  (11, ce_li (ce_push (.inl (.inl (0))) 12)),
  (12, ce_li (ce_goto 19)),
  (19, ce_reti .int)]
theorem tk_X21_weight_0 : ∀ x ∈ tb_X21_weight_0, P_X21_weight x.1 x.2 :=
  ce_fc (P := P_X21_weight) (ok_li (ok_aload_n dX21_weight_0 rfl)) (
  ce_fc (P := P_X21_weight) (ok_li (ok_iload_n dX21_weight_1 rfl)) (
  ce_fc (P := P_X21_weight) (ok_li (ok_iload_n dX21_weight_2 rfl)) (
  ce_fc (P := P_X21_weight) (ok_call (ru_V (ci := 20) (C := RX21) (Tf := TX21) (N := 20) m_X21_part (by decide) (by decide) rfl gw_2469 gw_2466 gw_2468 gp_24 gw_13 ⟨rfl, hp_X21_part⟩ dX21_weight_3) ca_t) (
  ce_fc (P := P_X21_weight) (ok_li (ok_astore_n dX21_weight_6 rfl)) (
  ce_fc (P := P_X21_weight) (ok_li (ok_aload_n dX21_weight_7 rfl)) (
  ce_fc (P := P_X21_weight) (ok_li (ok_ifnn dX21_weight_8 (by decide))) (
  ce_fc (P := P_X21_weight) (ok_li (ok_iconst dX21_weight_11)) (
  ce_fc (P := P_X21_weight) (ok_li (ok_goto dX21_weight_12 (by decide))) (
  ce_fc (P := P_X21_weight) (ok_reti dX21_weight_19 rfl) (
  ce_fn (P := P_X21_weight)))))))))))
noncomputable def ta_X21_weight : Nat → Option ce_N := (ce_fd tb_X21_weight_0)
theorem tx_X21_weight : ∀ pc f, ta_X21_weight pc = some f → P_X21_weight pc f := (ce_fd_ok (P := P_X21_weight) tk_X21_weight_0)
noncomputable def F_X21_weight : ce_C := ce_M ta_X21_weight 4 0 0 1000000
theorem m_X21_weight : ∀ l : Launch, l.stackTraces = false → ce_MS l yX21_weight (.code yX21_weight cX21_weight 4 (some .int)) 3 0 0 F_X21_weight := fun l hl => ce_met hl (by decide +kernel) tx_X21_weight
theorem hp_X21_weight : yX21_weight.cls ≠ "java/lang/invoke/MethodHandle" ∧ yX21_weight.cls ≠ "java/lang/invoke/VarHandle" ∧ (parseMethodDescriptor yX21_weight.desc).map (fun d => d.parameters.length) = some 2 := by decide +kernel
abbrev P_J0_init_81219 : Nat → ce_N → Prop := ce_OKN "java/lang/String" "<init>" cJ0_init_81219 2 none 4 (some [])
noncomputable def tb_J0_init_81219_0 : List (Nat × ce_N) := [(0, ce_li (ce_aload 0 1)),
  (1, ce_li (ce_aload 1 2)),
  (2, ce_li (ce_push (.inr (.inr (.inr .null))) 3)),
  (3, ce_call 3 1 2 6 (.inr true) (ce_CI F_J0_init_db425)),
  (6, ce_ret0)]
theorem tk_J0_init_81219_0 : ∀ x ∈ tb_J0_init_81219_0, P_J0_init_81219 x.1 x.2 :=
  ce_fc (P := P_J0_init_81219) (ok_li (ok_aload_n dJ0_init_81219_0 rfl)) (
  ce_fc (P := P_J0_init_81219) (ok_li (ok_aload_n dJ0_init_81219_1 rfl)) (
  ce_fc (P := P_J0_init_81219) (ok_li (ok_null dJ0_init_81219_2)) (
  ce_fc (P := P_J0_init_81219) (ok_call (ru_I m_J0_init_db425 (by decide) (by decide) gw_2063 gw_2061 gw_2062 gw_23 rfl hp_J0_init_db425 dJ0_init_81219_3) ca_t) (
  ce_fc (P := P_J0_init_81219) (ok_ret0 dJ0_init_81219_6 rfl) (
  ce_fn (P := P_J0_init_81219))))))
noncomputable def ta_J0_init_81219 : Nat → Option ce_N := (ce_fd tb_J0_init_81219_0)
theorem tx_J0_init_81219 : ∀ pc f, ta_J0_init_81219 pc = some f → P_J0_init_81219 pc f := (ce_fd_ok (P := P_J0_init_81219) tk_J0_init_81219_0)
noncomputable def F_J0_init_81219 : ce_C := ce_M ta_J0_init_81219 2 1 2 1000000
theorem m_J0_init_81219 : ∀ l : Launch, l.stackTraces = false → ce_MS l yJ0_init_81219 (.code yJ0_init_81219 cJ0_init_81219 2 none) 4 1 2 F_J0_init_81219 := fun l hl => ce_met hl (by decide +kernel) tx_J0_init_81219
theorem hp_J0_init_81219 : yJ0_init_81219.cls ≠ "java/lang/invoke/MethodHandle" ∧ yJ0_init_81219.cls ≠ "java/lang/invoke/VarHandle" ∧ (parseMethodDescriptor yJ0_init_81219.desc).map (fun d => d.parameters.length) = some 1 := by decide +kernel
abbrev P_J1_inflate_0e8fd : Nat → ce_N → Prop := ce_OKN "java/lang/StringLatin1" "inflate" cJ1_inflate_0e8fd 5 none 4 (some [])
noncomputable def tb_J1_inflate_0e8fd_0 : List (Nat × ce_N) := [(0, ce_li (ce_aload 0 1)),
  (1, ce_li (ce_iload 1 2)),
  (2, ce_li (ce_aload 2 3)),
  (3, ce_li (ce_iload 3 4)),
  (4, ce_li (ce_iload 4 6)),
  (6, ce_call 5 0 0 9 (.inr true) F_J2_inflate_0e8fd),
  (9, ce_ret0)]
theorem tk_J1_inflate_0e8fd_0 : ∀ x ∈ tb_J1_inflate_0e8fd_0, P_J1_inflate_0e8fd x.1 x.2 :=
  ce_fc (P := P_J1_inflate_0e8fd) (ok_li (ok_aload_n dJ1_inflate_0e8fd_0 rfl)) (
  ce_fc (P := P_J1_inflate_0e8fd) (ok_li (ok_iload_n dJ1_inflate_0e8fd_1 rfl)) (
  ce_fc (P := P_J1_inflate_0e8fd) (ok_li (ok_aload_n dJ1_inflate_0e8fd_2 rfl)) (
  ce_fc (P := P_J1_inflate_0e8fd) (ok_li (ok_iload_n dJ1_inflate_0e8fd_3 rfl)) (
  ce_fc (P := P_J1_inflate_0e8fd) (ok_li (ok_iload dJ1_inflate_0e8fd_4)) (
  ce_fc (P := P_J1_inflate_0e8fd) (ok_call (ru_S m_J2_inflate_0e8fd (by decide) (by decide) gw_2016 gw_2014 gw_2015 gw_26 hp_J2_inflate_0e8fd dJ1_inflate_0e8fd_6) ca_t) (
  ce_fc (P := P_J1_inflate_0e8fd) (ok_ret0 dJ1_inflate_0e8fd_9 rfl) (
  ce_fn (P := P_J1_inflate_0e8fd))))))))
noncomputable def ta_J1_inflate_0e8fd : Nat → Option ce_N := (ce_fd tb_J1_inflate_0e8fd_0)
theorem tx_J1_inflate_0e8fd : ∀ pc f, ta_J1_inflate_0e8fd pc = some f → P_J1_inflate_0e8fd pc f := (ce_fd_ok (P := P_J1_inflate_0e8fd) tk_J1_inflate_0e8fd_0)
noncomputable def F_J1_inflate_0e8fd : ce_C := ce_M ta_J1_inflate_0e8fd 5 0 0 1000000
theorem m_J1_inflate_0e8fd : ∀ l : Launch, l.stackTraces = false → ce_MS l yJ1_inflate_0e8fd (.code yJ1_inflate_0e8fd cJ1_inflate_0e8fd 5 none) 4 0 0 F_J1_inflate_0e8fd := fun l hl => ce_met hl (by decide +kernel) tx_J1_inflate_0e8fd
theorem hp_J1_inflate_0e8fd : yJ1_inflate_0e8fd.cls ≠ "java/lang/invoke/MethodHandle" ∧ yJ1_inflate_0e8fd.cls ≠ "java/lang/invoke/VarHandle" ∧ (parseMethodDescriptor yJ1_inflate_0e8fd.desc).map (fun d => d.parameters.length) = some 5 := by decide +kernel
abbrev P_Jx4a65c_add_72be8 : Nat → ce_N → Prop := ce_OKN "java/util/ArrayList" "add" cJx4a65c_add_72be8 4 none 4 (some [])
noncomputable def tb_Jx4a65c_add_72be8_0 : List (Nat × ce_N) := [(0, ce_li (ce_iload 3 1)),
  (1, ce_li (ce_aload 2 2)),
  (2, ce_li (ce_alen 3)),
  (3, ce_li (ce_icmp true false true 11 6)),
  (6, ce_li (ce_aload 0 7)),
  (7, ce_call 1 1 22 10 (.inr true) (ce_CV 3 F_Jx4a65c_grow_d5877)),
  (10, ce_li (ce_astore 2 11 4)),
  (11, ce_li (ce_aload 2 12)),
  (12, ce_li (ce_iload 3 13)),
  (13, ce_li (ce_aload 1 14)),
  (14, ce_li (ce_aast 15)),
  (15, ce_li (ce_aload 0 16)),
  (16, ce_li (ce_iload 3 17)),
  (17, ce_li (ce_push (.inl (.inl (1))) 18))]
theorem tk_Jx4a65c_add_72be8_0 : ∀ x ∈ tb_Jx4a65c_add_72be8_0, P_Jx4a65c_add_72be8 x.1 x.2 :=
  ce_fc (P := P_Jx4a65c_add_72be8) (ok_li (ok_iload_n dJx4a65c_add_72be8_0 rfl)) (
  ce_fc (P := P_Jx4a65c_add_72be8) (ok_li (ok_aload_n dJx4a65c_add_72be8_1 rfl)) (
  ce_fc (P := P_Jx4a65c_add_72be8) (ok_li (ok_alen dJx4a65c_add_72be8_2)) (
  ce_fc (P := P_Jx4a65c_add_72be8) (ok_li (ok_icmp_ne dJx4a65c_add_72be8_3 (by decide))) (
  ce_fc (P := P_Jx4a65c_add_72be8) (ok_li (ok_aload_n dJx4a65c_add_72be8_6 rfl)) (
  ce_fc (P := P_Jx4a65c_add_72be8) (ok_call (ru_V (ci := 3) (C := RJx4a65c) (Tf := TJx4a65c) (N := 3) m_Jx4a65c_grow_d5877 (by decide) (by decide) rfl gw_1721 gw_1718 gw_1720 gp_5 gw_16 ⟨rfl, hp_Jx4a65c_grow_d5877⟩ dJx4a65c_add_72be8_7) ca_t) (
  ce_fc (P := P_Jx4a65c_add_72be8) (ok_li (ok_astore_n dJx4a65c_add_72be8_10 rfl)) (
  ce_fc (P := P_Jx4a65c_add_72be8) (ok_li (ok_aload_n dJx4a65c_add_72be8_11 rfl)) (
  ce_fc (P := P_Jx4a65c_add_72be8) (ok_li (ok_iload_n dJx4a65c_add_72be8_12 rfl)) (
  ce_fc (P := P_Jx4a65c_add_72be8) (ok_li (ok_aload_n dJx4a65c_add_72be8_13 rfl)) (
  ce_fc (P := P_Jx4a65c_add_72be8) (ok_li (ok_aast dJx4a65c_add_72be8_14)) (
  ce_fc (P := P_Jx4a65c_add_72be8) (ok_li (ok_aload_n dJx4a65c_add_72be8_15 rfl)) (
  ce_fc (P := P_Jx4a65c_add_72be8) (ok_li (ok_iload_n dJx4a65c_add_72be8_16 rfl)) (
  ce_fc (P := P_Jx4a65c_add_72be8) (ok_li (ok_iconst dJx4a65c_add_72be8_17)) (
  ce_fn (P := P_Jx4a65c_add_72be8)))))))))))))))
noncomputable def tb_Jx4a65c_add_72be8_1 : List (Nat × ce_N) := [(18, ce_li (ce_bin ce_addo 19)),
  (19, ce_li (ce_putf (tyJx4a65c 2) 3 2 22)),
  (22, ce_ret0)]
theorem tk_Jx4a65c_add_72be8_1 : ∀ x ∈ tb_Jx4a65c_add_72be8_1, P_Jx4a65c_add_72be8 x.1 x.2 :=
  ce_fc (P := P_Jx4a65c_add_72be8) (ok_li (ok_iadd dJx4a65c_add_72be8_18)) (
  ce_fc (P := P_Jx4a65c_add_72be8) (ok_li (ok_putf (ci := 3) (k := 2) (C := RJx4a65c) (T := TJx4a65c) (N := 3) (ty0 := tyJx4a65c) dJx4a65c_add_72be8_19 rfl ce_uJx4a65c (by decide) gw_1508 (fun _ _ _ _ h => h) tyJx4a65c_ok nmJx4a65c (Or.inl rfl))) (
  ce_fc (P := P_Jx4a65c_add_72be8) (ok_ret0 dJx4a65c_add_72be8_22 rfl) (
  ce_fn (P := P_Jx4a65c_add_72be8))))
noncomputable def ta_Jx4a65c_add_72be8 : Nat → Option ce_N := (ce_tr 18 (ce_fd tb_Jx4a65c_add_72be8_0) (ce_fd tb_Jx4a65c_add_72be8_1))
theorem tx_Jx4a65c_add_72be8 : ∀ pc f, ta_Jx4a65c_add_72be8 pc = some f → P_Jx4a65c_add_72be8 pc f := (ce_tr_ok (P := P_Jx4a65c_add_72be8) (ce_fd_ok (P := P_Jx4a65c_add_72be8) tk_Jx4a65c_add_72be8_0) (ce_fd_ok (P := P_Jx4a65c_add_72be8) tk_Jx4a65c_add_72be8_1))
noncomputable def F_Jx4a65c_add_72be8 : ce_C := ce_M ta_Jx4a65c_add_72be8 4 1 22 1000000
theorem m_Jx4a65c_add_72be8 : ∀ l : Launch, l.stackTraces = false → ce_MS l yJx4a65c_add_72be8 (.code yJx4a65c_add_72be8 cJx4a65c_add_72be8 4 none) 4 1 22 F_Jx4a65c_add_72be8 := fun l hl => ce_met hl (by decide +kernel) tx_Jx4a65c_add_72be8
theorem hp_Jx4a65c_add_72be8 : yJx4a65c_add_72be8.cls ≠ "java/lang/invoke/MethodHandle" ∧ yJx4a65c_add_72be8.cls ≠ "java/lang/invoke/VarHandle" ∧ (parseMethodDescriptor yJx4a65c_add_72be8.desc).map (fun d => d.parameters.length) = some 3 := by decide +kernel
abbrev P_J4_toString_0e30d : Nat → ce_N → Prop := ce_OKN "java/lang/StringBuilder" "toString" cJ4_toString_0e30d 1 (some (.object "java/lang/String")) 5 (some [])
noncomputable def tb_J4_toString_0e30d_0 : List (Nat × ce_N) := [(0, ce_li (ce_new 0 4 dl_J0 3)),
  (3, ce_li (ce_dup 4)),
  (4, ce_li (ce_aload 0 5)),
  (5, ce_call 2 1 2 8 (.inr true) (ce_CI F_J0_init_81219)),
  (8, ce_reta)]
theorem tk_J4_toString_0e30d_0 : ∀ x ∈ tb_J4_toString_0e30d_0, P_J4_toString_0e30d x.1 x.2 :=
  ce_fc (P := P_J4_toString_0e30d) (ok_li (ok_new (ci := 0) (C := RJ0) (T := TJ0) (N := 4) (ty0 := tyJ0) dJ4_toString_0e30d_0 rfl ce_uJ0 tyJ0_ok gw_2056 gw_2057 gw_23 dv_J0 rfl)) (
  ce_fc (P := P_J4_toString_0e30d) (ok_li (ok_dup dJ4_toString_0e30d_3)) (
  ce_fc (P := P_J4_toString_0e30d) (ok_li (ok_aload_n dJ4_toString_0e30d_4 rfl)) (
  ce_fc (P := P_J4_toString_0e30d) (ok_call (ru_I m_J0_init_81219 (by decide) (by decide) gw_2060 gw_2058 gw_2059 gw_23 rfl hp_J0_init_81219 dJ4_toString_0e30d_5) ca_t) (
  ce_fc (P := P_J4_toString_0e30d) (ok_reta dJ4_toString_0e30d_8 rfl (Or.inl ⟨_, rfl⟩)) (
  ce_fn (P := P_J4_toString_0e30d))))))
noncomputable def ta_J4_toString_0e30d : Nat → Option ce_N := (ce_fd tb_J4_toString_0e30d_0)
theorem tx_J4_toString_0e30d : ∀ pc f, ta_J4_toString_0e30d pc = some f → P_J4_toString_0e30d pc f := (ce_fd_ok (P := P_J4_toString_0e30d) tk_J4_toString_0e30d_0)
noncomputable def F_J4_toString_0e30d : ce_C := ce_M ta_J4_toString_0e30d 1 2 6 1000000
theorem m_J4_toString_0e30d : ∀ l : Launch, l.stackTraces = false → ce_MS l yJ4_toString_0e30d (.code yJ4_toString_0e30d cJ4_toString_0e30d 1 (some (.object "java/lang/String"))) 5 2 6 F_J4_toString_0e30d := fun l hl => ce_met hl (by decide +kernel) tx_J4_toString_0e30d
theorem hp_J4_toString_0e30d : yJ4_toString_0e30d.cls ≠ "java/lang/invoke/MethodHandle" ∧ yJ4_toString_0e30d.cls ≠ "java/lang/invoke/VarHandle" ∧ (parseMethodDescriptor yJ4_toString_0e30d.desc).map (fun d => d.parameters.length) = some 0 := by decide +kernel
abbrev P_J5_inflate_da8c8 : Nat → ce_N → Prop := ce_OKN "java/lang/AbstractStringBuilder" "inflate" cJ5_inflate_da8c8 2 none 5 (some [])
noncomputable def tb_J5_inflate_da8c8_0 : List (Nat × ce_N) := [(0, ce_li (ce_aload 0 1)),
  (1, ce_call 1 0 0 4 (.inr true) (ce_CV 1 F_J5_isLatin1_aae02)),
  (4, ce_li (ce_if true false true 8 7)),
  (8, ce_li (ce_aload 0 9)),
  (9, ce_li (ce_getf 1 0 12)),
  (12, ce_li (ce_alen 13)),
  (13, ce_call 1 1 32 16 (.inr true) F_J2_newBytesFor_77867),
  (16, ce_li (ce_astore 1 17 2)),
  (17, ce_li (ce_aload 0 18)),
  (18, ce_li (ce_getf 1 0 21)),
  (21, ce_li (ce_push (.inl (.inl (0))) 22)),
  (22, ce_li (ce_aload 1 23)),
  (23, ce_li (ce_push (.inl (.inl (0))) 24)),
  (24, ce_li (ce_aload 0 25))]
theorem tk_J5_inflate_da8c8_0 : ∀ x ∈ tb_J5_inflate_da8c8_0, P_J5_inflate_da8c8 x.1 x.2 :=
  ce_fc (P := P_J5_inflate_da8c8) (ok_li (ok_aload_n dJ5_inflate_da8c8_0 rfl)) (
  ce_fc (P := P_J5_inflate_da8c8) (ok_call (ru_U (ci := 1) (C := RJ4) (Tf := TJ4) (N := 4) m_J5_isLatin1_aae02 (by decide) (by decide) rfl gw_1990 gw_1986 gw_1987 gw_1989 gw_38 gw_1988 hp_J5_isLatin1_aae02 dJ5_inflate_da8c8_1) ca_t) (
  ce_fc (P := P_J5_inflate_da8c8) (ok_li (ok_if_ne dJ5_inflate_da8c8_4 (by decide))) (
  ce_fc (P := P_J5_inflate_da8c8) (ok_li (ok_aload_n dJ5_inflate_da8c8_8 rfl)) (
  ce_fc (P := P_J5_inflate_da8c8) (ok_li (ok_getf (ci := 1) (k := 0) (C := RJ4) (T := TJ4) (N := 4) dJ5_inflate_da8c8_9 rfl ce_uJ4 (by decide) gw_1942 (fun _ _ _ _ h => h))) (
  ce_fc (P := P_J5_inflate_da8c8) (ok_li (ok_alen dJ5_inflate_da8c8_12)) (
  ce_fc (P := P_J5_inflate_da8c8) (ok_call (ru_S m_J2_newBytesFor_77867 (by decide) (by decide) gw_1937 gw_1935 gw_1936 gw_26 hp_J2_newBytesFor_77867 dJ5_inflate_da8c8_13) ca_t) (
  ce_fc (P := P_J5_inflate_da8c8) (ok_li (ok_astore_n dJ5_inflate_da8c8_16 rfl)) (
  ce_fc (P := P_J5_inflate_da8c8) (ok_li (ok_aload_n dJ5_inflate_da8c8_17 rfl)) (
  ce_fc (P := P_J5_inflate_da8c8) (ok_li (ok_getf (ci := 1) (k := 0) (C := RJ4) (T := TJ4) (N := 4) dJ5_inflate_da8c8_18 rfl ce_uJ4 (by decide) gw_1942 (fun _ _ _ _ h => h))) (
  ce_fc (P := P_J5_inflate_da8c8) (ok_li (ok_iconst dJ5_inflate_da8c8_21)) (
  ce_fc (P := P_J5_inflate_da8c8) (ok_li (ok_aload_n dJ5_inflate_da8c8_22 rfl)) (
  ce_fc (P := P_J5_inflate_da8c8) (ok_li (ok_iconst dJ5_inflate_da8c8_23)) (
  ce_fc (P := P_J5_inflate_da8c8) (ok_li (ok_aload_n dJ5_inflate_da8c8_24 rfl)) (
  ce_fn (P := P_J5_inflate_da8c8)))))))))))))))
noncomputable def tb_J5_inflate_da8c8_1 : List (Nat × ce_N) := [(25, ce_li (ce_getf 1 3 28)),
  (28, ce_call 5 0 0 31 (.inr true) F_J1_inflate_0e8fd),
  (31, ce_li (ce_aload 0 32)),
  (32, ce_li (ce_aload 1 33)),
  (33, ce_li (ce_putf (tyJ4 0) 1 0 36)),
  (36, ce_li (ce_aload 0 37)),
  (37, ce_li (ce_push (.inl (.inl (1))) 38)),
  (38, ce_li (ce_putf (tyJ4 1) 1 1 41)),
  (41, ce_ret0)]
theorem tk_J5_inflate_da8c8_1 : ∀ x ∈ tb_J5_inflate_da8c8_1, P_J5_inflate_da8c8 x.1 x.2 :=
  ce_fc (P := P_J5_inflate_da8c8) (ok_li (ok_getf (ci := 1) (k := 3) (C := RJ4) (T := TJ4) (N := 4) dJ5_inflate_da8c8_25 rfl ce_uJ4 (by decide) gw_1945 (fun _ _ _ _ h => h))) (
  ce_fc (P := P_J5_inflate_da8c8) (ok_call (ru_S m_J1_inflate_0e8fd (by decide) (by decide) gw_2013 gw_2011 gw_2012 gw_24 hp_J1_inflate_0e8fd dJ5_inflate_da8c8_28) ca_t) (
  ce_fc (P := P_J5_inflate_da8c8) (ok_li (ok_aload_n dJ5_inflate_da8c8_31 rfl)) (
  ce_fc (P := P_J5_inflate_da8c8) (ok_li (ok_aload_n dJ5_inflate_da8c8_32 rfl)) (
  ce_fc (P := P_J5_inflate_da8c8) (ok_li (ok_putf (ci := 1) (k := 0) (C := RJ4) (T := TJ4) (N := 4) (ty0 := tyJ4) dJ5_inflate_da8c8_33 rfl ce_uJ4 (by decide) gw_1942 (fun _ _ _ _ h => h) tyJ4_ok nmJ4 (Or.inl rfl))) (
  ce_fc (P := P_J5_inflate_da8c8) (ok_li (ok_aload_n dJ5_inflate_da8c8_36 rfl)) (
  ce_fc (P := P_J5_inflate_da8c8) (ok_li (ok_iconst dJ5_inflate_da8c8_37)) (
  ce_fc (P := P_J5_inflate_da8c8) (ok_li (ok_putf (ci := 1) (k := 1) (C := RJ4) (T := TJ4) (N := 4) (ty0 := tyJ4) dJ5_inflate_da8c8_38 rfl ce_uJ4 (by decide) gw_1943 (fun _ _ _ _ h => h) tyJ4_ok nmJ4 (Or.inl rfl))) (
  ce_fc (P := P_J5_inflate_da8c8) (ok_ret0 dJ5_inflate_da8c8_41 rfl) (
  ce_fn (P := P_J5_inflate_da8c8))))))))))
noncomputable def ta_J5_inflate_da8c8 : Nat → Option ce_N := (ce_tr 25 (ce_fd tb_J5_inflate_da8c8_0) (ce_fd tb_J5_inflate_da8c8_1))
theorem tx_J5_inflate_da8c8 : ∀ pc f, ta_J5_inflate_da8c8 pc = some f → P_J5_inflate_da8c8 pc f := (ce_tr_ok (P := P_J5_inflate_da8c8) (ce_fd_ok (P := P_J5_inflate_da8c8) tk_J5_inflate_da8c8_0) (ce_fd_ok (P := P_J5_inflate_da8c8) tk_J5_inflate_da8c8_1))
noncomputable def F_J5_inflate_da8c8 : ce_C := ce_M ta_J5_inflate_da8c8 2 1 32 1000000
theorem m_J5_inflate_da8c8 : ∀ l : Launch, l.stackTraces = false → ce_MS l yJ5_inflate_da8c8 (.code yJ5_inflate_da8c8 cJ5_inflate_da8c8 2 none) 5 1 32 F_J5_inflate_da8c8 := fun l hl => ce_met hl (by decide +kernel) tx_J5_inflate_da8c8
theorem hp_J5_inflate_da8c8 : yJ5_inflate_da8c8.cls ≠ "java/lang/invoke/MethodHandle" ∧ yJ5_inflate_da8c8.cls ≠ "java/lang/invoke/VarHandle" ∧ (parseMethodDescriptor yJ5_inflate_da8c8.desc).map (fun d => d.parameters.length) = some 0 := by decide +kernel
abbrev P_Jx4a65c_add_9ea2d : Nat → ce_N → Prop := ce_OKN "java/util/ArrayList" "add" cJx4a65c_add_9ea2d 2 (some .boolean) 5 (some [])
noncomputable def tb_Jx4a65c_add_9ea2d_0 : List (Nat × ce_N) := [(0, ce_li (ce_aload 0 1)),
  (1, ce_li (ce_dup 2)),
  (2, ce_li (ce_getf 3 0 5)),
  (5, ce_li (ce_push (.inl (.inl (1))) 6)),
  (6, ce_li (ce_bin ce_addo 7)),
  (7, ce_li (ce_putf (tyJx4a65c 0) 3 0 10)),
  (10, ce_li (ce_aload 0 11)),
  (11, ce_li (ce_aload 1 12)),
  (12, ce_li (ce_aload 0 13)),
  (13, ce_li (ce_getf 3 1 16)),
  (16, ce_li (ce_aload 0 17)),
  (17, ce_li (ce_getf 3 2 20)),
  (20, ce_call 4 1 22 23 (.inr true) (ce_CV 3 F_Jx4a65c_add_72be8)),
  (23, ce_li (ce_push (.inl (.inl (1))) 24))]
theorem tk_Jx4a65c_add_9ea2d_0 : ∀ x ∈ tb_Jx4a65c_add_9ea2d_0, P_Jx4a65c_add_9ea2d x.1 x.2 :=
  ce_fc (P := P_Jx4a65c_add_9ea2d) (ok_li (ok_aload_n dJx4a65c_add_9ea2d_0 rfl)) (
  ce_fc (P := P_Jx4a65c_add_9ea2d) (ok_li (ok_dup dJx4a65c_add_9ea2d_1)) (
  ce_fc (P := P_Jx4a65c_add_9ea2d) (ok_li (ok_getf (ci := 3) (k := 0) (C := RJx4a65c) (T := TJx4a65c) (N := 3) dJx4a65c_add_9ea2d_2 rfl ce_uJx4a65c (by decide) gw_1512 (fun s args hw x h => u_same (hw _ gw_1511) x h))) (
  ce_fc (P := P_Jx4a65c_add_9ea2d) (ok_li (ok_iconst dJx4a65c_add_9ea2d_5)) (
  ce_fc (P := P_Jx4a65c_add_9ea2d) (ok_li (ok_iadd dJx4a65c_add_9ea2d_6)) (
  ce_fc (P := P_Jx4a65c_add_9ea2d) (ok_li (ok_putf (ci := 3) (k := 0) (C := RJx4a65c) (T := TJx4a65c) (N := 3) (ty0 := tyJx4a65c) dJx4a65c_add_9ea2d_7 rfl ce_uJx4a65c (by decide) gw_1512 (fun s args hw x h => u_same (hw _ gw_1511) x h) tyJx4a65c_ok nmJx4a65c (Or.inl rfl))) (
  ce_fc (P := P_Jx4a65c_add_9ea2d) (ok_li (ok_aload_n dJx4a65c_add_9ea2d_10 rfl)) (
  ce_fc (P := P_Jx4a65c_add_9ea2d) (ok_li (ok_aload_n dJx4a65c_add_9ea2d_11 rfl)) (
  ce_fc (P := P_Jx4a65c_add_9ea2d) (ok_li (ok_aload_n dJx4a65c_add_9ea2d_12 rfl)) (
  ce_fc (P := P_Jx4a65c_add_9ea2d) (ok_li (ok_getf (ci := 3) (k := 1) (C := RJx4a65c) (T := TJx4a65c) (N := 3) dJx4a65c_add_9ea2d_13 rfl ce_uJx4a65c (by decide) gw_1505 (fun _ _ _ _ h => h))) (
  ce_fc (P := P_Jx4a65c_add_9ea2d) (ok_li (ok_aload_n dJx4a65c_add_9ea2d_16 rfl)) (
  ce_fc (P := P_Jx4a65c_add_9ea2d) (ok_li (ok_getf (ci := 3) (k := 2) (C := RJx4a65c) (T := TJx4a65c) (N := 3) dJx4a65c_add_9ea2d_17 rfl ce_uJx4a65c (by decide) gw_1508 (fun _ _ _ _ h => h))) (
  ce_fc (P := P_Jx4a65c_add_9ea2d) (ok_call (ru_V (ci := 3) (C := RJx4a65c) (Tf := TJx4a65c) (N := 3) m_Jx4a65c_add_72be8 (by decide) (by decide) rfl gw_1717 gw_1714 gw_1716 gp_4 gw_16 ⟨rfl, hp_Jx4a65c_add_72be8⟩ dJx4a65c_add_9ea2d_20) ca_t) (
  ce_fc (P := P_Jx4a65c_add_9ea2d) (ok_li (ok_iconst dJx4a65c_add_9ea2d_23)) (
  ce_fn (P := P_Jx4a65c_add_9ea2d)))))))))))))))
noncomputable def tb_Jx4a65c_add_9ea2d_1 : List (Nat × ce_N) := [(24, ce_reti .boolean)]
theorem tk_Jx4a65c_add_9ea2d_1 : ∀ x ∈ tb_Jx4a65c_add_9ea2d_1, P_Jx4a65c_add_9ea2d x.1 x.2 :=
  ce_fc (P := P_Jx4a65c_add_9ea2d) (ok_reti dJx4a65c_add_9ea2d_24 rfl) (
  ce_fn (P := P_Jx4a65c_add_9ea2d))
noncomputable def ta_Jx4a65c_add_9ea2d : Nat → Option ce_N := (ce_tr 24 (ce_fd tb_Jx4a65c_add_9ea2d_0) (ce_fd tb_Jx4a65c_add_9ea2d_1))
theorem tx_Jx4a65c_add_9ea2d : ∀ pc f, ta_Jx4a65c_add_9ea2d pc = some f → P_Jx4a65c_add_9ea2d pc f := (ce_tr_ok (P := P_Jx4a65c_add_9ea2d) (ce_fd_ok (P := P_Jx4a65c_add_9ea2d) tk_Jx4a65c_add_9ea2d_0) (ce_fd_ok (P := P_Jx4a65c_add_9ea2d) tk_Jx4a65c_add_9ea2d_1))
noncomputable def F_Jx4a65c_add_9ea2d : ce_C := ce_M ta_Jx4a65c_add_9ea2d 2 1 22 1000000
theorem m_Jx4a65c_add_9ea2d : ∀ l : Launch, l.stackTraces = false → ce_MS l yJx4a65c_add_9ea2d (.code yJx4a65c_add_9ea2d cJx4a65c_add_9ea2d 2 (some .boolean)) 5 1 22 F_Jx4a65c_add_9ea2d := fun l hl => ce_met hl (by decide +kernel) tx_Jx4a65c_add_9ea2d
theorem hp_Jx4a65c_add_9ea2d : yJx4a65c_add_9ea2d.cls ≠ "java/lang/invoke/MethodHandle" ∧ yJx4a65c_add_9ea2d.cls ≠ "java/lang/invoke/VarHandle" ∧ (parseMethodDescriptor yJx4a65c_add_9ea2d.desc).map (fun d => d.parameters.length) = some 1 := by decide +kernel
abbrev P_J5_append_3fe6f : Nat → ce_N → Prop := ce_OKN "java/lang/AbstractStringBuilder" "append" cJ5_append_3fe6f 2 (some (.object "java/lang/AbstractStringBuilder")) 6 (some [])
noncomputable def tb_J5_append_3fe6f_0 : List (Nat × ce_N) := [(0, ce_li (ce_aload 0 1)),
  (1, ce_li (ce_aload 0 2)),
  (2, ce_li (ce_getf 1 3 5)),
  (5, ce_li (ce_push (.inl (.inl (1))) 6)),
  (6, ce_li (ce_bin ce_addo 7)),
  (7, ce_call 2 0 0 10 (.inr true) (ce_CV 1 F_J5_ensureCapacityInternal_d00df)),
  (10, ce_li (ce_aload 0 11)),
  (11, ce_call 1 0 0 14 (.inr true) (ce_CV 1 F_J5_isLatin1_aae02)),
  (14, ce_li (ce_if true false false 45 17)),
  (17, ce_li (ce_iload 1 18)),
  (18, ce_call 1 0 0 21 (.inr true) F_J1_canEncode_fc78d),
  (21, ce_li (ce_if true false false 45 24)),
  (24, ce_li (ce_aload 0 25)),
  (25, ce_li (ce_getf 1 0 28))]
theorem tk_J5_append_3fe6f_0 : ∀ x ∈ tb_J5_append_3fe6f_0, P_J5_append_3fe6f x.1 x.2 :=
  ce_fc (P := P_J5_append_3fe6f) (ok_li (ok_aload_n dJ5_append_3fe6f_0 rfl)) (
  ce_fc (P := P_J5_append_3fe6f) (ok_li (ok_aload_n dJ5_append_3fe6f_1 rfl)) (
  ce_fc (P := P_J5_append_3fe6f) (ok_li (ok_getf (ci := 1) (k := 3) (C := RJ4) (T := TJ4) (N := 4) dJ5_append_3fe6f_2 rfl ce_uJ4 (by decide) gw_1945 (fun _ _ _ _ h => h))) (
  ce_fc (P := P_J5_append_3fe6f) (ok_li (ok_iconst dJ5_append_3fe6f_5)) (
  ce_fc (P := P_J5_append_3fe6f) (ok_li (ok_iadd dJ5_append_3fe6f_6)) (
  ce_fc (P := P_J5_append_3fe6f) (ok_call (ru_U (ci := 1) (C := RJ4) (Tf := TJ4) (N := 4) m_J5_ensureCapacityInternal_d00df (by decide) (by decide) rfl gw_1969 gw_1966 gw_1968 gx_0 gw_38 gw_2859 hp_J5_ensureCapacityInternal_d00df dJ5_append_3fe6f_7) ca_t) (
  ce_fc (P := P_J5_append_3fe6f) (ok_li (ok_aload_n dJ5_append_3fe6f_10 rfl)) (
  ce_fc (P := P_J5_append_3fe6f) (ok_call (ru_U (ci := 1) (C := RJ4) (Tf := TJ4) (N := 4) m_J5_isLatin1_aae02 (by decide) (by decide) rfl gw_1990 gw_1986 gw_1987 gw_1989 gw_38 gw_1988 hp_J5_isLatin1_aae02 dJ5_append_3fe6f_11) ca_t) (
  ce_fc (P := P_J5_append_3fe6f) (ok_li (ok_if_eq dJ5_append_3fe6f_14 (by decide))) (
  ce_fc (P := P_J5_append_3fe6f) (ok_li (ok_iload_n dJ5_append_3fe6f_17 rfl)) (
  ce_fc (P := P_J5_append_3fe6f) (ok_call (ru_S m_J1_canEncode_fc78d (by decide) (by decide) gw_2041 gw_2039 gw_2040 gw_24 hp_J1_canEncode_fc78d dJ5_append_3fe6f_18) ca_t) (
  ce_fc (P := P_J5_append_3fe6f) (ok_li (ok_if_eq dJ5_append_3fe6f_21 (by decide))) (
  ce_fc (P := P_J5_append_3fe6f) (ok_li (ok_aload_n dJ5_append_3fe6f_24 rfl)) (
  ce_fc (P := P_J5_append_3fe6f) (ok_li (ok_getf (ci := 1) (k := 0) (C := RJ4) (T := TJ4) (N := 4) dJ5_append_3fe6f_25 rfl ce_uJ4 (by decide) gw_1942 (fun _ _ _ _ h => h))) (
  ce_fn (P := P_J5_append_3fe6f)))))))))))))))
noncomputable def tb_J5_append_3fe6f_1 : List (Nat × ce_N) := [(28, ce_li (ce_aload 0 29)),
  (29, ce_li (ce_dup 30)),
  (30, ce_li (ce_getf 1 3 33)),
  (33, ce_li (ce_dup_x1 34)),
  (34, ce_li (ce_push (.inl (.inl (1))) 35)),
  (35, ce_li (ce_bin ce_addo 36)),
  (36, ce_li (ce_putf (tyJ4 3) 1 3 39)),
  (39, ce_li (ce_iload 1 40)),
  (40, ce_li (ce_i2b 41)),
  (41, ce_li (ce_iast 2 42 41)),
  (42, ce_li (ce_goto 75)),
  (45, ce_li (ce_aload 0 46)),
  (46, ce_call 1 0 0 49 (.inr true) (ce_CV 1 F_J5_isLatin1_aae02)),
  (49, ce_li (ce_if true false false 56 52))]
theorem tk_J5_append_3fe6f_1 : ∀ x ∈ tb_J5_append_3fe6f_1, P_J5_append_3fe6f x.1 x.2 :=
  ce_fc (P := P_J5_append_3fe6f) (ok_li (ok_aload_n dJ5_append_3fe6f_28 rfl)) (
  ce_fc (P := P_J5_append_3fe6f) (ok_li (ok_dup dJ5_append_3fe6f_29)) (
  ce_fc (P := P_J5_append_3fe6f) (ok_li (ok_getf (ci := 1) (k := 3) (C := RJ4) (T := TJ4) (N := 4) dJ5_append_3fe6f_30 rfl ce_uJ4 (by decide) gw_1945 (fun _ _ _ _ h => h))) (
  ce_fc (P := P_J5_append_3fe6f) (ok_li (ok_dup_x1 dJ5_append_3fe6f_33)) (
  ce_fc (P := P_J5_append_3fe6f) (ok_li (ok_iconst dJ5_append_3fe6f_34)) (
  ce_fc (P := P_J5_append_3fe6f) (ok_li (ok_iadd dJ5_append_3fe6f_35)) (
  ce_fc (P := P_J5_append_3fe6f) (ok_li (ok_putf (ci := 1) (k := 3) (C := RJ4) (T := TJ4) (N := 4) (ty0 := tyJ4) dJ5_append_3fe6f_36 rfl ce_uJ4 (by decide) gw_1945 (fun _ _ _ _ h => h) tyJ4_ok nmJ4 (Or.inl rfl))) (
  ce_fc (P := P_J5_append_3fe6f) (ok_li (ok_iload_n dJ5_append_3fe6f_39 rfl)) (
  ce_fc (P := P_J5_append_3fe6f) (ok_li (ok_i2b dJ5_append_3fe6f_40)) (
  ce_fc (P := P_J5_append_3fe6f) (ok_li (ok_bastore dJ5_append_3fe6f_41)) (
  ce_fc (P := P_J5_append_3fe6f) (ok_li (ok_goto dJ5_append_3fe6f_42 (by decide))) (
  ce_fc (P := P_J5_append_3fe6f) (ok_li (ok_aload_n dJ5_append_3fe6f_45 rfl)) (
  ce_fc (P := P_J5_append_3fe6f) (ok_call (ru_U (ci := 1) (C := RJ4) (Tf := TJ4) (N := 4) m_J5_isLatin1_aae02 (by decide) (by decide) rfl gw_1990 gw_1986 gw_1987 gw_1989 gw_38 gw_1988 hp_J5_isLatin1_aae02 dJ5_append_3fe6f_46) ca_t) (
  ce_fc (P := P_J5_append_3fe6f) (ok_li (ok_if_eq dJ5_append_3fe6f_49 (by decide))) (
  ce_fn (P := P_J5_append_3fe6f)))))))))))))))
noncomputable def tb_J5_append_3fe6f_2 : List (Nat × ce_N) := [(52, ce_li (ce_aload 0 53)),
  (53, ce_call 1 1 32 56 (.inr true) (ce_CV 1 F_J5_inflate_da8c8)),
  (56, ce_li (ce_aload 0 57)),
  (57, ce_li (ce_getf 1 0 60)),
  (60, ce_li (ce_aload 0 61)),
  (61, ce_li (ce_dup 62)),
  (62, ce_li (ce_getf 1 3 65)),
  (65, ce_li (ce_dup_x1 66)),
  (66, ce_li (ce_push (.inl (.inl (1))) 67)),
  (67, ce_li (ce_bin ce_addo 68)),
  (68, ce_li (ce_putf (tyJ4 3) 1 3 71)),
  (71, ce_li (ce_iload 1 72)),
  (72, ce_call 3 0 0 75 (.inr true) F_J2_putCharSB_b72d1),
  (75, ce_li (ce_aload 0 76))]
theorem tk_J5_append_3fe6f_2 : ∀ x ∈ tb_J5_append_3fe6f_2, P_J5_append_3fe6f x.1 x.2 :=
  ce_fc (P := P_J5_append_3fe6f) (ok_li (ok_aload_n dJ5_append_3fe6f_52 rfl)) (
  ce_fc (P := P_J5_append_3fe6f) (ok_call (ru_U (ci := 1) (C := RJ4) (Tf := TJ4) (N := 4) m_J5_inflate_da8c8 (by decide) (by decide) rfl gw_2010 gw_2007 gw_2009 gx_3 gw_38 gw_2863 hp_J5_inflate_da8c8 dJ5_append_3fe6f_53) ca_t) (
  ce_fc (P := P_J5_append_3fe6f) (ok_li (ok_aload_n dJ5_append_3fe6f_56 rfl)) (
  ce_fc (P := P_J5_append_3fe6f) (ok_li (ok_getf (ci := 1) (k := 0) (C := RJ4) (T := TJ4) (N := 4) dJ5_append_3fe6f_57 rfl ce_uJ4 (by decide) gw_1942 (fun _ _ _ _ h => h))) (
  ce_fc (P := P_J5_append_3fe6f) (ok_li (ok_aload_n dJ5_append_3fe6f_60 rfl)) (
  ce_fc (P := P_J5_append_3fe6f) (ok_li (ok_dup dJ5_append_3fe6f_61)) (
  ce_fc (P := P_J5_append_3fe6f) (ok_li (ok_getf (ci := 1) (k := 3) (C := RJ4) (T := TJ4) (N := 4) dJ5_append_3fe6f_62 rfl ce_uJ4 (by decide) gw_1945 (fun _ _ _ _ h => h))) (
  ce_fc (P := P_J5_append_3fe6f) (ok_li (ok_dup_x1 dJ5_append_3fe6f_65)) (
  ce_fc (P := P_J5_append_3fe6f) (ok_li (ok_iconst dJ5_append_3fe6f_66)) (
  ce_fc (P := P_J5_append_3fe6f) (ok_li (ok_iadd dJ5_append_3fe6f_67)) (
  ce_fc (P := P_J5_append_3fe6f) (ok_li (ok_putf (ci := 1) (k := 3) (C := RJ4) (T := TJ4) (N := 4) (ty0 := tyJ4) dJ5_append_3fe6f_68 rfl ce_uJ4 (by decide) gw_1945 (fun _ _ _ _ h => h) tyJ4_ok nmJ4 (Or.inl rfl))) (
  ce_fc (P := P_J5_append_3fe6f) (ok_li (ok_iload_n dJ5_append_3fe6f_71 rfl)) (
  ce_fc (P := P_J5_append_3fe6f) (ok_call (ru_S m_J2_putCharSB_b72d1 (by decide) (by decide) gw_2044 gw_2042 gw_2043 gw_26 hp_J2_putCharSB_b72d1 dJ5_append_3fe6f_72) ca_t) (
  ce_fc (P := P_J5_append_3fe6f) (ok_li (ok_aload_n dJ5_append_3fe6f_75 rfl)) (
  ce_fn (P := P_J5_append_3fe6f)))))))))))))))
noncomputable def tb_J5_append_3fe6f_3 : List (Nat × ce_N) := [(76, ce_reta)]
theorem tk_J5_append_3fe6f_3 : ∀ x ∈ tb_J5_append_3fe6f_3, P_J5_append_3fe6f x.1 x.2 :=
  ce_fc (P := P_J5_append_3fe6f) (ok_reta dJ5_append_3fe6f_76 rfl (Or.inl ⟨_, rfl⟩)) (
  ce_fn (P := P_J5_append_3fe6f))
noncomputable def ta_J5_append_3fe6f : Nat → Option ce_N := (ce_tr 52 (ce_tr 28 (ce_fd tb_J5_append_3fe6f_0) (ce_fd tb_J5_append_3fe6f_1)) (ce_tr 76 (ce_fd tb_J5_append_3fe6f_2) (ce_fd tb_J5_append_3fe6f_3)))
theorem tx_J5_append_3fe6f : ∀ pc f, ta_J5_append_3fe6f pc = some f → P_J5_append_3fe6f pc f := (ce_tr_ok (P := P_J5_append_3fe6f) (ce_tr_ok (P := P_J5_append_3fe6f) (ce_fd_ok (P := P_J5_append_3fe6f) tk_J5_append_3fe6f_0) (ce_fd_ok (P := P_J5_append_3fe6f) tk_J5_append_3fe6f_1)) (ce_tr_ok (P := P_J5_append_3fe6f) (ce_fd_ok (P := P_J5_append_3fe6f) tk_J5_append_3fe6f_2) (ce_fd_ok (P := P_J5_append_3fe6f) tk_J5_append_3fe6f_3)))
noncomputable def F_J5_append_3fe6f : ce_C := ce_M ta_J5_append_3fe6f 2 1 32 1000000
theorem m_J5_append_3fe6f : ∀ l : Launch, l.stackTraces = false → ce_MS l yJ5_append_3fe6f (.code yJ5_append_3fe6f cJ5_append_3fe6f 2 (some (.object "java/lang/AbstractStringBuilder"))) 6 1 32 F_J5_append_3fe6f := fun l hl => ce_met hl (by decide +kernel) tx_J5_append_3fe6f
theorem hp_J5_append_3fe6f : yJ5_append_3fe6f.cls ≠ "java/lang/invoke/MethodHandle" ∧ yJ5_append_3fe6f.cls ≠ "java/lang/invoke/VarHandle" ∧ (parseMethodDescriptor yJ5_append_3fe6f.desc).map (fun d => d.parameters.length) = some 1 := by decide +kernel
abbrev P_J5_inflateIfNeededFor_a7421 : Nat → ce_N → Prop := ce_OKN "java/lang/AbstractStringBuilder" "inflateIfNeededFor" cJ5_inflateIfNeededFor_a7421 2 none 6 (some [])
noncomputable def tb_J5_inflateIfNeededFor_a7421_0 : List (Nat × ce_N) := [(0, ce_li (ce_push (.inl (.inl 1)) 3)),
  (3, ce_li (ce_if true false false 21 6)),
  (6, ce_li (ce_aload 0 7)),
  (7, ce_li (ce_getf 1 1 10)),
  (10, ce_li (ce_aload 1 11)),
  (11, ce_call 1 0 0 14 (.inr true) (ce_CV 0 F_J0_coder_7d493)),
  (14, ce_li (ce_icmp true false false 21 17)),
  (17, ce_li (ce_aload 0 18)),
  (18, ce_call 1 1 32 21 (.inr true) (ce_CV 1 F_J5_inflate_da8c8)),
  (21, ce_ret0)]
theorem tk_J5_inflateIfNeededFor_a7421_0 : ∀ x ∈ tb_J5_inflateIfNeededFor_a7421_0, P_J5_inflateIfNeededFor_a7421 x.1 x.2 :=
  ce_fc (P := P_J5_inflateIfNeededFor_a7421) (ok_li (ok_gets (sv := (.inl (.inl 1))) ce_z1 dJ5_inflateIfNeededFor_a7421_0 gw_1934 rfl)) (
  ce_fc (P := P_J5_inflateIfNeededFor_a7421) (ok_li (ok_if_eq dJ5_inflateIfNeededFor_a7421_3 (by decide))) (
  ce_fc (P := P_J5_inflateIfNeededFor_a7421) (ok_li (ok_aload_n dJ5_inflateIfNeededFor_a7421_6 rfl)) (
  ce_fc (P := P_J5_inflateIfNeededFor_a7421) (ok_li (ok_getf (ci := 1) (k := 1) (C := RJ4) (T := TJ4) (N := 4) dJ5_inflateIfNeededFor_a7421_7 rfl ce_uJ4 (by decide) gw_1943 (fun _ _ _ _ h => h))) (
  ce_fc (P := P_J5_inflateIfNeededFor_a7421) (ok_li (ok_aload_n dJ5_inflateIfNeededFor_a7421_10 rfl)) (
  ce_fc (P := P_J5_inflateIfNeededFor_a7421) (ok_call (ru_V (ci := 0) (C := RJ0) (Tf := TJ0) (N := 4) m_J0_coder_7d493 (by decide) (by decide) rfl gw_1613 gw_2006 gw_1611 gw_1612 gw_23 ⟨rfl, hp_J0_coder_7d493⟩ dJ5_inflateIfNeededFor_a7421_11) ca_t) (
  ce_fc (P := P_J5_inflateIfNeededFor_a7421) (ok_li (ok_icmp_eq dJ5_inflateIfNeededFor_a7421_14 (by decide))) (
  ce_fc (P := P_J5_inflateIfNeededFor_a7421) (ok_li (ok_aload_n dJ5_inflateIfNeededFor_a7421_17 rfl)) (
  ce_fc (P := P_J5_inflateIfNeededFor_a7421) (ok_call (ru_U (ci := 1) (C := RJ4) (Tf := TJ4) (N := 4) m_J5_inflate_da8c8 (by decide) (by decide) rfl gw_2010 gw_2007 gw_2009 gx_3 gw_38 gw_2863 hp_J5_inflate_da8c8 dJ5_inflateIfNeededFor_a7421_18) ca_t) (
  ce_fc (P := P_J5_inflateIfNeededFor_a7421) (ok_ret0 dJ5_inflateIfNeededFor_a7421_21 rfl) (
  ce_fn (P := P_J5_inflateIfNeededFor_a7421)))))))))))
noncomputable def ta_J5_inflateIfNeededFor_a7421 : Nat → Option ce_N := (ce_fd tb_J5_inflateIfNeededFor_a7421_0)
theorem tx_J5_inflateIfNeededFor_a7421 : ∀ pc f, ta_J5_inflateIfNeededFor_a7421 pc = some f → P_J5_inflateIfNeededFor_a7421 pc f := (ce_fd_ok (P := P_J5_inflateIfNeededFor_a7421) tk_J5_inflateIfNeededFor_a7421_0)
noncomputable def F_J5_inflateIfNeededFor_a7421 : ce_C := ce_M ta_J5_inflateIfNeededFor_a7421 2 1 32 1000000
theorem m_J5_inflateIfNeededFor_a7421 : ∀ l : Launch, l.stackTraces = false → ce_MS l yJ5_inflateIfNeededFor_a7421 (.code yJ5_inflateIfNeededFor_a7421 cJ5_inflateIfNeededFor_a7421 2 none) 6 1 32 F_J5_inflateIfNeededFor_a7421 := fun l hl => ce_met hl (by decide +kernel) tx_J5_inflateIfNeededFor_a7421
theorem hp_J5_inflateIfNeededFor_a7421 : yJ5_inflateIfNeededFor_a7421.cls ≠ "java/lang/invoke/MethodHandle" ∧ yJ5_inflateIfNeededFor_a7421.cls ≠ "java/lang/invoke/VarHandle" ∧ (parseMethodDescriptor yJ5_inflateIfNeededFor_a7421.desc).map (fun d => d.parameters.length) = some 1 := by decide +kernel
abbrev P_X21_addBoards : Nat → ce_N → Prop := ce_OKN "CarcasswrightModel" "addBoards" cX21_addBoards 9 (some .int) 6 (some [])
noncomputable def tb_X21_addBoards_0 : List (Nat × ce_N) := [(0, ce_li (ce_iload 1 1)),
  (1, ce_li (ce_push (.inl (.inl (0))) 2)),
  (2, ce_li (ce_push (.inl (.inl (2))) 3)),
  (3, ce_call 3 0 0 6 (.inr true) F_X21_in),
  (6, ce_li (ce_if true false false 63 9)),
  (9, ce_li (ce_iload 2 10)),
  (10, ce_li (ce_push (.inl (.inl (18))) 12)),
  (12, ce_li (ce_icmp true false false 21 15)),
  (15, ce_li (ce_iload 2 16)),
  (16, ce_li (ce_push (.inl (.inl (8))) 18)),
  (18, ce_li (ce_icmp true false true 63 21)),
  (21, ce_li (ce_iload 3 22)),
  (22, ce_li (ce_push (.inl (.inl (300))) 25)),
  (25, ce_li (ce_push (.inl (.inl (2800))) 28))]
theorem tk_X21_addBoards_0 : ∀ x ∈ tb_X21_addBoards_0, P_X21_addBoards x.1 x.2 :=
  ce_fc (P := P_X21_addBoards) (ok_li (ok_iload_n dX21_addBoards_0 rfl)) (
  ce_fc (P := P_X21_addBoards) (ok_li (ok_iconst dX21_addBoards_1)) (
  ce_fc (P := P_X21_addBoards) (ok_li (ok_iconst dX21_addBoards_2)) (
  ce_fc (P := P_X21_addBoards) (ok_call (ru_S m_X21_in (by decide) (by decide) gw_1676 gw_1674 gw_1675 gw_13 hp_X21_in dX21_addBoards_3) ca_t) (
  ce_fc (P := P_X21_addBoards) (ok_li (ok_if_eq dX21_addBoards_6 (by decide))) (
  ce_fc (P := P_X21_addBoards) (ok_li (ok_iload_n dX21_addBoards_9 rfl)) (
  ce_fc (P := P_X21_addBoards) (ok_li (ok_bipush dX21_addBoards_10 (by decide))) (
  ce_fc (P := P_X21_addBoards) (ok_li (ok_icmp_eq dX21_addBoards_12 (by decide))) (
  ce_fc (P := P_X21_addBoards) (ok_li (ok_iload_n dX21_addBoards_15 rfl)) (
  ce_fc (P := P_X21_addBoards) (ok_li (ok_bipush dX21_addBoards_16 (by decide))) (
  ce_fc (P := P_X21_addBoards) (ok_li (ok_icmp_ne dX21_addBoards_18 (by decide))) (
  ce_fc (P := P_X21_addBoards) (ok_li (ok_iload_n dX21_addBoards_21 rfl)) (
  ce_fc (P := P_X21_addBoards) (ok_li (ok_sipush dX21_addBoards_22 (by decide))) (
  ce_fc (P := P_X21_addBoards) (ok_li (ok_sipush dX21_addBoards_25 (by decide))) (
  ce_fn (P := P_X21_addBoards)))))))))))))))
noncomputable def tb_X21_addBoards_1 : List (Nat × ce_N) := [(28, ce_call 3 0 0 31 (.inr true) F_X21_in),
  (31, ce_li (ce_if true false false 63 34)),
  (34, ce_li (ce_iload 4 36)),
  (36, ce_li (ce_push (.inl (.inl (300))) 39)),
  (39, ce_li (ce_push (.inl (.inl (2100))) 42)),
  (42, ce_call 3 0 0 45 (.inr true) F_X21_in),
  (45, ce_li (ce_if true false false 63 48)),
  (48, ce_li (ce_iload 5 50)),
  (50, ce_li (ce_push (.inl (.inl (1))) 51)),
  (51, ce_li (ce_push (.inl (.inl (20))) 53)),
  (53, ce_call 3 0 0 56 (.inr true) F_X21_in),
  (56, ce_li (ce_if true false false 63 59)),
  (59, ce_li (ce_push (.inl (.inl (1))) 60)),
  (60, ce_li (ce_goto 64))]
theorem tk_X21_addBoards_1 : ∀ x ∈ tb_X21_addBoards_1, P_X21_addBoards x.1 x.2 :=
  ce_fc (P := P_X21_addBoards) (ok_call (ru_S m_X21_in (by decide) (by decide) gw_1676 gw_1674 gw_1675 gw_13 hp_X21_in dX21_addBoards_28) ca_t) (
  ce_fc (P := P_X21_addBoards) (ok_li (ok_if_eq dX21_addBoards_31 (by decide))) (
  ce_fc (P := P_X21_addBoards) (ok_li (ok_iload dX21_addBoards_34)) (
  ce_fc (P := P_X21_addBoards) (ok_li (ok_sipush dX21_addBoards_36 (by decide))) (
  ce_fc (P := P_X21_addBoards) (ok_li (ok_sipush dX21_addBoards_39 (by decide))) (
  ce_fc (P := P_X21_addBoards) (ok_call (ru_S m_X21_in (by decide) (by decide) gw_1676 gw_1674 gw_1675 gw_13 hp_X21_in dX21_addBoards_42) ca_t) (
  ce_fc (P := P_X21_addBoards) (ok_li (ok_if_eq dX21_addBoards_45 (by decide))) (
  ce_fc (P := P_X21_addBoards) (ok_li (ok_iload dX21_addBoards_48)) (
  ce_fc (P := P_X21_addBoards) (ok_li (ok_iconst dX21_addBoards_50)) (
  ce_fc (P := P_X21_addBoards) (ok_li (ok_bipush dX21_addBoards_51 (by decide))) (
  ce_fc (P := P_X21_addBoards) (ok_call (ru_S m_X21_in (by decide) (by decide) gw_1676 gw_1674 gw_1675 gw_13 hp_X21_in dX21_addBoards_53) ca_t) (
  ce_fc (P := P_X21_addBoards) (ok_li (ok_if_eq dX21_addBoards_56 (by decide))) (
  ce_fc (P := P_X21_addBoards) (ok_li (ok_iconst dX21_addBoards_59)) (
  ce_fc (P := P_X21_addBoards) (ok_li (ok_goto dX21_addBoards_60 (by decide))) (
  ce_fn (P := P_X21_addBoards)))))))))))))))
noncomputable def tb_X21_addBoards_2 : List (Nat × ce_N) := [(63, ce_li (ce_push (.inl (.inl (0))) 64)),
  (64, ce_li (ce_istore 6 66 9)),
  (66, ce_li (ce_aload 0 67)),
  (67, ce_li (ce_iload 6 69)),
  (69, ce_li (ce_if true false true 76 72)),
  (72, ce_li (ce_push (.inl (.inl (1))) 73)),
  (73, ce_li (ce_goto 96)),
  (76, ce_li (ce_aload 0 77)),
  (77, ce_li (ce_getf 20 6 80)),
  (80, ce_call 1 0 0 83 (.inr true) (ce_CV 3 F_Jx4a65c_size_8abf5)),
  (83, ce_li (ce_iload 5 85)),
  (85, ce_li (ce_bin ce_addo 86)),
  (86, ce_li (ce_push (.inl (.inl (60))) 88)),
  (88, ce_li (ce_icmp false true true 95 91))]
theorem tk_X21_addBoards_2 : ∀ x ∈ tb_X21_addBoards_2, P_X21_addBoards x.1 x.2 :=
  ce_fc (P := P_X21_addBoards) (ok_li (ok_iconst dX21_addBoards_63)) (
  ce_fc (P := P_X21_addBoards) (ok_li (ok_istore dX21_addBoards_64)) (
  ce_fc (P := P_X21_addBoards) (ok_li (ok_aload_n dX21_addBoards_66 rfl)) (
  ce_fc (P := P_X21_addBoards) (ok_li (ok_iload dX21_addBoards_67)) (
  ce_fc (P := P_X21_addBoards) (ok_li (ok_if_ne dX21_addBoards_69 (by decide))) (
  ce_fc (P := P_X21_addBoards) (ok_li (ok_iconst dX21_addBoards_72)) (
  ce_fc (P := P_X21_addBoards) (ok_li (ok_goto dX21_addBoards_73 (by decide))) (
  ce_fc (P := P_X21_addBoards) (ok_li (ok_aload_n dX21_addBoards_76 rfl)) (
  ce_fc (P := P_X21_addBoards) (ok_li (ok_getf (ci := 20) (k := 6) (C := RX21) (T := TX21) (N := 20) dX21_addBoards_77 rfl ce_uX21 (by decide) gw_1527 (fun _ _ _ _ h => h))) (
  ce_fc (P := P_X21_addBoards) (ok_call (ru_V (ci := 3) (C := RJx4a65c) (Tf := TJx4a65c) (N := 3) m_Jx4a65c_size_8abf5 (by decide) (by decide) rfl gw_1680 gw_1677 gw_1678 gw_1679 gw_16 ⟨rfl, hp_Jx4a65c_size_8abf5⟩ dX21_addBoards_80) ca_t) (
  ce_fc (P := P_X21_addBoards) (ok_li (ok_iload dX21_addBoards_83)) (
  ce_fc (P := P_X21_addBoards) (ok_li (ok_iadd dX21_addBoards_85)) (
  ce_fc (P := P_X21_addBoards) (ok_li (ok_bipush dX21_addBoards_86 (by decide))) (
  ce_fc (P := P_X21_addBoards) (ok_li (ok_icmp_le dX21_addBoards_88 (by decide))) (
  ce_fn (P := P_X21_addBoards)))))))))))))))
noncomputable def tb_X21_addBoards_3 : List (Nat × ce_N) := [(95, ce_li (ce_push (.inl (.inl (0))) 96)),
  (96, ce_li (ce_putf (tyX21 0) 20 0 99)),
  (99, ce_li (ce_aload 0 100)),
  (100, ce_li (ce_getf 20 0 103)),
  (103, ce_li (ce_if false true true 108 106)),
  (106, ce_li (ce_push (.inl (.inl (0))) 107)),
  (107, ce_reti .int),
  (108, ce_li (ce_push (.inl (.inl (0))) 109)),
  (109, ce_li (ce_istore 7 111 9)),
  (111, ce_li (ce_iload 7 113)),
  (113, ce_li (ce_iload 5 115)),
  (115, ce_li (ce_icmp false false true 163 118)),
  (118, ce_li (ce_new 16 7 dl_X12 121)),
  (121, ce_li (ce_dup 122))]
theorem tk_X21_addBoards_3 : ∀ x ∈ tb_X21_addBoards_3, P_X21_addBoards x.1 x.2 :=
  ce_fc (P := P_X21_addBoards) (ok_li (ok_iconst dX21_addBoards_95)) (
  ce_fc (P := P_X21_addBoards) (ok_li (ok_putf (ci := 20) (k := 0) (C := RX21) (T := TX21) (N := 20) (ty0 := tyX21) dX21_addBoards_96 rfl ce_uX21 (by decide) gw_1521 (fun _ _ _ _ h => h) tyX21_ok nmX21 (Or.inl rfl))) (
  ce_fc (P := P_X21_addBoards) (ok_li (ok_aload_n dX21_addBoards_99 rfl)) (
  ce_fc (P := P_X21_addBoards) (ok_li (ok_getf (ci := 20) (k := 0) (C := RX21) (T := TX21) (N := 20) dX21_addBoards_100 rfl ce_uX21 (by decide) gw_1521 (fun _ _ _ _ h => h))) (
  ce_fc (P := P_X21_addBoards) (ok_li (ok_if_le dX21_addBoards_103 (by decide))) (
  ce_fc (P := P_X21_addBoards) (ok_li (ok_iconst dX21_addBoards_106)) (
  ce_fc (P := P_X21_addBoards) (ok_reti dX21_addBoards_107 rfl) (
  ce_fc (P := P_X21_addBoards) (ok_li (ok_iconst dX21_addBoards_108)) (
  ce_fc (P := P_X21_addBoards) (ok_li (ok_istore dX21_addBoards_109)) (
  ce_fc (P := P_X21_addBoards) (ok_li (ok_iload dX21_addBoards_111)) (
  ce_fc (P := P_X21_addBoards) (ok_li (ok_iload dX21_addBoards_113)) (
  ce_fc (P := P_X21_addBoards) (ok_li (ok_icmp_ge dX21_addBoards_115 (by decide))) (
  ce_fc (P := P_X21_addBoards) (ok_li (ok_new (ci := 16) (C := RX12) (T := TX12) (N := 7) (ty0 := tyX12) dX21_addBoards_118 rfl ce_uX12 tyX12_ok gw_2553 gw_2554 gw_47 dv_X12 rfl)) (
  ce_fc (P := P_X21_addBoards) (ok_li (ok_dup dX21_addBoards_121)) (
  ce_fn (P := P_X21_addBoards)))))))))))))))
noncomputable def tb_X21_addBoards_4 : List (Nat × ce_N) := [(122, ce_li (ce_iload 1 123)),
  (123, ce_li (ce_iload 2 124)),
  (124, ce_li (ce_iload 3 125)),
  (125, ce_li (ce_iload 4 127)),
  (127, ce_li (ce_push (.inl (.inl (0))) 128)),
  (128, ce_call 6 2 6 131 (.inr true) (ce_CI F_X12_init)),
  (131, ce_li (ce_astore 8 133 9)),
  (133, ce_li (ce_aload 0 134)),
  (134, ce_li (ce_getf 20 6 137)),
  (137, ce_li (ce_aload 8 139)),
  (139, ce_call 2 1 22 142 (.inr true) (ce_CV 3 F_Jx4a65c_add_9ea2d)),
  (142, ce_li (ce_pop 143)),
  (143, ce_li (ce_aload 0 144)),
  (144, ce_li (ce_dup 145))]
theorem tk_X21_addBoards_4 : ∀ x ∈ tb_X21_addBoards_4, P_X21_addBoards x.1 x.2 :=
  ce_fc (P := P_X21_addBoards) (ok_li (ok_iload_n dX21_addBoards_122 rfl)) (
  ce_fc (P := P_X21_addBoards) (ok_li (ok_iload_n dX21_addBoards_123 rfl)) (
  ce_fc (P := P_X21_addBoards) (ok_li (ok_iload_n dX21_addBoards_124 rfl)) (
  ce_fc (P := P_X21_addBoards) (ok_li (ok_iload dX21_addBoards_125)) (
  ce_fc (P := P_X21_addBoards) (ok_li (ok_iconst dX21_addBoards_127)) (
  ce_fc (P := P_X21_addBoards) (ok_call (ru_I m_X12_init (by decide) (by decide) gw_2557 gw_2555 gw_2556 gw_47 rfl hp_X12_init dX21_addBoards_128) ca_t) (
  ce_fc (P := P_X21_addBoards) (ok_li (ok_astore dX21_addBoards_131)) (
  ce_fc (P := P_X21_addBoards) (ok_li (ok_aload_n dX21_addBoards_133 rfl)) (
  ce_fc (P := P_X21_addBoards) (ok_li (ok_getf (ci := 20) (k := 6) (C := RX21) (T := TX21) (N := 20) dX21_addBoards_134 rfl ce_uX21 (by decide) gw_1527 (fun _ _ _ _ h => h))) (
  ce_fc (P := P_X21_addBoards) (ok_li (ok_aload dX21_addBoards_137)) (
  ce_fc (P := P_X21_addBoards) (ok_call (ru_V (ci := 3) (C := RJx4a65c) (Tf := TJx4a65c) (N := 3) m_Jx4a65c_add_9ea2d (by decide) (by decide) rfl gw_1713 gw_1710 gw_1711 gw_1712 gw_16 ⟨rfl, hp_Jx4a65c_add_9ea2d⟩ dX21_addBoards_139) ca_t) (
  ce_fc (P := P_X21_addBoards) (ok_li (ok_pop dX21_addBoards_142)) (
  ce_fc (P := P_X21_addBoards) (ok_li (ok_aload_n dX21_addBoards_143 rfl)) (
  ce_fc (P := P_X21_addBoards) (ok_li (ok_dup dX21_addBoards_144)) (
  ce_fn (P := P_X21_addBoards)))))))))))))))
noncomputable def tb_X21_addBoards_5 : List (Nat × ce_N) := [(145, ce_li (ce_getf 20 10 148)),
  (148, ce_li (ce_aload 8 150)),
  (150, ce_call 1 0 0 153 (.inr true) (ce_CV 16 F_X12_area)),
  (153, ce_li (ce_binL ce_ladd 154)),
  (154, ce_li (ce_putf (tyX21 10) 20 10 157)),
  (157, ce_li (ce_iinc 7 (1) 160 9)),
  (160, ce_li (ce_goto 111)),
  (163, ce_li (ce_aload 0 164)),
  (164, ce_li (ce_getf 20 6 167)),
  (167, ce_call 1 0 0 170 (.inr true) (ce_CV 3 F_Jx4a65c_size_8abf5)),
  (170, ce_reti .int)]
theorem tk_X21_addBoards_5 : ∀ x ∈ tb_X21_addBoards_5, P_X21_addBoards x.1 x.2 :=
  ce_fc (P := P_X21_addBoards) (ok_li (ok_getf (ci := 20) (k := 10) (C := RX21) (T := TX21) (N := 20) dX21_addBoards_145 rfl ce_uX21 (by decide) gw_1531 (fun _ _ _ _ h => h))) (
  ce_fc (P := P_X21_addBoards) (ok_li (ok_aload dX21_addBoards_148)) (
  ce_fc (P := P_X21_addBoards) (ok_call (ru_V (ci := 16) (C := RX12) (Tf := TX12) (N := 7) m_X12_area (by decide) (by decide) rfl gw_2591 gw_2588 gw_2589 gw_2590 gw_47 ⟨rfl, hp_X12_area⟩ dX21_addBoards_150) ca_t) (
  ce_fc (P := P_X21_addBoards) (ok_li (ok_ladd dX21_addBoards_153)) (
  ce_fc (P := P_X21_addBoards) (ok_li (ok_putf (ci := 20) (k := 10) (C := RX21) (T := TX21) (N := 20) (ty0 := tyX21) dX21_addBoards_154 rfl ce_uX21 (by decide) gw_1531 (fun _ _ _ _ h => h) tyX21_ok nmX21 (Or.inl rfl))) (
  ce_fc (P := P_X21_addBoards) (ok_li (ok_iinc dX21_addBoards_157)) (
  ce_fc (P := P_X21_addBoards) (ok_li (ok_goto dX21_addBoards_160 (by decide))) (
  ce_fc (P := P_X21_addBoards) (ok_li (ok_aload_n dX21_addBoards_163 rfl)) (
  ce_fc (P := P_X21_addBoards) (ok_li (ok_getf (ci := 20) (k := 6) (C := RX21) (T := TX21) (N := 20) dX21_addBoards_164 rfl ce_uX21 (by decide) gw_1527 (fun _ _ _ _ h => h))) (
  ce_fc (P := P_X21_addBoards) (ok_call (ru_V (ci := 3) (C := RJx4a65c) (Tf := TJx4a65c) (N := 3) m_Jx4a65c_size_8abf5 (by decide) (by decide) rfl gw_1680 gw_1677 gw_1678 gw_1679 gw_16 ⟨rfl, hp_Jx4a65c_size_8abf5⟩ dX21_addBoards_167) ca_t) (
  ce_fc (P := P_X21_addBoards) (ok_reti dX21_addBoards_170 rfl) (
  ce_fn (P := P_X21_addBoards))))))))))))
noncomputable def ta_X21_addBoards : Nat → Option ce_N := (ce_tr 95 (ce_tr 28 (ce_fd tb_X21_addBoards_0) (ce_tr 63 (ce_fd tb_X21_addBoards_1) (ce_fd tb_X21_addBoards_2))) (ce_tr 122 (ce_fd tb_X21_addBoards_3) (ce_tr 145 (ce_fd tb_X21_addBoards_4) (ce_fd tb_X21_addBoards_5))))
theorem tx_X21_addBoards : ∀ pc f, ta_X21_addBoards pc = some f → P_X21_addBoards pc f := (ce_tr_ok (P := P_X21_addBoards) (ce_tr_ok (P := P_X21_addBoards) (ce_fd_ok (P := P_X21_addBoards) tk_X21_addBoards_0) (ce_tr_ok (P := P_X21_addBoards) (ce_fd_ok (P := P_X21_addBoards) tk_X21_addBoards_1) (ce_fd_ok (P := P_X21_addBoards) tk_X21_addBoards_2))) (ce_tr_ok (P := P_X21_addBoards) (ce_fd_ok (P := P_X21_addBoards) tk_X21_addBoards_3) (ce_tr_ok (P := P_X21_addBoards) (ce_fd_ok (P := P_X21_addBoards) tk_X21_addBoards_4) (ce_fd_ok (P := P_X21_addBoards) tk_X21_addBoards_5))))
noncomputable def F_X21_addBoards : ce_C := ce_M ta_X21_addBoards 9 80 700 1000000
theorem m_X21_addBoards : ∀ l : Launch, l.stackTraces = false → ce_MS l yX21_addBoards (.code yX21_addBoards cX21_addBoards 9 (some .int)) 6 80 700 F_X21_addBoards := fun l hl => ce_met hl (by decide +kernel) tx_X21_addBoards
theorem hp_X21_addBoards : yX21_addBoards.cls ≠ "java/lang/invoke/MethodHandle" ∧ yX21_addBoards.cls ≠ "java/lang/invoke/VarHandle" ∧ (parseMethodDescriptor yX21_addBoards.desc).map (fun d => d.parameters.length) = some 5 := by decide +kernel
abbrev P_X21_addWall : Nat → ce_N → Prop := ce_OKN "CarcasswrightModel" "addWall" cX21_addWall 3 (some .int) 6 (some [])
noncomputable def tb_X21_addWall_0 : List (Nat × ce_N) := [(0, ce_li (ce_aload 0 1)),
  (1, ce_li (ce_push (.inr (.inr (.inl (.inr 4)))) 3)),
  (3, ce_li (ce_iload 1 4)),
  (4, ce_call 2 0 0 7 (.inr true) (ce_CV 0 F_J0_indexOf_0f7a4)),
  (7, ce_li (ce_if false false false 23 10)),
  (10, ce_li (ce_iload 2 11)),
  (11, ce_li (ce_push (.inl (.inl (500))) 14)),
  (14, ce_li (ce_push (.inl (.inl (9999))) 17)),
  (17, ce_call 3 0 0 20 (.inr true) F_X21_in),
  (20, ce_li (ce_if true false true 27 23)),
  (23, ce_li (ce_push (.inl (.inl (1))) 24)),
  (24, ce_li (ce_goto 54)),
  (27, ce_li (ce_aload 0 28)),
  (28, ce_li (ce_getf 20 1 31))]
theorem tk_X21_addWall_0 : ∀ x ∈ tb_X21_addWall_0, P_X21_addWall x.1 x.2 :=
  ce_fc (P := P_X21_addWall) (ok_li (ok_aload_n dX21_addWall_0 rfl)) (
  ce_fc (P := P_X21_addWall) (ok_li (ok_ldcS ce_s4 dX21_addWall_1)) (
  ce_fc (P := P_X21_addWall) (ok_li (ok_iload_n dX21_addWall_3 rfl)) (
  ce_fc (P := P_X21_addWall) (ok_call (ru_V (ci := 0) (C := RJ0) (Tf := TJ0) (N := 4) m_J0_indexOf_0f7a4 (by decide) (by decide) rfl gw_1595 gw_1592 gw_1593 gw_1594 gw_23 ⟨rfl, hp_J0_indexOf_0f7a4⟩ dX21_addWall_4) ca_t) (
  ce_fc (P := P_X21_addWall) (ok_li (ok_if_lt dX21_addWall_7 (by decide))) (
  ce_fc (P := P_X21_addWall) (ok_li (ok_iload_n dX21_addWall_10 rfl)) (
  ce_fc (P := P_X21_addWall) (ok_li (ok_sipush dX21_addWall_11 (by decide))) (
  ce_fc (P := P_X21_addWall) (ok_li (ok_sipush dX21_addWall_14 (by decide))) (
  ce_fc (P := P_X21_addWall) (ok_call (ru_S m_X21_in (by decide) (by decide) gw_1676 gw_1674 gw_1675 gw_13 hp_X21_in dX21_addWall_17) ca_t) (
  ce_fc (P := P_X21_addWall) (ok_li (ok_if_ne dX21_addWall_20 (by decide))) (
  ce_fc (P := P_X21_addWall) (ok_li (ok_iconst dX21_addWall_23)) (
  ce_fc (P := P_X21_addWall) (ok_li (ok_goto dX21_addWall_24 (by decide))) (
  ce_fc (P := P_X21_addWall) (ok_li (ok_aload_n dX21_addWall_27 rfl)) (
  ce_fc (P := P_X21_addWall) (ok_li (ok_getf (ci := 20) (k := 1) (C := RX21) (T := TX21) (N := 20) dX21_addWall_28 rfl ce_uX21 (by decide) gw_1522 (fun _ _ _ _ h => h))) (
  ce_fn (P := P_X21_addWall)))))))))))))))
noncomputable def tb_X21_addWall_1 : List (Nat × ce_N) := [(31, ce_call 1 0 0 34 (.inr true) (ce_CV 3 F_Jx4a65c_size_8abf5)),
  (34, ce_li (ce_push (.inl (.inl (6))) 36)),
  (36, ce_li (ce_icmp true false false 49 39)),
  (39, ce_li (ce_aload 0 40)),
  (40, ce_li (ce_getf 20 5 43)),
  (43, ce_call 1 0 0 46 (.inr true) (ce_CV 3 F_Jx4a65c_isEmpty_aae02)),
  (46, ce_li (ce_if true false true 53 49)),
  (53, ce_li (ce_push (.inl (.inl (0))) 54)),
  (54, ce_li (ce_putf (tyX21 0) 20 0 57)),
  (57, ce_li (ce_aload 0 58)),
  (58, ce_li (ce_getf 20 0 61)),
  (61, ce_li (ce_if false true true 66 64)),
  (64, ce_li (ce_push (.inl (.inl (0))) 65)),
  (65, ce_reti .int)]
theorem tk_X21_addWall_1 : ∀ x ∈ tb_X21_addWall_1, P_X21_addWall x.1 x.2 :=
  ce_fc (P := P_X21_addWall) (ok_call (ru_V (ci := 3) (C := RJx4a65c) (Tf := TJx4a65c) (N := 3) m_Jx4a65c_size_8abf5 (by decide) (by decide) rfl gw_1680 gw_1677 gw_1678 gw_1679 gw_16 ⟨rfl, hp_Jx4a65c_size_8abf5⟩ dX21_addWall_31) ca_t) (
  ce_fc (P := P_X21_addWall) (ok_li (ok_bipush dX21_addWall_34 (by decide))) (
  ce_fc (P := P_X21_addWall) (ok_li (ok_icmp_eq dX21_addWall_36 (by decide))) (
  ce_fc (P := P_X21_addWall) (ok_li (ok_aload_n dX21_addWall_39 rfl)) (
  ce_fc (P := P_X21_addWall) (ok_li (ok_getf (ci := 20) (k := 5) (C := RX21) (T := TX21) (N := 20) dX21_addWall_40 rfl ce_uX21 (by decide) gw_1526 (fun _ _ _ _ h => h))) (
  ce_fc (P := P_X21_addWall) (ok_call (ru_V (ci := 3) (C := RJx4a65c) (Tf := TJx4a65c) (N := 3) m_Jx4a65c_isEmpty_aae02 (by decide) (by decide) rfl gw_1684 gw_1681 gw_1682 gw_1683 gw_16 ⟨rfl, hp_Jx4a65c_isEmpty_aae02⟩ dX21_addWall_43) ca_t) (
  ce_fc (P := P_X21_addWall) (ok_li (ok_if_ne dX21_addWall_46 (by decide))) (
  ce_fc (P := P_X21_addWall) (ok_li (ok_iconst dX21_addWall_53)) (
  ce_fc (P := P_X21_addWall) (ok_li (ok_putf (ci := 20) (k := 0) (C := RX21) (T := TX21) (N := 20) (ty0 := tyX21) dX21_addWall_54 rfl ce_uX21 (by decide) gw_1521 (fun _ _ _ _ h => h) tyX21_ok nmX21 (Or.inl rfl))) (
  ce_fc (P := P_X21_addWall) (ok_li (ok_aload_n dX21_addWall_57 rfl)) (
  ce_fc (P := P_X21_addWall) (ok_li (ok_getf (ci := 20) (k := 0) (C := RX21) (T := TX21) (N := 20) dX21_addWall_58 rfl ce_uX21 (by decide) gw_1521 (fun _ _ _ _ h => h))) (
  ce_fc (P := P_X21_addWall) (ok_li (ok_if_le dX21_addWall_61 (by decide))) (
  ce_fc (P := P_X21_addWall) (ok_li (ok_iconst dX21_addWall_64)) (
  ce_fc (P := P_X21_addWall) (ok_reti dX21_addWall_65 rfl) (
  ce_fn (P := P_X21_addWall)))))))))))))))
noncomputable def tb_X21_addWall_2 : List (Nat × ce_N) := [(66, ce_li (ce_aload 0 67)),
  (67, ce_li (ce_getf 20 1 70)),
  (70, ce_li (ce_new 19 5 dl_X20 73)),
  (73, ce_li (ce_dup 74)),
  (74, ce_li (ce_iload 1 75)),
  (75, ce_li (ce_iload 2 76)),
  (76, ce_call 3 0 0 79 (.inr true) (ce_CI F_X20_init)),
  (79, ce_call 2 1 22 82 (.inr true) (ce_CV 3 F_Jx4a65c_add_9ea2d)),
  (82, ce_li (ce_pop 83)),
  (83, ce_li (ce_aload 0 84)),
  (84, ce_li (ce_getf 20 1 87)),
  (87, ce_call 1 0 0 90 (.inr true) (ce_CV 3 F_Jx4a65c_size_8abf5)),
  (90, ce_li (ce_push (.inl (.inl (1))) 91)),
  (91, ce_li (ce_bin ce_subo 92))]
theorem tk_X21_addWall_2 : ∀ x ∈ tb_X21_addWall_2, P_X21_addWall x.1 x.2 :=
  ce_fc (P := P_X21_addWall) (ok_li (ok_aload_n dX21_addWall_66 rfl)) (
  ce_fc (P := P_X21_addWall) (ok_li (ok_getf (ci := 20) (k := 1) (C := RX21) (T := TX21) (N := 20) dX21_addWall_67 rfl ce_uX21 (by decide) gw_1522 (fun _ _ _ _ h => h))) (
  ce_fc (P := P_X21_addWall) (ok_li (ok_new (ci := 19) (C := RX20) (T := TX20) (N := 5) (ty0 := tyX20) dX21_addWall_70 rfl ce_uX20 tyX20_ok gw_1685 gw_1686 gw_29 dv_X20 rfl)) (
  ce_fc (P := P_X21_addWall) (ok_li (ok_dup dX21_addWall_73)) (
  ce_fc (P := P_X21_addWall) (ok_li (ok_iload_n dX21_addWall_74 rfl)) (
  ce_fc (P := P_X21_addWall) (ok_li (ok_iload_n dX21_addWall_75 rfl)) (
  ce_fc (P := P_X21_addWall) (ok_call (ru_I m_X20_init (by decide) (by decide) gw_1689 gw_1687 gw_1688 gw_29 rfl hp_X20_init dX21_addWall_76) ca_t) (
  ce_fc (P := P_X21_addWall) (ok_call (ru_V (ci := 3) (C := RJx4a65c) (Tf := TJx4a65c) (N := 3) m_Jx4a65c_add_9ea2d (by decide) (by decide) rfl gw_1713 gw_1710 gw_1711 gw_1712 gw_16 ⟨rfl, hp_Jx4a65c_add_9ea2d⟩ dX21_addWall_79) ca_t) (
  ce_fc (P := P_X21_addWall) (ok_li (ok_pop dX21_addWall_82)) (
  ce_fc (P := P_X21_addWall) (ok_li (ok_aload_n dX21_addWall_83 rfl)) (
  ce_fc (P := P_X21_addWall) (ok_li (ok_getf (ci := 20) (k := 1) (C := RX21) (T := TX21) (N := 20) dX21_addWall_84 rfl ce_uX21 (by decide) gw_1522 (fun _ _ _ _ h => h))) (
  ce_fc (P := P_X21_addWall) (ok_call (ru_V (ci := 3) (C := RJx4a65c) (Tf := TJx4a65c) (N := 3) m_Jx4a65c_size_8abf5 (by decide) (by decide) rfl gw_1680 gw_1677 gw_1678 gw_1679 gw_16 ⟨rfl, hp_Jx4a65c_size_8abf5⟩ dX21_addWall_87) ca_t) (
  ce_fc (P := P_X21_addWall) (ok_li (ok_iconst dX21_addWall_90)) (
  ce_fc (P := P_X21_addWall) (ok_li (ok_isub dX21_addWall_91)) (
  ce_fn (P := P_X21_addWall)))))))))))))))
noncomputable def tb_X21_addWall_3 : List (Nat × ce_N) := [(92, ce_reti .int)]
theorem tk_X21_addWall_3 : ∀ x ∈ tb_X21_addWall_3, P_X21_addWall x.1 x.2 :=
  ce_fc (P := P_X21_addWall) (ok_reti dX21_addWall_92 rfl) (
  ce_fn (P := P_X21_addWall))
noncomputable def ta_X21_addWall : Nat → Option ce_N := (ce_tr 66 (ce_tr 31 (ce_fd tb_X21_addWall_0) (ce_fd tb_X21_addWall_1)) (ce_tr 92 (ce_fd tb_X21_addWall_2) (ce_fd tb_X21_addWall_3)))
theorem tx_X21_addWall : ∀ pc f, ta_X21_addWall pc = some f → P_X21_addWall pc f := (ce_tr_ok (P := P_X21_addWall) (ce_tr_ok (P := P_X21_addWall) (ce_fd_ok (P := P_X21_addWall) tk_X21_addWall_0) (ce_fd_ok (P := P_X21_addWall) tk_X21_addWall_1)) (ce_tr_ok (P := P_X21_addWall) (ce_fd_ok (P := P_X21_addWall) tk_X21_addWall_2) (ce_fd_ok (P := P_X21_addWall) tk_X21_addWall_3)))
noncomputable def F_X21_addWall : ce_C := ce_M ta_X21_addWall 3 2 27 1000000
theorem m_X21_addWall : ∀ l : Launch, l.stackTraces = false → ce_MS l yX21_addWall (.code yX21_addWall cX21_addWall 3 (some .int)) 6 2 27 F_X21_addWall := fun l hl => ce_met hl (by decide +kernel) tx_X21_addWall
theorem hp_X21_addWall : yX21_addWall.cls ≠ "java/lang/invoke/MethodHandle" ∧ yX21_addWall.cls ≠ "java/lang/invoke/VarHandle" ∧ (parseMethodDescriptor yX21_addWall.desc).map (fun d => d.parameters.length) = some 2 := by decide +kernel
