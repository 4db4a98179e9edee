abbrev P_L_law (nm : String) : Nat → ce_N → Prop := ce_OKN "CarcasswrightLaw" nm cL_law 9 (some .boolean) 11 none
noncomputable def tb_L_law_0 : List (Nat × ce_N) := [(0, ce_li (ce_new 15 7 dl_X11 3)),
  (3, ce_li (ce_dup 4)),
  (4, ce_call 1 180 1502 7 (.inr false) (ce_CI F_X11_init)),
  (7, ce_li (ce_astore 1 8 9)),
  (8, ce_li (ce_new 20 20 dl_X21 11)),
  (11, ce_li (ce_dup 12)),
  (12, ce_call 1 9 23 15 (.inr false) (ce_CI F_X21_init)),
  (15, ce_li (ce_astore 2 16 9)),
  (16, ce_li (ce_push (.inl (.inl (1))) 17)),
  (17, ce_li (ce_newa 4 2 19)),
  (19, ce_li (ce_astore 3 20 9)),
  (20, ce_li (ce_push (.inl (.inl (1))) 21)),
  (21, ce_li (ce_newa 5 2 23)),
  (23, ce_li (ce_astore 4 25 9))]
theorem tk_L_law_0 {nm : String} : ∀ x ∈ tb_L_law_0, P_L_law nm x.1 x.2 :=
  ce_fc (P := P_L_law nm) (ok_li (ok_new (ci := 15) (C := RX11) (T := TX11) (N := 7) (ty0 := tyX11) dL_law_0 rfl ce_uX11 tyX11_ok gw_51 gw_52 gw_1 dv_X11 rfl)) (
  ce_fc (P := P_L_law nm) (ok_li (ok_dup dL_law_3)) (
  ce_fc (P := P_L_law nm) (ok_call (ru_I m_X11_init (by decide) (by decide) gw_55 gw_53 gw_54 gw_1 rfl hp_X11_init dL_law_4) ca_f) (
  ce_fc (P := P_L_law nm) (ok_li (ok_astore_n dL_law_7 rfl)) (
  ce_fc (P := P_L_law nm) (ok_li (ok_new (ci := 20) (C := RX21) (T := TX21) (N := 20) (ty0 := tyX21) dL_law_8 rfl ce_uX21 tyX21_ok gw_1485 gw_1486 gw_13 dv_X21 rfl)) (
  ce_fc (P := P_L_law nm) (ok_li (ok_dup dL_law_11)) (
  ce_fc (P := P_L_law nm) (ok_call (ru_I m_X21_init (by decide) (by decide) gw_1489 gw_1487 gw_1488 gw_13 rfl hp_X21_init dL_law_12) ca_f) (
  ce_fc (P := P_L_law nm) (ok_li (ok_astore_n dL_law_15 rfl)) (
  ce_fc (P := P_L_law nm) (ok_li (ok_iconst dL_law_16)) (
  ce_fc (P := P_L_law nm) (ok_li (ok_newa_long dL_law_17 gw_2854)) (
  ce_fc (P := P_L_law nm) (ok_li (ok_astore_n dL_law_19 rfl)) (
  ce_fc (P := P_L_law nm) (ok_li (ok_iconst dL_law_20)) (
  ce_fc (P := P_L_law nm) (ok_li (ok_newa_double dL_law_21 gw_2855)) (
  ce_fc (P := P_L_law nm) (ok_li (ok_astore dL_law_23)) (
  ce_fn (P := P_L_law nm)))))))))))))))
noncomputable def tb_L_law_1 : List (Nat × ce_N) := [(25, ce_li (ce_push (.inl (.inl (0))) 26)),
  (26, ce_li (ce_istore 5 28 9)),
  (28, ce_li (ce_iload 5 30)),
  (30, ce_li (ce_aload 0 31)),
  (31, ce_li (ce_alen 32)),
  (32, ce_li (ce_push (.inl (.inl (6))) 34)),
  (34, ce_li (ce_bin ce_subo 35)),
  (35, ce_li (ce_icmp false true false 3325 38)),
  (38, ce_li (ce_aload 0 39)),
  (39, ce_li (ce_iload 5 41)),
  (41, ce_li (ce_iald 42 41)),
  (42, ce_li (ce_push (.inl (.inl (63))) 44)),
  (44, ce_li (ce_bin ce_and 45)),
  (45, ce_li (ce_tsw 3319 [264, 334, 378, 434, 447, 527, 631, 689, 702, 746, 790, 834, 904, 996, 1064, 1132, 1188, 1244, 1300, 1384, 1468, 1524, 1592, 1674, 1742, 1798, 1866, 1960, 2028, 2124, 2228, 2241, 2254, 2324, 2380, 2436, 2504, 2560, 2628, 2684, 2752, 2832, 2900, 2980, 3036, 3049, 3105, 3118, 3175, 3241, 3306]))]
theorem tk_L_law_1 {nm : String} : ∀ x ∈ tb_L_law_1, P_L_law nm x.1 x.2 :=
  ce_fc (P := P_L_law nm) (ok_li (ok_iconst dL_law_25)) (
  ce_fc (P := P_L_law nm) (ok_li (ok_istore dL_law_26)) (
  ce_fc (P := P_L_law nm) (ok_li (ok_iload dL_law_28)) (
  ce_fc (P := P_L_law nm) (ok_li (ok_aload_n dL_law_30 rfl)) (
  ce_fc (P := P_L_law nm) (ok_li (ok_alen dL_law_31)) (
  ce_fc (P := P_L_law nm) (ok_li (ok_bipush dL_law_32 (by decide))) (
  ce_fc (P := P_L_law nm) (ok_li (ok_isub dL_law_34)) (
  ce_fc (P := P_L_law nm) (ok_li (ok_icmp_gt dL_law_35 (by decide))) (
  ce_fc (P := P_L_law nm) (ok_li (ok_aload_n dL_law_38 rfl)) (
  ce_fc (P := P_L_law nm) (ok_li (ok_iload dL_law_39)) (
  ce_fc (P := P_L_law nm) (ok_li (ok_iald dL_law_41)) (
  ce_fc (P := P_L_law nm) (ok_li (ok_bipush dL_law_42 (by decide))) (
  ce_fc (P := P_L_law nm) (ok_li (ok_iand dL_law_44)) (
  ce_fc (P := P_L_law nm) (ok_li (ok_tsw dL_law_45 (by decide) (by decide) (by decide))) (
  ce_fn (P := P_L_law nm)))))))))))))))
noncomputable def tb_L_law_2 : List (Nat × ce_N) := [(264, ce_li (ce_aload 1 265)),
  (265, ce_li (ce_aload 0 266)),
  (266, ce_li (ce_iload 5 268)),
  (268, ce_li (ce_push (.inl (.inl (1))) 269)),
  (269, ce_li (ce_bin ce_addo 270)),
  (270, ce_li (ce_iald 271 270)),
  (271, ce_li (ce_i2c 272)),
  (272, ce_li (ce_aload 0 273)),
  (273, ce_li (ce_iload 5 275)),
  (275, ce_li (ce_push (.inl (.inl (2))) 276)),
  (276, ce_li (ce_bin ce_addo 277)),
  (277, ce_li (ce_iald 278 277)),
  (278, ce_li (ce_aload 3 279)),
  (279, ce_call 4 1 6 282 (.inr false) F_L_addWall)]
theorem tk_L_law_2 {nm : String} : ∀ x ∈ tb_L_law_2, P_L_law nm x.1 x.2 :=
  ce_fc (P := P_L_law nm) (ok_li (ok_aload_n dL_law_264 rfl)) (
  ce_fc (P := P_L_law nm) (ok_li (ok_aload_n dL_law_265 rfl)) (
  ce_fc (P := P_L_law nm) (ok_li (ok_iload dL_law_266)) (
  ce_fc (P := P_L_law nm) (ok_li (ok_iconst dL_law_268)) (
  ce_fc (P := P_L_law nm) (ok_li (ok_iadd dL_law_269)) (
  ce_fc (P := P_L_law nm) (ok_li (ok_iald dL_law_270)) (
  ce_fc (P := P_L_law nm) (ok_li (ok_i2c dL_law_271)) (
  ce_fc (P := P_L_law nm) (ok_li (ok_aload_n dL_law_272 rfl)) (
  ce_fc (P := P_L_law nm) (ok_li (ok_iload dL_law_273)) (
  ce_fc (P := P_L_law nm) (ok_li (ok_iconst dL_law_275)) (
  ce_fc (P := P_L_law nm) (ok_li (ok_iadd dL_law_276)) (
  ce_fc (P := P_L_law nm) (ok_li (ok_iald dL_law_277)) (
  ce_fc (P := P_L_law nm) (ok_li (ok_aload_n dL_law_278 rfl)) (
  ce_fc (P := P_L_law nm) (ok_call (ru_SX m_L_addWall (by decide) (by decide) gw_715 gw_713 gw_714 gw_0 hp_L_addWall dL_law_279) ca_f) (
  ce_fn (P := P_L_law nm)))))))))))))))
noncomputable def tb_L_law_3 : List (Nat × ce_N) := [(282, ce_li (ce_istore 6 284 9)),
  (284, ce_li (ce_aload 2 285)),
  (285, ce_li (ce_aload 0 286)),
  (286, ce_li (ce_iload 5 288)),
  (288, ce_li (ce_push (.inl (.inl (1))) 289)),
  (289, ce_li (ce_bin ce_addo 290)),
  (290, ce_li (ce_iald 291 290)),
  (291, ce_li (ce_i2c 292)),
  (292, ce_li (ce_aload 0 293)),
  (293, ce_li (ce_iload 5 295)),
  (295, ce_li (ce_push (.inl (.inl (2))) 296)),
  (296, ce_li (ce_bin ce_addo 297)),
  (297, ce_li (ce_iald 298 297)),
  (298, ce_call 3 2 27 301 (.inr false) (ce_CV 20 F_X21_addWall))]
theorem tk_L_law_3 {nm : String} : ∀ x ∈ tb_L_law_3, P_L_law nm x.1 x.2 :=
  ce_fc (P := P_L_law nm) (ok_li (ok_istore dL_law_282)) (
  ce_fc (P := P_L_law nm) (ok_li (ok_aload_n dL_law_284 rfl)) (
  ce_fc (P := P_L_law nm) (ok_li (ok_aload_n dL_law_285 rfl)) (
  ce_fc (P := P_L_law nm) (ok_li (ok_iload dL_law_286)) (
  ce_fc (P := P_L_law nm) (ok_li (ok_iconst dL_law_288)) (
  ce_fc (P := P_L_law nm) (ok_li (ok_iadd dL_law_289)) (
  ce_fc (P := P_L_law nm) (ok_li (ok_iald dL_law_290)) (
  ce_fc (P := P_L_law nm) (ok_li (ok_i2c dL_law_291)) (
  ce_fc (P := P_L_law nm) (ok_li (ok_aload_n dL_law_292 rfl)) (
  ce_fc (P := P_L_law nm) (ok_li (ok_iload dL_law_293)) (
  ce_fc (P := P_L_law nm) (ok_li (ok_iconst dL_law_295)) (
  ce_fc (P := P_L_law nm) (ok_li (ok_iadd dL_law_296)) (
  ce_fc (P := P_L_law nm) (ok_li (ok_iald dL_law_297)) (
  ce_fc (P := P_L_law nm) (ok_call (ru_V (ci := 20) (C := RX21) (Tf := TX21) (N := 20) m_X21_addWall (by decide) (by decide) rfl gw_1590 gw_1587 gw_1588 gw_1589 gw_13 ⟨rfl, hp_X21_addWall⟩ dL_law_298) ca_f) (
  ce_fn (P := P_L_law nm)))))))))))))))
noncomputable def tb_L_law_4 : List (Nat × ce_N) := [(301, ce_li (ce_istore 7 303 9)),
  (303, ce_li (ce_aload 2 304)),
  (304, ce_call 1 0 0 307 (.inr false) (ce_CV 20 F_X21_thrown)),
  (307, ce_li (ce_iload 6 309)),
  (309, ce_li (ce_icmp true false false 314 312)),
  (314, ce_li (ce_iload 6 316)),
  (316, ce_li (ce_if true false true 331 319)),
  (319, ce_li (ce_aload 3 320)),
  (320, ce_li (ce_push (.inl (.inl (0))) 321)),
  (321, ce_li (ce_lald 322)),
  (322, ce_li (ce_iload 7 324)),
  (324, ce_li (ce_i2l 325)),
  (325, ce_li (ce_lcmp 326)),
  (326, ce_li (ce_if true false false 331 329))]
theorem tk_L_law_4 {nm : String} : ∀ x ∈ tb_L_law_4, P_L_law nm x.1 x.2 :=
  ce_fc (P := P_L_law nm) (ok_li (ok_istore dL_law_301)) (
  ce_fc (P := P_L_law nm) (ok_li (ok_aload_n dL_law_303 rfl)) (
  ce_fc (P := P_L_law nm) (ok_call (ru_V (ci := 20) (C := RX21) (Tf := TX21) (N := 20) m_X21_thrown (by decide) (by decide) rfl gw_1586 gw_1583 gw_1584 gw_1585 gw_13 ⟨rfl, hp_X21_thrown⟩ dL_law_304) ca_f) (
  ce_fc (P := P_L_law nm) (ok_li (ok_iload dL_law_307)) (
  ce_fc (P := P_L_law nm) (ok_li (ok_icmp_eq dL_law_309 (by decide))) (
  ce_fc (P := P_L_law nm) (ok_li (ok_iload dL_law_314)) (
  ce_fc (P := P_L_law nm) (ok_li (ok_if_ne dL_law_316 (by decide))) (
  ce_fc (P := P_L_law nm) (ok_li (ok_aload_n dL_law_319 rfl)) (
  ce_fc (P := P_L_law nm) (ok_li (ok_iconst dL_law_320)) (
  ce_fc (P := P_L_law nm) (ok_li (ok_lald dL_law_321)) (
  ce_fc (P := P_L_law nm) (ok_li (ok_iload dL_law_322)) (
  ce_fc (P := P_L_law nm) (ok_li (ok_i2l dL_law_324)) (
  ce_fc (P := P_L_law nm) (ok_li (ok_lcmp dL_law_325)) (
  ce_fc (P := P_L_law nm) (ok_li (ok_if_eq dL_law_326 (by decide))) (
  ce_fn (P := P_L_law nm)))))))))))))))
noncomputable def tb_L_law_5 : List (Nat × ce_N) := [(331, ce_li (ce_goto 3319)),
  (334, ce_li (ce_aload 1 335)),
  (335, ce_li (ce_aload 3 336)),
  (336, ce_call 2 1 6 339 (.inr false) F_L_close),
  (339, ce_li (ce_istore 6 341 9)),
  (341, ce_li (ce_aload 2 342)),
  (342, ce_call 1 0 0 345 (.inr false) (ce_CV 20 F_X21_close)),
  (345, ce_li (ce_istore 7 347 9)),
  (347, ce_li (ce_aload 2 348)),
  (348, ce_call 1 0 0 351 (.inr false) (ce_CV 20 F_X21_thrown)),
  (351, ce_li (ce_iload 6 353)),
  (353, ce_li (ce_icmp true false false 358 356)),
  (358, ce_li (ce_iload 6 360)),
  (360, ce_li (ce_if true false true 375 363))]
theorem tk_L_law_5 {nm : String} : ∀ x ∈ tb_L_law_5, P_L_law nm x.1 x.2 :=
  ce_fc (P := P_L_law nm) (ok_li (ok_goto dL_law_331 (by decide))) (
  ce_fc (P := P_L_law nm) (ok_li (ok_aload_n dL_law_334 rfl)) (
  ce_fc (P := P_L_law nm) (ok_li (ok_aload_n dL_law_335 rfl)) (
  ce_fc (P := P_L_law nm) (ok_call (ru_SX m_L_close (by decide) (by decide) gw_761 gw_759 gw_760 gw_0 hp_L_close dL_law_336) ca_f) (
  ce_fc (P := P_L_law nm) (ok_li (ok_istore dL_law_339)) (
  ce_fc (P := P_L_law nm) (ok_li (ok_aload_n dL_law_341 rfl)) (
  ce_fc (P := P_L_law nm) (ok_call (ru_V (ci := 20) (C := RX21) (Tf := TX21) (N := 20) m_X21_close (by decide) (by decide) rfl gw_1788 gw_1785 gw_1786 gw_1787 gw_13 ⟨rfl, hp_X21_close⟩ dL_law_342) ca_f) (
  ce_fc (P := P_L_law nm) (ok_li (ok_istore dL_law_345)) (
  ce_fc (P := P_L_law nm) (ok_li (ok_aload_n dL_law_347 rfl)) (
  ce_fc (P := P_L_law nm) (ok_call (ru_V (ci := 20) (C := RX21) (Tf := TX21) (N := 20) m_X21_thrown (by decide) (by decide) rfl gw_1586 gw_1583 gw_1584 gw_1585 gw_13 ⟨rfl, hp_X21_thrown⟩ dL_law_348) ca_f) (
  ce_fc (P := P_L_law nm) (ok_li (ok_iload dL_law_351)) (
  ce_fc (P := P_L_law nm) (ok_li (ok_icmp_eq dL_law_353 (by decide))) (
  ce_fc (P := P_L_law nm) (ok_li (ok_iload dL_law_358)) (
  ce_fc (P := P_L_law nm) (ok_li (ok_if_ne dL_law_360 (by decide))) (
  ce_fn (P := P_L_law nm)))))))))))))))
noncomputable def tb_L_law_6 : List (Nat × ce_N) := [(375, ce_li (ce_goto 3319)),
  (378, ce_li (ce_aload 1 379)),
  (379, ce_li (ce_aload 0 380)),
  (380, ce_li (ce_iload 5 382)),
  (382, ce_li (ce_push (.inl (.inl (1))) 383)),
  (383, ce_li (ce_bin ce_addo 384)),
  (384, ce_li (ce_iald 385 384)),
  (385, ce_li (ce_aload 3 386)),
  (386, ce_call 3 1 6 389 (.inr false) F_L_lengthOf),
  (389, ce_li (ce_istore 6 391 9)),
  (391, ce_li (ce_aload 2 392)),
  (392, ce_li (ce_aload 0 393)),
  (393, ce_li (ce_iload 5 395)),
  (395, ce_li (ce_push (.inl (.inl (1))) 396))]
theorem tk_L_law_6 {nm : String} : ∀ x ∈ tb_L_law_6, P_L_law nm x.1 x.2 :=
  ce_fc (P := P_L_law nm) (ok_li (ok_goto dL_law_375 (by decide))) (
  ce_fc (P := P_L_law nm) (ok_li (ok_aload_n dL_law_378 rfl)) (
  ce_fc (P := P_L_law nm) (ok_li (ok_aload_n dL_law_379 rfl)) (
  ce_fc (P := P_L_law nm) (ok_li (ok_iload dL_law_380)) (
  ce_fc (P := P_L_law nm) (ok_li (ok_iconst dL_law_382)) (
  ce_fc (P := P_L_law nm) (ok_li (ok_iadd dL_law_383)) (
  ce_fc (P := P_L_law nm) (ok_li (ok_iald dL_law_384)) (
  ce_fc (P := P_L_law nm) (ok_li (ok_aload_n dL_law_385 rfl)) (
  ce_fc (P := P_L_law nm) (ok_call (ru_SX m_L_lengthOf (by decide) (by decide) gw_809 gw_807 gw_808 gw_0 hp_L_lengthOf dL_law_386) ca_f) (
  ce_fc (P := P_L_law nm) (ok_li (ok_istore dL_law_389)) (
  ce_fc (P := P_L_law nm) (ok_li (ok_aload_n dL_law_391 rfl)) (
  ce_fc (P := P_L_law nm) (ok_li (ok_aload_n dL_law_392 rfl)) (
  ce_fc (P := P_L_law nm) (ok_li (ok_iload dL_law_393)) (
  ce_fc (P := P_L_law nm) (ok_li (ok_iconst dL_law_395)) (
  ce_fn (P := P_L_law nm)))))))))))))))
noncomputable def tb_L_law_7 : List (Nat × ce_N) := [(396, ce_li (ce_bin ce_addo 397)),
  (397, ce_li (ce_iald 398 397)),
  (398, ce_call 2 0 0 401 (.inr false) (ce_CV 20 F_X21_lengthOf)),
  (401, ce_li (ce_istore 7 403 9)),
  (403, ce_li (ce_aload 2 404)),
  (404, ce_call 1 0 0 407 (.inr false) (ce_CV 20 F_X21_thrown)),
  (407, ce_li (ce_iload 6 409)),
  (409, ce_li (ce_icmp true false false 414 412)),
  (414, ce_li (ce_iload 6 416)),
  (416, ce_li (ce_if true false true 431 419)),
  (431, ce_li (ce_goto 3319)),
  (434, ce_li (ce_aload 1 435)),
  (435, ce_call 1 0 0 438 (.inr false) (ce_CV 15 F_X11_isClosedRoom)),
  (438, ce_li (ce_aload 2 439))]
theorem tk_L_law_7 {nm : String} : ∀ x ∈ tb_L_law_7, P_L_law nm x.1 x.2 :=
  ce_fc (P := P_L_law nm) (ok_li (ok_iadd dL_law_396)) (
  ce_fc (P := P_L_law nm) (ok_li (ok_iald dL_law_397)) (
  ce_fc (P := P_L_law nm) (ok_call (ru_V (ci := 20) (C := RX21) (Tf := TX21) (N := 20) m_X21_lengthOf (by decide) (by decide) rfl gw_1872 gw_1869 gw_1870 gw_1871 gw_13 ⟨rfl, hp_X21_lengthOf⟩ dL_law_398) ca_f) (
  ce_fc (P := P_L_law nm) (ok_li (ok_istore dL_law_401)) (
  ce_fc (P := P_L_law nm) (ok_li (ok_aload_n dL_law_403 rfl)) (
  ce_fc (P := P_L_law nm) (ok_call (ru_V (ci := 20) (C := RX21) (Tf := TX21) (N := 20) m_X21_thrown (by decide) (by decide) rfl gw_1586 gw_1583 gw_1584 gw_1585 gw_13 ⟨rfl, hp_X21_thrown⟩ dL_law_404) ca_f) (
  ce_fc (P := P_L_law nm) (ok_li (ok_iload dL_law_407)) (
  ce_fc (P := P_L_law nm) (ok_li (ok_icmp_eq dL_law_409 (by decide))) (
  ce_fc (P := P_L_law nm) (ok_li (ok_iload dL_law_414)) (
  ce_fc (P := P_L_law nm) (ok_li (ok_if_ne dL_law_416 (by decide))) (
  ce_fc (P := P_L_law nm) (ok_li (ok_goto dL_law_431 (by decide))) (
  ce_fc (P := P_L_law nm) (ok_li (ok_aload_n dL_law_434 rfl)) (
  ce_fc (P := P_L_law nm) (ok_call (ru_V (ci := 15) (C := RX11) (Tf := TX11) (N := 7) m_X11_isClosedRoom (by decide) (by decide) rfl gw_479 gw_476 gw_477 gw_478 gw_1 ⟨rfl, hp_X11_isClosedRoom⟩ dL_law_435) ca_f) (
  ce_fc (P := P_L_law nm) (ok_li (ok_aload_n dL_law_438 rfl)) (
  ce_fn (P := P_L_law nm)))))))))))))))
noncomputable def tb_L_law_8 : List (Nat × ce_N) := [(439, ce_call 1 0 0 442 (.inr false) (ce_CV 20 F_X21_isClosedRoom)),
  (442, ce_li (ce_icmp true false false 3319 445)),
  (447, ce_li (ce_aload 1 448)),
  (448, ce_li (ce_aload 0 449)),
  (449, ce_li (ce_iload 5 451)),
  (451, ce_li (ce_push (.inl (.inl (1))) 452)),
  (452, ce_li (ce_bin ce_addo 453)),
  (453, ce_li (ce_iald 454 453)),
  (454, ce_li (ce_aload 0 455)),
  (455, ce_li (ce_iload 5 457)),
  (457, ce_li (ce_push (.inl (.inl (2))) 458)),
  (458, ce_li (ce_bin ce_addo 459)),
  (459, ce_li (ce_iald 460 459)),
  (460, ce_li (ce_aload 0 461))]
theorem tk_L_law_8 {nm : String} : ∀ x ∈ tb_L_law_8, P_L_law nm x.1 x.2 :=
  ce_fc (P := P_L_law nm) (ok_call (ru_V (ci := 20) (C := RX21) (Tf := TX21) (N := 20) m_X21_isClosedRoom (by decide) (by decide) rfl gw_1880 gw_1877 gw_1878 gw_1879 gw_13 ⟨rfl, hp_X21_isClosedRoom⟩ dL_law_439) ca_f) (
  ce_fc (P := P_L_law nm) (ok_li (ok_icmp_eq dL_law_442 (by decide))) (
  ce_fc (P := P_L_law nm) (ok_li (ok_aload_n dL_law_447 rfl)) (
  ce_fc (P := P_L_law nm) (ok_li (ok_aload_n dL_law_448 rfl)) (
  ce_fc (P := P_L_law nm) (ok_li (ok_iload dL_law_449)) (
  ce_fc (P := P_L_law nm) (ok_li (ok_iconst dL_law_451)) (
  ce_fc (P := P_L_law nm) (ok_li (ok_iadd dL_law_452)) (
  ce_fc (P := P_L_law nm) (ok_li (ok_iald dL_law_453)) (
  ce_fc (P := P_L_law nm) (ok_li (ok_aload_n dL_law_454 rfl)) (
  ce_fc (P := P_L_law nm) (ok_li (ok_iload dL_law_455)) (
  ce_fc (P := P_L_law nm) (ok_li (ok_iconst dL_law_457)) (
  ce_fc (P := P_L_law nm) (ok_li (ok_iadd dL_law_458)) (
  ce_fc (P := P_L_law nm) (ok_li (ok_iald dL_law_459)) (
  ce_fc (P := P_L_law nm) (ok_li (ok_aload_n dL_law_460 rfl)) (
  ce_fn (P := P_L_law nm)))))))))))))))
noncomputable def tb_L_law_9 : List (Nat × ce_N) := [(461, ce_li (ce_iload 5 463)),
  (463, ce_li (ce_push (.inl (.inl (3))) 464)),
  (464, ce_li (ce_bin ce_addo 465)),
  (465, ce_li (ce_iald 466 465)),
  (466, ce_li (ce_aload 3 467)),
  (467, ce_call 5 1 6 470 (.inr false) F_L_setOff),
  (470, ce_li (ce_istore 6 472 9)),
  (472, ce_li (ce_aload 2 473)),
  (473, ce_li (ce_aload 0 474)),
  (474, ce_li (ce_iload 5 476)),
  (476, ce_li (ce_push (.inl (.inl (1))) 477)),
  (477, ce_li (ce_bin ce_addo 478)),
  (478, ce_li (ce_iald 479 478)),
  (479, ce_li (ce_aload 0 480))]
theorem tk_L_law_9 {nm : String} : ∀ x ∈ tb_L_law_9, P_L_law nm x.1 x.2 :=
  ce_fc (P := P_L_law nm) (ok_li (ok_iload dL_law_461)) (
  ce_fc (P := P_L_law nm) (ok_li (ok_iconst dL_law_463)) (
  ce_fc (P := P_L_law nm) (ok_li (ok_iadd dL_law_464)) (
  ce_fc (P := P_L_law nm) (ok_li (ok_iald dL_law_465)) (
  ce_fc (P := P_L_law nm) (ok_li (ok_aload_n dL_law_466 rfl)) (
  ce_fc (P := P_L_law nm) (ok_call (ru_SX m_L_setOff (by decide) (by decide) gw_818 gw_816 gw_817 gw_0 hp_L_setOff dL_law_467) ca_f) (
  ce_fc (P := P_L_law nm) (ok_li (ok_istore dL_law_470)) (
  ce_fc (P := P_L_law nm) (ok_li (ok_aload_n dL_law_472 rfl)) (
  ce_fc (P := P_L_law nm) (ok_li (ok_aload_n dL_law_473 rfl)) (
  ce_fc (P := P_L_law nm) (ok_li (ok_iload dL_law_474)) (
  ce_fc (P := P_L_law nm) (ok_li (ok_iconst dL_law_476)) (
  ce_fc (P := P_L_law nm) (ok_li (ok_iadd dL_law_477)) (
  ce_fc (P := P_L_law nm) (ok_li (ok_iald dL_law_478)) (
  ce_fc (P := P_L_law nm) (ok_li (ok_aload_n dL_law_479 rfl)) (
  ce_fn (P := P_L_law nm)))))))))))))))
noncomputable def tb_L_law_10 : List (Nat × ce_N) := [(480, ce_li (ce_iload 5 482)),
  (482, ce_li (ce_push (.inl (.inl (2))) 483)),
  (483, ce_li (ce_bin ce_addo 484)),
  (484, ce_li (ce_iald 485 484)),
  (485, ce_li (ce_aload 0 486)),
  (486, ce_li (ce_iload 5 488)),
  (488, ce_li (ce_push (.inl (.inl (3))) 489)),
  (489, ce_li (ce_bin ce_addo 490)),
  (490, ce_li (ce_iald 491 490)),
  (491, ce_call 4 0 0 494 (.inr false) (ce_CV 20 F_X21_setOff)),
  (494, ce_li (ce_istore 7 496 9)),
  (496, ce_li (ce_aload 2 497)),
  (497, ce_call 1 0 0 500 (.inr false) (ce_CV 20 F_X21_thrown)),
  (500, ce_li (ce_iload 6 502))]
theorem tk_L_law_10 {nm : String} : ∀ x ∈ tb_L_law_10, P_L_law nm x.1 x.2 :=
  ce_fc (P := P_L_law nm) (ok_li (ok_iload dL_law_480)) (
  ce_fc (P := P_L_law nm) (ok_li (ok_iconst dL_law_482)) (
  ce_fc (P := P_L_law nm) (ok_li (ok_iadd dL_law_483)) (
  ce_fc (P := P_L_law nm) (ok_li (ok_iald dL_law_484)) (
  ce_fc (P := P_L_law nm) (ok_li (ok_aload_n dL_law_485 rfl)) (
  ce_fc (P := P_L_law nm) (ok_li (ok_iload dL_law_486)) (
  ce_fc (P := P_L_law nm) (ok_li (ok_iconst dL_law_488)) (
  ce_fc (P := P_L_law nm) (ok_li (ok_iadd dL_law_489)) (
  ce_fc (P := P_L_law nm) (ok_li (ok_iald dL_law_490)) (
  ce_fc (P := P_L_law nm) (ok_call (ru_V (ci := 20) (C := RX21) (Tf := TX21) (N := 20) m_X21_setOff (by decide) (by decide) rfl gw_1888 gw_1885 gw_1886 gw_1887 gw_13 ⟨rfl, hp_X21_setOff⟩ dL_law_491) ca_f) (
  ce_fc (P := P_L_law nm) (ok_li (ok_istore dL_law_494)) (
  ce_fc (P := P_L_law nm) (ok_li (ok_aload_n dL_law_496 rfl)) (
  ce_fc (P := P_L_law nm) (ok_call (ru_V (ci := 20) (C := RX21) (Tf := TX21) (N := 20) m_X21_thrown (by decide) (by decide) rfl gw_1586 gw_1583 gw_1584 gw_1585 gw_13 ⟨rfl, hp_X21_thrown⟩ dL_law_497) ca_f) (
  ce_fc (P := P_L_law nm) (ok_li (ok_iload dL_law_500)) (
  ce_fn (P := P_L_law nm)))))))))))))))
noncomputable def tb_L_law_11 : List (Nat × ce_N) := [(502, ce_li (ce_icmp true false false 507 505)),
  (507, ce_li (ce_iload 6 509)),
  (509, ce_li (ce_if true false true 524 512)),
  (524, ce_li (ce_goto 3319)),
  (527, ce_li (ce_aload 1 528)),
  (528, ce_li (ce_aload 0 529)),
  (529, ce_li (ce_iload 5 531)),
  (531, ce_li (ce_push (.inl (.inl (1))) 532)),
  (532, ce_li (ce_bin ce_addo 533)),
  (533, ce_li (ce_iald 534 533)),
  (534, ce_li (ce_aload 0 535)),
  (535, ce_li (ce_iload 5 537)),
  (537, ce_li (ce_push (.inl (.inl (2))) 538)),
  (538, ce_li (ce_bin ce_addo 539))]
theorem tk_L_law_11 {nm : String} : ∀ x ∈ tb_L_law_11, P_L_law nm x.1 x.2 :=
  ce_fc (P := P_L_law nm) (ok_li (ok_icmp_eq dL_law_502 (by decide))) (
  ce_fc (P := P_L_law nm) (ok_li (ok_iload dL_law_507)) (
  ce_fc (P := P_L_law nm) (ok_li (ok_if_ne dL_law_509 (by decide))) (
  ce_fc (P := P_L_law nm) (ok_li (ok_goto dL_law_524 (by decide))) (
  ce_fc (P := P_L_law nm) (ok_li (ok_aload_n dL_law_527 rfl)) (
  ce_fc (P := P_L_law nm) (ok_li (ok_aload_n dL_law_528 rfl)) (
  ce_fc (P := P_L_law nm) (ok_li (ok_iload dL_law_529)) (
  ce_fc (P := P_L_law nm) (ok_li (ok_iconst dL_law_531)) (
  ce_fc (P := P_L_law nm) (ok_li (ok_iadd dL_law_532)) (
  ce_fc (P := P_L_law nm) (ok_li (ok_iald dL_law_533)) (
  ce_fc (P := P_L_law nm) (ok_li (ok_aload_n dL_law_534 rfl)) (
  ce_fc (P := P_L_law nm) (ok_li (ok_iload dL_law_535)) (
  ce_fc (P := P_L_law nm) (ok_li (ok_iconst dL_law_537)) (
  ce_fc (P := P_L_law nm) (ok_li (ok_iadd dL_law_538)) (
  ce_fn (P := P_L_law nm)))))))))))))))
noncomputable def tb_L_law_12 : List (Nat × ce_N) := [(539, ce_li (ce_iald 540 539)),
  (540, ce_li (ce_aload 0 541)),
  (541, ce_li (ce_iload 5 543)),
  (543, ce_li (ce_push (.inl (.inl (3))) 544)),
  (544, ce_li (ce_bin ce_addo 545)),
  (545, ce_li (ce_iald 546 545)),
  (546, ce_li (ce_aload 0 547)),
  (547, ce_li (ce_iload 5 549)),
  (549, ce_li (ce_push (.inl (.inl (4))) 550)),
  (550, ce_li (ce_bin ce_addo 551)),
  (551, ce_li (ce_iald 552 551)),
  (552, ce_li (ce_aload 0 553)),
  (553, ce_li (ce_iload 5 555)),
  (555, ce_li (ce_push (.inl (.inl (5))) 556))]
theorem tk_L_law_12 {nm : String} : ∀ x ∈ tb_L_law_12, P_L_law nm x.1 x.2 :=
  ce_fc (P := P_L_law nm) (ok_li (ok_iald dL_law_539)) (
  ce_fc (P := P_L_law nm) (ok_li (ok_aload_n dL_law_540 rfl)) (
  ce_fc (P := P_L_law nm) (ok_li (ok_iload dL_law_541)) (
  ce_fc (P := P_L_law nm) (ok_li (ok_iconst dL_law_543)) (
  ce_fc (P := P_L_law nm) (ok_li (ok_iadd dL_law_544)) (
  ce_fc (P := P_L_law nm) (ok_li (ok_iald dL_law_545)) (
  ce_fc (P := P_L_law nm) (ok_li (ok_aload_n dL_law_546 rfl)) (
  ce_fc (P := P_L_law nm) (ok_li (ok_iload dL_law_547)) (
  ce_fc (P := P_L_law nm) (ok_li (ok_iconst dL_law_549)) (
  ce_fc (P := P_L_law nm) (ok_li (ok_iadd dL_law_550)) (
  ce_fc (P := P_L_law nm) (ok_li (ok_iald dL_law_551)) (
  ce_fc (P := P_L_law nm) (ok_li (ok_aload_n dL_law_552 rfl)) (
  ce_fc (P := P_L_law nm) (ok_li (ok_iload dL_law_553)) (
  ce_fc (P := P_L_law nm) (ok_li (ok_iconst dL_law_555)) (
  ce_fn (P := P_L_law nm)))))))))))))))
noncomputable def tb_L_law_13 : List (Nat × ce_N) := [(556, ce_li (ce_bin ce_addo 557)),
  (557, ce_li (ce_iald 558 557)),
  (558, ce_li (ce_aload 3 559)),
  (559, ce_call 7 1 6 562 (.inr false) F_L_obstacle),
  (562, ce_li (ce_istore 6 564 9)),
  (564, ce_li (ce_aload 2 565)),
  (565, ce_li (ce_aload 0 566)),
  (566, ce_li (ce_iload 5 568)),
  (568, ce_li (ce_push (.inl (.inl (1))) 569)),
  (569, ce_li (ce_bin ce_addo 570)),
  (570, ce_li (ce_iald 571 570)),
  (571, ce_li (ce_aload 0 572)),
  (572, ce_li (ce_iload 5 574)),
  (574, ce_li (ce_push (.inl (.inl (2))) 575))]
theorem tk_L_law_13 {nm : String} : ∀ x ∈ tb_L_law_13, P_L_law nm x.1 x.2 :=
  ce_fc (P := P_L_law nm) (ok_li (ok_iadd dL_law_556)) (
  ce_fc (P := P_L_law nm) (ok_li (ok_iald dL_law_557)) (
  ce_fc (P := P_L_law nm) (ok_li (ok_aload_n dL_law_558 rfl)) (
  ce_fc (P := P_L_law nm) (ok_call (ru_SX m_L_obstacle (by decide) (by decide) gw_825 gw_823 gw_824 gw_0 hp_L_obstacle dL_law_559) ca_f) (
  ce_fc (P := P_L_law nm) (ok_li (ok_istore dL_law_562)) (
  ce_fc (P := P_L_law nm) (ok_li (ok_aload_n dL_law_564 rfl)) (
  ce_fc (P := P_L_law nm) (ok_li (ok_aload_n dL_law_565 rfl)) (
  ce_fc (P := P_L_law nm) (ok_li (ok_iload dL_law_566)) (
  ce_fc (P := P_L_law nm) (ok_li (ok_iconst dL_law_568)) (
  ce_fc (P := P_L_law nm) (ok_li (ok_iadd dL_law_569)) (
  ce_fc (P := P_L_law nm) (ok_li (ok_iald dL_law_570)) (
  ce_fc (P := P_L_law nm) (ok_li (ok_aload_n dL_law_571 rfl)) (
  ce_fc (P := P_L_law nm) (ok_li (ok_iload dL_law_572)) (
  ce_fc (P := P_L_law nm) (ok_li (ok_iconst dL_law_574)) (
  ce_fn (P := P_L_law nm)))))))))))))))
noncomputable def tb_L_law_14 : List (Nat × ce_N) := [(575, ce_li (ce_bin ce_addo 576)),
  (576, ce_li (ce_iald 577 576)),
  (577, ce_li (ce_aload 0 578)),
  (578, ce_li (ce_iload 5 580)),
  (580, ce_li (ce_push (.inl (.inl (3))) 581)),
  (581, ce_li (ce_bin ce_addo 582)),
  (582, ce_li (ce_iald 583 582)),
  (583, ce_li (ce_aload 0 584)),
  (584, ce_li (ce_iload 5 586)),
  (586, ce_li (ce_push (.inl (.inl (4))) 587)),
  (587, ce_li (ce_bin ce_addo 588)),
  (588, ce_li (ce_iald 589 588)),
  (589, ce_li (ce_aload 0 590)),
  (590, ce_li (ce_iload 5 592))]
theorem tk_L_law_14 {nm : String} : ∀ x ∈ tb_L_law_14, P_L_law nm x.1 x.2 :=
  ce_fc (P := P_L_law nm) (ok_li (ok_iadd dL_law_575)) (
  ce_fc (P := P_L_law nm) (ok_li (ok_iald dL_law_576)) (
  ce_fc (P := P_L_law nm) (ok_li (ok_aload_n dL_law_577 rfl)) (
  ce_fc (P := P_L_law nm) (ok_li (ok_iload dL_law_578)) (
  ce_fc (P := P_L_law nm) (ok_li (ok_iconst dL_law_580)) (
  ce_fc (P := P_L_law nm) (ok_li (ok_iadd dL_law_581)) (
  ce_fc (P := P_L_law nm) (ok_li (ok_iald dL_law_582)) (
  ce_fc (P := P_L_law nm) (ok_li (ok_aload_n dL_law_583 rfl)) (
  ce_fc (P := P_L_law nm) (ok_li (ok_iload dL_law_584)) (
  ce_fc (P := P_L_law nm) (ok_li (ok_iconst dL_law_586)) (
  ce_fc (P := P_L_law nm) (ok_li (ok_iadd dL_law_587)) (
  ce_fc (P := P_L_law nm) (ok_li (ok_iald dL_law_588)) (
  ce_fc (P := P_L_law nm) (ok_li (ok_aload_n dL_law_589 rfl)) (
  ce_fc (P := P_L_law nm) (ok_li (ok_iload dL_law_590)) (
  ce_fn (P := P_L_law nm)))))))))))))))
noncomputable def tb_L_law_15 : List (Nat × ce_N) := [(592, ce_li (ce_push (.inl (.inl (5))) 593)),
  (593, ce_li (ce_bin ce_addo 594)),
  (594, ce_li (ce_iald 595 594)),
  (595, ce_call 6 0 0 598 (.inr false) (ce_CV 20 F_X21_obstacle)),
  (598, ce_li (ce_istore 7 600 9)),
  (600, ce_li (ce_aload 2 601)),
  (601, ce_call 1 0 0 604 (.inr false) (ce_CV 20 F_X21_thrown)),
  (604, ce_li (ce_iload 6 606)),
  (606, ce_li (ce_icmp true false false 611 609)),
  (611, ce_li (ce_iload 6 613)),
  (613, ce_li (ce_if true false true 628 616)),
  (628, ce_li (ce_goto 3319)),
  (631, ce_li (ce_aload 1 632)),
  (632, ce_li (ce_aload 0 633))]
theorem tk_L_law_15 {nm : String} : ∀ x ∈ tb_L_law_15, P_L_law nm x.1 x.2 :=
  ce_fc (P := P_L_law nm) (ok_li (ok_iconst dL_law_592)) (
  ce_fc (P := P_L_law nm) (ok_li (ok_iadd dL_law_593)) (
  ce_fc (P := P_L_law nm) (ok_li (ok_iald dL_law_594)) (
  ce_fc (P := P_L_law nm) (ok_call (ru_V (ci := 20) (C := RX21) (Tf := TX21) (N := 20) m_X21_obstacle (by decide) (by decide) rfl gw_1892 gw_1889 gw_1890 gw_1891 gw_13 ⟨rfl, hp_X21_obstacle⟩ dL_law_595) ca_f) (
  ce_fc (P := P_L_law nm) (ok_li (ok_istore dL_law_598)) (
  ce_fc (P := P_L_law nm) (ok_li (ok_aload_n dL_law_600 rfl)) (
  ce_fc (P := P_L_law nm) (ok_call (ru_V (ci := 20) (C := RX21) (Tf := TX21) (N := 20) m_X21_thrown (by decide) (by decide) rfl gw_1586 gw_1583 gw_1584 gw_1585 gw_13 ⟨rfl, hp_X21_thrown⟩ dL_law_601) ca_f) (
  ce_fc (P := P_L_law nm) (ok_li (ok_iload dL_law_604)) (
  ce_fc (P := P_L_law nm) (ok_li (ok_icmp_eq dL_law_606 (by decide))) (
  ce_fc (P := P_L_law nm) (ok_li (ok_iload dL_law_611)) (
  ce_fc (P := P_L_law nm) (ok_li (ok_if_ne dL_law_613 (by decide))) (
  ce_fc (P := P_L_law nm) (ok_li (ok_goto dL_law_628 (by decide))) (
  ce_fc (P := P_L_law nm) (ok_li (ok_aload_n dL_law_631 rfl)) (
  ce_fc (P := P_L_law nm) (ok_li (ok_aload_n dL_law_632 rfl)) (
  ce_fn (P := P_L_law nm)))))))))))))))
noncomputable def tb_L_law_16 : List (Nat × ce_N) := [(633, ce_li (ce_iload 5 635)),
  (635, ce_li (ce_push (.inl (.inl (1))) 636)),
  (636, ce_li (ce_bin ce_addo 637)),
  (637, ce_li (ce_iald 638 637)),
  (638, ce_li (ce_i2c 639)),
  (639, ce_li (ce_aload 3 640)),
  (640, ce_call 3 0 0 643 (.inr false) F_L_type),
  (643, ce_li (ce_istore 6 645 9)),
  (645, ce_li (ce_aload 2 646)),
  (646, ce_li (ce_aload 0 647)),
  (647, ce_li (ce_iload 5 649)),
  (649, ce_li (ce_push (.inl (.inl (1))) 650)),
  (650, ce_li (ce_bin ce_addo 651)),
  (651, ce_li (ce_iald 652 651))]
theorem tk_L_law_16 {nm : String} : ∀ x ∈ tb_L_law_16, P_L_law nm x.1 x.2 :=
  ce_fc (P := P_L_law nm) (ok_li (ok_iload dL_law_633)) (
  ce_fc (P := P_L_law nm) (ok_li (ok_iconst dL_law_635)) (
  ce_fc (P := P_L_law nm) (ok_li (ok_iadd dL_law_636)) (
  ce_fc (P := P_L_law nm) (ok_li (ok_iald dL_law_637)) (
  ce_fc (P := P_L_law nm) (ok_li (ok_i2c dL_law_638)) (
  ce_fc (P := P_L_law nm) (ok_li (ok_aload_n dL_law_639 rfl)) (
  ce_fc (P := P_L_law nm) (ok_call (ru_SX m_L_type (by decide) (by decide) gw_836 gw_834 gw_835 gw_0 hp_L_type dL_law_640) ca_f) (
  ce_fc (P := P_L_law nm) (ok_li (ok_istore dL_law_643)) (
  ce_fc (P := P_L_law nm) (ok_li (ok_aload_n dL_law_645 rfl)) (
  ce_fc (P := P_L_law nm) (ok_li (ok_aload_n dL_law_646 rfl)) (
  ce_fc (P := P_L_law nm) (ok_li (ok_iload dL_law_647)) (
  ce_fc (P := P_L_law nm) (ok_li (ok_iconst dL_law_649)) (
  ce_fc (P := P_L_law nm) (ok_li (ok_iadd dL_law_650)) (
  ce_fc (P := P_L_law nm) (ok_li (ok_iald dL_law_651)) (
  ce_fn (P := P_L_law nm)))))))))))))))
noncomputable def tb_L_law_17 : List (Nat × ce_N) := [(652, ce_li (ce_i2c 653)),
  (653, ce_call 2 12 180 656 (.inr false) (ce_CV 20 F_X21_type)),
  (656, ce_li (ce_istore 7 658 9)),
  (658, ce_li (ce_aload 2 659)),
  (659, ce_call 1 0 0 662 (.inr false) (ce_CV 20 F_X21_thrown)),
  (662, ce_li (ce_iload 6 664)),
  (664, ce_li (ce_icmp true false false 669 667)),
  (669, ce_li (ce_iload 6 671)),
  (671, ce_li (ce_if true false true 686 674)),
  (674, ce_li (ce_aload 3 675)),
  (675, ce_li (ce_push (.inl (.inl (0))) 676)),
  (676, ce_li (ce_lald 677)),
  (677, ce_li (ce_iload 7 679)),
  (679, ce_li (ce_i2l 680))]
theorem tk_L_law_17 {nm : String} : ∀ x ∈ tb_L_law_17, P_L_law nm x.1 x.2 :=
  ce_fc (P := P_L_law nm) (ok_li (ok_i2c dL_law_652)) (
  ce_fc (P := P_L_law nm) (ok_call (ru_V (ci := 20) (C := RX21) (Tf := TX21) (N := 20) m_X21_type (by decide) (by decide) rfl gw_1923 gw_1920 gw_1921 gw_1922 gw_13 ⟨rfl, hp_X21_type⟩ dL_law_653) ca_f) (
  ce_fc (P := P_L_law nm) (ok_li (ok_istore dL_law_656)) (
  ce_fc (P := P_L_law nm) (ok_li (ok_aload_n dL_law_658 rfl)) (
  ce_fc (P := P_L_law nm) (ok_call (ru_V (ci := 20) (C := RX21) (Tf := TX21) (N := 20) m_X21_thrown (by decide) (by decide) rfl gw_1586 gw_1583 gw_1584 gw_1585 gw_13 ⟨rfl, hp_X21_thrown⟩ dL_law_659) ca_f) (
  ce_fc (P := P_L_law nm) (ok_li (ok_iload dL_law_662)) (
  ce_fc (P := P_L_law nm) (ok_li (ok_icmp_eq dL_law_664 (by decide))) (
  ce_fc (P := P_L_law nm) (ok_li (ok_iload dL_law_669)) (
  ce_fc (P := P_L_law nm) (ok_li (ok_if_ne dL_law_671 (by decide))) (
  ce_fc (P := P_L_law nm) (ok_li (ok_aload_n dL_law_674 rfl)) (
  ce_fc (P := P_L_law nm) (ok_li (ok_iconst dL_law_675)) (
  ce_fc (P := P_L_law nm) (ok_li (ok_lald dL_law_676)) (
  ce_fc (P := P_L_law nm) (ok_li (ok_iload dL_law_677)) (
  ce_fc (P := P_L_law nm) (ok_li (ok_i2l dL_law_679)) (
  ce_fn (P := P_L_law nm)))))))))))))))
noncomputable def tb_L_law_18 : List (Nat × ce_N) := [(680, ce_li (ce_lcmp 681)),
  (681, ce_li (ce_if true false false 686 684)),
  (686, ce_li (ce_goto 3319)),
  (689, ce_li (ce_aload 1 690)),
  (690, ce_call 1 0 0 693 (.inr false) (ce_CV 15 F_X11_wipe)),
  (693, ce_li (ce_aload 2 694)),
  (694, ce_call 1 0 0 697 (.inr false) (ce_CV 20 F_X21_wipe)),
  (697, ce_li (ce_icmp true false false 3319 700)),
  (702, ce_li (ce_aload 1 703)),
  (703, ce_li (ce_aload 3 704)),
  (704, ce_call 2 0 0 707 (.inr false) F_L_fault),
  (707, ce_li (ce_istore 6 709 9)),
  (709, ce_li (ce_aload 2 710)),
  (710, ce_call 1 1 5 713 (.inr false) (ce_CV 20 F_X21_fault))]
theorem tk_L_law_18 {nm : String} : ∀ x ∈ tb_L_law_18, P_L_law nm x.1 x.2 :=
  ce_fc (P := P_L_law nm) (ok_li (ok_lcmp dL_law_680)) (
  ce_fc (P := P_L_law nm) (ok_li (ok_if_eq dL_law_681 (by decide))) (
  ce_fc (P := P_L_law nm) (ok_li (ok_goto dL_law_686 (by decide))) (
  ce_fc (P := P_L_law nm) (ok_li (ok_aload_n dL_law_689 rfl)) (
  ce_fc (P := P_L_law nm) (ok_call (ru_V (ci := 15) (C := RX11) (Tf := TX11) (N := 7) m_X11_wipe (by decide) (by decide) rfl gw_557 gw_554 gw_555 gw_556 gw_1 ⟨rfl, hp_X11_wipe⟩ dL_law_690) ca_f) (
  ce_fc (P := P_L_law nm) (ok_li (ok_aload_n dL_law_693 rfl)) (
  ce_fc (P := P_L_law nm) (ok_call (ru_V (ci := 20) (C := RX21) (Tf := TX21) (N := 20) m_X21_wipe (by decide) (by decide) rfl gw_2155 gw_2152 gw_2153 gw_2154 gw_13 ⟨rfl, hp_X21_wipe⟩ dL_law_694) ca_f) (
  ce_fc (P := P_L_law nm) (ok_li (ok_icmp_eq dL_law_697 (by decide))) (
  ce_fc (P := P_L_law nm) (ok_li (ok_aload_n dL_law_702 rfl)) (
  ce_fc (P := P_L_law nm) (ok_li (ok_aload_n dL_law_703 rfl)) (
  ce_fc (P := P_L_law nm) (ok_call (ru_SX m_L_fault (by decide) (by decide) gw_847 gw_845 gw_846 gw_0 hp_L_fault dL_law_704) ca_f) (
  ce_fc (P := P_L_law nm) (ok_li (ok_istore dL_law_707)) (
  ce_fc (P := P_L_law nm) (ok_li (ok_aload_n dL_law_709 rfl)) (
  ce_fc (P := P_L_law nm) (ok_call (ru_V (ci := 20) (C := RX21) (Tf := TX21) (N := 20) m_X21_fault (by decide) (by decide) rfl gw_2159 gw_2156 gw_2157 gw_2158 gw_13 ⟨rfl, hp_X21_fault⟩ dL_law_710) ca_f) (
  ce_fn (P := P_L_law nm)))))))))))))))
noncomputable def tb_L_law_19 : List (Nat × ce_N) := [(713, ce_li (ce_istore 7 715 9)),
  (715, ce_li (ce_aload 2 716)),
  (716, ce_call 1 0 0 719 (.inr false) (ce_CV 20 F_X21_thrown)),
  (719, ce_li (ce_iload 6 721)),
  (721, ce_li (ce_icmp true false false 726 724)),
  (726, ce_li (ce_iload 6 728)),
  (728, ce_li (ce_if true false true 743 731)),
  (731, ce_li (ce_aload 3 732)),
  (732, ce_li (ce_push (.inl (.inl (0))) 733)),
  (733, ce_li (ce_lald 734)),
  (734, ce_li (ce_iload 7 736)),
  (736, ce_li (ce_i2l 737)),
  (737, ce_li (ce_lcmp 738)),
  (738, ce_li (ce_if true false false 743 741))]
theorem tk_L_law_19 {nm : String} : ∀ x ∈ tb_L_law_19, P_L_law nm x.1 x.2 :=
  ce_fc (P := P_L_law nm) (ok_li (ok_istore dL_law_713)) (
  ce_fc (P := P_L_law nm) (ok_li (ok_aload_n dL_law_715 rfl)) (
  ce_fc (P := P_L_law nm) (ok_call (ru_V (ci := 20) (C := RX21) (Tf := TX21) (N := 20) m_X21_thrown (by decide) (by decide) rfl gw_1586 gw_1583 gw_1584 gw_1585 gw_13 ⟨rfl, hp_X21_thrown⟩ dL_law_716) ca_f) (
  ce_fc (P := P_L_law nm) (ok_li (ok_iload dL_law_719)) (
  ce_fc (P := P_L_law nm) (ok_li (ok_icmp_eq dL_law_721 (by decide))) (
  ce_fc (P := P_L_law nm) (ok_li (ok_iload dL_law_726)) (
  ce_fc (P := P_L_law nm) (ok_li (ok_if_ne dL_law_728 (by decide))) (
  ce_fc (P := P_L_law nm) (ok_li (ok_aload_n dL_law_731 rfl)) (
  ce_fc (P := P_L_law nm) (ok_li (ok_iconst dL_law_732)) (
  ce_fc (P := P_L_law nm) (ok_li (ok_lald dL_law_733)) (
  ce_fc (P := P_L_law nm) (ok_li (ok_iload dL_law_734)) (
  ce_fc (P := P_L_law nm) (ok_li (ok_i2l dL_law_736)) (
  ce_fc (P := P_L_law nm) (ok_li (ok_lcmp dL_law_737)) (
  ce_fc (P := P_L_law nm) (ok_li (ok_if_eq dL_law_738 (by decide))) (
  ce_fn (P := P_L_law nm)))))))))))))))
noncomputable def tb_L_law_20 : List (Nat × ce_N) := [(743, ce_li (ce_goto 3319)),
  (746, ce_li (ce_aload 1 747)),
  (747, ce_li (ce_aload 3 748)),
  (748, ce_call 2 0 0 751 (.inr false) F_L_faultKind),
  (751, ce_li (ce_istore 6 753 9)),
  (753, ce_li (ce_aload 2 754)),
  (754, ce_call 1 1 5 757 (.inr false) (ce_CV 20 F_X21_faultKind)),
  (757, ce_li (ce_istore 7 759 9)),
  (759, ce_li (ce_aload 2 760)),
  (760, ce_call 1 0 0 763 (.inr false) (ce_CV 20 F_X21_thrown)),
  (763, ce_li (ce_iload 6 765)),
  (765, ce_li (ce_icmp true false false 770 768)),
  (770, ce_li (ce_iload 6 772)),
  (772, ce_li (ce_if true false true 787 775))]
theorem tk_L_law_20 {nm : String} : ∀ x ∈ tb_L_law_20, P_L_law nm x.1 x.2 :=
  ce_fc (P := P_L_law nm) (ok_li (ok_goto dL_law_743 (by decide))) (
  ce_fc (P := P_L_law nm) (ok_li (ok_aload_n dL_law_746 rfl)) (
  ce_fc (P := P_L_law nm) (ok_li (ok_aload_n dL_law_747 rfl)) (
  ce_fc (P := P_L_law nm) (ok_call (ru_SX m_L_faultKind (by decide) (by decide) gw_929 gw_927 gw_928 gw_0 hp_L_faultKind dL_law_748) ca_f) (
  ce_fc (P := P_L_law nm) (ok_li (ok_istore dL_law_751)) (
  ce_fc (P := P_L_law nm) (ok_li (ok_aload_n dL_law_753 rfl)) (
  ce_fc (P := P_L_law nm) (ok_call (ru_V (ci := 20) (C := RX21) (Tf := TX21) (N := 20) m_X21_faultKind (by decide) (by decide) rfl gw_2247 gw_2244 gw_2245 gw_2246 gw_13 ⟨rfl, hp_X21_faultKind⟩ dL_law_754) ca_f) (
  ce_fc (P := P_L_law nm) (ok_li (ok_istore dL_law_757)) (
  ce_fc (P := P_L_law nm) (ok_li (ok_aload_n dL_law_759 rfl)) (
  ce_fc (P := P_L_law nm) (ok_call (ru_V (ci := 20) (C := RX21) (Tf := TX21) (N := 20) m_X21_thrown (by decide) (by decide) rfl gw_1586 gw_1583 gw_1584 gw_1585 gw_13 ⟨rfl, hp_X21_thrown⟩ dL_law_760) ca_f) (
  ce_fc (P := P_L_law nm) (ok_li (ok_iload dL_law_763)) (
  ce_fc (P := P_L_law nm) (ok_li (ok_icmp_eq dL_law_765 (by decide))) (
  ce_fc (P := P_L_law nm) (ok_li (ok_iload dL_law_770)) (
  ce_fc (P := P_L_law nm) (ok_li (ok_if_ne dL_law_772 (by decide))) (
  ce_fn (P := P_L_law nm)))))))))))))))
noncomputable def tb_L_law_21 : List (Nat × ce_N) := [(775, ce_li (ce_aload 3 776)),
  (776, ce_li (ce_push (.inl (.inl (0))) 777)),
  (777, ce_li (ce_lald 778)),
  (778, ce_li (ce_iload 7 780)),
  (780, ce_li (ce_i2l 781)),
  (781, ce_li (ce_lcmp 782)),
  (782, ce_li (ce_if true false false 787 785)),
  (787, ce_li (ce_goto 3319)),
  (790, ce_li (ce_aload 1 791)),
  (791, ce_li (ce_aload 3 792)),
  (792, ce_call 2 1 6 795 (.inr false) F_L_addType),
  (795, ce_li (ce_istore 6 797 9)),
  (797, ce_li (ce_aload 2 798)),
  (798, ce_call 1 1 5 801 (.inr false) (ce_CV 20 F_X21_addType))]
theorem tk_L_law_21 {nm : String} : ∀ x ∈ tb_L_law_21, P_L_law nm x.1 x.2 :=
  ce_fc (P := P_L_law nm) (ok_li (ok_aload_n dL_law_775 rfl)) (
  ce_fc (P := P_L_law nm) (ok_li (ok_iconst dL_law_776)) (
  ce_fc (P := P_L_law nm) (ok_li (ok_lald dL_law_777)) (
  ce_fc (P := P_L_law nm) (ok_li (ok_iload dL_law_778)) (
  ce_fc (P := P_L_law nm) (ok_li (ok_i2l dL_law_780)) (
  ce_fc (P := P_L_law nm) (ok_li (ok_lcmp dL_law_781)) (
  ce_fc (P := P_L_law nm) (ok_li (ok_if_eq dL_law_782 (by decide))) (
  ce_fc (P := P_L_law nm) (ok_li (ok_goto dL_law_787 (by decide))) (
  ce_fc (P := P_L_law nm) (ok_li (ok_aload_n dL_law_790 rfl)) (
  ce_fc (P := P_L_law nm) (ok_li (ok_aload_n dL_law_791 rfl)) (
  ce_fc (P := P_L_law nm) (ok_call (ru_SX m_L_addType (by decide) (by decide) gw_936 gw_934 gw_935 gw_0 hp_L_addType dL_law_792) ca_f) (
  ce_fc (P := P_L_law nm) (ok_li (ok_istore dL_law_795)) (
  ce_fc (P := P_L_law nm) (ok_li (ok_aload_n dL_law_797 rfl)) (
  ce_fc (P := P_L_law nm) (ok_call (ru_V (ci := 20) (C := RX21) (Tf := TX21) (N := 20) m_X21_addType (by decide) (by decide) rfl gw_2251 gw_2248 gw_2249 gw_2250 gw_13 ⟨rfl, hp_X21_addType⟩ dL_law_798) ca_f) (
  ce_fn (P := P_L_law nm)))))))))))))))
noncomputable def tb_L_law_22 : List (Nat × ce_N) := [(801, ce_li (ce_istore 7 803 9)),
  (803, ce_li (ce_aload 2 804)),
  (804, ce_call 1 0 0 807 (.inr false) (ce_CV 20 F_X21_thrown)),
  (807, ce_li (ce_iload 6 809)),
  (809, ce_li (ce_icmp true false false 814 812)),
  (814, ce_li (ce_iload 6 816)),
  (816, ce_li (ce_if true false true 831 819)),
  (831, ce_li (ce_goto 3319)),
  (834, ce_li (ce_aload 1 835)),
  (835, ce_li (ce_aload 0 836)),
  (836, ce_li (ce_iload 5 838)),
  (838, ce_li (ce_push (.inl (.inl (1))) 839)),
  (839, ce_li (ce_bin ce_addo 840)),
  (840, ce_li (ce_iald 841 840))]
theorem tk_L_law_22 {nm : String} : ∀ x ∈ tb_L_law_22, P_L_law nm x.1 x.2 :=
  ce_fc (P := P_L_law nm) (ok_li (ok_istore dL_law_801)) (
  ce_fc (P := P_L_law nm) (ok_li (ok_aload_n dL_law_803 rfl)) (
  ce_fc (P := P_L_law nm) (ok_call (ru_V (ci := 20) (C := RX21) (Tf := TX21) (N := 20) m_X21_thrown (by decide) (by decide) rfl gw_1586 gw_1583 gw_1584 gw_1585 gw_13 ⟨rfl, hp_X21_thrown⟩ dL_law_804) ca_f) (
  ce_fc (P := P_L_law nm) (ok_li (ok_iload dL_law_807)) (
  ce_fc (P := P_L_law nm) (ok_li (ok_icmp_eq dL_law_809 (by decide))) (
  ce_fc (P := P_L_law nm) (ok_li (ok_iload dL_law_814)) (
  ce_fc (P := P_L_law nm) (ok_li (ok_if_ne dL_law_816 (by decide))) (
  ce_fc (P := P_L_law nm) (ok_li (ok_goto dL_law_831 (by decide))) (
  ce_fc (P := P_L_law nm) (ok_li (ok_aload_n dL_law_834 rfl)) (
  ce_fc (P := P_L_law nm) (ok_li (ok_aload_n dL_law_835 rfl)) (
  ce_fc (P := P_L_law nm) (ok_li (ok_iload dL_law_836)) (
  ce_fc (P := P_L_law nm) (ok_li (ok_iconst dL_law_838)) (
  ce_fc (P := P_L_law nm) (ok_li (ok_iadd dL_law_839)) (
  ce_fc (P := P_L_law nm) (ok_li (ok_iald dL_law_840)) (
  ce_fn (P := P_L_law nm)))))))))))))))
noncomputable def tb_L_law_23 : List (Nat × ce_N) := [(841, ce_li (ce_aload 0 842)),
  (842, ce_li (ce_iload 5 844)),
  (844, ce_li (ce_push (.inl (.inl (2))) 845)),
  (845, ce_li (ce_bin ce_addo 846)),
  (846, ce_li (ce_iald 847 846)),
  (847, ce_li (ce_i2c 848)),
  (848, ce_li (ce_aload 3 849)),
  (849, ce_call 4 1 6 852 (.inr false) F_L_told),
  (852, ce_li (ce_istore 6 854 9)),
  (854, ce_li (ce_aload 2 855)),
  (855, ce_li (ce_aload 0 856)),
  (856, ce_li (ce_iload 5 858)),
  (858, ce_li (ce_push (.inl (.inl (1))) 859)),
  (859, ce_li (ce_bin ce_addo 860))]
theorem tk_L_law_23 {nm : String} : ∀ x ∈ tb_L_law_23, P_L_law nm x.1 x.2 :=
  ce_fc (P := P_L_law nm) (ok_li (ok_aload_n dL_law_841 rfl)) (
  ce_fc (P := P_L_law nm) (ok_li (ok_iload dL_law_842)) (
  ce_fc (P := P_L_law nm) (ok_li (ok_iconst dL_law_844)) (
  ce_fc (P := P_L_law nm) (ok_li (ok_iadd dL_law_845)) (
  ce_fc (P := P_L_law nm) (ok_li (ok_iald dL_law_846)) (
  ce_fc (P := P_L_law nm) (ok_li (ok_i2c dL_law_847)) (
  ce_fc (P := P_L_law nm) (ok_li (ok_aload_n dL_law_848 rfl)) (
  ce_fc (P := P_L_law nm) (ok_call (ru_SX m_L_told (by decide) (by decide) gw_948 gw_946 gw_947 gw_0 hp_L_told dL_law_849) ca_f) (
  ce_fc (P := P_L_law nm) (ok_li (ok_istore dL_law_852)) (
  ce_fc (P := P_L_law nm) (ok_li (ok_aload_n dL_law_854 rfl)) (
  ce_fc (P := P_L_law nm) (ok_li (ok_aload_n dL_law_855 rfl)) (
  ce_fc (P := P_L_law nm) (ok_li (ok_iload dL_law_856)) (
  ce_fc (P := P_L_law nm) (ok_li (ok_iconst dL_law_858)) (
  ce_fc (P := P_L_law nm) (ok_li (ok_iadd dL_law_859)) (
  ce_fn (P := P_L_law nm)))))))))))))))
noncomputable def tb_L_law_24 : List (Nat × ce_N) := [(860, ce_li (ce_iald 861 860)),
  (861, ce_li (ce_aload 0 862)),
  (862, ce_li (ce_iload 5 864)),
  (864, ce_li (ce_push (.inl (.inl (2))) 865)),
  (865, ce_li (ce_bin ce_addo 866)),
  (866, ce_li (ce_iald 867 866)),
  (867, ce_li (ce_i2c 868)),
  (868, ce_call 3 0 0 871 (.inr false) (ce_CV 20 F_X21_told)),
  (871, ce_li (ce_istore 7 873 9)),
  (873, ce_li (ce_aload 2 874)),
  (874, ce_call 1 0 0 877 (.inr false) (ce_CV 20 F_X21_thrown)),
  (877, ce_li (ce_iload 6 879)),
  (879, ce_li (ce_icmp true false false 884 882)),
  (884, ce_li (ce_iload 6 886))]
theorem tk_L_law_24 {nm : String} : ∀ x ∈ tb_L_law_24, P_L_law nm x.1 x.2 :=
  ce_fc (P := P_L_law nm) (ok_li (ok_iald dL_law_860)) (
  ce_fc (P := P_L_law nm) (ok_li (ok_aload_n dL_law_861 rfl)) (
  ce_fc (P := P_L_law nm) (ok_li (ok_iload dL_law_862)) (
  ce_fc (P := P_L_law nm) (ok_li (ok_iconst dL_law_864)) (
  ce_fc (P := P_L_law nm) (ok_li (ok_iadd dL_law_865)) (
  ce_fc (P := P_L_law nm) (ok_li (ok_iald dL_law_866)) (
  ce_fc (P := P_L_law nm) (ok_li (ok_i2c dL_law_867)) (
  ce_fc (P := P_L_law nm) (ok_call (ru_V (ci := 20) (C := RX21) (Tf := TX21) (N := 20) m_X21_told (by decide) (by decide) rfl gw_2255 gw_2252 gw_2253 gw_2254 gw_13 ⟨rfl, hp_X21_told⟩ dL_law_868) ca_f) (
  ce_fc (P := P_L_law nm) (ok_li (ok_istore dL_law_871)) (
  ce_fc (P := P_L_law nm) (ok_li (ok_aload_n dL_law_873 rfl)) (
  ce_fc (P := P_L_law nm) (ok_call (ru_V (ci := 20) (C := RX21) (Tf := TX21) (N := 20) m_X21_thrown (by decide) (by decide) rfl gw_1586 gw_1583 gw_1584 gw_1585 gw_13 ⟨rfl, hp_X21_thrown⟩ dL_law_874) ca_f) (
  ce_fc (P := P_L_law nm) (ok_li (ok_iload dL_law_877)) (
  ce_fc (P := P_L_law nm) (ok_li (ok_icmp_eq dL_law_879 (by decide))) (
  ce_fc (P := P_L_law nm) (ok_li (ok_iload dL_law_884)) (
  ce_fn (P := P_L_law nm)))))))))))))))
noncomputable def tb_L_law_25 : List (Nat × ce_N) := [(886, ce_li (ce_if true false true 901 889)),
  (901, ce_li (ce_goto 3319)),
  (904, ce_li (ce_aload 1 905)),
  (905, ce_li (ce_aload 0 906)),
  (906, ce_li (ce_iload 5 908)),
  (908, ce_li (ce_push (.inl (.inl (1))) 909)),
  (909, ce_li (ce_bin ce_addo 910)),
  (910, ce_li (ce_iald 911 910)),
  (911, ce_li (ce_aload 0 912)),
  (912, ce_li (ce_iload 5 914)),
  (914, ce_li (ce_push (.inl (.inl (2))) 915)),
  (915, ce_li (ce_bin ce_addo 916)),
  (916, ce_li (ce_iald 917 916)),
  (917, ce_li (ce_aload 0 918))]
theorem tk_L_law_25 {nm : String} : ∀ x ∈ tb_L_law_25, P_L_law nm x.1 x.2 :=
  ce_fc (P := P_L_law nm) (ok_li (ok_if_ne dL_law_886 (by decide))) (
  ce_fc (P := P_L_law nm) (ok_li (ok_goto dL_law_901 (by decide))) (
  ce_fc (P := P_L_law nm) (ok_li (ok_aload_n dL_law_904 rfl)) (
  ce_fc (P := P_L_law nm) (ok_li (ok_aload_n dL_law_905 rfl)) (
  ce_fc (P := P_L_law nm) (ok_li (ok_iload dL_law_906)) (
  ce_fc (P := P_L_law nm) (ok_li (ok_iconst dL_law_908)) (
  ce_fc (P := P_L_law nm) (ok_li (ok_iadd dL_law_909)) (
  ce_fc (P := P_L_law nm) (ok_li (ok_iald dL_law_910)) (
  ce_fc (P := P_L_law nm) (ok_li (ok_aload_n dL_law_911 rfl)) (
  ce_fc (P := P_L_law nm) (ok_li (ok_iload dL_law_912)) (
  ce_fc (P := P_L_law nm) (ok_li (ok_iconst dL_law_914)) (
  ce_fc (P := P_L_law nm) (ok_li (ok_iadd dL_law_915)) (
  ce_fc (P := P_L_law nm) (ok_li (ok_iald dL_law_916)) (
  ce_fc (P := P_L_law nm) (ok_li (ok_aload_n dL_law_917 rfl)) (
  ce_fn (P := P_L_law nm)))))))))))))))
noncomputable def tb_L_law_26 : List (Nat × ce_N) := [(918, ce_li (ce_iload 5 920)),
  (920, ce_li (ce_push (.inl (.inl (3))) 921)),
  (921, ce_li (ce_bin ce_addo 922)),
  (922, ce_li (ce_iald 923 922)),
  (923, ce_li (ce_aload 0 924)),
  (924, ce_li (ce_iload 5 926)),
  (926, ce_li (ce_push (.inl (.inl (4))) 927)),
  (927, ce_li (ce_bin ce_addo 928)),
  (928, ce_li (ce_iald 929 928)),
  (929, ce_li (ce_aload 3 930)),
  (930, ce_call 6 1 6 933 (.inr false) F_L_place),
  (933, ce_li (ce_istore 6 935 9)),
  (935, ce_li (ce_aload 2 936)),
  (936, ce_li (ce_aload 0 937))]
theorem tk_L_law_26 {nm : String} : ∀ x ∈ tb_L_law_26, P_L_law nm x.1 x.2 :=
  ce_fc (P := P_L_law nm) (ok_li (ok_iload dL_law_918)) (
  ce_fc (P := P_L_law nm) (ok_li (ok_iconst dL_law_920)) (
  ce_fc (P := P_L_law nm) (ok_li (ok_iadd dL_law_921)) (
  ce_fc (P := P_L_law nm) (ok_li (ok_iald dL_law_922)) (
  ce_fc (P := P_L_law nm) (ok_li (ok_aload_n dL_law_923 rfl)) (
  ce_fc (P := P_L_law nm) (ok_li (ok_iload dL_law_924)) (
  ce_fc (P := P_L_law nm) (ok_li (ok_iconst dL_law_926)) (
  ce_fc (P := P_L_law nm) (ok_li (ok_iadd dL_law_927)) (
  ce_fc (P := P_L_law nm) (ok_li (ok_iald dL_law_928)) (
  ce_fc (P := P_L_law nm) (ok_li (ok_aload_n dL_law_929 rfl)) (
  ce_fc (P := P_L_law nm) (ok_call (ru_SX m_L_place (by decide) (by decide) gw_956 gw_954 gw_955 gw_0 hp_L_place dL_law_930) ca_f) (
  ce_fc (P := P_L_law nm) (ok_li (ok_istore dL_law_933)) (
  ce_fc (P := P_L_law nm) (ok_li (ok_aload_n dL_law_935 rfl)) (
  ce_fc (P := P_L_law nm) (ok_li (ok_aload_n dL_law_936 rfl)) (
  ce_fn (P := P_L_law nm)))))))))))))))
noncomputable def tb_L_law_27 : List (Nat × ce_N) := [(937, ce_li (ce_iload 5 939)),
  (939, ce_li (ce_push (.inl (.inl (1))) 940)),
  (940, ce_li (ce_bin ce_addo 941)),
  (941, ce_li (ce_iald 942 941)),
  (942, ce_li (ce_aload 0 943)),
  (943, ce_li (ce_iload 5 945)),
  (945, ce_li (ce_push (.inl (.inl (2))) 946)),
  (946, ce_li (ce_bin ce_addo 947)),
  (947, ce_li (ce_iald 948 947)),
  (948, ce_li (ce_aload 0 949)),
  (949, ce_li (ce_iload 5 951)),
  (951, ce_li (ce_push (.inl (.inl (3))) 952)),
  (952, ce_li (ce_bin ce_addo 953)),
  (953, ce_li (ce_iald 954 953))]
theorem tk_L_law_27 {nm : String} : ∀ x ∈ tb_L_law_27, P_L_law nm x.1 x.2 :=
  ce_fc (P := P_L_law nm) (ok_li (ok_iload dL_law_937)) (
  ce_fc (P := P_L_law nm) (ok_li (ok_iconst dL_law_939)) (
  ce_fc (P := P_L_law nm) (ok_li (ok_iadd dL_law_940)) (
  ce_fc (P := P_L_law nm) (ok_li (ok_iald dL_law_941)) (
  ce_fc (P := P_L_law nm) (ok_li (ok_aload_n dL_law_942 rfl)) (
  ce_fc (P := P_L_law nm) (ok_li (ok_iload dL_law_943)) (
  ce_fc (P := P_L_law nm) (ok_li (ok_iconst dL_law_945)) (
  ce_fc (P := P_L_law nm) (ok_li (ok_iadd dL_law_946)) (
  ce_fc (P := P_L_law nm) (ok_li (ok_iald dL_law_947)) (
  ce_fc (P := P_L_law nm) (ok_li (ok_aload_n dL_law_948 rfl)) (
  ce_fc (P := P_L_law nm) (ok_li (ok_iload dL_law_949)) (
  ce_fc (P := P_L_law nm) (ok_li (ok_iconst dL_law_951)) (
  ce_fc (P := P_L_law nm) (ok_li (ok_iadd dL_law_952)) (
  ce_fc (P := P_L_law nm) (ok_li (ok_iald dL_law_953)) (
  ce_fn (P := P_L_law nm)))))))))))))))
noncomputable def tb_L_law_28 : List (Nat × ce_N) := [(954, ce_li (ce_aload 0 955)),
  (955, ce_li (ce_iload 5 957)),
  (957, ce_li (ce_push (.inl (.inl (4))) 958)),
  (958, ce_li (ce_bin ce_addo 959)),
  (959, ce_li (ce_iald 960 959)),
  (960, ce_call 5 0 0 963 (.inr false) (ce_CV 20 F_X21_place)),
  (963, ce_li (ce_istore 7 965 9)),
  (965, ce_li (ce_aload 2 966)),
  (966, ce_call 1 0 0 969 (.inr false) (ce_CV 20 F_X21_thrown)),
  (969, ce_li (ce_iload 6 971)),
  (971, ce_li (ce_icmp true false false 976 974)),
  (976, ce_li (ce_iload 6 978)),
  (978, ce_li (ce_if true false true 993 981)),
  (993, ce_li (ce_goto 3319))]
theorem tk_L_law_28 {nm : String} : ∀ x ∈ tb_L_law_28, P_L_law nm x.1 x.2 :=
  ce_fc (P := P_L_law nm) (ok_li (ok_aload_n dL_law_954 rfl)) (
  ce_fc (P := P_L_law nm) (ok_li (ok_iload dL_law_955)) (
  ce_fc (P := P_L_law nm) (ok_li (ok_iconst dL_law_957)) (
  ce_fc (P := P_L_law nm) (ok_li (ok_iadd dL_law_958)) (
  ce_fc (P := P_L_law nm) (ok_li (ok_iald dL_law_959)) (
  ce_fc (P := P_L_law nm) (ok_call (ru_V (ci := 20) (C := RX21) (Tf := TX21) (N := 20) m_X21_place (by decide) (by decide) rfl gw_2265 gw_2262 gw_2263 gw_2264 gw_13 ⟨rfl, hp_X21_place⟩ dL_law_960) ca_f) (
  ce_fc (P := P_L_law nm) (ok_li (ok_istore dL_law_963)) (
  ce_fc (P := P_L_law nm) (ok_li (ok_aload_n dL_law_965 rfl)) (
  ce_fc (P := P_L_law nm) (ok_call (ru_V (ci := 20) (C := RX21) (Tf := TX21) (N := 20) m_X21_thrown (by decide) (by decide) rfl gw_1586 gw_1583 gw_1584 gw_1585 gw_13 ⟨rfl, hp_X21_thrown⟩ dL_law_966) ca_f) (
  ce_fc (P := P_L_law nm) (ok_li (ok_iload dL_law_969)) (
  ce_fc (P := P_L_law nm) (ok_li (ok_icmp_eq dL_law_971 (by decide))) (
  ce_fc (P := P_L_law nm) (ok_li (ok_iload dL_law_976)) (
  ce_fc (P := P_L_law nm) (ok_li (ok_if_ne dL_law_978 (by decide))) (
  ce_fc (P := P_L_law nm) (ok_li (ok_goto dL_law_993 (by decide))) (
  ce_fn (P := P_L_law nm)))))))))))))))
noncomputable def tb_L_law_29 : List (Nat × ce_N) := [(996, ce_li (ce_aload 1 997)),
  (997, ce_li (ce_aload 0 998)),
  (998, ce_li (ce_iload 5 1000)),
  (1000, ce_li (ce_push (.inl (.inl (1))) 1001)),
  (1001, ce_li (ce_bin ce_addo 1002)),
  (1002, ce_li (ce_iald 1003 1002)),
  (1003, ce_li (ce_aload 0 1004)),
  (1004, ce_li (ce_iload 5 1006)),
  (1006, ce_li (ce_push (.inl (.inl (2))) 1007)),
  (1007, ce_li (ce_bin ce_addo 1008)),
  (1008, ce_li (ce_iald 1009 1008)),
  (1009, ce_li (ce_aload 3 1010)),
  (1010, ce_call 4 1 6 1013 (.inr false) F_L_shift),
  (1013, ce_li (ce_istore 6 1015 9))]
theorem tk_L_law_29 {nm : String} : ∀ x ∈ tb_L_law_29, P_L_law nm x.1 x.2 :=
  ce_fc (P := P_L_law nm) (ok_li (ok_aload_n dL_law_996 rfl)) (
  ce_fc (P := P_L_law nm) (ok_li (ok_aload_n dL_law_997 rfl)) (
  ce_fc (P := P_L_law nm) (ok_li (ok_iload dL_law_998)) (
  ce_fc (P := P_L_law nm) (ok_li (ok_iconst dL_law_1000)) (
  ce_fc (P := P_L_law nm) (ok_li (ok_iadd dL_law_1001)) (
  ce_fc (P := P_L_law nm) (ok_li (ok_iald dL_law_1002)) (
  ce_fc (P := P_L_law nm) (ok_li (ok_aload_n dL_law_1003 rfl)) (
  ce_fc (P := P_L_law nm) (ok_li (ok_iload dL_law_1004)) (
  ce_fc (P := P_L_law nm) (ok_li (ok_iconst dL_law_1006)) (
  ce_fc (P := P_L_law nm) (ok_li (ok_iadd dL_law_1007)) (
  ce_fc (P := P_L_law nm) (ok_li (ok_iald dL_law_1008)) (
  ce_fc (P := P_L_law nm) (ok_li (ok_aload_n dL_law_1009 rfl)) (
  ce_fc (P := P_L_law nm) (ok_call (ru_SX m_L_shift (by decide) (by decide) gw_999 gw_997 gw_998 gw_0 hp_L_shift dL_law_1010) ca_f) (
  ce_fc (P := P_L_law nm) (ok_li (ok_istore dL_law_1013)) (
  ce_fn (P := P_L_law nm)))))))))))))))
noncomputable def tb_L_law_30 : List (Nat × ce_N) := [(1015, ce_li (ce_aload 2 1016)),
  (1016, ce_li (ce_aload 0 1017)),
  (1017, ce_li (ce_iload 5 1019)),
  (1019, ce_li (ce_push (.inl (.inl (1))) 1020)),
  (1020, ce_li (ce_bin ce_addo 1021)),
  (1021, ce_li (ce_iald 1022 1021)),
  (1022, ce_li (ce_aload 0 1023)),
  (1023, ce_li (ce_iload 5 1025)),
  (1025, ce_li (ce_push (.inl (.inl (2))) 1026)),
  (1026, ce_li (ce_bin ce_addo 1027)),
  (1027, ce_li (ce_iald 1028 1027)),
  (1028, ce_call 3 0 0 1031 (.inr false) (ce_CV 20 F_X21_shift)),
  (1031, ce_li (ce_istore 7 1033 9)),
  (1033, ce_li (ce_aload 2 1034))]
theorem tk_L_law_30 {nm : String} : ∀ x ∈ tb_L_law_30, P_L_law nm x.1 x.2 :=
  ce_fc (P := P_L_law nm) (ok_li (ok_aload_n dL_law_1015 rfl)) (
  ce_fc (P := P_L_law nm) (ok_li (ok_aload_n dL_law_1016 rfl)) (
  ce_fc (P := P_L_law nm) (ok_li (ok_iload dL_law_1017)) (
  ce_fc (P := P_L_law nm) (ok_li (ok_iconst dL_law_1019)) (
  ce_fc (P := P_L_law nm) (ok_li (ok_iadd dL_law_1020)) (
  ce_fc (P := P_L_law nm) (ok_li (ok_iald dL_law_1021)) (
  ce_fc (P := P_L_law nm) (ok_li (ok_aload_n dL_law_1022 rfl)) (
  ce_fc (P := P_L_law nm) (ok_li (ok_iload dL_law_1023)) (
  ce_fc (P := P_L_law nm) (ok_li (ok_iconst dL_law_1025)) (
  ce_fc (P := P_L_law nm) (ok_li (ok_iadd dL_law_1026)) (
  ce_fc (P := P_L_law nm) (ok_li (ok_iald dL_law_1027)) (
  ce_fc (P := P_L_law nm) (ok_call (ru_V (ci := 20) (C := RX21) (Tf := TX21) (N := 20) m_X21_shift (by decide) (by decide) rfl gw_2333 gw_2330 gw_2331 gw_2332 gw_13 ⟨rfl, hp_X21_shift⟩ dL_law_1028) ca_f) (
  ce_fc (P := P_L_law nm) (ok_li (ok_istore dL_law_1031)) (
  ce_fc (P := P_L_law nm) (ok_li (ok_aload_n dL_law_1033 rfl)) (
  ce_fn (P := P_L_law nm)))))))))))))))
noncomputable def tb_L_law_31 : List (Nat × ce_N) := [(1034, ce_call 1 0 0 1037 (.inr false) (ce_CV 20 F_X21_thrown)),
  (1037, ce_li (ce_iload 6 1039)),
  (1039, ce_li (ce_icmp true false false 1044 1042)),
  (1044, ce_li (ce_iload 6 1046)),
  (1046, ce_li (ce_if true false true 1061 1049)),
  (1061, ce_li (ce_goto 3319)),
  (1064, ce_li (ce_aload 1 1065)),
  (1065, ce_li (ce_aload 0 1066)),
  (1066, ce_li (ce_iload 5 1068)),
  (1068, ce_li (ce_push (.inl (.inl (1))) 1069)),
  (1069, ce_li (ce_bin ce_addo 1070)),
  (1070, ce_li (ce_iald 1071 1070)),
  (1071, ce_li (ce_aload 0 1072)),
  (1072, ce_li (ce_iload 5 1074))]
theorem tk_L_law_31 {nm : String} : ∀ x ∈ tb_L_law_31, P_L_law nm x.1 x.2 :=
  ce_fc (P := P_L_law nm) (ok_call (ru_V (ci := 20) (C := RX21) (Tf := TX21) (N := 20) m_X21_thrown (by decide) (by decide) rfl gw_1586 gw_1583 gw_1584 gw_1585 gw_13 ⟨rfl, hp_X21_thrown⟩ dL_law_1034) ca_f) (
  ce_fc (P := P_L_law nm) (ok_li (ok_iload dL_law_1037)) (
  ce_fc (P := P_L_law nm) (ok_li (ok_icmp_eq dL_law_1039 (by decide))) (
  ce_fc (P := P_L_law nm) (ok_li (ok_iload dL_law_1044)) (
  ce_fc (P := P_L_law nm) (ok_li (ok_if_ne dL_law_1046 (by decide))) (
  ce_fc (P := P_L_law nm) (ok_li (ok_goto dL_law_1061 (by decide))) (
  ce_fc (P := P_L_law nm) (ok_li (ok_aload_n dL_law_1064 rfl)) (
  ce_fc (P := P_L_law nm) (ok_li (ok_aload_n dL_law_1065 rfl)) (
  ce_fc (P := P_L_law nm) (ok_li (ok_iload dL_law_1066)) (
  ce_fc (P := P_L_law nm) (ok_li (ok_iconst dL_law_1068)) (
  ce_fc (P := P_L_law nm) (ok_li (ok_iadd dL_law_1069)) (
  ce_fc (P := P_L_law nm) (ok_li (ok_iald dL_law_1070)) (
  ce_fc (P := P_L_law nm) (ok_li (ok_aload_n dL_law_1071 rfl)) (
  ce_fc (P := P_L_law nm) (ok_li (ok_iload dL_law_1072)) (
  ce_fn (P := P_L_law nm)))))))))))))))
noncomputable def tb_L_law_32 : List (Nat × ce_N) := [(1074, ce_li (ce_push (.inl (.inl (2))) 1075)),
  (1075, ce_li (ce_bin ce_addo 1076)),
  (1076, ce_li (ce_iald 1077 1076)),
  (1077, ce_li (ce_aload 3 1078)),
  (1078, ce_call 4 1 6 1081 (.inr false) F_L_change),
  (1081, ce_li (ce_istore 6 1083 9)),
  (1083, ce_li (ce_aload 2 1084)),
  (1084, ce_li (ce_aload 0 1085)),
  (1085, ce_li (ce_iload 5 1087)),
  (1087, ce_li (ce_push (.inl (.inl (1))) 1088)),
  (1088, ce_li (ce_bin ce_addo 1089)),
  (1089, ce_li (ce_iald 1090 1089)),
  (1090, ce_li (ce_aload 0 1091)),
  (1091, ce_li (ce_iload 5 1093))]
theorem tk_L_law_32 {nm : String} : ∀ x ∈ tb_L_law_32, P_L_law nm x.1 x.2 :=
  ce_fc (P := P_L_law nm) (ok_li (ok_iconst dL_law_1074)) (
  ce_fc (P := P_L_law nm) (ok_li (ok_iadd dL_law_1075)) (
  ce_fc (P := P_L_law nm) (ok_li (ok_iald dL_law_1076)) (
  ce_fc (P := P_L_law nm) (ok_li (ok_aload_n dL_law_1077 rfl)) (
  ce_fc (P := P_L_law nm) (ok_call (ru_SX m_L_change (by decide) (by decide) gw_1007 gw_1005 gw_1006 gw_0 hp_L_change dL_law_1078) ca_f) (
  ce_fc (P := P_L_law nm) (ok_li (ok_istore dL_law_1081)) (
  ce_fc (P := P_L_law nm) (ok_li (ok_aload_n dL_law_1083 rfl)) (
  ce_fc (P := P_L_law nm) (ok_li (ok_aload_n dL_law_1084 rfl)) (
  ce_fc (P := P_L_law nm) (ok_li (ok_iload dL_law_1085)) (
  ce_fc (P := P_L_law nm) (ok_li (ok_iconst dL_law_1087)) (
  ce_fc (P := P_L_law nm) (ok_li (ok_iadd dL_law_1088)) (
  ce_fc (P := P_L_law nm) (ok_li (ok_iald dL_law_1089)) (
  ce_fc (P := P_L_law nm) (ok_li (ok_aload_n dL_law_1090 rfl)) (
  ce_fc (P := P_L_law nm) (ok_li (ok_iload dL_law_1091)) (
  ce_fn (P := P_L_law nm)))))))))))))))
noncomputable def tb_L_law_33 : List (Nat × ce_N) := [(1093, ce_li (ce_push (.inl (.inl (2))) 1094)),
  (1094, ce_li (ce_bin ce_addo 1095)),
  (1095, ce_li (ce_iald 1096 1095)),
  (1096, ce_call 3 0 0 1099 (.inr false) (ce_CV 20 F_X21_change)),
  (1099, ce_li (ce_istore 7 1101 9)),
  (1101, ce_li (ce_aload 2 1102)),
  (1102, ce_call 1 0 0 1105 (.inr false) (ce_CV 20 F_X21_thrown)),
  (1105, ce_li (ce_iload 6 1107)),
  (1107, ce_li (ce_icmp true false false 1112 1110)),
  (1112, ce_li (ce_iload 6 1114)),
  (1114, ce_li (ce_if true false true 1129 1117)),
  (1129, ce_li (ce_goto 3319)),
  (1132, ce_li (ce_aload 1 1133)),
  (1133, ce_li (ce_aload 0 1134))]
theorem tk_L_law_33 {nm : String} : ∀ x ∈ tb_L_law_33, P_L_law nm x.1 x.2 :=
  ce_fc (P := P_L_law nm) (ok_li (ok_iconst dL_law_1093)) (
  ce_fc (P := P_L_law nm) (ok_li (ok_iadd dL_law_1094)) (
  ce_fc (P := P_L_law nm) (ok_li (ok_iald dL_law_1095)) (
  ce_fc (P := P_L_law nm) (ok_call (ru_V (ci := 20) (C := RX21) (Tf := TX21) (N := 20) m_X21_change (by decide) (by decide) rfl gw_2341 gw_2338 gw_2339 gw_2340 gw_13 ⟨rfl, hp_X21_change⟩ dL_law_1096) ca_f) (
  ce_fc (P := P_L_law nm) (ok_li (ok_istore dL_law_1099)) (
  ce_fc (P := P_L_law nm) (ok_li (ok_aload_n dL_law_1101 rfl)) (
  ce_fc (P := P_L_law nm) (ok_call (ru_V (ci := 20) (C := RX21) (Tf := TX21) (N := 20) m_X21_thrown (by decide) (by decide) rfl gw_1586 gw_1583 gw_1584 gw_1585 gw_13 ⟨rfl, hp_X21_thrown⟩ dL_law_1102) ca_f) (
  ce_fc (P := P_L_law nm) (ok_li (ok_iload dL_law_1105)) (
  ce_fc (P := P_L_law nm) (ok_li (ok_icmp_eq dL_law_1107 (by decide))) (
  ce_fc (P := P_L_law nm) (ok_li (ok_iload dL_law_1112)) (
  ce_fc (P := P_L_law nm) (ok_li (ok_if_ne dL_law_1114 (by decide))) (
  ce_fc (P := P_L_law nm) (ok_li (ok_goto dL_law_1129 (by decide))) (
  ce_fc (P := P_L_law nm) (ok_li (ok_aload_n dL_law_1132 rfl)) (
  ce_fc (P := P_L_law nm) (ok_li (ok_aload_n dL_law_1133 rfl)) (
  ce_fn (P := P_L_law nm)))))))))))))))
noncomputable def tb_L_law_34 : List (Nat × ce_N) := [(1134, ce_li (ce_iload 5 1136)),
  (1136, ce_li (ce_push (.inl (.inl (1))) 1137)),
  (1137, ce_li (ce_bin ce_addo 1138)),
  (1138, ce_li (ce_iald 1139 1138)),
  (1139, ce_li (ce_aload 3 1140)),
  (1140, ce_call 3 1 6 1143 (.inr false) F_L_clash),
  (1143, ce_li (ce_istore 6 1145 9)),
  (1145, ce_li (ce_aload 2 1146)),
  (1146, ce_li (ce_aload 0 1147)),
  (1147, ce_li (ce_iload 5 1149)),
  (1149, ce_li (ce_push (.inl (.inl (1))) 1150)),
  (1150, ce_li (ce_bin ce_addo 1151)),
  (1151, ce_li (ce_iald 1152 1151)),
  (1152, ce_call 2 0 0 1155 (.inr false) (ce_CV 20 F_X21_clash))]
theorem tk_L_law_34 {nm : String} : ∀ x ∈ tb_L_law_34, P_L_law nm x.1 x.2 :=
  ce_fc (P := P_L_law nm) (ok_li (ok_iload dL_law_1134)) (
  ce_fc (P := P_L_law nm) (ok_li (ok_iconst dL_law_1136)) (
  ce_fc (P := P_L_law nm) (ok_li (ok_iadd dL_law_1137)) (
  ce_fc (P := P_L_law nm) (ok_li (ok_iald dL_law_1138)) (
  ce_fc (P := P_L_law nm) (ok_li (ok_aload_n dL_law_1139 rfl)) (
  ce_fc (P := P_L_law nm) (ok_call (ru_SX m_L_clash (by decide) (by decide) gw_1027 gw_1025 gw_1026 gw_0 hp_L_clash dL_law_1140) ca_f) (
  ce_fc (P := P_L_law nm) (ok_li (ok_istore dL_law_1143)) (
  ce_fc (P := P_L_law nm) (ok_li (ok_aload_n dL_law_1145 rfl)) (
  ce_fc (P := P_L_law nm) (ok_li (ok_aload_n dL_law_1146 rfl)) (
  ce_fc (P := P_L_law nm) (ok_li (ok_iload dL_law_1147)) (
  ce_fc (P := P_L_law nm) (ok_li (ok_iconst dL_law_1149)) (
  ce_fc (P := P_L_law nm) (ok_li (ok_iadd dL_law_1150)) (
  ce_fc (P := P_L_law nm) (ok_li (ok_iald dL_law_1151)) (
  ce_fc (P := P_L_law nm) (ok_call (ru_V (ci := 20) (C := RX21) (Tf := TX21) (N := 20) m_X21_clash (by decide) (by decide) rfl gw_2437 gw_2434 gw_2435 gw_2436 gw_13 ⟨rfl, hp_X21_clash⟩ dL_law_1152) ca_f) (
  ce_fn (P := P_L_law nm)))))))))))))))
noncomputable def tb_L_law_35 : List (Nat × ce_N) := [(1155, ce_li (ce_istore 7 1157 9)),
  (1157, ce_li (ce_aload 2 1158)),
  (1158, ce_call 1 0 0 1161 (.inr false) (ce_CV 20 F_X21_thrown)),
  (1161, ce_li (ce_iload 6 1163)),
  (1163, ce_li (ce_icmp true false false 1168 1166)),
  (1168, ce_li (ce_iload 6 1170)),
  (1170, ce_li (ce_if true false true 1185 1173)),
  (1185, ce_li (ce_goto 3319)),
  (1188, ce_li (ce_aload 1 1189)),
  (1189, ce_li (ce_aload 0 1190)),
  (1190, ce_li (ce_iload 5 1192)),
  (1192, ce_li (ce_push (.inl (.inl (1))) 1193)),
  (1193, ce_li (ce_bin ce_addo 1194)),
  (1194, ce_li (ce_iald 1195 1194))]
theorem tk_L_law_35 {nm : String} : ∀ x ∈ tb_L_law_35, P_L_law nm x.1 x.2 :=
  ce_fc (P := P_L_law nm) (ok_li (ok_istore dL_law_1155)) (
  ce_fc (P := P_L_law nm) (ok_li (ok_aload_n dL_law_1157 rfl)) (
  ce_fc (P := P_L_law nm) (ok_call (ru_V (ci := 20) (C := RX21) (Tf := TX21) (N := 20) m_X21_thrown (by decide) (by decide) rfl gw_1586 gw_1583 gw_1584 gw_1585 gw_13 ⟨rfl, hp_X21_thrown⟩ dL_law_1158) ca_f) (
  ce_fc (P := P_L_law nm) (ok_li (ok_iload dL_law_1161)) (
  ce_fc (P := P_L_law nm) (ok_li (ok_icmp_eq dL_law_1163 (by decide))) (
  ce_fc (P := P_L_law nm) (ok_li (ok_iload dL_law_1168)) (
  ce_fc (P := P_L_law nm) (ok_li (ok_if_ne dL_law_1170 (by decide))) (
  ce_fc (P := P_L_law nm) (ok_li (ok_goto dL_law_1185 (by decide))) (
  ce_fc (P := P_L_law nm) (ok_li (ok_aload_n dL_law_1188 rfl)) (
  ce_fc (P := P_L_law nm) (ok_li (ok_aload_n dL_law_1189 rfl)) (
  ce_fc (P := P_L_law nm) (ok_li (ok_iload dL_law_1190)) (
  ce_fc (P := P_L_law nm) (ok_li (ok_iconst dL_law_1192)) (
  ce_fc (P := P_L_law nm) (ok_li (ok_iadd dL_law_1193)) (
  ce_fc (P := P_L_law nm) (ok_li (ok_iald dL_law_1194)) (
  ce_fn (P := P_L_law nm)))))))))))))))
noncomputable def tb_L_law_36 : List (Nat × ce_N) := [(1195, ce_li (ce_aload 3 1196)),
  (1196, ce_call 3 1 6 1199 (.inr false) F_L_clashNumber),
  (1199, ce_li (ce_istore 6 1201 9)),
  (1201, ce_li (ce_aload 2 1202)),
  (1202, ce_li (ce_aload 0 1203)),
  (1203, ce_li (ce_iload 5 1205)),
  (1205, ce_li (ce_push (.inl (.inl (1))) 1206)),
  (1206, ce_li (ce_bin ce_addo 1207)),
  (1207, ce_li (ce_iald 1208 1207)),
  (1208, ce_call 2 0 0 1211 (.inr false) (ce_CV 20 F_X21_clashNumber)),
  (1211, ce_li (ce_istore 7 1213 9)),
  (1213, ce_li (ce_aload 2 1214)),
  (1214, ce_call 1 0 0 1217 (.inr false) (ce_CV 20 F_X21_thrown)),
  (1217, ce_li (ce_iload 6 1219))]
theorem tk_L_law_36 {nm : String} : ∀ x ∈ tb_L_law_36, P_L_law nm x.1 x.2 :=
  ce_fc (P := P_L_law nm) (ok_li (ok_aload_n dL_law_1195 rfl)) (
  ce_fc (P := P_L_law nm) (ok_call (ru_SX m_L_clashNumber (by decide) (by decide) gw_1034 gw_1032 gw_1033 gw_0 hp_L_clashNumber dL_law_1196) ca_f) (
  ce_fc (P := P_L_law nm) (ok_li (ok_istore dL_law_1199)) (
  ce_fc (P := P_L_law nm) (ok_li (ok_aload_n dL_law_1201 rfl)) (
  ce_fc (P := P_L_law nm) (ok_li (ok_aload_n dL_law_1202 rfl)) (
  ce_fc (P := P_L_law nm) (ok_li (ok_iload dL_law_1203)) (
  ce_fc (P := P_L_law nm) (ok_li (ok_iconst dL_law_1205)) (
  ce_fc (P := P_L_law nm) (ok_li (ok_iadd dL_law_1206)) (
  ce_fc (P := P_L_law nm) (ok_li (ok_iald dL_law_1207)) (
  ce_fc (P := P_L_law nm) (ok_call (ru_V (ci := 20) (C := RX21) (Tf := TX21) (N := 20) m_X21_clashNumber (by decide) (by decide) rfl gw_2441 gw_2438 gw_2439 gw_2440 gw_13 ⟨rfl, hp_X21_clashNumber⟩ dL_law_1208) ca_f) (
  ce_fc (P := P_L_law nm) (ok_li (ok_istore dL_law_1211)) (
  ce_fc (P := P_L_law nm) (ok_li (ok_aload_n dL_law_1213 rfl)) (
  ce_fc (P := P_L_law nm) (ok_call (ru_V (ci := 20) (C := RX21) (Tf := TX21) (N := 20) m_X21_thrown (by decide) (by decide) rfl gw_1586 gw_1583 gw_1584 gw_1585 gw_13 ⟨rfl, hp_X21_thrown⟩ dL_law_1214) ca_f) (
  ce_fc (P := P_L_law nm) (ok_li (ok_iload dL_law_1217)) (
  ce_fn (P := P_L_law nm)))))))))))))))
noncomputable def tb_L_law_37 : List (Nat × ce_N) := [(1219, ce_li (ce_icmp true false false 1224 1222)),
  (1224, ce_li (ce_iload 6 1226)),
  (1226, ce_li (ce_if true false true 1241 1229)),
  (1241, ce_li (ce_goto 3319)),
  (1244, ce_li (ce_aload 1 1245)),
  (1245, ce_li (ce_aload 0 1246)),
  (1246, ce_li (ce_iload 5 1248)),
  (1248, ce_li (ce_push (.inl (.inl (1))) 1249)),
  (1249, ce_li (ce_bin ce_addo 1250)),
  (1250, ce_li (ce_iald 1251 1250)),
  (1251, ce_li (ce_aload 3 1252)),
  (1252, ce_call 3 1 6 1255 (.inr false) F_L_from),
  (1255, ce_li (ce_istore 6 1257 9)),
  (1257, ce_li (ce_aload 2 1258))]
theorem tk_L_law_37 {nm : String} : ∀ x ∈ tb_L_law_37, P_L_law nm x.1 x.2 :=
  ce_fc (P := P_L_law nm) (ok_li (ok_icmp_eq dL_law_1219 (by decide))) (
  ce_fc (P := P_L_law nm) (ok_li (ok_iload dL_law_1224)) (
  ce_fc (P := P_L_law nm) (ok_li (ok_if_ne dL_law_1226 (by decide))) (
  ce_fc (P := P_L_law nm) (ok_li (ok_goto dL_law_1241 (by decide))) (
  ce_fc (P := P_L_law nm) (ok_li (ok_aload_n dL_law_1244 rfl)) (
  ce_fc (P := P_L_law nm) (ok_li (ok_aload_n dL_law_1245 rfl)) (
  ce_fc (P := P_L_law nm) (ok_li (ok_iload dL_law_1246)) (
  ce_fc (P := P_L_law nm) (ok_li (ok_iconst dL_law_1248)) (
  ce_fc (P := P_L_law nm) (ok_li (ok_iadd dL_law_1249)) (
  ce_fc (P := P_L_law nm) (ok_li (ok_iald dL_law_1250)) (
  ce_fc (P := P_L_law nm) (ok_li (ok_aload_n dL_law_1251 rfl)) (
  ce_fc (P := P_L_law nm) (ok_call (ru_SX m_L_from (by decide) (by decide) gw_1041 gw_1039 gw_1040 gw_0 hp_L_from dL_law_1252) ca_f) (
  ce_fc (P := P_L_law nm) (ok_li (ok_istore dL_law_1255)) (
  ce_fc (P := P_L_law nm) (ok_li (ok_aload_n dL_law_1257 rfl)) (
  ce_fn (P := P_L_law nm)))))))))))))))
noncomputable def tb_L_law_38 : List (Nat × ce_N) := [(1258, ce_li (ce_aload 0 1259)),
  (1259, ce_li (ce_iload 5 1261)),
  (1261, ce_li (ce_push (.inl (.inl (1))) 1262)),
  (1262, ce_li (ce_bin ce_addo 1263)),
  (1263, ce_li (ce_iald 1264 1263)),
  (1264, ce_call 2 0 0 1267 (.inr false) (ce_CV 20 F_X21_from)),
  (1267, ce_li (ce_istore 7 1269 9)),
  (1269, ce_li (ce_aload 2 1270)),
  (1270, ce_call 1 0 0 1273 (.inr false) (ce_CV 20 F_X21_thrown)),
  (1273, ce_li (ce_iload 6 1275)),
  (1275, ce_li (ce_icmp true false false 1280 1278)),
  (1280, ce_li (ce_iload 6 1282)),
  (1282, ce_li (ce_if true false true 1297 1285)),
  (1297, ce_li (ce_goto 3319))]
theorem tk_L_law_38 {nm : String} : ∀ x ∈ tb_L_law_38, P_L_law nm x.1 x.2 :=
  ce_fc (P := P_L_law nm) (ok_li (ok_aload_n dL_law_1258 rfl)) (
  ce_fc (P := P_L_law nm) (ok_li (ok_iload dL_law_1259)) (
  ce_fc (P := P_L_law nm) (ok_li (ok_iconst dL_law_1261)) (
  ce_fc (P := P_L_law nm) (ok_li (ok_iadd dL_law_1262)) (
  ce_fc (P := P_L_law nm) (ok_li (ok_iald dL_law_1263)) (
  ce_fc (P := P_L_law nm) (ok_call (ru_V (ci := 20) (C := RX21) (Tf := TX21) (N := 20) m_X21_from (by decide) (by decide) rfl gw_2445 gw_2442 gw_2443 gw_2444 gw_13 ⟨rfl, hp_X21_from⟩ dL_law_1264) ca_f) (
  ce_fc (P := P_L_law nm) (ok_li (ok_istore dL_law_1267)) (
  ce_fc (P := P_L_law nm) (ok_li (ok_aload_n dL_law_1269 rfl)) (
  ce_fc (P := P_L_law nm) (ok_call (ru_V (ci := 20) (C := RX21) (Tf := TX21) (N := 20) m_X21_thrown (by decide) (by decide) rfl gw_1586 gw_1583 gw_1584 gw_1585 gw_13 ⟨rfl, hp_X21_thrown⟩ dL_law_1270) ca_f) (
  ce_fc (P := P_L_law nm) (ok_li (ok_iload dL_law_1273)) (
  ce_fc (P := P_L_law nm) (ok_li (ok_icmp_eq dL_law_1275 (by decide))) (
  ce_fc (P := P_L_law nm) (ok_li (ok_iload dL_law_1280)) (
  ce_fc (P := P_L_law nm) (ok_li (ok_if_ne dL_law_1282 (by decide))) (
  ce_fc (P := P_L_law nm) (ok_li (ok_goto dL_law_1297 (by decide))) (
  ce_fn (P := P_L_law nm)))))))))))))))
noncomputable def tb_L_law_39 : List (Nat × ce_N) := [(1300, ce_li (ce_aload 1 1301)),
  (1301, ce_li (ce_aload 0 1302)),
  (1302, ce_li (ce_iload 5 1304)),
  (1304, ce_li (ce_push (.inl (.inl (1))) 1305)),
  (1305, ce_li (ce_bin ce_addo 1306)),
  (1306, ce_li (ce_iald 1307 1306)),
  (1307, ce_li (ce_aload 0 1308)),
  (1308, ce_li (ce_iload 5 1310)),
  (1310, ce_li (ce_push (.inl (.inl (2))) 1311)),
  (1311, ce_li (ce_bin ce_addo 1312)),
  (1312, ce_li (ce_iald 1313 1312)),
  (1313, ce_li (ce_if true false false 1320 1316)),
  (1316, ce_li (ce_push (.inl (.inl (1))) 1317)),
  (1317, ce_li (ce_goto 1321))]
theorem tk_L_law_39 {nm : String} : ∀ x ∈ tb_L_law_39, P_L_law nm x.1 x.2 :=
  ce_fc (P := P_L_law nm) (ok_li (ok_aload_n dL_law_1300 rfl)) (
  ce_fc (P := P_L_law nm) (ok_li (ok_aload_n dL_law_1301 rfl)) (
  ce_fc (P := P_L_law nm) (ok_li (ok_iload dL_law_1302)) (
  ce_fc (P := P_L_law nm) (ok_li (ok_iconst dL_law_1304)) (
  ce_fc (P := P_L_law nm) (ok_li (ok_iadd dL_law_1305)) (
  ce_fc (P := P_L_law nm) (ok_li (ok_iald dL_law_1306)) (
  ce_fc (P := P_L_law nm) (ok_li (ok_aload_n dL_law_1307 rfl)) (
  ce_fc (P := P_L_law nm) (ok_li (ok_iload dL_law_1308)) (
  ce_fc (P := P_L_law nm) (ok_li (ok_iconst dL_law_1310)) (
  ce_fc (P := P_L_law nm) (ok_li (ok_iadd dL_law_1311)) (
  ce_fc (P := P_L_law nm) (ok_li (ok_iald dL_law_1312)) (
  ce_fc (P := P_L_law nm) (ok_li (ok_if_eq dL_law_1313 (by decide))) (
  ce_fc (P := P_L_law nm) (ok_li (ok_iconst dL_law_1316)) (
  ce_fc (P := P_L_law nm) (ok_li (ok_goto dL_law_1317 (by decide))) (
  ce_fn (P := P_L_law nm)))))))))))))))
noncomputable def tb_L_law_40 : List (Nat × ce_N) := [(1320, ce_li (ce_push (.inl (.inl (0))) 1321)),
  (1321, ce_li (ce_aload 3 1322)),
  (1322, ce_call 4 1 6 1325 (.inr false) F_L_free),
  (1325, ce_li (ce_istore 6 1327 9)),
  (1327, ce_li (ce_aload 2 1328)),
  (1328, ce_li (ce_aload 0 1329)),
  (1329, ce_li (ce_iload 5 1331)),
  (1331, ce_li (ce_push (.inl (.inl (1))) 1332)),
  (1332, ce_li (ce_bin ce_addo 1333)),
  (1333, ce_li (ce_iald 1334 1333)),
  (1334, ce_li (ce_aload 0 1335)),
  (1335, ce_li (ce_iload 5 1337)),
  (1337, ce_li (ce_push (.inl (.inl (2))) 1338)),
  (1338, ce_li (ce_bin ce_addo 1339))]
theorem tk_L_law_40 {nm : String} : ∀ x ∈ tb_L_law_40, P_L_law nm x.1 x.2 :=
  ce_fc (P := P_L_law nm) (ok_li (ok_iconst dL_law_1320)) (
  ce_fc (P := P_L_law nm) (ok_li (ok_aload_n dL_law_1321 rfl)) (
  ce_fc (P := P_L_law nm) (ok_call (ru_SX m_L_free (by decide) (by decide) gw_1048 gw_1046 gw_1047 gw_0 hp_L_free dL_law_1322) ca_f) (
  ce_fc (P := P_L_law nm) (ok_li (ok_istore dL_law_1325)) (
  ce_fc (P := P_L_law nm) (ok_li (ok_aload_n dL_law_1327 rfl)) (
  ce_fc (P := P_L_law nm) (ok_li (ok_aload_n dL_law_1328 rfl)) (
  ce_fc (P := P_L_law nm) (ok_li (ok_iload dL_law_1329)) (
  ce_fc (P := P_L_law nm) (ok_li (ok_iconst dL_law_1331)) (
  ce_fc (P := P_L_law nm) (ok_li (ok_iadd dL_law_1332)) (
  ce_fc (P := P_L_law nm) (ok_li (ok_iald dL_law_1333)) (
  ce_fc (P := P_L_law nm) (ok_li (ok_aload_n dL_law_1334 rfl)) (
  ce_fc (P := P_L_law nm) (ok_li (ok_iload dL_law_1335)) (
  ce_fc (P := P_L_law nm) (ok_li (ok_iconst dL_law_1337)) (
  ce_fc (P := P_L_law nm) (ok_li (ok_iadd dL_law_1338)) (
  ce_fn (P := P_L_law nm)))))))))))))))
noncomputable def tb_L_law_41 : List (Nat × ce_N) := [(1339, ce_li (ce_iald 1340 1339)),
  (1340, ce_li (ce_if true false false 1347 1343)),
  (1343, ce_li (ce_push (.inl (.inl (1))) 1344)),
  (1344, ce_li (ce_goto 1348)),
  (1347, ce_li (ce_push (.inl (.inl (0))) 1348)),
  (1348, ce_call 3 0 0 1351 (.inr false) (ce_CV 20 F_X21_free_)),
  (1351, ce_li (ce_istore 7 1353 9)),
  (1353, ce_li (ce_aload 2 1354)),
  (1354, ce_call 1 0 0 1357 (.inr false) (ce_CV 20 F_X21_thrown)),
  (1357, ce_li (ce_iload 6 1359)),
  (1359, ce_li (ce_icmp true false false 1364 1362)),
  (1364, ce_li (ce_iload 6 1366)),
  (1366, ce_li (ce_if true false true 1381 1369)),
  (1381, ce_li (ce_goto 3319))]
theorem tk_L_law_41 {nm : String} : ∀ x ∈ tb_L_law_41, P_L_law nm x.1 x.2 :=
  ce_fc (P := P_L_law nm) (ok_li (ok_iald dL_law_1339)) (
  ce_fc (P := P_L_law nm) (ok_li (ok_if_eq dL_law_1340 (by decide))) (
  ce_fc (P := P_L_law nm) (ok_li (ok_iconst dL_law_1343)) (
  ce_fc (P := P_L_law nm) (ok_li (ok_goto dL_law_1344 (by decide))) (
  ce_fc (P := P_L_law nm) (ok_li (ok_iconst dL_law_1347)) (
  ce_fc (P := P_L_law nm) (ok_call (ru_V (ci := 20) (C := RX21) (Tf := TX21) (N := 20) m_X21_free_ (by decide) (by decide) rfl gw_2449 gw_2446 gw_2447 gw_2448 gw_13 ⟨rfl, hp_X21_free_⟩ dL_law_1348) ca_f) (
  ce_fc (P := P_L_law nm) (ok_li (ok_istore dL_law_1351)) (
  ce_fc (P := P_L_law nm) (ok_li (ok_aload_n dL_law_1353 rfl)) (
  ce_fc (P := P_L_law nm) (ok_call (ru_V (ci := 20) (C := RX21) (Tf := TX21) (N := 20) m_X21_thrown (by decide) (by decide) rfl gw_1586 gw_1583 gw_1584 gw_1585 gw_13 ⟨rfl, hp_X21_thrown⟩ dL_law_1354) ca_f) (
  ce_fc (P := P_L_law nm) (ok_li (ok_iload dL_law_1357)) (
  ce_fc (P := P_L_law nm) (ok_li (ok_icmp_eq dL_law_1359 (by decide))) (
  ce_fc (P := P_L_law nm) (ok_li (ok_iload dL_law_1364)) (
  ce_fc (P := P_L_law nm) (ok_li (ok_if_ne dL_law_1366 (by decide))) (
  ce_fc (P := P_L_law nm) (ok_li (ok_goto dL_law_1381 (by decide))) (
  ce_fn (P := P_L_law nm)))))))))))))))
noncomputable def tb_L_law_42 : List (Nat × ce_N) := [(1384, ce_li (ce_aload 1 1385)),
  (1385, ce_li (ce_aload 0 1386)),
  (1386, ce_li (ce_iload 5 1388)),
  (1388, ce_li (ce_push (.inl (.inl (1))) 1389)),
  (1389, ce_li (ce_bin ce_addo 1390)),
  (1390, ce_li (ce_iald 1391 1390)),
  (1391, ce_li (ce_aload 0 1392)),
  (1392, ce_li (ce_iload 5 1394)),
  (1394, ce_li (ce_push (.inl (.inl (2))) 1395)),
  (1395, ce_li (ce_bin ce_addo 1396)),
  (1396, ce_li (ce_iald 1397 1396)),
  (1397, ce_li (ce_if true false false 1404 1400)),
  (1400, ce_li (ce_push (.inl (.inl (1))) 1401)),
  (1401, ce_li (ce_goto 1405))]
theorem tk_L_law_42 {nm : String} : ∀ x ∈ tb_L_law_42, P_L_law nm x.1 x.2 :=
  ce_fc (P := P_L_law nm) (ok_li (ok_aload_n dL_law_1384 rfl)) (
  ce_fc (P := P_L_law nm) (ok_li (ok_aload_n dL_law_1385 rfl)) (
  ce_fc (P := P_L_law nm) (ok_li (ok_iload dL_law_1386)) (
  ce_fc (P := P_L_law nm) (ok_li (ok_iconst dL_law_1388)) (
  ce_fc (P := P_L_law nm) (ok_li (ok_iadd dL_law_1389)) (
  ce_fc (P := P_L_law nm) (ok_li (ok_iald dL_law_1390)) (
  ce_fc (P := P_L_law nm) (ok_li (ok_aload_n dL_law_1391 rfl)) (
  ce_fc (P := P_L_law nm) (ok_li (ok_iload dL_law_1392)) (
  ce_fc (P := P_L_law nm) (ok_li (ok_iconst dL_law_1394)) (
  ce_fc (P := P_L_law nm) (ok_li (ok_iadd dL_law_1395)) (
  ce_fc (P := P_L_law nm) (ok_li (ok_iald dL_law_1396)) (
  ce_fc (P := P_L_law nm) (ok_li (ok_if_eq dL_law_1397 (by decide))) (
  ce_fc (P := P_L_law nm) (ok_li (ok_iconst dL_law_1400)) (
  ce_fc (P := P_L_law nm) (ok_li (ok_goto dL_law_1401 (by decide))) (
  ce_fn (P := P_L_law nm)))))))))))))))
noncomputable def tb_L_law_43 : List (Nat × ce_N) := [(1404, ce_li (ce_push (.inl (.inl (0))) 1405)),
  (1405, ce_li (ce_aload 3 1406)),
  (1406, ce_call 4 1 6 1409 (.inr false) F_L_widest),
  (1409, ce_li (ce_istore 6 1411 9)),
  (1411, ce_li (ce_aload 2 1412)),
  (1412, ce_li (ce_aload 0 1413)),
  (1413, ce_li (ce_iload 5 1415)),
  (1415, ce_li (ce_push (.inl (.inl (1))) 1416)),
  (1416, ce_li (ce_bin ce_addo 1417)),
  (1417, ce_li (ce_iald 1418 1417)),
  (1418, ce_li (ce_aload 0 1419)),
  (1419, ce_li (ce_iload 5 1421)),
  (1421, ce_li (ce_push (.inl (.inl (2))) 1422)),
  (1422, ce_li (ce_bin ce_addo 1423))]
theorem tk_L_law_43 {nm : String} : ∀ x ∈ tb_L_law_43, P_L_law nm x.1 x.2 :=
  ce_fc (P := P_L_law nm) (ok_li (ok_iconst dL_law_1404)) (
  ce_fc (P := P_L_law nm) (ok_li (ok_aload_n dL_law_1405 rfl)) (
  ce_fc (P := P_L_law nm) (ok_call (ru_SX m_L_widest (by decide) (by decide) gw_1063 gw_1061 gw_1062 gw_0 hp_L_widest dL_law_1406) ca_f) (
  ce_fc (P := P_L_law nm) (ok_li (ok_istore dL_law_1409)) (
  ce_fc (P := P_L_law nm) (ok_li (ok_aload_n dL_law_1411 rfl)) (
  ce_fc (P := P_L_law nm) (ok_li (ok_aload_n dL_law_1412 rfl)) (
  ce_fc (P := P_L_law nm) (ok_li (ok_iload dL_law_1413)) (
  ce_fc (P := P_L_law nm) (ok_li (ok_iconst dL_law_1415)) (
  ce_fc (P := P_L_law nm) (ok_li (ok_iadd dL_law_1416)) (
  ce_fc (P := P_L_law nm) (ok_li (ok_iald dL_law_1417)) (
  ce_fc (P := P_L_law nm) (ok_li (ok_aload_n dL_law_1418 rfl)) (
  ce_fc (P := P_L_law nm) (ok_li (ok_iload dL_law_1419)) (
  ce_fc (P := P_L_law nm) (ok_li (ok_iconst dL_law_1421)) (
  ce_fc (P := P_L_law nm) (ok_li (ok_iadd dL_law_1422)) (
  ce_fn (P := P_L_law nm)))))))))))))))
noncomputable def tb_L_law_44 : List (Nat × ce_N) := [(1423, ce_li (ce_iald 1424 1423)),
  (1424, ce_li (ce_if true false false 1431 1427)),
  (1427, ce_li (ce_push (.inl (.inl (1))) 1428)),
  (1428, ce_li (ce_goto 1432)),
  (1431, ce_li (ce_push (.inl (.inl (0))) 1432)),
  (1432, ce_call 3 0 0 1435 (.inr false) (ce_CV 20 F_X21_widest)),
  (1435, ce_li (ce_istore 7 1437 9)),
  (1437, ce_li (ce_aload 2 1438)),
  (1438, ce_call 1 0 0 1441 (.inr false) (ce_CV 20 F_X21_thrown)),
  (1441, ce_li (ce_iload 6 1443)),
  (1443, ce_li (ce_icmp true false false 1448 1446)),
  (1448, ce_li (ce_iload 6 1450)),
  (1450, ce_li (ce_if true false true 1465 1453)),
  (1465, ce_li (ce_goto 3319))]
theorem tk_L_law_44 {nm : String} : ∀ x ∈ tb_L_law_44, P_L_law nm x.1 x.2 :=
  ce_fc (P := P_L_law nm) (ok_li (ok_iald dL_law_1423)) (
  ce_fc (P := P_L_law nm) (ok_li (ok_if_eq dL_law_1424 (by decide))) (
  ce_fc (P := P_L_law nm) (ok_li (ok_iconst dL_law_1427)) (
  ce_fc (P := P_L_law nm) (ok_li (ok_goto dL_law_1428 (by decide))) (
  ce_fc (P := P_L_law nm) (ok_li (ok_iconst dL_law_1431)) (
  ce_fc (P := P_L_law nm) (ok_call (ru_V (ci := 20) (C := RX21) (Tf := TX21) (N := 20) m_X21_widest (by decide) (by decide) rfl gw_2457 gw_2454 gw_2455 gw_2456 gw_13 ⟨rfl, hp_X21_widest⟩ dL_law_1432) ca_f) (
  ce_fc (P := P_L_law nm) (ok_li (ok_istore dL_law_1435)) (
  ce_fc (P := P_L_law nm) (ok_li (ok_aload_n dL_law_1437 rfl)) (
  ce_fc (P := P_L_law nm) (ok_call (ru_V (ci := 20) (C := RX21) (Tf := TX21) (N := 20) m_X21_thrown (by decide) (by decide) rfl gw_1586 gw_1583 gw_1584 gw_1585 gw_13 ⟨rfl, hp_X21_thrown⟩ dL_law_1438) ca_f) (
  ce_fc (P := P_L_law nm) (ok_li (ok_iload dL_law_1441)) (
  ce_fc (P := P_L_law nm) (ok_li (ok_icmp_eq dL_law_1443 (by decide))) (
  ce_fc (P := P_L_law nm) (ok_li (ok_iload dL_law_1448)) (
  ce_fc (P := P_L_law nm) (ok_li (ok_if_ne dL_law_1450 (by decide))) (
  ce_fc (P := P_L_law nm) (ok_li (ok_goto dL_law_1465 (by decide))) (
  ce_fn (P := P_L_law nm)))))))))))))))
noncomputable def tb_L_law_45 : List (Nat × ce_N) := [(1468, ce_li (ce_aload 1 1469)),
  (1469, ce_li (ce_aload 0 1470)),
  (1470, ce_li (ce_iload 5 1472)),
  (1472, ce_li (ce_push (.inl (.inl (1))) 1473)),
  (1473, ce_li (ce_bin ce_addo 1474)),
  (1474, ce_li (ce_iald 1475 1474)),
  (1475, ce_li (ce_aload 3 1476)),
  (1476, ce_call 3 1 6 1479 (.inr false) F_L_parts),
  (1479, ce_li (ce_istore 6 1481 9)),
  (1481, ce_li (ce_aload 2 1482)),
  (1482, ce_li (ce_aload 0 1483)),
  (1483, ce_li (ce_iload 5 1485)),
  (1485, ce_li (ce_push (.inl (.inl (1))) 1486)),
  (1486, ce_li (ce_bin ce_addo 1487))]
theorem tk_L_law_45 {nm : String} : ∀ x ∈ tb_L_law_45, P_L_law nm x.1 x.2 :=
  ce_fc (P := P_L_law nm) (ok_li (ok_aload_n dL_law_1468 rfl)) (
  ce_fc (P := P_L_law nm) (ok_li (ok_aload_n dL_law_1469 rfl)) (
  ce_fc (P := P_L_law nm) (ok_li (ok_iload dL_law_1470)) (
  ce_fc (P := P_L_law nm) (ok_li (ok_iconst dL_law_1472)) (
  ce_fc (P := P_L_law nm) (ok_li (ok_iadd dL_law_1473)) (
  ce_fc (P := P_L_law nm) (ok_li (ok_iald dL_law_1474)) (
  ce_fc (P := P_L_law nm) (ok_li (ok_aload_n dL_law_1475 rfl)) (
  ce_fc (P := P_L_law nm) (ok_call (ru_SX m_L_parts (by decide) (by decide) gw_1070 gw_1068 gw_1069 gw_0 hp_L_parts dL_law_1476) ca_f) (
  ce_fc (P := P_L_law nm) (ok_li (ok_istore dL_law_1479)) (
  ce_fc (P := P_L_law nm) (ok_li (ok_aload_n dL_law_1481 rfl)) (
  ce_fc (P := P_L_law nm) (ok_li (ok_aload_n dL_law_1482 rfl)) (
  ce_fc (P := P_L_law nm) (ok_li (ok_iload dL_law_1483)) (
  ce_fc (P := P_L_law nm) (ok_li (ok_iconst dL_law_1485)) (
  ce_fc (P := P_L_law nm) (ok_li (ok_iadd dL_law_1486)) (
  ce_fn (P := P_L_law nm)))))))))))))))
noncomputable def tb_L_law_46 : List (Nat × ce_N) := [(1487, ce_li (ce_iald 1488 1487)),
  (1488, ce_call 2 0 0 1491 (.inr false) (ce_CV 20 F_X21_parts)),
  (1491, ce_li (ce_istore 7 1493 9)),
  (1493, ce_li (ce_aload 2 1494)),
  (1494, ce_call 1 0 0 1497 (.inr false) (ce_CV 20 F_X21_thrown)),
  (1497, ce_li (ce_iload 6 1499)),
  (1499, ce_li (ce_icmp true false false 1504 1502)),
  (1504, ce_li (ce_iload 6 1506)),
  (1506, ce_li (ce_if true false true 1521 1509)),
  (1521, ce_li (ce_goto 3319)),
  (1524, ce_li (ce_aload 1 1525)),
  (1525, ce_li (ce_aload 0 1526)),
  (1526, ce_li (ce_iload 5 1528)),
  (1528, ce_li (ce_push (.inl (.inl (1))) 1529))]
theorem tk_L_law_46 {nm : String} : ∀ x ∈ tb_L_law_46, P_L_law nm x.1 x.2 :=
  ce_fc (P := P_L_law nm) (ok_li (ok_iald dL_law_1487)) (
  ce_fc (P := P_L_law nm) (ok_call (ru_V (ci := 20) (C := RX21) (Tf := TX21) (N := 20) m_X21_parts (by decide) (by decide) rfl gw_2461 gw_2458 gw_2459 gw_2460 gw_13 ⟨rfl, hp_X21_parts⟩ dL_law_1488) ca_f) (
  ce_fc (P := P_L_law nm) (ok_li (ok_istore dL_law_1491)) (
  ce_fc (P := P_L_law nm) (ok_li (ok_aload_n dL_law_1493 rfl)) (
  ce_fc (P := P_L_law nm) (ok_call (ru_V (ci := 20) (C := RX21) (Tf := TX21) (N := 20) m_X21_thrown (by decide) (by decide) rfl gw_1586 gw_1583 gw_1584 gw_1585 gw_13 ⟨rfl, hp_X21_thrown⟩ dL_law_1494) ca_f) (
  ce_fc (P := P_L_law nm) (ok_li (ok_iload dL_law_1497)) (
  ce_fc (P := P_L_law nm) (ok_li (ok_icmp_eq dL_law_1499 (by decide))) (
  ce_fc (P := P_L_law nm) (ok_li (ok_iload dL_law_1504)) (
  ce_fc (P := P_L_law nm) (ok_li (ok_if_ne dL_law_1506 (by decide))) (
  ce_fc (P := P_L_law nm) (ok_li (ok_goto dL_law_1521 (by decide))) (
  ce_fc (P := P_L_law nm) (ok_li (ok_aload_n dL_law_1524 rfl)) (
  ce_fc (P := P_L_law nm) (ok_li (ok_aload_n dL_law_1525 rfl)) (
  ce_fc (P := P_L_law nm) (ok_li (ok_iload dL_law_1526)) (
  ce_fc (P := P_L_law nm) (ok_li (ok_iconst dL_law_1528)) (
  ce_fn (P := P_L_law nm)))))))))))))))
noncomputable def tb_L_law_47 : List (Nat × ce_N) := [(1529, ce_li (ce_bin ce_addo 1530)),
  (1530, ce_li (ce_iald 1531 1530)),
  (1531, ce_li (ce_aload 0 1532)),
  (1532, ce_li (ce_iload 5 1534)),
  (1534, ce_li (ce_push (.inl (.inl (2))) 1535)),
  (1535, ce_li (ce_bin ce_addo 1536)),
  (1536, ce_li (ce_iald 1537 1536)),
  (1537, ce_li (ce_aload 3 1538)),
  (1538, ce_call 4 1 6 1541 (.inr false) F_L_kindOf),
  (1541, ce_li (ce_istore 6 1543 9)),
  (1543, ce_li (ce_aload 2 1544)),
  (1544, ce_li (ce_aload 0 1545)),
  (1545, ce_li (ce_iload 5 1547)),
  (1547, ce_li (ce_push (.inl (.inl (1))) 1548))]
theorem tk_L_law_47 {nm : String} : ∀ x ∈ tb_L_law_47, P_L_law nm x.1 x.2 :=
  ce_fc (P := P_L_law nm) (ok_li (ok_iadd dL_law_1529)) (
  ce_fc (P := P_L_law nm) (ok_li (ok_iald dL_law_1530)) (
  ce_fc (P := P_L_law nm) (ok_li (ok_aload_n dL_law_1531 rfl)) (
  ce_fc (P := P_L_law nm) (ok_li (ok_iload dL_law_1532)) (
  ce_fc (P := P_L_law nm) (ok_li (ok_iconst dL_law_1534)) (
  ce_fc (P := P_L_law nm) (ok_li (ok_iadd dL_law_1535)) (
  ce_fc (P := P_L_law nm) (ok_li (ok_iald dL_law_1536)) (
  ce_fc (P := P_L_law nm) (ok_li (ok_aload_n dL_law_1537 rfl)) (
  ce_fc (P := P_L_law nm) (ok_call (ru_SX m_L_kindOf (by decide) (by decide) gw_1077 gw_1075 gw_1076 gw_0 hp_L_kindOf dL_law_1538) ca_f) (
  ce_fc (P := P_L_law nm) (ok_li (ok_istore dL_law_1541)) (
  ce_fc (P := P_L_law nm) (ok_li (ok_aload_n dL_law_1543 rfl)) (
  ce_fc (P := P_L_law nm) (ok_li (ok_aload_n dL_law_1544 rfl)) (
  ce_fc (P := P_L_law nm) (ok_li (ok_iload dL_law_1545)) (
  ce_fc (P := P_L_law nm) (ok_li (ok_iconst dL_law_1547)) (
  ce_fn (P := P_L_law nm)))))))))))))))
noncomputable def tb_L_law_48 : List (Nat × ce_N) := [(1548, ce_li (ce_bin ce_addo 1549)),
  (1549, ce_li (ce_iald 1550 1549)),
  (1550, ce_li (ce_aload 0 1551)),
  (1551, ce_li (ce_iload 5 1553)),
  (1553, ce_li (ce_push (.inl (.inl (2))) 1554)),
  (1554, ce_li (ce_bin ce_addo 1555)),
  (1555, ce_li (ce_iald 1556 1555)),
  (1556, ce_call 3 0 0 1559 (.inr false) (ce_CV 20 F_X21_kindOf)),
  (1559, ce_li (ce_istore 7 1561 9)),
  (1561, ce_li (ce_aload 2 1562)),
  (1562, ce_call 1 0 0 1565 (.inr false) (ce_CV 20 F_X21_thrown)),
  (1565, ce_li (ce_iload 6 1567)),
  (1567, ce_li (ce_icmp true false false 1572 1570)),
  (1572, ce_li (ce_iload 6 1574))]
theorem tk_L_law_48 {nm : String} : ∀ x ∈ tb_L_law_48, P_L_law nm x.1 x.2 :=
  ce_fc (P := P_L_law nm) (ok_li (ok_iadd dL_law_1548)) (
  ce_fc (P := P_L_law nm) (ok_li (ok_iald dL_law_1549)) (
  ce_fc (P := P_L_law nm) (ok_li (ok_aload_n dL_law_1550 rfl)) (
  ce_fc (P := P_L_law nm) (ok_li (ok_iload dL_law_1551)) (
  ce_fc (P := P_L_law nm) (ok_li (ok_iconst dL_law_1553)) (
  ce_fc (P := P_L_law nm) (ok_li (ok_iadd dL_law_1554)) (
  ce_fc (P := P_L_law nm) (ok_li (ok_iald dL_law_1555)) (
  ce_fc (P := P_L_law nm) (ok_call (ru_V (ci := 20) (C := RX21) (Tf := TX21) (N := 20) m_X21_kindOf (by decide) (by decide) rfl gw_2465 gw_2462 gw_2463 gw_2464 gw_13 ⟨rfl, hp_X21_kindOf⟩ dL_law_1556) ca_f) (
  ce_fc (P := P_L_law nm) (ok_li (ok_istore dL_law_1559)) (
  ce_fc (P := P_L_law nm) (ok_li (ok_aload_n dL_law_1561 rfl)) (
  ce_fc (P := P_L_law nm) (ok_call (ru_V (ci := 20) (C := RX21) (Tf := TX21) (N := 20) m_X21_thrown (by decide) (by decide) rfl gw_1586 gw_1583 gw_1584 gw_1585 gw_13 ⟨rfl, hp_X21_thrown⟩ dL_law_1562) ca_f) (
  ce_fc (P := P_L_law nm) (ok_li (ok_iload dL_law_1565)) (
  ce_fc (P := P_L_law nm) (ok_li (ok_icmp_eq dL_law_1567 (by decide))) (
  ce_fc (P := P_L_law nm) (ok_li (ok_iload dL_law_1572)) (
  ce_fn (P := P_L_law nm)))))))))))))))
noncomputable def tb_L_law_49 : List (Nat × ce_N) := [(1574, ce_li (ce_if true false true 1589 1577)),
  (1589, ce_li (ce_goto 3319)),
  (1592, ce_li (ce_aload 1 1593)),
  (1593, ce_li (ce_aload 0 1594)),
  (1594, ce_li (ce_iload 5 1596)),
  (1596, ce_li (ce_push (.inl (.inl (1))) 1597)),
  (1597, ce_li (ce_bin ce_addo 1598)),
  (1598, ce_li (ce_iald 1599 1598)),
  (1599, ce_li (ce_aload 0 1600)),
  (1600, ce_li (ce_iload 5 1602)),
  (1602, ce_li (ce_push (.inl (.inl (2))) 1603)),
  (1603, ce_li (ce_bin ce_addo 1604)),
  (1604, ce_li (ce_iald 1605 1604)),
  (1605, ce_li (ce_aload 0 1606))]
theorem tk_L_law_49 {nm : String} : ∀ x ∈ tb_L_law_49, P_L_law nm x.1 x.2 :=
  ce_fc (P := P_L_law nm) (ok_li (ok_if_ne dL_law_1574 (by decide))) (
  ce_fc (P := P_L_law nm) (ok_li (ok_goto dL_law_1589 (by decide))) (
  ce_fc (P := P_L_law nm) (ok_li (ok_aload_n dL_law_1592 rfl)) (
  ce_fc (P := P_L_law nm) (ok_li (ok_aload_n dL_law_1593 rfl)) (
  ce_fc (P := P_L_law nm) (ok_li (ok_iload dL_law_1594)) (
  ce_fc (P := P_L_law nm) (ok_li (ok_iconst dL_law_1596)) (
  ce_fc (P := P_L_law nm) (ok_li (ok_iadd dL_law_1597)) (
  ce_fc (P := P_L_law nm) (ok_li (ok_iald dL_law_1598)) (
  ce_fc (P := P_L_law nm) (ok_li (ok_aload_n dL_law_1599 rfl)) (
  ce_fc (P := P_L_law nm) (ok_li (ok_iload dL_law_1600)) (
  ce_fc (P := P_L_law nm) (ok_li (ok_iconst dL_law_1602)) (
  ce_fc (P := P_L_law nm) (ok_li (ok_iadd dL_law_1603)) (
  ce_fc (P := P_L_law nm) (ok_li (ok_iald dL_law_1604)) (
  ce_fc (P := P_L_law nm) (ok_li (ok_aload_n dL_law_1605 rfl)) (
  ce_fn (P := P_L_law nm)))))))))))))))
noncomputable def tb_L_law_50 : List (Nat × ce_N) := [(1606, ce_li (ce_iload 5 1608)),
  (1608, ce_li (ce_push (.inl (.inl (3))) 1609)),
  (1609, ce_li (ce_bin ce_addo 1610)),
  (1610, ce_li (ce_iald 1611 1610)),
  (1611, ce_li (ce_i2c 1612)),
  (1612, ce_li (ce_aload 3 1613)),
  (1613, ce_call 5 1 6 1616 (.inr false) F_L_size),
  (1616, ce_li (ce_istore 6 1618 9)),
  (1618, ce_li (ce_aload 2 1619)),
  (1619, ce_li (ce_aload 0 1620)),
  (1620, ce_li (ce_iload 5 1622)),
  (1622, ce_li (ce_push (.inl (.inl (1))) 1623)),
  (1623, ce_li (ce_bin ce_addo 1624)),
  (1624, ce_li (ce_iald 1625 1624))]
theorem tk_L_law_50 {nm : String} : ∀ x ∈ tb_L_law_50, P_L_law nm x.1 x.2 :=
  ce_fc (P := P_L_law nm) (ok_li (ok_iload dL_law_1606)) (
  ce_fc (P := P_L_law nm) (ok_li (ok_iconst dL_law_1608)) (
  ce_fc (P := P_L_law nm) (ok_li (ok_iadd dL_law_1609)) (
  ce_fc (P := P_L_law nm) (ok_li (ok_iald dL_law_1610)) (
  ce_fc (P := P_L_law nm) (ok_li (ok_i2c dL_law_1611)) (
  ce_fc (P := P_L_law nm) (ok_li (ok_aload_n dL_law_1612 rfl)) (
  ce_fc (P := P_L_law nm) (ok_call (ru_SX m_L_size (by decide) (by decide) gw_1091 gw_1089 gw_1090 gw_0 hp_L_size dL_law_1613) ca_f) (
  ce_fc (P := P_L_law nm) (ok_li (ok_istore dL_law_1616)) (
  ce_fc (P := P_L_law nm) (ok_li (ok_aload_n dL_law_1618 rfl)) (
  ce_fc (P := P_L_law nm) (ok_li (ok_aload_n dL_law_1619 rfl)) (
  ce_fc (P := P_L_law nm) (ok_li (ok_iload dL_law_1620)) (
  ce_fc (P := P_L_law nm) (ok_li (ok_iconst dL_law_1622)) (
  ce_fc (P := P_L_law nm) (ok_li (ok_iadd dL_law_1623)) (
  ce_fc (P := P_L_law nm) (ok_li (ok_iald dL_law_1624)) (
  ce_fn (P := P_L_law nm)))))))))))))))
noncomputable def tb_L_law_51 : List (Nat × ce_N) := [(1625, ce_li (ce_aload 0 1626)),
  (1626, ce_li (ce_iload 5 1628)),
  (1628, ce_li (ce_push (.inl (.inl (2))) 1629)),
  (1629, ce_li (ce_bin ce_addo 1630)),
  (1630, ce_li (ce_iald 1631 1630)),
  (1631, ce_li (ce_aload 0 1632)),
  (1632, ce_li (ce_iload 5 1634)),
  (1634, ce_li (ce_push (.inl (.inl (3))) 1635)),
  (1635, ce_li (ce_bin ce_addo 1636)),
  (1636, ce_li (ce_iald 1637 1636)),
  (1637, ce_li (ce_i2c 1638)),
  (1638, ce_call 4 0 0 1641 (.inr false) (ce_CV 20 F_X21_size)),
  (1641, ce_li (ce_istore 7 1643 9)),
  (1643, ce_li (ce_aload 2 1644))]
theorem tk_L_law_51 {nm : String} : ∀ x ∈ tb_L_law_51, P_L_law nm x.1 x.2 :=
  ce_fc (P := P_L_law nm) (ok_li (ok_aload_n dL_law_1625 rfl)) (
  ce_fc (P := P_L_law nm) (ok_li (ok_iload dL_law_1626)) (
  ce_fc (P := P_L_law nm) (ok_li (ok_iconst dL_law_1628)) (
  ce_fc (P := P_L_law nm) (ok_li (ok_iadd dL_law_1629)) (
  ce_fc (P := P_L_law nm) (ok_li (ok_iald dL_law_1630)) (
  ce_fc (P := P_L_law nm) (ok_li (ok_aload_n dL_law_1631 rfl)) (
  ce_fc (P := P_L_law nm) (ok_li (ok_iload dL_law_1632)) (
  ce_fc (P := P_L_law nm) (ok_li (ok_iconst dL_law_1634)) (
  ce_fc (P := P_L_law nm) (ok_li (ok_iadd dL_law_1635)) (
  ce_fc (P := P_L_law nm) (ok_li (ok_iald dL_law_1636)) (
  ce_fc (P := P_L_law nm) (ok_li (ok_i2c dL_law_1637)) (
  ce_fc (P := P_L_law nm) (ok_call (ru_V (ci := 20) (C := RX21) (Tf := TX21) (N := 20) m_X21_size (by decide) (by decide) rfl gw_2473 gw_2470 gw_2471 gw_2472 gw_13 ⟨rfl, hp_X21_size⟩ dL_law_1638) ca_f) (
  ce_fc (P := P_L_law nm) (ok_li (ok_istore dL_law_1641)) (
  ce_fc (P := P_L_law nm) (ok_li (ok_aload_n dL_law_1643 rfl)) (
  ce_fn (P := P_L_law nm)))))))))))))))
noncomputable def tb_L_law_52 : List (Nat × ce_N) := [(1644, ce_call 1 0 0 1647 (.inr false) (ce_CV 20 F_X21_thrown)),
  (1647, ce_li (ce_iload 6 1649)),
  (1649, ce_li (ce_icmp true false false 1654 1652)),
  (1654, ce_li (ce_iload 6 1656)),
  (1656, ce_li (ce_if true false true 1671 1659)),
  (1671, ce_li (ce_goto 3319)),
  (1674, ce_li (ce_aload 1 1675)),
  (1675, ce_li (ce_aload 0 1676)),
  (1676, ce_li (ce_iload 5 1678)),
  (1678, ce_li (ce_push (.inl (.inl (1))) 1679)),
  (1679, ce_li (ce_bin ce_addo 1680)),
  (1680, ce_li (ce_iald 1681 1680)),
  (1681, ce_li (ce_aload 0 1682)),
  (1682, ce_li (ce_iload 5 1684))]
theorem tk_L_law_52 {nm : String} : ∀ x ∈ tb_L_law_52, P_L_law nm x.1 x.2 :=
  ce_fc (P := P_L_law nm) (ok_call (ru_V (ci := 20) (C := RX21) (Tf := TX21) (N := 20) m_X21_thrown (by decide) (by decide) rfl gw_1586 gw_1583 gw_1584 gw_1585 gw_13 ⟨rfl, hp_X21_thrown⟩ dL_law_1644) ca_f) (
  ce_fc (P := P_L_law nm) (ok_li (ok_iload dL_law_1647)) (
  ce_fc (P := P_L_law nm) (ok_li (ok_icmp_eq dL_law_1649 (by decide))) (
  ce_fc (P := P_L_law nm) (ok_li (ok_iload dL_law_1654)) (
  ce_fc (P := P_L_law nm) (ok_li (ok_if_ne dL_law_1656 (by decide))) (
  ce_fc (P := P_L_law nm) (ok_li (ok_goto dL_law_1671 (by decide))) (
  ce_fc (P := P_L_law nm) (ok_li (ok_aload_n dL_law_1674 rfl)) (
  ce_fc (P := P_L_law nm) (ok_li (ok_aload_n dL_law_1675 rfl)) (
  ce_fc (P := P_L_law nm) (ok_li (ok_iload dL_law_1676)) (
  ce_fc (P := P_L_law nm) (ok_li (ok_iconst dL_law_1678)) (
  ce_fc (P := P_L_law nm) (ok_li (ok_iadd dL_law_1679)) (
  ce_fc (P := P_L_law nm) (ok_li (ok_iald dL_law_1680)) (
  ce_fc (P := P_L_law nm) (ok_li (ok_aload_n dL_law_1681 rfl)) (
  ce_fc (P := P_L_law nm) (ok_li (ok_iload dL_law_1682)) (
  ce_fn (P := P_L_law nm)))))))))))))))
noncomputable def tb_L_law_53 : List (Nat × ce_N) := [(1684, ce_li (ce_push (.inl (.inl (2))) 1685)),
  (1685, ce_li (ce_bin ce_addo 1686)),
  (1686, ce_li (ce_iald 1687 1686)),
  (1687, ce_li (ce_aload 3 1688)),
  (1688, ce_call 4 1 6 1691 (.inr false) F_L_weight),
  (1691, ce_li (ce_istore 6 1693 9)),
  (1693, ce_li (ce_aload 2 1694)),
  (1694, ce_li (ce_aload 0 1695)),
  (1695, ce_li (ce_iload 5 1697)),
  (1697, ce_li (ce_push (.inl (.inl (1))) 1698)),
  (1698, ce_li (ce_bin ce_addo 1699)),
  (1699, ce_li (ce_iald 1700 1699)),
  (1700, ce_li (ce_aload 0 1701)),
  (1701, ce_li (ce_iload 5 1703))]
theorem tk_L_law_53 {nm : String} : ∀ x ∈ tb_L_law_53, P_L_law nm x.1 x.2 :=
  ce_fc (P := P_L_law nm) (ok_li (ok_iconst dL_law_1684)) (
  ce_fc (P := P_L_law nm) (ok_li (ok_iadd dL_law_1685)) (
  ce_fc (P := P_L_law nm) (ok_li (ok_iald dL_law_1686)) (
  ce_fc (P := P_L_law nm) (ok_li (ok_aload_n dL_law_1687 rfl)) (
  ce_fc (P := P_L_law nm) (ok_call (ru_SX m_L_weight (by decide) (by decide) gw_1109 gw_1107 gw_1108 gw_0 hp_L_weight dL_law_1688) ca_f) (
  ce_fc (P := P_L_law nm) (ok_li (ok_istore dL_law_1691)) (
  ce_fc (P := P_L_law nm) (ok_li (ok_aload_n dL_law_1693 rfl)) (
  ce_fc (P := P_L_law nm) (ok_li (ok_aload_n dL_law_1694 rfl)) (
  ce_fc (P := P_L_law nm) (ok_li (ok_iload dL_law_1695)) (
  ce_fc (P := P_L_law nm) (ok_li (ok_iconst dL_law_1697)) (
  ce_fc (P := P_L_law nm) (ok_li (ok_iadd dL_law_1698)) (
  ce_fc (P := P_L_law nm) (ok_li (ok_iald dL_law_1699)) (
  ce_fc (P := P_L_law nm) (ok_li (ok_aload_n dL_law_1700 rfl)) (
  ce_fc (P := P_L_law nm) (ok_li (ok_iload dL_law_1701)) (
  ce_fn (P := P_L_law nm)))))))))))))))
noncomputable def tb_L_law_54 : List (Nat × ce_N) := [(1703, ce_li (ce_push (.inl (.inl (2))) 1704)),
  (1704, ce_li (ce_bin ce_addo 1705)),
  (1705, ce_li (ce_iald 1706 1705)),
  (1706, ce_call 3 0 0 1709 (.inr false) (ce_CV 20 F_X21_weight)),
  (1709, ce_li (ce_istore 7 1711 9)),
  (1711, ce_li (ce_aload 2 1712)),
  (1712, ce_call 1 0 0 1715 (.inr false) (ce_CV 20 F_X21_thrown)),
  (1715, ce_li (ce_iload 6 1717)),
  (1717, ce_li (ce_icmp true false false 1722 1720)),
  (1722, ce_li (ce_iload 6 1724)),
  (1724, ce_li (ce_if true false true 1739 1727)),
  (1739, ce_li (ce_goto 3319)),
  (1742, ce_li (ce_aload 1 1743)),
  (1743, ce_li (ce_aload 0 1744))]
theorem tk_L_law_54 {nm : String} : ∀ x ∈ tb_L_law_54, P_L_law nm x.1 x.2 :=
  ce_fc (P := P_L_law nm) (ok_li (ok_iconst dL_law_1703)) (
  ce_fc (P := P_L_law nm) (ok_li (ok_iadd dL_law_1704)) (
  ce_fc (P := P_L_law nm) (ok_li (ok_iald dL_law_1705)) (
  ce_fc (P := P_L_law nm) (ok_call (ru_V (ci := 20) (C := RX21) (Tf := TX21) (N := 20) m_X21_weight (by decide) (by decide) rfl gw_2478 gw_2475 gw_2476 gw_2477 gw_13 ⟨rfl, hp_X21_weight⟩ dL_law_1706) ca_f) (
  ce_fc (P := P_L_law nm) (ok_li (ok_istore dL_law_1709)) (
  ce_fc (P := P_L_law nm) (ok_li (ok_aload_n dL_law_1711 rfl)) (
  ce_fc (P := P_L_law nm) (ok_call (ru_V (ci := 20) (C := RX21) (Tf := TX21) (N := 20) m_X21_thrown (by decide) (by decide) rfl gw_1586 gw_1583 gw_1584 gw_1585 gw_13 ⟨rfl, hp_X21_thrown⟩ dL_law_1712) ca_f) (
  ce_fc (P := P_L_law nm) (ok_li (ok_iload dL_law_1715)) (
  ce_fc (P := P_L_law nm) (ok_li (ok_icmp_eq dL_law_1717 (by decide))) (
  ce_fc (P := P_L_law nm) (ok_li (ok_iload dL_law_1722)) (
  ce_fc (P := P_L_law nm) (ok_li (ok_if_ne dL_law_1724 (by decide))) (
  ce_fc (P := P_L_law nm) (ok_li (ok_goto dL_law_1739 (by decide))) (
  ce_fc (P := P_L_law nm) (ok_li (ok_aload_n dL_law_1742 rfl)) (
  ce_fc (P := P_L_law nm) (ok_li (ok_aload_n dL_law_1743 rfl)) (
  ce_fn (P := P_L_law nm)))))))))))))))
noncomputable def tb_L_law_55 : List (Nat × ce_N) := [(1744, ce_li (ce_iload 5 1746)),
  (1746, ce_li (ce_push (.inl (.inl (1))) 1747)),
  (1747, ce_li (ce_bin ce_addo 1748)),
  (1748, ce_li (ce_iald 1749 1748)),
  (1749, ce_li (ce_aload 3 1750)),
  (1750, ce_call 3 1 6 1753 (.inr false) F_L_hinges),
  (1753, ce_li (ce_istore 6 1755 9)),
  (1755, ce_li (ce_aload 2 1756)),
  (1756, ce_li (ce_aload 0 1757)),
  (1757, ce_li (ce_iload 5 1759)),
  (1759, ce_li (ce_push (.inl (.inl (1))) 1760)),
  (1760, ce_li (ce_bin ce_addo 1761)),
  (1761, ce_li (ce_iald 1762 1761)),
  (1762, ce_call 2 0 0 1765 (.inr false) (ce_CV 20 F_X21_hinges))]
theorem tk_L_law_55 {nm : String} : ∀ x ∈ tb_L_law_55, P_L_law nm x.1 x.2 :=
  ce_fc (P := P_L_law nm) (ok_li (ok_iload dL_law_1744)) (
  ce_fc (P := P_L_law nm) (ok_li (ok_iconst dL_law_1746)) (
  ce_fc (P := P_L_law nm) (ok_li (ok_iadd dL_law_1747)) (
  ce_fc (P := P_L_law nm) (ok_li (ok_iald dL_law_1748)) (
  ce_fc (P := P_L_law nm) (ok_li (ok_aload_n dL_law_1749 rfl)) (
  ce_fc (P := P_L_law nm) (ok_call (ru_SX m_L_hinges (by decide) (by decide) gw_1125 gw_1123 gw_1124 gw_0 hp_L_hinges dL_law_1750) ca_f) (
  ce_fc (P := P_L_law nm) (ok_li (ok_istore dL_law_1753)) (
  ce_fc (P := P_L_law nm) (ok_li (ok_aload_n dL_law_1755 rfl)) (
  ce_fc (P := P_L_law nm) (ok_li (ok_aload_n dL_law_1756 rfl)) (
  ce_fc (P := P_L_law nm) (ok_li (ok_iload dL_law_1757)) (
  ce_fc (P := P_L_law nm) (ok_li (ok_iconst dL_law_1759)) (
  ce_fc (P := P_L_law nm) (ok_li (ok_iadd dL_law_1760)) (
  ce_fc (P := P_L_law nm) (ok_li (ok_iald dL_law_1761)) (
  ce_fc (P := P_L_law nm) (ok_call (ru_V (ci := 20) (C := RX21) (Tf := TX21) (N := 20) m_X21_hinges (by decide) (by decide) rfl gw_2489 gw_2486 gw_2487 gw_2488 gw_13 ⟨rfl, hp_X21_hinges⟩ dL_law_1762) ca_f) (
  ce_fn (P := P_L_law nm)))))))))))))))
noncomputable def tb_L_law_56 : List (Nat × ce_N) := [(1765, ce_li (ce_istore 7 1767 9)),
  (1767, ce_li (ce_aload 2 1768)),
  (1768, ce_call 1 0 0 1771 (.inr false) (ce_CV 20 F_X21_thrown)),
  (1771, ce_li (ce_iload 6 1773)),
  (1773, ce_li (ce_icmp true false false 1778 1776)),
  (1778, ce_li (ce_iload 6 1780)),
  (1780, ce_li (ce_if true false true 1795 1783)),
  (1795, ce_li (ce_goto 3319)),
  (1798, ce_li (ce_aload 1 1799)),
  (1799, ce_li (ce_aload 0 1800)),
  (1800, ce_li (ce_iload 5 1802)),
  (1802, ce_li (ce_push (.inl (.inl (1))) 1803)),
  (1803, ce_li (ce_bin ce_addo 1804)),
  (1804, ce_li (ce_iald 1805 1804))]
theorem tk_L_law_56 {nm : String} : ∀ x ∈ tb_L_law_56, P_L_law nm x.1 x.2 :=
  ce_fc (P := P_L_law nm) (ok_li (ok_istore dL_law_1765)) (
  ce_fc (P := P_L_law nm) (ok_li (ok_aload_n dL_law_1767 rfl)) (
  ce_fc (P := P_L_law nm) (ok_call (ru_V (ci := 20) (C := RX21) (Tf := TX21) (N := 20) m_X21_thrown (by decide) (by decide) rfl gw_1586 gw_1583 gw_1584 gw_1585 gw_13 ⟨rfl, hp_X21_thrown⟩ dL_law_1768) ca_f) (
  ce_fc (P := P_L_law nm) (ok_li (ok_iload dL_law_1771)) (
  ce_fc (P := P_L_law nm) (ok_li (ok_icmp_eq dL_law_1773 (by decide))) (
  ce_fc (P := P_L_law nm) (ok_li (ok_iload dL_law_1778)) (
  ce_fc (P := P_L_law nm) (ok_li (ok_if_ne dL_law_1780 (by decide))) (
  ce_fc (P := P_L_law nm) (ok_li (ok_goto dL_law_1795 (by decide))) (
  ce_fc (P := P_L_law nm) (ok_li (ok_aload_n dL_law_1798 rfl)) (
  ce_fc (P := P_L_law nm) (ok_li (ok_aload_n dL_law_1799 rfl)) (
  ce_fc (P := P_L_law nm) (ok_li (ok_iload dL_law_1800)) (
  ce_fc (P := P_L_law nm) (ok_li (ok_iconst dL_law_1802)) (
  ce_fc (P := P_L_law nm) (ok_li (ok_iadd dL_law_1803)) (
  ce_fc (P := P_L_law nm) (ok_li (ok_iald dL_law_1804)) (
  ce_fn (P := P_L_law nm)))))))))))))))
noncomputable def tb_L_law_57 : List (Nat × ce_N) := [(1805, ce_li (ce_aload 0 1806)),
  (1806, ce_li (ce_iload 5 1808)),
  (1808, ce_li (ce_push (.inl (.inl (2))) 1809)),
  (1809, ce_li (ce_bin ce_addo 1810)),
  (1810, ce_li (ce_iald 1811 1810)),
  (1811, ce_li (ce_aload 3 1812)),
  (1812, ce_call 4 1 6 1815 (.inr false) F_L_holes),
  (1815, ce_li (ce_istore 6 1817 9)),
  (1817, ce_li (ce_aload 2 1818)),
  (1818, ce_li (ce_aload 0 1819)),
  (1819, ce_li (ce_iload 5 1821)),
  (1821, ce_li (ce_push (.inl (.inl (1))) 1822)),
  (1822, ce_li (ce_bin ce_addo 1823)),
  (1823, ce_li (ce_iald 1824 1823))]
theorem tk_L_law_57 {nm : String} : ∀ x ∈ tb_L_law_57, P_L_law nm x.1 x.2 :=
  ce_fc (P := P_L_law nm) (ok_li (ok_aload_n dL_law_1805 rfl)) (
  ce_fc (P := P_L_law nm) (ok_li (ok_iload dL_law_1806)) (
  ce_fc (P := P_L_law nm) (ok_li (ok_iconst dL_law_1808)) (
  ce_fc (P := P_L_law nm) (ok_li (ok_iadd dL_law_1809)) (
  ce_fc (P := P_L_law nm) (ok_li (ok_iald dL_law_1810)) (
  ce_fc (P := P_L_law nm) (ok_li (ok_aload_n dL_law_1811 rfl)) (
  ce_fc (P := P_L_law nm) (ok_call (ru_SX m_L_holes (by decide) (by decide) gw_1140 gw_1138 gw_1139 gw_0 hp_L_holes dL_law_1812) ca_f) (
  ce_fc (P := P_L_law nm) (ok_li (ok_istore dL_law_1815)) (
  ce_fc (P := P_L_law nm) (ok_li (ok_aload_n dL_law_1817 rfl)) (
  ce_fc (P := P_L_law nm) (ok_li (ok_aload_n dL_law_1818 rfl)) (
  ce_fc (P := P_L_law nm) (ok_li (ok_iload dL_law_1819)) (
  ce_fc (P := P_L_law nm) (ok_li (ok_iconst dL_law_1821)) (
  ce_fc (P := P_L_law nm) (ok_li (ok_iadd dL_law_1822)) (
  ce_fc (P := P_L_law nm) (ok_li (ok_iald dL_law_1823)) (
  ce_fn (P := P_L_law nm)))))))))))))))
noncomputable def tb_L_law_58 : List (Nat × ce_N) := [(1824, ce_li (ce_aload 0 1825)),
  (1825, ce_li (ce_iload 5 1827)),
  (1827, ce_li (ce_push (.inl (.inl (2))) 1828)),
  (1828, ce_li (ce_bin ce_addo 1829)),
  (1829, ce_li (ce_iald 1830 1829)),
  (1830, ce_call 3 0 0 1833 (.inr false) (ce_CV 20 F_X21_holes)),
  (1833, ce_li (ce_istore 7 1835 9)),
  (1835, ce_li (ce_aload 2 1836)),
  (1836, ce_call 1 0 0 1839 (.inr false) (ce_CV 20 F_X21_thrown)),
  (1839, ce_li (ce_iload 6 1841)),
  (1841, ce_li (ce_icmp true false false 1846 1844)),
  (1846, ce_li (ce_iload 6 1848)),
  (1848, ce_li (ce_if true false true 1863 1851)),
  (1863, ce_li (ce_goto 3319))]
theorem tk_L_law_58 {nm : String} : ∀ x ∈ tb_L_law_58, P_L_law nm x.1 x.2 :=
  ce_fc (P := P_L_law nm) (ok_li (ok_aload_n dL_law_1824 rfl)) (
  ce_fc (P := P_L_law nm) (ok_li (ok_iload dL_law_1825)) (
  ce_fc (P := P_L_law nm) (ok_li (ok_iconst dL_law_1827)) (
  ce_fc (P := P_L_law nm) (ok_li (ok_iadd dL_law_1828)) (
  ce_fc (P := P_L_law nm) (ok_li (ok_iald dL_law_1829)) (
  ce_fc (P := P_L_law nm) (ok_call (ru_V (ci := 20) (C := RX21) (Tf := TX21) (N := 20) m_X21_holes (by decide) (by decide) rfl gw_2500 gw_2497 gw_2498 gw_2499 gw_13 ⟨rfl, hp_X21_holes⟩ dL_law_1830) ca_f) (
  ce_fc (P := P_L_law nm) (ok_li (ok_istore dL_law_1833)) (
  ce_fc (P := P_L_law nm) (ok_li (ok_aload_n dL_law_1835 rfl)) (
  ce_fc (P := P_L_law nm) (ok_call (ru_V (ci := 20) (C := RX21) (Tf := TX21) (N := 20) m_X21_thrown (by decide) (by decide) rfl gw_1586 gw_1583 gw_1584 gw_1585 gw_13 ⟨rfl, hp_X21_thrown⟩ dL_law_1836) ca_f) (
  ce_fc (P := P_L_law nm) (ok_li (ok_iload dL_law_1839)) (
  ce_fc (P := P_L_law nm) (ok_li (ok_icmp_eq dL_law_1841 (by decide))) (
  ce_fc (P := P_L_law nm) (ok_li (ok_iload dL_law_1846)) (
  ce_fc (P := P_L_law nm) (ok_li (ok_if_ne dL_law_1848 (by decide))) (
  ce_fc (P := P_L_law nm) (ok_li (ok_goto dL_law_1863 (by decide))) (
  ce_fn (P := P_L_law nm)))))))))))))))
noncomputable def tb_L_law_59 : List (Nat × ce_N) := [(1866, ce_li (ce_aload 1 1867)),
  (1867, ce_li (ce_aload 0 1868)),
  (1868, ce_li (ce_iload 5 1870)),
  (1870, ce_li (ce_push (.inl (.inl (1))) 1871)),
  (1871, ce_li (ce_bin ce_addo 1872)),
  (1872, ce_li (ce_iald 1873 1872)),
  (1873, ce_li (ce_aload 0 1874)),
  (1874, ce_li (ce_iload 5 1876)),
  (1876, ce_li (ce_push (.inl (.inl (2))) 1877)),
  (1877, ce_li (ce_bin ce_addo 1878)),
  (1878, ce_li (ce_iald 1879 1878)),
  (1879, ce_li (ce_aload 0 1880)),
  (1880, ce_li (ce_iload 5 1882)),
  (1882, ce_li (ce_push (.inl (.inl (3))) 1883))]
theorem tk_L_law_59 {nm : String} : ∀ x ∈ tb_L_law_59, P_L_law nm x.1 x.2 :=
  ce_fc (P := P_L_law nm) (ok_li (ok_aload_n dL_law_1866 rfl)) (
  ce_fc (P := P_L_law nm) (ok_li (ok_aload_n dL_law_1867 rfl)) (
  ce_fc (P := P_L_law nm) (ok_li (ok_iload dL_law_1868)) (
  ce_fc (P := P_L_law nm) (ok_li (ok_iconst dL_law_1870)) (
  ce_fc (P := P_L_law nm) (ok_li (ok_iadd dL_law_1871)) (
  ce_fc (P := P_L_law nm) (ok_li (ok_iald dL_law_1872)) (
  ce_fc (P := P_L_law nm) (ok_li (ok_aload_n dL_law_1873 rfl)) (
  ce_fc (P := P_L_law nm) (ok_li (ok_iload dL_law_1874)) (
  ce_fc (P := P_L_law nm) (ok_li (ok_iconst dL_law_1876)) (
  ce_fc (P := P_L_law nm) (ok_li (ok_iadd dL_law_1877)) (
  ce_fc (P := P_L_law nm) (ok_li (ok_iald dL_law_1878)) (
  ce_fc (P := P_L_law nm) (ok_li (ok_aload_n dL_law_1879 rfl)) (
  ce_fc (P := P_L_law nm) (ok_li (ok_iload dL_law_1880)) (
  ce_fc (P := P_L_law nm) (ok_li (ok_iconst dL_law_1882)) (
  ce_fn (P := P_L_law nm)))))))))))))))
noncomputable def tb_L_law_60 : List (Nat × ce_N) := [(1883, ce_li (ce_bin ce_addo 1884)),
  (1884, ce_li (ce_iald 1885 1884)),
  (1885, ce_li (ce_aload 0 1886)),
  (1886, ce_li (ce_iload 5 1888)),
  (1888, ce_li (ce_push (.inl (.inl (4))) 1889)),
  (1889, ce_li (ce_bin ce_addo 1890)),
  (1890, ce_li (ce_iald 1891 1890)),
  (1891, ce_li (ce_i2c 1892)),
  (1892, ce_li (ce_aload 3 1893)),
  (1893, ce_call 6 1 6 1896 (.inr false) F_L_hole),
  (1896, ce_li (ce_istore 6 1898 9)),
  (1898, ce_li (ce_aload 2 1899)),
  (1899, ce_li (ce_aload 0 1900)),
  (1900, ce_li (ce_iload 5 1902))]
theorem tk_L_law_60 {nm : String} : ∀ x ∈ tb_L_law_60, P_L_law nm x.1 x.2 :=
  ce_fc (P := P_L_law nm) (ok_li (ok_iadd dL_law_1883)) (
  ce_fc (P := P_L_law nm) (ok_li (ok_iald dL_law_1884)) (
  ce_fc (P := P_L_law nm) (ok_li (ok_aload_n dL_law_1885 rfl)) (
  ce_fc (P := P_L_law nm) (ok_li (ok_iload dL_law_1886)) (
  ce_fc (P := P_L_law nm) (ok_li (ok_iconst dL_law_1888)) (
  ce_fc (P := P_L_law nm) (ok_li (ok_iadd dL_law_1889)) (
  ce_fc (P := P_L_law nm) (ok_li (ok_iald dL_law_1890)) (
  ce_fc (P := P_L_law nm) (ok_li (ok_i2c dL_law_1891)) (
  ce_fc (P := P_L_law nm) (ok_li (ok_aload_n dL_law_1892 rfl)) (
  ce_fc (P := P_L_law nm) (ok_call (ru_SX m_L_hole (by decide) (by decide) gw_1155 gw_1153 gw_1154 gw_0 hp_L_hole dL_law_1893) ca_f) (
  ce_fc (P := P_L_law nm) (ok_li (ok_istore dL_law_1896)) (
  ce_fc (P := P_L_law nm) (ok_li (ok_aload_n dL_law_1898 rfl)) (
  ce_fc (P := P_L_law nm) (ok_li (ok_aload_n dL_law_1899 rfl)) (
  ce_fc (P := P_L_law nm) (ok_li (ok_iload dL_law_1900)) (
  ce_fn (P := P_L_law nm)))))))))))))))
noncomputable def tb_L_law_61 : List (Nat × ce_N) := [(1902, ce_li (ce_push (.inl (.inl (1))) 1903)),
  (1903, ce_li (ce_bin ce_addo 1904)),
  (1904, ce_li (ce_iald 1905 1904)),
  (1905, ce_li (ce_aload 0 1906)),
  (1906, ce_li (ce_iload 5 1908)),
  (1908, ce_li (ce_push (.inl (.inl (2))) 1909)),
  (1909, ce_li (ce_bin ce_addo 1910)),
  (1910, ce_li (ce_iald 1911 1910)),
  (1911, ce_li (ce_aload 0 1912)),
  (1912, ce_li (ce_iload 5 1914)),
  (1914, ce_li (ce_push (.inl (.inl (3))) 1915)),
  (1915, ce_li (ce_bin ce_addo 1916)),
  (1916, ce_li (ce_iald 1917 1916)),
  (1917, ce_li (ce_aload 0 1918))]
theorem tk_L_law_61 {nm : String} : ∀ x ∈ tb_L_law_61, P_L_law nm x.1 x.2 :=
  ce_fc (P := P_L_law nm) (ok_li (ok_iconst dL_law_1902)) (
  ce_fc (P := P_L_law nm) (ok_li (ok_iadd dL_law_1903)) (
  ce_fc (P := P_L_law nm) (ok_li (ok_iald dL_law_1904)) (
  ce_fc (P := P_L_law nm) (ok_li (ok_aload_n dL_law_1905 rfl)) (
  ce_fc (P := P_L_law nm) (ok_li (ok_iload dL_law_1906)) (
  ce_fc (P := P_L_law nm) (ok_li (ok_iconst dL_law_1908)) (
  ce_fc (P := P_L_law nm) (ok_li (ok_iadd dL_law_1909)) (
  ce_fc (P := P_L_law nm) (ok_li (ok_iald dL_law_1910)) (
  ce_fc (P := P_L_law nm) (ok_li (ok_aload_n dL_law_1911 rfl)) (
  ce_fc (P := P_L_law nm) (ok_li (ok_iload dL_law_1912)) (
  ce_fc (P := P_L_law nm) (ok_li (ok_iconst dL_law_1914)) (
  ce_fc (P := P_L_law nm) (ok_li (ok_iadd dL_law_1915)) (
  ce_fc (P := P_L_law nm) (ok_li (ok_iald dL_law_1916)) (
  ce_fc (P := P_L_law nm) (ok_li (ok_aload_n dL_law_1917 rfl)) (
  ce_fn (P := P_L_law nm)))))))))))))))
noncomputable def tb_L_law_62 : List (Nat × ce_N) := [(1918, ce_li (ce_iload 5 1920)),
  (1920, ce_li (ce_push (.inl (.inl (4))) 1921)),
  (1921, ce_li (ce_bin ce_addo 1922)),
  (1922, ce_li (ce_iald 1923 1922)),
  (1923, ce_li (ce_i2c 1924)),
  (1924, ce_call 5 0 0 1927 (.inr false) (ce_CV 20 F_X21_hole)),
  (1927, ce_li (ce_istore 7 1929 9)),
  (1929, ce_li (ce_aload 2 1930)),
  (1930, ce_call 1 0 0 1933 (.inr false) (ce_CV 20 F_X21_thrown)),
  (1933, ce_li (ce_iload 6 1935)),
  (1935, ce_li (ce_icmp true false false 1940 1938)),
  (1940, ce_li (ce_iload 6 1942)),
  (1942, ce_li (ce_if true false true 1957 1945)),
  (1957, ce_li (ce_goto 3319))]
theorem tk_L_law_62 {nm : String} : ∀ x ∈ tb_L_law_62, P_L_law nm x.1 x.2 :=
  ce_fc (P := P_L_law nm) (ok_li (ok_iload dL_law_1918)) (
  ce_fc (P := P_L_law nm) (ok_li (ok_iconst dL_law_1920)) (
  ce_fc (P := P_L_law nm) (ok_li (ok_iadd dL_law_1921)) (
  ce_fc (P := P_L_law nm) (ok_li (ok_iald dL_law_1922)) (
  ce_fc (P := P_L_law nm) (ok_li (ok_i2c dL_law_1923)) (
  ce_fc (P := P_L_law nm) (ok_call (ru_V (ci := 20) (C := RX21) (Tf := TX21) (N := 20) m_X21_hole (by decide) (by decide) rfl gw_2534 gw_2531 gw_2532 gw_2533 gw_13 ⟨rfl, hp_X21_hole⟩ dL_law_1924) ca_f) (
  ce_fc (P := P_L_law nm) (ok_li (ok_istore dL_law_1927)) (
  ce_fc (P := P_L_law nm) (ok_li (ok_aload_n dL_law_1929 rfl)) (
  ce_fc (P := P_L_law nm) (ok_call (ru_V (ci := 20) (C := RX21) (Tf := TX21) (N := 20) m_X21_thrown (by decide) (by decide) rfl gw_1586 gw_1583 gw_1584 gw_1585 gw_13 ⟨rfl, hp_X21_thrown⟩ dL_law_1930) ca_f) (
  ce_fc (P := P_L_law nm) (ok_li (ok_iload dL_law_1933)) (
  ce_fc (P := P_L_law nm) (ok_li (ok_icmp_eq dL_law_1935 (by decide))) (
  ce_fc (P := P_L_law nm) (ok_li (ok_iload dL_law_1940)) (
  ce_fc (P := P_L_law nm) (ok_li (ok_if_ne dL_law_1942 (by decide))) (
  ce_fc (P := P_L_law nm) (ok_li (ok_goto dL_law_1957 (by decide))) (
  ce_fn (P := P_L_law nm)))))))))))))))
noncomputable def tb_L_law_63 : List (Nat × ce_N) := [(1960, ce_li (ce_aload 1 1961)),
  (1961, ce_li (ce_aload 0 1962)),
  (1962, ce_li (ce_iload 5 1964)),
  (1964, ce_li (ce_push (.inl (.inl (1))) 1965)),
  (1965, ce_li (ce_bin ce_addo 1966)),
  (1966, ce_li (ce_iald 1967 1966)),
  (1967, ce_li (ce_aload 0 1968)),
  (1968, ce_li (ce_iload 5 1970)),
  (1970, ce_li (ce_push (.inl (.inl (2))) 1971)),
  (1971, ce_li (ce_bin ce_addo 1972)),
  (1972, ce_li (ce_iald 1973 1972)),
  (1973, ce_li (ce_aload 3 1974)),
  (1974, ce_call 4 1 6 1977 (.inr false) F_L_drills),
  (1977, ce_li (ce_istore 6 1979 9))]
theorem tk_L_law_63 {nm : String} : ∀ x ∈ tb_L_law_63, P_L_law nm x.1 x.2 :=
  ce_fc (P := P_L_law nm) (ok_li (ok_aload_n dL_law_1960 rfl)) (
  ce_fc (P := P_L_law nm) (ok_li (ok_aload_n dL_law_1961 rfl)) (
  ce_fc (P := P_L_law nm) (ok_li (ok_iload dL_law_1962)) (
  ce_fc (P := P_L_law nm) (ok_li (ok_iconst dL_law_1964)) (
  ce_fc (P := P_L_law nm) (ok_li (ok_iadd dL_law_1965)) (
  ce_fc (P := P_L_law nm) (ok_li (ok_iald dL_law_1966)) (
  ce_fc (P := P_L_law nm) (ok_li (ok_aload_n dL_law_1967 rfl)) (
  ce_fc (P := P_L_law nm) (ok_li (ok_iload dL_law_1968)) (
  ce_fc (P := P_L_law nm) (ok_li (ok_iconst dL_law_1970)) (
  ce_fc (P := P_L_law nm) (ok_li (ok_iadd dL_law_1971)) (
  ce_fc (P := P_L_law nm) (ok_li (ok_iald dL_law_1972)) (
  ce_fc (P := P_L_law nm) (ok_li (ok_aload_n dL_law_1973 rfl)) (
  ce_fc (P := P_L_law nm) (ok_call (ru_SX m_L_drills (by decide) (by decide) gw_1178 gw_1176 gw_1177 gw_0 hp_L_drills dL_law_1974) ca_f) (
  ce_fc (P := P_L_law nm) (ok_li (ok_istore dL_law_1977)) (
  ce_fn (P := P_L_law nm)))))))))))))))
noncomputable def tb_L_law_64 : List (Nat × ce_N) := [(1979, ce_li (ce_aload 2 1980)),
  (1980, ce_li (ce_aload 0 1981)),
  (1981, ce_li (ce_iload 5 1983)),
  (1983, ce_li (ce_push (.inl (.inl (1))) 1984)),
  (1984, ce_li (ce_bin ce_addo 1985)),
  (1985, ce_li (ce_iald 1986 1985)),
  (1986, ce_li (ce_aload 0 1987)),
  (1987, ce_li (ce_iload 5 1989)),
  (1989, ce_li (ce_push (.inl (.inl (2))) 1990)),
  (1990, ce_li (ce_bin ce_addo 1991)),
  (1991, ce_li (ce_iald 1992 1991)),
  (1992, ce_call 3 0 0 1995 (.inr false) (ce_CV 20 F_X21_drills)),
  (1995, ce_li (ce_istore 7 1997 9)),
  (1997, ce_li (ce_aload 2 1998))]
theorem tk_L_law_64 {nm : String} : ∀ x ∈ tb_L_law_64, P_L_law nm x.1 x.2 :=
  ce_fc (P := P_L_law nm) (ok_li (ok_aload_n dL_law_1979 rfl)) (
  ce_fc (P := P_L_law nm) (ok_li (ok_aload_n dL_law_1980 rfl)) (
  ce_fc (P := P_L_law nm) (ok_li (ok_iload dL_law_1981)) (
  ce_fc (P := P_L_law nm) (ok_li (ok_iconst dL_law_1983)) (
  ce_fc (P := P_L_law nm) (ok_li (ok_iadd dL_law_1984)) (
  ce_fc (P := P_L_law nm) (ok_li (ok_iald dL_law_1985)) (
  ce_fc (P := P_L_law nm) (ok_li (ok_aload_n dL_law_1986 rfl)) (
  ce_fc (P := P_L_law nm) (ok_li (ok_iload dL_law_1987)) (
  ce_fc (P := P_L_law nm) (ok_li (ok_iconst dL_law_1989)) (
  ce_fc (P := P_L_law nm) (ok_li (ok_iadd dL_law_1990)) (
  ce_fc (P := P_L_law nm) (ok_li (ok_iald dL_law_1991)) (
  ce_fc (P := P_L_law nm) (ok_call (ru_V (ci := 20) (C := RX21) (Tf := TX21) (N := 20) m_X21_drills (by decide) (by decide) rfl gw_2540 gw_2537 gw_2538 gw_2539 gw_13 ⟨rfl, hp_X21_drills⟩ dL_law_1992) ca_f) (
  ce_fc (P := P_L_law nm) (ok_li (ok_istore dL_law_1995)) (
  ce_fc (P := P_L_law nm) (ok_li (ok_aload_n dL_law_1997 rfl)) (
  ce_fn (P := P_L_law nm)))))))))))))))
noncomputable def tb_L_law_65 : List (Nat × ce_N) := [(1998, ce_call 1 0 0 2001 (.inr false) (ce_CV 20 F_X21_thrown)),
  (2001, ce_li (ce_iload 6 2003)),
  (2003, ce_li (ce_icmp true false false 2008 2006)),
  (2008, ce_li (ce_iload 6 2010)),
  (2010, ce_li (ce_if true false true 2025 2013)),
  (2025, ce_li (ce_goto 3319)),
  (2028, ce_li (ce_aload 1 2029)),
  (2029, ce_li (ce_aload 0 2030)),
  (2030, ce_li (ce_iload 5 2032)),
  (2032, ce_li (ce_push (.inl (.inl (1))) 2033)),
  (2033, ce_li (ce_bin ce_addo 2034)),
  (2034, ce_li (ce_iald 2035 2034)),
  (2035, ce_li (ce_aload 0 2036)),
  (2036, ce_li (ce_iload 5 2038))]
theorem tk_L_law_65 {nm : String} : ∀ x ∈ tb_L_law_65, P_L_law nm x.1 x.2 :=
  ce_fc (P := P_L_law nm) (ok_call (ru_V (ci := 20) (C := RX21) (Tf := TX21) (N := 20) m_X21_thrown (by decide) (by decide) rfl gw_1586 gw_1583 gw_1584 gw_1585 gw_13 ⟨rfl, hp_X21_thrown⟩ dL_law_1998) ca_f) (
  ce_fc (P := P_L_law nm) (ok_li (ok_iload dL_law_2001)) (
  ce_fc (P := P_L_law nm) (ok_li (ok_icmp_eq dL_law_2003 (by decide))) (
  ce_fc (P := P_L_law nm) (ok_li (ok_iload dL_law_2008)) (
  ce_fc (P := P_L_law nm) (ok_li (ok_if_ne dL_law_2010 (by decide))) (
  ce_fc (P := P_L_law nm) (ok_li (ok_goto dL_law_2025 (by decide))) (
  ce_fc (P := P_L_law nm) (ok_li (ok_aload_n dL_law_2028 rfl)) (
  ce_fc (P := P_L_law nm) (ok_li (ok_aload_n dL_law_2029 rfl)) (
  ce_fc (P := P_L_law nm) (ok_li (ok_iload dL_law_2030)) (
  ce_fc (P := P_L_law nm) (ok_li (ok_iconst dL_law_2032)) (
  ce_fc (P := P_L_law nm) (ok_li (ok_iadd dL_law_2033)) (
  ce_fc (P := P_L_law nm) (ok_li (ok_iald dL_law_2034)) (
  ce_fc (P := P_L_law nm) (ok_li (ok_aload_n dL_law_2035 rfl)) (
  ce_fc (P := P_L_law nm) (ok_li (ok_iload dL_law_2036)) (
  ce_fn (P := P_L_law nm)))))))))))))))
noncomputable def tb_L_law_66 : List (Nat × ce_N) := [(2038, ce_li (ce_push (.inl (.inl (2))) 2039)),
  (2039, ce_li (ce_bin ce_addo 2040)),
  (2040, ce_li (ce_iald 2041 2040)),
  (2041, ce_li (ce_aload 0 2042)),
  (2042, ce_li (ce_iload 5 2044)),
  (2044, ce_li (ce_push (.inl (.inl (3))) 2045)),
  (2045, ce_li (ce_bin ce_addo 2046)),
  (2046, ce_li (ce_iald 2047 2046)),
  (2047, ce_li (ce_if true false false 2054 2050)),
  (2050, ce_li (ce_push (.inl (.inl (1))) 2051)),
  (2051, ce_li (ce_goto 2055)),
  (2054, ce_li (ce_push (.inl (.inl (0))) 2055)),
  (2055, ce_li (ce_aload 3 2056)),
  (2056, ce_call 5 1 6 2059 (.inr false) F_L_clamp)]
theorem tk_L_law_66 {nm : String} : ∀ x ∈ tb_L_law_66, P_L_law nm x.1 x.2 :=
  ce_fc (P := P_L_law nm) (ok_li (ok_iconst dL_law_2038)) (
  ce_fc (P := P_L_law nm) (ok_li (ok_iadd dL_law_2039)) (
  ce_fc (P := P_L_law nm) (ok_li (ok_iald dL_law_2040)) (
  ce_fc (P := P_L_law nm) (ok_li (ok_aload_n dL_law_2041 rfl)) (
  ce_fc (P := P_L_law nm) (ok_li (ok_iload dL_law_2042)) (
  ce_fc (P := P_L_law nm) (ok_li (ok_iconst dL_law_2044)) (
  ce_fc (P := P_L_law nm) (ok_li (ok_iadd dL_law_2045)) (
  ce_fc (P := P_L_law nm) (ok_li (ok_iald dL_law_2046)) (
  ce_fc (P := P_L_law nm) (ok_li (ok_if_eq dL_law_2047 (by decide))) (
  ce_fc (P := P_L_law nm) (ok_li (ok_iconst dL_law_2050)) (
  ce_fc (P := P_L_law nm) (ok_li (ok_goto dL_law_2051 (by decide))) (
  ce_fc (P := P_L_law nm) (ok_li (ok_iconst dL_law_2054)) (
  ce_fc (P := P_L_law nm) (ok_li (ok_aload_n dL_law_2055 rfl)) (
  ce_fc (P := P_L_law nm) (ok_call (ru_SX m_L_clamp (by decide) (by decide) gw_1191 gw_1189 gw_1190 gw_0 hp_L_clamp dL_law_2056) ca_f) (
  ce_fn (P := P_L_law nm)))))))))))))))
noncomputable def tb_L_law_67 : List (Nat × ce_N) := [(2059, ce_li (ce_istore 6 2061 9)),
  (2061, ce_li (ce_aload 2 2062)),
  (2062, ce_li (ce_aload 0 2063)),
  (2063, ce_li (ce_iload 5 2065)),
  (2065, ce_li (ce_push (.inl (.inl (1))) 2066)),
  (2066, ce_li (ce_bin ce_addo 2067)),
  (2067, ce_li (ce_iald 2068 2067)),
  (2068, ce_li (ce_aload 0 2069)),
  (2069, ce_li (ce_iload 5 2071)),
  (2071, ce_li (ce_push (.inl (.inl (2))) 2072)),
  (2072, ce_li (ce_bin ce_addo 2073)),
  (2073, ce_li (ce_iald 2074 2073)),
  (2074, ce_li (ce_aload 0 2075)),
  (2075, ce_li (ce_iload 5 2077))]
theorem tk_L_law_67 {nm : String} : ∀ x ∈ tb_L_law_67, P_L_law nm x.1 x.2 :=
  ce_fc (P := P_L_law nm) (ok_li (ok_istore dL_law_2059)) (
  ce_fc (P := P_L_law nm) (ok_li (ok_aload_n dL_law_2061 rfl)) (
  ce_fc (P := P_L_law nm) (ok_li (ok_aload_n dL_law_2062 rfl)) (
  ce_fc (P := P_L_law nm) (ok_li (ok_iload dL_law_2063)) (
  ce_fc (P := P_L_law nm) (ok_li (ok_iconst dL_law_2065)) (
  ce_fc (P := P_L_law nm) (ok_li (ok_iadd dL_law_2066)) (
  ce_fc (P := P_L_law nm) (ok_li (ok_iald dL_law_2067)) (
  ce_fc (P := P_L_law nm) (ok_li (ok_aload_n dL_law_2068 rfl)) (
  ce_fc (P := P_L_law nm) (ok_li (ok_iload dL_law_2069)) (
  ce_fc (P := P_L_law nm) (ok_li (ok_iconst dL_law_2071)) (
  ce_fc (P := P_L_law nm) (ok_li (ok_iadd dL_law_2072)) (
  ce_fc (P := P_L_law nm) (ok_li (ok_iald dL_law_2073)) (
  ce_fc (P := P_L_law nm) (ok_li (ok_aload_n dL_law_2074 rfl)) (
  ce_fc (P := P_L_law nm) (ok_li (ok_iload dL_law_2075)) (
  ce_fn (P := P_L_law nm)))))))))))))))
noncomputable def tb_L_law_68 : List (Nat × ce_N) := [(2077, ce_li (ce_push (.inl (.inl (3))) 2078)),
  (2078, ce_li (ce_bin ce_addo 2079)),
  (2079, ce_li (ce_iald 2080 2079)),
  (2080, ce_li (ce_if true false false 2087 2083)),
  (2083, ce_li (ce_push (.inl (.inl (1))) 2084)),
  (2084, ce_li (ce_goto 2088)),
  (2087, ce_li (ce_push (.inl (.inl (0))) 2088)),
  (2088, ce_call 4 0 0 2091 (.inr false) (ce_CV 20 F_X21_clamp)),
  (2091, ce_li (ce_istore 7 2093 9)),
  (2093, ce_li (ce_aload 2 2094)),
  (2094, ce_call 1 0 0 2097 (.inr false) (ce_CV 20 F_X21_thrown)),
  (2097, ce_li (ce_iload 6 2099)),
  (2099, ce_li (ce_icmp true false false 2104 2102)),
  (2104, ce_li (ce_iload 6 2106))]
theorem tk_L_law_68 {nm : String} : ∀ x ∈ tb_L_law_68, P_L_law nm x.1 x.2 :=
  ce_fc (P := P_L_law nm) (ok_li (ok_iconst dL_law_2077)) (
  ce_fc (P := P_L_law nm) (ok_li (ok_iadd dL_law_2078)) (
  ce_fc (P := P_L_law nm) (ok_li (ok_iald dL_law_2079)) (
  ce_fc (P := P_L_law nm) (ok_li (ok_if_eq dL_law_2080 (by decide))) (
  ce_fc (P := P_L_law nm) (ok_li (ok_iconst dL_law_2083)) (
  ce_fc (P := P_L_law nm) (ok_li (ok_goto dL_law_2084 (by decide))) (
  ce_fc (P := P_L_law nm) (ok_li (ok_iconst dL_law_2087)) (
  ce_fc (P := P_L_law nm) (ok_call (ru_V (ci := 20) (C := RX21) (Tf := TX21) (N := 20) m_X21_clamp (by decide) (by decide) rfl gw_2545 gw_2542 gw_2543 gw_2544 gw_13 ⟨rfl, hp_X21_clamp⟩ dL_law_2088) ca_f) (
  ce_fc (P := P_L_law nm) (ok_li (ok_istore dL_law_2091)) (
  ce_fc (P := P_L_law nm) (ok_li (ok_aload_n dL_law_2093 rfl)) (
  ce_fc (P := P_L_law nm) (ok_call (ru_V (ci := 20) (C := RX21) (Tf := TX21) (N := 20) m_X21_thrown (by decide) (by decide) rfl gw_1586 gw_1583 gw_1584 gw_1585 gw_13 ⟨rfl, hp_X21_thrown⟩ dL_law_2094) ca_f) (
  ce_fc (P := P_L_law nm) (ok_li (ok_iload dL_law_2097)) (
  ce_fc (P := P_L_law nm) (ok_li (ok_icmp_eq dL_law_2099 (by decide))) (
  ce_fc (P := P_L_law nm) (ok_li (ok_iload dL_law_2104)) (
  ce_fn (P := P_L_law nm)))))))))))))))
noncomputable def tb_L_law_69 : List (Nat × ce_N) := [(2106, ce_li (ce_if true false true 2121 2109)),
  (2121, ce_li (ce_goto 3319)),
  (2124, ce_li (ce_aload 1 2125)),
  (2125, ce_li (ce_aload 0 2126)),
  (2126, ce_li (ce_iload 5 2128)),
  (2128, ce_li (ce_push (.inl (.inl (1))) 2129)),
  (2129, ce_li (ce_bin ce_addo 2130)),
  (2130, ce_li (ce_iald 2131 2130)),
  (2131, ce_li (ce_aload 0 2132)),
  (2132, ce_li (ce_iload 5 2134)),
  (2134, ce_li (ce_push (.inl (.inl (2))) 2135)),
  (2135, ce_li (ce_bin ce_addo 2136)),
  (2136, ce_li (ce_iald 2137 2136)),
  (2137, ce_li (ce_aload 0 2138))]
theorem tk_L_law_69 {nm : String} : ∀ x ∈ tb_L_law_69, P_L_law nm x.1 x.2 :=
  ce_fc (P := P_L_law nm) (ok_li (ok_if_ne dL_law_2106 (by decide))) (
  ce_fc (P := P_L_law nm) (ok_li (ok_goto dL_law_2121 (by decide))) (
  ce_fc (P := P_L_law nm) (ok_li (ok_aload_n dL_law_2124 rfl)) (
  ce_fc (P := P_L_law nm) (ok_li (ok_aload_n dL_law_2125 rfl)) (
  ce_fc (P := P_L_law nm) (ok_li (ok_iload dL_law_2126)) (
  ce_fc (P := P_L_law nm) (ok_li (ok_iconst dL_law_2128)) (
  ce_fc (P := P_L_law nm) (ok_li (ok_iadd dL_law_2129)) (
  ce_fc (P := P_L_law nm) (ok_li (ok_iald dL_law_2130)) (
  ce_fc (P := P_L_law nm) (ok_li (ok_aload_n dL_law_2131 rfl)) (
  ce_fc (P := P_L_law nm) (ok_li (ok_iload dL_law_2132)) (
  ce_fc (P := P_L_law nm) (ok_li (ok_iconst dL_law_2134)) (
  ce_fc (P := P_L_law nm) (ok_li (ok_iadd dL_law_2135)) (
  ce_fc (P := P_L_law nm) (ok_li (ok_iald dL_law_2136)) (
  ce_fc (P := P_L_law nm) (ok_li (ok_aload_n dL_law_2137 rfl)) (
  ce_fn (P := P_L_law nm)))))))))))))))
noncomputable def tb_L_law_70 : List (Nat × ce_N) := [(2138, ce_li (ce_iload 5 2140)),
  (2140, ce_li (ce_push (.inl (.inl (3))) 2141)),
  (2141, ce_li (ce_bin ce_addo 2142)),
  (2142, ce_li (ce_iald 2143 2142)),
  (2143, ce_li (ce_aload 0 2144)),
  (2144, ce_li (ce_iload 5 2146)),
  (2146, ce_li (ce_push (.inl (.inl (4))) 2147)),
  (2147, ce_li (ce_bin ce_addo 2148)),
  (2148, ce_li (ce_iald 2149 2148)),
  (2149, ce_li (ce_aload 0 2150)),
  (2150, ce_li (ce_iload 5 2152)),
  (2152, ce_li (ce_push (.inl (.inl (5))) 2153)),
  (2153, ce_li (ce_bin ce_addo 2154)),
  (2154, ce_li (ce_iald 2155 2154))]
theorem tk_L_law_70 {nm : String} : ∀ x ∈ tb_L_law_70, P_L_law nm x.1 x.2 :=
  ce_fc (P := P_L_law nm) (ok_li (ok_iload dL_law_2138)) (
  ce_fc (P := P_L_law nm) (ok_li (ok_iconst dL_law_2140)) (
  ce_fc (P := P_L_law nm) (ok_li (ok_iadd dL_law_2141)) (
  ce_fc (P := P_L_law nm) (ok_li (ok_iald dL_law_2142)) (
  ce_fc (P := P_L_law nm) (ok_li (ok_aload_n dL_law_2143 rfl)) (
  ce_fc (P := P_L_law nm) (ok_li (ok_iload dL_law_2144)) (
  ce_fc (P := P_L_law nm) (ok_li (ok_iconst dL_law_2146)) (
  ce_fc (P := P_L_law nm) (ok_li (ok_iadd dL_law_2147)) (
  ce_fc (P := P_L_law nm) (ok_li (ok_iald dL_law_2148)) (
  ce_fc (P := P_L_law nm) (ok_li (ok_aload_n dL_law_2149 rfl)) (
  ce_fc (P := P_L_law nm) (ok_li (ok_iload dL_law_2150)) (
  ce_fc (P := P_L_law nm) (ok_li (ok_iconst dL_law_2152)) (
  ce_fc (P := P_L_law nm) (ok_li (ok_iadd dL_law_2153)) (
  ce_fc (P := P_L_law nm) (ok_li (ok_iald dL_law_2154)) (
  ce_fn (P := P_L_law nm)))))))))))))))
noncomputable def tb_L_law_71 : List (Nat × ce_N) := [(2155, ce_li (ce_aload 3 2156)),
  (2156, ce_call 7 1 6 2159 (.inr false) F_L_addBoards),
  (2159, ce_li (ce_istore 6 2161 9)),
  (2161, ce_li (ce_aload 2 2162)),
  (2162, ce_li (ce_aload 0 2163)),
  (2163, ce_li (ce_iload 5 2165)),
  (2165, ce_li (ce_push (.inl (.inl (1))) 2166)),
  (2166, ce_li (ce_bin ce_addo 2167)),
  (2167, ce_li (ce_iald 2168 2167)),
  (2168, ce_li (ce_aload 0 2169)),
  (2169, ce_li (ce_iload 5 2171)),
  (2171, ce_li (ce_push (.inl (.inl (2))) 2172)),
  (2172, ce_li (ce_bin ce_addo 2173)),
  (2173, ce_li (ce_iald 2174 2173))]
theorem tk_L_law_71 {nm : String} : ∀ x ∈ tb_L_law_71, P_L_law nm x.1 x.2 :=
  ce_fc (P := P_L_law nm) (ok_li (ok_aload_n dL_law_2155 rfl)) (
  ce_fc (P := P_L_law nm) (ok_call (ru_SX m_L_addBoards (by decide) (by decide) gw_1211 gw_1209 gw_1210 gw_0 hp_L_addBoards dL_law_2156) ca_f) (
  ce_fc (P := P_L_law nm) (ok_li (ok_istore dL_law_2159)) (
  ce_fc (P := P_L_law nm) (ok_li (ok_aload_n dL_law_2161 rfl)) (
  ce_fc (P := P_L_law nm) (ok_li (ok_aload_n dL_law_2162 rfl)) (
  ce_fc (P := P_L_law nm) (ok_li (ok_iload dL_law_2163)) (
  ce_fc (P := P_L_law nm) (ok_li (ok_iconst dL_law_2165)) (
  ce_fc (P := P_L_law nm) (ok_li (ok_iadd dL_law_2166)) (
  ce_fc (P := P_L_law nm) (ok_li (ok_iald dL_law_2167)) (
  ce_fc (P := P_L_law nm) (ok_li (ok_aload_n dL_law_2168 rfl)) (
  ce_fc (P := P_L_law nm) (ok_li (ok_iload dL_law_2169)) (
  ce_fc (P := P_L_law nm) (ok_li (ok_iconst dL_law_2171)) (
  ce_fc (P := P_L_law nm) (ok_li (ok_iadd dL_law_2172)) (
  ce_fc (P := P_L_law nm) (ok_li (ok_iald dL_law_2173)) (
  ce_fn (P := P_L_law nm)))))))))))))))
noncomputable def tb_L_law_72 : List (Nat × ce_N) := [(2174, ce_li (ce_aload 0 2175)),
  (2175, ce_li (ce_iload 5 2177)),
  (2177, ce_li (ce_push (.inl (.inl (3))) 2178)),
  (2178, ce_li (ce_bin ce_addo 2179)),
  (2179, ce_li (ce_iald 2180 2179)),
  (2180, ce_li (ce_aload 0 2181)),
  (2181, ce_li (ce_iload 5 2183)),
  (2183, ce_li (ce_push (.inl (.inl (4))) 2184)),
  (2184, ce_li (ce_bin ce_addo 2185)),
  (2185, ce_li (ce_iald 2186 2185)),
  (2186, ce_li (ce_aload 0 2187)),
  (2187, ce_li (ce_iload 5 2189)),
  (2189, ce_li (ce_push (.inl (.inl (5))) 2190)),
  (2190, ce_li (ce_bin ce_addo 2191))]
theorem tk_L_law_72 {nm : String} : ∀ x ∈ tb_L_law_72, P_L_law nm x.1 x.2 :=
  ce_fc (P := P_L_law nm) (ok_li (ok_aload_n dL_law_2174 rfl)) (
  ce_fc (P := P_L_law nm) (ok_li (ok_iload dL_law_2175)) (
  ce_fc (P := P_L_law nm) (ok_li (ok_iconst dL_law_2177)) (
  ce_fc (P := P_L_law nm) (ok_li (ok_iadd dL_law_2178)) (
  ce_fc (P := P_L_law nm) (ok_li (ok_iald dL_law_2179)) (
  ce_fc (P := P_L_law nm) (ok_li (ok_aload_n dL_law_2180 rfl)) (
  ce_fc (P := P_L_law nm) (ok_li (ok_iload dL_law_2181)) (
  ce_fc (P := P_L_law nm) (ok_li (ok_iconst dL_law_2183)) (
  ce_fc (P := P_L_law nm) (ok_li (ok_iadd dL_law_2184)) (
  ce_fc (P := P_L_law nm) (ok_li (ok_iald dL_law_2185)) (
  ce_fc (P := P_L_law nm) (ok_li (ok_aload_n dL_law_2186 rfl)) (
  ce_fc (P := P_L_law nm) (ok_li (ok_iload dL_law_2187)) (
  ce_fc (P := P_L_law nm) (ok_li (ok_iconst dL_law_2189)) (
  ce_fc (P := P_L_law nm) (ok_li (ok_iadd dL_law_2190)) (
  ce_fn (P := P_L_law nm)))))))))))))))
noncomputable def tb_L_law_73 : List (Nat × ce_N) := [(2191, ce_li (ce_iald 2192 2191)),
  (2192, ce_call 6 80 700 2195 (.inr false) (ce_CV 20 F_X21_addBoards)),
  (2195, ce_li (ce_istore 7 2197 9)),
  (2197, ce_li (ce_aload 2 2198)),
  (2198, ce_call 1 0 0 2201 (.inr false) (ce_CV 20 F_X21_thrown)),
  (2201, ce_li (ce_iload 6 2203)),
  (2203, ce_li (ce_icmp true false false 2208 2206)),
  (2208, ce_li (ce_iload 6 2210)),
  (2210, ce_li (ce_if true false true 2225 2213)),
  (2213, ce_li (ce_aload 3 2214)),
  (2214, ce_li (ce_push (.inl (.inl (0))) 2215)),
  (2215, ce_li (ce_lald 2216)),
  (2216, ce_li (ce_iload 7 2218)),
  (2218, ce_li (ce_i2l 2219))]
theorem tk_L_law_73 {nm : String} : ∀ x ∈ tb_L_law_73, P_L_law nm x.1 x.2 :=
  ce_fc (P := P_L_law nm) (ok_li (ok_iald dL_law_2191)) (
  ce_fc (P := P_L_law nm) (ok_call (ru_V (ci := 20) (C := RX21) (Tf := TX21) (N := 20) m_X21_addBoards (by decide) (by decide) rfl gw_2552 gw_2549 gw_2550 gw_2551 gw_13 ⟨rfl, hp_X21_addBoards⟩ dL_law_2192) ca_f) (
  ce_fc (P := P_L_law nm) (ok_li (ok_istore dL_law_2195)) (
  ce_fc (P := P_L_law nm) (ok_li (ok_aload_n dL_law_2197 rfl)) (
  ce_fc (P := P_L_law nm) (ok_call (ru_V (ci := 20) (C := RX21) (Tf := TX21) (N := 20) m_X21_thrown (by decide) (by decide) rfl gw_1586 gw_1583 gw_1584 gw_1585 gw_13 ⟨rfl, hp_X21_thrown⟩ dL_law_2198) ca_f) (
  ce_fc (P := P_L_law nm) (ok_li (ok_iload dL_law_2201)) (
  ce_fc (P := P_L_law nm) (ok_li (ok_icmp_eq dL_law_2203 (by decide))) (
  ce_fc (P := P_L_law nm) (ok_li (ok_iload dL_law_2208)) (
  ce_fc (P := P_L_law nm) (ok_li (ok_if_ne dL_law_2210 (by decide))) (
  ce_fc (P := P_L_law nm) (ok_li (ok_aload_n dL_law_2213 rfl)) (
  ce_fc (P := P_L_law nm) (ok_li (ok_iconst dL_law_2214)) (
  ce_fc (P := P_L_law nm) (ok_li (ok_lald dL_law_2215)) (
  ce_fc (P := P_L_law nm) (ok_li (ok_iload dL_law_2216)) (
  ce_fc (P := P_L_law nm) (ok_li (ok_i2l dL_law_2218)) (
  ce_fn (P := P_L_law nm)))))))))))))))
noncomputable def tb_L_law_74 : List (Nat × ce_N) := [(2219, ce_li (ce_lcmp 2220)),
  (2220, ce_li (ce_if true false false 2225 2223)),
  (2225, ce_li (ce_goto 3319)),
  (2228, ce_li (ce_aload 1 2229)),
  (2229, ce_call 1 0 0 2232 (.inr false) (ce_CV 15 F_X11_boards)),
  (2232, ce_li (ce_aload 2 2233)),
  (2233, ce_call 1 0 0 2236 (.inr false) (ce_CV 20 F_X21_boards)),
  (2236, ce_li (ce_icmp true false false 3319 2239)),
  (2241, ce_li (ce_aload 1 2242)),
  (2242, ce_call 1 0 0 2245 (.inr false) (ce_CV 15 F_X11_offcuts)),
  (2245, ce_li (ce_aload 2 2246)),
  (2246, ce_call 1 1 4 2249 (.inr false) (ce_CV 20 F_X21_offcuts)),
  (2249, ce_li (ce_icmp true false false 3319 2252)),
  (2254, ce_li (ce_aload 1 2255))]
theorem tk_L_law_74 {nm : String} : ∀ x ∈ tb_L_law_74, P_L_law nm x.1 x.2 :=
  ce_fc (P := P_L_law nm) (ok_li (ok_lcmp dL_law_2219)) (
  ce_fc (P := P_L_law nm) (ok_li (ok_if_eq dL_law_2220 (by decide))) (
  ce_fc (P := P_L_law nm) (ok_li (ok_goto dL_law_2225 (by decide))) (
  ce_fc (P := P_L_law nm) (ok_li (ok_aload_n dL_law_2228 rfl)) (
  ce_fc (P := P_L_law nm) (ok_call (ru_V (ci := 15) (C := RX11) (Tf := TX11) (N := 7) m_X11_boards (by decide) (by decide) rfl gw_565 gw_562 gw_563 gw_564 gw_1 ⟨rfl, hp_X11_boards⟩ dL_law_2229) ca_f) (
  ce_fc (P := P_L_law nm) (ok_li (ok_aload_n dL_law_2232 rfl)) (
  ce_fc (P := P_L_law nm) (ok_call (ru_V (ci := 20) (C := RX21) (Tf := TX21) (N := 20) m_X21_boards (by decide) (by decide) rfl gw_2595 gw_2592 gw_2593 gw_2594 gw_13 ⟨rfl, hp_X21_boards⟩ dL_law_2233) ca_f) (
  ce_fc (P := P_L_law nm) (ok_li (ok_icmp_eq dL_law_2236 (by decide))) (
  ce_fc (P := P_L_law nm) (ok_li (ok_aload_n dL_law_2241 rfl)) (
  ce_fc (P := P_L_law nm) (ok_call (ru_V (ci := 15) (C := RX11) (Tf := TX11) (N := 7) m_X11_offcuts (by decide) (by decide) rfl gw_569 gw_566 gw_567 gw_568 gw_1 ⟨rfl, hp_X11_offcuts⟩ dL_law_2242) ca_f) (
  ce_fc (P := P_L_law nm) (ok_li (ok_aload_n dL_law_2245 rfl)) (
  ce_fc (P := P_L_law nm) (ok_call (ru_V (ci := 20) (C := RX21) (Tf := TX21) (N := 20) m_X21_offcuts (by decide) (by decide) rfl gw_2599 gw_2596 gw_2597 gw_2598 gw_13 ⟨rfl, hp_X21_offcuts⟩ dL_law_2246) ca_f) (
  ce_fc (P := P_L_law nm) (ok_li (ok_icmp_eq dL_law_2249 (by decide))) (
  ce_fc (P := P_L_law nm) (ok_li (ok_aload_n dL_law_2254 rfl)) (
  ce_fn (P := P_L_law nm)))))))))))))))
noncomputable def tb_L_law_75 : List (Nat × ce_N) := [(2255, ce_li (ce_aload 0 2256)),
  (2256, ce_li (ce_iload 5 2258)),
  (2258, ce_li (ce_push (.inl (.inl (1))) 2259)),
  (2259, ce_li (ce_bin ce_addo 2260)),
  (2260, ce_li (ce_iald 2261 2260)),
  (2261, ce_li (ce_aload 0 2262)),
  (2262, ce_li (ce_iload 5 2264)),
  (2264, ce_li (ce_push (.inl (.inl (2))) 2265)),
  (2265, ce_li (ce_bin ce_addo 2266)),
  (2266, ce_li (ce_iald 2267 2266)),
  (2267, ce_li (ce_i2c 2268)),
  (2268, ce_li (ce_aload 3 2269)),
  (2269, ce_call 4 1 6 2272 (.inr false) F_L_board),
  (2272, ce_li (ce_istore 6 2274 9))]
theorem tk_L_law_75 {nm : String} : ∀ x ∈ tb_L_law_75, P_L_law nm x.1 x.2 :=
  ce_fc (P := P_L_law nm) (ok_li (ok_aload_n dL_law_2255 rfl)) (
  ce_fc (P := P_L_law nm) (ok_li (ok_iload dL_law_2256)) (
  ce_fc (P := P_L_law nm) (ok_li (ok_iconst dL_law_2258)) (
  ce_fc (P := P_L_law nm) (ok_li (ok_iadd dL_law_2259)) (
  ce_fc (P := P_L_law nm) (ok_li (ok_iald dL_law_2260)) (
  ce_fc (P := P_L_law nm) (ok_li (ok_aload_n dL_law_2261 rfl)) (
  ce_fc (P := P_L_law nm) (ok_li (ok_iload dL_law_2262)) (
  ce_fc (P := P_L_law nm) (ok_li (ok_iconst dL_law_2264)) (
  ce_fc (P := P_L_law nm) (ok_li (ok_iadd dL_law_2265)) (
  ce_fc (P := P_L_law nm) (ok_li (ok_iald dL_law_2266)) (
  ce_fc (P := P_L_law nm) (ok_li (ok_i2c dL_law_2267)) (
  ce_fc (P := P_L_law nm) (ok_li (ok_aload_n dL_law_2268 rfl)) (
  ce_fc (P := P_L_law nm) (ok_call (ru_SX m_L_board (by decide) (by decide) gw_1226 gw_1224 gw_1225 gw_0 hp_L_board dL_law_2269) ca_f) (
  ce_fc (P := P_L_law nm) (ok_li (ok_istore dL_law_2272)) (
  ce_fn (P := P_L_law nm)))))))))))))))
noncomputable def tb_L_law_76 : List (Nat × ce_N) := [(2274, ce_li (ce_aload 2 2275)),
  (2275, ce_li (ce_aload 0 2276)),
  (2276, ce_li (ce_iload 5 2278)),
  (2278, ce_li (ce_push (.inl (.inl (1))) 2279)),
  (2279, ce_li (ce_bin ce_addo 2280)),
  (2280, ce_li (ce_iald 2281 2280)),
  (2281, ce_li (ce_aload 0 2282)),
  (2282, ce_li (ce_iload 5 2284)),
  (2284, ce_li (ce_push (.inl (.inl (2))) 2285)),
  (2285, ce_li (ce_bin ce_addo 2286)),
  (2286, ce_li (ce_iald 2287 2286)),
  (2287, ce_li (ce_i2c 2288)),
  (2288, ce_call 3 0 0 2291 (.inr false) (ce_CV 20 F_X21_board)),
  (2291, ce_li (ce_istore 7 2293 9))]
theorem tk_L_law_76 {nm : String} : ∀ x ∈ tb_L_law_76, P_L_law nm x.1 x.2 :=
  ce_fc (P := P_L_law nm) (ok_li (ok_aload_n dL_law_2274 rfl)) (
  ce_fc (P := P_L_law nm) (ok_li (ok_aload_n dL_law_2275 rfl)) (
  ce_fc (P := P_L_law nm) (ok_li (ok_iload dL_law_2276)) (
  ce_fc (P := P_L_law nm) (ok_li (ok_iconst dL_law_2278)) (
  ce_fc (P := P_L_law nm) (ok_li (ok_iadd dL_law_2279)) (
  ce_fc (P := P_L_law nm) (ok_li (ok_iald dL_law_2280)) (
  ce_fc (P := P_L_law nm) (ok_li (ok_aload_n dL_law_2281 rfl)) (
  ce_fc (P := P_L_law nm) (ok_li (ok_iload dL_law_2282)) (
  ce_fc (P := P_L_law nm) (ok_li (ok_iconst dL_law_2284)) (
  ce_fc (P := P_L_law nm) (ok_li (ok_iadd dL_law_2285)) (
  ce_fc (P := P_L_law nm) (ok_li (ok_iald dL_law_2286)) (
  ce_fc (P := P_L_law nm) (ok_li (ok_i2c dL_law_2287)) (
  ce_fc (P := P_L_law nm) (ok_call (ru_V (ci := 20) (C := RX21) (Tf := TX21) (N := 20) m_X21_board (by decide) (by decide) rfl gw_2603 gw_2600 gw_2601 gw_2602 gw_13 ⟨rfl, hp_X21_board⟩ dL_law_2288) ca_f) (
  ce_fc (P := P_L_law nm) (ok_li (ok_istore dL_law_2291)) (
  ce_fn (P := P_L_law nm)))))))))))))))
noncomputable def tb_L_law_77 : List (Nat × ce_N) := [(2293, ce_li (ce_aload 2 2294)),
  (2294, ce_call 1 0 0 2297 (.inr false) (ce_CV 20 F_X21_thrown)),
  (2297, ce_li (ce_iload 6 2299)),
  (2299, ce_li (ce_icmp true false false 2304 2302)),
  (2304, ce_li (ce_iload 6 2306)),
  (2306, ce_li (ce_if true false true 2321 2309)),
  (2321, ce_li (ce_goto 3319)),
  (2324, ce_li (ce_aload 1 2325)),
  (2325, ce_li (ce_aload 0 2326)),
  (2326, ce_li (ce_iload 5 2328)),
  (2328, ce_li (ce_push (.inl (.inl (1))) 2329)),
  (2329, ce_li (ce_bin ce_addo 2330)),
  (2330, ce_li (ce_iald 2331 2330)),
  (2331, ce_li (ce_aload 3 2332))]
theorem tk_L_law_77 {nm : String} : ∀ x ∈ tb_L_law_77, P_L_law nm x.1 x.2 :=
  ce_fc (P := P_L_law nm) (ok_li (ok_aload_n dL_law_2293 rfl)) (
  ce_fc (P := P_L_law nm) (ok_call (ru_V (ci := 20) (C := RX21) (Tf := TX21) (N := 20) m_X21_thrown (by decide) (by decide) rfl gw_1586 gw_1583 gw_1584 gw_1585 gw_13 ⟨rfl, hp_X21_thrown⟩ dL_law_2294) ca_f) (
  ce_fc (P := P_L_law nm) (ok_li (ok_iload dL_law_2297)) (
  ce_fc (P := P_L_law nm) (ok_li (ok_icmp_eq dL_law_2299 (by decide))) (
  ce_fc (P := P_L_law nm) (ok_li (ok_iload dL_law_2304)) (
  ce_fc (P := P_L_law nm) (ok_li (ok_if_ne dL_law_2306 (by decide))) (
  ce_fc (P := P_L_law nm) (ok_li (ok_goto dL_law_2321 (by decide))) (
  ce_fc (P := P_L_law nm) (ok_li (ok_aload_n dL_law_2324 rfl)) (
  ce_fc (P := P_L_law nm) (ok_li (ok_aload_n dL_law_2325 rfl)) (
  ce_fc (P := P_L_law nm) (ok_li (ok_iload dL_law_2326)) (
  ce_fc (P := P_L_law nm) (ok_li (ok_iconst dL_law_2328)) (
  ce_fc (P := P_L_law nm) (ok_li (ok_iadd dL_law_2329)) (
  ce_fc (P := P_L_law nm) (ok_li (ok_iald dL_law_2330)) (
  ce_fc (P := P_L_law nm) (ok_li (ok_aload_n dL_law_2331 rfl)) (
  ce_fn (P := P_L_law nm)))))))))))))))
noncomputable def tb_L_law_78 : List (Nat × ce_N) := [(2332, ce_call 3 1 6 2335 (.inr false) F_L_uncut),
  (2335, ce_li (ce_istore 6 2337 9)),
  (2337, ce_li (ce_aload 2 2338)),
  (2338, ce_li (ce_aload 0 2339)),
  (2339, ce_li (ce_iload 5 2341)),
  (2341, ce_li (ce_push (.inl (.inl (1))) 2342)),
  (2342, ce_li (ce_bin ce_addo 2343)),
  (2343, ce_li (ce_iald 2344 2343)),
  (2344, ce_call 2 0 0 2347 (.inr false) (ce_CV 20 F_X21_uncut)),
  (2347, ce_li (ce_istore 7 2349 9)),
  (2349, ce_li (ce_aload 2 2350)),
  (2350, ce_call 1 0 0 2353 (.inr false) (ce_CV 20 F_X21_thrown)),
  (2353, ce_li (ce_iload 6 2355)),
  (2355, ce_li (ce_icmp true false false 2360 2358))]
theorem tk_L_law_78 {nm : String} : ∀ x ∈ tb_L_law_78, P_L_law nm x.1 x.2 :=
  ce_fc (P := P_L_law nm) (ok_call (ru_SX m_L_uncut (by decide) (by decide) gw_1234 gw_1232 gw_1233 gw_0 hp_L_uncut dL_law_2332) ca_f) (
  ce_fc (P := P_L_law nm) (ok_li (ok_istore dL_law_2335)) (
  ce_fc (P := P_L_law nm) (ok_li (ok_aload_n dL_law_2337 rfl)) (
  ce_fc (P := P_L_law nm) (ok_li (ok_aload_n dL_law_2338 rfl)) (
  ce_fc (P := P_L_law nm) (ok_li (ok_iload dL_law_2339)) (
  ce_fc (P := P_L_law nm) (ok_li (ok_iconst dL_law_2341)) (
  ce_fc (P := P_L_law nm) (ok_li (ok_iadd dL_law_2342)) (
  ce_fc (P := P_L_law nm) (ok_li (ok_iald dL_law_2343)) (
  ce_fc (P := P_L_law nm) (ok_call (ru_V (ci := 20) (C := RX21) (Tf := TX21) (N := 20) m_X21_uncut (by decide) (by decide) rfl gw_2608 gw_2605 gw_2606 gw_2607 gw_13 ⟨rfl, hp_X21_uncut⟩ dL_law_2344) ca_f) (
  ce_fc (P := P_L_law nm) (ok_li (ok_istore dL_law_2347)) (
  ce_fc (P := P_L_law nm) (ok_li (ok_aload_n dL_law_2349 rfl)) (
  ce_fc (P := P_L_law nm) (ok_call (ru_V (ci := 20) (C := RX21) (Tf := TX21) (N := 20) m_X21_thrown (by decide) (by decide) rfl gw_1586 gw_1583 gw_1584 gw_1585 gw_13 ⟨rfl, hp_X21_thrown⟩ dL_law_2350) ca_f) (
  ce_fc (P := P_L_law nm) (ok_li (ok_iload dL_law_2353)) (
  ce_fc (P := P_L_law nm) (ok_li (ok_icmp_eq dL_law_2355 (by decide))) (
  ce_fn (P := P_L_law nm)))))))))))))))
noncomputable def tb_L_law_79 : List (Nat × ce_N) := [(2360, ce_li (ce_iload 6 2362)),
  (2362, ce_li (ce_if true false true 2377 2365)),
  (2377, ce_li (ce_goto 3319)),
  (2380, ce_li (ce_aload 1 2381)),
  (2381, ce_li (ce_aload 0 2382)),
  (2382, ce_li (ce_iload 5 2384)),
  (2384, ce_li (ce_push (.inl (.inl (1))) 2385)),
  (2385, ce_li (ce_bin ce_addo 2386)),
  (2386, ce_li (ce_iald 2387 2386)),
  (2387, ce_li (ce_aload 3 2388)),
  (2388, ce_call 3 1 6 2391 (.inr false) F_L_cut),
  (2391, ce_li (ce_istore 6 2393 9)),
  (2393, ce_li (ce_aload 2 2394)),
  (2394, ce_li (ce_aload 0 2395))]
theorem tk_L_law_79 {nm : String} : ∀ x ∈ tb_L_law_79, P_L_law nm x.1 x.2 :=
  ce_fc (P := P_L_law nm) (ok_li (ok_iload dL_law_2360)) (
  ce_fc (P := P_L_law nm) (ok_li (ok_if_ne dL_law_2362 (by decide))) (
  ce_fc (P := P_L_law nm) (ok_li (ok_goto dL_law_2377 (by decide))) (
  ce_fc (P := P_L_law nm) (ok_li (ok_aload_n dL_law_2380 rfl)) (
  ce_fc (P := P_L_law nm) (ok_li (ok_aload_n dL_law_2381 rfl)) (
  ce_fc (P := P_L_law nm) (ok_li (ok_iload dL_law_2382)) (
  ce_fc (P := P_L_law nm) (ok_li (ok_iconst dL_law_2384)) (
  ce_fc (P := P_L_law nm) (ok_li (ok_iadd dL_law_2385)) (
  ce_fc (P := P_L_law nm) (ok_li (ok_iald dL_law_2386)) (
  ce_fc (P := P_L_law nm) (ok_li (ok_aload_n dL_law_2387 rfl)) (
  ce_fc (P := P_L_law nm) (ok_call (ru_SX m_L_cut (by decide) (by decide) gw_1252 gw_1250 gw_1251 gw_0 hp_L_cut dL_law_2388) ca_f) (
  ce_fc (P := P_L_law nm) (ok_li (ok_istore dL_law_2391)) (
  ce_fc (P := P_L_law nm) (ok_li (ok_aload_n dL_law_2393 rfl)) (
  ce_fc (P := P_L_law nm) (ok_li (ok_aload_n dL_law_2394 rfl)) (
  ce_fn (P := P_L_law nm)))))))))))))))
noncomputable def tb_L_law_80 : List (Nat × ce_N) := [(2395, ce_li (ce_iload 5 2397)),
  (2397, ce_li (ce_push (.inl (.inl (1))) 2398)),
  (2398, ce_li (ce_bin ce_addo 2399)),
  (2399, ce_li (ce_iald 2400 2399)),
  (2400, ce_call 2 0 0 2403 (.inr false) (ce_CV 20 F_X21_cut)),
  (2403, ce_li (ce_istore 7 2405 9)),
  (2405, ce_li (ce_aload 2 2406)),
  (2406, ce_call 1 0 0 2409 (.inr false) (ce_CV 20 F_X21_thrown)),
  (2409, ce_li (ce_iload 6 2411)),
  (2411, ce_li (ce_icmp true false false 2416 2414)),
  (2416, ce_li (ce_iload 6 2418)),
  (2418, ce_li (ce_if true false true 2433 2421)),
  (2433, ce_li (ce_goto 3319)),
  (2436, ce_li (ce_aload 1 2437))]
theorem tk_L_law_80 {nm : String} : ∀ x ∈ tb_L_law_80, P_L_law nm x.1 x.2 :=
  ce_fc (P := P_L_law nm) (ok_li (ok_iload dL_law_2395)) (
  ce_fc (P := P_L_law nm) (ok_li (ok_iconst dL_law_2397)) (
  ce_fc (P := P_L_law nm) (ok_li (ok_iadd dL_law_2398)) (
  ce_fc (P := P_L_law nm) (ok_li (ok_iald dL_law_2399)) (
  ce_fc (P := P_L_law nm) (ok_call (ru_V (ci := 20) (C := RX21) (Tf := TX21) (N := 20) m_X21_cut (by decide) (by decide) rfl gw_2624 gw_2621 gw_2622 gw_2623 gw_13 ⟨rfl, hp_X21_cut⟩ dL_law_2400) ca_f) (
  ce_fc (P := P_L_law nm) (ok_li (ok_istore dL_law_2403)) (
  ce_fc (P := P_L_law nm) (ok_li (ok_aload_n dL_law_2405 rfl)) (
  ce_fc (P := P_L_law nm) (ok_call (ru_V (ci := 20) (C := RX21) (Tf := TX21) (N := 20) m_X21_thrown (by decide) (by decide) rfl gw_1586 gw_1583 gw_1584 gw_1585 gw_13 ⟨rfl, hp_X21_thrown⟩ dL_law_2406) ca_f) (
  ce_fc (P := P_L_law nm) (ok_li (ok_iload dL_law_2409)) (
  ce_fc (P := P_L_law nm) (ok_li (ok_icmp_eq dL_law_2411 (by decide))) (
  ce_fc (P := P_L_law nm) (ok_li (ok_iload dL_law_2416)) (
  ce_fc (P := P_L_law nm) (ok_li (ok_if_ne dL_law_2418 (by decide))) (
  ce_fc (P := P_L_law nm) (ok_li (ok_goto dL_law_2433 (by decide))) (
  ce_fc (P := P_L_law nm) (ok_li (ok_aload_n dL_law_2436 rfl)) (
  ce_fn (P := P_L_law nm)))))))))))))))
noncomputable def tb_L_law_81 : List (Nat × ce_N) := [(2437, ce_li (ce_aload 0 2438)),
  (2438, ce_li (ce_iload 5 2440)),
  (2440, ce_li (ce_push (.inl (.inl (1))) 2441)),
  (2441, ce_li (ce_bin ce_addo 2442)),
  (2442, ce_li (ce_iald 2443 2442)),
  (2443, ce_li (ce_aload 0 2444)),
  (2444, ce_li (ce_iload 5 2446)),
  (2446, ce_li (ce_push (.inl (.inl (2))) 2447)),
  (2447, ce_li (ce_bin ce_addo 2448)),
  (2448, ce_li (ce_iald 2449 2448)),
  (2449, ce_li (ce_aload 3 2450)),
  (2450, ce_call 4 1 6 2453 (.inr false) F_L_lose),
  (2453, ce_li (ce_istore 6 2455 9)),
  (2455, ce_li (ce_aload 2 2456))]
theorem tk_L_law_81 {nm : String} : ∀ x ∈ tb_L_law_81, P_L_law nm x.1 x.2 :=
  ce_fc (P := P_L_law nm) (ok_li (ok_aload_n dL_law_2437 rfl)) (
  ce_fc (P := P_L_law nm) (ok_li (ok_iload dL_law_2438)) (
  ce_fc (P := P_L_law nm) (ok_li (ok_iconst dL_law_2440)) (
  ce_fc (P := P_L_law nm) (ok_li (ok_iadd dL_law_2441)) (
  ce_fc (P := P_L_law nm) (ok_li (ok_iald dL_law_2442)) (
  ce_fc (P := P_L_law nm) (ok_li (ok_aload_n dL_law_2443 rfl)) (
  ce_fc (P := P_L_law nm) (ok_li (ok_iload dL_law_2444)) (
  ce_fc (P := P_L_law nm) (ok_li (ok_iconst dL_law_2446)) (
  ce_fc (P := P_L_law nm) (ok_li (ok_iadd dL_law_2447)) (
  ce_fc (P := P_L_law nm) (ok_li (ok_iald dL_law_2448)) (
  ce_fc (P := P_L_law nm) (ok_li (ok_aload_n dL_law_2449 rfl)) (
  ce_fc (P := P_L_law nm) (ok_call (ru_SX m_L_lose (by decide) (by decide) gw_1351 gw_1349 gw_1350 gw_0 hp_L_lose dL_law_2450) ca_f) (
  ce_fc (P := P_L_law nm) (ok_li (ok_istore dL_law_2453)) (
  ce_fc (P := P_L_law nm) (ok_li (ok_aload_n dL_law_2455 rfl)) (
  ce_fn (P := P_L_law nm)))))))))))))))
noncomputable def tb_L_law_82 : List (Nat × ce_N) := [(2456, ce_li (ce_aload 0 2457)),
  (2457, ce_li (ce_iload 5 2459)),
  (2459, ce_li (ce_push (.inl (.inl (1))) 2460)),
  (2460, ce_li (ce_bin ce_addo 2461)),
  (2461, ce_li (ce_iald 2462 2461)),
  (2462, ce_li (ce_aload 0 2463)),
  (2463, ce_li (ce_iload 5 2465)),
  (2465, ce_li (ce_push (.inl (.inl (2))) 2466)),
  (2466, ce_li (ce_bin ce_addo 2467)),
  (2467, ce_li (ce_iald 2468 2467)),
  (2468, ce_call 3 0 0 2471 (.inr false) (ce_CV 20 F_X21_lose)),
  (2471, ce_li (ce_istore 7 2473 9)),
  (2473, ce_li (ce_aload 2 2474)),
  (2474, ce_call 1 0 0 2477 (.inr false) (ce_CV 20 F_X21_thrown))]
theorem tk_L_law_82 {nm : String} : ∀ x ∈ tb_L_law_82, P_L_law nm x.1 x.2 :=
  ce_fc (P := P_L_law nm) (ok_li (ok_aload_n dL_law_2456 rfl)) (
  ce_fc (P := P_L_law nm) (ok_li (ok_iload dL_law_2457)) (
  ce_fc (P := P_L_law nm) (ok_li (ok_iconst dL_law_2459)) (
  ce_fc (P := P_L_law nm) (ok_li (ok_iadd dL_law_2460)) (
  ce_fc (P := P_L_law nm) (ok_li (ok_iald dL_law_2461)) (
  ce_fc (P := P_L_law nm) (ok_li (ok_aload_n dL_law_2462 rfl)) (
  ce_fc (P := P_L_law nm) (ok_li (ok_iload dL_law_2463)) (
  ce_fc (P := P_L_law nm) (ok_li (ok_iconst dL_law_2465)) (
  ce_fc (P := P_L_law nm) (ok_li (ok_iadd dL_law_2466)) (
  ce_fc (P := P_L_law nm) (ok_li (ok_iald dL_law_2467)) (
  ce_fc (P := P_L_law nm) (ok_call (ru_V (ci := 20) (C := RX21) (Tf := TX21) (N := 20) m_X21_lose (by decide) (by decide) rfl gw_2742 gw_2739 gw_2740 gw_2741 gw_13 ⟨rfl, hp_X21_lose⟩ dL_law_2468) ca_f) (
  ce_fc (P := P_L_law nm) (ok_li (ok_istore dL_law_2471)) (
  ce_fc (P := P_L_law nm) (ok_li (ok_aload_n dL_law_2473 rfl)) (
  ce_fc (P := P_L_law nm) (ok_call (ru_V (ci := 20) (C := RX21) (Tf := TX21) (N := 20) m_X21_thrown (by decide) (by decide) rfl gw_1586 gw_1583 gw_1584 gw_1585 gw_13 ⟨rfl, hp_X21_thrown⟩ dL_law_2474) ca_f) (
  ce_fn (P := P_L_law nm)))))))))))))))
noncomputable def tb_L_law_83 : List (Nat × ce_N) := [(2477, ce_li (ce_iload 6 2479)),
  (2479, ce_li (ce_icmp true false false 2484 2482)),
  (2484, ce_li (ce_iload 6 2486)),
  (2486, ce_li (ce_if true false true 2501 2489)),
  (2501, ce_li (ce_goto 3319)),
  (2504, ce_li (ce_aload 1 2505)),
  (2505, ce_li (ce_aload 0 2506)),
  (2506, ce_li (ce_iload 5 2508)),
  (2508, ce_li (ce_push (.inl (.inl (1))) 2509)),
  (2509, ce_li (ce_bin ce_addo 2510)),
  (2510, ce_li (ce_iald 2511 2510)),
  (2511, ce_li (ce_aload 3 2512)),
  (2512, ce_call 3 1 6 2515 (.inr false) F_L_edged),
  (2515, ce_li (ce_istore 6 2517 9))]
theorem tk_L_law_83 {nm : String} : ∀ x ∈ tb_L_law_83, P_L_law nm x.1 x.2 :=
  ce_fc (P := P_L_law nm) (ok_li (ok_iload dL_law_2477)) (
  ce_fc (P := P_L_law nm) (ok_li (ok_icmp_eq dL_law_2479 (by decide))) (
  ce_fc (P := P_L_law nm) (ok_li (ok_iload dL_law_2484)) (
  ce_fc (P := P_L_law nm) (ok_li (ok_if_ne dL_law_2486 (by decide))) (
  ce_fc (P := P_L_law nm) (ok_li (ok_goto dL_law_2501 (by decide))) (
  ce_fc (P := P_L_law nm) (ok_li (ok_aload_n dL_law_2504 rfl)) (
  ce_fc (P := P_L_law nm) (ok_li (ok_aload_n dL_law_2505 rfl)) (
  ce_fc (P := P_L_law nm) (ok_li (ok_iload dL_law_2506)) (
  ce_fc (P := P_L_law nm) (ok_li (ok_iconst dL_law_2508)) (
  ce_fc (P := P_L_law nm) (ok_li (ok_iadd dL_law_2509)) (
  ce_fc (P := P_L_law nm) (ok_li (ok_iald dL_law_2510)) (
  ce_fc (P := P_L_law nm) (ok_li (ok_aload_n dL_law_2511 rfl)) (
  ce_fc (P := P_L_law nm) (ok_call (ru_SX m_L_edged (by decide) (by decide) gw_1358 gw_1356 gw_1357 gw_0 hp_L_edged dL_law_2512) ca_f) (
  ce_fc (P := P_L_law nm) (ok_li (ok_istore dL_law_2515)) (
  ce_fn (P := P_L_law nm)))))))))))))))
noncomputable def tb_L_law_84 : List (Nat × ce_N) := [(2517, ce_li (ce_aload 2 2518)),
  (2518, ce_li (ce_aload 0 2519)),
  (2519, ce_li (ce_iload 5 2521)),
  (2521, ce_li (ce_push (.inl (.inl (1))) 2522)),
  (2522, ce_li (ce_bin ce_addo 2523)),
  (2523, ce_li (ce_iald 2524 2523)),
  (2524, ce_call 2 1 4 2527 (.inr false) (ce_CV 20 F_X21_edged)),
  (2527, ce_li (ce_istore 7 2529 9)),
  (2529, ce_li (ce_aload 2 2530)),
  (2530, ce_call 1 0 0 2533 (.inr false) (ce_CV 20 F_X21_thrown)),
  (2533, ce_li (ce_iload 6 2535)),
  (2535, ce_li (ce_icmp true false false 2540 2538)),
  (2540, ce_li (ce_iload 6 2542)),
  (2542, ce_li (ce_if true false true 2557 2545))]
theorem tk_L_law_84 {nm : String} : ∀ x ∈ tb_L_law_84, P_L_law nm x.1 x.2 :=
  ce_fc (P := P_L_law nm) (ok_li (ok_aload_n dL_law_2517 rfl)) (
  ce_fc (P := P_L_law nm) (ok_li (ok_aload_n dL_law_2518 rfl)) (
  ce_fc (P := P_L_law nm) (ok_li (ok_iload dL_law_2519)) (
  ce_fc (P := P_L_law nm) (ok_li (ok_iconst dL_law_2521)) (
  ce_fc (P := P_L_law nm) (ok_li (ok_iadd dL_law_2522)) (
  ce_fc (P := P_L_law nm) (ok_li (ok_iald dL_law_2523)) (
  ce_fc (P := P_L_law nm) (ok_call (ru_V (ci := 20) (C := RX21) (Tf := TX21) (N := 20) m_X21_edged (by decide) (by decide) rfl gw_2746 gw_2743 gw_2744 gw_2745 gw_13 ⟨rfl, hp_X21_edged⟩ dL_law_2524) ca_f) (
  ce_fc (P := P_L_law nm) (ok_li (ok_istore dL_law_2527)) (
  ce_fc (P := P_L_law nm) (ok_li (ok_aload_n dL_law_2529 rfl)) (
  ce_fc (P := P_L_law nm) (ok_call (ru_V (ci := 20) (C := RX21) (Tf := TX21) (N := 20) m_X21_thrown (by decide) (by decide) rfl gw_1586 gw_1583 gw_1584 gw_1585 gw_13 ⟨rfl, hp_X21_thrown⟩ dL_law_2530) ca_f) (
  ce_fc (P := P_L_law nm) (ok_li (ok_iload dL_law_2533)) (
  ce_fc (P := P_L_law nm) (ok_li (ok_icmp_eq dL_law_2535 (by decide))) (
  ce_fc (P := P_L_law nm) (ok_li (ok_iload dL_law_2540)) (
  ce_fc (P := P_L_law nm) (ok_li (ok_if_ne dL_law_2542 (by decide))) (
  ce_fn (P := P_L_law nm)))))))))))))))
noncomputable def tb_L_law_85 : List (Nat × ce_N) := [(2545, ce_li (ce_aload 3 2546)),
  (2546, ce_li (ce_push (.inl (.inl (0))) 2547)),
  (2547, ce_li (ce_lald 2548)),
  (2548, ce_li (ce_iload 7 2550)),
  (2550, ce_li (ce_i2l 2551)),
  (2551, ce_li (ce_lcmp 2552)),
  (2552, ce_li (ce_if true false false 2557 2555)),
  (2557, ce_li (ce_goto 3319)),
  (2560, ce_li (ce_aload 1 2561)),
  (2561, ce_li (ce_aload 0 2562)),
  (2562, ce_li (ce_iload 5 2564)),
  (2564, ce_li (ce_push (.inl (.inl (1))) 2565)),
  (2565, ce_li (ce_bin ce_addo 2566)),
  (2566, ce_li (ce_iald 2567 2566))]
theorem tk_L_law_85 {nm : String} : ∀ x ∈ tb_L_law_85, P_L_law nm x.1 x.2 :=
  ce_fc (P := P_L_law nm) (ok_li (ok_aload_n dL_law_2545 rfl)) (
  ce_fc (P := P_L_law nm) (ok_li (ok_iconst dL_law_2546)) (
  ce_fc (P := P_L_law nm) (ok_li (ok_lald dL_law_2547)) (
  ce_fc (P := P_L_law nm) (ok_li (ok_iload dL_law_2548)) (
  ce_fc (P := P_L_law nm) (ok_li (ok_i2l dL_law_2550)) (
  ce_fc (P := P_L_law nm) (ok_li (ok_lcmp dL_law_2551)) (
  ce_fc (P := P_L_law nm) (ok_li (ok_if_eq dL_law_2552 (by decide))) (
  ce_fc (P := P_L_law nm) (ok_li (ok_goto dL_law_2557 (by decide))) (
  ce_fc (P := P_L_law nm) (ok_li (ok_aload_n dL_law_2560 rfl)) (
  ce_fc (P := P_L_law nm) (ok_li (ok_aload_n dL_law_2561 rfl)) (
  ce_fc (P := P_L_law nm) (ok_li (ok_iload dL_law_2562)) (
  ce_fc (P := P_L_law nm) (ok_li (ok_iconst dL_law_2564)) (
  ce_fc (P := P_L_law nm) (ok_li (ok_iadd dL_law_2565)) (
  ce_fc (P := P_L_law nm) (ok_li (ok_iald dL_law_2566)) (
  ce_fn (P := P_L_law nm)))))))))))))))
noncomputable def tb_L_law_86 : List (Nat × ce_N) := [(2567, ce_li (ce_aload 0 2568)),
  (2568, ce_li (ce_iload 5 2570)),
  (2570, ce_li (ce_push (.inl (.inl (2))) 2571)),
  (2571, ce_li (ce_bin ce_addo 2572)),
  (2572, ce_li (ce_iald 2573 2572)),
  (2573, ce_li (ce_aload 3 2574)),
  (2574, ce_call 4 1 6 2577 (.inr false) F_L_setRate),
  (2577, ce_li (ce_istore 6 2579 9)),
  (2579, ce_li (ce_aload 2 2580)),
  (2580, ce_li (ce_aload 0 2581)),
  (2581, ce_li (ce_iload 5 2583)),
  (2583, ce_li (ce_push (.inl (.inl (1))) 2584)),
  (2584, ce_li (ce_bin ce_addo 2585)),
  (2585, ce_li (ce_iald 2586 2585))]
theorem tk_L_law_86 {nm : String} : ∀ x ∈ tb_L_law_86, P_L_law nm x.1 x.2 :=
  ce_fc (P := P_L_law nm) (ok_li (ok_aload_n dL_law_2567 rfl)) (
  ce_fc (P := P_L_law nm) (ok_li (ok_iload dL_law_2568)) (
  ce_fc (P := P_L_law nm) (ok_li (ok_iconst dL_law_2570)) (
  ce_fc (P := P_L_law nm) (ok_li (ok_iadd dL_law_2571)) (
  ce_fc (P := P_L_law nm) (ok_li (ok_iald dL_law_2572)) (
  ce_fc (P := P_L_law nm) (ok_li (ok_aload_n dL_law_2573 rfl)) (
  ce_fc (P := P_L_law nm) (ok_call (ru_SX m_L_setRate (by decide) (by decide) gw_1376 gw_1374 gw_1375 gw_0 hp_L_setRate dL_law_2574) ca_f) (
  ce_fc (P := P_L_law nm) (ok_li (ok_istore dL_law_2577)) (
  ce_fc (P := P_L_law nm) (ok_li (ok_aload_n dL_law_2579 rfl)) (
  ce_fc (P := P_L_law nm) (ok_li (ok_aload_n dL_law_2580 rfl)) (
  ce_fc (P := P_L_law nm) (ok_li (ok_iload dL_law_2581)) (
  ce_fc (P := P_L_law nm) (ok_li (ok_iconst dL_law_2583)) (
  ce_fc (P := P_L_law nm) (ok_li (ok_iadd dL_law_2584)) (
  ce_fc (P := P_L_law nm) (ok_li (ok_iald dL_law_2585)) (
  ce_fn (P := P_L_law nm)))))))))))))))
noncomputable def tb_L_law_87 : List (Nat × ce_N) := [(2586, ce_li (ce_aload 0 2587)),
  (2587, ce_li (ce_iload 5 2589)),
  (2589, ce_li (ce_push (.inl (.inl (2))) 2590)),
  (2590, ce_li (ce_bin ce_addo 2591)),
  (2591, ce_li (ce_iald 2592 2591)),
  (2592, ce_call 3 0 0 2595 (.inr false) (ce_CV 20 F_X21_setRate)),
  (2595, ce_li (ce_istore 7 2597 9)),
  (2597, ce_li (ce_aload 2 2598)),
  (2598, ce_call 1 0 0 2601 (.inr false) (ce_CV 20 F_X21_thrown)),
  (2601, ce_li (ce_iload 6 2603)),
  (2603, ce_li (ce_icmp true false false 2608 2606)),
  (2608, ce_li (ce_iload 6 2610)),
  (2610, ce_li (ce_if true false true 2625 2613)),
  (2613, ce_li (ce_aload 3 2614))]
theorem tk_L_law_87 {nm : String} : ∀ x ∈ tb_L_law_87, P_L_law nm x.1 x.2 :=
  ce_fc (P := P_L_law nm) (ok_li (ok_aload_n dL_law_2586 rfl)) (
  ce_fc (P := P_L_law nm) (ok_li (ok_iload dL_law_2587)) (
  ce_fc (P := P_L_law nm) (ok_li (ok_iconst dL_law_2589)) (
  ce_fc (P := P_L_law nm) (ok_li (ok_iadd dL_law_2590)) (
  ce_fc (P := P_L_law nm) (ok_li (ok_iald dL_law_2591)) (
  ce_fc (P := P_L_law nm) (ok_call (ru_V (ci := 20) (C := RX21) (Tf := TX21) (N := 20) m_X21_setRate (by decide) (by decide) rfl gw_2754 gw_2751 gw_2752 gw_2753 gw_13 ⟨rfl, hp_X21_setRate⟩ dL_law_2592) ca_f) (
  ce_fc (P := P_L_law nm) (ok_li (ok_istore dL_law_2595)) (
  ce_fc (P := P_L_law nm) (ok_li (ok_aload_n dL_law_2597 rfl)) (
  ce_fc (P := P_L_law nm) (ok_call (ru_V (ci := 20) (C := RX21) (Tf := TX21) (N := 20) m_X21_thrown (by decide) (by decide) rfl gw_1586 gw_1583 gw_1584 gw_1585 gw_13 ⟨rfl, hp_X21_thrown⟩ dL_law_2598) ca_f) (
  ce_fc (P := P_L_law nm) (ok_li (ok_iload dL_law_2601)) (
  ce_fc (P := P_L_law nm) (ok_li (ok_icmp_eq dL_law_2603 (by decide))) (
  ce_fc (P := P_L_law nm) (ok_li (ok_iload dL_law_2608)) (
  ce_fc (P := P_L_law nm) (ok_li (ok_if_ne dL_law_2610 (by decide))) (
  ce_fc (P := P_L_law nm) (ok_li (ok_aload_n dL_law_2613 rfl)) (
  ce_fn (P := P_L_law nm)))))))))))))))
noncomputable def tb_L_law_88 : List (Nat × ce_N) := [(2614, ce_li (ce_push (.inl (.inl (0))) 2615)),
  (2615, ce_li (ce_lald 2616)),
  (2616, ce_li (ce_iload 7 2618)),
  (2618, ce_li (ce_i2l 2619)),
  (2619, ce_li (ce_lcmp 2620)),
  (2620, ce_li (ce_if true false false 2625 2623)),
  (2625, ce_li (ce_goto 3319)),
  (2628, ce_li (ce_aload 1 2629)),
  (2629, ce_li (ce_aload 0 2630)),
  (2630, ce_li (ce_iload 5 2632)),
  (2632, ce_li (ce_push (.inl (.inl (1))) 2633)),
  (2633, ce_li (ce_bin ce_addo 2634)),
  (2634, ce_li (ce_iald 2635 2634)),
  (2635, ce_li (ce_aload 3 2636))]
theorem tk_L_law_88 {nm : String} : ∀ x ∈ tb_L_law_88, P_L_law nm x.1 x.2 :=
  ce_fc (P := P_L_law nm) (ok_li (ok_iconst dL_law_2614)) (
  ce_fc (P := P_L_law nm) (ok_li (ok_lald dL_law_2615)) (
  ce_fc (P := P_L_law nm) (ok_li (ok_iload dL_law_2616)) (
  ce_fc (P := P_L_law nm) (ok_li (ok_i2l dL_law_2618)) (
  ce_fc (P := P_L_law nm) (ok_li (ok_lcmp dL_law_2619)) (
  ce_fc (P := P_L_law nm) (ok_li (ok_if_eq dL_law_2620 (by decide))) (
  ce_fc (P := P_L_law nm) (ok_li (ok_goto dL_law_2625 (by decide))) (
  ce_fc (P := P_L_law nm) (ok_li (ok_aload_n dL_law_2628 rfl)) (
  ce_fc (P := P_L_law nm) (ok_li (ok_aload_n dL_law_2629 rfl)) (
  ce_fc (P := P_L_law nm) (ok_li (ok_iload dL_law_2630)) (
  ce_fc (P := P_L_law nm) (ok_li (ok_iconst dL_law_2632)) (
  ce_fc (P := P_L_law nm) (ok_li (ok_iadd dL_law_2633)) (
  ce_fc (P := P_L_law nm) (ok_li (ok_iald dL_law_2634)) (
  ce_fc (P := P_L_law nm) (ok_li (ok_aload_n dL_law_2635 rfl)) (
  ce_fn (P := P_L_law nm)))))))))))))))
noncomputable def tb_L_law_89 : List (Nat × ce_N) := [(2636, ce_call 3 1 6 2639 (.inr false) F_L_price),
  (2639, ce_li (ce_istore 6 2641 9)),
  (2641, ce_li (ce_aload 2 2642)),
  (2642, ce_li (ce_aload 0 2643)),
  (2643, ce_li (ce_iload 5 2645)),
  (2645, ce_li (ce_push (.inl (.inl (1))) 2646)),
  (2646, ce_li (ce_bin ce_addo 2647)),
  (2647, ce_li (ce_iald 2648 2647)),
  (2648, ce_call 2 0 0 2651 (.inr false) (ce_CV 20 F_X21_price)),
  (2651, ce_li (ce_istore 7 2653 9)),
  (2653, ce_li (ce_aload 2 2654)),
  (2654, ce_call 1 0 0 2657 (.inr false) (ce_CV 20 F_X21_thrown)),
  (2657, ce_li (ce_iload 6 2659)),
  (2659, ce_li (ce_icmp true false false 2664 2662))]
theorem tk_L_law_89 {nm : String} : ∀ x ∈ tb_L_law_89, P_L_law nm x.1 x.2 :=
  ce_fc (P := P_L_law nm) (ok_call (ru_SX m_L_price (by decide) (by decide) gw_1383 gw_1381 gw_1382 gw_0 hp_L_price dL_law_2636) ca_f) (
  ce_fc (P := P_L_law nm) (ok_li (ok_istore dL_law_2639)) (
  ce_fc (P := P_L_law nm) (ok_li (ok_aload_n dL_law_2641 rfl)) (
  ce_fc (P := P_L_law nm) (ok_li (ok_aload_n dL_law_2642 rfl)) (
  ce_fc (P := P_L_law nm) (ok_li (ok_iload dL_law_2643)) (
  ce_fc (P := P_L_law nm) (ok_li (ok_iconst dL_law_2645)) (
  ce_fc (P := P_L_law nm) (ok_li (ok_iadd dL_law_2646)) (
  ce_fc (P := P_L_law nm) (ok_li (ok_iald dL_law_2647)) (
  ce_fc (P := P_L_law nm) (ok_call (ru_V (ci := 20) (C := RX21) (Tf := TX21) (N := 20) m_X21_price (by decide) (by decide) rfl gw_2758 gw_2755 gw_2756 gw_2757 gw_13 ⟨rfl, hp_X21_price⟩ dL_law_2648) ca_f) (
  ce_fc (P := P_L_law nm) (ok_li (ok_istore dL_law_2651)) (
  ce_fc (P := P_L_law nm) (ok_li (ok_aload_n dL_law_2653 rfl)) (
  ce_fc (P := P_L_law nm) (ok_call (ru_V (ci := 20) (C := RX21) (Tf := TX21) (N := 20) m_X21_thrown (by decide) (by decide) rfl gw_1586 gw_1583 gw_1584 gw_1585 gw_13 ⟨rfl, hp_X21_thrown⟩ dL_law_2654) ca_f) (
  ce_fc (P := P_L_law nm) (ok_li (ok_iload dL_law_2657)) (
  ce_fc (P := P_L_law nm) (ok_li (ok_icmp_eq dL_law_2659 (by decide))) (
  ce_fn (P := P_L_law nm)))))))))))))))
noncomputable def tb_L_law_90 : List (Nat × ce_N) := [(2664, ce_li (ce_iload 6 2666)),
  (2666, ce_li (ce_if true false true 2681 2669)),
  (2681, ce_li (ce_goto 3319)),
  (2684, ce_li (ce_aload 1 2685)),
  (2685, ce_li (ce_aload 0 2686)),
  (2686, ce_li (ce_iload 5 2688)),
  (2688, ce_li (ce_push (.inl (.inl (1))) 2689)),
  (2689, ce_li (ce_bin ce_addo 2690)),
  (2690, ce_li (ce_iald 2691 2690)),
  (2691, ce_li (ce_aload 0 2692)),
  (2692, ce_li (ce_iload 5 2694)),
  (2694, ce_li (ce_push (.inl (.inl (2))) 2695)),
  (2695, ce_li (ce_bin ce_addo 2696)),
  (2696, ce_li (ce_iald 2697 2696))]
theorem tk_L_law_90 {nm : String} : ∀ x ∈ tb_L_law_90, P_L_law nm x.1 x.2 :=
  ce_fc (P := P_L_law nm) (ok_li (ok_iload dL_law_2664)) (
  ce_fc (P := P_L_law nm) (ok_li (ok_if_ne dL_law_2666 (by decide))) (
  ce_fc (P := P_L_law nm) (ok_li (ok_goto dL_law_2681 (by decide))) (
  ce_fc (P := P_L_law nm) (ok_li (ok_aload_n dL_law_2684 rfl)) (
  ce_fc (P := P_L_law nm) (ok_li (ok_aload_n dL_law_2685 rfl)) (
  ce_fc (P := P_L_law nm) (ok_li (ok_iload dL_law_2686)) (
  ce_fc (P := P_L_law nm) (ok_li (ok_iconst dL_law_2688)) (
  ce_fc (P := P_L_law nm) (ok_li (ok_iadd dL_law_2689)) (
  ce_fc (P := P_L_law nm) (ok_li (ok_iald dL_law_2690)) (
  ce_fc (P := P_L_law nm) (ok_li (ok_aload_n dL_law_2691 rfl)) (
  ce_fc (P := P_L_law nm) (ok_li (ok_iload dL_law_2692)) (
  ce_fc (P := P_L_law nm) (ok_li (ok_iconst dL_law_2694)) (
  ce_fc (P := P_L_law nm) (ok_li (ok_iadd dL_law_2695)) (
  ce_fc (P := P_L_law nm) (ok_li (ok_iald dL_law_2696)) (
  ce_fn (P := P_L_law nm)))))))))))))))
noncomputable def tb_L_law_91 : List (Nat × ce_N) := [(2697, ce_li (ce_aload 3 2698)),
  (2698, ce_call 4 1 6 2701 (.inr false) F_L_packs),
  (2701, ce_li (ce_istore 6 2703 9)),
  (2703, ce_li (ce_aload 2 2704)),
  (2704, ce_li (ce_aload 0 2705)),
  (2705, ce_li (ce_iload 5 2707)),
  (2707, ce_li (ce_push (.inl (.inl (1))) 2708)),
  (2708, ce_li (ce_bin ce_addo 2709)),
  (2709, ce_li (ce_iald 2710 2709)),
  (2710, ce_li (ce_aload 0 2711)),
  (2711, ce_li (ce_iload 5 2713)),
  (2713, ce_li (ce_push (.inl (.inl (2))) 2714)),
  (2714, ce_li (ce_bin ce_addo 2715)),
  (2715, ce_li (ce_iald 2716 2715))]
theorem tk_L_law_91 {nm : String} : ∀ x ∈ tb_L_law_91, P_L_law nm x.1 x.2 :=
  ce_fc (P := P_L_law nm) (ok_li (ok_aload_n dL_law_2697 rfl)) (
  ce_fc (P := P_L_law nm) (ok_call (ru_SX m_L_packs (by decide) (by decide) gw_1396 gw_1394 gw_1395 gw_0 hp_L_packs dL_law_2698) ca_f) (
  ce_fc (P := P_L_law nm) (ok_li (ok_istore dL_law_2701)) (
  ce_fc (P := P_L_law nm) (ok_li (ok_aload_n dL_law_2703 rfl)) (
  ce_fc (P := P_L_law nm) (ok_li (ok_aload_n dL_law_2704 rfl)) (
  ce_fc (P := P_L_law nm) (ok_li (ok_iload dL_law_2705)) (
  ce_fc (P := P_L_law nm) (ok_li (ok_iconst dL_law_2707)) (
  ce_fc (P := P_L_law nm) (ok_li (ok_iadd dL_law_2708)) (
  ce_fc (P := P_L_law nm) (ok_li (ok_iald dL_law_2709)) (
  ce_fc (P := P_L_law nm) (ok_li (ok_aload_n dL_law_2710 rfl)) (
  ce_fc (P := P_L_law nm) (ok_li (ok_iload dL_law_2711)) (
  ce_fc (P := P_L_law nm) (ok_li (ok_iconst dL_law_2713)) (
  ce_fc (P := P_L_law nm) (ok_li (ok_iadd dL_law_2714)) (
  ce_fc (P := P_L_law nm) (ok_li (ok_iald dL_law_2715)) (
  ce_fn (P := P_L_law nm)))))))))))))))
noncomputable def tb_L_law_92 : List (Nat × ce_N) := [(2716, ce_call 3 0 0 2719 (.inr false) (ce_CV 20 F_X21_packs)),
  (2719, ce_li (ce_istore 7 2721 9)),
  (2721, ce_li (ce_aload 2 2722)),
  (2722, ce_call 1 0 0 2725 (.inr false) (ce_CV 20 F_X21_thrown)),
  (2725, ce_li (ce_iload 6 2727)),
  (2727, ce_li (ce_icmp true false false 2732 2730)),
  (2732, ce_li (ce_iload 6 2734)),
  (2734, ce_li (ce_if true false true 2749 2737)),
  (2749, ce_li (ce_goto 3319)),
  (2752, ce_li (ce_aload 1 2753)),
  (2753, ce_li (ce_aload 0 2754)),
  (2754, ce_li (ce_iload 5 2756)),
  (2756, ce_li (ce_push (.inl (.inl (1))) 2757)),
  (2757, ce_li (ce_bin ce_addo 2758))]
theorem tk_L_law_92 {nm : String} : ∀ x ∈ tb_L_law_92, P_L_law nm x.1 x.2 :=
  ce_fc (P := P_L_law nm) (ok_call (ru_V (ci := 20) (C := RX21) (Tf := TX21) (N := 20) m_X21_packs (by decide) (by decide) rfl gw_2764 gw_2761 gw_2762 gw_2763 gw_13 ⟨rfl, hp_X21_packs⟩ dL_law_2716) ca_f) (
  ce_fc (P := P_L_law nm) (ok_li (ok_istore dL_law_2719)) (
  ce_fc (P := P_L_law nm) (ok_li (ok_aload_n dL_law_2721 rfl)) (
  ce_fc (P := P_L_law nm) (ok_call (ru_V (ci := 20) (C := RX21) (Tf := TX21) (N := 20) m_X21_thrown (by decide) (by decide) rfl gw_1586 gw_1583 gw_1584 gw_1585 gw_13 ⟨rfl, hp_X21_thrown⟩ dL_law_2722) ca_f) (
  ce_fc (P := P_L_law nm) (ok_li (ok_iload dL_law_2725)) (
  ce_fc (P := P_L_law nm) (ok_li (ok_icmp_eq dL_law_2727 (by decide))) (
  ce_fc (P := P_L_law nm) (ok_li (ok_iload dL_law_2732)) (
  ce_fc (P := P_L_law nm) (ok_li (ok_if_ne dL_law_2734 (by decide))) (
  ce_fc (P := P_L_law nm) (ok_li (ok_goto dL_law_2749 (by decide))) (
  ce_fc (P := P_L_law nm) (ok_li (ok_aload_n dL_law_2752 rfl)) (
  ce_fc (P := P_L_law nm) (ok_li (ok_aload_n dL_law_2753 rfl)) (
  ce_fc (P := P_L_law nm) (ok_li (ok_iload dL_law_2754)) (
  ce_fc (P := P_L_law nm) (ok_li (ok_iconst dL_law_2756)) (
  ce_fc (P := P_L_law nm) (ok_li (ok_iadd dL_law_2757)) (
  ce_fn (P := P_L_law nm)))))))))))))))
noncomputable def tb_L_law_93 : List (Nat × ce_N) := [(2758, ce_li (ce_iald 2759 2758)),
  (2759, ce_li (ce_aload 0 2760)),
  (2760, ce_li (ce_iload 5 2762)),
  (2762, ce_li (ce_push (.inl (.inl (2))) 2763)),
  (2763, ce_li (ce_bin ce_addo 2764)),
  (2764, ce_li (ce_iald 2765 2764)),
  (2765, ce_li (ce_aload 0 2766)),
  (2766, ce_li (ce_iload 5 2768)),
  (2768, ce_li (ce_push (.inl (.inl (3))) 2769)),
  (2769, ce_li (ce_bin ce_addo 2770)),
  (2770, ce_li (ce_iald 2771 2770)),
  (2771, ce_li (ce_aload 3 2772)),
  (2772, ce_call 5 1 6 2775 (.inr false) F_L_packOf),
  (2775, ce_li (ce_istore 6 2777 9))]
theorem tk_L_law_93 {nm : String} : ∀ x ∈ tb_L_law_93, P_L_law nm x.1 x.2 :=
  ce_fc (P := P_L_law nm) (ok_li (ok_iald dL_law_2758)) (
  ce_fc (P := P_L_law nm) (ok_li (ok_aload_n dL_law_2759 rfl)) (
  ce_fc (P := P_L_law nm) (ok_li (ok_iload dL_law_2760)) (
  ce_fc (P := P_L_law nm) (ok_li (ok_iconst dL_law_2762)) (
  ce_fc (P := P_L_law nm) (ok_li (ok_iadd dL_law_2763)) (
  ce_fc (P := P_L_law nm) (ok_li (ok_iald dL_law_2764)) (
  ce_fc (P := P_L_law nm) (ok_li (ok_aload_n dL_law_2765 rfl)) (
  ce_fc (P := P_L_law nm) (ok_li (ok_iload dL_law_2766)) (
  ce_fc (P := P_L_law nm) (ok_li (ok_iconst dL_law_2768)) (
  ce_fc (P := P_L_law nm) (ok_li (ok_iadd dL_law_2769)) (
  ce_fc (P := P_L_law nm) (ok_li (ok_iald dL_law_2770)) (
  ce_fc (P := P_L_law nm) (ok_li (ok_aload_n dL_law_2771 rfl)) (
  ce_fc (P := P_L_law nm) (ok_call (ru_SX m_L_packOf (by decide) (by decide) gw_1423 gw_1421 gw_1422 gw_0 hp_L_packOf dL_law_2772) ca_f) (
  ce_fc (P := P_L_law nm) (ok_li (ok_istore dL_law_2775)) (
  ce_fn (P := P_L_law nm)))))))))))))))
noncomputable def tb_L_law_94 : List (Nat × ce_N) := [(2777, ce_li (ce_aload 2 2778)),
  (2778, ce_li (ce_aload 0 2779)),
  (2779, ce_li (ce_iload 5 2781)),
  (2781, ce_li (ce_push (.inl (.inl (1))) 2782)),
  (2782, ce_li (ce_bin ce_addo 2783)),
  (2783, ce_li (ce_iald 2784 2783)),
  (2784, ce_li (ce_aload 0 2785)),
  (2785, ce_li (ce_iload 5 2787)),
  (2787, ce_li (ce_push (.inl (.inl (2))) 2788)),
  (2788, ce_li (ce_bin ce_addo 2789)),
  (2789, ce_li (ce_iald 2790 2789)),
  (2790, ce_li (ce_aload 0 2791)),
  (2791, ce_li (ce_iload 5 2793)),
  (2793, ce_li (ce_push (.inl (.inl (3))) 2794))]
theorem tk_L_law_94 {nm : String} : ∀ x ∈ tb_L_law_94, P_L_law nm x.1 x.2 :=
  ce_fc (P := P_L_law nm) (ok_li (ok_aload_n dL_law_2777 rfl)) (
  ce_fc (P := P_L_law nm) (ok_li (ok_aload_n dL_law_2778 rfl)) (
  ce_fc (P := P_L_law nm) (ok_li (ok_iload dL_law_2779)) (
  ce_fc (P := P_L_law nm) (ok_li (ok_iconst dL_law_2781)) (
  ce_fc (P := P_L_law nm) (ok_li (ok_iadd dL_law_2782)) (
  ce_fc (P := P_L_law nm) (ok_li (ok_iald dL_law_2783)) (
  ce_fc (P := P_L_law nm) (ok_li (ok_aload_n dL_law_2784 rfl)) (
  ce_fc (P := P_L_law nm) (ok_li (ok_iload dL_law_2785)) (
  ce_fc (P := P_L_law nm) (ok_li (ok_iconst dL_law_2787)) (
  ce_fc (P := P_L_law nm) (ok_li (ok_iadd dL_law_2788)) (
  ce_fc (P := P_L_law nm) (ok_li (ok_iald dL_law_2789)) (
  ce_fc (P := P_L_law nm) (ok_li (ok_aload_n dL_law_2790 rfl)) (
  ce_fc (P := P_L_law nm) (ok_li (ok_iload dL_law_2791)) (
  ce_fc (P := P_L_law nm) (ok_li (ok_iconst dL_law_2793)) (
  ce_fn (P := P_L_law nm)))))))))))))))
noncomputable def tb_L_law_95 : List (Nat × ce_N) := [(2794, ce_li (ce_bin ce_addo 2795)),
  (2795, ce_li (ce_iald 2796 2795)),
  (2796, ce_call 4 0 0 2799 (.inr false) (ce_CV 20 F_X21_packOf)),
  (2799, ce_li (ce_istore 7 2801 9)),
  (2801, ce_li (ce_aload 2 2802)),
  (2802, ce_call 1 0 0 2805 (.inr false) (ce_CV 20 F_X21_thrown)),
  (2805, ce_li (ce_iload 6 2807)),
  (2807, ce_li (ce_icmp true false false 2812 2810)),
  (2812, ce_li (ce_iload 6 2814)),
  (2814, ce_li (ce_if true false true 2829 2817)),
  (2829, ce_li (ce_goto 3319)),
  (2832, ce_li (ce_aload 1 2833)),
  (2833, ce_li (ce_aload 0 2834)),
  (2834, ce_li (ce_iload 5 2836))]
theorem tk_L_law_95 {nm : String} : ∀ x ∈ tb_L_law_95, P_L_law nm x.1 x.2 :=
  ce_fc (P := P_L_law nm) (ok_li (ok_iadd dL_law_2794)) (
  ce_fc (P := P_L_law nm) (ok_li (ok_iald dL_law_2795)) (
  ce_fc (P := P_L_law nm) (ok_call (ru_V (ci := 20) (C := RX21) (Tf := TX21) (N := 20) m_X21_packOf (by decide) (by decide) rfl gw_2772 gw_2769 gw_2770 gw_2771 gw_13 ⟨rfl, hp_X21_packOf⟩ dL_law_2796) ca_f) (
  ce_fc (P := P_L_law nm) (ok_li (ok_istore dL_law_2799)) (
  ce_fc (P := P_L_law nm) (ok_li (ok_aload_n dL_law_2801 rfl)) (
  ce_fc (P := P_L_law nm) (ok_call (ru_V (ci := 20) (C := RX21) (Tf := TX21) (N := 20) m_X21_thrown (by decide) (by decide) rfl gw_1586 gw_1583 gw_1584 gw_1585 gw_13 ⟨rfl, hp_X21_thrown⟩ dL_law_2802) ca_f) (
  ce_fc (P := P_L_law nm) (ok_li (ok_iload dL_law_2805)) (
  ce_fc (P := P_L_law nm) (ok_li (ok_icmp_eq dL_law_2807 (by decide))) (
  ce_fc (P := P_L_law nm) (ok_li (ok_iload dL_law_2812)) (
  ce_fc (P := P_L_law nm) (ok_li (ok_if_ne dL_law_2814 (by decide))) (
  ce_fc (P := P_L_law nm) (ok_li (ok_goto dL_law_2829 (by decide))) (
  ce_fc (P := P_L_law nm) (ok_li (ok_aload_n dL_law_2832 rfl)) (
  ce_fc (P := P_L_law nm) (ok_li (ok_aload_n dL_law_2833 rfl)) (
  ce_fc (P := P_L_law nm) (ok_li (ok_iload dL_law_2834)) (
  ce_fn (P := P_L_law nm)))))))))))))))
noncomputable def tb_L_law_96 : List (Nat × ce_N) := [(2836, ce_li (ce_push (.inl (.inl (1))) 2837)),
  (2837, ce_li (ce_bin ce_addo 2838)),
  (2838, ce_li (ce_iald 2839 2838)),
  (2839, ce_li (ce_aload 0 2840)),
  (2840, ce_li (ce_iload 5 2842)),
  (2842, ce_li (ce_push (.inl (.inl (2))) 2843)),
  (2843, ce_li (ce_bin ce_addo 2844)),
  (2844, ce_li (ce_iald 2845 2844)),
  (2845, ce_li (ce_aload 3 2846)),
  (2846, ce_call 4 1 6 2849 (.inr false) F_L_stepAt),
  (2849, ce_li (ce_istore 6 2851 9)),
  (2851, ce_li (ce_aload 2 2852)),
  (2852, ce_li (ce_aload 0 2853)),
  (2853, ce_li (ce_iload 5 2855))]
theorem tk_L_law_96 {nm : String} : ∀ x ∈ tb_L_law_96, P_L_law nm x.1 x.2 :=
  ce_fc (P := P_L_law nm) (ok_li (ok_iconst dL_law_2836)) (
  ce_fc (P := P_L_law nm) (ok_li (ok_iadd dL_law_2837)) (
  ce_fc (P := P_L_law nm) (ok_li (ok_iald dL_law_2838)) (
  ce_fc (P := P_L_law nm) (ok_li (ok_aload_n dL_law_2839 rfl)) (
  ce_fc (P := P_L_law nm) (ok_li (ok_iload dL_law_2840)) (
  ce_fc (P := P_L_law nm) (ok_li (ok_iconst dL_law_2842)) (
  ce_fc (P := P_L_law nm) (ok_li (ok_iadd dL_law_2843)) (
  ce_fc (P := P_L_law nm) (ok_li (ok_iald dL_law_2844)) (
  ce_fc (P := P_L_law nm) (ok_li (ok_aload_n dL_law_2845 rfl)) (
  ce_fc (P := P_L_law nm) (ok_call (ru_SX m_L_stepAt (by decide) (by decide) gw_1434 gw_1432 gw_1433 gw_0 hp_L_stepAt dL_law_2846) ca_f) (
  ce_fc (P := P_L_law nm) (ok_li (ok_istore dL_law_2849)) (
  ce_fc (P := P_L_law nm) (ok_li (ok_aload_n dL_law_2851 rfl)) (
  ce_fc (P := P_L_law nm) (ok_li (ok_aload_n dL_law_2852 rfl)) (
  ce_fc (P := P_L_law nm) (ok_li (ok_iload dL_law_2853)) (
  ce_fn (P := P_L_law nm)))))))))))))))
noncomputable def tb_L_law_97 : List (Nat × ce_N) := [(2855, ce_li (ce_push (.inl (.inl (1))) 2856)),
  (2856, ce_li (ce_bin ce_addo 2857)),
  (2857, ce_li (ce_iald 2858 2857)),
  (2858, ce_li (ce_aload 0 2859)),
  (2859, ce_li (ce_iload 5 2861)),
  (2861, ce_li (ce_push (.inl (.inl (2))) 2862)),
  (2862, ce_li (ce_bin ce_addo 2863)),
  (2863, ce_li (ce_iald 2864 2863)),
  (2864, ce_call 3 0 0 2867 (.inr false) (ce_CV 20 F_X21_stepAt)),
  (2867, ce_li (ce_istore 7 2869 9)),
  (2869, ce_li (ce_aload 2 2870)),
  (2870, ce_call 1 0 0 2873 (.inr false) (ce_CV 20 F_X21_thrown)),
  (2873, ce_li (ce_iload 6 2875)),
  (2875, ce_li (ce_icmp true false false 2880 2878))]
theorem tk_L_law_97 {nm : String} : ∀ x ∈ tb_L_law_97, P_L_law nm x.1 x.2 :=
  ce_fc (P := P_L_law nm) (ok_li (ok_iconst dL_law_2855)) (
  ce_fc (P := P_L_law nm) (ok_li (ok_iadd dL_law_2856)) (
  ce_fc (P := P_L_law nm) (ok_li (ok_iald dL_law_2857)) (
  ce_fc (P := P_L_law nm) (ok_li (ok_aload_n dL_law_2858 rfl)) (
  ce_fc (P := P_L_law nm) (ok_li (ok_iload dL_law_2859)) (
  ce_fc (P := P_L_law nm) (ok_li (ok_iconst dL_law_2861)) (
  ce_fc (P := P_L_law nm) (ok_li (ok_iadd dL_law_2862)) (
  ce_fc (P := P_L_law nm) (ok_li (ok_iald dL_law_2863)) (
  ce_fc (P := P_L_law nm) (ok_call (ru_V (ci := 20) (C := RX21) (Tf := TX21) (N := 20) m_X21_stepAt (by decide) (by decide) rfl gw_2776 gw_2773 gw_2774 gw_2775 gw_13 ⟨rfl, hp_X21_stepAt⟩ dL_law_2864) ca_f) (
  ce_fc (P := P_L_law nm) (ok_li (ok_istore dL_law_2867)) (
  ce_fc (P := P_L_law nm) (ok_li (ok_aload_n dL_law_2869 rfl)) (
  ce_fc (P := P_L_law nm) (ok_call (ru_V (ci := 20) (C := RX21) (Tf := TX21) (N := 20) m_X21_thrown (by decide) (by decide) rfl gw_1586 gw_1583 gw_1584 gw_1585 gw_13 ⟨rfl, hp_X21_thrown⟩ dL_law_2870) ca_f) (
  ce_fc (P := P_L_law nm) (ok_li (ok_iload dL_law_2873)) (
  ce_fc (P := P_L_law nm) (ok_li (ok_icmp_eq dL_law_2875 (by decide))) (
  ce_fn (P := P_L_law nm)))))))))))))))
noncomputable def tb_L_law_98 : List (Nat × ce_N) := [(2880, ce_li (ce_iload 6 2882)),
  (2882, ce_li (ce_if true false true 2897 2885)),
  (2897, ce_li (ce_goto 3319)),
  (2900, ce_li (ce_aload 1 2901)),
  (2901, ce_li (ce_aload 0 2902)),
  (2902, ce_li (ce_iload 5 2904)),
  (2904, ce_li (ce_push (.inl (.inl (1))) 2905)),
  (2905, ce_li (ce_bin ce_addo 2906)),
  (2906, ce_li (ce_iald 2907 2906)),
  (2907, ce_li (ce_aload 0 2908)),
  (2908, ce_li (ce_iload 5 2910)),
  (2910, ce_li (ce_push (.inl (.inl (2))) 2911)),
  (2911, ce_li (ce_bin ce_addo 2912)),
  (2912, ce_li (ce_iald 2913 2912))]
theorem tk_L_law_98 {nm : String} : ∀ x ∈ tb_L_law_98, P_L_law nm x.1 x.2 :=
  ce_fc (P := P_L_law nm) (ok_li (ok_iload dL_law_2880)) (
  ce_fc (P := P_L_law nm) (ok_li (ok_if_ne dL_law_2882 (by decide))) (
  ce_fc (P := P_L_law nm) (ok_li (ok_goto dL_law_2897 (by decide))) (
  ce_fc (P := P_L_law nm) (ok_li (ok_aload_n dL_law_2900 rfl)) (
  ce_fc (P := P_L_law nm) (ok_li (ok_aload_n dL_law_2901 rfl)) (
  ce_fc (P := P_L_law nm) (ok_li (ok_iload dL_law_2902)) (
  ce_fc (P := P_L_law nm) (ok_li (ok_iconst dL_law_2904)) (
  ce_fc (P := P_L_law nm) (ok_li (ok_iadd dL_law_2905)) (
  ce_fc (P := P_L_law nm) (ok_li (ok_iald dL_law_2906)) (
  ce_fc (P := P_L_law nm) (ok_li (ok_aload_n dL_law_2907 rfl)) (
  ce_fc (P := P_L_law nm) (ok_li (ok_iload dL_law_2908)) (
  ce_fc (P := P_L_law nm) (ok_li (ok_iconst dL_law_2910)) (
  ce_fc (P := P_L_law nm) (ok_li (ok_iadd dL_law_2911)) (
  ce_fc (P := P_L_law nm) (ok_li (ok_iald dL_law_2912)) (
  ce_fn (P := P_L_law nm)))))))))))))))
noncomputable def tb_L_law_99 : List (Nat × ce_N) := [(2913, ce_li (ce_aload 0 2914)),
  (2914, ce_li (ce_iload 5 2916)),
  (2916, ce_li (ce_push (.inl (.inl (3))) 2917)),
  (2917, ce_li (ce_bin ce_addo 2918)),
  (2918, ce_li (ce_iald 2919 2918)),
  (2919, ce_li (ce_aload 3 2920)),
  (2920, ce_call 5 1 6 2923 (.inr false) F_L_job),
  (2923, ce_li (ce_istore 6 2925 9)),
  (2925, ce_li (ce_aload 2 2926)),
  (2926, ce_li (ce_aload 0 2927)),
  (2927, ce_li (ce_iload 5 2929)),
  (2929, ce_li (ce_push (.inl (.inl (1))) 2930)),
  (2930, ce_li (ce_bin ce_addo 2931)),
  (2931, ce_li (ce_iald 2932 2931))]
theorem tk_L_law_99 {nm : String} : ∀ x ∈ tb_L_law_99, P_L_law nm x.1 x.2 :=
  ce_fc (P := P_L_law nm) (ok_li (ok_aload_n dL_law_2913 rfl)) (
  ce_fc (P := P_L_law nm) (ok_li (ok_iload dL_law_2914)) (
  ce_fc (P := P_L_law nm) (ok_li (ok_iconst dL_law_2916)) (
  ce_fc (P := P_L_law nm) (ok_li (ok_iadd dL_law_2917)) (
  ce_fc (P := P_L_law nm) (ok_li (ok_iald dL_law_2918)) (
  ce_fc (P := P_L_law nm) (ok_li (ok_aload_n dL_law_2919 rfl)) (
  ce_fc (P := P_L_law nm) (ok_call (ru_SX m_L_job (by decide) (by decide) gw_1441 gw_1439 gw_1440 gw_0 hp_L_job dL_law_2920) ca_f) (
  ce_fc (P := P_L_law nm) (ok_li (ok_istore dL_law_2923)) (
  ce_fc (P := P_L_law nm) (ok_li (ok_aload_n dL_law_2925 rfl)) (
  ce_fc (P := P_L_law nm) (ok_li (ok_aload_n dL_law_2926 rfl)) (
  ce_fc (P := P_L_law nm) (ok_li (ok_iload dL_law_2927)) (
  ce_fc (P := P_L_law nm) (ok_li (ok_iconst dL_law_2929)) (
  ce_fc (P := P_L_law nm) (ok_li (ok_iadd dL_law_2930)) (
  ce_fc (P := P_L_law nm) (ok_li (ok_iald dL_law_2931)) (
  ce_fn (P := P_L_law nm)))))))))))))))
noncomputable def tb_L_law_100 : List (Nat × ce_N) := [(2932, ce_li (ce_aload 0 2933)),
  (2933, ce_li (ce_iload 5 2935)),
  (2935, ce_li (ce_push (.inl (.inl (2))) 2936)),
  (2936, ce_li (ce_bin ce_addo 2937)),
  (2937, ce_li (ce_iald 2938 2937)),
  (2938, ce_li (ce_aload 0 2939)),
  (2939, ce_li (ce_iload 5 2941)),
  (2941, ce_li (ce_push (.inl (.inl (3))) 2942)),
  (2942, ce_li (ce_bin ce_addo 2943)),
  (2943, ce_li (ce_iald 2944 2943)),
  (2944, ce_call 4 2 25 2947 (.inr false) (ce_CV 20 F_X21_job)),
  (2947, ce_li (ce_istore 7 2949 9)),
  (2949, ce_li (ce_aload 2 2950)),
  (2950, ce_call 1 0 0 2953 (.inr false) (ce_CV 20 F_X21_thrown))]
theorem tk_L_law_100 {nm : String} : ∀ x ∈ tb_L_law_100, P_L_law nm x.1 x.2 :=
  ce_fc (P := P_L_law nm) (ok_li (ok_aload_n dL_law_2932 rfl)) (
  ce_fc (P := P_L_law nm) (ok_li (ok_iload dL_law_2933)) (
  ce_fc (P := P_L_law nm) (ok_li (ok_iconst dL_law_2935)) (
  ce_fc (P := P_L_law nm) (ok_li (ok_iadd dL_law_2936)) (
  ce_fc (P := P_L_law nm) (ok_li (ok_iald dL_law_2937)) (
  ce_fc (P := P_L_law nm) (ok_li (ok_aload_n dL_law_2938 rfl)) (
  ce_fc (P := P_L_law nm) (ok_li (ok_iload dL_law_2939)) (
  ce_fc (P := P_L_law nm) (ok_li (ok_iconst dL_law_2941)) (
  ce_fc (P := P_L_law nm) (ok_li (ok_iadd dL_law_2942)) (
  ce_fc (P := P_L_law nm) (ok_li (ok_iald dL_law_2943)) (
  ce_fc (P := P_L_law nm) (ok_call (ru_V (ci := 20) (C := RX21) (Tf := TX21) (N := 20) m_X21_job (by decide) (by decide) rfl gw_2780 gw_2777 gw_2778 gw_2779 gw_13 ⟨rfl, hp_X21_job⟩ dL_law_2944) ca_f) (
  ce_fc (P := P_L_law nm) (ok_li (ok_istore dL_law_2947)) (
  ce_fc (P := P_L_law nm) (ok_li (ok_aload_n dL_law_2949 rfl)) (
  ce_fc (P := P_L_law nm) (ok_call (ru_V (ci := 20) (C := RX21) (Tf := TX21) (N := 20) m_X21_thrown (by decide) (by decide) rfl gw_1586 gw_1583 gw_1584 gw_1585 gw_13 ⟨rfl, hp_X21_thrown⟩ dL_law_2950) ca_f) (
  ce_fn (P := P_L_law nm)))))))))))))))
noncomputable def tb_L_law_101 : List (Nat × ce_N) := [(2953, ce_li (ce_iload 6 2955)),
  (2955, ce_li (ce_icmp true false false 2960 2958)),
  (2960, ce_li (ce_iload 6 2962)),
  (2962, ce_li (ce_if true false true 2977 2965)),
  (2965, ce_li (ce_aload 3 2966)),
  (2966, ce_li (ce_push (.inl (.inl (0))) 2967)),
  (2967, ce_li (ce_lald 2968)),
  (2968, ce_li (ce_iload 7 2970)),
  (2970, ce_li (ce_i2l 2971)),
  (2971, ce_li (ce_lcmp 2972)),
  (2972, ce_li (ce_if true false false 2977 2975)),
  (2977, ce_li (ce_goto 3319)),
  (2980, ce_li (ce_aload 1 2981)),
  (2981, ce_li (ce_aload 0 2982))]
theorem tk_L_law_101 {nm : String} : ∀ x ∈ tb_L_law_101, P_L_law nm x.1 x.2 :=
  ce_fc (P := P_L_law nm) (ok_li (ok_iload dL_law_2953)) (
  ce_fc (P := P_L_law nm) (ok_li (ok_icmp_eq dL_law_2955 (by decide))) (
  ce_fc (P := P_L_law nm) (ok_li (ok_iload dL_law_2960)) (
  ce_fc (P := P_L_law nm) (ok_li (ok_if_ne dL_law_2962 (by decide))) (
  ce_fc (P := P_L_law nm) (ok_li (ok_aload_n dL_law_2965 rfl)) (
  ce_fc (P := P_L_law nm) (ok_li (ok_iconst dL_law_2966)) (
  ce_fc (P := P_L_law nm) (ok_li (ok_lald dL_law_2967)) (
  ce_fc (P := P_L_law nm) (ok_li (ok_iload dL_law_2968)) (
  ce_fc (P := P_L_law nm) (ok_li (ok_i2l dL_law_2970)) (
  ce_fc (P := P_L_law nm) (ok_li (ok_lcmp dL_law_2971)) (
  ce_fc (P := P_L_law nm) (ok_li (ok_if_eq dL_law_2972 (by decide))) (
  ce_fc (P := P_L_law nm) (ok_li (ok_goto dL_law_2977 (by decide))) (
  ce_fc (P := P_L_law nm) (ok_li (ok_aload_n dL_law_2980 rfl)) (
  ce_fc (P := P_L_law nm) (ok_li (ok_aload_n dL_law_2981 rfl)) (
  ce_fn (P := P_L_law nm)))))))))))))))
noncomputable def tb_L_law_102 : List (Nat × ce_N) := [(2982, ce_li (ce_iload 5 2984)),
  (2984, ce_li (ce_push (.inl (.inl (1))) 2985)),
  (2985, ce_li (ce_bin ce_addo 2986)),
  (2986, ce_li (ce_iald 2987 2986)),
  (2987, ce_li (ce_aload 3 2988)),
  (2988, ce_call 3 1 6 2991 (.inr false) F_L_setSetup),
  (2991, ce_li (ce_istore 6 2993 9)),
  (2993, ce_li (ce_aload 2 2994)),
  (2994, ce_li (ce_aload 0 2995)),
  (2995, ce_li (ce_iload 5 2997)),
  (2997, ce_li (ce_push (.inl (.inl (1))) 2998)),
  (2998, ce_li (ce_bin ce_addo 2999)),
  (2999, ce_li (ce_iald 3000 2999)),
  (3000, ce_call 2 0 0 3003 (.inr false) (ce_CV 20 F_X21_setSetup))]
theorem tk_L_law_102 {nm : String} : ∀ x ∈ tb_L_law_102, P_L_law nm x.1 x.2 :=
  ce_fc (P := P_L_law nm) (ok_li (ok_iload dL_law_2982)) (
  ce_fc (P := P_L_law nm) (ok_li (ok_iconst dL_law_2984)) (
  ce_fc (P := P_L_law nm) (ok_li (ok_iadd dL_law_2985)) (
  ce_fc (P := P_L_law nm) (ok_li (ok_iald dL_law_2986)) (
  ce_fc (P := P_L_law nm) (ok_li (ok_aload_n dL_law_2987 rfl)) (
  ce_fc (P := P_L_law nm) (ok_call (ru_SX m_L_setSetup (by decide) (by decide) gw_1452 gw_1450 gw_1451 gw_0 hp_L_setSetup dL_law_2988) ca_f) (
  ce_fc (P := P_L_law nm) (ok_li (ok_istore dL_law_2991)) (
  ce_fc (P := P_L_law nm) (ok_li (ok_aload_n dL_law_2993 rfl)) (
  ce_fc (P := P_L_law nm) (ok_li (ok_aload_n dL_law_2994 rfl)) (
  ce_fc (P := P_L_law nm) (ok_li (ok_iload dL_law_2995)) (
  ce_fc (P := P_L_law nm) (ok_li (ok_iconst dL_law_2997)) (
  ce_fc (P := P_L_law nm) (ok_li (ok_iadd dL_law_2998)) (
  ce_fc (P := P_L_law nm) (ok_li (ok_iald dL_law_2999)) (
  ce_fc (P := P_L_law nm) (ok_call (ru_V (ci := 20) (C := RX21) (Tf := TX21) (N := 20) m_X21_setSetup (by decide) (by decide) rfl gw_2803 gw_2800 gw_2801 gw_2802 gw_13 ⟨rfl, hp_X21_setSetup⟩ dL_law_3000) ca_f) (
  ce_fn (P := P_L_law nm)))))))))))))))
noncomputable def tb_L_law_103 : List (Nat × ce_N) := [(3003, ce_li (ce_istore 7 3005 9)),
  (3005, ce_li (ce_aload 2 3006)),
  (3006, ce_call 1 0 0 3009 (.inr false) (ce_CV 20 F_X21_thrown)),
  (3009, ce_li (ce_iload 6 3011)),
  (3011, ce_li (ce_icmp true false false 3016 3014)),
  (3016, ce_li (ce_iload 6 3018)),
  (3018, ce_li (ce_if true false true 3033 3021)),
  (3021, ce_li (ce_aload 3 3022)),
  (3022, ce_li (ce_push (.inl (.inl (0))) 3023)),
  (3023, ce_li (ce_lald 3024)),
  (3024, ce_li (ce_iload 7 3026)),
  (3026, ce_li (ce_i2l 3027)),
  (3027, ce_li (ce_lcmp 3028)),
  (3028, ce_li (ce_if true false false 3033 3031))]
theorem tk_L_law_103 {nm : String} : ∀ x ∈ tb_L_law_103, P_L_law nm x.1 x.2 :=
  ce_fc (P := P_L_law nm) (ok_li (ok_istore dL_law_3003)) (
  ce_fc (P := P_L_law nm) (ok_li (ok_aload_n dL_law_3005 rfl)) (
  ce_fc (P := P_L_law nm) (ok_call (ru_V (ci := 20) (C := RX21) (Tf := TX21) (N := 20) m_X21_thrown (by decide) (by decide) rfl gw_1586 gw_1583 gw_1584 gw_1585 gw_13 ⟨rfl, hp_X21_thrown⟩ dL_law_3006) ca_f) (
  ce_fc (P := P_L_law nm) (ok_li (ok_iload dL_law_3009)) (
  ce_fc (P := P_L_law nm) (ok_li (ok_icmp_eq dL_law_3011 (by decide))) (
  ce_fc (P := P_L_law nm) (ok_li (ok_iload dL_law_3016)) (
  ce_fc (P := P_L_law nm) (ok_li (ok_if_ne dL_law_3018 (by decide))) (
  ce_fc (P := P_L_law nm) (ok_li (ok_aload_n dL_law_3021 rfl)) (
  ce_fc (P := P_L_law nm) (ok_li (ok_iconst dL_law_3022)) (
  ce_fc (P := P_L_law nm) (ok_li (ok_lald dL_law_3023)) (
  ce_fc (P := P_L_law nm) (ok_li (ok_iload dL_law_3024)) (
  ce_fc (P := P_L_law nm) (ok_li (ok_i2l dL_law_3026)) (
  ce_fc (P := P_L_law nm) (ok_li (ok_lcmp dL_law_3027)) (
  ce_fc (P := P_L_law nm) (ok_li (ok_if_eq dL_law_3028 (by decide))) (
  ce_fn (P := P_L_law nm)))))))))))))))
noncomputable def tb_L_law_104 : List (Nat × ce_N) := [(3033, ce_li (ce_goto 3319)),
  (3036, ce_li (ce_aload 1 3037)),
  (3037, ce_call 1 0 0 3040 (.inr false) (ce_CV 15 F_X11_lateness)),
  (3040, ce_li (ce_aload 2 3041)),
  (3041, ce_call 1 2 0 3044 (.inr false) (ce_CV 20 F_X21_lateness)),
  (3044, ce_li (ce_icmp true false false 3319 3047)),
  (3049, ce_li (ce_aload 1 3050)),
  (3050, ce_li (ce_aload 0 3051)),
  (3051, ce_li (ce_iload 5 3053)),
  (3053, ce_li (ce_push (.inl (.inl (1))) 3054)),
  (3054, ce_li (ce_bin ce_addo 3055)),
  (3055, ce_li (ce_iald 3056 3055)),
  (3056, ce_li (ce_aload 3 3057)),
  (3057, ce_call 3 1 6 3060 (.inr false) F_L_jobAt)]
theorem tk_L_law_104 {nm : String} : ∀ x ∈ tb_L_law_104, P_L_law nm x.1 x.2 :=
  ce_fc (P := P_L_law nm) (ok_li (ok_goto dL_law_3033 (by decide))) (
  ce_fc (P := P_L_law nm) (ok_li (ok_aload_n dL_law_3036 rfl)) (
  ce_fc (P := P_L_law nm) (ok_call (ru_V (ci := 15) (C := RX11) (Tf := TX11) (N := 7) m_X11_lateness (by decide) (by decide) rfl gw_583 gw_580 gw_581 gw_582 gw_1 ⟨rfl, hp_X11_lateness⟩ dL_law_3037) ca_f) (
  ce_fc (P := P_L_law nm) (ok_li (ok_aload_n dL_law_3040 rfl)) (
  ce_fc (P := P_L_law nm) (ok_call (ru_V (ci := 20) (C := RX21) (Tf := TX21) (N := 20) m_X21_lateness (by decide) (by decide) rfl gw_2807 gw_2804 gw_2805 gw_2806 gw_13 ⟨rfl, hp_X21_lateness⟩ dL_law_3041) ca_f) (
  ce_fc (P := P_L_law nm) (ok_li (ok_icmp_eq dL_law_3044 (by decide))) (
  ce_fc (P := P_L_law nm) (ok_li (ok_aload_n dL_law_3049 rfl)) (
  ce_fc (P := P_L_law nm) (ok_li (ok_aload_n dL_law_3050 rfl)) (
  ce_fc (P := P_L_law nm) (ok_li (ok_iload dL_law_3051)) (
  ce_fc (P := P_L_law nm) (ok_li (ok_iconst dL_law_3053)) (
  ce_fc (P := P_L_law nm) (ok_li (ok_iadd dL_law_3054)) (
  ce_fc (P := P_L_law nm) (ok_li (ok_iald dL_law_3055)) (
  ce_fc (P := P_L_law nm) (ok_li (ok_aload_n dL_law_3056 rfl)) (
  ce_fc (P := P_L_law nm) (ok_call (ru_SX m_L_jobAt (by decide) (by decide) gw_1459 gw_1457 gw_1458 gw_0 hp_L_jobAt dL_law_3057) ca_f) (
  ce_fn (P := P_L_law nm)))))))))))))))
noncomputable def tb_L_law_105 : List (Nat × ce_N) := [(3060, ce_li (ce_istore 6 3062 9)),
  (3062, ce_li (ce_aload 2 3063)),
  (3063, ce_li (ce_aload 0 3064)),
  (3064, ce_li (ce_iload 5 3066)),
  (3066, ce_li (ce_push (.inl (.inl (1))) 3067)),
  (3067, ce_li (ce_bin ce_addo 3068)),
  (3068, ce_li (ce_iald 3069 3068)),
  (3069, ce_call 2 2 0 3072 (.inr false) (ce_CV 20 F_X21_jobAt)),
  (3072, ce_li (ce_istore 7 3074 9)),
  (3074, ce_li (ce_aload 2 3075)),
  (3075, ce_call 1 0 0 3078 (.inr false) (ce_CV 20 F_X21_thrown)),
  (3078, ce_li (ce_iload 6 3080)),
  (3080, ce_li (ce_icmp true false false 3085 3083)),
  (3085, ce_li (ce_iload 6 3087))]
theorem tk_L_law_105 {nm : String} : ∀ x ∈ tb_L_law_105, P_L_law nm x.1 x.2 :=
  ce_fc (P := P_L_law nm) (ok_li (ok_istore dL_law_3060)) (
  ce_fc (P := P_L_law nm) (ok_li (ok_aload_n dL_law_3062 rfl)) (
  ce_fc (P := P_L_law nm) (ok_li (ok_aload_n dL_law_3063 rfl)) (
  ce_fc (P := P_L_law nm) (ok_li (ok_iload dL_law_3064)) (
  ce_fc (P := P_L_law nm) (ok_li (ok_iconst dL_law_3066)) (
  ce_fc (P := P_L_law nm) (ok_li (ok_iadd dL_law_3067)) (
  ce_fc (P := P_L_law nm) (ok_li (ok_iald dL_law_3068)) (
  ce_fc (P := P_L_law nm) (ok_call (ru_V (ci := 20) (C := RX21) (Tf := TX21) (N := 20) m_X21_jobAt (by decide) (by decide) rfl gw_2825 gw_2822 gw_2823 gw_2824 gw_13 ⟨rfl, hp_X21_jobAt⟩ dL_law_3069) ca_f) (
  ce_fc (P := P_L_law nm) (ok_li (ok_istore dL_law_3072)) (
  ce_fc (P := P_L_law nm) (ok_li (ok_aload_n dL_law_3074 rfl)) (
  ce_fc (P := P_L_law nm) (ok_call (ru_V (ci := 20) (C := RX21) (Tf := TX21) (N := 20) m_X21_thrown (by decide) (by decide) rfl gw_1586 gw_1583 gw_1584 gw_1585 gw_13 ⟨rfl, hp_X21_thrown⟩ dL_law_3075) ca_f) (
  ce_fc (P := P_L_law nm) (ok_li (ok_iload dL_law_3078)) (
  ce_fc (P := P_L_law nm) (ok_li (ok_icmp_eq dL_law_3080 (by decide))) (
  ce_fc (P := P_L_law nm) (ok_li (ok_iload dL_law_3085)) (
  ce_fn (P := P_L_law nm)))))))))))))))
noncomputable def tb_L_law_106 : List (Nat × ce_N) := [(3087, ce_li (ce_if true false true 3102 3090)),
  (3102, ce_li (ce_goto 3319)),
  (3105, ce_li (ce_aload 1 3106)),
  (3106, ce_call 1 0 0 3109 (.inr false) (ce_CV 15 F_X11_modules)),
  (3109, ce_li (ce_aload 2 3110)),
  (3110, ce_call 1 0 0 3113 (.inr false) (ce_CV 20 F_X21_modules)),
  (3113, ce_li (ce_icmp true false false 3319 3116)),
  (3118, ce_li (ce_aload 1 3119)),
  (3119, ce_li (ce_aload 0 3120)),
  (3120, ce_li (ce_iload 5 3122)),
  (3122, ce_li (ce_push (.inl (.inl (1))) 3123)),
  (3123, ce_li (ce_bin ce_addo 3124)),
  (3124, ce_li (ce_iald 3125 3124)),
  (3125, ce_li (ce_i2c 3126))]
theorem tk_L_law_106 {nm : String} : ∀ x ∈ tb_L_law_106, P_L_law nm x.1 x.2 :=
  ce_fc (P := P_L_law nm) (ok_li (ok_if_ne dL_law_3087 (by decide))) (
  ce_fc (P := P_L_law nm) (ok_li (ok_goto dL_law_3102 (by decide))) (
  ce_fc (P := P_L_law nm) (ok_li (ok_aload_n dL_law_3105 rfl)) (
  ce_fc (P := P_L_law nm) (ok_call (ru_V (ci := 15) (C := RX11) (Tf := TX11) (N := 7) m_X11_modules (by decide) (by decide) rfl gw_621 gw_618 gw_619 gw_620 gw_1 ⟨rfl, hp_X11_modules⟩ dL_law_3106) ca_f) (
  ce_fc (P := P_L_law nm) (ok_li (ok_aload_n dL_law_3109 rfl)) (
  ce_fc (P := P_L_law nm) (ok_call (ru_V (ci := 20) (C := RX21) (Tf := TX21) (N := 20) m_X21_modules (by decide) (by decide) rfl gw_2829 gw_2826 gw_2827 gw_2828 gw_13 ⟨rfl, hp_X21_modules⟩ dL_law_3110) ca_f) (
  ce_fc (P := P_L_law nm) (ok_li (ok_icmp_eq dL_law_3113 (by decide))) (
  ce_fc (P := P_L_law nm) (ok_li (ok_aload_n dL_law_3118 rfl)) (
  ce_fc (P := P_L_law nm) (ok_li (ok_aload_n dL_law_3119 rfl)) (
  ce_fc (P := P_L_law nm) (ok_li (ok_iload dL_law_3120)) (
  ce_fc (P := P_L_law nm) (ok_li (ok_iconst dL_law_3122)) (
  ce_fc (P := P_L_law nm) (ok_li (ok_iadd dL_law_3123)) (
  ce_fc (P := P_L_law nm) (ok_li (ok_iald dL_law_3124)) (
  ce_fc (P := P_L_law nm) (ok_li (ok_i2c dL_law_3125)) (
  ce_fn (P := P_L_law nm)))))))))))))))
noncomputable def tb_L_law_107 : List (Nat × ce_N) := [(3126, ce_li (ce_aload 3 3127)),
  (3127, ce_call 3 1 6 3130 (.inr false) F_L_area),
  (3130, ce_li (ce_istore 6 3132 9)),
  (3132, ce_li (ce_aload 2 3133)),
  (3133, ce_li (ce_aload 0 3134)),
  (3134, ce_li (ce_iload 5 3136)),
  (3136, ce_li (ce_push (.inl (.inl (1))) 3137)),
  (3137, ce_li (ce_bin ce_addo 3138)),
  (3138, ce_li (ce_iald 3139 3138)),
  (3139, ce_li (ce_i2c 3140)),
  (3140, ce_call 2 1 4 3143 (.inr false) (ce_CV 20 F_X21_area)),
  (3143, ce_li (ce_lstore 7 3145 9)),
  (3145, ce_li (ce_aload 2 3146)),
  (3146, ce_call 1 0 0 3149 (.inr false) (ce_CV 20 F_X21_thrown))]
theorem tk_L_law_107 {nm : String} : ∀ x ∈ tb_L_law_107, P_L_law nm x.1 x.2 :=
  ce_fc (P := P_L_law nm) (ok_li (ok_aload_n dL_law_3126 rfl)) (
  ce_fc (P := P_L_law nm) (ok_call (ru_SX m_L_area (by decide) (by decide) gw_1466 gw_1464 gw_1465 gw_0 hp_L_area dL_law_3127) ca_f) (
  ce_fc (P := P_L_law nm) (ok_li (ok_istore dL_law_3130)) (
  ce_fc (P := P_L_law nm) (ok_li (ok_aload_n dL_law_3132 rfl)) (
  ce_fc (P := P_L_law nm) (ok_li (ok_aload_n dL_law_3133 rfl)) (
  ce_fc (P := P_L_law nm) (ok_li (ok_iload dL_law_3134)) (
  ce_fc (P := P_L_law nm) (ok_li (ok_iconst dL_law_3136)) (
  ce_fc (P := P_L_law nm) (ok_li (ok_iadd dL_law_3137)) (
  ce_fc (P := P_L_law nm) (ok_li (ok_iald dL_law_3138)) (
  ce_fc (P := P_L_law nm) (ok_li (ok_i2c dL_law_3139)) (
  ce_fc (P := P_L_law nm) (ok_call (ru_V (ci := 20) (C := RX21) (Tf := TX21) (N := 20) m_X21_area (by decide) (by decide) rfl gw_2833 gw_2830 gw_2831 gw_2832 gw_13 ⟨rfl, hp_X21_area⟩ dL_law_3140) ca_f) (
  ce_fc (P := P_L_law nm) (ok_li (ok_lstore dL_law_3143)) (
  ce_fc (P := P_L_law nm) (ok_li (ok_aload_n dL_law_3145 rfl)) (
  ce_fc (P := P_L_law nm) (ok_call (ru_V (ci := 20) (C := RX21) (Tf := TX21) (N := 20) m_X21_thrown (by decide) (by decide) rfl gw_1586 gw_1583 gw_1584 gw_1585 gw_13 ⟨rfl, hp_X21_thrown⟩ dL_law_3146) ca_f) (
  ce_fn (P := P_L_law nm)))))))))))))))
noncomputable def tb_L_law_108 : List (Nat × ce_N) := [(3149, ce_li (ce_iload 6 3151)),
  (3151, ce_li (ce_icmp true false false 3156 3154)),
  (3156, ce_li (ce_iload 6 3158)),
  (3158, ce_li (ce_if true false true 3172 3161)),
  (3161, ce_li (ce_aload 3 3162)),
  (3162, ce_li (ce_push (.inl (.inl (0))) 3163)),
  (3163, ce_li (ce_lald 3164)),
  (3164, ce_li (ce_lload 7 3166)),
  (3166, ce_li (ce_lcmp 3167)),
  (3167, ce_li (ce_if true false false 3172 3170)),
  (3172, ce_li (ce_goto 3319)),
  (3175, ce_li (ce_aload 1 3176)),
  (3176, ce_li (ce_aload 4 3178)),
  (3178, ce_call 2 1 6 3181 (.inr false) F_L_cutShare)]
theorem tk_L_law_108 {nm : String} : ∀ x ∈ tb_L_law_108, P_L_law nm x.1 x.2 :=
  ce_fc (P := P_L_law nm) (ok_li (ok_iload dL_law_3149)) (
  ce_fc (P := P_L_law nm) (ok_li (ok_icmp_eq dL_law_3151 (by decide))) (
  ce_fc (P := P_L_law nm) (ok_li (ok_iload dL_law_3156)) (
  ce_fc (P := P_L_law nm) (ok_li (ok_if_ne dL_law_3158 (by decide))) (
  ce_fc (P := P_L_law nm) (ok_li (ok_aload_n dL_law_3161 rfl)) (
  ce_fc (P := P_L_law nm) (ok_li (ok_iconst dL_law_3162)) (
  ce_fc (P := P_L_law nm) (ok_li (ok_lald dL_law_3163)) (
  ce_fc (P := P_L_law nm) (ok_li (ok_lload dL_law_3164)) (
  ce_fc (P := P_L_law nm) (ok_li (ok_lcmp dL_law_3166)) (
  ce_fc (P := P_L_law nm) (ok_li (ok_if_eq dL_law_3167 (by decide))) (
  ce_fc (P := P_L_law nm) (ok_li (ok_goto dL_law_3172 (by decide))) (
  ce_fc (P := P_L_law nm) (ok_li (ok_aload_n dL_law_3175 rfl)) (
  ce_fc (P := P_L_law nm) (ok_li (ok_aload dL_law_3176)) (
  ce_fc (P := P_L_law nm) (ok_call (ru_SX m_L_cutShare (by decide) (by decide) gw_1473 gw_1471 gw_1472 gw_0 hp_L_cutShare dL_law_3178) ca_f) (
  ce_fn (P := P_L_law nm)))))))))))))))
noncomputable def tb_L_law_109 : List (Nat × ce_N) := [(3181, ce_li (ce_istore 6 3183 9)),
  (3183, ce_li (ce_aload 2 3184)),
  (3184, ce_call 1 1 4 3187 (.inr false) (ce_CV 20 F_X21_cutShare)),
  (3187, ce_li (ce_fstore 7 3189 9)),
  (3189, ce_li (ce_aload 2 3190)),
  (3190, ce_call 1 0 0 3193 (.inr false) (ce_CV 20 F_X21_thrown)),
  (3193, ce_li (ce_iload 6 3195)),
  (3195, ce_li (ce_icmp true false false 3200 3198)),
  (3200, ce_li (ce_iload 6 3202)),
  (3202, ce_li (ce_if true false true 3238 3205)),
  (3238, ce_li (ce_goto 3319)),
  (3241, ce_li (ce_aload 1 3242)),
  (3242, ce_li (ce_aload 4 3244)),
  (3244, ce_call 2 1 6 3247 (.inr false) F_L_meanWidth)]
theorem tk_L_law_109 {nm : String} : ∀ x ∈ tb_L_law_109, P_L_law nm x.1 x.2 :=
  ce_fc (P := P_L_law nm) (ok_li (ok_istore dL_law_3181)) (
  ce_fc (P := P_L_law nm) (ok_li (ok_aload_n dL_law_3183 rfl)) (
  ce_fc (P := P_L_law nm) (ok_call (ru_V (ci := 20) (C := RX21) (Tf := TX21) (N := 20) m_X21_cutShare (by decide) (by decide) rfl gw_2845 gw_2842 gw_2843 gw_2844 gw_13 ⟨rfl, hp_X21_cutShare⟩ dL_law_3184) ca_f) (
  ce_fc (P := P_L_law nm) (ok_li (ok_fstore dL_law_3187)) (
  ce_fc (P := P_L_law nm) (ok_li (ok_aload_n dL_law_3189 rfl)) (
  ce_fc (P := P_L_law nm) (ok_call (ru_V (ci := 20) (C := RX21) (Tf := TX21) (N := 20) m_X21_thrown (by decide) (by decide) rfl gw_1586 gw_1583 gw_1584 gw_1585 gw_13 ⟨rfl, hp_X21_thrown⟩ dL_law_3190) ca_f) (
  ce_fc (P := P_L_law nm) (ok_li (ok_iload dL_law_3193)) (
  ce_fc (P := P_L_law nm) (ok_li (ok_icmp_eq dL_law_3195 (by decide))) (
  ce_fc (P := P_L_law nm) (ok_li (ok_iload dL_law_3200)) (
  ce_fc (P := P_L_law nm) (ok_li (ok_if_ne dL_law_3202 (by decide))) (
  ce_fc (P := P_L_law nm) (ok_li (ok_goto dL_law_3238 (by decide))) (
  ce_fc (P := P_L_law nm) (ok_li (ok_aload_n dL_law_3241 rfl)) (
  ce_fc (P := P_L_law nm) (ok_li (ok_aload dL_law_3242)) (
  ce_fc (P := P_L_law nm) (ok_call (ru_SX m_L_meanWidth (by decide) (by decide) gw_1480 gw_1478 gw_1479 gw_0 hp_L_meanWidth dL_law_3244) ca_f) (
  ce_fn (P := P_L_law nm)))))))))))))))
noncomputable def tb_L_law_110 : List (Nat × ce_N) := [(3247, ce_li (ce_istore 6 3249 9)),
  (3249, ce_li (ce_aload 2 3250)),
  (3250, ce_call 1 1 4 3253 (.inr false) (ce_CV 20 F_X21_meanWidth)),
  (3253, ce_li (ce_dstore 7 3255 9)),
  (3255, ce_li (ce_aload 2 3256)),
  (3256, ce_call 1 0 0 3259 (.inr false) (ce_CV 20 F_X21_thrown)),
  (3259, ce_li (ce_iload 6 3261)),
  (3261, ce_li (ce_icmp true false false 3266 3264)),
  (3266, ce_li (ce_iload 6 3268)),
  (3268, ce_li (ce_if true false true 3303 3271)),
  (3303, ce_li (ce_goto 3319)),
  (3306, ce_li (ce_aload 1 3307)),
  (3307, ce_call 1 0 0 3310 (.inr false) (ce_CV 15 F_X11_isSound)),
  (3310, ce_li (ce_aload 2 3311))]
theorem tk_L_law_110 {nm : String} : ∀ x ∈ tb_L_law_110, P_L_law nm x.1 x.2 :=
  ce_fc (P := P_L_law nm) (ok_li (ok_istore dL_law_3247)) (
  ce_fc (P := P_L_law nm) (ok_li (ok_aload_n dL_law_3249 rfl)) (
  ce_fc (P := P_L_law nm) (ok_call (ru_V (ci := 20) (C := RX21) (Tf := TX21) (N := 20) m_X21_meanWidth (by decide) (by decide) rfl gw_2849 gw_2846 gw_2847 gw_2848 gw_13 ⟨rfl, hp_X21_meanWidth⟩ dL_law_3250) ca_f) (
  ce_fc (P := P_L_law nm) (ok_li (ok_dstore dL_law_3253)) (
  ce_fc (P := P_L_law nm) (ok_li (ok_aload_n dL_law_3255 rfl)) (
  ce_fc (P := P_L_law nm) (ok_call (ru_V (ci := 20) (C := RX21) (Tf := TX21) (N := 20) m_X21_thrown (by decide) (by decide) rfl gw_1586 gw_1583 gw_1584 gw_1585 gw_13 ⟨rfl, hp_X21_thrown⟩ dL_law_3256) ca_f) (
  ce_fc (P := P_L_law nm) (ok_li (ok_iload dL_law_3259)) (
  ce_fc (P := P_L_law nm) (ok_li (ok_icmp_eq dL_law_3261 (by decide))) (
  ce_fc (P := P_L_law nm) (ok_li (ok_iload dL_law_3266)) (
  ce_fc (P := P_L_law nm) (ok_li (ok_if_ne dL_law_3268 (by decide))) (
  ce_fc (P := P_L_law nm) (ok_li (ok_goto dL_law_3303 (by decide))) (
  ce_fc (P := P_L_law nm) (ok_li (ok_aload_n dL_law_3306 rfl)) (
  ce_fc (P := P_L_law nm) (ok_call (ru_V (ci := 15) (C := RX11) (Tf := TX11) (N := 7) m_X11_isSound (by decide) (by decide) rfl gw_625 gw_622 gw_623 gw_624 gw_1 ⟨rfl, hp_X11_isSound⟩ dL_law_3307) ca_f) (
  ce_fc (P := P_L_law nm) (ok_li (ok_aload_n dL_law_3310 rfl)) (
  ce_fn (P := P_L_law nm)))))))))))))))
noncomputable def tb_L_law_111 : List (Nat × ce_N) := [(3311, ce_call 1 0 0 3314 (.inr false) (ce_CV 20 F_X21_isSound)),
  (3314, ce_li (ce_icmp true false false 3319 3317)),
  (3319, ce_li (ce_iinc 5 (6) 3322 9)),
  (3322, ce_li (ce_goto 28)),
  (3325, ce_li (ce_push (.inl (.inl (1))) 3326)),
  (3326, ce_reti .boolean)]
theorem tk_L_law_111 {nm : String} : ∀ x ∈ tb_L_law_111, P_L_law nm x.1 x.2 :=
  ce_fc (P := P_L_law nm) (ok_call (ru_V (ci := 20) (C := RX21) (Tf := TX21) (N := 20) m_X21_isSound (by decide) (by decide) rfl gw_2853 gw_2850 gw_2851 gw_2852 gw_13 ⟨rfl, hp_X21_isSound⟩ dL_law_3311) ca_f) (
  ce_fc (P := P_L_law nm) (ok_li (ok_icmp_eq dL_law_3314 (by decide))) (
  ce_fc (P := P_L_law nm) (ok_li (ok_iinc dL_law_3319)) (
  ce_fc (P := P_L_law nm) (ok_li (ok_goto dL_law_3322 (by decide))) (
  ce_fc (P := P_L_law nm) (ok_li (ok_iconst dL_law_3325)) (
  ce_fc (P := P_L_law nm) (ok_reti dL_law_3326 rfl) (
  ce_fn (P := P_L_law nm)))))))
noncomputable def ta_L_law : Nat → Option ce_N := (ce_tr 1765 (ce_tr 954 (ce_tr 575 (ce_tr 396 (ce_tr 282 (ce_tr 25 (ce_fd tb_L_law_0) (ce_tr 264 (ce_fd tb_L_law_1) (ce_fd tb_L_law_2))) (ce_tr 331 (ce_tr 301 (ce_fd tb_L_law_3) (ce_fd tb_L_law_4)) (ce_tr 375 (ce_fd tb_L_law_5) (ce_fd tb_L_law_6)))) (ce_tr 480 (ce_tr 439 (ce_fd tb_L_law_7) (ce_tr 461 (ce_fd tb_L_law_8) (ce_fd tb_L_law_9))) (ce_tr 539 (ce_tr 502 (ce_fd tb_L_law_10) (ce_fd tb_L_law_11)) (ce_tr 556 (ce_fd tb_L_law_12) (ce_fd tb_L_law_13))))) (ce_tr 775 (ce_tr 652 (ce_tr 592 (ce_fd tb_L_law_14) (ce_tr 633 (ce_fd tb_L_law_15) (ce_fd tb_L_law_16))) (ce_tr 713 (ce_tr 680 (ce_fd tb_L_law_17) (ce_fd tb_L_law_18)) (ce_tr 743 (ce_fd tb_L_law_19) (ce_fd tb_L_law_20)))) (ce_tr 860 (ce_tr 801 (ce_fd tb_L_law_21) (ce_tr 841 (ce_fd tb_L_law_22) (ce_fd tb_L_law_23))) (ce_tr 918 (ce_tr 886 (ce_fd tb_L_law_24) (ce_fd tb_L_law_25)) (ce_tr 937 (ce_fd tb_L_law_26) (ce_fd tb_L_law_27)))))) (ce_tr 1384 (ce_tr 1155 (ce_tr 1034 (ce_tr 996 (ce_fd tb_L_law_28) (ce_tr 1015 (ce_fd tb_L_law_29) (ce_fd tb_L_law_30))) (ce_tr 1093 (ce_tr 1074 (ce_fd tb_L_law_31) (ce_fd tb_L_law_32)) (ce_tr 1134 (ce_fd tb_L_law_33) (ce_fd tb_L_law_34)))) (ce_tr 1258 (ce_tr 1195 (ce_fd tb_L_law_35) (ce_tr 1219 (ce_fd tb_L_law_36) (ce_fd tb_L_law_37))) (ce_tr 1320 (ce_tr 1300 (ce_fd tb_L_law_38) (ce_fd tb_L_law_39)) (ce_tr 1339 (ce_fd tb_L_law_40) (ce_fd tb_L_law_41))))) (ce_tr 1574 (ce_tr 1468 (ce_tr 1404 (ce_fd tb_L_law_42) (ce_tr 1423 (ce_fd tb_L_law_43) (ce_fd tb_L_law_44))) (ce_tr 1529 (ce_tr 1487 (ce_fd tb_L_law_45) (ce_fd tb_L_law_46)) (ce_tr 1548 (ce_fd tb_L_law_47) (ce_fd tb_L_law_48)))) (ce_tr 1644 (ce_tr 1606 (ce_fd tb_L_law_49) (ce_tr 1625 (ce_fd tb_L_law_50) (ce_fd tb_L_law_51))) (ce_tr 1703 (ce_tr 1684 (ce_fd tb_L_law_52) (ce_fd tb_L_law_53)) (ce_tr 1744 (ce_fd tb_L_law_54) (ce_fd tb_L_law_55))))))) (ce_tr 2517 (ce_tr 2138 (ce_tr 1960 (ce_tr 1866 (ce_tr 1805 (ce_fd tb_L_law_56) (ce_tr 1824 (ce_fd tb_L_law_57) (ce_fd tb_L_law_58))) (ce_tr 1902 (ce_tr 1883 (ce_fd tb_L_law_59) (ce_fd tb_L_law_60)) (ce_tr 1918 (ce_fd tb_L_law_61) (ce_fd tb_L_law_62)))) (ce_tr 2038 (ce_tr 1979 (ce_fd tb_L_law_63) (ce_tr 1998 (ce_fd tb_L_law_64) (ce_fd tb_L_law_65))) (ce_tr 2077 (ce_tr 2059 (ce_fd tb_L_law_66) (ce_fd tb_L_law_67)) (ce_tr 2106 (ce_fd tb_L_law_68) (ce_fd tb_L_law_69))))) (ce_tr 2293 (ce_tr 2191 (ce_tr 2155 (ce_fd tb_L_law_70) (ce_tr 2174 (ce_fd tb_L_law_71) (ce_fd tb_L_law_72))) (ce_tr 2255 (ce_tr 2219 (ce_fd tb_L_law_73) (ce_fd tb_L_law_74)) (ce_tr 2274 (ce_fd tb_L_law_75) (ce_fd tb_L_law_76)))) (ce_tr 2395 (ce_tr 2332 (ce_fd tb_L_law_77) (ce_tr 2360 (ce_fd tb_L_law_78) (ce_fd tb_L_law_79))) (ce_tr 2456 (ce_tr 2437 (ce_fd tb_L_law_80) (ce_fd tb_L_law_81)) (ce_tr 2477 (ce_fd tb_L_law_82) (ce_fd tb_L_law_83)))))) (ce_tr 2880 (ce_tr 2697 (ce_tr 2586 (ce_tr 2545 (ce_fd tb_L_law_84) (ce_tr 2567 (ce_fd tb_L_law_85) (ce_fd tb_L_law_86))) (ce_tr 2636 (ce_tr 2614 (ce_fd tb_L_law_87) (ce_fd tb_L_law_88)) (ce_tr 2664 (ce_fd tb_L_law_89) (ce_fd tb_L_law_90)))) (ce_tr 2777 (ce_tr 2716 (ce_fd tb_L_law_91) (ce_tr 2758 (ce_fd tb_L_law_92) (ce_fd tb_L_law_93))) (ce_tr 2836 (ce_tr 2794 (ce_fd tb_L_law_94) (ce_fd tb_L_law_95)) (ce_tr 2855 (ce_fd tb_L_law_96) (ce_fd tb_L_law_97))))) (ce_tr 3060 (ce_tr 2953 (ce_tr 2913 (ce_fd tb_L_law_98) (ce_tr 2932 (ce_fd tb_L_law_99) (ce_fd tb_L_law_100))) (ce_tr 3003 (ce_tr 2982 (ce_fd tb_L_law_101) (ce_fd tb_L_law_102)) (ce_tr 3033 (ce_fd tb_L_law_103) (ce_fd tb_L_law_104)))) (ce_tr 3149 (ce_tr 3087 (ce_fd tb_L_law_105) (ce_tr 3126 (ce_fd tb_L_law_106) (ce_fd tb_L_law_107))) (ce_tr 3247 (ce_tr 3181 (ce_fd tb_L_law_108) (ce_fd tb_L_law_109)) (ce_tr 3311 (ce_fd tb_L_law_110) (ce_fd tb_L_law_111))))))))
theorem tx_L_law {nm : String} : ∀ pc f, ta_L_law pc = some f → P_L_law nm pc f := (ce_tr_ok (P := P_L_law nm) (ce_tr_ok (P := P_L_law nm) (ce_tr_ok (P := P_L_law nm) (ce_tr_ok (P := P_L_law nm) (ce_tr_ok (P := P_L_law nm) (ce_tr_ok (P := P_L_law nm) (ce_fd_ok (P := P_L_law nm) tk_L_law_0) (ce_tr_ok (P := P_L_law nm) (ce_fd_ok (P := P_L_law nm) tk_L_law_1) (ce_fd_ok (P := P_L_law nm) tk_L_law_2))) (ce_tr_ok (P := P_L_law nm) (ce_tr_ok (P := P_L_law nm) (ce_fd_ok (P := P_L_law nm) tk_L_law_3) (ce_fd_ok (P := P_L_law nm) tk_L_law_4)) (ce_tr_ok (P := P_L_law nm) (ce_fd_ok (P := P_L_law nm) tk_L_law_5) (ce_fd_ok (P := P_L_law nm) tk_L_law_6)))) (ce_tr_ok (P := P_L_law nm) (ce_tr_ok (P := P_L_law nm) (ce_fd_ok (P := P_L_law nm) tk_L_law_7) (ce_tr_ok (P := P_L_law nm) (ce_fd_ok (P := P_L_law nm) tk_L_law_8) (ce_fd_ok (P := P_L_law nm) tk_L_law_9))) (ce_tr_ok (P := P_L_law nm) (ce_tr_ok (P := P_L_law nm) (ce_fd_ok (P := P_L_law nm) tk_L_law_10) (ce_fd_ok (P := P_L_law nm) tk_L_law_11)) (ce_tr_ok (P := P_L_law nm) (ce_fd_ok (P := P_L_law nm) tk_L_law_12) (ce_fd_ok (P := P_L_law nm) tk_L_law_13))))) (ce_tr_ok (P := P_L_law nm) (ce_tr_ok (P := P_L_law nm) (ce_tr_ok (P := P_L_law nm) (ce_fd_ok (P := P_L_law nm) tk_L_law_14) (ce_tr_ok (P := P_L_law nm) (ce_fd_ok (P := P_L_law nm) tk_L_law_15) (ce_fd_ok (P := P_L_law nm) tk_L_law_16))) (ce_tr_ok (P := P_L_law nm) (ce_tr_ok (P := P_L_law nm) (ce_fd_ok (P := P_L_law nm) tk_L_law_17) (ce_fd_ok (P := P_L_law nm) tk_L_law_18)) (ce_tr_ok (P := P_L_law nm) (ce_fd_ok (P := P_L_law nm) tk_L_law_19) (ce_fd_ok (P := P_L_law nm) tk_L_law_20)))) (ce_tr_ok (P := P_L_law nm) (ce_tr_ok (P := P_L_law nm) (ce_fd_ok (P := P_L_law nm) tk_L_law_21) (ce_tr_ok (P := P_L_law nm) (ce_fd_ok (P := P_L_law nm) tk_L_law_22) (ce_fd_ok (P := P_L_law nm) tk_L_law_23))) (ce_tr_ok (P := P_L_law nm) (ce_tr_ok (P := P_L_law nm) (ce_fd_ok (P := P_L_law nm) tk_L_law_24) (ce_fd_ok (P := P_L_law nm) tk_L_law_25)) (ce_tr_ok (P := P_L_law nm) (ce_fd_ok (P := P_L_law nm) tk_L_law_26) (ce_fd_ok (P := P_L_law nm) tk_L_law_27)))))) (ce_tr_ok (P := P_L_law nm) (ce_tr_ok (P := P_L_law nm) (ce_tr_ok (P := P_L_law nm) (ce_tr_ok (P := P_L_law nm) (ce_fd_ok (P := P_L_law nm) tk_L_law_28) (ce_tr_ok (P := P_L_law nm) (ce_fd_ok (P := P_L_law nm) tk_L_law_29) (ce_fd_ok (P := P_L_law nm) tk_L_law_30))) (ce_tr_ok (P := P_L_law nm) (ce_tr_ok (P := P_L_law nm) (ce_fd_ok (P := P_L_law nm) tk_L_law_31) (ce_fd_ok (P := P_L_law nm) tk_L_law_32)) (ce_tr_ok (P := P_L_law nm) (ce_fd_ok (P := P_L_law nm) tk_L_law_33) (ce_fd_ok (P := P_L_law nm) tk_L_law_34)))) (ce_tr_ok (P := P_L_law nm) (ce_tr_ok (P := P_L_law nm) (ce_fd_ok (P := P_L_law nm) tk_L_law_35) (ce_tr_ok (P := P_L_law nm) (ce_fd_ok (P := P_L_law nm) tk_L_law_36) (ce_fd_ok (P := P_L_law nm) tk_L_law_37))) (ce_tr_ok (P := P_L_law nm) (ce_tr_ok (P := P_L_law nm) (ce_fd_ok (P := P_L_law nm) tk_L_law_38) (ce_fd_ok (P := P_L_law nm) tk_L_law_39)) (ce_tr_ok (P := P_L_law nm) (ce_fd_ok (P := P_L_law nm) tk_L_law_40) (ce_fd_ok (P := P_L_law nm) tk_L_law_41))))) (ce_tr_ok (P := P_L_law nm) (ce_tr_ok (P := P_L_law nm) (ce_tr_ok (P := P_L_law nm) (ce_fd_ok (P := P_L_law nm) tk_L_law_42) (ce_tr_ok (P := P_L_law nm) (ce_fd_ok (P := P_L_law nm) tk_L_law_43) (ce_fd_ok (P := P_L_law nm) tk_L_law_44))) (ce_tr_ok (P := P_L_law nm) (ce_tr_ok (P := P_L_law nm) (ce_fd_ok (P := P_L_law nm) tk_L_law_45) (ce_fd_ok (P := P_L_law nm) tk_L_law_46)) (ce_tr_ok (P := P_L_law nm) (ce_fd_ok (P := P_L_law nm) tk_L_law_47) (ce_fd_ok (P := P_L_law nm) tk_L_law_48)))) (ce_tr_ok (P := P_L_law nm) (ce_tr_ok (P := P_L_law nm) (ce_fd_ok (P := P_L_law nm) tk_L_law_49) (ce_tr_ok (P := P_L_law nm) (ce_fd_ok (P := P_L_law nm) tk_L_law_50) (ce_fd_ok (P := P_L_law nm) tk_L_law_51))) (ce_tr_ok (P := P_L_law nm) (ce_tr_ok (P := P_L_law nm) (ce_fd_ok (P := P_L_law nm) tk_L_law_52) (ce_fd_ok (P := P_L_law nm) tk_L_law_53)) (ce_tr_ok (P := P_L_law nm) (ce_fd_ok (P := P_L_law nm) tk_L_law_54) (ce_fd_ok (P := P_L_law nm) tk_L_law_55))))))) (ce_tr_ok (P := P_L_law nm) (ce_tr_ok (P := P_L_law nm) (ce_tr_ok (P := P_L_law nm) (ce_tr_ok (P := P_L_law nm) (ce_tr_ok (P := P_L_law nm) (ce_fd_ok (P := P_L_law nm) tk_L_law_56) (ce_tr_ok (P := P_L_law nm) (ce_fd_ok (P := P_L_law nm) tk_L_law_57) (ce_fd_ok (P := P_L_law nm) tk_L_law_58))) (ce_tr_ok (P := P_L_law nm) (ce_tr_ok (P := P_L_law nm) (ce_fd_ok (P := P_L_law nm) tk_L_law_59) (ce_fd_ok (P := P_L_law nm) tk_L_law_60)) (ce_tr_ok (P := P_L_law nm) (ce_fd_ok (P := P_L_law nm) tk_L_law_61) (ce_fd_ok (P := P_L_law nm) tk_L_law_62)))) (ce_tr_ok (P := P_L_law nm) (ce_tr_ok (P := P_L_law nm) (ce_fd_ok (P := P_L_law nm) tk_L_law_63) (ce_tr_ok (P := P_L_law nm) (ce_fd_ok (P := P_L_law nm) tk_L_law_64) (ce_fd_ok (P := P_L_law nm) tk_L_law_65))) (ce_tr_ok (P := P_L_law nm) (ce_tr_ok (P := P_L_law nm) (ce_fd_ok (P := P_L_law nm) tk_L_law_66) (ce_fd_ok (P := P_L_law nm) tk_L_law_67)) (ce_tr_ok (P := P_L_law nm) (ce_fd_ok (P := P_L_law nm) tk_L_law_68) (ce_fd_ok (P := P_L_law nm) tk_L_law_69))))) (ce_tr_ok (P := P_L_law nm) (ce_tr_ok (P := P_L_law nm) (ce_tr_ok (P := P_L_law nm) (ce_fd_ok (P := P_L_law nm) tk_L_law_70) (ce_tr_ok (P := P_L_law nm) (ce_fd_ok (P := P_L_law nm) tk_L_law_71) (ce_fd_ok (P := P_L_law nm) tk_L_law_72))) (ce_tr_ok (P := P_L_law nm) (ce_tr_ok (P := P_L_law nm) (ce_fd_ok (P := P_L_law nm) tk_L_law_73) (ce_fd_ok (P := P_L_law nm) tk_L_law_74)) (ce_tr_ok (P := P_L_law nm) (ce_fd_ok (P := P_L_law nm) tk_L_law_75) (ce_fd_ok (P := P_L_law nm) tk_L_law_76)))) (ce_tr_ok (P := P_L_law nm) (ce_tr_ok (P := P_L_law nm) (ce_fd_ok (P := P_L_law nm) tk_L_law_77) (ce_tr_ok (P := P_L_law nm) (ce_fd_ok (P := P_L_law nm) tk_L_law_78) (ce_fd_ok (P := P_L_law nm) tk_L_law_79))) (ce_tr_ok (P := P_L_law nm) (ce_tr_ok (P := P_L_law nm) (ce_fd_ok (P := P_L_law nm) tk_L_law_80) (ce_fd_ok (P := P_L_law nm) tk_L_law_81)) (ce_tr_ok (P := P_L_law nm) (ce_fd_ok (P := P_L_law nm) tk_L_law_82) (ce_fd_ok (P := P_L_law nm) tk_L_law_83)))))) (ce_tr_ok (P := P_L_law nm) (ce_tr_ok (P := P_L_law nm) (ce_tr_ok (P := P_L_law nm) (ce_tr_ok (P := P_L_law nm) (ce_fd_ok (P := P_L_law nm) tk_L_law_84) (ce_tr_ok (P := P_L_law nm) (ce_fd_ok (P := P_L_law nm) tk_L_law_85) (ce_fd_ok (P := P_L_law nm) tk_L_law_86))) (ce_tr_ok (P := P_L_law nm) (ce_tr_ok (P := P_L_law nm) (ce_fd_ok (P := P_L_law nm) tk_L_law_87) (ce_fd_ok (P := P_L_law nm) tk_L_law_88)) (ce_tr_ok (P := P_L_law nm) (ce_fd_ok (P := P_L_law nm) tk_L_law_89) (ce_fd_ok (P := P_L_law nm) tk_L_law_90)))) (ce_tr_ok (P := P_L_law nm) (ce_tr_ok (P := P_L_law nm) (ce_fd_ok (P := P_L_law nm) tk_L_law_91) (ce_tr_ok (P := P_L_law nm) (ce_fd_ok (P := P_L_law nm) tk_L_law_92) (ce_fd_ok (P := P_L_law nm) tk_L_law_93))) (ce_tr_ok (P := P_L_law nm) (ce_tr_ok (P := P_L_law nm) (ce_fd_ok (P := P_L_law nm) tk_L_law_94) (ce_fd_ok (P := P_L_law nm) tk_L_law_95)) (ce_tr_ok (P := P_L_law nm) (ce_fd_ok (P := P_L_law nm) tk_L_law_96) (ce_fd_ok (P := P_L_law nm) tk_L_law_97))))) (ce_tr_ok (P := P_L_law nm) (ce_tr_ok (P := P_L_law nm) (ce_tr_ok (P := P_L_law nm) (ce_fd_ok (P := P_L_law nm) tk_L_law_98) (ce_tr_ok (P := P_L_law nm) (ce_fd_ok (P := P_L_law nm) tk_L_law_99) (ce_fd_ok (P := P_L_law nm) tk_L_law_100))) (ce_tr_ok (P := P_L_law nm) (ce_tr_ok (P := P_L_law nm) (ce_fd_ok (P := P_L_law nm) tk_L_law_101) (ce_fd_ok (P := P_L_law nm) tk_L_law_102)) (ce_tr_ok (P := P_L_law nm) (ce_fd_ok (P := P_L_law nm) tk_L_law_103) (ce_fd_ok (P := P_L_law nm) tk_L_law_104)))) (ce_tr_ok (P := P_L_law nm) (ce_tr_ok (P := P_L_law nm) (ce_fd_ok (P := P_L_law nm) tk_L_law_105) (ce_tr_ok (P := P_L_law nm) (ce_fd_ok (P := P_L_law nm) tk_L_law_106) (ce_fd_ok (P := P_L_law nm) tk_L_law_107))) (ce_tr_ok (P := P_L_law nm) (ce_tr_ok (P := P_L_law nm) (ce_fd_ok (P := P_L_law nm) tk_L_law_108) (ce_fd_ok (P := P_L_law nm) tk_L_law_109)) (ce_tr_ok (P := P_L_law nm) (ce_fd_ok (P := P_L_law nm) tk_L_law_110) (ce_fd_ok (P := P_L_law nm) tk_L_law_111))))))))
