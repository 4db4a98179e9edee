/-! what the start gives of the world: classes, arrays, statics, texts -/
theorem gM_1 : ∀ w ∈ tables_1_1, w ∈ lw_tbl := fun w h => List.mem_append_right _ (List.mem_append_left _ h)
theorem gM_2 : ∀ w ∈ tables_1_2, w ∈ lw_tbl := fun w h => List.mem_append_right _ (List.mem_append_right _ (List.mem_append_left _ h))
theorem gM_3 : ∀ w ∈ tables_1_3, w ∈ lw_tbl := fun w h => List.mem_append_right _ (List.mem_append_right _ (List.mem_append_right _ (List.mem_append_left _ h)))
theorem gM_4 : ∀ w ∈ tables_1_4, w ∈ lw_tbl := fun w h => List.mem_append_right _ (List.mem_append_right _ (List.mem_append_right _ (List.mem_append_right _ (List.mem_append_left _ h))))
theorem gM_5 : ∀ w ∈ tables_1_5, w ∈ lw_tbl := fun w h => List.mem_append_right _ (List.mem_append_right _ (List.mem_append_right _ (List.mem_append_right _ (List.mem_append_right _ (List.mem_append_left _ h)))))
theorem gM_6 : ∀ w ∈ tables_1_6, w ∈ lw_tbl := fun w h => List.mem_append_right _ (List.mem_append_right _ (List.mem_append_right _ (List.mem_append_right _ (List.mem_append_right _ (List.mem_append_right _ (List.mem_append_left _ h))))))
theorem gM_7 : ∀ w ∈ tables_1_7, w ∈ lw_tbl := fun w h => List.mem_append_right _ (List.mem_append_right _ (List.mem_append_right _ (List.mem_append_right _ (List.mem_append_right _ (List.mem_append_right _ (List.mem_append_right _ (List.mem_append_left _ h)))))))
theorem gM_8 : ∀ w ∈ tables_1_8, w ∈ lw_tbl := fun w h => List.mem_append_right _ (List.mem_append_right _ (List.mem_append_right _ (List.mem_append_right _ (List.mem_append_right _ (List.mem_append_right _ (List.mem_append_right _ (List.mem_append_right _ (List.mem_append_left _ h))))))))
theorem gM_9 : ∀ w ∈ tables_1_9, w ∈ lw_tbl := fun w h => List.mem_append_right _ (List.mem_append_right _ (List.mem_append_right _ (List.mem_append_right _ (List.mem_append_right _ (List.mem_append_right _ (List.mem_append_right _ (List.mem_append_right _ (List.mem_append_right _ (List.mem_append_left _ h)))))))))
theorem gM_10 : ∀ w ∈ tables_1_10, w ∈ lw_tbl := fun w h => List.mem_append_right _ (List.mem_append_right _ (List.mem_append_right _ (List.mem_append_right _ (List.mem_append_right _ (List.mem_append_right _ (List.mem_append_right _ (List.mem_append_right _ (List.mem_append_right _ (List.mem_append_right _ (List.mem_append_left _ h))))))))))
theorem gM_11 : ∀ w ∈ tables_1_11, w ∈ lw_tbl := fun w h => List.mem_append_right _ (List.mem_append_right _ (List.mem_append_right _ (List.mem_append_right _ (List.mem_append_right _ (List.mem_append_right _ (List.mem_append_right _ (List.mem_append_right _ (List.mem_append_right _ (List.mem_append_right _ (List.mem_append_right _ (List.mem_append_left _ h)))))))))))
theorem gM_12 : ∀ w ∈ tables_1_12, w ∈ lw_tbl := fun w h => List.mem_append_right _ (List.mem_append_right _ (List.mem_append_right _ (List.mem_append_right _ (List.mem_append_right _ (List.mem_append_right _ (List.mem_append_right _ (List.mem_append_right _ (List.mem_append_right _ (List.mem_append_right _ (List.mem_append_right _ (List.mem_append_right _ (List.mem_append_left _ h))))))))))))
theorem gM_13 : ∀ w ∈ tables_1_13, w ∈ lw_tbl := fun w h => List.mem_append_right _ (List.mem_append_right _ (List.mem_append_right _ (List.mem_append_right _ (List.mem_append_right _ (List.mem_append_right _ (List.mem_append_right _ (List.mem_append_right _ (List.mem_append_right _ (List.mem_append_right _ (List.mem_append_right _ (List.mem_append_right _ (List.mem_append_right _ (h)))))))))))))
theorem ce_ka {args : Array Value} {s : State} {ty : FieldType} (h : (Cond.arrayClass ty).before args s = true) (hty : ty ∈ [FieldType.int, .char, .byte, .boolean, .long, .double]) : ∃ cA, ArrOfT s cA ty ∧ va_RA s cA ty := by
  obtain ⟨cA, k, comp, h1, h2, h3⟩ := Cond.arrayClass_spec h
  refine ⟨cA, fun N z => ⟨(fun k h => by cases h), k, h2, comp, h3⟩, ?_⟩
  simp only [List.mem_cons, List.not_mem_nil, or_false] at hty
  rcases hty with rfl | rfl | rfl | rfl | rfl | rfl <;> exact h1
theorem ce_ko {args : Array Value} {s : State} {n : String} (h : (Cond.arrayOver (.object n)).before args s = true) : ∃ cA, ArrOfT s cA (.object n) ∧ va_RA s cA (.object n) := by
  obtain ⟨comp, cA, k, h1, -, h2, h3, h4⟩ := Cond.arrayOver_spec h
  exact ⟨cA, fun N z => ⟨(fun k h => by cases h), k, h2, comp, h3⟩, k, comp, h2, h3, h1, h4⟩
theorem ce_kc {args : Array Value} {s : State} (hts : ∀ w ∈ lw_tbl, w.before args s = true) : ∀ (k : Nat) (q : vw_C), ce_cl[k]? = some q → ∃ (cC : ClassId) (iS : Nat → Nat), u_Kn s q.1 q.2.1 q.2.2 cC iS
  | 0, _, rfl => u_known hts (fun w h => (List.mem_filter.mp (ce_vJ0 w h)).1) (hts _ (gM_9 _ (List.mem_of_getElem? (i := 137) rfl)))
  | 1, _, rfl => u_known hts (fun w h => (List.mem_filter.mp (ce_vJ4 w h)).1) (hts _ (gM_9 _ (List.mem_of_getElem? (i := 6) rfl)))
  | 2, _, rfl => u_known hts (fun w h => (List.mem_filter.mp (ce_vJx35411 w h)).1) (hts _ (gM_8 _ (List.mem_of_getElem? (i := 122) rfl)))
  | 3, _, rfl => u_known hts (fun w h => (List.mem_filter.mp (ce_vJx4a65c w h)).1) (hts _ (gM_7 _ (List.mem_of_getElem? (i := 52) rfl)))
  | 4, _, rfl => u_known hts (fun w h => (List.mem_filter.mp (ce_vX0 w h)).1) (hts _ (gM_2 _ (List.mem_of_getElem? (i := 52) rfl)))
  | 5, _, rfl => u_known hts (fun w h => (List.mem_filter.mp (ce_vX1 w h)).1) (hts _ (gM_2 _ (List.mem_of_getElem? (i := 180) rfl)))
  | 6, _, rfl => u_known hts (fun w h => (List.mem_filter.mp (ce_vX2 w h)).1) (hts _ (gM_1 _ (List.mem_of_getElem? (i := 67) rfl)))
  | 7, _, rfl => u_known hts (fun w h => (List.mem_filter.mp (ce_vX3 w h)).1) (hts _ (gM_1 _ (List.mem_of_getElem? (i := 194) rfl)))
  | 8, _, rfl => u_known hts (fun w h => (List.mem_filter.mp (ce_vX4 w h)).1) (hts _ (gM_2 _ (List.mem_of_getElem? (i := 160) rfl)))
  | 9, _, rfl => u_known hts (fun w h => (List.mem_filter.mp (ce_vX5 w h)).1) (hts _ (gM_1 _ (List.mem_of_getElem? (i := 215) rfl)))
  | 10, _, rfl => u_known hts (fun w h => (List.mem_filter.mp (ce_vX6 w h)).1) (hts _ (gM_1 _ (List.mem_of_getElem? (i := 150) rfl)))
  | 11, _, rfl => u_known hts (fun w h => (List.mem_filter.mp (ce_vX7 w h)).1) (hts _ (gM_2 _ (List.mem_of_getElem? (i := 111) rfl)))
  | 12, _, rfl => u_known hts (fun w h => (List.mem_filter.mp (ce_vX8 w h)).1) (hts _ (gM_2 _ (List.mem_of_getElem? (i := 45) rfl)))
  | 13, _, rfl => u_known hts (fun w h => (List.mem_filter.mp (ce_vX9 w h)).1) (hts _ (gM_1 _ (List.mem_of_getElem? (i := 60) rfl)))
  | 14, _, rfl => u_known hts (fun w h => (List.mem_filter.mp (ce_vX10 w h)).1) (hts _ (gM_1 _ (List.mem_of_getElem? (i := 165) rfl)))
  | 15, _, rfl => u_known hts (fun w h => (List.mem_filter.mp (ce_vX11 w h)).1) (hts _ (gM_1 _ (List.mem_of_getElem? (i := 52) rfl)))
  | 16, _, rfl => u_known hts (fun w h => (List.mem_filter.mp (ce_vX12 w h)).1) (hts _ (gM_11 _ (List.mem_of_getElem? (i := 154) rfl)))
  | 17, _, rfl => u_known hts (fun w h => (List.mem_filter.mp (ce_vX14 w h)).1) (hts _ (gM_12 _ (List.mem_of_getElem? (i := 142) rfl)))
  | 18, _, rfl => u_known hts (fun w h => (List.mem_filter.mp (ce_vX19 w h)).1) (hts _ (gM_10 _ (List.mem_of_getElem? (i := 5) rfl)))
  | 19, _, rfl => u_known hts (fun w h => (List.mem_filter.mp (ce_vX20 w h)).1) (hts _ (gM_8 _ (List.mem_of_getElem? (i := 6) rfl)))
  | 20, _, rfl => u_known hts (fun w h => (List.mem_filter.mp (ce_vX21 w h)).1) (hts _ (gM_7 _ (List.mem_of_getElem? (i := 46) rfl)))
  | n + 21, _, h => by simp [ce_cl] at h
theorem ce_kt {args : Array Value} {s : State} (hts : ∀ w ∈ lw_tbl, w.before args s = true) : ∀ (k : Nat) (ty : FieldType), ce_at[k]? = some ty → ∃ cA, ArrOfT s cA ty ∧ va_RA s cA ty
  | 0, _, rfl => ce_ka (hts _ (gM_1 _ (List.mem_of_getElem? (i := 193) rfl))) (by simp)
  | 1, _, rfl => ce_ka (hts _ (gM_1 _ (List.mem_of_getElem? (i := 113) rfl))) (by simp)
  | 2, _, rfl => ce_ka (hts _ (gM_7 _ (List.mem_of_getElem? (i := 142) rfl))) (by simp)
  | 3, _, rfl => ce_ka (hts _ (gM_11 _ (List.mem_of_getElem? (i := 141) rfl))) (by simp)
  | 4, _, rfl => ce_ka (hts _ (gM_12 _ (List.mem_of_getElem? (i := 214) rfl))) (by simp)
  | 5, _, rfl => ce_ka (hts _ (gM_12 _ (List.mem_of_getElem? (i := 215) rfl))) (by simp)
  | 6, _, rfl => ce_ko (hts _ (gM_8 _ (List.mem_of_getElem? (i := 97) rfl)))
  | 7, _, rfl => ce_ko (hts _ (gM_1 _ (List.mem_of_getElem? (i := 160) rfl)))
  | 8, _, rfl => ce_ko (hts _ (gM_1 _ (List.mem_of_getElem? (i := 162) rfl)))
  | 9, _, rfl => ce_ko (hts _ (gM_1 _ (List.mem_of_getElem? (i := 164) rfl)))
  | 10, _, rfl => ce_ko (hts _ (gM_1 _ (List.mem_of_getElem? (i := 66) rfl)))
  | 11, _, rfl => ce_ko (hts _ (gM_2 _ (List.mem_of_getElem? (i := 51) rfl)))
  | n + 12, _, h => by simp [ce_at] at h
theorem ce_gwb {args : Array Value} {s : State} (hts : ∀ w ∈ lw_tbl, w.before args s = true) : ∀ w ∈ ce_GW, w.before args s = true := by
  intro w hw
  rcases List.mem_append.mp hw with hw | hw
  · have h0 := (hts _ (gM_9 _ (List.mem_of_getElem? (i := 69) rfl)))
    simp only [ce_XS, List.mem_cons, List.not_mem_nil, or_false] at hw
    rcases hw with rfl | rfl | rfl | rfl | rfl | rfl
    · exact ce_selP ⟨by decide, by decide⟩ h0 rfl (hts _ (gM_9 _ (List.mem_of_getElem? (i := 47) rfl))) (hts _ (gM_9 _ (List.mem_of_getElem? (i := 48) rfl)))
    · exact ce_selP ⟨by decide, by decide⟩ h0 rfl (hts _ (gM_9 _ (List.mem_of_getElem? (i := 79) rfl))) (hts _ (gM_9 _ (List.mem_of_getElem? (i := 80) rfl)))
    · exact ce_selP ⟨by decide, by decide⟩ h0 rfl (hts _ (gM_9 _ (List.mem_of_getElem? (i := 83) rfl))) (hts _ (gM_9 _ (List.mem_of_getElem? (i := 84) rfl)))
    · exact ce_selP ⟨by decide, by decide⟩ h0 rfl (hts _ (gM_9 _ (List.mem_of_getElem? (i := 88) rfl))) (hts _ (gM_9 _ (List.mem_of_getElem? (i := 89) rfl)))
    · exact ce_selP ⟨by decide, by decide⟩ h0 rfl (hts _ (gM_9 _ (List.mem_of_getElem? (i := 51) rfl))) (hts _ (gM_9 _ (List.mem_of_getElem? (i := 52) rfl)))
    · exact ce_selP ⟨by decide, by decide⟩ h0 rfl (hts _ (gM_9 _ (List.mem_of_getElem? (i := 43) rfl))) (hts _ (gM_9 _ (List.mem_of_getElem? (i := 44) rfl)))
  · exact hts w (List.mem_filter.mp hw).1
theorem ce_ngT : ∀ w ∈ ce_NG, w ∈ lw_tbl :=
  List.forall_mem_cons.mpr ⟨gM_4 _ (List.mem_of_getElem? (i := 7) rfl),
  List.forall_mem_cons.mpr ⟨gM_3 _ (List.mem_of_getElem? (i := 10) rfl),
  List.forall_mem_cons.mpr ⟨gM_4 _ (List.mem_of_getElem? (i := 194) rfl),
  List.forall_mem_cons.mpr ⟨gM_4 _ (List.mem_of_getElem? (i := 57) rfl),
  List.forall_mem_cons.mpr ⟨gM_13 _ (List.mem_of_getElem? (i := 4) rfl),
  List.forall_mem_cons.mpr ⟨gM_13 _ (List.mem_of_getElem? (i := 17) rfl),
  List.forall_mem_cons.mpr ⟨gM_13 _ (List.mem_of_getElem? (i := 15) rfl),
  List.forall_mem_cons.mpr ⟨gM_12 _ (List.mem_of_getElem? (i := 180) rfl),
  List.forall_mem_cons.mpr ⟨gM_1 _ (List.mem_of_getElem? (i := 68) rfl),
  List.forall_mem_cons.mpr ⟨gM_1 _ (List.mem_of_getElem? (i := 166) rfl),
  List.forall_mem_cons.mpr ⟨gM_1 _ (List.mem_of_getElem? (i := 195) rfl),
  List.forall_mem_cons.mpr ⟨gM_2 _ (List.mem_of_getElem? (i := 53) rfl),
  List.forall_mem_cons.mpr ⟨gM_2 _ (List.mem_of_getElem? (i := 117) rfl),
  List.forall_mem_cons.mpr ⟨gM_2 _ (List.mem_of_getElem? (i := 161) rfl),
  List.forall_mem_cons.mpr ⟨gM_2 _ (List.mem_of_getElem? (i := 181) rfl),
  List.forall_mem_cons.mpr ⟨gM_3 _ (List.mem_of_getElem? (i := 11) rfl),
  List.forall_mem_cons.mpr ⟨gM_3 _ (List.mem_of_getElem? (i := 12) rfl),
  List.forall_mem_cons.mpr ⟨gM_3 _ (List.mem_of_getElem? (i := 13) rfl),
  List.forall_mem_cons.mpr ⟨gM_3 _ (List.mem_of_getElem? (i := 14) rfl),
  List.forall_mem_cons.mpr ⟨gM_3 _ (List.mem_of_getElem? (i := 15) rfl),
  List.forall_mem_cons.mpr ⟨gM_3 _ (List.mem_of_getElem? (i := 16) rfl),
  List.forall_mem_cons.mpr ⟨gM_7 _ (List.mem_of_getElem? (i := 67) rfl),
  List.forall_mem_cons.mpr ⟨gM_8 _ (List.mem_of_getElem? (i := 143) rfl),
  List.forall_mem_cons.mpr ⟨gM_8 _ (List.mem_of_getElem? (i := 153) rfl),
  List.forall_mem_cons.mpr ⟨gM_10 _ (List.mem_of_getElem? (i := 6) rfl),
  List.forall_mem_cons.mpr ⟨gM_10 _ (List.mem_of_getElem? (i := 188) rfl),
  List.forall_mem_cons.mpr ⟨gM_10 _ (List.mem_of_getElem? (i := 198) rfl),
  List.forall_mem_cons.mpr ⟨gM_8 _ (List.mem_of_getElem? (i := 16) rfl),
  fun _ h => nomatch h⟩⟩⟩⟩⟩⟩⟩⟩⟩⟩⟩⟩⟩⟩⟩⟩⟩⟩⟩⟩⟩⟩⟩⟩⟩⟩⟩⟩
theorem ce_ngO : ∀ w ∈ ce_NG, w.onTables = true := by decide +kernel
theorem ce_start {s : State} {b L : Nat} {xs : Nat → Int32} (hts : ∀ w ∈ lw_tbl, w.before #[Value.ref b] s = true) (hX : va_X b L xs s s.heap) (hbl : b < s.heap.size) (hL : L = 372) (hxs : ∀ j, j < 372 → xs j = Int32.ofInt (rf_s j)) (hgv : (Jvm.Cond.and given_1 narrow_1).before #[Value.ref b] s = true) :
    ∃ z : ce_U, ce_CK z s ∧ ce_b z = s.heap.size ∧ ce_ev z 0 = .ref b := by
  have hs := flat_of_before _ hgv
  have hA : ∀ a : Nat, a < s.heap.size → ¬ (fun q : Nat => s.heap.size ≤ q) a := fun a h => Nat.not_le.mpr h
  obtain ⟨dC, hdC⟩ : ∃ d : Nat → ClassId × (Nat → Nat), ∀ (k : Nat) (q : vw_C), ce_cl[k]? = some q → u_Kn s q.1 q.2.1 q.2.2 (d k).1 (d k).2 := by
    have : ∀ k : Nat, ∃ d : ClassId × (Nat → Nat), ∀ q : vw_C, ce_cl[k]? = some q → u_Kn s q.1 q.2.1 q.2.2 d.1 d.2 := fun k => by
      cases hk : ce_cl[k]? with
      | none => 
        obtain ⟨c0, i0, -⟩ := ce_kc hts 0 _ rfl
        exact ⟨(c0, i0), fun q h => by cases h⟩
      | some q =>
        obtain ⟨c0, i0, h0⟩ := ce_kc hts k q hk
        exact ⟨(c0, i0), fun q2 h => by cases h; exact h0⟩
    exact Classical.axiomOfChoice this
  obtain ⟨cA, hcA⟩ : ∃ d : Nat → ClassId, ∀ (k : Nat) (ty : FieldType), ce_at[k]? = some ty → ArrOfT s (d k) ty ∧ va_RA s (d k) ty := by
    have : ∀ k : Nat, ∃ d : ClassId, ∀ ty : FieldType, ce_at[k]? = some ty → ArrOfT s d ty ∧ va_RA s d ty := fun k => by
      cases hk : ce_at[k]? with
      | none =>
        obtain ⟨c0, -⟩ := ce_kt hts 0 _ rfl
        exact ⟨c0, fun q h => by cases h⟩
      | some q =>
        obtain ⟨c0, h0⟩ := ce_kt hts k q hk
        exact ⟨c0, fun q2 h => by cases h; exact h0⟩
    exact Classical.axiomOfChoice this
  obtain ⟨t, ht, hT⟩ := va_Tof (tm := (.static "java/util/ArrayList" "DEFAULTCAPACITY_EMPTY_ELEMENTDATA" "[Ljava/lang/Object;")) (ty := .object "java/lang/Object") (N := 0) (f := fun _ => .null) (by decide) (hs (.arrayOf (.static "java/util/ArrayList" "DEFAULTCAPACITY_EMPTY_ELEMENTDATA" "[Ljava/lang/Object;") (.object "java/lang/Object")) (by decide +kernel)) (va_eqt (hs (.eq (.length (.static "java/util/ArrayList" "DEFAULTCAPACITY_EMPTY_ELEMENTDATA" "[Ljava/lang/Object;")) (.int 0)) (by decide +kernel))) (fun j hj => absurd hj (Nat.not_lt_zero j)) hA
  have hTZ := va_Zof (hts _ (gM_7 _ (List.mem_of_getElem? (i := 64) rfl))) (hts _ (gM_1 _ (List.mem_of_getElem? (i := 16) rfl))) ht hA
  obtain ⟨aK, aV, hE, hEe⟩ := vk_Sof (N := 2) (tm := (fun i => match i with | 0 => .string "CarcasswrightModel" 19 | _ => .string "CarcasswrightModel" 57)) (len := [0, 4]) (byt := [[], [101, 119, 110, 115]]) (fun i hi => by
      rcases (by omega : i = 0 ∨ i = 1) with rfl | rfl
      · exact (by decide : (0 : Nat) < 2 ^ 31)
      · exact (by decide : (4 : Nat) < 2 ^ 31)) (fun i hi => by
      rcases (by omega : i = 0 ∨ i = 1) with rfl | rfl
      · exact hs (.exactly (.string "CarcasswrightModel" 19) "java/lang/String") (by decide +kernel)
      · exact hs (.exactly (.string "CarcasswrightModel" 57) "java/lang/String") (by decide +kernel)) (fun i hi => by
      rcases (by omega : i = 0 ∨ i = 1) with rfl | rfl
      · exact hs (.eq (.field (.string "CarcasswrightModel" 19) "java/lang/String" "coder" "B") (.int 0)) (by decide +kernel)
      · exact hs (.eq (.field (.string "CarcasswrightModel" 57) "java/lang/String" "coder" "B") (.int 0)) (by decide +kernel)) (fun i hi => by
      rcases (by omega : i = 0 ∨ i = 1) with rfl | rfl
      · exact hs (.arrayOf (.field (.string "CarcasswrightModel" 19) "java/lang/String" "value" "[B") .byte) (by decide +kernel)
      · exact hs (.arrayOf (.field (.string "CarcasswrightModel" 57) "java/lang/String" "value" "[B") .byte) (by decide +kernel)) (fun i hi => by
      rcases (by omega : i = 0 ∨ i = 1) with rfl | rfl
      · exact hs (.eq (.length (.field (.string "CarcasswrightModel" 19) "java/lang/String" "value" "[B")) (.int 0)) (by decide +kernel)
      · exact hs (.eq (.length (.field (.string "CarcasswrightModel" 57) "java/lang/String" "value" "[B")) (.int 4)) (by decide +kernel)) (fun i hi j hj => by
      rcases (by omega : i = 0 ∨ i = 1) with rfl | rfl
      · exact absurd hj (Nat.not_lt_zero j)
      · have hj : j < 4 := hj
        rcases (by omega : j = 0 ∨ j = 1 ∨ j = 2 ∨ j = 3) with rfl | rfl | rfl | rfl
        · exact hs (.eq (.elem (.field (.string "CarcasswrightModel" 57) "java/lang/String" "value" "[B") (.int 0)) (.int 101)) (by decide +kernel)
        · exact hs (.eq (.elem (.field (.string "CarcasswrightModel" 57) "java/lang/String" "value" "[B") (.int 1)) (.int 119)) (by decide +kernel)
        · exact hs (.eq (.elem (.field (.string "CarcasswrightModel" 57) "java/lang/String" "value" "[B") (.int 2)) (.int 110)) (by decide +kernel)
        · exact hs (.eq (.elem (.field (.string "CarcasswrightModel" 57) "java/lang/String" "value" "[B") (.int 3)) (.int 115)) (by decide +kernel)
      ) (fun i j hi hj hij => by
      rcases (by omega : i = 0 ∧ j = 1 ∨ i = 1 ∧ j = 0) with ⟨rfl, rfl⟩ | ⟨rfl, rfl⟩
      · exact Or.inl (hs (.not (.eq (.string "CarcasswrightModel" 19) (.string "CarcasswrightModel" 57))) (by decide +kernel))
      · exact Or.inr (hs (.not (.eq (.string "CarcasswrightModel" 19) (.string "CarcasswrightModel" 57))) (by decide +kernel))) hA
  obtain ⟨mi, hmi⟩ := va_Mi.of (hs (.isRef (.mirror "[Ljava/lang/Object;")) (by decide +kernel))
  obtain ⟨v7, hv7, hz7⟩ : ∃ v : Value, v.category = 1 ∧ va_Z "jdk/internal/util/Preconditions" "SIOOBE_FORMATTER" "Ljava/util/function/BiFunction;" v (fun q : Nat => s.heap.size ≤ q) s s.heap := by
    rcases va_Zqof (hts _ (gM_7 _ (List.mem_of_getElem? (i := 204) rfl))) (hts _ (gM_1 _ (List.mem_of_getElem? (i := 27) rfl))) (hs (.isRef (.static "jdk/internal/util/Preconditions" "SIOOBE_FORMATTER" "Ljava/util/function/BiFunction;")) (by decide +kernel)) hA with h | ⟨t7, h⟩
    · exact ⟨_, rfl, h⟩
    · exact ⟨_, rfl, h⟩
  refine ⟨(xs, fun j => match j with | 0 => .ref b | 1 => .ref t | 2 => .ref (aK 0) | 3 => .ref (aV 0) | 4 => .ref (aK 1) | 5 => .ref (aV 1) | 6 => .ref mi | _ => v7, cA, (fun k => (dC k).1, fun k => (dC k).2), s.heap.size, L), ⟨⟨hdC, ?_⟩, Nat.le_refl _, ⟨?_, ?_⟩, ⟨?_, ?_, ?_, ?_⟩, ⟨b, rfl, Nat.lt_of_lt_of_le hbl (Nat.le_refl _), hbl, hX, hL, hxs⟩, ⟨t, rfl, hT, hTZ⟩, ⟨aK, aV, rfl, rfl, rfl, rfl, hE, ?_, ?_⟩, ⟨mi, rfl, hmi⟩, ⟨hv7, hz7⟩, ⟨?_, ?_, ?_, ?_⟩⟩, rfl, rfl⟩
  · intro k q hq
    match k, hq with
    | 0, hq => cases hq; exact hcA 0 _ rfl
    | 1, hq => cases hq; exact hcA 1 _ rfl
    | 2, hq => cases hq; exact hcA 2 _ rfl
    | 3, hq => cases hq; exact hcA 3 _ rfl
    | 4, hq => cases hq; exact hcA 4 _ rfl
    | 5, hq => cases hq; exact hcA 5 _ rfl
    | 6, hq => cases hq; exact hcA 6 _ rfl
    | 7, hq => cases hq; exact hcA 7 _ rfl
    | 8, hq => cases hq; exact hcA 8 _ rfl
    | 9, hq => cases hq; exact hcA 9 _ rfl
    | 10, hq => cases hq; exact hcA 10 _ rfl
    | 11, hq => cases hq; exact hcA 11 _ rfl
    | n + 12, hq => simp [ce_ty] at hq
  · exact vx_Zqof (hts _ (gM_3 _ (List.mem_of_getElem? (i := 35) rfl))) (hts _ (gM_1 _ (List.mem_of_getElem? (i := 17) rfl))) (hs (.isRef (.static "java/lang/Throwable" "UNASSIGNED_STACK" "[Ljava/lang/StackTraceElement;")) (by decide +kernel)) hA
  · exact vx_Zqof (hts _ (gM_3 _ (List.mem_of_getElem? (i := 37) rfl))) (hts _ (gM_1 _ (List.mem_of_getElem? (i := 17) rfl))) (hs (.isRef (.static "java/lang/Throwable" "SUPPRESSED_SENTINEL" "Ljava/util/List;")) (by decide +kernel)) hA
  · exact fun w hw => va_any (ce_ngO w hw) (hts w (ce_ngT w hw))
  · exact va_Fw.of (hts _ (gM_8 _ (List.mem_of_getElem? (i := 143) rfl))) (hts _ (gM_8 _ (List.mem_of_getElem? (i := 142) rfl))) (hts _ (gM_8 _ (List.mem_of_getElem? (i := 148) rfl))) (hts _ (gM_8 _ (List.mem_of_getElem? (i := 146) rfl))) (hts _ (gM_8 _ (List.mem_of_getElem? (i := 144) rfl)))
  · intro C hC
    simp only [List.mem_cons, List.not_mem_nil, or_false] at hC
    rcases hC with rfl | rfl | rfl | rfl | rfl | rfl
    · exact va_AO.of (A := #[Value.ref b]) (hts _ (gM_8 _ (List.mem_of_getElem? (i := 97) rfl)))
    · exact va_AO.of (A := #[Value.ref b]) (hts _ (gM_1 _ (List.mem_of_getElem? (i := 160) rfl)))
    · exact va_AO.of (A := #[Value.ref b]) (hts _ (gM_1 _ (List.mem_of_getElem? (i := 162) rfl)))
    · exact va_AO.of (A := #[Value.ref b]) (hts _ (gM_1 _ (List.mem_of_getElem? (i := 164) rfl)))
    · exact va_AO.of (A := #[Value.ref b]) (hts _ (gM_1 _ (List.mem_of_getElem? (i := 66) rfl)))
    · exact va_AO.of (A := #[Value.ref b]) (hts _ (gM_2 _ (List.mem_of_getElem? (i := 51) rfl)))
  · exact va_Dc.of (hts _ (gM_10 _ (List.mem_of_getElem? (i := 198) rfl)))
  · exact vk_R.of (A := #[Value.ref b]) (hts _ (gM_7 _ (List.mem_of_getElem? (i := 80) rfl))) (hEe 0 (by omega))
  · exact vk_R.of (A := #[Value.ref b]) (hts _ (gM_7 _ (List.mem_of_getElem? (i := 151) rfl))) (hEe 1 (by omega))
  · exact va_Zof (hts _ (gM_7 _ (List.mem_of_getElem? (i := 165) rfl))) (hts _ (gM_1 _ (List.mem_of_getElem? (i := 23) rfl))) (va_eqt (hs (.eq (.static "java/lang/String" "COMPACT_STRINGS" "Z") (.int 1)) (by decide +kernel))) hA
  · exact va_Zof (hts _ (gM_7 _ (List.mem_of_getElem? (i := 215) rfl))) (hts _ (gM_1 _ (List.mem_of_getElem? (i := 26) rfl))) (va_eqt (hs (.eq (.static "java/lang/StringUTF16" "$assertionsDisabled" "Z") (.int 1)) (by decide +kernel))) hA
  · exact va_Zof (hts _ (gM_7 _ (List.mem_of_getElem? (i := 217) rfl))) (hts _ (gM_1 _ (List.mem_of_getElem? (i := 26) rfl))) (va_eqt (hs (.eq (.static "java/lang/StringUTF16" "HI_BYTE_SHIFT" "I") (.int 0)) (by decide +kernel))) hA
  · exact va_Zof (hts _ (gM_7 _ (List.mem_of_getElem? (i := 219) rfl))) (hts _ (gM_1 _ (List.mem_of_getElem? (i := 26) rfl))) (va_eqt (hs (.eq (.static "java/lang/StringUTF16" "LO_BYTE_SHIFT" "I") (.int 8)) (by decide +kernel))) hA
