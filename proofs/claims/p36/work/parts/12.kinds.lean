/-! the kinds of calls -/
/-- a receiver whose class is known -/
def ce_rc (ci : Nat) (v : ce_SV) (G : ce_G) : Bool := match v with
  | .inr (.inr (.inl (.inl k))) => match ce_obj G k with
    | some x => Nat.beq x.1 ci
    | none => false
  | .inr (.inr (.inl (.inr j))) => Nat.beq ci 0 && (Nat.beq j 2 || Nat.beq j 4)
  | _ => false
theorem ce_rc_ok {z : ce_U} {s : State} {ad : Nat → Nat} {G : ce_G} {H : Heap} {locs : List Loc} (hK : ce_CK z s) (hI : ce_Inv z ad G H) (hv : va_S (ce_A z) s.heap H locs) {ci : Nat} {C : String} {T : u_T} {N : Nat} (hc : ce_cl[ci]? = some (C, T, N)) {v : ce_SV} (h : ce_rc ci v G = true) :
    ∃ b, ce_v z ad v = .ref b ∧ ∃ cell : Cell, H[b]? = some cell ∧ cell.vm.isStatics = false ∧ s.vm.findClass C = some cell.cls := by
  unfold ce_rc at h
  split at h
  · rename_i k
    split at h
    · rename_i x hx
      have hci := Nat.eq_of_beq_eq_true h
      obtain ⟨y1, y2⟩ := x
      dsimp only at hci
      subst hci
      exact ⟨ad k, rfl, va_recv hK.1 hI.1 hc (ce_obj_at (z := z) (ad := ad) hx).2⟩
    · cases h
  · rename_i j
    simp only [Bool.and_eq_true, Bool.or_eq_true] at h
    obtain ⟨h0, h1⟩ := h
    have h0 := Nat.eq_of_beq_eq_true h0
    subst h0
    cases hc
    obtain ⟨aK, aV, e2, e3, e4, e5, hE, -, -⟩ := hK.2.2.2.2.2.2.1
    have hE2 := hE.kept hv.2.1
    rcases h1 with h1 | h1
    · have h1 := Nat.eq_of_beq_eq_true h1
      subst h1
      obtain ⟨cell, c1, c2, c3, -⟩ := (hE2.1 0 (by omega)).1
      exact ⟨aK 0, e2, cell, c1, c2, c3⟩
    · have h1 := Nat.eq_of_beq_eq_true h1
      subst h1
      obtain ⟨cell, c1, c2, c3, -⟩ := (hE2.1 1 (by omega)).1
      exact ⟨aK 1, e4, cell, c1, c2, c3⟩
  · cases h
def ce_CV (ci : Nat) (F : ce_C) : ce_C := fun as G => match as with
  | v :: _ => match ce_rc ci v G with
    | true => F as G
    | false => none
  | [] => none
def ce_isC : ce_SV → Bool
  | .inr (.inr (.inl (.inl _))) => true
  | _ => false
def ce_CI (F : ce_C) : ce_C := fun as G => match as with
  | v :: _ => match ce_isC v with
    | true => F as G
    | false => none
  | [] => none
section Kinds
variable {own nm : String} {cc : ByteArray} {nL : Nat} {ret : Option FieldType} {ht pc : Nat}
abbrev ce_CXl {z : ce_U} {p : Program} {l : Launch} {R : Room} {s : State} {m : MethodId} {args : Array Value} {meth : Method} {c : Code} (hC : ce_CX z p l R s m args meth c own nm cc nL ret ht) : l.stackTraces = false ∧ 8 + ht ≤ R.frames ∧ 100 * (ht + 2) ≤ R.locals := hC.2.2.2.2.2.2.2.2.1
theorem ce_fix {z : ce_U} {p : Program} {l : Launch} {R : Room} {s : State} {m : MethodId} {args : Array Value} {meth : Method} {c : Code} (hC : ce_CX z p l R s m args meth c own nm cc nL ret ht) : CallFix p m c cc nL s args ce_GW own := ⟨hC.1, hC.2.1, hC.2.2.1, hC.2.2.2.1, hC.2.2.2.2.1⟩
theorem ce_PcU {z : ce_U} {s : State} {ad : Nat → Nat} {G : ce_G} {H : Heap} {locs : List Loc} {as : List ce_SV} (hK : ce_CK z s) (hI : ce_Inv z ad G H) (hv : va_S (ce_A z) s.heap H locs) : ∀ U : State, U.heap = H → s.WarmedH U.vm → ce_Pc z ad as G (as.map (ce_v z ad)).toArray U :=
  fun U hU hW => ⟨rfl, ce_next hK hU hW hv, by rw [hU]; exact hI⟩
theorem ru_V {ht2 mc ms n index maxL ci N : Nat} {C : String} {Tf : u_T} {y : MethodName} {bytes : ByteArray} {ret2 : Option FieldType} {F : ce_C} (hM : ∀ l : Launch, l.stackTraces = false → ce_MS l y (.code y bytes maxL ret2) ht2 mc ms F) (hh2 : ht2 + 1 ≤ ht) (hmx : maxL ≤ 81)
    (hc : ce_cl[ci]? = some (C, Tf, N)) (g0 : Cond.code y bytes maxL ret2 ∈ ce_GW) (g1 : Cond.methodLink own index y ∈ ce_GW) (g2 : Cond.instanceMethod y ∈ ce_GW) (g3 : Cond.selects C y y ∈ ce_GW) (g4 : Cond.initialized C ∈ ce_GW)
    (hd : y.cls = C ∧ y.cls ≠ "java/lang/invoke/MethodHandle" ∧ y.cls ≠ "java/lang/invoke/VarHandle" ∧ (parseMethodDescriptor y.desc).map (fun d => d.parameters.length) = some n) (d : decode cc pc = .ok (.invokevirtual index, 3)) : ce_RU own nm cc nL ret ht pc (n + 1) mc ms (pc + 3) (ce_CV ci F) := by
  intro z p l e R s m args below meth c hC ad as rest G S ls H locs kc ks hF hn hls hI hv hw kc1 ks1
  obtain ⟨hl, hfr, hlo⟩ := ce_CXl hC
  match as, hn, hF with
  | v :: as2, hn, hF =>
    simp only [ce_CV] at hF
    split at hF
    · rename_i hrc
      obtain ⟨b, hb, hcell⟩ := ce_rc_ok (ce_CXK hC) hI hv hc hrc
      have hPU := ce_PcU (as := v :: as2) (ce_CXK hC) hI hv
      have hMet := hM l hl z ad (v :: as2) G S hF
      have hGi : GoodIn ce_GW (wsV own index C y (.code y bytes maxL ret2 :: ce_GW)) := ce_gia (fun w hw => by
        simp only [List.mem_cons, List.not_mem_nil, or_false] at hw
        rcases hw with rfl | rfl | rfl | rfl
        · exact g1
        · exact g2
        · exact g3
        · exact g4) (ce_gi2 g0)
      rw [List.map_cons, hb] at hPU
      rw [List.map_cons, hb]
      refine ⟨(Value.ref b :: as2.map (ce_v z ad)).toArray, ?_⟩
      exact vx_runV (As := as2.map (ce_v z ad)) (C := C) (b := b) (ce_fix hC) hMet (cwV n hC.2.2.2.2.1 hGi rfl rfl rfl hd ⟨by show 8 + ht2 + 1 ≤ R.frames; omega, by show 8 + (maxL + 11) + 100 * (ht2 + 2) ≤ R.locals; omega⟩) ⟨ce_Pc_blind, hcell, hPU⟩ rfl (by rw [List.length_map]; exact Nat.succ.inj hn) hls (by simp) (lv_room hw) d ⟨kc1, ks1⟩
    · cases hF
theorem ce_selP {C : String} {y y0 : MethodName} {args : Array Value} {s : State} (hy : y.cls ≠ "java/lang/invoke/MethodHandle" ∧ y.cls ≠ "java/lang/invoke/VarHandle") (h0 : (Cond.selects C y0 y0).before args s = true) (hcls : y0.cls = y.cls) (hpriv : (Cond.privateMethod y).before args s = true) (hinst : (Cond.instanceMethod y).before args s = true) : (Cond.selects C y y).before args s = true := by
  obtain ⟨c2, r2, m2, q1, q2, q3, q4, kP, hkP, hkPi⟩ := Cond.selects_spec h0
  obtain ⟨mk, methM, hnamed, hmethM, -, -⟩ := Cond.instanceMethod_spec hinst
  have hfound : s.methodFound? y.cls y.name y.desc = some mk := State.methodFound?_of_named hnamed hy
  have hsel : selectMethod {} s.vm c2 mk = .method mk := selectMethod_private hmethM (Cond.privateMethod_at hpriv mk methM hnamed hmethM)
  have e1 := findClass_of_methodNamed hnamed
  have e2 := findClass_of_methodNamed q3
  rw [hcls] at e2
  have e3 : mk.cls = m2.cls := Option.some.inj (e1.symm.trans e2)
  simp only [Cond.before, Cond.holds, Cond.value, q1, hfound, hnamed, hsel, e3, hkP]
  simp [hkPi]
/-- a method of a class above, found by the receiver -/
theorem ru_U {ht2 mc ms n index maxL ci N : Nat} {C : String} {Tf : u_T} {y : MethodName} {bytes : ByteArray} {ret2 : Option FieldType} {F : ce_C} (hM : ∀ l : Launch, l.stackTraces = false → ce_MS l y (.code y bytes maxL ret2) ht2 mc ms F) (hh2 : ht2 + 1 ≤ ht) (hmx : maxL ≤ 81)
    (hc : ce_cl[ci]? = some (C, Tf, N)) (g0 : Cond.code y bytes maxL ret2 ∈ ce_GW) (g1 : Cond.methodLink own index y ∈ ce_GW) (g2 : Cond.instanceMethod y ∈ ce_GW) (g3 : Cond.selects C y y ∈ ce_GW) (g4 : Cond.initialized y.cls ∈ ce_GW) (g5 : Cond.sameMethod y.cls y.cls y.name y.desc ∈ ce_GW)
    (hd : y.cls ≠ "java/lang/invoke/MethodHandle" ∧ y.cls ≠ "java/lang/invoke/VarHandle" ∧ (parseMethodDescriptor y.desc).map (fun d => d.parameters.length) = some n) (d : decode cc pc = .ok (.invokevirtual index, 3)) : ce_RU own nm cc nL ret ht pc (n + 1) mc ms (pc + 3) (ce_CV ci F) := by
  intro z p l e R s m args below meth c hC ad as rest G S ls H locs kc ks hF hn hls hI hv hw kc1 ks1
  obtain ⟨hl, hfr, hlo⟩ := ce_CXl hC
  match as, hn, hF with
  | v :: as2, hn, hF =>
    simp only [ce_CV] at hF
    split at hF
    · rename_i hrc
      obtain ⟨b, hb, hcell⟩ := ce_rc_ok (ce_CXK hC) hI hv hc hrc
      have hPU := ce_PcU (as := v :: as2) (ce_CXK hC) hI hv
      have hMet := hM l hl z ad (v :: as2) G S hF
      have hGi : GoodIn ce_GW (va_wsU own index C y.cls y y (.code y bytes maxL ret2 :: ce_GW)) := ce_gia (fun w hw => by
        simp only [List.mem_cons, List.not_mem_nil, or_false] at hw
        rcases hw with rfl | rfl | rfl | rfl | rfl
        all_goals first | exact g1 | exact g2 | exact g3 | exact g4 | exact g5) (ce_gi2 g0)
      rw [List.map_cons, hb] at hPU
      rw [List.map_cons, hb]
      refine ⟨(Value.ref b :: as2.map (ce_v z ad)).toArray, ?_⟩
      exact vx_runU (owner := y.cls) (As := as2.map (ce_v z ad)) (C := C) (b := b) (ce_fix hC) hMet (va_cwU n hC.2.2.2.2.1 hGi rfl rfl rfl rfl hd ⟨by show 8 + ht2 + 1 ≤ R.frames; omega, by show 8 + (maxL + 11) + 100 * (ht2 + 2) ≤ R.locals; omega⟩) ⟨ce_Pc_blind, hcell, hPU⟩ rfl (by rw [List.length_map]; exact Nat.succ.inj hn) hls (by simp) (lv_room hw) d ⟨kc1, ks1⟩
    · cases hF
/-- a private method of a class above, called by a method of that class -/
theorem ru_P {ht2 mc ms n index maxL ci N : Nat} {C : String} {Tf : u_T} {y y0 : MethodName} {bytes : ByteArray} {ret2 : Option FieldType} {F : ce_C} (hM : ∀ l : Launch, l.stackTraces = false → ce_MS l y (.code y bytes maxL ret2) ht2 mc ms F) (hh2 : ht2 + 1 ≤ ht) (hmx : maxL ≤ 81)
    (hc : ce_cl[ci]? = some (C, Tf, N)) (g0 : Cond.code y bytes maxL ret2 ∈ ce_GW) (g1 : Cond.methodLink own index y ∈ ce_GW) (g2 : Cond.instanceMethod y ∈ ce_GW) (g3 : Cond.selects C y0 y0 ∈ ce_GW) (g6 : y0.cls = y.cls) (g7 : Cond.privateMethod y ∈ ce_GW) (g4 : Cond.initialized y.cls ∈ ce_GW) (g5 : Cond.sameMethod y.cls y.cls y.name y.desc ∈ ce_GW)
    (hd : y.cls ≠ "java/lang/invoke/MethodHandle" ∧ y.cls ≠ "java/lang/invoke/VarHandle" ∧ (parseMethodDescriptor y.desc).map (fun d => d.parameters.length) = some n) (d : decode cc pc = .ok (.invokevirtual index, 3)) : ce_RU own nm cc nL ret ht pc (n + 1) mc ms (pc + 3) (ce_CV ci F) := by
  intro z p l e R s m args below meth c hC ad as rest G S ls H locs kc ks hF hn hls hI hv hw kc1 ks1
  obtain ⟨hl, hfr, hlo⟩ := ce_CXl hC
  match as, hn, hF with
  | v :: as2, hn, hF =>
    simp only [ce_CV] at hF
    split at hF
    · rename_i hrc
      obtain ⟨b, hb, hcell⟩ := ce_rc_ok (ce_CXK hC) hI hv hc hrc
      have hPU := ce_PcU (as := v :: as2) (ce_CXK hC) hI hv
      have hMet := hM l hl z ad (v :: as2) G S hF
      have hsel : (Cond.selects C y y).before args s = true := ce_selP ⟨hd.1, hd.2.1⟩ (hC.2.2.2.2.1 _ g3) g6 (hC.2.2.2.2.1 _ g7) (hC.2.2.2.2.1 _ g2)
      have hts : ∀ w ∈ Cond.selects C y y :: ce_GW, w.before args s = true := fun w hw => by
        rcases List.mem_cons.mp hw with e9 | e9
        · rw [e9]; exact hsel
        · exact hC.2.2.2.2.1 w e9
      have hGi : GoodIn (Cond.selects C y y :: ce_GW) (va_wsU own index C y.cls y y (.code y bytes maxL ret2 :: ce_GW)) := fun w hw => by
        rcases List.mem_append.mp hw with hw | hw
        · simp only [List.mem_cons, List.not_mem_nil, or_false] at hw
          rcases hw with rfl | rfl | rfl | rfl | rfl
          · exact ⟨List.mem_cons_of_mem _ g1, good_of_word (ce_good g1)⟩
          · exact ⟨List.mem_cons_of_mem _ g5, good_of_word (ce_good g5)⟩
          · exact ⟨List.mem_cons_self, good_of_word rfl⟩
          · exact ⟨List.mem_cons_of_mem _ g2, good_of_word (ce_good g2)⟩
          · exact ⟨List.mem_cons_of_mem _ g4, good_of_word (ce_good g4)⟩
        · exact ⟨List.mem_cons_of_mem _ (ce_gi2 g0 w hw).1, (ce_gi2 g0 w hw).2⟩
      rw [List.map_cons, hb] at hPU
      rw [List.map_cons, hb]
      refine ⟨(Value.ref b :: as2.map (ce_v z ad)).toArray, ?_⟩
      exact vx_runU (owner := y.cls) (As := as2.map (ce_v z ad)) (C := C) (b := b) (Ts := Cond.selects C y y :: ce_GW) ⟨hC.1, hC.2.1, hC.2.2.1, hC.2.2.2.1, hts⟩ hMet (va_cwU n hts hGi rfl rfl rfl rfl hd ⟨by show 8 + ht2 + 1 ≤ R.frames; omega, by show 8 + (maxL + 11) + 100 * (ht2 + 2) ≤ R.locals; omega⟩) ⟨ce_Pc_blind, hcell, hPU⟩ rfl (by rw [List.length_map]; exact Nat.succ.inj hn) hls (by simp) (lv_room hw) d ⟨kc1, ks1⟩
    · cases hF
theorem ru_S {ht2 mc ms n index maxL : Nat} {y : MethodName} {bytes : ByteArray} {ret2 : Option FieldType} {F : ce_C} (hM : ∀ l : Launch, l.stackTraces = false → ce_MS l y (.code y bytes maxL ret2) ht2 mc ms F) (hh2 : ht2 + 1 ≤ ht) (hmx : maxL ≤ 81)
    (g0 : Cond.code y bytes maxL ret2 ∈ ce_GW) (g1 : Cond.methodLink own index y ∈ ce_GW) (g2 : Cond.static y ∈ ce_GW) (g5 : Cond.initialized y.cls ∈ ce_GW)
    (hd : y.cls ≠ "java/lang/invoke/MethodHandle" ∧ y.cls ≠ "java/lang/invoke/VarHandle" ∧ (parseMethodDescriptor y.desc).map (fun d => d.parameters.length) = some n) (d : decode cc pc = .ok (.invokestatic index, 3)) : ce_RU own nm cc nL ret ht pc n mc ms (pc + 3) F := by
  intro z p l e R s m args below meth c hC ad as rest G S ls H locs kc ks hF hn hls hI hv hw kc1 ks1
  obtain ⟨hl, hfr, hlo⟩ := ce_CXl hC
  have hMet := hM l hl z ad as G S hF
  have hGi : GoodIn ce_GW (va_wsS own index y (.code y bytes maxL ret2 :: ce_GW)) := ce_gia (fun w hw => by
        simp only [List.mem_cons, List.not_mem_nil, or_false] at hw
        rcases hw with rfl | rfl | rfl
        · exact g1
        · exact g2
        · exact g5) (ce_gi2 g0)
  exact ⟨_, vx_runS (As := as.map (ce_v z ad)) (ce_fix hC) hMet (va_cwS n hC.2.2.2.2.1 hGi rfl rfl rfl hd ⟨by show 8 + ht2 + 1 ≤ R.frames; omega, by show 8 + (maxL + 11) + 100 * (ht2 + 2) ≤ R.locals; omega⟩) ⟨ce_Pc_blind, ce_PcU (ce_CXK hC) hI hv⟩ rfl (by rw [List.length_map]; exact hn) hls rfl (lv_room hw) d ⟨kc1, ks1⟩⟩
theorem ru_SX {ht2 mc ms n index maxL : Nat} {y : MethodName} {bytes : ByteArray} {ret2 : Option FieldType} {h9 : List (Nat × Nat × Nat × Nat)} {F : ce_C} (hM : ∀ l : Launch, l.stackTraces = false → ce_MS l y (.codeWith y bytes maxL ret2 h9) ht2 mc ms F) (hh2 : ht2 + 1 ≤ ht) (hmx : maxL ≤ 81)
    (g0 : Cond.codeWith y bytes maxL ret2 h9 ∈ ce_GW) (g1 : Cond.methodLink own index y ∈ ce_GW) (g2 : Cond.static y ∈ ce_GW) (g5 : Cond.initialized y.cls ∈ ce_GW)
    (hd : y.cls ≠ "java/lang/invoke/MethodHandle" ∧ y.cls ≠ "java/lang/invoke/VarHandle" ∧ (parseMethodDescriptor y.desc).map (fun d => d.parameters.length) = some n) (d : decode cc pc = .ok (.invokestatic index, 3)) : ce_RU own nm cc nL ret ht pc n mc ms (pc + 3) F := by
  intro z p l e R s m args below meth c hC ad as rest G S ls H locs kc ks hF hn hls hI hv hw kc1 ks1
  obtain ⟨hl, hfr, hlo⟩ := ce_CXl hC
  have hMet := hM l hl z ad as G S hF
  have hGi : GoodIn ce_GW (va_wsS own index y (.codeWith y bytes maxL ret2 h9 :: ce_GW)) := ce_gia (fun w hw => by
        simp only [List.mem_cons, List.not_mem_nil, or_false] at hw
        rcases hw with rfl | rfl | rfl
        · exact g1
        · exact g2
        · exact g5) (ce_gi2 g0)
  exact ⟨_, vx_runSX (As := as.map (ce_v z ad)) (ce_fix hC) hMet (vx_cwSW n hC.2.2.2.2.1 hGi rfl rfl rfl hd ⟨by show 8 + ht2 + 1 ≤ R.frames; omega, by show 8 + (maxL + 11) + 100 * (ht2 + 2) ≤ R.locals; omega⟩) ⟨ce_Pc_blind, ce_PcU (ce_CXK hC) hI hv⟩ rfl (by rw [List.length_map]; exact hn) hls rfl (lv_room hw) d ⟨kc1, ks1⟩⟩
theorem ru_I {ht2 mc ms n index maxL : Nat} {y : MethodName} {bytes : ByteArray} {F : ce_C} (hM : ∀ l : Launch, l.stackTraces = false → ce_MS l y (.code y bytes maxL none) ht2 mc ms F) (hh2 : ht2 + 1 ≤ ht) (hmx : maxL ≤ 81)
    (g0 : Cond.code y bytes maxL none ∈ ce_GW) (g1 : Cond.methodLink own index y ∈ ce_GW) (g2 : Cond.instanceMethod y ∈ ce_GW) (g5 : Cond.initialized y.cls ∈ ce_GW) (hy1 : y.name = "<init>")
    (hd : y.cls ≠ "java/lang/invoke/MethodHandle" ∧ y.cls ≠ "java/lang/invoke/VarHandle" ∧ (parseMethodDescriptor y.desc).map (fun d => d.parameters.length) = some n) (d : decode cc pc = .ok (.invokespecial index, 3)) : ce_RU own nm cc nL ret ht pc (n + 1) mc ms (pc + 3) (ce_CI F) := by
  intro z p l e R s m args below meth c hC ad as rest G S ls H locs kc ks hF hn hls hI hv hw kc1 ks1
  obtain ⟨hl, hfr, hlo⟩ := ce_CXl hC
  match as, hn, hF with
  | .inr (.inr (.inl (.inl k))) :: as2, hn, hF =>
    have hPU := ce_PcU (as := .inr (.inr (.inl (.inl k))) :: as2) (ce_CXK hC) hI hv
    have hMet := hM l hl z ad (.inr (.inr (.inl (.inl k))) :: as2) G S hF
    refine ⟨(Value.ref (ad k) :: as2.map (ce_v z ad)).toArray, ?_⟩
    exact vx_runI (As := as2.map (ce_v z ad)) (b := ad k) (ce_fix hC) hMet (cwI n hC.2.2.2.2.1 (ce_gi2 g0) rfl rfl rfl (hC.2.2.2.2.1 _ g5) (hC.2.2.2.2.1 _ g1) (hC.2.2.2.2.1 _ g2) hy1 hd ⟨by show 8 + ht2 + 1 ≤ R.frames; omega, by show 8 + (maxL + 11) + 100 * (ht2 + 2) ≤ R.locals; omega⟩) ⟨ce_Pc_blind, hPU⟩ rfl (by rw [List.length_map]; exact Nat.succ.inj hn) hls (by show ((ce_v z ad _ :: as2.map (ce_v z ad)).reverse ++ _) = _; simp [ce_v]) (lv_room hw) d ⟨kc1, ks1⟩
theorem ru_IN {ht2 mc ms n index maxL : Nat} {host : String} {y : MethodName} {bytes : ByteArray} {F : ce_C} (hM : ∀ l : Launch, l.stackTraces = false → ce_MS l y (.code y bytes maxL none) ht2 mc ms F) (hh2 : ht2 + 1 ≤ ht) (hmx : maxL ≤ 81)
    (g0 : Cond.code y bytes maxL none ∈ ce_GW) (g1 : Cond.methodLinkNest own index y host ∈ ce_NG) (g2 : Cond.instanceMethod y ∈ ce_GW) (g5 : Cond.initialized y.cls ∈ ce_GW) (hy1 : y.name = "<init>")
    (hd : y.cls ≠ "java/lang/invoke/MethodHandle" ∧ y.cls ≠ "java/lang/invoke/VarHandle" ∧ (parseMethodDescriptor y.desc).map (fun d => d.parameters.length) = some n) (d : decode cc pc = .ok (.invokespecial index, 3)) : ce_RU own nm cc nL ret ht pc (n + 1) mc ms (pc + 3) (ce_CI F) := by
  intro z p l e R s m args below meth c hC ad as rest G S ls H locs kc ks hF hn hls hI hv hw kc1 ks1
  obtain ⟨hl, hfr, hlo⟩ := ce_CXl hC
  match as, hn, hF with
  | .inr (.inr (.inl (.inl k))) :: as2, hn, hF =>
    have hPU := ce_PcU (as := .inr (.inr (.inl (.inl k))) :: as2) (ce_CXK hC) hI hv
    have hMet := hM l hl z ad (.inr (.inr (.inl (.inl k))) :: as2) G S hF
    refine ⟨(Value.ref (ad k) :: as2.map (ce_v z ad)).toArray, ?_⟩
    exact vx_runIN (As := as2.map (ce_v z ad)) (b := ad k) (ce_fix hC) hMet ⟨va_cnB n hC.2.2.2.2.1 (ce_gi2 g0) rfl rfl rfl ((ce_CXK hC).2.2.2.1.1 _ g1) (hC.2.2.2.2.1 _ g5) hd ⟨by show 8 + ht2 + 1 ≤ R.frames; omega, by show 8 + (maxL + 11) + 100 * (ht2 + 2) ≤ R.locals; omega⟩, hy1, hC.2.2.2.2.1 _ g2⟩ ⟨ce_Pc_blind, hPU⟩ rfl (by rw [List.length_map]; exact Nat.succ.inj hn) hls (by show ((ce_v z ad _ :: as2.map (ce_v z ad)).reverse ++ _) = _; simp [ce_v]) (lv_room hw) d ⟨kc1, ks1⟩
/-- super.m(..) -/
theorem ru_SU {ht2 mc ms n index maxL ci N : Nat} {C : String} {Tf : u_T} {y : MethodName} {bytes : ByteArray} {ret2 : Option FieldType} {F : ce_C} (hM : ∀ l : Launch, l.stackTraces = false → ce_MS l y (.code y bytes maxL ret2) ht2 mc ms F) (hh2 : ht2 + 1 ≤ ht) (hmx : maxL ≤ 81)
    (hc : ce_cl[ci]? = some (C, Tf, N)) (g0 : Cond.code y bytes maxL ret2 ∈ ce_GW) (g1 : Cond.methodLink own index y ∈ ce_GW) (g2 : Cond.sameMethod y.cls y.cls y.name y.desc ∈ ce_GW) (g3 : Cond.superclass own y.cls ∈ ce_GW) (g4 : Cond.instanceMethod y ∈ ce_GW) (g5 : Cond.initialized y.cls ∈ ce_GW)
    (hd : y.name ≠ "<init>" ∧ (parseMethodDescriptor y.desc).map (fun d => d.parameters.length) = some n) (d : decode cc pc = .ok (.invokespecial index, 3)) : ce_RU own nm cc nL ret ht pc (n + 1) mc ms (pc + 3) (ce_CV ci F) := by
  intro z p l e R s m args below meth c hC ad as rest G S ls H locs kc ks hF hn hls hI hv hw kc1 ks1
  obtain ⟨hl, hfr, hlo⟩ := ce_CXl hC
  match as, hn, hF with
  | v :: as2, hn, hF =>
    simp only [ce_CV] at hF
    split at hF
    · rename_i hrc
      obtain ⟨b, hb, hcell⟩ := ce_rc_ok (ce_CXK hC) hI hv hc hrc
      have hPU := ce_PcU (as := v :: as2) (ce_CXK hC) hI hv
      have hMet := hM l hl z ad (v :: as2) G S hF
      have hGi : GoodIn ce_GW (va_wsSU own index y (.code y bytes maxL ret2 :: ce_GW)) := ce_gia (fun w hw => by
        simp only [List.mem_cons, List.not_mem_nil, or_false] at hw
        rcases hw with rfl | rfl | rfl | rfl | rfl
        · exact g1
        · exact g2
        · exact g3
        · exact g4
        · exact g5) (ce_gi2 g0)
      rw [List.map_cons, hb] at hPU
      rw [List.map_cons, hb]
      refine ⟨(Value.ref b :: as2.map (ce_v z ad)).toArray, ?_⟩
      exact vx_runSU (As := as2.map (ce_v z ad)) (C := C) (b := b) ((ce_CXK hC).1.1 ci _ hc).2 (ce_fix hC) hMet (va_cwSU n hC.2.2.2.2.1 hGi rfl rfl rfl hd ⟨by show 8 + ht2 + 1 ≤ R.frames; omega, by show 8 + (maxL + 11) + 100 * (ht2 + 2) ≤ R.locals; omega⟩) ⟨ce_Pc_blind, hcell, hPU⟩ rfl (by rw [List.length_map]; exact Nat.succ.inj hn) hls (by simp) (lv_room hw) d ⟨kc1, ks1⟩
    · cases hF
/-- an overriding method -/
theorem ru_O {ht2 mc ms n index maxL ci N : Nat} {C owner : String} {Tf : u_T} {x y : MethodName} {bytes : ByteArray} {ret2 : Option FieldType} {F : ce_C} (hM : ∀ l : Launch, l.stackTraces = false → ce_MS l y (.code y bytes maxL ret2) ht2 mc ms F) (hh2 : ht2 + 1 ≤ ht) (hmx : maxL ≤ 81)
    (hc : ce_cl[ci]? = some (C, Tf, N)) (g0 : Cond.code y bytes maxL ret2 ∈ ce_GW) (g1 : Cond.methodLink own index x ∈ ce_GW) (g2 : Cond.sameMethod x.cls owner x.name x.desc ∈ ce_GW) (g3 : Cond.instanceMethod ⟨owner, x.name, x.desc⟩ ∈ ce_GW) (g4 : Cond.selects C x y ∈ ce_GW) (g5 : Cond.instanceMethod y ∈ ce_GW) (g6 : Cond.initialized y.cls ∈ ce_GW)
    {b0 : ByteArray} {m0 : Nat} {r0 : Option FieldType} (h0 : Cond.code ⟨owner, x.name, x.desc⟩ b0 m0 r0 ∈ ce_GW) (hd : owner ≠ "java/lang/invoke/MethodHandle" ∧ owner ≠ "java/lang/invoke/VarHandle" ∧ (parseMethodDescriptor x.desc).map (fun d => d.parameters.length) = some n) (d : decode cc pc = .ok (.invokevirtual index, 3)) : ce_RU own nm cc nL ret ht pc (n + 1) mc ms (pc + 3) (ce_CV ci F) := by
  intro z p l e R s m args below meth c hC ad as rest G S ls H locs kc ks hF hn hls hI hv hw kc1 ks1
  obtain ⟨hl, hfr, hlo⟩ := ce_CXl hC
  match as, hn, hF with
  | v :: as2, hn, hF =>
    simp only [ce_CV] at hF
    split at hF
    · rename_i hrc
      obtain ⟨b, hb, hcell⟩ := ce_rc_ok (ce_CXK hC) hI hv hc hrc
      have hPU := ce_PcU (as := v :: as2) (ce_CXK hC) hI hv
      have hMet := hM l hl z ad (v :: as2) G S hF
      have hGi : GoodIn ce_GW (va_wsO own index C owner x y (.code y bytes maxL ret2 :: ce_GW)) := ce_gia (fun w hw => by
        simp only [List.mem_cons, List.not_mem_nil, or_false] at hw
        rcases hw with rfl | rfl | rfl | rfl | rfl | rfl
        · exact g1
        · exact g2
        · exact g3
        · exact g4
        · exact g5
        · exact g6) (ce_gi2 g0)
      rw [List.map_cons, hb] at hPU
      rw [List.map_cons, hb]
      refine ⟨(Value.ref b :: as2.map (ce_v z ad)).toArray, ?_⟩
      exact vx_runU (As := as2.map (ce_v z ad)) (C := C) (b := b) (ce_fix hC) hMet (va_cwO n hC.2.2.2.2.1 hGi rfl rfl rfl h0 hd ⟨by show 8 + ht2 + 1 ≤ R.frames; omega, by show 8 + (maxL + 11) + 100 * (ht2 + 2) ≤ R.locals; omega⟩) ⟨ce_Pc_blind, hcell, hPU⟩ rfl (by rw [List.length_map]; exact Nat.succ.inj hn) hls (by simp) (lv_room hw) d ⟨kc1, ks1⟩
    · cases hF
/-- the iterator's hasNext, by the interface -/
theorem ru_F {ht2 mc ms n index count maxL ci N : Nat} {Tf : u_T} {bytes : ByteArray} {ret2 : Option FieldType} {F : ce_C} (hM : ∀ l : Launch, l.stackTraces = false → ce_MS l ce_yI (.code ce_yI bytes maxL ret2) ht2 mc ms F) (hh2 : ht2 + 1 ≤ ht) (hmx : maxL ≤ 81)
    (hc : ce_cl[ci]? = some ("java/util/ArrayList$Itr", Tf, N)) (g0 : Cond.code ce_yI bytes maxL ret2 ∈ ce_GW) (g1 : Cond.methodLink own index ce_yN ∈ ce_GW) (g2 : Cond.selects "java/util/ArrayList$Itr" ce_yN ce_yI ∈ ce_GW) (g3 : Cond.instanceMethod ce_yI ∈ ce_GW) (g4 : Cond.initialized "java/util/ArrayList$Itr" ∈ ce_GW)
    (hd : (parseMethodDescriptor ce_yN.desc).map (fun d => d.parameters.length) = some n) (d : decode cc pc = .ok (.invokeinterface index count, 5)) : ce_RU own nm cc nL ret ht pc (n + 1) mc ms (pc + 5) (ce_CV ci F) := by
  intro z p l e R s m args below meth c hC ad as rest G S ls H locs kc ks hF hn hls hI hv hw kc1 ks1
  obtain ⟨hl, hfr, hlo⟩ := ce_CXl hC
  match as, hn, hF with
  | v :: as2, hn, hF =>
    simp only [ce_CV] at hF
    split at hF
    · rename_i hrc
      obtain ⟨b, hb, hcell⟩ := ce_rc_ok (ce_CXK hC) hI hv hc hrc
      have hPU := ce_PcU (as := v :: as2) (ce_CXK hC) hI hv
      have hMet := hM l hl z ad (v :: as2) G S hF
      have hGi : GoodIn ce_GW (va_wsF own index "java/util/ArrayList$Itr" ce_yN ce_yI (.code ce_yI bytes maxL ret2 :: ce_GW)) := ce_gia (fun w hw => by
        simp only [List.mem_cons, List.not_mem_nil, or_false] at hw
        rcases hw with rfl | rfl | rfl | rfl
        · exact g1
        · exact g2
        · exact g3
        · exact g4) (ce_gi2 g0)
      rw [List.map_cons, hb] at hPU
      rw [List.map_cons, hb]
      refine ⟨(Value.ref b :: as2.map (ce_v z ad)).toArray, ?_⟩
      exact vx_runF (As := as2.map (ce_v z ad)) (C := "java/util/ArrayList$Itr") (b := b) ((ce_CXK hC).1.1 ci _ hc).2 (ce_fix hC) hMet (va_cwF n hC.2.2.2.2.1 hGi rfl rfl rfl (ce_CXK hC).2.2.2.1.2.1 ⟨by decide +kernel, by decide +kernel, hd⟩ ⟨by show 8 + ht2 + 1 ≤ R.frames; omega, by show 8 + (maxL + 11) + 100 * (ht2 + 2) ≤ R.locals; omega⟩) ⟨ce_Pc_blind, hcell, hPU⟩ rfl (by rw [List.length_map]; exact Nat.succ.inj hn) hls (by simp) (lv_room hw) d ⟨kc1, ks1⟩
    · cases hF
/-- Object's constructor -/
def ce_oi (nx : Nat) : ce_P := fun L G => match L.2 with
  | .inr (.inr (.inl (.inl _))) :: r => match Nat.ble (ce_wt r) 80 with
    | true => some [(nx, (L.1, r), G)]
    | false => none
  | _ => none
theorem ok_oi {i : Nat} (d : decode cc pc = .ok (.invokespecial i, 3)) (g1 : Cond.methodLink own i Lib.objectInit ∈ ce_GW) (g2 : Cond.instanceMethod Lib.objectInit ∈ ce_GW) (g3 : Cond.code Lib.objectInit ⟨#[0xb1]⟩ 1 none ∈ ce_GW) : ce_OK own nm cc nL ret ht pc (ce_oi (pc + 3)) := by
  intro z p l e R s m args below meth c Q ad0 n0 hC L G S h hS ad ls H locs kc ks h1 h2 hl hI hv k1 k2
  obtain ⟨lo, st⟩ := L
  simp only [ce_oi] at h
  split at h
  · rename_i k r
    split at h
    · rename_i hw
      cases h
      obtain ⟨hl9, hfr, hlo⟩ := ce_CXl hC
      have hw2 := Nat.le_trans (ce_wt_ok (ce_CXK hC) (ad := ad) r) (Nat.le_of_ble_eq_true hw)
      refine W.objInit hC.1 hC.2.1 hC.2.2.2.1 (hC.2.2.2.2.1 _ g1) (hC.2.2.2.2.1 _ g2) (hC.2.2.2.2.1 _ g3) rfl (by rw [hC.2.2.1]; exact hl.1) rfl d (by omega) (by show 2 * 0 + _ + 12 ≤ R.locals; omega) ?_
      exact hS _ (List.mem_singleton.mpr rfl) ad ls H locs kc ks h1 h2 hl hI hv k1 k2
    · cases h
  · cases h
/-- 'throw new E()' -/
def ce_thr (k : Nat) : ce_N := fun L G => match Nat.ble (ce_wt L.2) 40 && (Nat.ble 1 G.2.2.1 && Nat.ble 6 G.2.2.2) with
  | true => some ([(.inr k, G)], [])
  | false => none
theorem ok_thr {hh : Option (List (Nat × Nat × Nat × Nat))} {k ik ic : Nat} {names : List String} (d0 : decode cc pc = .ok (.new ik, 3)) (d3 : decode cc (pc + 3) = .ok (.dup, 1)) (d4 : decode cc (pc + 4) = .ok (.invokespecial ic, 3)) (d7 : decode cc (pc + 7) = .ok (.athrow, 1)) (hh0 : hh = some [])
    (hcls : Bundle.fit (ce_ex k) = true) (hnames : ∀ n ∈ names, Bundle.fit n = true) (hlen : names.length ≤ 4) (g1 : Cond.classLink own ik (ce_ex k) ∈ ce_GW) (g2 : Cond.initialized (ce_ex k) ∈ ce_GW) (g3 : ∀ w ∈ vx_at0 own ic (ce_ex k) names, w ∈ ce_GW ∨ w ∈ ce_NG)
    (g4 : ∀ w ∈ Cond.classLink own ik (ce_ex k) :: Cond.initialized (ce_ex k) :: vx_at0 own ic (ce_ex k) names, vx_ot w = true) (g5 : ∀ w ∈ vx_at0 own ic (ce_ex k) names, w ∈ ce_NG → ce_ngk w = true) : ce_OKN own nm cc nL ret ht hh pc (ce_thr k) := by
  intro z p l e R s m args below meth c ad0 n0 hC hT T Q hQ L G X Y hf hX hY ad ls H locs kc ks h1 h2 hl hI hv k1 k2
  obtain ⟨lo, st⟩ := L
  simp only [ce_thr] at hf
  split at hf
  · rename_i hb
    cases hf
    simp only [Bool.and_eq_true] at hb
    have b1 := Nat.le_of_ble_eq_true hb.1
    have b2 := Nat.le_of_ble_eq_true hb.2.1
    have b3 := Nat.le_of_ble_eq_true hb.2.2
    obtain ⟨hl9, hfr, hlo⟩ := ce_CXl hC
    have hw2 := Nat.le_trans (ce_wt_ok (ce_CXK hC) (ad := ad) st) b1
    have hT0 : c.exceptionTable.toList = [] := by rw [hT [] hh0]; rfl
    have hK := ce_CXK hC
    have hw3 : ((List.map (ce_v z ad) (lo, st).snd).map fun v => v.category).sum ≤ 40 := hw2
    refine ce_mono hQ ?_
    refine vx_throw0 (A := ce_A z) hC.1 hC.2.1 hl9 hC.2.2.2.1 hcls hnames (hC.2.2.2.2.1 _ g1) (hC.2.2.2.2.1 _ g2) (fun w hw => ?_) g4 hK.2.2.1.1 hK.2.2.1.2 hv (by rw [hC.2.2.1]; exact hl.1) d0 d3 d4 d7 (by rw [hT0]; exact fun x hx => nomatch hx) (by omega) (by omega) (by omega) (by omega) hC.2.2.2.2.2.2.2.1 (fun t hvm hz hk => ?_) hv.2.2 (by omega) (by omega)
    · rcases g3 w hw with g | g
      · exact hC.2.2.2.2.1 _ g
      · have h9 := hK.2.2.2.1.1 _ g
        have h8 := g5 w hw g
        cases w <;> first | exact va_Nw.use rfl h9 | exact absurd h8 (by simp [ce_ngk])
    · refine ⟨⟨k, G, ad, hX _ (List.mem_singleton.mpr rfl), rfl, h1, h2, ?_⟩, ⟨Nat.le_trans hv.1 hz, fun q hq hnA => (hk q (Nat.lt_of_lt_of_le hq hv.1)).trans (hv.2.1 q hq hnA)⟩⟩
      refine ⟨hI.1.kept (fun k x hx => hk x.1 ((hI.1 k x hx).lt)), hI.2⟩
  · cases hf
end Kinds
