/-! the claim is false: from every start with the refuting script, on any launch of the claim, with room for 620000 cells -/
theorem rf_flags {l : Launch} (h : l.flags = flags0) : l.stackTraces = false := by
  simp only [Launch.stackTraces, h]
  decide
/-- the script: addWall('e', 9999), then 61 times free(0, false) -/
def rf_xs : List Int32 := (List.range 372).map fun j => Int32.ofInt (rf_s j)
theorem rf_xslen : rf_xs.length = 372 := by simp [rf_xs]
theorem rf_xsat (j : Nat) (h : j < 372) : rf_xs.getD j 0 = Int32.ofInt (rf_s j) := by
  simp [rf_xs, List.getD, h]
def rf_P (b : Addr) (args : Array Value) (s : State) : Prop := args = #[.ref b] ∧ s.IntsAt b rf_xs ∧ (Jvm.Cond.and given_1 narrow_1).before args s = true
def rf_Q9 (_ : Array Value) (s : State) (_ : Outcome) (t : State) : Prop := s.heap.size + 609939 ≤ t.heap.size
set_option maxHeartbeats 4000000 in
theorem rf_walk (l : Launch) (hflags : l.flags = flags0) (b : Addr) : MetFree l x (headSpec (Jvm.Cond.code x code maxLocals ret :: tables_1) rf_R) (rf_P b) (fun _ _ _ _ _ => True) rf_Q9 := by
  refine MetFree.of_bodyS (code := code) (maxLocals := maxLocals) (ret := ret) (by decide) ?_ ?_
  · intro args s m h hn
    obtain ⟨meth, c, h1, h2, h3, h4, h5, h6, -, -⟩ := Cond.code_spec hn (atoms_spec (ws := Jvm.Cond.code x code maxLocals ret :: tables_1) h _ List.mem_cons_self)
    exact ⟨meth, c, h1, h2, h3, h4, h5, h6⟩
  · intro p e s m args below meth c s₁ B hml0 hP _
    obtain ⟨rfl, hx, hgv⟩ := hP
    obtain ⟨scr, harrAt, hlist, hof, hsmall⟩ := hx
    obtain ⟨hcb, hkn, -, -⟩ := State.arrayAt?_spec harrAt
    have hown : s.vm.findClass "CarcasswrightLaw" = some m.cls := findClass_of_methodNamed B.named
    have hts0 : ∀ c ∈ (Jvm.Cond.code x code maxLocals ret :: tables_1), c.before #[Value.ref b] s = true := atoms_spec (ws := Jvm.Cond.code x code maxLocals ret :: tables_1) B.pre
    have hts : ∀ w ∈ lw_tbl, w.before #[Value.ref b] s = true := k2_hts_sels lw_privs (fun w hw => hts0 w (List.mem_cons_of_mem _ hw)) lw_privs_ok
    have hml : c.maxLocals = 9 := B.maxLocals_eq (hts0 _ List.mem_cons_self)
    have X₀ : Stand p l e rf_R s m #[Value.ref b] below meth c s₁ [] 0 0 := Stand.of_body B
    have hh0 : s₁.heap = s.heap := by rw [B.state]; rfl
    have hsz : scr.slots.size = rf_xs.length := by rw [← Array.length_toList, hlist, List.length_map]
    have hval : ∀ j : Nat, j < rf_xs.length → scr.slots[j]? = some (.int (rf_xs.getD j 0)) := fun j hj => by
      rw [← Array.getElem?_toList, hlist]
      simp [hj]
    have hbl : b < s.heap.size := (Array.getElem?_eq_some_iff.mp hcb).1
    have hX : va_X b rf_xs.length (fun j => rf_xs.getD j 0) s s.heap := ⟨scr, hcb, hof, hkn, hsz, hval⟩
    obtain ⟨z, hK, -, hz0⟩ := ce_start hts hX hbl rf_xslen rf_xsat hgv
    have K : W p l e rf_R s m #[Value.ref b] below meth c s₁.heap [] 0 0 (rf_Z below s) (entryFrame m ([Value.ref b] : List Value).toArray 9) := by
      rw [hh0]
      exact rf_lawW (rf_flags hflags) B.exec B.bytes B.returns hml hown hts B.notSynchronized hK hz0
    obtain ⟨t, a1, o, b1, b2, b3⟩ := K s₁ rfl X₀
    exact ⟨t, o, a1, b1, b2, b3⟩
/-- a start of the claim with the refuting script, and room for 620000 cells and not the claim's 601024 alone -/
def rf_start (l : Launch) (p : Program) (e : Env) (s : State) (m : MethodId) (args : Array Value) (below : List Frame) : Prop :=
  l.flags = flags0 ∧ Jvm.D.Lists l classFile x code maxLocals ret tables_1 room_1 ∧ l.admits e ∧ FairCas e.choices ∧ FairClock e.choices ∧ s.frames = Frame.invoking m args :: below ∧ Jvm.D.argsFit s.vm m args = true ∧ Jvm.D.heapFits s = true ∧
    (Jvm.D.headSpec (Jvm.Cond.code x code maxLocals ret :: tables_1) rf_R).applies x e.platform s = true ∧ rest_1 p.tables e args s ∧ Pre_1 p.tables e args s ∧ ∃ b : Addr, args = #[Value.ref b] ∧ s.IntsAt b rf_xs
theorem rf_false {l : Launch} {p : Program} {e : Env} {s : State} {m : MethodId} {args : Array Value} {below : List Frame} (h : rf_start l p e s m args below) : ¬ Claimed_1_1 := by
  obtain ⟨hflags, hL, ha, hc, hk, hf, hfit, hheap, happ, hrest, hpre, b, hb, hx⟩ := h
  intro hcl
  have happ1 : (Jvm.D.headSpec (Jvm.Cond.code x code maxLocals ret :: tables_1) room_1).applies x e.platform s = true := by
    obtain ⟨h1, h2, h3, h4, h5, h6, h7, h8⟩ := (Spec.applies_iff hf).mp happ
    refine (Spec.applies_iff hf).mpr ⟨h1, h2, h3, h4, h5, h6, ?_, h8⟩
    exact rf_less (R := rf_R) (a := 601024) (b := 7293034) h7 (Nat.le_of_ble_eq_true rfl) (Nat.le_refl _)
  obtain ⟨n, o, w1, r1, e1, q1⟩ := hcl l hflags hL trivial p e ha hc hk s m args below hf hfit hheap happ1 ⟨trivial, hrest, hpre⟩
  obtain ⟨n2, o2, w2, r2, e2, q2⟩ := rf_walk l hflags b p e ha hc hk s m args below hf ((Spec.applies_iff_loose hf).mp happ).1 ⟨hb, hx, hpre⟩ trivial
  obtain ⟨hn, -⟩ := the_end_unique (f := fun k => stepsAlone p.tables e k s) w1 e1 w2 e2
  subst hn
  have h9 : (stepsAlone p.tables e n s).heap.size ≤ s.heap.size + 601024 := q1.2.1.2.2.2.2.1
  have h8 : s.heap.size + 609939 ≤ (stepsAlone p.tables e n s).heap.size := q2
  omega
