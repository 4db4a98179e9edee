/-! the runner: a method's run over its table of steps, and its contract -/
def ce_app (a : ce_R) (b : Option ce_R) : Option ce_R := match a with
  | [] => b
  | x :: t => match b with
    | some r => some ((x :: t) ++ r)
    | none => none
theorem ce_app_ok {a S : ce_R} {b : Option ce_R} (h : ce_app a b = some S) : ∃ r, b = some r ∧ (∀ x ∈ a, x ∈ S) ∧ ∀ x ∈ r, x ∈ S := by
  unfold ce_app at h
  split at h
  · exact ⟨S, h, fun _ h => (nomatch h), fun _ h => h⟩
  · split at h
    · rename_i r
      cases h
      exact ⟨r, rfl, fun x hx => List.mem_append_left _ hx, fun x hx => List.mem_append_right _ hx⟩
    · cases h
def ce_col (g : Nat → ce_L → ce_G → Option ce_R) : ce_Y → Option ce_R
  | [] => some []
  | y :: t => match t with
    | [] => g y.1 y.2.1 y.2.2
    | _ :: _ => match g y.1 y.2.1 y.2.2 with
      | none => none
      | some a => match ce_col g t with
        | none => none
        | some b => some (a ++ b)
theorem ce_col_ok {g : Nat → ce_L → ce_G → Option ce_R} : ∀ (Y : ce_Y) (S : ce_R), ce_col g Y = some S → ∀ y ∈ Y, ∃ Sy, g y.1 y.2.1 y.2.2 = some Sy ∧ ∀ x ∈ Sy, x ∈ S
  | [], S, h, y, hy => nomatch hy
  | y0 :: t, S, h, y, hy => by
    unfold ce_col at h
    split at h
    · have e : y = y0 := List.mem_singleton.mp hy
      rw [e]
      exact ⟨S, h, fun _ h => h⟩
    · split at h
      · cases h
      · rename_i a ha
        split at h
        · cases h
        · rename_i b hb
          cases h
          rcases List.mem_cons.mp hy with e | e
          · rw [e]
            exact ⟨a, ha, fun x hx => List.mem_append_left _ hx⟩
          · obtain ⟨Sy, i1, i2⟩ := ce_col_ok _ b hb y e
            exact ⟨Sy, i1, fun x hx => List.mem_append_right _ (i2 x hx)⟩
/-- a list's first cell is reckoned before it is handed on -/
def ce_fl {α β : Type} (l : List α) (k : List α → β) : β := match l with
  | [] => k []
  | x :: r => k (x :: r)
theorem ce_fl_eq {α β : Type} (l : List α) (k : List α → β) : ce_fl l k = k l := by cases l <;> rfl
def ce_nf {β : Type} (L : ce_L) (G : ce_G) (k : ce_L → ce_G → β) : β := match L, G with
  | (a, b), (x, c, r, q) => ce_fl a fun a => ce_fl b fun b => ce_fl x fun x => ce_fl c fun c => k (a, b) (x, c, r, q)
theorem ce_nf_eq {β : Type} (L : ce_L) (G : ce_G) (k : ce_L → ce_G → β) : ce_nf L G k = k L G := by
  obtain ⟨a, b⟩ := L
  obtain ⟨x, c, r, q⟩ := G
  simp only [ce_nf, ce_fl_eq]
noncomputable def ce_go (tab : Nat → Option ce_N) (n : Nat) : Nat → ce_L → ce_G → Option ce_R :=
  Nat.rec (motive := fun _ => Nat → ce_L → ce_G → Option ce_R) (fun _ _ _ => none)
    (fun _ ih pc L G => match tab pc with
      | none => none
      | some f => ce_nf L G fun L G => match f L G with
        | none => none
        | some (X, Y) => ce_app X (ce_col ih Y)) n
theorem ce_go_succ (tab : Nat → Option ce_N) (n pc : Nat) (L : ce_L) (G : ce_G) : ce_go tab (n + 1) pc L G = match tab pc with
      | none => none
      | some f => ce_nf L G fun L G => match f L G with
        | none => none
        | some (X, Y) => ce_app X (ce_col (ce_go tab n) Y) := rfl
theorem ce_go_ok {own nm : String} {cc : ByteArray} {nL : Nat} {ret : Option FieldType} {ht : Nat} {hh : Option (List (Nat × Nat × Nat × Nat))} {tab : Nat → Option ce_N} (htab : ∀ pc f, tab pc = some f → ce_OKN own nm cc nL ret ht hh pc f)
    {z : ce_U} {p : Program} {l : Launch} {e : Env} {R : Room} {s : State} {m : MethodId} {args : Array Value} {below : List Frame} {meth : Method} {c : Code} {ad0 : Nat → Nat} {n0 : Nat}
    (hC : ce_CX z p l R s m args meth c own nm cc nL ret ht) (hT : ∀ h, hh = some h → c.exceptionTable.toList = tableOf h) (T : ce_R) (Q : State → Prop) (hQ : ∀ t, ce_Qm z R s args below ad0 n0 T t → Q t) : ∀ (n pc : Nat) (L : ce_L) (G : ce_G) (S : ce_R), ce_go tab n pc L G = some S → (∀ x ∈ S, x ∈ T) → ce_WS z p l e R s m args below meth c Q nL ad0 n0 pc L G
  | 0, pc, L, G, S, h, hS => by cases h
  | n + 1, pc, L, G, S, h, hS => by
    rw [ce_go_succ] at h
    split at h
    · cases h
    · rename_i f hf
      rw [ce_nf_eq] at h
      split at h
      · cases h
      · rename_i X Y hXY
        obtain ⟨r, h1, h2, h3⟩ := ce_app_ok h
        refine htab pc f hf hC hT T Q hQ L G X Y hXY (fun x hx => hS x (h2 x hx)) (fun y hy => ?_)
        obtain ⟨Sy, i1, i2⟩ := ce_col_ok Y r h1 y hy
        exact ce_go_ok htab hC hT T Q hQ n y.1 y.2.1 y.2.2 Sy i1 (fun x hx => hS x (h3 x (i2 x hx)))
/-- is it known how many places a value takes -/
def ce_ax : ce_SV → Bool
  | .inr (.inr (.inl (.inr j))) => Nat.blt j 8
  | _ => true
def ce_args : Nat → List ce_SV → List (Nat × ce_SV)
  | _, [] => []
  | i, v :: vs => (i, v) :: ce_args (match ce_c2 v with | true => i + 2 | false => i + 1) vs
theorem ce_c2_cat {z : ce_U} {ad : Nat → Nat} {v : ce_SV} (ha : ce_ax v = true) (h : ce_c2 v = true) : (ce_v z ad v).category = 2 := by
  match v, ha, h with
  | .inr (.inl _), _, _ => rfl
  | .inr (.inr (.inl (.inr j))), ha, h =>
    have h1 := Nat.le_of_ble_eq_true ha
    have h2 := Nat.le_of_ble_eq_true h
    omega
  | .inr (.inr (.inr v)), _, h => exact Nat.eq_of_beq_eq_true h
theorem ce_lv_args {z : ce_U} {s : State} (hK : ce_CK z s) {ad : Nat → Nat} : ∀ (vs : List ce_SV) (i : Nat), vs.all ce_ax = true → lv_args i (vs.map (ce_v z ad)) = (ce_args i vs).map fun q => (q.1, ce_v z ad q.2)
  | [], i, h => rfl
  | v :: vs, i, h => by
    simp only [List.all_cons, Bool.and_eq_true] at h
    simp only [List.map_cons, lv_args, ce_args]
    cases hc : ce_c2 v with
    | true =>
      rw [if_pos (ce_c2_cat h.1 hc)]
      exact congrArg _ (ce_lv_args hK vs _ h.2)
    | false =>
      rw [if_neg (by rw [ce_cat hK hc]; decide)]
      exact congrArg _ (ce_lv_args hK vs _ h.2)
theorem ce_sl_len {z : ce_U} {s : State} (hK : ce_CK z s) {ad : Nat → Nat} : ∀ (vs : List ce_SV), (lg_sl (vs.map (ce_v z ad))).length ≤ ce_wt vs
  | [] => Nat.le_refl _
  | v :: vs => by
    have ih := ce_sl_len hK (ad := ad) vs
    simp only [lg_sl] at ih
    simp only [lg_sl, List.map_cons, List.flatMap_cons, List.length_append, ce_wt]
    cases hc : ce_c2 v with
    | true =>
      have : (if (ce_v z ad v).category = 2 then [Slot.val (ce_v z ad v), Slot.second] else [Slot.val (ce_v z ad v)]).length ≤ 2 := by split <;> simp
      simp only []
      omega
    | false =>
      rw [if_neg (by rw [ce_cat hK hc]; decide)]
      simp only [List.length_cons, List.length_nil]
      omega
/-- a method's run from its arguments -/
noncomputable def ce_M (tab : Nat → Option ce_N) (nL mc ms fuel : Nat) : ce_C := fun avs G => match avs.all ce_ax && Nat.ble (ce_wt avs) nL with
  | true => ce_go tab fuel 0 (ce_args 0 avs, []) (G.1, G.2.1, mc, ms)
  | false => none
/-- a method's contract, for every state that the run answers for -/
def ce_MS (l : Launch) (y : MethodName) (hd : Cond) (ht mc ms : Nat) (F : ce_C) : Prop := ∀ (z : ce_U) (ad : Nat → Nat) (avs : List ce_SV) (G : ce_G) (S : ce_R), F avs G = some S →
  vx_Met l y (hd :: ce_GW) ({ frames := 8 + ht, cells := mc, slots := ms, locals := 100 * (ht + 2) } : Room) (ce_Pc z ad avs G) (ce_Qc z ad G.2.1.length S) (ce_XC z ad G.2.1.length S) mc ms (ce_A z)
theorem ce_enter {l : Launch} {y : MethodName} {cc : ByteArray} {nL : Nat} {ret : Option FieldType} {ht mc ms fuel : Nat} {hh : Option (List (Nat × Nat × Nat × Nat))} {tab : Nat → Option ce_N} {hd : Cond} (htab : ∀ pc f, tab pc = some f → ce_OKN y.cls y.name cc nL ret ht hh pc f) (hl : l.stackTraces = false)
    {z : ce_U} {ad : Nat → Nat} {avs : List ce_SV} {G : ce_G} {S : ce_R} (hF : ce_M tab nL mc ms fuel avs G = some S)
    {p : Program} {e : Env} {s : State} {m : MethodId} {args : Array Value} {below : List Frame} {meth : Method} {c : Code} {s₁ : State}
    (B : BodyLoose p l y (headSpec (hd :: ce_GW) ({ frames := 8 + ht, cells := mc, slots := ms, locals := 100 * (ht + 2) } : Room)) cc nL ret e s m args below meth c s₁) (hml : c.maxLocals = nL) (hT : ∀ h, hh = some h → c.exceptionTable.toList = tableOf h) (hP : ce_Pc z ad avs G args s) :
    W p l e (headSpec (hd :: ce_GW) ({ frames := 8 + ht, cells := mc, slots := ms, locals := 100 * (ht + 2) } : Room)).room s m args below meth c s.heap [] 0 0 (vx_MQ below (ce_Qc z ad G.2.1.length S) (ce_XC z ad G.2.1.length S) args s mc ms (ce_A z)) (entryFrame m args nL) := by
  obtain ⟨rfl, hK, hI⟩ := hP
  simp only [ce_M] at hF
  split at hF
  · rename_i hb
    simp only [Bool.and_eq_true] at hb
    have hts := atoms_spec (ws := hd :: ce_GW) B.pre
    have hC : ce_CX z p l ({ frames := 8 + ht, cells := mc, slots := ms, locals := 100 * (ht + 2) } : Room) s m ((avs.map (ce_v z ad)).toArray) meth c y.cls y.name cc nL ret ht :=
      ⟨B.exec, B.bytes, hml, findClass_of_methodNamed B.named, fun w hw => hts w (List.mem_cons_of_mem _ hw), (name_of_methodNamed B.named B.method).1, B.returns, B.notSynchronized, ⟨hl, Nat.le_refl _, Nat.le_refl _⟩, hK⟩
    have hlen : (lg_sl (avs.map (ce_v z ad))).length ≤ nL := Nat.le_trans (ce_sl_len hK avs) (Nat.le_of_ble_eq_true hb.2)
    have hl9 := lv_entry (avs.map (ce_v z ad)) hlen
    rw [ce_lv_args hK avs 0 hb.1] at hl9
    rw [lg_entry_eq]
    exact ce_go_ok htab hC hT S _ (fun _ h => h) fuel 0 _ _ S hF (fun _ h => h) ad _ s.heap [] 0 0 (fun _ _ => rfl) (Nat.le_refl _) hl9 hI va_S.rf (by show 0 + mc ≤ mc; omega) (by show 0 + ms ≤ ms; omega)
  · cases hF
theorem ce_met {l : Launch} (hl : l.stackTraces = false) {y : MethodName} {cc : ByteArray} {nL : Nat} {ret : Option FieldType} {ht mc ms fuel : Nat} {tab : Nat → Option ce_N} (hy : plainName y.cls = true) (htab : ∀ pc f, tab pc = some f → ce_OKN y.cls y.name cc nL ret ht (some []) pc f) : ce_MS l y (.code y cc nL ret) ht mc ms (ce_M tab nL mc ms fuel) := by
  intro z ad avs G S hF
  refine vx_ofW (cc := cc) (maxL := nL) (ret := ret) hy rfl ?_
  intro p e s m args below meth c s₁ B hml hx0 hP
  exact ce_enter htab hl hF B hml (fun h hh => by cases hh; exact List.eq_nil_iff_forall_not_mem.mpr hx0) hP
theorem ce_metW {l : Launch} (hl : l.stackTraces = false) {y : MethodName} {cc : ByteArray} {nL : Nat} {ret : Option FieldType} {hh : List (Nat × Nat × Nat × Nat)} {ht mc ms fuel : Nat} {tab : Nat → Option ce_N} (hy : plainName y.cls = true) (htab : ∀ pc f, tab pc = some f → ce_OKN y.cls y.name cc nL ret ht (some hh) pc f) : ce_MS l y (.codeWith y cc nL ret hh) ht mc ms (ce_M tab nL mc ms fuel) := by
  intro z ad avs G S hF
  refine vx_ofWH (cc := cc) (maxL := nL) (ret := ret) (hh := hh) hy rfl ?_
  intro p e s m args below meth c s₁ B hml hP
  have hw := atoms_spec (ws := Cond.codeWith y cc nL ret hh :: ce_GW) B.pre _ List.mem_cons_self
  exact ce_enter htab hl hF B hml (fun h e9 => by cases e9; exact vx_table (x := y) B hw) hP
/-! tables of steps -/
def ce_fd : List (Nat × ce_N) → Nat → Option ce_N
  | [], _ => none
  | x :: r, pc => match Nat.beq x.1 pc with
    | true => some x.2
    | false => ce_fd r pc
def ce_tr (n : Nat) (a b : Nat → Option ce_N) : Nat → Option ce_N := fun pc => match Nat.blt pc n with
  | true => a pc
  | false => b pc
theorem ce_fd_ok {P : Nat → ce_N → Prop} : ∀ {t : List (Nat × ce_N)}, (∀ x ∈ t, P x.1 x.2) → ∀ pc f, ce_fd t pc = some f → P pc f
  | [], _, pc, f, e => by cases e
  | x :: r, h, pc, f, e => by
    unfold ce_fd at e
    split at e
    · rename_i hb
      cases e
      rw [← Nat.eq_of_beq_eq_true hb]
      exact h x List.mem_cons_self
    · exact ce_fd_ok (fun y hy => h y (List.mem_cons_of_mem _ hy)) pc f e
theorem ce_tr_ok {P : Nat → ce_N → Prop} {n : Nat} {a b : Nat → Option ce_N} (ha : ∀ pc f, a pc = some f → P pc f) (hb : ∀ pc f, b pc = some f → P pc f) : ∀ pc f, ce_tr n a b pc = some f → P pc f := by
  intro pc f h
  unfold ce_tr at h
  split at h
  · exact ha pc f h
  · exact hb pc f h
theorem ce_fc {P : Nat → ce_N → Prop} {pc : Nat} {f : ce_N} {t : List (Nat × ce_N)} (h : P pc f) (ht : ∀ x ∈ t, P x.1 x.2) : ∀ x ∈ (pc, f) :: t, P x.1 x.2 := fun x hx => by
  rcases List.mem_cons.mp hx with e | e
  · rw [e]; exact h
  · exact ht x e
theorem ce_fn {P : Nat → ce_N → Prop} : ∀ x ∈ ([] : List (Nat × ce_N)), P x.1 x.2 := fun _ h => nomatch h
theorem ca_t {own : String} {cc : ByteArray} {nL pc : Nat} : ce_CA own cc nL (some []) pc (.inr true) := rfl
theorem ca_f {own : String} {cc : ByteArray} {nL pc : Nat} {hh : Option (List (Nat × Nat × Nat × Nat))} : ce_CA own cc nL hh pc (.inr false) := trivial
