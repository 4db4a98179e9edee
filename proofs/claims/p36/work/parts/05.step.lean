/-! facts about numbers that the script tells, comparisons, and what a step owes -/
def ce_r (n : Int) : Bool := decide (-2147483648 ≤ n) && decide (n ≤ 2147483647)
theorem ce_rt {n : Int} (h : ce_r n = true) : (Int32.ofInt n).toInt = n := by
  simp only [ce_r, Bool.and_eq_true, decide_eq_true_eq] at h
  exact Int32.toInt_ofInt_of_le (by omega) (by omega)
def ce_ge (F : ce_F) (t : Term) (c : Int) : Bool := F.any fun f => decide (f.1 = t) && (Nat.beq f.2.1 0 && decide (c ≤ f.2.2))
def ce_le (F : ce_F) (t : Term) (c : Int) : Bool := F.any fun f => decide (f.1 = t) && (Nat.beq f.2.1 1 && decide (f.2.2 ≤ c))
def ce_ne (F : ce_F) (t : Term) (c : Int) : Bool := (F.any fun f => decide (f.1 = t) && (Nat.beq f.2.1 2 && decide (f.2.2 = c))) || (ce_ge F t (c + 1) || ce_le F t (c - 1))
theorem ce_ge_ok {z : ce_U} {F : ce_F} (hF : ce_sat z F) {t : Term} {c : Int} (h : ce_ge F t c = true) : c ≤ (ce_I z t).toInt := by
  obtain ⟨f, hf, h⟩ := List.any_eq_true.mp h
  simp only [Bool.and_eq_true, decide_eq_true_eq, Nat.beq_eq] at h
  have := hF f hf
  rw [ce_fa, if_pos h.2.1, h.1] at this
  omega
theorem ce_le_ok {z : ce_U} {F : ce_F} (hF : ce_sat z F) {t : Term} {c : Int} (h : ce_le F t c = true) : (ce_I z t).toInt ≤ c := by
  obtain ⟨f, hf, h⟩ := List.any_eq_true.mp h
  simp only [Bool.and_eq_true, decide_eq_true_eq, Nat.beq_eq] at h
  have := hF f hf
  rw [ce_fa, if_neg (by omega), if_pos h.2.1, h.1] at this
  omega
theorem ce_ne_ok {z : ce_U} {F : ce_F} (hF : ce_sat z F) {t : Term} {c : Int} (h : ce_ne F t c = true) : (ce_I z t).toInt ≠ c := by
  simp only [ce_ne, Bool.or_eq_true] at h
  rcases h with h | h | h
  · obtain ⟨f, hf, h⟩ := List.any_eq_true.mp h
    simp only [Bool.and_eq_true, decide_eq_true_eq, Nat.beq_eq] at h
    have := hF f hf
    rw [ce_fa, if_neg (by omega), if_neg (by omega), h.1, h.2.2] at this
    exact this
  · have := ce_ge_ok hF h; omega
  · have := ce_le_ok hF h; omega
/-- is a = b (q), or a < b? -/
def ce_cmp (F : ce_F) (q : Bool) (a b : ce_SI) : Option Bool :=
  match a, b with
  | .inl x, .inl y => if ce_r x && ce_r y then some (if q then decide (x = y) else decide (x < y)) else none
  | .inr t, .inl c => if ce_r c then (if q then (if ce_ge F t c && ce_le F t c then some true else if ce_ne F t c then some false else none) else (if ce_le F t (c - 1) then some true else if ce_ge F t c then some false else none)) else none
  | .inl c, .inr t => if ce_r c then (if q then (if ce_ge F t c && ce_le F t c then some true else if ce_ne F t c then some false else none) else (if ce_ge F t (c + 1) then some true else if ce_le F t c then some false else none)) else none
  | .inr s, .inr t => if q && decide (s = t) then some true else none
def ce_pr (z : ce_U) (q : Bool) (a b : ce_SI) : Prop := if q then ce_vi z a = ce_vi z b else ce_vi z a < ce_vi z b
theorem ce_pr_int {z : ce_U} {q : Bool} {a b : ce_SI} : ce_pr z q a b ↔ if q then (ce_vi z a).toInt = (ce_vi z b).toInt else (ce_vi z a).toInt < (ce_vi z b).toInt := by
  unfold ce_pr
  cases q with
  | true => simp only [if_true]; exact Int32.toInt_inj.symm
  | false => simp only [Bool.false_eq_true, if_false]; exact Int32.lt_iff_toInt_lt
theorem ce_cmp_ok {z : ce_U} {F : ce_F} (hF : ce_sat z F) {q v : Bool} {a b : ce_SI} (h : ce_cmp F q a b = some v) : v = true ↔ ce_pr z q a b := by
  rw [ce_pr_int]
  match a, b, h with
  | .inl x, .inl y, h =>
    simp only [ce_cmp] at h
    split at h
    · rename_i hr
      simp only [Bool.and_eq_true] at hr
      cases h
      simp only [ce_vi, ce_rt hr.1, ce_rt hr.2]
      cases q <;> simp
    · cases h
  | .inr t, .inl c, h =>
    simp only [ce_cmp] at h
    split at h
    · rename_i hr
      simp only [ce_vi, ce_rt hr]
      cases q with
      | true =>
        simp only [if_true] at h ⊢
        split at h
        · rename_i h2
          simp only [Bool.and_eq_true] at h2
          have h3 := ce_ge_ok hF h2.1
          have h4 := ce_le_ok hF h2.2
          cases h; simp; omega
        · split at h
          · rename_i h2
            have h3 := ce_ne_ok hF h2
            cases h; simp; exact h3
          · cases h
      | false =>
        simp only [Bool.false_eq_true, if_false] at h ⊢
        split at h
        · rename_i h2
          have h3 := ce_le_ok hF h2
          cases h; simp; omega
        · split at h
          · rename_i h2
            have h3 := ce_ge_ok hF h2
            cases h; simp; omega
          · cases h
    · cases h
  | .inl c, .inr t, h =>
    simp only [ce_cmp] at h
    split at h
    · rename_i hr
      simp only [ce_vi, ce_rt hr]
      cases q with
      | true =>
        simp only [if_true] at h ⊢
        split at h
        · rename_i h2
          simp only [Bool.and_eq_true] at h2
          have h3 := ce_ge_ok hF h2.1
          have h4 := ce_le_ok hF h2.2
          cases h; simp; omega
        · split at h
          · rename_i h2
            have h3 := ce_ne_ok hF h2
            cases h; simp; exact fun z => h3 z.symm
          · cases h
      | false =>
        simp only [Bool.false_eq_true, if_false] at h ⊢
        split at h
        · rename_i h2
          have h3 := ce_ge_ok hF h2
          cases h; simp; omega
        · split at h
          · rename_i h2
            have h3 := ce_le_ok hF h2
            cases h; simp; omega
          · cases h
    · cases h
  | .inr s, .inr t, h =>
    simp only [ce_cmp] at h
    by_cases h2 : (q && decide (s = t)) = true
    · rw [if_pos h2] at h
      simp only [Bool.and_eq_true, decide_eq_true_eq] at h2
      have hv : v = true := (Option.some.inj h).symm
      rw [hv, h2.1, h2.2]; simp
    · rw [if_neg h2] at h; cases h
/-- both ways, with what each tells -/
def ce_br (F : ce_F) (q : Bool) (a b : ce_SI) : Option (List (Bool × ce_F)) :=
  match ce_cmp F q a b with
  | some v => some [(v, F)]
  | none => match a, b with
    | .inr t, .inl c => if ce_r c then some (if q then [(true, (t, 0, c) :: (t, 1, c) :: F), (false, (t, 2, c) :: F)] else [(true, (t, 1, c - 1) :: F), (false, (t, 0, c) :: F)]) else none
    | .inl c, .inr t => if ce_r c then some (if q then [(true, (t, 0, c) :: (t, 1, c) :: F), (false, (t, 2, c) :: F)] else [(true, (t, 0, c + 1) :: F), (false, (t, 1, c) :: F)]) else none
    | _, _ => none
theorem ce_sat_cons {z : ce_U} {F : ce_F} {f : Term × Nat × Int} (h : ce_fa z f) (hF : ce_sat z F) : ce_sat z (f :: F) := fun g hg => by
  rcases List.mem_cons.mp hg with e | e
  · rw [e]; exact h
  · exact hF g e
theorem ce_fa0 {z : ce_U} {t : Term} {c : Int} (h : c ≤ (ce_I z t).toInt) : ce_fa z (t, 0, c) := by simp only [ce_fa, if_true]; exact h
theorem ce_fa1 {z : ce_U} {t : Term} {c : Int} (h : (ce_I z t).toInt ≤ c) : ce_fa z (t, 1, c) := by simp [ce_fa]; exact h
theorem ce_fa2 {z : ce_U} {t : Term} {c : Int} (h : (ce_I z t).toInt ≠ c) : ce_fa z (t, 2, c) := by simp [ce_fa]; exact h
theorem ce_br_ok {z : ce_U} {F : ce_F} (hF : ce_sat z F) {q : Bool} {a b : ce_SI} {S : List (Bool × ce_F)} (h : ce_br F q a b = some S) : ∃ x ∈ S, (x.1 = true ↔ ce_pr z q a b) ∧ ce_sat z x.2 := by
  unfold ce_br at h
  split at h
  · rename_i v hv
    cases h
    exact ⟨_, List.mem_singleton.mpr rfl, ce_cmp_ok hF hv, hF⟩
  · rw [ce_pr_int]
    match a, b, h with
    | .inr t, .inl c, h =>
      simp only at h
      split at h
      · rename_i hr
        simp only [ce_vi, ce_rt hr]
        cases h
        cases q with
        | true =>
          simp only [if_true]
          by_cases he : (ce_I z t).toInt = c
          · exact ⟨_, List.mem_cons_self, by simp [he], ce_sat_cons (ce_fa0 (by omega)) (ce_sat_cons (ce_fa1 (by omega)) hF)⟩
          · exact ⟨_, List.mem_cons_of_mem _ List.mem_cons_self, by simp [he], ce_sat_cons (ce_fa2 he) hF⟩
        | false =>
          simp only [Bool.false_eq_true, if_false]
          by_cases he : (ce_I z t).toInt < c
          · exact ⟨_, List.mem_cons_self, by simp [he], ce_sat_cons (ce_fa1 (by omega)) hF⟩
          · exact ⟨_, List.mem_cons_of_mem _ List.mem_cons_self, by simp [he], ce_sat_cons (ce_fa0 (by omega)) hF⟩
      · cases h
    | .inl c, .inr t, h =>
      simp only at h
      split at h
      · rename_i hr
        simp only [ce_vi, ce_rt hr]
        cases h
        cases q with
        | true =>
          simp only [if_true]
          by_cases he : (ce_I z t).toInt = c
          · exact ⟨_, List.mem_cons_self, by simp [he], ce_sat_cons (ce_fa0 (by omega)) (ce_sat_cons (ce_fa1 (by omega)) hF)⟩
          · exact ⟨_, List.mem_cons_of_mem _ List.mem_cons_self, by simp; exact fun h => he h.symm, ce_sat_cons (ce_fa2 he) hF⟩
        | false =>
          simp only [Bool.false_eq_true, if_false]
          by_cases he : c < (ce_I z t).toInt
          · exact ⟨_, List.mem_cons_self, by simp [he], ce_sat_cons (ce_fa0 (by omega)) hF⟩
          · exact ⟨_, List.mem_cons_of_mem _ List.mem_cons_self, by simp [he], ce_sat_cons (ce_fa1 (by omega)) hF⟩
      · cases h
    | .inl _, .inl _, h => simp at h
    | .inr _, .inr _, h => simp at h
abbrev ce_P : Type := ce_L → ce_G → Option (List (Nat × ce_L × ce_G))
def ce_WS (z : ce_U) (p : Program) (l : Launch) (e : Env) (R : Room) (s : State) (m : MethodId) (args : Array Value) (below : List Frame) (meth : Method) (c : Code) (Q : State → Prop) (nL : Nat) (ad0 : Nat → Nat) (n0 : Nat) (pc : Nat) (L : ce_L) (G : ce_G) : Prop :=
  ∀ (ad : Nat → Nat) (ls : Array Slot) (H : Heap) (locs : List Loc) (kc ks : Nat), (∀ k, k < n0 → ad k = ad0 k) → n0 ≤ G.2.1.length → lv_has ls nL (L.1.map fun q => (q.1, ce_v z ad q.2)) → ce_Inv z ad G H → va_S (ce_A z) s.heap H locs → kc + G.2.2.1 ≤ R.cells → ks + G.2.2.2 ≤ R.slots →
    W p l e R s m args below meth c H locs kc ks Q (F0 m pc ls (L.2.map (ce_v z ad)))
def ce_CX (z : ce_U) (p : Program) (l : Launch) (R : Room) (s : State) (m : MethodId) (args : Array Value) (meth : Method) (c : Code) (own nm : String) (cc : ByteArray) (nL : Nat) (ret : Option FieldType) (ht : Nat) : Prop :=
  p.tables.exec = Jvm.exec ∧ c.code = cc ∧ c.maxLocals = nL ∧ s.vm.findClass own = some m.cls ∧ (∀ w ∈ ce_GW, w.before args s = true) ∧ meth.name = nm ∧ meth.sig.returnType = ret ∧ meth.locks = false ∧ (l.stackTraces = false ∧ 8 + ht ≤ R.frames ∧ 100 * (ht + 2) ≤ R.locals) ∧ ce_CK z s
def ce_OK (own nm : String) (cc : ByteArray) (nL : Nat) (ret : Option FieldType) (ht : Nat) (pc : Nat) (f : ce_P) : Prop :=
  ∀ {z : ce_U} {p : Program} {l : Launch} {e : Env} {R : Room} {s : State} {m : MethodId} {args : Array Value} {below : List Frame} {meth : Method} {c : Code} {Q : State → Prop} {ad0 : Nat → Nat} {n0 : Nat},
    ce_CX z p l R s m args meth c own nm cc nL ret ht → ∀ (L : ce_L) (G : ce_G) (S : List (Nat × ce_L × ce_G)), f L G = some S → (∀ x ∈ S, ce_WS z p l e R s m args below meth c Q nL ad0 n0 x.1 x.2.1 x.2.2) → ce_WS z p l e R s m args below meth c Q nL ad0 n0 pc L G
