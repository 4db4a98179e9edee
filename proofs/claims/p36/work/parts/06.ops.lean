/-! the plain steps: what each does to locals, stack and facts, and that the machine does so -/
theorem ce_has_sub {ls : Array Slot} {n : Nat} {l l' : List (Nat × Value)} (h : lv_has ls n l) (hs : ∀ q ∈ l', q ∈ l) : lv_has ls n l' := ⟨h.1, h.2.1, fun q hq => h.2.2 q (hs q hq)⟩
def ce_lk : List (Nat × ce_SV) → Nat → Option ce_SV
  | [], _ => none
  | q :: r, i => match Nat.beq q.1 i with
    | true => some q.2
    | false => ce_lk r i
theorem ce_lk_mem {i : Nat} {v : ce_SV} : ∀ {l : List (Nat × ce_SV)}, ce_lk l i = some v → (i, v) ∈ l
  | q :: r, h => by
    unfold ce_lk at h
    split at h
    · rename_i hq
      cases h
      rw [← Nat.eq_of_beq_eq_true hq]
      exact List.mem_cons_self
    · exact List.mem_cons_of_mem _ (ce_lk_mem h)
theorem ce_lk_at {z : ce_U} {ad : Nat → Nat} {ls : Array Slot} {n i : Nat} {v : ce_SV} {l : List (Nat × ce_SV)} (hl : lv_has ls n (l.map fun q => (q.1, ce_v z ad q.2))) (h : ce_lk l i = some v) : ls[i]? = some (.val (ce_v z ad v)) :=
  hl.2.2 (i, ce_v z ad v) (List.mem_map.mpr ⟨(i, v), ce_lk_mem h, rfl⟩)
/-- may it take two places -/
def ce_c2 : ce_SV → Bool
  | .inl _ => false
  | .inr (.inl _) => true
  | .inr (.inr (.inl (.inl _))) => false
  | .inr (.inr (.inl (.inr j))) => Nat.ble 8 j
  | .inr (.inr (.inr v)) => Nat.beq v.category 2
def ce_st (two : Bool) (i : Nat) (v : ce_SV) (l : List (Nat × ce_SV)) : List (Nat × ce_SV) := (i, v) :: l.filter fun q => !(Nat.beq q.1 i) && (!(two && Nat.beq q.1 (i + 1)) && !(Nat.beq (q.1 + 1) i && ce_c2 q.2))
theorem ce_ext {z : ce_U} {s : State} (h : ce_CK z s) : ∀ j, j < 7 → ∃ a, ce_ev z j = .ref a := by
  obtain ⟨-, -, -, -, ⟨b, h0, -⟩, ⟨t, h1, -⟩, ⟨k, v, h2, h3, h4, h5, -⟩, ⟨mi, h6, -⟩, -⟩ := h
  intro j hj
  rcases (by omega : j = 0 ∨ j = 1 ∨ j = 2 ∨ j = 3 ∨ j = 4 ∨ j = 5 ∨ j = 6) with rfl | rfl | rfl | rfl | rfl | rfl | rfl
  · exact ⟨_, h0⟩
  · exact ⟨_, h1⟩
  · exact ⟨_, h2⟩
  · exact ⟨_, h3⟩
  · exact ⟨_, h4⟩
  · exact ⟨_, h5⟩
  · exact ⟨_, h6⟩
theorem ce_cat {z : ce_U} {s : State} (h : ce_CK z s) {ad : Nat → Nat} {v : ce_SV} (hv : ce_c2 v = false) : (ce_v z ad v).category = 1 := by
  match v, hv with
  | .inl _, _ => rfl
  | .inr (.inr (.inl (.inl _))), _ => rfl
  | .inr (.inr (.inl (.inr j))), hv =>
    have hj : ¬ 8 ≤ j := fun z => by have := Nat.ble_eq_true_of_le z; rw [ce_c2, this] at hv; cases hv
    rcases (by omega : j < 7 ∨ j = 7) with h7 | rfl
    · obtain ⟨a, ha⟩ := ce_ext h j h7
      show (ce_ev z j).category = 1
      rw [ha]; rfl
    · exact h.2.2.2.2.2.2.2.2.1.1
  | .inr (.inr (.inr v)), hv =>
    have h2 : v.category ≠ 2 := fun z => by rw [ce_c2, z] at hv; cases hv
    show v.category = 1
    cases v <;> first | rfl | exact absurd rfl h2
theorem ce_st_sub {z : ce_U} {s : State} (h : ce_CK z s) {ad : Nat → Nat} {two : Bool} {i : Nat} {v : ce_SV} {l : List (Nat × ce_SV)} {f : Nat × Value → Bool}
    (hf : ∀ q : Nat × ce_SV, (Nat.beq q.1 i = false ∧ (two = true → Nat.beq q.1 (i + 1) = false) ∧ (Nat.beq (q.1 + 1) i = true → (ce_v z ad q.2).category = 1)) → f (q.1, ce_v z ad q.2) = true) :
    ∀ q ∈ (ce_st two i v l).map (fun q => (q.1, ce_v z ad q.2)), q ∈ (i, ce_v z ad v) :: (l.map fun q => (q.1, ce_v z ad q.2)).filter f := by
  intro q hq
  rw [ce_st, List.map_cons] at hq
  rcases List.mem_cons.mp hq with e | e
  · rw [e]; exact List.mem_cons_self
  · obtain ⟨x, hx, rfl⟩ := List.mem_map.mp e
    obtain ⟨h1, h2⟩ := List.mem_filter.mp hx
    refine List.mem_cons_of_mem _ (List.mem_filter.mpr ⟨List.mem_map.mpr ⟨x, h1, rfl⟩, hf x ?_⟩)
    simp only [Bool.and_eq_true, Bool.not_eq_true'] at h2
    obtain ⟨a1, a2, a3⟩ := h2
    refine ⟨a1, fun ht => ?_, fun hb => ce_cat h ?_⟩
    · rw [ht] at a2; simpa using a2
    · rw [hb] at a3; simpa using a3
theorem ce_beq (a b : Nat) : (a == b) = Nat.beq a b := by
  by_cases h : a = b
  · subst h; rw [Nat.beq_refl]; simp
  · have h2 : Nat.beq a b = false := by
      cases h3 : Nat.beq a b
      · rfl
      · exact absurd (Nat.eq_of_beq_eq_true h3) h
    rw [h2]; simpa using h
theorem ce_f1 {q : Nat × Value} {i : Nat} (h1 : Nat.beq q.1 i = false) (h3 : Nat.beq (q.1 + 1) i = true → q.2.category = 1) : (!(q.1 == i) && !(q.1 + 1 == i && q.2.category == 2)) = true := by
  have e1 : (q.1 == i) = false := by rw [ce_beq]; exact h1
  by_cases hb : Nat.beq (q.1 + 1) i = true
  · have := h3 hb
    simp [e1, this]
  · have e2 : (q.1 + 1 == i) = false := by rw [ce_beq]; exact Bool.eq_false_iff.mpr hb
    simp [e1, e2]
theorem ce_f2 {q : Nat × Value} {i : Nat} (h1 : Nat.beq q.1 i = false) (h2 : Nat.beq q.1 (i + 1) = false) (h3 : Nat.beq (q.1 + 1) i = true → q.2.category = 1) : (!(q.1 == i) && (!(q.1 == i + 1) && !(q.1 + 1 == i && q.2.category == 2))) = true := by
  have e1 : (q.1 == i) = false := by rw [ce_beq]; exact h1
  have e4 : (q.1 == i + 1) = false := by rw [ce_beq]; exact h2
  by_cases hb : Nat.beq (q.1 + 1) i = true
  · have := h3 hb
    simp [e1, e4, this]
  · have e2 : (q.1 + 1 == i) = false := by rw [ce_beq]; exact Bool.eq_false_iff.mpr hb
    simp [e1, e4, e2]
section Ops
variable {own nm : String} {cc : ByteArray} {nL : Nat} {ret : Option FieldType} {ht pc : Nat}

def ce_push (v : ce_SV) (nx : Nat) : ce_P := fun L G => some [(nx, (L.1, v :: L.2), G)]
theorem ok_iconst {n : Int} (d : decode cc pc = .ok (.iconst n, 1)) : ce_OK own nm cc nL ret ht pc (ce_push (.inl (.inl n)) (pc + 1)) := by
  intro z p l e R s m args below meth c Q ad0 n0 hC L G S h hS ad ls H locs kc ks h1 h2 hl hI hv k1 k2
  obtain ⟨lo, st⟩ := L
  cases h
  refine lv_iconst hC.1 hC.2.1 d rfl ?_
  exact hS _ (List.mem_singleton.mpr rfl) ad ls H locs kc ks h1 h2 hl hI hv k1 k2
theorem ok_bipush {n : Int} (d : decode cc pc = .ok (.bipush n, 2)) (hv8 : (Int8.ofInt n).toInt32 = Int32.ofInt n) : ce_OK own nm cc nL ret ht pc (ce_push (.inl (.inl n)) (pc + 2)) := by
  intro z p l e R s m args below meth c Q ad0 n0 hC L G S h hS ad ls H locs kc ks h1 h2 hl hI hv k1 k2
  obtain ⟨lo, st⟩ := L
  cases h
  refine lv_bipush hC.1 hC.2.1 d hv8 ?_
  exact hS _ (List.mem_singleton.mpr rfl) ad ls H locs kc ks h1 h2 hl hI hv k1 k2
theorem ok_sipush {n : Int} (d : decode cc pc = .ok (.sipush n, 3)) (hv8 : (Int16.ofInt n).toInt32 = Int32.ofInt n) : ce_OK own nm cc nL ret ht pc (ce_push (.inl (.inl n)) (pc + 3)) := by
  intro z p l e R s m args below meth c Q ad0 n0 hC L G S h hS ad ls H locs kc ks h1 h2 hl hI hv k1 k2
  obtain ⟨lo, st⟩ := L
  cases h
  refine lv_sipush hC.1 hC.2.1 d hv8 ?_
  exact hS _ (List.mem_singleton.mpr rfl) ad ls H locs kc ks h1 h2 hl hI hv k1 k2
theorem ok_lconst0  (d : decode cc pc = .ok (.lconst 0, 1)) : ce_OK own nm cc nL ret ht pc (ce_push (.inr (.inl (.inl 0))) (pc + 1)) := by
  intro z p l e R s m args below meth c Q ad0 n0 hC L G S h hS ad ls H locs kc ks h1 h2 hl hI hv k1 k2
  obtain ⟨lo, st⟩ := L
  cases h
  refine lv_lconst hC.1 hC.2.1 d rfl ?_
  exact hS _ (List.mem_singleton.mpr rfl) ad ls H locs kc ks h1 h2 hl hI hv k1 k2
theorem ok_lconst1  (d : decode cc pc = .ok (.lconst 1, 1)) : ce_OK own nm cc nL ret ht pc (ce_push (.inr (.inl (.inl 1))) (pc + 1)) := by
  intro z p l e R s m args below meth c Q ad0 n0 hC L G S h hS ad ls H locs kc ks h1 h2 hl hI hv k1 k2
  obtain ⟨lo, st⟩ := L
  cases h
  refine lv_lconst hC.1 hC.2.1 d rfl ?_
  exact hS _ (List.mem_singleton.mpr rfl) ad ls H locs kc ks h1 h2 hl hI hv k1 k2
theorem ok_fconst0  (d : decode cc pc = .ok (.fconst 0, 1)) : ce_OK own nm cc nL ret ht pc (ce_push (.inr (.inr (.inr (.float 0)))) (pc + 1)) := by
  intro z p l e R s m args below meth c Q ad0 n0 hC L G S h hS ad ls H locs kc ks h1 h2 hl hI hv k1 k2
  obtain ⟨lo, st⟩ := L
  cases h
  refine lv_fconst0 hC.1 hC.2.1 d ?_
  exact hS _ (List.mem_singleton.mpr rfl) ad ls H locs kc ks h1 h2 hl hI hv k1 k2
theorem ok_dconst0  (d : decode cc pc = .ok (.dconst 0, 1)) : ce_OK own nm cc nL ret ht pc (ce_push (.inr (.inr (.inr (.double 0)))) (pc + 1)) := by
  intro z p l e R s m args below meth c Q ad0 n0 hC L G S h hS ad ls H locs kc ks h1 h2 hl hI hv k1 k2
  obtain ⟨lo, st⟩ := L
  cases h
  refine lv_dconst0 hC.1 hC.2.1 d ?_
  exact hS _ (List.mem_singleton.mpr rfl) ad ls H locs kc ks h1 h2 hl hI hv k1 k2
theorem ok_null  (d : decode cc pc = .ok (.aconst_null, 1)) : ce_OK own nm cc nL ret ht pc (ce_push (.inr (.inr (.inr .null))) (pc + 1)) := by
  intro z p l e R s m args below meth c Q ad0 n0 hC L G S h hS ad ls H locs kc ks h1 h2 hl hI hv k1 k2
  obtain ⟨lo, st⟩ := L
  cases h
  refine lv_null hC.1 hC.2.1 d ?_
  exact hS _ (List.mem_singleton.mpr rfl) ad ls H locs kc ks h1 h2 hl hI hv k1 k2
theorem ok_ldc {i : Nat} {n : Int} (d : decode cc pc = .ok (.ldc i, 2)) (hk : Cond.constant own i (Int32.ofInt n) ∈ ce_GW) : ce_OK own nm cc nL ret ht pc (ce_push (.inl (.inl n)) (pc + 2)) := by
  intro z p l e R s m args below meth c Q ad0 n0 hC L G S h hS ad ls H locs kc ks h1 h2 hl hI hv k1 k2
  obtain ⟨lo, st⟩ := L
  cases h
  refine lv_ldc hC.1 hC.2.1 hC.2.2.2.1 (hC.2.2.2.2.1 _ hk) d ?_
  exact hS _ (List.mem_singleton.mpr rfl) ad ls H locs kc ks h1 h2 hl hI hv k1 k2
theorem ok_ldcw {i : Nat} {n : Int} (d : decode cc pc = .ok (.ldc_w i, 3)) (hk : Cond.constant own i (Int32.ofInt n) ∈ ce_GW) : ce_OK own nm cc nL ret ht pc (ce_push (.inl (.inl n)) (pc + 3)) := by
  intro z p l e R s m args below meth c Q ad0 n0 hC L G S h hS ad ls H locs kc ks h1 h2 hl hI hv k1 k2
  obtain ⟨lo, st⟩ := L
  cases h
  refine lv_ldcw hC.1 hC.2.1 hC.2.2.2.1 (hC.2.2.2.2.1 _ hk) d ?_
  exact hS _ (List.mem_singleton.mpr rfl) ad ls H locs kc ks h1 h2 hl hI hv k1 k2
def ce_iload (i nx : Nat) : ce_P := fun L G => match ce_lk L.1 i with
  | some (.inl a) => some [(nx, (L.1, .inl a :: L.2), G)]
  | _ => none
def ce_lload (i nx : Nat) : ce_P := fun L G => match ce_lk L.1 i with
  | some (.inr (.inl a)) => some [(nx, (L.1, .inr (.inl a) :: L.2), G)]
  | _ => none
def ce_aload (i nx : Nat) : ce_P := fun L G => match ce_lk L.1 i with
  | some (.inr (.inr (.inl (.inl k)))) => some [(nx, (L.1, .inr (.inr (.inl (.inl k))) :: L.2), G)]
  | some (.inr (.inr (.inl (.inr j)))) => match Nat.blt j 7 with
    | true => some [(nx, (L.1, .inr (.inr (.inl (.inr j))) :: L.2), G)]
    | false => none
  | some (.inr (.inr (.inr .null))) => some [(nx, (L.1, .inr (.inr (.inr .null)) :: L.2), G)]
  | _ => none
theorem ok_iload {i : Nat} (d : decode cc pc = .ok (.iload i, 2)) : ce_OK own nm cc nL ret ht pc (ce_iload i (pc + 2)) := by
  intro z p l e R s m args below meth c Q ad0 n0 hC L G S h hS ad ls H locs kc ks h1 h2 hl hI hv k1 k2
  obtain ⟨lo, st⟩ := L
  simp only [ce_iload] at h
  split at h
  · rename_i a ha
    cases h
    refine lv_iload hC.1 hC.2.1 d (ce_lk_at hl ha) ?_
    exact hS _ (List.mem_singleton.mpr rfl) ad ls H locs kc ks h1 h2 hl hI hv k1 k2
  · cases h
theorem ok_iload_n {k : Fin 4} {i : Nat} (d : decode cc pc = .ok (.iload_n k, 1)) (hi : (k : Nat) = i) : ce_OK own nm cc nL ret ht pc (ce_iload i (pc + 1)) := by
  intro z p l e R s m args below meth c Q ad0 n0 hC L G S h hS ad ls H locs kc ks h1 h2 hl hI hv k1 k2
  obtain ⟨lo, st⟩ := L
  simp only [ce_iload] at h
  split at h
  · rename_i a ha
    cases h
    refine lv_iload_n hC.1 hC.2.1 d hi (ce_lk_at hl ha) ?_
    exact hS _ (List.mem_singleton.mpr rfl) ad ls H locs kc ks h1 h2 hl hI hv k1 k2
  · cases h
theorem ok_lload {i : Nat} (d : decode cc pc = .ok (.lload i, 2)) : ce_OK own nm cc nL ret ht pc (ce_lload i (pc + 2)) := by
  intro z p l e R s m args below meth c Q ad0 n0 hC L G S h hS ad ls H locs kc ks h1 h2 hl hI hv k1 k2
  obtain ⟨lo, st⟩ := L
  simp only [ce_lload] at h
  split at h
  · rename_i a ha
    cases h
    refine lv_lload hC.1 hC.2.1 d (ce_lk_at hl ha) ?_
    exact hS _ (List.mem_singleton.mpr rfl) ad ls H locs kc ks h1 h2 hl hI hv k1 k2
  · cases h
theorem ok_lload_n {k : Fin 4} {i : Nat} (d : decode cc pc = .ok (.lload_n k, 1)) (hi : (k : Nat) = i) : ce_OK own nm cc nL ret ht pc (ce_lload i (pc + 1)) := by
  intro z p l e R s m args below meth c Q ad0 n0 hC L G S h hS ad ls H locs kc ks h1 h2 hl hI hv k1 k2
  obtain ⟨lo, st⟩ := L
  simp only [ce_lload] at h
  split at h
  · rename_i a ha
    cases h
    refine lv_lload_n hC.1 hC.2.1 d hi (ce_lk_at hl ha) ?_
    exact hS _ (List.mem_singleton.mpr rfl) ad ls H locs kc ks h1 h2 hl hI hv k1 k2
  · cases h
theorem ok_aload {i : Nat} (d : decode cc pc = .ok (.aload i, 2)) : ce_OK own nm cc nL ret ht pc (ce_aload i (pc + 2)) := by
  intro z p l e R s m args below meth c Q ad0 n0 hC L G S h hS ad ls H locs kc ks h1 h2 hl hI hv k1 k2
  obtain ⟨lo, st⟩ := L
  simp only [ce_aload] at h
  split at h
  · rename_i a ha
    cases h
    refine lv_aload hC.1 hC.2.1 d (ce_lk_at hl ha) ?_
    exact hS _ (List.mem_singleton.mpr rfl) ad ls H locs kc ks h1 h2 hl hI hv k1 k2
  · rename_i j ha
    split at h
    · rename_i hj
      cases h
      obtain ⟨a, hja⟩ := ce_ext hC.2.2.2.2.2.2.2.2.2 j (Nat.lt_of_succ_le (Nat.le_of_ble_eq_true hj))
      have hq := ce_lk_at hl ha
      have hva : ce_v z ad (.inr (.inr (.inl (.inr j)))) = .ref a := hja
      rw [hva] at hq
      refine lv_aload hC.1 hC.2.1 d hq ?_
      rw [← hva]
      exact hS _ (List.mem_singleton.mpr rfl) ad ls H locs kc ks h1 h2 hl hI hv k1 k2
    · cases h
  · rename_i ha
    cases h
    refine lv_aloadN hC.1 hC.2.1 d (ce_lk_at hl ha) ?_
    exact hS _ (List.mem_singleton.mpr rfl) ad ls H locs kc ks h1 h2 hl hI hv k1 k2
  · cases h
theorem ok_aload_n {k : Fin 4} {i : Nat} (d : decode cc pc = .ok (.aload_n k, 1)) (hi : (k : Nat) = i) : ce_OK own nm cc nL ret ht pc (ce_aload i (pc + 1)) := by
  intro z p l e R s m args below meth c Q ad0 n0 hC L G S h hS ad ls H locs kc ks h1 h2 hl hI hv k1 k2
  obtain ⟨lo, st⟩ := L
  simp only [ce_aload] at h
  split at h
  · rename_i a ha
    cases h
    refine lv_aload_n hC.1 hC.2.1 d hi (ce_lk_at hl ha) ?_
    exact hS _ (List.mem_singleton.mpr rfl) ad ls H locs kc ks h1 h2 hl hI hv k1 k2
  · rename_i j ha
    split at h
    · rename_i hj
      cases h
      obtain ⟨a, hja⟩ := ce_ext hC.2.2.2.2.2.2.2.2.2 j (Nat.lt_of_succ_le (Nat.le_of_ble_eq_true hj))
      have hq := ce_lk_at hl ha
      have hva : ce_v z ad (.inr (.inr (.inl (.inr j)))) = .ref a := hja
      rw [hva] at hq
      refine lv_aload_n hC.1 hC.2.1 d hi hq ?_
      rw [← hva]
      exact hS _ (List.mem_singleton.mpr rfl) ad ls H locs kc ks h1 h2 hl hI hv k1 k2
    · cases h
  · rename_i ha
    cases h
    refine lv_aload_nN hC.1 hC.2.1 d hi (ce_lk_at hl ha) ?_
    exact hS _ (List.mem_singleton.mpr rfl) ad ls H locs kc ks h1 h2 hl hI hv k1 k2
  · cases h
def ce_istore (i nx nL : Nat) : ce_P := fun L G => match L.2 with
  | .inl a :: r => match Nat.blt i nL with
    | true => some [(nx, (ce_st false i (.inl a) L.1, r), G)]
    | false => none
  | _ => none
def ce_lstore (i nx nL : Nat) : ce_P := fun L G => match L.2 with
  | .inr (.inl a) :: r => match Nat.blt (i + 1) nL with
    | true => some [(nx, (ce_st true i (.inr (.inl a)) L.1, r), G)]
    | false => none
  | _ => none
def ce_fstore (i nx nL : Nat) : ce_P := fun L G => match L.2 with
  | .inr (.inr (.inr (.float a))) :: r => match Nat.blt i nL with
    | true => some [(nx, (ce_st false i (.inr (.inr (.inr (.float a)))) L.1, r), G)]
    | false => none
  | _ => none
def ce_dstore (i nx nL : Nat) : ce_P := fun L G => match L.2 with
  | .inr (.inr (.inr (.double a))) :: r => match Nat.blt (i + 1) nL with
    | true => some [(nx, (ce_st true i (.inr (.inr (.inr (.double a)))) L.1, r), G)]
    | false => none
  | _ => none
def ce_astore (i nx nL : Nat) : ce_P := fun L G => match Nat.blt i nL with
  | true => match L.2 with
    | .inr (.inr (.inl (.inl k))) :: r => some [(nx, (ce_st false i (.inr (.inr (.inl (.inl k)))) L.1, r), G)]
    | .inr (.inr (.inl (.inr j))) :: r => match Nat.blt j 7 with
      | true => some [(nx, (ce_st false i (.inr (.inr (.inl (.inr j)))) L.1, r), G)]
      | false => none
    | .inr (.inr (.inr .null)) :: r => some [(nx, (ce_st false i (.inr (.inr (.inr .null))) L.1, r), G)]
    | _ => none
  | false => none
theorem ok_istore {i : Nat} (d : decode cc pc = .ok (.istore i, 2)) : ce_OK own nm cc nL ret ht pc (ce_istore i (pc + 2) nL) := by
  intro z p l e R s m args below meth c Q ad0 n0 hC L G S h hS ad ls H locs kc ks h1 h2 hl hI hv k1 k2
  obtain ⟨lo, st⟩ := L
  simp only [ce_istore] at h
  split at h
  · rename_i a r
    split at h
    · rename_i hn
      cases h
      refine lv_istore hC.1 hC.2.1 d hl (Nat.lt_of_succ_le (Nat.le_of_ble_eq_true hn)) rfl (fun ls' hl' => ?_)
      exact hS _ (List.mem_singleton.mpr rfl) ad ls' H locs kc ks h1 h2 (ce_has_sub hl' (ce_st_sub hC.2.2.2.2.2.2.2.2.2 fun q ⟨q1, q2, q3⟩ => ce_f1 q1 q3)) hI hv k1 k2
    · cases h
  · cases h
theorem ok_istore_n {k : Fin 4} {i : Nat} (d : decode cc pc = .ok (.istore_n k, 1)) (hi : (k : Nat) = i) : ce_OK own nm cc nL ret ht pc (ce_istore i (pc + 1) nL) := by
  intro z p l e R s m args below meth c Q ad0 n0 hC L G S h hS ad ls H locs kc ks h1 h2 hl hI hv k1 k2
  obtain ⟨lo, st⟩ := L
  simp only [ce_istore] at h
  split at h
  · rename_i a r
    split at h
    · rename_i hn
      cases h
      refine lv_istore_n hC.1 hC.2.1 d hi hl (Nat.lt_of_succ_le (Nat.le_of_ble_eq_true hn)) rfl (fun ls' hl' => ?_)
      exact hS _ (List.mem_singleton.mpr rfl) ad ls' H locs kc ks h1 h2 (ce_has_sub hl' (ce_st_sub hC.2.2.2.2.2.2.2.2.2 fun q ⟨q1, q2, q3⟩ => ce_f1 q1 q3)) hI hv k1 k2
    · cases h
  · cases h
theorem ok_lstore {i : Nat} (d : decode cc pc = .ok (.lstore i, 2)) : ce_OK own nm cc nL ret ht pc (ce_lstore i (pc + 2) nL) := by
  intro z p l e R s m args below meth c Q ad0 n0 hC L G S h hS ad ls H locs kc ks h1 h2 hl hI hv k1 k2
  obtain ⟨lo, st⟩ := L
  simp only [ce_lstore] at h
  split at h
  · rename_i a r
    split at h
    · rename_i hn
      cases h
      refine lv_lstore hC.1 hC.2.1 d hl (Nat.lt_of_succ_le (Nat.le_of_ble_eq_true hn)) rfl (fun ls' hl' => ?_)
      exact hS _ (List.mem_singleton.mpr rfl) ad ls' H locs kc ks h1 h2 (ce_has_sub hl' (ce_st_sub hC.2.2.2.2.2.2.2.2.2 fun q ⟨q1, q2, q3⟩ => ce_f2 q1 (q2 rfl) q3)) hI hv k1 k2
    · cases h
  · cases h
theorem ok_lstore_n {k : Fin 4} {i : Nat} (d : decode cc pc = .ok (.lstore_n k, 1)) (hi : (k : Nat) = i) : ce_OK own nm cc nL ret ht pc (ce_lstore i (pc + 1) nL) := by
  intro z p l e R s m args below meth c Q ad0 n0 hC L G S h hS ad ls H locs kc ks h1 h2 hl hI hv k1 k2
  obtain ⟨lo, st⟩ := L
  simp only [ce_lstore] at h
  split at h
  · rename_i a r
    split at h
    · rename_i hn
      cases h
      refine lv_lstore_n hC.1 hC.2.1 d hi hl (Nat.lt_of_succ_le (Nat.le_of_ble_eq_true hn)) rfl (fun ls' hl' => ?_)
      exact hS _ (List.mem_singleton.mpr rfl) ad ls' H locs kc ks h1 h2 (ce_has_sub hl' (ce_st_sub hC.2.2.2.2.2.2.2.2.2 fun q ⟨q1, q2, q3⟩ => ce_f2 q1 (q2 rfl) q3)) hI hv k1 k2
    · cases h
  · cases h
theorem ok_astore {i : Nat} (d : decode cc pc = .ok (.astore i, 2)) : ce_OK own nm cc nL ret ht pc (ce_astore i (pc + 2) nL) := by
  intro z p l e R s m args below meth c Q ad0 n0 hC L G S h hS ad ls H locs kc ks h1 h2 hl hI hv k1 k2
  obtain ⟨lo, st⟩ := L
  simp only [ce_astore] at h
  split at h
  · rename_i hn
    split at h
    · cases h
      refine lv_astore hC.1 hC.2.1 d hl (Nat.lt_of_succ_le (Nat.le_of_ble_eq_true hn)) rfl (fun ls' hl' => ?_)
      exact hS _ (List.mem_singleton.mpr rfl) ad ls' H locs kc ks h1 h2 (ce_has_sub hl' (ce_st_sub hC.2.2.2.2.2.2.2.2.2 fun q ⟨q1, q2, q3⟩ => ce_f1 q1 q3)) hI hv k1 k2
    · rename_i j r
      split at h
      · rename_i hj
        cases h
        obtain ⟨a, hja⟩ := ce_ext hC.2.2.2.2.2.2.2.2.2 j (Nat.lt_of_succ_le (Nat.le_of_ble_eq_true hj))
        have hva : ce_v z ad (.inr (.inr (.inl (.inr j)))) = .ref a := hja
        rw [List.map_cons, hva]
        refine lv_astore hC.1 hC.2.1 d hl (Nat.lt_of_succ_le (Nat.le_of_ble_eq_true hn)) rfl (fun ls' hl' => ?_)
        rw [← hva] at hl'
        exact hS _ (List.mem_singleton.mpr rfl) ad ls' H locs kc ks h1 h2 (ce_has_sub hl' (ce_st_sub hC.2.2.2.2.2.2.2.2.2 fun q ⟨q1, q2, q3⟩ => ce_f1 q1 q3)) hI hv k1 k2
      · cases h
    · cases h
      refine lv_astoreN hC.1 hC.2.1 d hl (Nat.lt_of_succ_le (Nat.le_of_ble_eq_true hn)) rfl (fun ls' hl' => ?_)
      exact hS _ (List.mem_singleton.mpr rfl) ad ls' H locs kc ks h1 h2 (ce_has_sub hl' (ce_st_sub hC.2.2.2.2.2.2.2.2.2 fun q ⟨q1, q2, q3⟩ => ce_f1 q1 q3)) hI hv k1 k2
    · cases h
  · cases h
theorem ok_astore_n {k : Fin 4} {i : Nat} (d : decode cc pc = .ok (.astore_n k, 1)) (hi : (k : Nat) = i) : ce_OK own nm cc nL ret ht pc (ce_astore i (pc + 1) nL) := by
  intro z p l e R s m args below meth c Q ad0 n0 hC L G S h hS ad ls H locs kc ks h1 h2 hl hI hv k1 k2
  obtain ⟨lo, st⟩ := L
  simp only [ce_astore] at h
  split at h
  · rename_i hn
    split at h
    · cases h
      refine lv_astore_n hC.1 hC.2.1 d hi hl (Nat.lt_of_succ_le (Nat.le_of_ble_eq_true hn)) rfl (fun ls' hl' => ?_)
      exact hS _ (List.mem_singleton.mpr rfl) ad ls' H locs kc ks h1 h2 (ce_has_sub hl' (ce_st_sub hC.2.2.2.2.2.2.2.2.2 fun q ⟨q1, q2, q3⟩ => ce_f1 q1 q3)) hI hv k1 k2
    · rename_i j r
      split at h
      · rename_i hj
        cases h
        obtain ⟨a, hja⟩ := ce_ext hC.2.2.2.2.2.2.2.2.2 j (Nat.lt_of_succ_le (Nat.le_of_ble_eq_true hj))
        have hva : ce_v z ad (.inr (.inr (.inl (.inr j)))) = .ref a := hja
        rw [List.map_cons, hva]
        refine lv_astore_n hC.1 hC.2.1 d hi hl (Nat.lt_of_succ_le (Nat.le_of_ble_eq_true hn)) rfl (fun ls' hl' => ?_)
        rw [← hva] at hl'
        exact hS _ (List.mem_singleton.mpr rfl) ad ls' H locs kc ks h1 h2 (ce_has_sub hl' (ce_st_sub hC.2.2.2.2.2.2.2.2.2 fun q ⟨q1, q2, q3⟩ => ce_f1 q1 q3)) hI hv k1 k2
      · cases h
    · cases h
      refine lv_astore_nN hC.1 hC.2.1 d hi hl (Nat.lt_of_succ_le (Nat.le_of_ble_eq_true hn)) rfl (fun ls' hl' => ?_)
      exact hS _ (List.mem_singleton.mpr rfl) ad ls' H locs kc ks h1 h2 (ce_has_sub hl' (ce_st_sub hC.2.2.2.2.2.2.2.2.2 fun q ⟨q1, q2, q3⟩ => ce_f1 q1 q3)) hI hv k1 k2
    · cases h
  · cases h
theorem ok_fstore {i : Nat} (d : decode cc pc = .ok (.fstore i, 2)) : ce_OK own nm cc nL ret ht pc (ce_fstore i (pc + 2) nL) := by
  intro z p l e R s m args below meth c Q ad0 n0 hC L G S h hS ad ls H locs kc ks h1 h2 hl hI hv k1 k2
  obtain ⟨lo, st⟩ := L
  simp only [ce_fstore] at h
  split at h
  · rename_i a r
    split at h
    · rename_i hn
      cases h
      refine lv_fstore hC.1 hC.2.1 d hl (Nat.lt_of_succ_le (Nat.le_of_ble_eq_true hn)) rfl (fun ls' hl' => ?_)
      exact hS _ (List.mem_singleton.mpr rfl) ad ls' H locs kc ks h1 h2 (ce_has_sub hl' (ce_st_sub hC.2.2.2.2.2.2.2.2.2 fun q ⟨q1, q2, q3⟩ => ce_f1 q1 q3)) hI hv k1 k2
    · cases h
  · cases h
theorem ok_dstore {i : Nat} (d : decode cc pc = .ok (.dstore i, 2)) : ce_OK own nm cc nL ret ht pc (ce_dstore i (pc + 2) nL) := by
  intro z p l e R s m args below meth c Q ad0 n0 hC L G S h hS ad ls H locs kc ks h1 h2 hl hI hv k1 k2
  obtain ⟨lo, st⟩ := L
  simp only [ce_dstore] at h
  split at h
  · rename_i a r
    split at h
    · rename_i hn
      cases h
      refine lv_dstore hC.1 hC.2.1 d hl (Nat.lt_of_succ_le (Nat.le_of_ble_eq_true hn)) rfl (fun ls' hl' => ?_)
      exact hS _ (List.mem_singleton.mpr rfl) ad ls' H locs kc ks h1 h2 (ce_has_sub hl' (ce_st_sub hC.2.2.2.2.2.2.2.2.2 fun q ⟨q1, q2, q3⟩ => ce_f2 q1 (q2 rfl) q3)) hI hv k1 k2
    · cases h
  · cases h
def ce_dup (nx : Nat) : ce_P := fun L G => match L.2 with
  | a :: r => match ce_c2 a with
    | false => some [(nx, (L.1, a :: a :: r), G)]
    | true => none
  | _ => none
def ce_pop (nx : Nat) : ce_P := fun L G => match L.2 with
  | a :: r => match ce_c2 a with
    | false => some [(nx, (L.1, r), G)]
    | true => none
  | _ => none
def ce_dup_x1 (nx : Nat) : ce_P := fun L G => match L.2 with
  | a :: b :: r => match ce_c2 a, ce_c2 b with
    | false, false => some [(nx, (L.1, a :: b :: a :: r), G)]
    | _, _ => none
  | _ => none
theorem ok_dup (d : decode cc pc = .ok (.dup, 1)) : ce_OK own nm cc nL ret ht pc (ce_dup (pc + 1)) := by
  intro z p l e R s m args below meth c Q ad0 n0 hC L G S h hS ad ls H locs kc ks h1 h2 hl hI hv k1 k2
  obtain ⟨lo, st⟩ := L
  simp only [ce_dup] at h
  split at h
  · rename_i a r
    split at h
    · rename_i hc
      cases h
      refine lv_dup hC.1 hC.2.1 d (ce_cat hC.2.2.2.2.2.2.2.2.2 hc) ?_
      exact hS _ (List.mem_singleton.mpr rfl) ad ls H locs kc ks h1 h2 hl hI hv k1 k2
    · cases h
  · cases h
theorem ok_pop (d : decode cc pc = .ok (.pop, 1)) : ce_OK own nm cc nL ret ht pc (ce_pop (pc + 1)) := by
  intro z p l e R s m args below meth c Q ad0 n0 hC L G S h hS ad ls H locs kc ks h1 h2 hl hI hv k1 k2
  obtain ⟨lo, st⟩ := L
  simp only [ce_pop] at h
  split at h
  · rename_i a r
    split at h
    · rename_i hc
      cases h
      refine lv_pop hC.1 hC.2.1 d (ce_cat hC.2.2.2.2.2.2.2.2.2 hc) ?_
      exact hS _ (List.mem_singleton.mpr rfl) ad ls H locs kc ks h1 h2 hl hI hv k1 k2
    · cases h
  · cases h
theorem ok_dup_x1 (d : decode cc pc = .ok (.dup_x1, 1)) : ce_OK own nm cc nL ret ht pc (ce_dup_x1 (pc + 1)) := by
  intro z p l e R s m args below meth c Q ad0 n0 hC L G S h hS ad ls H locs kc ks h1 h2 hl hI hv k1 k2
  obtain ⟨lo, st⟩ := L
  simp only [ce_dup_x1] at h
  split at h
  · rename_i a b r
    split at h
    · rename_i hc hc2
      cases h
      refine lv_dup_x1 hC.1 hC.2.1 d (ce_cat hC.2.2.2.2.2.2.2.2.2 hc) (ce_cat hC.2.2.2.2.2.2.2.2.2 hc2) ?_
      exact hS _ (List.mem_singleton.mpr rfl) ad ls H locs kc ks h1 h2 hl hI hv k1 k2
    · cases h
  · cases h
def ce_tm : ce_SI → Term
  | .inl n => .int (Int32.ofInt n)
  | .inr t => t
theorem ce_tm_ok {z : ce_U} (a : ce_SI) : ce_I z (ce_tm a) = ce_vi z a := by cases a <;> rfl
def ce_tl : ce_SI → Term
  | .inl n => .long (Int64.ofInt n)
  | .inr t => t
theorem ce_tl_ok {z : ce_U} (a : ce_SI) : ce_Lg z (ce_tl a) = ce_vl z a := by cases a <;> rfl
def ce_add : ce_SI → ce_SI → ce_SI
  | .inl x, .inl y => .inl (x + y)
  | .inl x, .inr t => match decide (x = 0) with
    | true => .inr t
    | false => .inr (.add (.int (Int32.ofInt x)) t)
  | a, b => .inr (.add (ce_tm a) (ce_tm b))
theorem ce_add_ok {z : ce_U} (a b : ce_SI) : ce_vi z (ce_add a b) = ce_vi z a + ce_vi z b := by
  match a, b with
  | .inl x, .inl y => simp [ce_add, ce_vi, Int32.ofInt_add]
  | .inl x, .inr t =>
    simp only [ce_add]
    split
    · rename_i h
      rw [of_decide_eq_true h]
      simp [ce_vi]
    · rfl
  | .inr t, b => simp only [ce_add, ce_vi, ce_I, ce_tm_ok]
def ce_sub : ce_SI → ce_SI → ce_SI
  | .inl x, .inl y => .inl (x - y)
  | a, b => .inr (.sub (ce_tm a) (ce_tm b))
theorem ce_sub_ok {z : ce_U} (a b : ce_SI) : ce_vi z (ce_sub a b) = ce_vi z a - ce_vi z b := by
  match a, b with
  | .inl x, .inl y => simp [ce_sub, ce_vi, Int32.ofInt_sub]
  | .inl x, .inr t => simp only [ce_sub, ce_vi, ce_I, ce_tm_ok]
  | .inr t, b => simp only [ce_sub, ce_vi, ce_I, ce_tm_ok]
def ce_addo (a b : ce_SI) : Option ce_SI := some (ce_add a b)
def ce_subo (a b : ce_SI) : Option ce_SI := some (ce_sub a b)
def ce_bin (f : ce_SI → ce_SI → Option ce_SI) (nx : Nat) : ce_P := fun L G => match L.2 with
  | .inl b :: .inl a :: r => match f a b with
    | some v => some [(nx, (L.1, .inl v :: r), G)]
    | none => none
  | _ => none
def ce_binL (f : ce_SI → ce_SI → ce_SI) (nx : Nat) : ce_P := fun L G => match L.2 with
  | .inr (.inl b) :: .inr (.inl a) :: r => some [(nx, (L.1, .inr (.inl (f a b)) :: r), G)]
  | _ => none
/-- numbers written out, by the machine's own counting -/
def ce_num (f : Int32 → Int32 → Int32) (a b : ce_SI) : Option ce_SI := match a, b with
  | .inl x, .inl y => some (.inl (f (Int32.ofInt x) (Int32.ofInt y)).toInt)
  | _, _ => none
theorem ce_num_ok {z : ce_U} {f : Int32 → Int32 → Int32} {a b v : ce_SI} (h : ce_num f a b = some v) : ce_vi z v = f (ce_vi z a) (ce_vi z b) := by
  match a, b, h with
  | .inl x, .inl y, h =>
    simp only [ce_num, Option.some.injEq] at h
    subst h
    simp [ce_vi]
  | .inl _, .inr _, h => simp [ce_num] at h
  | .inr _, _, h => simp [ce_num] at h
/-- a number told by the script, shifted down -/
def ce_shr (a b : ce_SI) : Option ce_SI := match a, b with
  | .inl x, .inl y => ce_num (fun x y => x >>> (y &&& 31)) (.inl x) (.inl y)
  | .inr t, b => some (.inr (.div t (ce_tm b)))
  | _, _ => none
theorem ce_shr_ok {z : ce_U} {a b v : ce_SI} (h : ce_shr a b = some v) : ce_vi z v = ce_vi z a >>> (ce_vi z b &&& 31) := by
  match a, b, h with
  | .inl x, .inl y, h => exact ce_num_ok (f := fun x y => x >>> (y &&& 31)) h
  | .inr t, b, h =>
    simp only [ce_shr, Option.some.injEq] at h
    subst h
    simp only [ce_vi, ce_I, ce_tm_ok]
  | .inl _, .inr _, h => simp [ce_shr] at h
def ce_and (a b : ce_SI) : Option ce_SI := match a, b with
  | .inl x, .inl y => ce_num (fun x y => x &&& y) (.inl x) (.inl y)
  | .inr t, .inl y => match decide (y = 63) with
    | true => some (.inr (.sum t))
    | false => none
  | _, _ => none
theorem ce_and_ok {z : ce_U} {a b v : ce_SI} (h : ce_and a b = some v) : ce_vi z v = ce_vi z a &&& ce_vi z b := by
  match a, b, h with
  | .inl x, .inl y, h => exact ce_num_ok (f := fun x y => x &&& y) h
  | .inr t, .inl y, h =>
    simp only [ce_and] at h
    split at h
    · rename_i hy
      cases h
      rw [of_decide_eq_true hy]
      rfl
    · cases h
  | .inl _, .inr _, h => simp [ce_and] at h
  | .inr _, .inr _, h => simp [ce_and] at h
theorem ok_iadd (d : decode cc pc = .ok (.iadd, 1)) : ce_OK own nm cc nL ret ht pc (ce_bin ce_addo (pc + 1)) := by
  intro z p l e R s m args below meth c Q ad0 n0 hC L G S h hS ad ls H locs kc ks h1 h2 hl hI hv k1 k2
  obtain ⟨lo, st⟩ := L
  simp only [ce_bin] at h
  split at h
  · rename_i b a r
    split at h
    · rename_i v hv8
      cases h
      refine lv_iadd hC.1 hC.2.1 d ?_
      have hq := (by rw [← Option.some.inj (show some (ce_add a b) = some v from hv8)]; exact ce_add_ok a b : ce_vi z v = ce_vi z a + ce_vi z b)
      rw [← hq]
      exact hS _ (List.mem_singleton.mpr rfl) ad ls H locs kc ks h1 h2 hl hI hv k1 k2
    · cases h
  · cases h
theorem ok_isub (d : decode cc pc = .ok (.isub, 1)) : ce_OK own nm cc nL ret ht pc (ce_bin ce_subo (pc + 1)) := by
  intro z p l e R s m args below meth c Q ad0 n0 hC L G S h hS ad ls H locs kc ks h1 h2 hl hI hv k1 k2
  obtain ⟨lo, st⟩ := L
  simp only [ce_bin] at h
  split at h
  · rename_i b a r
    split at h
    · rename_i v hv8
      cases h
      refine lv_isub hC.1 hC.2.1 d ?_
      have hq := (by rw [← Option.some.inj (show some (ce_sub a b) = some v from hv8)]; exact ce_sub_ok a b : ce_vi z v = ce_vi z a - ce_vi z b)
      rw [← hq]
      exact hS _ (List.mem_singleton.mpr rfl) ad ls H locs kc ks h1 h2 hl hI hv k1 k2
    · cases h
  · cases h
theorem ok_ior (d : decode cc pc = .ok (.ior, 1)) : ce_OK own nm cc nL ret ht pc (ce_bin (ce_num fun x y => x ||| y) (pc + 1)) := by
  intro z p l e R s m args below meth c Q ad0 n0 hC L G S h hS ad ls H locs kc ks h1 h2 hl hI hv k1 k2
  obtain ⟨lo, st⟩ := L
  simp only [ce_bin] at h
  split at h
  · rename_i b a r
    split at h
    · rename_i v hv8
      cases h
      refine lv_ior hC.1 hC.2.1 d ?_
      have hq := (ce_num_ok hv8 : ce_vi z v = ce_vi z a ||| ce_vi z b)
      rw [← hq]
      exact hS _ (List.mem_singleton.mpr rfl) ad ls H locs kc ks h1 h2 hl hI hv k1 k2
    · cases h
  · cases h
theorem ok_ishl (d : decode cc pc = .ok (.ishl, 1)) : ce_OK own nm cc nL ret ht pc (ce_bin (ce_num fun x y => x <<< (y &&& 31)) (pc + 1)) := by
  intro z p l e R s m args below meth c Q ad0 n0 hC L G S h hS ad ls H locs kc ks h1 h2 hl hI hv k1 k2
  obtain ⟨lo, st⟩ := L
  simp only [ce_bin] at h
  split at h
  · rename_i b a r
    split at h
    · rename_i v hv8
      cases h
      refine lv_ishl hC.1 hC.2.1 d ?_
      have hq := (ce_num_ok hv8 : ce_vi z v = ce_vi z a <<< (ce_vi z b &&& 31))
      rw [← hq]
      exact hS _ (List.mem_singleton.mpr rfl) ad ls H locs kc ks h1 h2 hl hI hv k1 k2
    · cases h
  · cases h
theorem ok_ishr (d : decode cc pc = .ok (.ishr, 1)) : ce_OK own nm cc nL ret ht pc (ce_bin ce_shr (pc + 1)) := by
  intro z p l e R s m args below meth c Q ad0 n0 hC L G S h hS ad ls H locs kc ks h1 h2 hl hI hv k1 k2
  obtain ⟨lo, st⟩ := L
  simp only [ce_bin] at h
  split at h
  · rename_i b a r
    split at h
    · rename_i v hv8
      cases h
      refine lv_ishr hC.1 hC.2.1 d ?_
      have hq := (ce_shr_ok hv8 : ce_vi z v = ce_vi z a >>> (ce_vi z b &&& 31))
      rw [← hq]
      exact hS _ (List.mem_singleton.mpr rfl) ad ls H locs kc ks h1 h2 hl hI hv k1 k2
    · cases h
  · cases h
theorem ok_iand (d : decode cc pc = .ok (.iand, 1)) : ce_OK own nm cc nL ret ht pc (ce_bin ce_and (pc + 1)) := by
  intro z p l e R s m args below meth c Q ad0 n0 hC L G S h hS ad ls H locs kc ks h1 h2 hl hI hv k1 k2
  obtain ⟨lo, st⟩ := L
  simp only [ce_bin] at h
  split at h
  · rename_i b a r
    split at h
    · rename_i v hv8
      cases h
      refine lv_iand hC.1 hC.2.1 d ?_
      have hq := (ce_and_ok hv8 : ce_vi z v = ce_vi z a &&& ce_vi z b)
      rw [← hq]
      exact hS _ (List.mem_singleton.mpr rfl) ad ls H locs kc ks h1 h2 hl hI hv k1 k2
    · cases h
  · cases h
def ce_ladd : ce_SI → ce_SI → ce_SI
  | .inl x, .inl y => .inl (x + y)
  | a, b => .inr (.add (ce_tl a) (ce_tl b))
theorem ce_ladd_ok {z : ce_U} (a b : ce_SI) : ce_vl z (ce_ladd a b) = ce_vl z a + ce_vl z b := by
  match a, b with
  | .inl x, .inl y => simp [ce_ladd, ce_vl, Int64.ofInt_add]
  | .inl x, .inr t => simp only [ce_ladd, ce_vl, ce_Lg, ce_tl_ok]
  | .inr t, b => simp only [ce_ladd, ce_vl, ce_Lg, ce_tl_ok]
def ce_lmul : ce_SI → ce_SI → ce_SI
  | .inl x, .inl y => .inl (x * y)
  | a, b => .inr (.mul (ce_tl a) (ce_tl b))
theorem ce_lmul_ok {z : ce_U} (a b : ce_SI) : ce_vl z (ce_lmul a b) = ce_vl z a * ce_vl z b := by
  match a, b with
  | .inl x, .inl y => simp [ce_lmul, ce_vl, Int64.ofInt_mul]
  | .inl x, .inr t => simp only [ce_lmul, ce_vl, ce_Lg, ce_tl_ok]
  | .inr t, b => simp only [ce_lmul, ce_vl, ce_Lg, ce_tl_ok]
theorem ok_ladd (d : decode cc pc = .ok (.ladd, 1)) : ce_OK own nm cc nL ret ht pc (ce_binL ce_ladd (pc + 1)) := by
  intro z p l e R s m args below meth c Q ad0 n0 hC L G S h hS ad ls H locs kc ks h1 h2 hl hI hv k1 k2
  obtain ⟨lo, st⟩ := L
  simp only [ce_binL] at h
  split at h
  · rename_i b a r
    cases h
    refine lv_ladd hC.1 hC.2.1 d ?_
    have hq := ce_ladd_ok (z := z) a b
    rw [← hq]
    exact hS _ (List.mem_singleton.mpr rfl) ad ls H locs kc ks h1 h2 hl hI hv k1 k2
  · cases h
theorem ok_lmul (d : decode cc pc = .ok (.lmul, 1)) : ce_OK own nm cc nL ret ht pc (ce_binL ce_lmul (pc + 1)) := by
  intro z p l e R s m args below meth c Q ad0 n0 hC L G S h hS ad ls H locs kc ks h1 h2 hl hI hv k1 k2
  obtain ⟨lo, st⟩ := L
  simp only [ce_binL] at h
  split at h
  · rename_i b a r
    cases h
    refine lv_lmul hC.1 hC.2.1 d ?_
    have hq := ce_lmul_ok (z := z) a b
    rw [← hq]
    exact hS _ (List.mem_singleton.mpr rfl) ad ls H locs kc ks h1 h2 hl hI hv k1 k2
  · cases h
/-- a number that the script tells, as a char: its bounds are facts -/
def ce_i2c (nx : Nat) : ce_P := fun L G => match L.2 with
  | .inl (.inl x) :: r => match decide (0 ≤ x) && decide (x ≤ 65535) with
    | true => some [(nx, (L.1, .inl (.inl x) :: r), G)]
    | false => none
  | .inl (.inr t) :: r => some [(nx, (L.1, .inl (.inr (.length t)) :: r), ((.length t, 0, 0) :: (.length t, 1, 65535) :: G.1, G.2))]
  | _ => none
def ce_i2b (nx : Nat) : ce_P := fun L G => match L.2 with
  | .inl (.inl x) :: r => some [(nx, (L.1, .inl (.inl (Int32.ofInt x).toInt8.toInt32.toInt) :: r), G)]
  | .inl (.inr t) :: r => some [(nx, (L.1, .inl (.inr (.old t)) :: r), G)]
  | _ => none
def ce_i2l (nx : Nat) : ce_P := fun L G => match L.2 with
  | .inl (.inl x) :: r => match ce_r x with
    | true => some [(nx, (L.1, .inr (.inl (.inl x)) :: r), G)]
    | false => none
  | .inl (.inr t) :: r => some [(nx, (L.1, .inr (.inl (.inr (.old t))) :: r), G)]
  | _ => none
theorem ce_char (x : Int32) : 0 ≤ ((x.toUInt32 % 65536).toInt32).toInt ∧ ((x.toUInt32 % 65536).toInt32).toInt ≤ 65535 := by
  rw [pk_char, nI_toInt (by omega)]
  omega
theorem ce_char_id {x : Int} (h0 : 0 ≤ x) (h1 : x ≤ 65535) : ((Int32.ofInt x).toUInt32 % 65536).toInt32 = Int32.ofInt x := by
  obtain ⟨n, rfl⟩ := Int.eq_ofNat_of_zero_le h0
  rw [pk_char]
  show nI ((Int32.ofNat n).toBitVec.toNat % 65536) = Int32.ofNat n
  rw [show (Int32.ofNat n).toBitVec.toNat = n from pk_tn (by omega), Nat.mod_eq_of_lt (by omega)]
  rfl
theorem ok_i2c (d : decode cc pc = .ok (.i2c, 1)) : ce_OK own nm cc nL ret ht pc (ce_i2c (pc + 1)) := by
  intro z p l e R s m args below meth c Q ad0 n0 hC L G S h hS ad ls H locs kc ks h1 h2 hl hI hv k1 k2
  obtain ⟨lo, st⟩ := L
  simp only [ce_i2c] at h
  split at h
  · rename_i x r
    split at h
    · rename_i hx
      simp only [Bool.and_eq_true, decide_eq_true_eq] at hx
      cases h
      refine lv_i2c hC.1 hC.2.1 d (ce_char_id hx.1 hx.2) ?_
      exact hS _ (List.mem_singleton.mpr rfl) ad ls H locs kc ks h1 h2 hl hI hv k1 k2
    · cases h
  · rename_i t r
    cases h
    refine lv_i2c hC.1 hC.2.1 d rfl ?_
    have hq := ce_char (ce_I z t)
    exact hS _ (List.mem_singleton.mpr rfl) ad ls H locs kc ks h1 h2 hl ⟨hI.1, hI.2.1, hI.2.2.1, ce_sat_cons (ce_fa0 hq.1) (ce_sat_cons (ce_fa1 hq.2) hI.2.2.2)⟩ hv k1 k2
  · cases h
theorem ok_i2b (d : decode cc pc = .ok (.i2b, 1)) : ce_OK own nm cc nL ret ht pc (ce_i2b (pc + 1)) := by
  intro z p l e R s m args below meth c Q ad0 n0 hC L G S h hS ad ls H locs kc ks h1 h2 hl hI hv k1 k2
  obtain ⟨lo, st⟩ := L
  simp only [ce_i2b] at h
  split at h
  · rename_i x r
    cases h
    refine lv_i2b hC.1 hC.2.1 d (v := ce_vi z (.inl (Int32.ofInt x).toInt8.toInt32.toInt)) (by show (Int32.ofInt x).toInt8.toInt32 = Int32.ofInt (Int32.ofInt x).toInt8.toInt32.toInt; rw [Int32.ofInt_toInt]) ?_
    exact hS _ (List.mem_singleton.mpr rfl) ad ls H locs kc ks h1 h2 hl hI hv k1 k2
  · rename_i t r
    cases h
    refine lv_i2b hC.1 hC.2.1 d rfl ?_
    exact hS _ (List.mem_singleton.mpr rfl) ad ls H locs kc ks h1 h2 hl hI hv k1 k2
  · cases h
theorem ok_i2l (d : decode cc pc = .ok (.i2l, 1)) : ce_OK own nm cc nL ret ht pc (ce_i2l (pc + 1)) := by
  intro z p l e R s m args below meth c Q ad0 n0 hC L G S h hS ad ls H locs kc ks h1 h2 hl hI hv k1 k2
  obtain ⟨lo, st⟩ := L
  simp only [ce_i2l] at h
  split at h
  · rename_i x r
    split at h
    · rename_i hx
      cases h
      refine lv_i2l hC.1 hC.2.1 d (v := ce_vl z (.inl x)) ?_ ?_
      · show (Int32.ofInt x).toInt64 = Int64.ofInt x
        rw [← Int64.ofInt_int32ToInt, ce_rt hx]
      · exact hS _ (List.mem_singleton.mpr rfl) ad ls H locs kc ks h1 h2 hl hI hv k1 k2
    · cases h
  · rename_i t r
    cases h
    refine lv_i2l hC.1 hC.2.1 d rfl ?_
    exact hS _ (List.mem_singleton.mpr rfl) ad ls H locs kc ks h1 h2 hl hI hv k1 k2
  · cases h
def ce_lr (n : Int) : Bool := decide (-9223372036854775808 ≤ n) && decide (n ≤ 9223372036854775807)
def ce_lcmp (nx : Nat) : ce_P := fun L G => match L.2 with
  | .inr (.inl (.inl y)) :: .inr (.inl (.inl x)) :: r => match ce_lr x && ce_lr y with
    | true => some [(nx, (L.1, .inl (.inl (if y < x then 1 else if x = y then 0 else -1)) :: r), G)]
    | false => none
  | .inr (.inl (.inr y)) :: .inr (.inl (.inr x)) :: r => match decide (x = y) with
    | true => some [(nx, (L.1, .inl (.inl 0) :: r), G)]
    | false => none
  | _ => none
theorem ce_lrt {n : Int} (h : ce_lr n = true) : (Int64.ofInt n).toInt = n := by
  simp only [ce_lr, Bool.and_eq_true, decide_eq_true_eq] at h
  exact Int64.toInt_ofInt_of_le (by omega) (by omega)
theorem ok_lcmp (d : decode cc pc = .ok (.lcmp, 1)) : ce_OK own nm cc nL ret ht pc (ce_lcmp (pc + 1)) := by
  intro z p l e R s m args below meth c Q ad0 n0 hC L G S h hS ad ls H locs kc ks h1 h2 hl hI hv k1 k2
  obtain ⟨lo, st⟩ := L
  simp only [ce_lcmp] at h
  split at h
  · rename_i y x r
    split at h
    · rename_i hx
      simp only [Bool.and_eq_true] at hx
      cases h
      refine W.lcmp hC.1 hC.2.1 d ?_
      have hq : lg_cmp (ce_vl z (.inl x)) (ce_vl z (.inl y)) = ce_vi z (.inl (if y < x then 1 else if x = y then 0 else -1)) := by
        have e1 : (Int64.ofInt x > Int64.ofInt y) ↔ y < x := by rw [gt_iff_lt, Int64.lt_iff_toInt_lt, ce_lrt hx.1, ce_lrt hx.2]
        have e2 : (Int64.ofInt x = Int64.ofInt y) ↔ x = y := by rw [← Int64.toInt_inj, ce_lrt hx.1, ce_lrt hx.2]
        simp only [lg_cmp, ce_vl, ce_vi, e1, e2]
        split
        · rfl
        · split <;> rfl
      show W _ _ _ _ _ _ _ _ _ _ _ _ _ _ _ (F0 m (pc + 1) ls (.int (lg_cmp (ce_vl z (.inl x)) (ce_vl z (.inl y))) :: r.map (ce_v z ad)))
      rw [hq]
      exact hS _ (List.mem_singleton.mpr rfl) ad ls H locs kc ks h1 h2 hl hI hv k1 k2
    · cases h
  · rename_i y x r
    split at h
    · rename_i hx
      cases h
      refine W.lcmp hC.1 hC.2.1 d ?_
      have hq : lg_cmp (ce_vl z (.inr x)) (ce_vl z (.inr y)) = ce_vi z (.inl 0) := by
        rw [of_decide_eq_true hx]
        simp [lg_cmp, ce_vi]
      show W _ _ _ _ _ _ _ _ _ _ _ _ _ _ _ (F0 m (pc + 1) ls (.int (lg_cmp (ce_vl z (.inr x)) (ce_vl z (.inr y))) :: r.map (ce_v z ad)))
      rw [hq]
      exact hS _ (List.mem_singleton.mpr rfl) ad ls H locs kc ks h1 h2 hl hI hv k1 k2
    · cases h
  · cases h
def ce_iinc (i : Nat) (n : Int) (nx nL : Nat) : ce_P := fun L G => match ce_lk L.1 i with
  | some (.inl a) => match Nat.blt i nL with
    | true => some [(nx, (ce_st false i (.inl (ce_add a (.inl n))) L.1, L.2), G)]
    | false => none
  | _ => none
theorem ok_iinc {i : Nat} {n : Int} (d : decode cc pc = .ok (.iinc i n, 3)) : ce_OK own nm cc nL ret ht pc (ce_iinc i n (pc + 3) nL) := by
  intro z p l e R s m args below meth c Q ad0 n0 hC L G S h hS ad ls H locs kc ks h1 h2 hl hI hv k1 k2
  obtain ⟨lo, st⟩ := L
  simp only [ce_iinc] at h
  split at h
  · rename_i a ha
    split at h
    · rename_i hn
      cases h
      obtain ⟨k, hk⟩ := List.getElem?_of_mem (List.mem_map.mpr ⟨(i, .inl a), ce_lk_mem ha, rfl⟩ : (i, ce_v z ad (.inl a)) ∈ lo.map fun q => (q.1, ce_v z ad q.2))
      refine lv_iinc hC.1 hC.2.1 d hl (k := k) hk (v := ce_vi z (ce_add a (.inl n))) (ce_add_ok a (.inl n)).symm (Nat.lt_of_succ_le (Nat.le_of_ble_eq_true hn)) rfl (fun ls' hl' => ?_)
      exact hS _ (List.mem_singleton.mpr rfl) ad ls' H locs kc ks h1 h2 (ce_has_sub hl' (ce_st_sub hC.2.2.2.2.2.2.2.2.2 fun q ⟨q1, q2, q3⟩ => ce_f1 q1 q3)) hI hv k1 k2
    · cases h
  · cases h
def ce_goto (nx : Nat) : ce_P := fun L G => some [(nx, L, G)]
theorem ok_goto {off : Int} {tgt : Nat} (d : decode cc pc = .ok (.goto off, 3)) (htg : (pc : Int) + off = (tgt : Int)) : ce_OK own nm cc nL ret ht pc (ce_goto tgt) := by
  intro z p l e R s m args below meth c Q ad0 n0 hC L G S h hS ad ls H locs kc ks h1 h2 hl hI hv k1 k2
  obtain ⟨lo, st⟩ := L
  cases h
  refine lv_goto hC.1 hC.2.1 d htg ?_
  exact hS _ (List.mem_singleton.mpr rfl) ad ls H locs kc ks h1 h2 hl hI hv k1 k2
/-- q: is it =, or <; sw: the other way round; ng: not -/
def ce_jump (q ng : Bool) (a b : ce_SI) (tgt nx : Nat) (L : ce_L) (G : ce_G) : Option (List (Nat × ce_L × ce_G)) := match ce_br G.1 q a b with
  | some S => some (S.map fun x => (if x.1 == ng then nx else tgt, L, (x.2, G.2)))
  | none => none
theorem ce_jump_ok {z : ce_U} {q ng : Bool} {a b : ce_SI} {tgt nx : Nat} {L : ce_L} {G : ce_G} {S : List (Nat × ce_L × ce_G)} (h : ce_jump q ng a b tgt nx L G = some S) (hF : ce_sat z G.1) :
    ∃ x ∈ S, x.2.1 = L ∧ x.2.2.2 = G.2 ∧ ce_sat z x.2.2.1 ∧ (ce_pr z q a b → x.1 = if ng then nx else tgt) ∧ (¬ ce_pr z q a b → x.1 = if ng then tgt else nx) := by
  unfold ce_jump at h
  split at h
  · rename_i S0 h0
    cases h
    obtain ⟨x, hx, h1, h2⟩ := ce_br_ok hF h0
    refine ⟨_, List.mem_map.mpr ⟨x, hx, rfl⟩, rfl, rfl, h2, fun hp => ?_, fun hp => ?_⟩
    · have e : x.1 = true := h1.mpr hp
      cases ng <;> simp [e]
    · have e : x.1 = false := by
        cases hx1 : x.1
        · rfl
        · exact absurd (h1.mp hx1) hp
      cases ng <;> simp [e]
  · cases h
def ce_icmp (q sw ng : Bool) (tgt nx : Nat) : ce_P := fun L G => match L.2 with
  | .inl b :: .inl a :: r => match sw with
    | false => ce_jump q ng a b tgt nx (L.1, r) G
    | true => ce_jump q ng b a tgt nx (L.1, r) G
  | _ => none
def ce_if (q sw ng : Bool) (tgt nx : Nat) : ce_P := fun L G => match L.2 with
  | .inl a :: r => match sw with
    | false => ce_jump q ng a (.inl 0) tgt nx (L.1, r) G
    | true => ce_jump q ng (.inl 0) a tgt nx (L.1, r) G
  | _ => none
theorem ok_icmp_eq {off : Int} {tgt : Nat} (d : decode cc pc = .ok (.if_icmp .eq off, 3)) (htg : (pc : Int) + off = (tgt : Int)) : ce_OK own nm cc nL ret ht pc (ce_icmp true false false tgt (pc + 3)) := by
  intro z p l e R s m args below meth c Q ad0 n0 hC L G S h hS ad ls H locs kc ks h1 h2 hl hI hv k1 k2
  obtain ⟨lo, st⟩ := L
  simp only [ce_icmp] at h
  split at h
  · rename_i b a r
    obtain ⟨x, hx, e1, e2, hs, hp, hn⟩ := ce_jump_ok h hI.2.2.2
    have hgo := hS x hx
    obtain ⟨x1, x2, x3, x4⟩ := x
    dsimp only at e1 e2 hs hp hn hgo
    subst e1; subst e2
    have hpr : ce_pr z true a b ↔ ce_vi z a = ce_vi z b := by simp [ce_pr]
    have hgo2 := hgo ad ls H locs kc ks h1 h2 hl ⟨hI.1, hI.2.1, hI.2.2.1, hs⟩ hv k1 k2
    rw [hpr] at hp hn
    by_cases hc : ce_vi z a = ce_vi z b
    · have e9 := hp hc
      simp only [if_true, Bool.false_eq_true, if_false] at e9
      subst e9
      refine lv_icmp_eq hC.1 hC.2.1 d htg (fun c8 => ?_) (fun c8 => ?_)
      · first | exact hgo2 | exact absurd hc c8 | exact absurd c8 (by simpa [ce_vi] using hc) | exact absurd hc (Int32.not_lt.mpr c8)
      · first | exact hgo2 | exact absurd hc c8 | exact absurd (by simpa [ce_vi] using hc) c8 | exact absurd (Int32.not_le.mp c8) (by simpa [ce_vi] using hc)
    · have e9 := hn hc
      simp only [if_true, Bool.false_eq_true, if_false] at e9
      subst e9
      refine lv_icmp_eq hC.1 hC.2.1 d htg (fun c8 => ?_) (fun c8 => ?_)
      · first | exact hgo2 | exact absurd c8 hc | exact absurd c8 (by simpa [ce_vi] using hc) | exact absurd (Int32.not_lt.mp hc) (by simpa [ce_vi] using c8)
      · first | exact hgo2 | exact absurd c8 hc | exact absurd (Int32.not_le.mp c8) hc | exact absurd (by simpa [ce_vi] using hc) c8
  · cases h
theorem ok_if_eq {off : Int} {tgt : Nat} (d : decode cc pc = .ok (.ifCond .eq off, 3)) (htg : (pc : Int) + off = (tgt : Int)) : ce_OK own nm cc nL ret ht pc (ce_if true false false tgt (pc + 3)) := by
  intro z p l e R s m args below meth c Q ad0 n0 hC L G S h hS ad ls H locs kc ks h1 h2 hl hI hv k1 k2
  obtain ⟨lo, st⟩ := L
  simp only [ce_if] at h
  split at h
  · rename_i a r
    obtain ⟨x, hx, e1, e2, hs, hp, hn⟩ := ce_jump_ok h hI.2.2.2
    have hgo := hS x hx
    obtain ⟨x1, x2, x3, x4⟩ := x
    dsimp only at e1 e2 hs hp hn hgo
    subst e1; subst e2
    have hpr : ce_pr z true a (.inl 0) ↔ ce_vi z a = ce_vi z (.inl 0) := by simp [ce_pr]
    have hgo2 := hgo ad ls H locs kc ks h1 h2 hl ⟨hI.1, hI.2.1, hI.2.2.1, hs⟩ hv k1 k2
    rw [hpr] at hp hn
    by_cases hc : ce_vi z a = ce_vi z (.inl 0)
    · have e9 := hp hc
      simp only [if_true, Bool.false_eq_true, if_false] at e9
      subst e9
      refine lv_if_eq hC.1 hC.2.1 d htg (fun c8 => ?_) (fun c8 => ?_)
      · first | exact hgo2 | exact absurd hc c8 | exact absurd c8 (by simpa [ce_vi] using hc) | exact absurd hc (Int32.not_lt.mpr c8)
      · first | exact hgo2 | exact absurd hc c8 | exact absurd (by simpa [ce_vi] using hc) c8 | exact absurd (Int32.not_le.mp c8) (by simpa [ce_vi] using hc)
    · have e9 := hn hc
      simp only [if_true, Bool.false_eq_true, if_false] at e9
      subst e9
      refine lv_if_eq hC.1 hC.2.1 d htg (fun c8 => ?_) (fun c8 => ?_)
      · first | exact hgo2 | exact absurd c8 hc | exact absurd c8 (by simpa [ce_vi] using hc) | exact absurd (Int32.not_lt.mp hc) (by simpa [ce_vi] using c8)
      · first | exact hgo2 | exact absurd c8 hc | exact absurd (Int32.not_le.mp c8) hc | exact absurd (by simpa [ce_vi] using hc) c8
  · cases h
theorem ok_icmp_ne {off : Int} {tgt : Nat} (d : decode cc pc = .ok (.if_icmp .ne off, 3)) (htg : (pc : Int) + off = (tgt : Int)) : ce_OK own nm cc nL ret ht pc (ce_icmp true false true tgt (pc + 3)) := by
  intro z p l e R s m args below meth c Q ad0 n0 hC L G S h hS ad ls H locs kc ks h1 h2 hl hI hv k1 k2
  obtain ⟨lo, st⟩ := L
  simp only [ce_icmp] at h
  split at h
  · rename_i b a r
    obtain ⟨x, hx, e1, e2, hs, hp, hn⟩ := ce_jump_ok h hI.2.2.2
    have hgo := hS x hx
    obtain ⟨x1, x2, x3, x4⟩ := x
    dsimp only at e1 e2 hs hp hn hgo
    subst e1; subst e2
    have hpr : ce_pr z true a b ↔ ce_vi z a = ce_vi z b := by simp [ce_pr]
    have hgo2 := hgo ad ls H locs kc ks h1 h2 hl ⟨hI.1, hI.2.1, hI.2.2.1, hs⟩ hv k1 k2
    rw [hpr] at hp hn
    by_cases hc : ce_vi z a = ce_vi z b
    · have e9 := hp hc
      simp only [if_true, Bool.false_eq_true, if_false] at e9
      subst e9
      refine lv_icmp_ne hC.1 hC.2.1 d htg (fun c8 => ?_) (fun c8 => ?_)
      · first | exact hgo2 | exact absurd hc c8 | exact absurd c8 (by simpa [ce_vi] using hc) | exact absurd hc (Int32.not_lt.mpr c8)
      · first | exact hgo2 | exact absurd hc c8 | exact absurd (by simpa [ce_vi] using hc) c8 | exact absurd (Int32.not_le.mp c8) (by simpa [ce_vi] using hc)
    · have e9 := hn hc
      simp only [if_true, Bool.false_eq_true, if_false] at e9
      subst e9
      refine lv_icmp_ne hC.1 hC.2.1 d htg (fun c8 => ?_) (fun c8 => ?_)
      · first | exact hgo2 | exact absurd c8 hc | exact absurd c8 (by simpa [ce_vi] using hc) | exact absurd (Int32.not_lt.mp hc) (by simpa [ce_vi] using c8)
      · first | exact hgo2 | exact absurd c8 hc | exact absurd (Int32.not_le.mp c8) hc | exact absurd (by simpa [ce_vi] using hc) c8
  · cases h
theorem ok_if_ne {off : Int} {tgt : Nat} (d : decode cc pc = .ok (.ifCond .ne off, 3)) (htg : (pc : Int) + off = (tgt : Int)) : ce_OK own nm cc nL ret ht pc (ce_if true false true tgt (pc + 3)) := by
  intro z p l e R s m args below meth c Q ad0 n0 hC L G S h hS ad ls H locs kc ks h1 h2 hl hI hv k1 k2
  obtain ⟨lo, st⟩ := L
  simp only [ce_if] at h
  split at h
  · rename_i a r
    obtain ⟨x, hx, e1, e2, hs, hp, hn⟩ := ce_jump_ok h hI.2.2.2
    have hgo := hS x hx
    obtain ⟨x1, x2, x3, x4⟩ := x
    dsimp only at e1 e2 hs hp hn hgo
    subst e1; subst e2
    have hpr : ce_pr z true a (.inl 0) ↔ ce_vi z a = ce_vi z (.inl 0) := by simp [ce_pr]
    have hgo2 := hgo ad ls H locs kc ks h1 h2 hl ⟨hI.1, hI.2.1, hI.2.2.1, hs⟩ hv k1 k2
    rw [hpr] at hp hn
    by_cases hc : ce_vi z a = ce_vi z (.inl 0)
    · have e9 := hp hc
      simp only [if_true, Bool.false_eq_true, if_false] at e9
      subst e9
      refine lv_if_ne hC.1 hC.2.1 d htg (fun c8 => ?_) (fun c8 => ?_)
      · first | exact hgo2 | exact absurd hc c8 | exact absurd c8 (by simpa [ce_vi] using hc) | exact absurd hc (Int32.not_lt.mpr c8)
      · first | exact hgo2 | exact absurd hc c8 | exact absurd (by simpa [ce_vi] using hc) c8 | exact absurd (Int32.not_le.mp c8) (by simpa [ce_vi] using hc)
    · have e9 := hn hc
      simp only [if_true, Bool.false_eq_true, if_false] at e9
      subst e9
      refine lv_if_ne hC.1 hC.2.1 d htg (fun c8 => ?_) (fun c8 => ?_)
      · first | exact hgo2 | exact absurd c8 hc | exact absurd c8 (by simpa [ce_vi] using hc) | exact absurd (Int32.not_lt.mp hc) (by simpa [ce_vi] using c8)
      · first | exact hgo2 | exact absurd c8 hc | exact absurd (Int32.not_le.mp c8) hc | exact absurd (by simpa [ce_vi] using hc) c8
  · cases h
theorem ok_icmp_lt {off : Int} {tgt : Nat} (d : decode cc pc = .ok (.if_icmp .lt off, 3)) (htg : (pc : Int) + off = (tgt : Int)) : ce_OK own nm cc nL ret ht pc (ce_icmp false false false tgt (pc + 3)) := by
  intro z p l e R s m args below meth c Q ad0 n0 hC L G S h hS ad ls H locs kc ks h1 h2 hl hI hv k1 k2
  obtain ⟨lo, st⟩ := L
  simp only [ce_icmp] at h
  split at h
  · rename_i b a r
    obtain ⟨x, hx, e1, e2, hs, hp, hn⟩ := ce_jump_ok h hI.2.2.2
    have hgo := hS x hx
    obtain ⟨x1, x2, x3, x4⟩ := x
    dsimp only at e1 e2 hs hp hn hgo
    subst e1; subst e2
    have hpr : ce_pr z false a b ↔ ce_vi z a < ce_vi z b := by simp [ce_pr]
    have hgo2 := hgo ad ls H locs kc ks h1 h2 hl ⟨hI.1, hI.2.1, hI.2.2.1, hs⟩ hv k1 k2
    rw [hpr] at hp hn
    by_cases hc : ce_vi z a < ce_vi z b
    · have e9 := hp hc
      simp only [if_true, Bool.false_eq_true, if_false] at e9
      subst e9
      refine lv_icmp_lt hC.1 hC.2.1 d htg (fun c8 => ?_) (fun c8 => ?_)
      · first | exact hgo2 | exact absurd hc c8 | exact absurd c8 (by simpa [ce_vi] using hc) | exact absurd hc (Int32.not_lt.mpr c8)
      · first | exact hgo2 | exact absurd hc c8 | exact absurd (by simpa [ce_vi] using hc) c8 | exact absurd (Int32.not_le.mp c8) (by simpa [ce_vi] using hc)
    · have e9 := hn hc
      simp only [if_true, Bool.false_eq_true, if_false] at e9
      subst e9
      refine lv_icmp_lt hC.1 hC.2.1 d htg (fun c8 => ?_) (fun c8 => ?_)
      · first | exact hgo2 | exact absurd c8 hc | exact absurd c8 (by simpa [ce_vi] using hc) | exact absurd (Int32.not_lt.mp hc) (by simpa [ce_vi] using c8)
      · first | exact hgo2 | exact absurd c8 hc | exact absurd (Int32.not_le.mp c8) hc | exact absurd (by simpa [ce_vi] using hc) c8
  · cases h
theorem ok_if_lt {off : Int} {tgt : Nat} (d : decode cc pc = .ok (.ifCond .lt off, 3)) (htg : (pc : Int) + off = (tgt : Int)) : ce_OK own nm cc nL ret ht pc (ce_if false false false tgt (pc + 3)) := by
  intro z p l e R s m args below meth c Q ad0 n0 hC L G S h hS ad ls H locs kc ks h1 h2 hl hI hv k1 k2
  obtain ⟨lo, st⟩ := L
  simp only [ce_if] at h
  split at h
  · rename_i a r
    obtain ⟨x, hx, e1, e2, hs, hp, hn⟩ := ce_jump_ok h hI.2.2.2
    have hgo := hS x hx
    obtain ⟨x1, x2, x3, x4⟩ := x
    dsimp only at e1 e2 hs hp hn hgo
    subst e1; subst e2
    have hpr : ce_pr z false a (.inl 0) ↔ ce_vi z a < ce_vi z (.inl 0) := by simp [ce_pr]
    have hgo2 := hgo ad ls H locs kc ks h1 h2 hl ⟨hI.1, hI.2.1, hI.2.2.1, hs⟩ hv k1 k2
    rw [hpr] at hp hn
    by_cases hc : ce_vi z a < ce_vi z (.inl 0)
    · have e9 := hp hc
      simp only [if_true, Bool.false_eq_true, if_false] at e9
      subst e9
      refine lv_if_lt hC.1 hC.2.1 d htg (fun c8 => ?_) (fun c8 => ?_)
      · first | exact hgo2 | exact absurd hc c8 | exact absurd c8 (by simpa [ce_vi] using hc) | exact absurd hc (Int32.not_lt.mpr c8)
      · first | exact hgo2 | exact absurd hc c8 | exact absurd (by simpa [ce_vi] using hc) c8 | exact absurd (Int32.not_le.mp c8) (by simpa [ce_vi] using hc)
    · have e9 := hn hc
      simp only [if_true, Bool.false_eq_true, if_false] at e9
      subst e9
      refine lv_if_lt hC.1 hC.2.1 d htg (fun c8 => ?_) (fun c8 => ?_)
      · first | exact hgo2 | exact absurd c8 hc | exact absurd c8 (by simpa [ce_vi] using hc) | exact absurd (Int32.not_lt.mp hc) (by simpa [ce_vi] using c8)
      · first | exact hgo2 | exact absurd c8 hc | exact absurd (Int32.not_le.mp c8) hc | exact absurd (by simpa [ce_vi] using hc) c8
  · cases h
theorem ok_icmp_ge {off : Int} {tgt : Nat} (d : decode cc pc = .ok (.if_icmp .ge off, 3)) (htg : (pc : Int) + off = (tgt : Int)) : ce_OK own nm cc nL ret ht pc (ce_icmp false false true tgt (pc + 3)) := by
  intro z p l e R s m args below meth c Q ad0 n0 hC L G S h hS ad ls H locs kc ks h1 h2 hl hI hv k1 k2
  obtain ⟨lo, st⟩ := L
  simp only [ce_icmp] at h
  split at h
  · rename_i b a r
    obtain ⟨x, hx, e1, e2, hs, hp, hn⟩ := ce_jump_ok h hI.2.2.2
    have hgo := hS x hx
    obtain ⟨x1, x2, x3, x4⟩ := x
    dsimp only at e1 e2 hs hp hn hgo
    subst e1; subst e2
    have hpr : ce_pr z false a b ↔ ce_vi z a < ce_vi z b := by simp [ce_pr]
    have hgo2 := hgo ad ls H locs kc ks h1 h2 hl ⟨hI.1, hI.2.1, hI.2.2.1, hs⟩ hv k1 k2
    rw [hpr] at hp hn
    by_cases hc : ce_vi z a < ce_vi z b
    · have e9 := hp hc
      simp only [if_true, Bool.false_eq_true, if_false] at e9
      subst e9
      refine lv_icmp_ge hC.1 hC.2.1 d htg (fun c8 => ?_) (fun c8 => ?_)
      · first | exact hgo2 | exact absurd hc c8 | exact absurd c8 (by simpa [ce_vi] using hc) | exact absurd hc (Int32.not_lt.mpr c8)
      · first | exact hgo2 | exact absurd hc c8 | exact absurd (by simpa [ce_vi] using hc) c8 | exact absurd (Int32.not_le.mp c8) (by simpa [ce_vi] using hc)
    · have e9 := hn hc
      simp only [if_true, Bool.false_eq_true, if_false] at e9
      subst e9
      refine lv_icmp_ge hC.1 hC.2.1 d htg (fun c8 => ?_) (fun c8 => ?_)
      · first | exact hgo2 | exact absurd c8 hc | exact absurd c8 (by simpa [ce_vi] using hc) | exact absurd (Int32.not_lt.mp hc) (by simpa [ce_vi] using c8)
      · first | exact hgo2 | exact absurd c8 hc | exact absurd (Int32.not_le.mp c8) hc | exact absurd (by simpa [ce_vi] using hc) c8
  · cases h
theorem ok_if_ge {off : Int} {tgt : Nat} (d : decode cc pc = .ok (.ifCond .ge off, 3)) (htg : (pc : Int) + off = (tgt : Int)) : ce_OK own nm cc nL ret ht pc (ce_if false false true tgt (pc + 3)) := by
  intro z p l e R s m args below meth c Q ad0 n0 hC L G S h hS ad ls H locs kc ks h1 h2 hl hI hv k1 k2
  obtain ⟨lo, st⟩ := L
  simp only [ce_if] at h
  split at h
  · rename_i a r
    obtain ⟨x, hx, e1, e2, hs, hp, hn⟩ := ce_jump_ok h hI.2.2.2
    have hgo := hS x hx
    obtain ⟨x1, x2, x3, x4⟩ := x
    dsimp only at e1 e2 hs hp hn hgo
    subst e1; subst e2
    have hpr : ce_pr z false a (.inl 0) ↔ ce_vi z a < ce_vi z (.inl 0) := by simp [ce_pr]
    have hgo2 := hgo ad ls H locs kc ks h1 h2 hl ⟨hI.1, hI.2.1, hI.2.2.1, hs⟩ hv k1 k2
    rw [hpr] at hp hn
    by_cases hc : ce_vi z a < ce_vi z (.inl 0)
    · have e9 := hp hc
      simp only [if_true, Bool.false_eq_true, if_false] at e9
      subst e9
      refine lv_if_ge hC.1 hC.2.1 d htg (fun c8 => ?_) (fun c8 => ?_)
      · first | exact hgo2 | exact absurd hc c8 | exact absurd c8 (by simpa [ce_vi] using hc) | exact absurd hc (Int32.not_lt.mpr c8)
      · first | exact hgo2 | exact absurd hc c8 | exact absurd (by simpa [ce_vi] using hc) c8 | exact absurd (Int32.not_le.mp c8) (by simpa [ce_vi] using hc)
    · have e9 := hn hc
      simp only [if_true, Bool.false_eq_true, if_false] at e9
      subst e9
      refine lv_if_ge hC.1 hC.2.1 d htg (fun c8 => ?_) (fun c8 => ?_)
      · first | exact hgo2 | exact absurd c8 hc | exact absurd c8 (by simpa [ce_vi] using hc) | exact absurd (Int32.not_lt.mp hc) (by simpa [ce_vi] using c8)
      · first | exact hgo2 | exact absurd c8 hc | exact absurd (Int32.not_le.mp c8) hc | exact absurd (by simpa [ce_vi] using hc) c8
  · cases h
theorem ok_icmp_gt {off : Int} {tgt : Nat} (d : decode cc pc = .ok (.if_icmp .gt off, 3)) (htg : (pc : Int) + off = (tgt : Int)) : ce_OK own nm cc nL ret ht pc (ce_icmp false true false tgt (pc + 3)) := by
  intro z p l e R s m args below meth c Q ad0 n0 hC L G S h hS ad ls H locs kc ks h1 h2 hl hI hv k1 k2
  obtain ⟨lo, st⟩ := L
  simp only [ce_icmp] at h
  split at h
  · rename_i b a r
    obtain ⟨x, hx, e1, e2, hs, hp, hn⟩ := ce_jump_ok h hI.2.2.2
    have hgo := hS x hx
    obtain ⟨x1, x2, x3, x4⟩ := x
    dsimp only at e1 e2 hs hp hn hgo
    subst e1; subst e2
    have hpr : ce_pr z false b a ↔ ce_vi z b < ce_vi z a := by simp [ce_pr]
    have hgo2 := hgo ad ls H locs kc ks h1 h2 hl ⟨hI.1, hI.2.1, hI.2.2.1, hs⟩ hv k1 k2
    rw [hpr] at hp hn
    by_cases hc : ce_vi z b < ce_vi z a
    · have e9 := hp hc
      simp only [if_true, Bool.false_eq_true, if_false] at e9
      subst e9
      refine lv_icmp_gt hC.1 hC.2.1 d htg (fun c8 => ?_) (fun c8 => ?_)
      · first | exact hgo2 | exact absurd hc c8 | exact absurd c8 (by simpa [ce_vi] using hc) | exact absurd hc (Int32.not_lt.mpr c8)
      · first | exact hgo2 | exact absurd hc c8 | exact absurd (by simpa [ce_vi] using hc) c8 | exact absurd (Int32.not_le.mp c8) (by simpa [ce_vi] using hc)
    · have e9 := hn hc
      simp only [if_true, Bool.false_eq_true, if_false] at e9
      subst e9
      refine lv_icmp_gt hC.1 hC.2.1 d htg (fun c8 => ?_) (fun c8 => ?_)
      · first | exact hgo2 | exact absurd c8 hc | exact absurd c8 (by simpa [ce_vi] using hc) | exact absurd (Int32.not_lt.mp hc) (by simpa [ce_vi] using c8)
      · first | exact hgo2 | exact absurd c8 hc | exact absurd (Int32.not_le.mp c8) hc | exact absurd (by simpa [ce_vi] using hc) c8
  · cases h
theorem ok_if_gt {off : Int} {tgt : Nat} (d : decode cc pc = .ok (.ifCond .gt off, 3)) (htg : (pc : Int) + off = (tgt : Int)) : ce_OK own nm cc nL ret ht pc (ce_if false true false tgt (pc + 3)) := by
  intro z p l e R s m args below meth c Q ad0 n0 hC L G S h hS ad ls H locs kc ks h1 h2 hl hI hv k1 k2
  obtain ⟨lo, st⟩ := L
  simp only [ce_if] at h
  split at h
  · rename_i a r
    obtain ⟨x, hx, e1, e2, hs, hp, hn⟩ := ce_jump_ok h hI.2.2.2
    have hgo := hS x hx
    obtain ⟨x1, x2, x3, x4⟩ := x
    dsimp only at e1 e2 hs hp hn hgo
    subst e1; subst e2
    have hpr : ce_pr z false (.inl 0) a ↔ ce_vi z (.inl 0) < ce_vi z a := by simp [ce_pr]
    have hgo2 := hgo ad ls H locs kc ks h1 h2 hl ⟨hI.1, hI.2.1, hI.2.2.1, hs⟩ hv k1 k2
    rw [hpr] at hp hn
    by_cases hc : ce_vi z (.inl 0) < ce_vi z a
    · have e9 := hp hc
      simp only [if_true, Bool.false_eq_true, if_false] at e9
      subst e9
      refine lv_if_gt hC.1 hC.2.1 d htg (fun c8 => ?_) (fun c8 => ?_)
      · first | exact hgo2 | exact absurd hc c8 | exact absurd c8 (by simpa [ce_vi] using hc) | exact absurd hc (Int32.not_lt.mpr c8)
      · first | exact hgo2 | exact absurd hc c8 | exact absurd (by simpa [ce_vi] using hc) c8 | exact absurd (Int32.not_le.mp c8) (by simpa [ce_vi] using hc)
    · have e9 := hn hc
      simp only [if_true, Bool.false_eq_true, if_false] at e9
      subst e9
      refine lv_if_gt hC.1 hC.2.1 d htg (fun c8 => ?_) (fun c8 => ?_)
      · first | exact hgo2 | exact absurd c8 hc | exact absurd c8 (by simpa [ce_vi] using hc) | exact absurd (Int32.not_lt.mp hc) (by simpa [ce_vi] using c8)
      · first | exact hgo2 | exact absurd c8 hc | exact absurd (Int32.not_le.mp c8) hc | exact absurd (by simpa [ce_vi] using hc) c8
  · cases h
theorem ok_icmp_le {off : Int} {tgt : Nat} (d : decode cc pc = .ok (.if_icmp .le off, 3)) (htg : (pc : Int) + off = (tgt : Int)) : ce_OK own nm cc nL ret ht pc (ce_icmp false true true tgt (pc + 3)) := by
  intro z p l e R s m args below meth c Q ad0 n0 hC L G S h hS ad ls H locs kc ks h1 h2 hl hI hv k1 k2
  obtain ⟨lo, st⟩ := L
  simp only [ce_icmp] at h
  split at h
  · rename_i b a r
    obtain ⟨x, hx, e1, e2, hs, hp, hn⟩ := ce_jump_ok h hI.2.2.2
    have hgo := hS x hx
    obtain ⟨x1, x2, x3, x4⟩ := x
    dsimp only at e1 e2 hs hp hn hgo
    subst e1; subst e2
    have hpr : ce_pr z false b a ↔ ce_vi z b < ce_vi z a := by simp [ce_pr]
    have hgo2 := hgo ad ls H locs kc ks h1 h2 hl ⟨hI.1, hI.2.1, hI.2.2.1, hs⟩ hv k1 k2
    rw [hpr] at hp hn
    by_cases hc : ce_vi z b < ce_vi z a
    · have e9 := hp hc
      simp only [if_true, Bool.false_eq_true, if_false] at e9
      subst e9
      refine lv_icmp_le hC.1 hC.2.1 d htg (fun c8 => ?_) (fun c8 => ?_)
      · first | exact hgo2 | exact absurd hc c8 | exact absurd c8 (by simpa [ce_vi] using hc) | exact absurd hc (Int32.not_lt.mpr c8)
      · first | exact hgo2 | exact absurd hc c8 | exact absurd (by simpa [ce_vi] using hc) c8 | exact absurd (Int32.not_le.mp c8) (by simpa [ce_vi] using hc)
    · have e9 := hn hc
      simp only [if_true, Bool.false_eq_true, if_false] at e9
      subst e9
      refine lv_icmp_le hC.1 hC.2.1 d htg (fun c8 => ?_) (fun c8 => ?_)
      · first | exact hgo2 | exact absurd c8 hc | exact absurd c8 (by simpa [ce_vi] using hc) | exact absurd (Int32.not_lt.mp hc) (by simpa [ce_vi] using c8)
      · first | exact hgo2 | exact absurd c8 hc | exact absurd (Int32.not_le.mp c8) hc | exact absurd (by simpa [ce_vi] using hc) c8
  · cases h
theorem ok_if_le {off : Int} {tgt : Nat} (d : decode cc pc = .ok (.ifCond .le off, 3)) (htg : (pc : Int) + off = (tgt : Int)) : ce_OK own nm cc nL ret ht pc (ce_if false true true tgt (pc + 3)) := by
  intro z p l e R s m args below meth c Q ad0 n0 hC L G S h hS ad ls H locs kc ks h1 h2 hl hI hv k1 k2
  obtain ⟨lo, st⟩ := L
  simp only [ce_if] at h
  split at h
  · rename_i a r
    obtain ⟨x, hx, e1, e2, hs, hp, hn⟩ := ce_jump_ok h hI.2.2.2
    have hgo := hS x hx
    obtain ⟨x1, x2, x3, x4⟩ := x
    dsimp only at e1 e2 hs hp hn hgo
    subst e1; subst e2
    have hpr : ce_pr z false (.inl 0) a ↔ ce_vi z (.inl 0) < ce_vi z a := by simp [ce_pr]
    have hgo2 := hgo ad ls H locs kc ks h1 h2 hl ⟨hI.1, hI.2.1, hI.2.2.1, hs⟩ hv k1 k2
    rw [hpr] at hp hn
    by_cases hc : ce_vi z (.inl 0) < ce_vi z a
    · have e9 := hp hc
      simp only [if_true, Bool.false_eq_true, if_false] at e9
      subst e9
      refine lv_if_le hC.1 hC.2.1 d htg (fun c8 => ?_) (fun c8 => ?_)
      · first | exact hgo2 | exact absurd hc c8 | exact absurd c8 (by simpa [ce_vi] using hc) | exact absurd hc (Int32.not_lt.mpr c8)
      · first | exact hgo2 | exact absurd hc c8 | exact absurd (by simpa [ce_vi] using hc) c8 | exact absurd (Int32.not_le.mp c8) (by simpa [ce_vi] using hc)
    · have e9 := hn hc
      simp only [if_true, Bool.false_eq_true, if_false] at e9
      subst e9
      refine lv_if_le hC.1 hC.2.1 d htg (fun c8 => ?_) (fun c8 => ?_)
      · first | exact hgo2 | exact absurd c8 hc | exact absurd c8 (by simpa [ce_vi] using hc) | exact absurd (Int32.not_lt.mp hc) (by simpa [ce_vi] using c8)
      · first | exact hgo2 | exact absurd c8 hc | exact absurd (Int32.not_le.mp c8) hc | exact absurd (by simpa [ce_vi] using hc) c8
  · cases h
end Ops
