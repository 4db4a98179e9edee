/-! calls: what a method gives for a state, what a call does with it, and the runner -/
abbrev ce_O : Type := Option ce_SV ⊕ Nat
abbrev ce_R : Type := List (ce_O × ce_G)
abbrev ce_C : Type := List ce_SV → ce_G → Option ce_R
abbrev ce_Y : Type := List (Nat × ce_L × ce_G)
abbrev ce_N : Type := ce_L → ce_G → Option (ce_R × ce_Y)
def ce_ex : Nat → String
  | 0 => "java/lang/IllegalArgumentException"
  | 1 => "java/lang/IndexOutOfBoundsException"
  | 2 => "java/util/NoSuchElementException"
  | _ => "java/lang/UnsupportedOperationException"
def ce_Pc (z : ce_U) (ad : Nat → Nat) (avs : List ce_SV) (G : ce_G) : Array Value → State → Prop := fun a U => a = (avs.map (ce_v z ad)).toArray ∧ ce_CK z U ∧ ce_Inv z ad G U.heap
def ce_B (z : ce_U) (ad : Nat → Nat) (n0 : Nat) (G : ce_G) (ad' : Nat → Nat) (H : Heap) : Prop := (∀ k, k < n0 → ad' k = ad k) ∧ n0 ≤ G.2.1.length ∧ ce_Inv z ad' G H
def ce_Qc (z : ce_U) (ad : Nat → Nat) (n0 : Nat) (S : ce_R) : Array Value → State → Outcome → State → Prop := fun _ st oc t => (∃ (o : Option ce_SV) (G : ce_G) (ad' : Nat → Nat), ((Sum.inl o : ce_O), G) ∈ S ∧ oc = .returned (o.map (ce_v z ad')) ∧ ce_B z ad n0 G ad' t.heap) ∧ va_F (ce_A z) st t
def ce_XC (z : ce_U) (ad : Nat → Nat) (n0 : Nat) (S : ce_R) : String → State → State → Prop := fun E st t => (∃ (k : Nat) (G : ce_G) (ad' : Nat → Nat), ((Sum.inr k : ce_O), G) ∈ S ∧ E = ce_ex k ∧ ce_B z ad n0 G ad' t.heap) ∧ va_F (ce_A z) st t
def ce_Qm (z : ce_U) (R : Room) (s : State) (args : Array Value) (below : List Frame) (ad0 : Nat → Nat) (n0 : Nat) (T : ce_R) : State → Prop := vx_MQ below (ce_Qc z ad0 n0 T) (ce_XC z ad0 n0 T) args s R.cells R.slots (ce_A z)
theorem ce_Pc_blind {z : ce_U} {ad : Nat → Nat} {avs : List ce_SV} {G : ce_G} : FrameBlind (ce_Pc z ad avs G) := fun _ _ _ _ h => ⟨h.1, ce_blind h.2.1, h.2.2⟩
theorem ce_gi2 {b : Cond} (h : b ∈ ce_GW) : GoodIn ce_GW (b :: ce_GW) := by
  intro w hw
  have h2 : w ∈ ce_GW := by
    rcases List.mem_cons.mp hw with e | e
    · rw [e]; exact h
    · exact e
  exact ⟨h2, good_of_word (ce_good h2)⟩
theorem ce_gia {a ws : List Cond} (ha : ∀ w ∈ a, w ∈ ce_GW) (h : GoodIn ce_GW ws) : GoodIn ce_GW (a ++ ws) := by
  intro w hw
  rcases List.mem_append.mp hw with e | e
  · exact ⟨ha w e, good_of_word (ce_good (ha w e))⟩
  · exact h w e
/-- pop n values, the first one told first -/
def ce_take : Nat → List ce_SV → List ce_SV → Option (List ce_SV × List ce_SV)
  | 0, st, acc => some (acc, st)
  | _ + 1, [], _ => none
  | n + 1, v :: st, acc => ce_take n st (v :: acc)
theorem ce_take_ok : ∀ (n : Nat) (st acc as r : List ce_SV), ce_take n st acc = some (as, r) → ∃ b, as = b.reverse ++ acc ∧ st = b ++ r ∧ b.length = n
  | 0, st, acc, as, r, h => by cases h; exact ⟨[], rfl, rfl, rfl⟩
  | n + 1, [], acc, as, r, h => by cases h
  | n + 1, v :: st, acc, as, r, h => by
    obtain ⟨b, h1, h2, h3⟩ := ce_take_ok n st (v :: acc) as r h
    exact ⟨v :: b, by rw [h1]; simp, by rw [h2]; rfl, by simp [h3]⟩
theorem ce_take_st {n : Nat} {st as r : List ce_SV} (h : ce_take n st [] = some (as, r)) : st = as.reverse ++ r ∧ as.length = n := by
  obtain ⟨b, h1, h2, h3⟩ := ce_take_ok n st [] as r h
  rw [List.append_nil] at h1
  exact ⟨by rw [h1, List.reverse_reverse]; exact h2, by rw [h1, List.length_reverse]; exact h3⟩
def ce_wt : List ce_SV → Nat
  | [] => 0
  | v :: r => (match ce_c2 v with | true => 2 | false => 1) + ce_wt r
theorem ce_cat2 (v : Value) : v.category ≤ 2 := by cases v <;> first | exact Nat.le_succ 1 | exact Nat.le_refl 2
theorem ce_wt_ok {z : ce_U} {s : State} (h : ce_CK z s) {ad : Nat → Nat} : ∀ r : List ce_SV, ((r.map (ce_v z ad)).map fun v => v.category).sum ≤ ce_wt r
  | [] => Nat.le_refl _
  | v :: r => by
    have ih := ce_wt_ok h (ad := ad) r
    simp only [List.map_cons, List.sum_cons, ce_wt]
    split
    · have := ce_cat2 (ce_v z ad v); omega
    · rename_i hb; have := ce_cat h (ad := ad) hb; omega
/-- a run of a callee, to the pc behind -/
def ce_Rn (nx : Nat) (p : Program) (l : Launch) (e : Env) (R : Room) (s : State) (m : MethodId) (args : Array Value) (below : List Frame) (meth : Method) (c : Code) (H : Heap) (locs : List Loc) (cells slots mc ms : Nat) (g : JFrame) (rest : List Value) (Qa : State → Outcome → State → Prop) (XC : String → State → State → Prop) (free : Addr → Prop) : Prop :=
  ∀ T : State, T.heap = H → Stand p l e R s m args below meth c T locs cells slots →
    (∃ (v : Option Value) (st₀ t T' : State) (L : List Loc), st₀.heap = H ∧ Stand p l e R s m args below meth c T' (locs ++ L) (cells + mc) (slots + ms) ∧ (∀ q ∈ L, free q.base) ∧ T'.heap = t.heap ∧ T'.vm = t.vm ∧ Qa st₀ (.returned v) t ∧
      Goes p e below T g T' { g with pc := nx, stack := v.toList ++ rest }) ∨
    (∃ (q : Addr) (st₀ t T' : State) (L : List Loc) (E : String) (ce : Cell), st₀.heap = H ∧ Stand p l e R s m args below meth c T' (locs ++ L) (cells + mc) (slots + ms) ∧ (∀ z ∈ L, free z.base) ∧ T'.heap = t.heap ∧ T'.vm = t.vm ∧ XC E st₀ t ∧ t.heap[q]? = some ce ∧ ce.vm = .none ∧ s.vm.findClass E = some ce.cls ∧
      Steps p.tables e below (T.setTop g) ((T'.setTop { g with stack := rest }).pushFrame (.throwing q)))
theorem ce_after {p : Program} {l : Launch} {e : Env} {R : Room} {s : State} {m : MethodId} {args : Array Value} {below : List Frame} {meth : Method} {c : Code} {H : Heap} {locs : List Loc} {cells slots : Nat} {Q : State → Prop} {mc ms pc nx n : Nat} {ls : Array Slot} {st0 rest : List Value} {z : ce_U} {ad : Nat → Nat} {S : ce_R} {aa : Array Value}
    (hr : ce_Rn nx p l e R s m args below meth c H locs cells slots mc ms (F0 m pc ls st0) rest (ce_Qc z ad n S aa) (ce_XC z ad n S) (ce_A z)) (hS : va_S (ce_A z) s.heap H locs)
    (kx : ∀ (k : Nat) (G : ce_G) (ad' : Nat → Nat) (H1 : Heap) (locs1 : List Loc) (ce : Cell) (q9 : Addr), ((Sum.inr k : ce_O), G) ∈ S → ce_B z ad n G ad' H1 → va_S (ce_A z) s.heap H1 locs1 → H1[q9]? = some ce → ce.vm = .none → s.vm.findClass (ce_ex k) = some ce.cls → vx_W p l e R s m args below meth c H1 locs1 (cells + mc) (slots + ms) Q (F0 m pc ls rest) q9)
    (kk : ∀ (o : Option ce_SV) (G : ce_G) (ad' : Nat → Nat) (H1 : Heap) (locs1 : List Loc), ((Sum.inl o : ce_O), G) ∈ S → ce_B z ad n G ad' H1 → va_S (ce_A z) s.heap H1 locs1 → W p l e R s m args below meth c H1 locs1 (cells + mc) (slots + ms) Q (F0 m nx ls ((o.map (ce_v z ad')).toList ++ rest))) : W p l e R s m args below meth c H locs cells slots Q (F0 m pc ls st0) := by
  intro T hT X
  rcases hr T hT X with ⟨v, st₀, t, T', L, h0, X', hL, e1, e2, ⟨⟨o, G, ad', hm, hv, hB⟩, hF⟩, st⟩ | ⟨q, st₀, t, T', L, E, ce, h0, X', hL, e1, e2, ⟨⟨k, G, ad', hm, hE, hB⟩, hF⟩, hce, hcv, hcl, st⟩
  · cases hv
    obtain ⟨k1, k2, k3⟩ := vx_keep h0 e1 hS (fun _ _ h => h) (fun _ h => h) hL hF
    obtain ⟨t2, a1, b1⟩ := kk o G ad' T'.heap (locs ++ L) hm (by rw [e1]; exact hB) k3 T' rfl X'
    exact ⟨t2, st t2 a1, b1⟩
  · subst hE
    obtain ⟨k1, k2, k3⟩ := vx_keep h0 e1 hS (fun _ _ h => h) (fun _ h => h) hL hF
    obtain ⟨t2, a1, b1⟩ := kx k G ad' T'.heap (locs ++ L) ce q hm (by rw [e1]; exact hB) k3 (by rw [e1]; exact hce) hcv hcl T' rfl X'
    exact ⟨t2, st.trans a1, b1⟩
section Call
variable {own nm : String} {cc : ByteArray} {nL : Nat} {ret : Option FieldType} {ht pc : Nat} {hh : Option (List (Nat × Nat × Nat × Nat))}
theorem ce_mono {p : Program} {l : Launch} {e : Env} {R : Room} {s : State} {m : MethodId} {args : Array Value} {below : List Frame} {meth : Method} {c : Code} {H : Heap} {locs : List Loc} {cells slots : Nat} {Q Q2 : State → Prop} {g : JFrame} (h : ∀ t, Q t → Q2 t) (k : W p l e R s m args below meth c H locs cells slots Q g) : W p l e R s m args below meth c H locs cells slots Q2 g := fun T hT X => by
  obtain ⟨t, a, b⟩ := k T hT X
  exact ⟨t, a, h t b⟩
theorem ce_monoX {p : Program} {l : Launch} {e : Env} {R : Room} {s : State} {m : MethodId} {args : Array Value} {below : List Frame} {meth : Method} {c : Code} {H : Heap} {locs : List Loc} {cells slots : Nat} {Q Q2 : State → Prop} {g : JFrame} {q9 : Addr} (h : ∀ t, Q t → Q2 t) (k : vx_W p l e R s m args below meth c H locs cells slots Q g q9) : vx_W p l e R s m args below meth c H locs cells slots Q2 g q9 := fun T hT X => by
  obtain ⟨t, a, b⟩ := k T hT X
  exact ⟨t, a, h t b⟩
/-- what a step of any kind owes: outcomes of the method, and states that it goes on from -/
def ce_OKN (own nm : String) (cc : ByteArray) (nL : Nat) (ret : Option FieldType) (ht : Nat) (hh : Option (List (Nat × Nat × Nat × Nat))) (pc : Nat) (f : ce_N) : Prop :=
  ∀ {z : ce_U} {p : Program} {l : Launch} {e : Env} {R : Room} {s : State} {m : MethodId} {args : Array Value} {below : List Frame} {meth : Method} {c : Code} {ad0 : Nat → Nat} {n0 : Nat},
    ce_CX z p l R s m args meth c own nm cc nL ret ht → (∀ h, hh = some h → c.exceptionTable.toList = tableOf h) → ∀ (T : ce_R) (Q : State → Prop) (_ : ∀ t, ce_Qm z R s args below ad0 n0 T t → Q t) (L : ce_L) (G : ce_G) (X : ce_R) (Y : ce_Y), f L G = some (X, Y) → (∀ x ∈ X, x ∈ T) →
      (∀ y ∈ Y, ce_WS z p l e R s m args below meth c Q nL ad0 n0 y.1 y.2.1 y.2.2) → ce_WS z p l e R s m args below meth c Q nL ad0 n0 pc L G
def ce_li (f : ce_P) : ce_N := fun L G => match f L G with
  | some S => some ([], S)
  | none => none
theorem ok_li {f : ce_P} (h : ce_OK own nm cc nL ret ht pc f) : ce_OKN own nm cc nL ret ht hh pc (ce_li f) := by
  intro z p l e R s m args below meth c ad0 n0 hC hT T Q hQ L G X Y hf hX hY
  simp only [ce_li] at hf
  split at hf
  · rename_i S hS
    cases hf
    exact h hC L G _ hS hY
  · cases hf
/-- a return -/
def ce_ret0 : ce_N := fun L G => match L.2 with
  | [] => some ([(.inl none, G)], [])
  | _ => none
def ce_ret1 (ty : FieldType) : ce_N := fun L G => match L.2 with
  | [v] => match ce_fit ty v with
    | true => some ([(.inl (some v), G)], [])
    | false => none
  | _ => none
theorem ok_ret0 (d : decode cc pc = .ok (.return_, 1)) (hr : ret = none) : ce_OKN own nm cc nL ret ht hh pc ce_ret0 := by
  intro z p l e R s m args below meth c ad0 n0 hC hT T Q hQ L G X Y hf hX hY ad ls H locs kc ks h1 h2 hl hI hv k1 k2
  obtain ⟨lo, st⟩ := L
  simp only [ce_ret0] at hf
  split at hf
  · cases hf
    refine ce_mono hQ (W.widen (k := R.cells) (n := R.slots) (by omega) (by omega) (vx_ret ?_))
    exact W.vret hC.1 hC.2.1 (hC.2.2.2.2.2.2.1.trans hr) (fun t ht9 hW => ⟨⟨none, G, ad, hX _ (List.mem_singleton.mpr rfl), rfl, h1, h2, by rw [ht9]; exact hI⟩, hv.F ht9⟩) hv.2.2 d hC.2.2.2.2.2.2.2.1
  · cases hf
def ce_reti (ty : FieldType) : ce_N := fun L G => match L.2 with
  | .inl _ :: _ => ce_ret1 ty L G
  | _ => none
theorem ok_reti {ty : FieldType} (d : decode cc pc = .ok (.ireturn, 1)) (hr : ret = some ty) : ce_OKN own nm cc nL ret ht hh pc (ce_reti ty) := by
  intro z p l e R s m args below meth c ad0 n0 hC hT T Q hQ L G X Y hf hX hY ad ls H locs kc ks h1 h2 hl hI hv k1 k2
  obtain ⟨lo, st⟩ := L
  simp only [ce_reti, ce_ret1] at hf
  split at hf
  · rename_i i r
    split at hf
    · rename_i v hst
      split at hf
      · rename_i hfit
        cases hf
        obtain ⟨rfl, rfl⟩ := List.cons.inj hst
        refine ce_mono hQ (W.widen (k := R.cells) (n := R.slots) (by omega) (by omega) (vx_ret ?_))
        exact W.zret (v := ce_vi z i) hC.1 hC.2.1 (hC.2.2.2.2.2.2.1.trans hr) (ce_fit_ok (ce_CXK hC) (ad := ad) hfit).1 (fun t ht9 hW => ⟨⟨some (.inl i), G, ad, hX _ (List.mem_singleton.mpr rfl), rfl, h1, h2, by rw [ht9]; exact hI⟩, hv.F ht9⟩) hv.2.2 d hC.2.2.2.2.2.2.2.1
      · cases hf
    · cases hf
  · cases hf
def ce_retl : ce_N := fun L G => match L.2 with
  | .inr (.inl _) :: _ => ce_ret1 .long L G
  | _ => none
theorem ok_retl (d : decode cc pc = .ok (.lreturn, 1)) (hr : ret = some .long) : ce_OKN own nm cc nL ret ht hh pc ce_retl := by
  intro z p l e R s m args below meth c ad0 n0 hC hT T Q hQ L G X Y hf hX hY ad ls H locs kc ks h1 h2 hl hI hv k1 k2
  obtain ⟨lo, st⟩ := L
  simp only [ce_retl, ce_ret1] at hf
  split at hf
  · rename_i i r
    split at hf
    · rename_i v hst
      split at hf
      · rename_i hfit
        cases hf
        obtain ⟨rfl, rfl⟩ := List.cons.inj hst
        refine ce_mono hQ (W.widen (k := R.cells) (n := R.slots) (by omega) (by omega) (vx_ret ?_))
        exact W.lret (v := ce_vl z i) hC.1 hC.2.1 (hC.2.2.2.2.2.2.1.trans hr) (fun t ht9 hW => ⟨⟨some (.inr (.inl i)), G, ad, hX _ (List.mem_singleton.mpr rfl), rfl, h1, h2, by rw [ht9]; exact hI⟩, hv.F ht9⟩) hv.2.2 d hC.2.2.2.2.2.2.2.1
      · cases hf
    · cases hf
  · cases hf
def ce_isR2 : ce_SV → Bool
  | .inr (.inr (.inl (.inl _))) => true
  | .inr (.inr (.inl (.inr j))) => Nat.blt j 7
  | .inr (.inr (.inr .null)) => true
  | _ => false
theorem ce_isR2_ok {z : ce_U} {s : State} (hK : ce_CK z s) {ad : Nat → Nat} {v : ce_SV} (h : ce_isR2 v = true) : ce_v z ad v = .null ∨ ∃ a, ce_v z ad v = .ref a := by
  match v, h with
  | .inr (.inr (.inl (.inl k))), _ => exact Or.inr ⟨ad k, rfl⟩
  | .inr (.inr (.inl (.inr j))), h =>
    obtain ⟨a, ha⟩ := ce_ext hK j (Nat.lt_of_succ_le (Nat.le_of_ble_eq_true h))
    exact Or.inr ⟨a, ha⟩
  | .inr (.inr (.inr .null)), _ => exact Or.inl rfl
def ce_reta : ce_N := fun L G => match L.2 with
  | [v] => match ce_isR2 v with
    | true => some ([(.inl (some v), G)], [])
    | false => none
  | _ => none
theorem ok_reta {rt : FieldType} (d : decode cc pc = .ok (.areturn, 1)) (hr : ret = some rt) (hrt : (∃ n, rt = .object n) ∨ ∃ t, rt = .array t) : ce_OKN own nm cc nL ret ht hh pc ce_reta := by
  intro z p l e R s m args below meth c ad0 n0 hC hT T Q hQ L G X Y hf hX hY ad ls H locs kc ks h1 h2 hl hI hv k1 k2
  obtain ⟨lo, st⟩ := L
  simp only [ce_reta] at hf
  split at hf
  · rename_i v0 v
    split at hf
    · rename_i hfit
      cases hf
      refine ce_mono hQ (W.widen (k := R.cells) (n := R.slots) (by omega) (by omega) (vx_ret ?_))
      exact W.aret (v := ce_v z ad v) hC.1 hC.2.1 (hC.2.2.2.2.2.2.1.trans hr) hrt (ce_isR2_ok (ce_CXK hC) hfit) (fun t ht9 hW => ⟨⟨some v, G, ad, hX _ (List.mem_singleton.mpr rfl), rfl, h1, h2, by rw [ht9]; exact hI⟩, hv.F ht9⟩) hv.2.2 d hC.2.2.2.2.2.2.2.1
    · cases hf
  · cases hf
def ce_retc (k : Value) : ce_N := fun L G => match L.2 with
  | [.inr (.inr (.inr v))] => match decide (v = k) with
    | true => some ([(.inl (some (.inr (.inr (.inr v)))), G)], [])
    | false => none
  | _ => none
theorem ok_retf {x : UInt32} (d : decode cc pc = .ok (.freturn, 1)) (hr : ret = some .float) : ce_OKN own nm cc nL ret ht hh pc (ce_retc (.float x)) := by
  intro z p l e R s m args below meth c ad0 n0 hC hT T Q hQ L G X Y hf hX hY ad ls H locs kc ks h1 h2 hl hI hv k1 k2
  obtain ⟨lo, st⟩ := L
  simp only [ce_retc] at hf
  split at hf
  · rename_i v0 v
    split at hf
    · rename_i hfit
      cases hf
      have hfit := of_decide_eq_true hfit
      subst hfit
      refine ce_mono hQ (W.widen (k := R.cells) (n := R.slots) (by omega) (by omega) (vx_ret ?_))
      exact W.fret (v := x) hC.1 hC.2.1 (hC.2.2.2.2.2.2.1.trans hr) (fun t ht9 hW => ⟨⟨some (.inr (.inr (.inr (.float x)))), G, ad, hX _ (List.mem_singleton.mpr rfl), rfl, h1, h2, by rw [ht9]; exact hI⟩, hv.F ht9⟩) hv.2.2 d hC.2.2.2.2.2.2.2.1
    · cases hf
  · cases hf
theorem ok_retd {x : UInt64} (d : decode cc pc = .ok (.dreturn, 1)) (hr : ret = some .double) : ce_OKN own nm cc nL ret ht hh pc (ce_retc (.double x)) := by
  intro z p l e R s m args below meth c ad0 n0 hC hT T Q hQ L G X Y hf hX hY ad ls H locs kc ks h1 h2 hl hI hv k1 k2
  obtain ⟨lo, st⟩ := L
  simp only [ce_retc] at hf
  split at hf
  · rename_i v0 v
    split at hf
    · rename_i hfit
      cases hf
      have hfit := of_decide_eq_true hfit
      subst hfit
      refine ce_mono hQ (W.widen (k := R.cells) (n := R.slots) (by omega) (by omega) (vx_ret ?_))
      exact W.dret (v := x) hC.1 hC.2.1 (hC.2.2.2.2.2.2.1.trans hr) (fun t ht9 hW => ⟨⟨some (.inr (.inr (.inr (.double x)))), G, ad, hX _ (List.mem_singleton.mpr rfl), rfl, h1, h2, by rw [ht9]; exact hI⟩, hv.F ht9⟩) hv.2.2 d hC.2.2.2.2.2.2.2.1
    · cases hf
  · cases hf
def ce_drop (i : Nat) (L : List (Nat × ce_SV)) : List (Nat × ce_SV) := L.filter fun x => !(Nat.beq x.1 i) && !(Nat.beq (x.1 + 1) i && ce_c2 x.2)
/-- what a call goes on with -/
def ce_out (L : List (Nat × ce_SV)) (rest : List ce_SV) (r q nx : Nat) (ca : (Nat × Nat × Nat) ⊕ Bool) : ce_R → Option (ce_R × ce_Y)
  | [] => some ([], [])
  | (o, G) :: t => match ce_out L rest r q nx ca t with
    | none => none
    | some XY => match o with
      | .inl none => some (XY.1, (nx, (L, rest), (G.1, G.2.1, r, q)) :: XY.2)
      | .inl (some v) => some (XY.1, (nx, (L, v :: rest), (G.1, G.2.1, r, q)) :: XY.2)
      | .inr k => match ca with
        | .inr true => some ((.inr k, G) :: XY.1, XY.2)
        | .inr false => none
        | .inl h => match Nat.beq k h.1 with
          | true => some (XY.1, (h.2.1, (ce_drop h.2.2 L, []), (G.1, G.2.1, r, q)) :: XY.2)
          | false => none
theorem ce_out_ok {L : List (Nat × ce_SV)} {rest : List ce_SV} {r q nx : Nat} {ca : (Nat × Nat × Nat) ⊕ Bool} : ∀ (S : ce_R) (X : ce_R) (Y : ce_Y), ce_out L rest r q nx ca S = some (X, Y) →
    (∀ G, ((Sum.inl none : ce_O), G) ∈ S → (nx, (L, rest), (G.1, G.2.1, r, q)) ∈ Y) ∧ (∀ v G, ((Sum.inl (some v) : ce_O), G) ∈ S → (nx, (L, v :: rest), (G.1, G.2.1, r, q)) ∈ Y) ∧
    (∀ k G, ((Sum.inr k : ce_O), G) ∈ S → (ca = .inr true ∧ ((Sum.inr k : ce_O), G) ∈ X) ∨ ∃ h, ca = .inl h ∧ k = h.1 ∧ (h.2.1, (ce_drop h.2.2 L, []), (G.1, G.2.1, r, q)) ∈ Y)
  | [], X, Y, h => ⟨fun _ h => (nomatch h), fun _ _ h => (nomatch h), fun _ _ h => (nomatch h)⟩
  | (o, G0) :: t, X, Y, h => by
    simp only [ce_out] at h
    split at h
    · cases h
    · rename_i XY hXY
      obtain ⟨i1, i2, i3⟩ := ce_out_ok t XY.1 XY.2 hXY
      split at h
      · cases h
        refine ⟨fun G hG => ?_, fun v G hG => ?_, fun k G hG => ?_⟩
        · rcases List.mem_cons.mp hG with e | e
          · cases e; exact List.mem_cons_self
          · exact List.mem_cons_of_mem _ (i1 G e)
        · rcases List.mem_cons.mp hG with e | e
          · cases e
          · exact List.mem_cons_of_mem _ (i2 v G e)
        · rcases List.mem_cons.mp hG with e | e
          · cases e
          · rcases i3 k G e with a | ⟨h, a1, a2, a3⟩
            · exact Or.inl a
            · exact Or.inr ⟨h, a1, a2, List.mem_cons_of_mem _ a3⟩
      · cases h
        refine ⟨fun G hG => ?_, fun v G hG => ?_, fun k G hG => ?_⟩
        · rcases List.mem_cons.mp hG with e | e
          · cases e
          · exact List.mem_cons_of_mem _ (i1 G e)
        · rcases List.mem_cons.mp hG with e | e
          · cases e; exact List.mem_cons_self
          · exact List.mem_cons_of_mem _ (i2 v G e)
        · rcases List.mem_cons.mp hG with e | e
          · cases e
          · rcases i3 k G e with a | ⟨h, a1, a2, a3⟩
            · exact Or.inl a
            · exact Or.inr ⟨h, a1, a2, List.mem_cons_of_mem _ a3⟩
      · rename_i k0
        split at h
        · rename_i hca
          cases h
          refine ⟨fun G hG => ?_, fun v G hG => ?_, fun k G hG => ?_⟩
          · rcases List.mem_cons.mp hG with e | e
            · cases e
            · exact i1 G e
          · rcases List.mem_cons.mp hG with e | e
            · cases e
            · exact i2 v G e
          · rcases List.mem_cons.mp hG with e | e
            · cases e; exact Or.inl ⟨rfl, List.mem_cons_self⟩
            · rcases i3 k G e with a | ⟨h, a1, a2, a3⟩
              · exact Or.inl ⟨rfl, List.mem_cons_of_mem _ a.2⟩
              · cases a1
        · cases h
        · rename_i h9
          split at h
          · rename_i hb
            cases h
            refine ⟨fun G hG => ?_, fun v G hG => ?_, fun k G hG => ?_⟩
            · rcases List.mem_cons.mp hG with e | e
              · cases e
              · exact List.mem_cons_of_mem _ (i1 G e)
            · rcases List.mem_cons.mp hG with e | e
              · cases e
              · exact List.mem_cons_of_mem _ (i2 v G e)
            · rcases List.mem_cons.mp hG with e | e
              · cases e; exact Or.inr ⟨h9, rfl, Nat.eq_of_beq_eq_true hb, List.mem_cons_self⟩
              · rcases i3 k G e with a | ⟨h, a1, a2, a3⟩
                · cases a.1
                · exact Or.inr ⟨h, a1, a2, List.mem_cons_of_mem _ a3⟩
          · cases h
def ce_ck (L : List (Nat × ce_SV)) (rest : List ce_SV) (n mc ms r q : Nat) : Bool := Nat.ble (ce_wt rest) 8 && (Nat.ble mc r && (Nat.ble ms q && (L.all (fun x => ce_wv n x.2) && rest.all (ce_wv n))))
def ce_call (na mc ms nx : Nat) (ca : (Nat × Nat × Nat) ⊕ Bool) (F : ce_C) : ce_N := fun L G => match ce_take na L.2 [] with
  | none => none
  | some ar => match ce_ck L.1 ar.2 G.2.1.length mc ms G.2.2.1 G.2.2.2 with
    | false => none
    | true => match F ar.1 G with
      | none => none
      | some S => ce_out L.1 ar.2 (G.2.2.1 - mc) (G.2.2.2 - ms) nx ca S
/-- the call's run, whatever its kind -/
def ce_RU (own nm : String) (cc : ByteArray) (nL : Nat) (ret : Option FieldType) (ht pc na mc ms nx : Nat) (F : ce_C) : Prop :=
  ∀ {z : ce_U} {p : Program} {l : Launch} {e : Env} {R : Room} {s : State} {m : MethodId} {args : Array Value} {below : List Frame} {meth : Method} {c : Code}, ce_CX z p l R s m args meth c own nm cc nL ret ht →
    ∀ (ad : Nat → Nat) (as rest : List ce_SV) (G : ce_G) (S : ce_R) (ls : Array Slot) (H : Heap) (locs : List Loc) (kc ks : Nat), F as G = some S → as.length = na → ls.size = nL → ce_Inv z ad G H → va_S (ce_A z) s.heap H locs → ((rest.map (ce_v z ad)).map fun v => v.category).sum ≤ 8 → kc + mc ≤ R.cells → ks + ms ≤ R.slots →
      ∃ aa, ce_Rn nx p l e R s m args below meth c H locs kc ks mc ms (F0 m pc ls ((as.map (ce_v z ad)).reverse ++ rest.map (ce_v z ad))) (rest.map (ce_v z ad)) (ce_Qc z ad G.2.1.length S aa) (ce_XC z ad G.2.1.length S) (ce_A z)
/-- what catches at this pc, if anything does: the first row of the table, its handler's first step being a store -/
def ce_CA (own : String) (cc : ByteArray) (nL : Nat) (hh : Option (List (Nat × Nat × Nat × Nat))) (pc : Nat) : (Nat × Nat × Nat) ⊕ Bool → Prop
  | .inr true => hh = some []
  | .inr false => True
  | .inl h => ∃ (h0 : List (Nat × Nat × Nat × Nat)) (x : ExceptionTableEntry) (suf : List ExceptionTableEntry) (k : Fin 4), hh = some h0 ∧ tableOf h0 = x :: suf ∧ covers x pc = true ∧ x.catchType ≠ 0 ∧ Cond.classLink own x.catchType (ce_ex h.1) ∈ ce_GW ∧ Cond.castable (ce_ex h.1) (ce_ex h.1) ∈ ce_NG ∧ ((decode cc x.handlerPc = .ok (.astore_n k, 1) ∧ (k : Nat) = h.2.2 ∧ x.handlerPc + 1 = h.2.1) ∨ (decode cc x.handlerPc = .ok (.astore h.2.2, 2) ∧ x.handlerPc + 2 = h.2.1)) ∧ h.2.2 < nL
theorem ok_call {na mc ms nx : Nat} {ca : (Nat × Nat × Nat) ⊕ Bool} {F : ce_C} (hF : ce_RU own nm cc nL ret ht pc na mc ms nx F) (hca : ce_CA own cc nL hh pc ca) : ce_OKN own nm cc nL ret ht hh pc (ce_call na mc ms nx ca F) := by
  intro z p l e R s m args below meth c ad0 n0 hC hT T Q hQ L G X Y hf hX hY ad ls H locs kc ks h1 h2 hl hI hv k1 k2
  obtain ⟨lo, st⟩ := L
  simp only [ce_call] at hf
  split at hf
  · cases hf
  · rename_i ar har
    obtain ⟨as, rest⟩ := ar
    dsimp only at hf
    split at hf
    · cases hf
    · rename_i hck
      simp only [ce_ck, Bool.and_eq_true] at hck
      obtain ⟨b1, b2, b3, b4, b5⟩ := hck
      have b1 := Nat.le_of_ble_eq_true b1
      have b2 := Nat.le_of_ble_eq_true b2
      have b3 := Nat.le_of_ble_eq_true b3
      split at hf
      · cases hf
      · rename_i S hS
        obtain ⟨o1, o2, o3⟩ := ce_out_ok S X Y hf
        obtain ⟨est, elen⟩ := ce_take_st har
        subst est
        obtain ⟨aa, hr⟩ := hF hC (e := e) (below := below) ad as rest G S ls H locs kc ks hS elen hl.1 hI hv (Nat.le_trans (ce_wt_ok (ce_CXK hC) rest) b1) (by omega) (by omega)
        show W _ _ _ _ _ _ _ _ _ _ _ _ _ _ _ (F0 m pc ls ((as.reverse ++ rest).map (ce_v z ad)))
        rw [List.map_append, List.map_reverse]
        have hlo : ∀ (G1 : ce_G) (ad1 : Nat → Nat) (H1 : Heap), ce_B z ad G.2.1.length G1 ad1 H1 → lo.map (fun x => (x.1, ce_v z ad1 x.2)) = lo.map (fun x => (x.1, ce_v z ad x.2)) := fun G1 ad1 H1 hB => ce_loc_congr hB.1 b4
        have hre : ∀ (G1 : ce_G) (ad1 : Nat → Nat) (H1 : Heap), ce_B z ad G.2.1.length G1 ad1 H1 → rest.map (ce_v z ad1) = rest.map (ce_v z ad) := fun G1 ad1 H1 hB => ce_map_congr hB.1 b5
        refine ce_after hr hv (fun k G1 ad1 H1 locs1 ce q9 hm hB hv1 hce hcv hcl => ?_) (fun o G1 ad1 H1 locs1 hm hB hv1 => ?_)
        · rcases o3 k G1 hm with ⟨hn, hx⟩ | ⟨h, hca9, hk, hy⟩
          · subst hn
            have hT0 : c.exceptionTable.toList = [] := by rw [hT [] hca]; rfl
            refine ce_monoX hQ (vx_widen (k := R.cells) (n := R.slots) (by omega) (by omega) ?_)
            exact vx_out (by rw [hT0]; exact fun x hx => nomatch hx) hC.2.2.2.2.2.2.2.1 hce hcv hcl (fun t ht9 hW => ⟨⟨k, G1, ad1, hX _ hx, rfl, fun i hi => (hB.1 i (Nat.lt_of_lt_of_le hi h2)).trans (h1 i hi), Nat.le_trans h2 hB.2.1, by rw [ht9]; exact hB.2.2⟩, hv1.F ht9⟩) hv1.2.2 (Nat.le_refl _) (Nat.le_refl _)
          · subst hca9
            subst hk
            obtain ⟨hh0, x, suf, kk, t0, t1, t2, t3, t4, t5, t6, t10⟩ := hca
            refine vx_catch (name := ce_ex h.1) hC.2.2.2.1 [] x suf (by rw [hT hh0 t0, t1]; rfl) (fun z hz => nomatch hz) t2 t3 (hC.2.2.2.2.1 _ t4) (va_Nw.use rfl ((ce_CXK hC).2.2.2.1.1 _ t5)) hce hcv hcl ?_
            have hgo : ∀ ls' : Array Slot, lv_has ls' nL ((h.2.2, Value.ref q9) :: (lo.map (fun x => (x.1, ce_v z ad x.2))).filter (fun q => !(q.1 == h.2.2) && !(q.1 + 1 == h.2.2 && q.2.category == 2))) → W p l e R s m args below meth c H1 locs1 (kc + mc) (ks + ms) Q (F0 m h.2.1 ls' []) := fun ls' hl' => by
              refine hY _ hy ad1 ls' H1 locs1 (kc + mc) (ks + ms) (fun i hi => (hB.1 i (Nat.lt_of_lt_of_le hi h2)).trans (h1 i hi)) (Nat.le_trans h2 hB.2.1) (ce_has_sub hl' (fun y hy9 => ?_)) hB.2.2 hv1 (by dsimp only; omega) (by dsimp only; omega)
              obtain ⟨w, hw, rfl⟩ := List.mem_map.mp hy9
              obtain ⟨w1, w2⟩ := List.mem_filter.mp hw
              have e9 : (w.1, ce_v z ad1 w.2) = (w.1, ce_v z ad w.2) := by rw [ce_v_congr hB.1 (List.all_eq_true.mp b4 w w1)]
              rw [e9]
              refine List.mem_cons_of_mem _ (List.mem_filter.mpr ⟨List.mem_map.mpr ⟨w, w1, rfl⟩, ?_⟩)
              simp only [Bool.and_eq_true, Bool.not_eq_true'] at w2
              refine ce_f1 w2.1 (fun hb => ce_cat (ce_CXK hC) ?_)
              have w3 := w2.2
              rw [hb] at w3
              simpa using w3
            rcases t6 with ⟨t7, t8, t9⟩ | ⟨t7, t9⟩
            · refine lv_astore_n (lv := lo.map (fun x => (x.1, ce_v z ad x.2))) hC.1 hC.2.1 t7 t8 hl t10 rfl (fun ls' hl' => ?_)
              rw [t9]
              exact hgo ls' hl'
            · refine lv_astore (lv := lo.map (fun x => (x.1, ce_v z ad x.2))) hC.1 hC.2.1 t7 hl t10 rfl (fun ls' hl' => ?_)
              rw [t9]
              exact hgo ls' hl'
        · cases o with
          | none =>
            have hgo := hY _ (o1 G1 hm) ad1 ls H1 locs1 (kc + mc) (ks + ms) (fun i hi => (hB.1 i (Nat.lt_of_lt_of_le hi h2)).trans (h1 i hi)) (Nat.le_trans h2 hB.2.1) (by rw [hlo G1 ad1 H1 hB]; exact hl) hB.2.2 hv1 (by dsimp only; omega) (by dsimp only; omega)
            rw [hre G1 ad1 H1 hB] at hgo
            exact hgo
          | some v =>
            have hgo := hY _ (o2 v G1 hm) ad1 ls H1 locs1 (kc + mc) (ks + ms) (fun i hi => (hB.1 i (Nat.lt_of_lt_of_le hi h2)).trans (h1 i hi)) (Nat.le_trans h2 hB.2.1) (by rw [hlo G1 ad1 H1 hB]; exact hl) hB.2.2 hv1 (by dsimp only; omega) (by dsimp only; omega)
            rw [List.map_cons, hre G1 ad1 H1 hB] at hgo
            exact hgo
end Call
