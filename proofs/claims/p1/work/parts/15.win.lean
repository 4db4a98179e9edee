/-! a window on a long text: what is read in it is read so in the text -/
def ce_Wn (c w : ByteArray) (a : Nat) : Prop := ∀ p (h : p < w.size), ∃ h2 : a + p < c.size, c[a + p] = w[p]
def ce_T {α : Type} (c w : ByteArray) (a : Nat) (r r' : Jvm.ClassFile.Decoder α) : Prop := ∀ (p : Nat) (x : α) (q : Nat), r' w p = .ok (x, q) → r c (a + p) = .ok (x, a + q)
theorem ce_wn {c w : ByteArray} {a : Nat} (h : (c.data.toList.drop a).take w.data.toList.length = w.data.toList) : ce_Wn c w a := fun p hp => by
  have hp2 : p < w.data.toList.length := by rw [Array.length_toList]; exact hp
  have e : w.data.toList[p]? = some (w.data.toList[p]) := List.getElem?_eq_getElem hp2
  have e2 : ((c.data.toList.drop a).take w.data.toList.length)[p]? = some (w.data.toList[p]) := (congrArg (fun l => l[p]?) h).trans e
  rw [List.getElem?_take_of_lt hp2, List.getElem?_drop] at e2
  obtain ⟨h3, h4⟩ := List.getElem?_eq_some_iff.mp e2
  have h5 : a + p < c.data.size := by rw [Array.length_toList] at h3; exact h3
  refine ⟨h5, ?_⟩
  show c.data[a + p] = w.data[p]
  rw [← Array.getElem_toList h5, h4, Array.getElem_toList hp]
theorem ce_Tpure {α : Type} {c w : ByteArray} {a : Nat} (x : α) : ce_T c w a (pure x) (pure x) := fun p y q h => by
  have h2 : (Except.ok (x, p) : Except Jvm.ClassFile.DecodeError (α × Nat)) = .ok (y, q) := h
  cases h2; rfl
theorem ce_brun {α β : Type} (r : Jvm.ClassFile.Decoder α) (f : α → Jvm.ClassFile.Decoder β) (c : ByteArray) (p : Nat) : (r >>= f) c p = Except.bind (r c p) (fun y => f y.1 c y.2) := rfl
theorem ce_Tbind {α β : Type} {c w : ByteArray} {a : Nat} {r r' : Jvm.ClassFile.Decoder α} {f f' : α → Jvm.ClassFile.Decoder β} (h1 : ce_T c w a r r') (h2 : ∀ x, ce_T c w a (f x) (f' x)) : ce_T c w a (r >>= f) (r' >>= f') := fun p y q h => by
  rw [ce_brun] at h ⊢
  cases hr : r' w p with
  | error e => rw [hr] at h; cases h
  | ok u => rw [hr] at h; rw [h1 p u.1 u.2 hr]; exact h2 u.1 u.2 y q h
theorem ce_Tmap {α β : Type} {c w : ByteArray} {a : Nat} {r r' : Jvm.ClassFile.Decoder α} (f : α → β) (h1 : ce_T c w a r r') : ce_T c w a (f <$> r) (f <$> r') := ce_Tbind h1 fun x => ce_Tpure (f x)
theorem ce_u1 (c : ByteArray) (p : Nat) : (Jvm.ClassFile.Reader.u1 : Jvm.ClassFile.Decoder Nat) c p = if h : p < c.size then .ok (c[p].toNat, p + 1) else .error (.truncated p) := by
  by_cases h : p < c.size
  · rw [dif_pos h]
    show (dite (p < c.size) _ _ : Jvm.ClassFile.Decoder Nat) c p = _
    rw [dif_pos h]; rfl
  · rw [dif_neg h]
    show (dite (p < c.size) _ _ : Jvm.ClassFile.Decoder Nat) c p = _
    rw [dif_neg h]; rfl
theorem ce_Tu1 {c w : ByteArray} {a : Nat} (hW : ce_Wn c w a) : ce_T c w a Jvm.ClassFile.Reader.u1 Jvm.ClassFile.Reader.u1 := fun p x q h => by
  rw [ce_u1] at h ⊢
  by_cases h1 : p < w.size
  · obtain ⟨h2, h3⟩ := hW p h1
    rw [dif_pos h1] at h
    rw [dif_pos h2, h3]
    cases h; rfl
  · rw [dif_neg h1] at h; cases h
theorem ce_Tu2 {c w : ByteArray} {a : Nat} (hW : ce_Wn c w a) : ce_T c w a Jvm.ClassFile.Reader.u2 Jvm.ClassFile.Reader.u2 := ce_Tbind (ce_Tu1 hW) fun _ => ce_Tbind (ce_Tu1 hW) fun _ => ce_Tpure _
theorem ce_Ts1 {c w : ByteArray} {a : Nat} (hW : ce_Wn c w a) : ce_T c w a Jvm.ClassFile.Reader.s1 Jvm.ClassFile.Reader.s1 := ce_Tmap _ (ce_Tu1 hW)
theorem ce_Ts2 {c w : ByteArray} {a : Nat} (hW : ce_Wn c w a) : ce_T c w a Jvm.ClassFile.Reader.s2 Jvm.ClassFile.Reader.s2 := ce_Tmap _ (ce_Tu2 hW)
def ce_wb (w : ByteArray) (p : Nat) : Option Nat := if h : p < w.size then some w[p].toNat else none
theorem ce_win {c w : ByteArray} {a pc v n : Nat} {ins : Instr} (hW : ce_Wn c w a) {K K' : Nat → Jvm.ClassFile.Decoder Instr} (e1 : Jvm.ClassFile.Decoder.instr (a + pc) = Jvm.ClassFile.Reader.u1 >>= K) (e2 : Jvm.ClassFile.Decoder.instr pc = Jvm.ClassFile.Reader.u1 >>= K') (hT : ce_T c w a (K v) (K' v)) (hd : ce_wb w pc = some v ∧ decode w pc = .ok (ins, n)) : decode c (a + pc) = .ok (ins, n) := by
  obtain ⟨hb, hd⟩ := hd
  unfold ce_wb at hb
  by_cases h1 : pc < w.size
  · rw [dif_pos h1] at hb
    have hv : w[pc].toNat = v := Option.some.inj hb
    obtain ⟨h2, h3⟩ := hW pc h1
    have d1 : ∀ (d : ByteArray) (q : Nat), decode d q = Except.bind (Jvm.ClassFile.Decoder.instr q d q) (fun y => .ok (y.1, y.2 - q)) := fun _ _ => rfl
    rw [d1, e2, ce_brun, ce_u1, dif_pos h1, hv] at hd
    rw [d1, e1, ce_brun, ce_u1, dif_pos h2, h3, hv]
    have hd2 : Except.bind (K' v w (pc + 1)) (fun y => .ok (y.1, y.2 - pc)) = (.ok (ins, n) : Except Jvm.ClassFile.DecodeError (Instr × Nat)) := hd
    show Except.bind (K v c (a + (pc + 1))) (fun y => .ok (y.1, y.2 - (a + pc))) = _
    cases hr : K' v w (pc + 1) with
    | error e => rw [hr] at hd2; cases hd2
    | ok u =>
      rw [hr] at hd2
      rw [hT (pc + 1) u.1 u.2 hr]
      have h5 : (Except.ok (u.1, u.2 - pc) : Except Jvm.ClassFile.DecodeError (Instr × Nat)) = .ok (ins, n) := hd2
      cases h5
      show Except.ok (u.1, a + u.2 - (a + pc)) = _
      rw [Nat.add_sub_add_left]
  · rw [dif_neg h1] at hb; cases hb
theorem ce_k3 {c w : ByteArray} {a pc n : Nat} {ins : Instr} (hW : ce_Wn c w a) (hd : ce_wb w pc = some 3 ∧ decode w pc = .ok (ins, n)) : decode c (a + pc) = .ok (ins, n) :=
  ce_win (v := 3) hW rfl rfl (ce_Tpure _) hd
theorem ce_k4 {c w : ByteArray} {a pc n : Nat} {ins : Instr} (hW : ce_Wn c w a) (hd : ce_wb w pc = some 4 ∧ decode w pc = .ok (ins, n)) : decode c (a + pc) = .ok (ins, n) :=
  ce_win (v := 4) hW rfl rfl (ce_Tpure _) hd
theorem ce_k5 {c w : ByteArray} {a pc n : Nat} {ins : Instr} (hW : ce_Wn c w a) (hd : ce_wb w pc = some 5 ∧ decode w pc = .ok (ins, n)) : decode c (a + pc) = .ok (ins, n) :=
  ce_win (v := 5) hW rfl rfl (ce_Tpure _) hd
theorem ce_k6 {c w : ByteArray} {a pc n : Nat} {ins : Instr} (hW : ce_Wn c w a) (hd : ce_wb w pc = some 6 ∧ decode w pc = .ok (ins, n)) : decode c (a + pc) = .ok (ins, n) :=
  ce_win (v := 6) hW rfl rfl (ce_Tpure _) hd
theorem ce_k7 {c w : ByteArray} {a pc n : Nat} {ins : Instr} (hW : ce_Wn c w a) (hd : ce_wb w pc = some 7 ∧ decode w pc = .ok (ins, n)) : decode c (a + pc) = .ok (ins, n) :=
  ce_win (v := 7) hW rfl rfl (ce_Tpure _) hd
theorem ce_k8 {c w : ByteArray} {a pc n : Nat} {ins : Instr} (hW : ce_Wn c w a) (hd : ce_wb w pc = some 8 ∧ decode w pc = .ok (ins, n)) : decode c (a + pc) = .ok (ins, n) :=
  ce_win (v := 8) hW rfl rfl (ce_Tpure _) hd
theorem ce_k16 {c w : ByteArray} {a pc n : Nat} {ins : Instr} (hW : ce_Wn c w a) (hd : ce_wb w pc = some 16 ∧ decode w pc = .ok (ins, n)) : decode c (a + pc) = .ok (ins, n) :=
  ce_win (v := 16) hW rfl rfl (ce_Tbind (ce_Ts1 hW) fun _ => ce_Tpure _) hd
theorem ce_k21 {c w : ByteArray} {a pc n : Nat} {ins : Instr} (hW : ce_Wn c w a) (hd : ce_wb w pc = some 21 ∧ decode w pc = .ok (ins, n)) : decode c (a + pc) = .ok (ins, n) :=
  ce_win (v := 21) hW rfl rfl (ce_Tbind (ce_Tu1 hW) fun _ => ce_Tpure _) hd
theorem ce_k22 {c w : ByteArray} {a pc n : Nat} {ins : Instr} (hW : ce_Wn c w a) (hd : ce_wb w pc = some 22 ∧ decode w pc = .ok (ins, n)) : decode c (a + pc) = .ok (ins, n) :=
  ce_win (v := 22) hW rfl rfl (ce_Tbind (ce_Tu1 hW) fun _ => ce_Tpure _) hd
theorem ce_k25 {c w : ByteArray} {a pc n : Nat} {ins : Instr} (hW : ce_Wn c w a) (hd : ce_wb w pc = some 25 ∧ decode w pc = .ok (ins, n)) : decode c (a + pc) = .ok (ins, n) :=
  ce_win (v := 25) hW rfl rfl (ce_Tbind (ce_Tu1 hW) fun _ => ce_Tpure _) hd
theorem ce_k42 {c w : ByteArray} {a pc n : Nat} {ins : Instr} (hW : ce_Wn c w a) (hd : ce_wb w pc = some 42 ∧ decode w pc = .ok (ins, n)) : decode c (a + pc) = .ok (ins, n) :=
  ce_win (v := 42) hW rfl rfl (ce_Tpure _) hd
theorem ce_k43 {c w : ByteArray} {a pc n : Nat} {ins : Instr} (hW : ce_Wn c w a) (hd : ce_wb w pc = some 43 ∧ decode w pc = .ok (ins, n)) : decode c (a + pc) = .ok (ins, n) :=
  ce_win (v := 43) hW rfl rfl (ce_Tpure _) hd
theorem ce_k44 {c w : ByteArray} {a pc n : Nat} {ins : Instr} (hW : ce_Wn c w a) (hd : ce_wb w pc = some 44 ∧ decode w pc = .ok (ins, n)) : decode c (a + pc) = .ok (ins, n) :=
  ce_win (v := 44) hW rfl rfl (ce_Tpure _) hd
theorem ce_k45 {c w : ByteArray} {a pc n : Nat} {ins : Instr} (hW : ce_Wn c w a) (hd : ce_wb w pc = some 45 ∧ decode w pc = .ok (ins, n)) : decode c (a + pc) = .ok (ins, n) :=
  ce_win (v := 45) hW rfl rfl (ce_Tpure _) hd
theorem ce_k46 {c w : ByteArray} {a pc n : Nat} {ins : Instr} (hW : ce_Wn c w a) (hd : ce_wb w pc = some 46 ∧ decode w pc = .ok (ins, n)) : decode c (a + pc) = .ok (ins, n) :=
  ce_win (v := 46) hW rfl rfl (ce_Tpure _) hd
theorem ce_k47 {c w : ByteArray} {a pc n : Nat} {ins : Instr} (hW : ce_Wn c w a) (hd : ce_wb w pc = some 47 ∧ decode w pc = .ok (ins, n)) : decode c (a + pc) = .ok (ins, n) :=
  ce_win (v := 47) hW rfl rfl (ce_Tpure _) hd
theorem ce_k54 {c w : ByteArray} {a pc n : Nat} {ins : Instr} (hW : ce_Wn c w a) (hd : ce_wb w pc = some 54 ∧ decode w pc = .ok (ins, n)) : decode c (a + pc) = .ok (ins, n) :=
  ce_win (v := 54) hW rfl rfl (ce_Tbind (ce_Tu1 hW) fun _ => ce_Tpure _) hd
theorem ce_k55 {c w : ByteArray} {a pc n : Nat} {ins : Instr} (hW : ce_Wn c w a) (hd : ce_wb w pc = some 55 ∧ decode w pc = .ok (ins, n)) : decode c (a + pc) = .ok (ins, n) :=
  ce_win (v := 55) hW rfl rfl (ce_Tbind (ce_Tu1 hW) fun _ => ce_Tpure _) hd
theorem ce_k56 {c w : ByteArray} {a pc n : Nat} {ins : Instr} (hW : ce_Wn c w a) (hd : ce_wb w pc = some 56 ∧ decode w pc = .ok (ins, n)) : decode c (a + pc) = .ok (ins, n) :=
  ce_win (v := 56) hW rfl rfl (ce_Tbind (ce_Tu1 hW) fun _ => ce_Tpure _) hd
theorem ce_k57 {c w : ByteArray} {a pc n : Nat} {ins : Instr} (hW : ce_Wn c w a) (hd : ce_wb w pc = some 57 ∧ decode w pc = .ok (ins, n)) : decode c (a + pc) = .ok (ins, n) :=
  ce_win (v := 57) hW rfl rfl (ce_Tbind (ce_Tu1 hW) fun _ => ce_Tpure _) hd
theorem ce_k58 {c w : ByteArray} {a pc n : Nat} {ins : Instr} (hW : ce_Wn c w a) (hd : ce_wb w pc = some 58 ∧ decode w pc = .ok (ins, n)) : decode c (a + pc) = .ok (ins, n) :=
  ce_win (v := 58) hW rfl rfl (ce_Tbind (ce_Tu1 hW) fun _ => ce_Tpure _) hd
theorem ce_k76 {c w : ByteArray} {a pc n : Nat} {ins : Instr} (hW : ce_Wn c w a) (hd : ce_wb w pc = some 76 ∧ decode w pc = .ok (ins, n)) : decode c (a + pc) = .ok (ins, n) :=
  ce_win (v := 76) hW rfl rfl (ce_Tpure _) hd
theorem ce_k77 {c w : ByteArray} {a pc n : Nat} {ins : Instr} (hW : ce_Wn c w a) (hd : ce_wb w pc = some 77 ∧ decode w pc = .ok (ins, n)) : decode c (a + pc) = .ok (ins, n) :=
  ce_win (v := 77) hW rfl rfl (ce_Tpure _) hd
theorem ce_k78 {c w : ByteArray} {a pc n : Nat} {ins : Instr} (hW : ce_Wn c w a) (hd : ce_wb w pc = some 78 ∧ decode w pc = .ok (ins, n)) : decode c (a + pc) = .ok (ins, n) :=
  ce_win (v := 78) hW rfl rfl (ce_Tpure _) hd
theorem ce_k89 {c w : ByteArray} {a pc n : Nat} {ins : Instr} (hW : ce_Wn c w a) (hd : ce_wb w pc = some 89 ∧ decode w pc = .ok (ins, n)) : decode c (a + pc) = .ok (ins, n) :=
  ce_win (v := 89) hW rfl rfl (ce_Tpure _) hd
theorem ce_k96 {c w : ByteArray} {a pc n : Nat} {ins : Instr} (hW : ce_Wn c w a) (hd : ce_wb w pc = some 96 ∧ decode w pc = .ok (ins, n)) : decode c (a + pc) = .ok (ins, n) :=
  ce_win (v := 96) hW rfl rfl (ce_Tpure _) hd
theorem ce_k100 {c w : ByteArray} {a pc n : Nat} {ins : Instr} (hW : ce_Wn c w a) (hd : ce_wb w pc = some 100 ∧ decode w pc = .ok (ins, n)) : decode c (a + pc) = .ok (ins, n) :=
  ce_win (v := 100) hW rfl rfl (ce_Tpure _) hd
theorem ce_k126 {c w : ByteArray} {a pc n : Nat} {ins : Instr} (hW : ce_Wn c w a) (hd : ce_wb w pc = some 126 ∧ decode w pc = .ok (ins, n)) : decode c (a + pc) = .ok (ins, n) :=
  ce_win (v := 126) hW rfl rfl (ce_Tpure _) hd
theorem ce_k132 {c w : ByteArray} {a pc n : Nat} {ins : Instr} (hW : ce_Wn c w a) (hd : ce_wb w pc = some 132 ∧ decode w pc = .ok (ins, n)) : decode c (a + pc) = .ok (ins, n) :=
  ce_win (v := 132) hW rfl rfl (ce_Tbind (ce_Tu1 hW) fun _ => ce_Tbind (ce_Ts1 hW) fun _ => ce_Tpure _) hd
theorem ce_k133 {c w : ByteArray} {a pc n : Nat} {ins : Instr} (hW : ce_Wn c w a) (hd : ce_wb w pc = some 133 ∧ decode w pc = .ok (ins, n)) : decode c (a + pc) = .ok (ins, n) :=
  ce_win (v := 133) hW rfl rfl (ce_Tpure _) hd
theorem ce_k146 {c w : ByteArray} {a pc n : Nat} {ins : Instr} (hW : ce_Wn c w a) (hd : ce_wb w pc = some 146 ∧ decode w pc = .ok (ins, n)) : decode c (a + pc) = .ok (ins, n) :=
  ce_win (v := 146) hW rfl rfl (ce_Tpure _) hd
theorem ce_k148 {c w : ByteArray} {a pc n : Nat} {ins : Instr} (hW : ce_Wn c w a) (hd : ce_wb w pc = some 148 ∧ decode w pc = .ok (ins, n)) : decode c (a + pc) = .ok (ins, n) :=
  ce_win (v := 148) hW rfl rfl (ce_Tpure _) hd
theorem ce_k153 {c w : ByteArray} {a pc n : Nat} {ins : Instr} (hW : ce_Wn c w a) (hd : ce_wb w pc = some 153 ∧ decode w pc = .ok (ins, n)) : decode c (a + pc) = .ok (ins, n) :=
  ce_win (v := 153) hW rfl rfl (ce_Tbind (ce_Ts2 hW) fun _ => ce_Tpure _) hd
theorem ce_k154 {c w : ByteArray} {a pc n : Nat} {ins : Instr} (hW : ce_Wn c w a) (hd : ce_wb w pc = some 154 ∧ decode w pc = .ok (ins, n)) : decode c (a + pc) = .ok (ins, n) :=
  ce_win (v := 154) hW rfl rfl (ce_Tbind (ce_Ts2 hW) fun _ => ce_Tpure _) hd
theorem ce_k159 {c w : ByteArray} {a pc n : Nat} {ins : Instr} (hW : ce_Wn c w a) (hd : ce_wb w pc = some 159 ∧ decode w pc = .ok (ins, n)) : decode c (a + pc) = .ok (ins, n) :=
  ce_win (v := 159) hW rfl rfl (ce_Tbind (ce_Ts2 hW) fun _ => ce_Tpure _) hd
theorem ce_k163 {c w : ByteArray} {a pc n : Nat} {ins : Instr} (hW : ce_Wn c w a) (hd : ce_wb w pc = some 163 ∧ decode w pc = .ok (ins, n)) : decode c (a + pc) = .ok (ins, n) :=
  ce_win (v := 163) hW rfl rfl (ce_Tbind (ce_Ts2 hW) fun _ => ce_Tpure _) hd
theorem ce_k167 {c w : ByteArray} {a pc n : Nat} {ins : Instr} (hW : ce_Wn c w a) (hd : ce_wb w pc = some 167 ∧ decode w pc = .ok (ins, n)) : decode c (a + pc) = .ok (ins, n) :=
  ce_win (v := 167) hW rfl rfl (ce_Tbind (ce_Ts2 hW) fun _ => ce_Tpure _) hd
theorem ce_k172 {c w : ByteArray} {a pc n : Nat} {ins : Instr} (hW : ce_Wn c w a) (hd : ce_wb w pc = some 172 ∧ decode w pc = .ok (ins, n)) : decode c (a + pc) = .ok (ins, n) :=
  ce_win (v := 172) hW rfl rfl (ce_Tpure _) hd
theorem ce_k182 {c w : ByteArray} {a pc n : Nat} {ins : Instr} (hW : ce_Wn c w a) (hd : ce_wb w pc = some 182 ∧ decode w pc = .ok (ins, n)) : decode c (a + pc) = .ok (ins, n) :=
  ce_win (v := 182) hW rfl rfl (ce_Tbind (ce_Tu2 hW) fun _ => ce_Tpure _) hd
theorem ce_k183 {c w : ByteArray} {a pc n : Nat} {ins : Instr} (hW : ce_Wn c w a) (hd : ce_wb w pc = some 183 ∧ decode w pc = .ok (ins, n)) : decode c (a + pc) = .ok (ins, n) :=
  ce_win (v := 183) hW rfl rfl (ce_Tbind (ce_Tu2 hW) fun _ => ce_Tpure _) hd
theorem ce_k184 {c w : ByteArray} {a pc n : Nat} {ins : Instr} (hW : ce_Wn c w a) (hd : ce_wb w pc = some 184 ∧ decode w pc = .ok (ins, n)) : decode c (a + pc) = .ok (ins, n) :=
  ce_win (v := 184) hW rfl rfl (ce_Tbind (ce_Tu2 hW) fun _ => ce_Tpure _) hd
theorem ce_k187 {c w : ByteArray} {a pc n : Nat} {ins : Instr} (hW : ce_Wn c w a) (hd : ce_wb w pc = some 187 ∧ decode w pc = .ok (ins, n)) : decode c (a + pc) = .ok (ins, n) :=
  ce_win (v := 187) hW rfl rfl (ce_Tbind (ce_Tu2 hW) fun _ => ce_Tpure _) hd
theorem ce_k190 {c w : ByteArray} {a pc n : Nat} {ins : Instr} (hW : ce_Wn c w a) (hd : ce_wb w pc = some 190 ∧ decode w pc = .ok (ins, n)) : decode c (a + pc) = .ok (ins, n) :=
  ce_win (v := 190) hW rfl rfl (ce_Tpure _) hd
