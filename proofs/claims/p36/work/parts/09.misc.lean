/-! statics, constants, comparisons of references, switches, natives -/
section Misc
variable {own nm : String} {cc : ByteArray} {nL : Nat} {ret : Option FieldType} {ht pc : Nat}
theorem ok_gets {C n dd ref : String} {i : Nat} {sv : ce_SV} (hz : ∀ (z : ce_U) (s : State) (ad : Nat → Nat), ce_CK z s → va_Z C n dd (ce_v z ad sv) (ce_A z) s s.heap) (d : decode cc pc = .ok (.getstatic i, 3)) (hk : Cond.fieldLink own i ref n dd ∈ ce_GW) (hr : ref = C) : ce_OK own nm cc nL ret ht pc (ce_push sv (pc + 3)) := by
  intro z p l e R s m args below meth c Q ad0 n0 hC L G S h hS ad ls H locs kc ks h1 h2 hl hI hv k1 k2
  obtain ⟨lo, st⟩ := L
  cases h
  subst hr
  refine va_gets hC.1 hC.2.1 (hz z s ad (ce_CXK hC)) hv hC.2.2.2.1 (hC.2.2.2.2.1 _ hk) (fun _ h => h) d ?_
  exact hS _ (List.mem_singleton.mpr rfl) ad ls H locs kc ks h1 h2 hl hI hv k1 k2
theorem ce_z1 (z : ce_U) (s : State) (ad : Nat → Nat) (h : ce_CK z s) : va_Z "java/lang/String" "COMPACT_STRINGS" "Z" (ce_v z ad (.inl (.inl 1))) (ce_A z) s s.heap := h.2.2.2.2.2.2.2.2.2.1
theorem ce_z2 (z : ce_U) (s : State) (ad : Nat → Nat) (h : ce_CK z s) : va_Z "java/lang/StringUTF16" "$assertionsDisabled" "Z" (ce_v z ad (.inl (.inl 1))) (ce_A z) s s.heap := h.2.2.2.2.2.2.2.2.2.2.1
theorem ce_z3 (z : ce_U) (s : State) (ad : Nat → Nat) (h : ce_CK z s) : va_Z "java/lang/StringUTF16" "HI_BYTE_SHIFT" "I" (ce_v z ad (.inl (.inl 0))) (ce_A z) s s.heap := h.2.2.2.2.2.2.2.2.2.2.2.1
theorem ce_z4 (z : ce_U) (s : State) (ad : Nat → Nat) (h : ce_CK z s) : va_Z "java/lang/StringUTF16" "LO_BYTE_SHIFT" "I" (ce_v z ad (.inl (.inl 8))) (ce_A z) s s.heap := h.2.2.2.2.2.2.2.2.2.2.2.2
theorem ce_z5 (z : ce_U) (s : State) (ad : Nat → Nat) (h : ce_CK z s) : va_Z "jdk/internal/util/Preconditions" "SIOOBE_FORMATTER" "Ljava/util/function/BiFunction;" (ce_v z ad (.inr (.inr (.inl (.inr 7))))) (ce_A z) s s.heap := h.2.2.2.2.2.2.2.2.1.2
theorem ce_z6 (z : ce_U) (s : State) (ad : Nat → Nat) (h : ce_CK z s) : va_Z "java/util/ArrayList" "DEFAULTCAPACITY_EMPTY_ELEMENTDATA" "[Ljava/lang/Object;" (ce_v z ad (.inr (.inr (.inl (.inr 1))))) (ce_A z) s s.heap := by
  obtain ⟨t, e0, -, e2⟩ := h.2.2.2.2.2.1
  show va_Z _ _ _ (ce_ev z 1) _ _ _
  rw [e0]; exact e2
theorem ok_ldcS {i j : Nat} {tx : String} (hz : ∀ (z : ce_U) (s : State), ce_CK z s → ∃ a, ce_ev z j = .ref a ∧ vk_R own i tx a s) (d : decode cc pc = .ok (.ldc i, 2)) : ce_OK own nm cc nL ret ht pc (ce_push (.inr (.inr (.inl (.inr j)))) (pc + 2)) := by
  intro z p l e R s m args below meth c Q ad0 n0 hC L G S h hS ad ls H locs kc ks h1 h2 hl hI hv k1 k2
  obtain ⟨lo, st⟩ := L
  cases h
  obtain ⟨a, e0, e1⟩ := hz z s (ce_CXK hC)
  refine va_ldcS hC.1 hC.2.1 hC.2.2.2.1 e1 d ?_
  rw [← e0]
  exact hS _ (List.mem_singleton.mpr rfl) ad ls H locs kc ks h1 h2 hl hI hv k1 k2
theorem ce_s2 (z : ce_U) (s : State) (h : ce_CK z s) : ∃ a, ce_ev z 2 = .ref a ∧ vk_R "CarcasswrightModel" 19 "" a s := by
  obtain ⟨aK, aV, e2, e3, e4, e5, hE, h6, h7⟩ := h.2.2.2.2.2.2.1
  exact ⟨_, e2, h6⟩
theorem ce_s4 (z : ce_U) (s : State) (h : ce_CK z s) : ∃ a, ce_ev z 4 = .ref a ∧ vk_R "CarcasswrightModel" 57 "ewns" a s := by
  obtain ⟨aK, aV, e2, e3, e4, e5, hE, h6, h7⟩ := h.2.2.2.2.2.2.1
  exact ⟨_, e4, h7⟩
theorem ok_ldcM {i : Nat} (d : decode cc pc = .ok (.ldc i, 2)) (hk : Cond.classLink own i "[Ljava/lang/Object;" ∈ ce_GW) : ce_OK own nm cc nL ret ht pc (ce_push (.inr (.inr (.inl (.inr 6)))) (pc + 2)) := by
  intro z p l e R s m args below meth c Q ad0 n0 hC L G S h hS ad ls H locs kc ks h1 h2 hl hI hv k1 k2
  obtain ⟨lo, st⟩ := L
  cases h
  obtain ⟨mi, e0, e1⟩ := (ce_CXK hC).2.2.2.2.2.2.2.1
  refine va_ldcM hC.1 hC.2.1 hC.2.2.2.1 (hC.2.2.2.2.1 _ hk) e1 d ?_
  rw [← e0]
  exact hS _ (List.mem_singleton.mpr rfl) ad ls H locs kc ks h1 h2 hl hI hv k1 k2
/-- a row of ints is one: the cast stands -/
def ce_castI (nx : Nat) : ce_P := fun L G => match L.2 with
  | .inr (.inr (.inl (.inl a))) :: r => match ce_arr G a with
    | some x => match Nat.beq x.1 0 with
      | true => some [(nx, (L.1, .inr (.inr (.inl (.inl a))) :: r), G)]
      | false => none
    | none => none
  | _ => none
theorem ok_castI {i : Nat} (d : decode cc pc = .ok (.checkcast i, 3)) (hk : Cond.classLink own i "[I" ∈ ce_GW) : ce_OK own nm cc nL ret ht pc (ce_castI (pc + 3)) := by
  intro z p l e R s m args below meth c Q ad0 n0 hC L G S h hS ad ls H locs kc ks h1 h2 hl hI hv k1 k2
  obtain ⟨lo, st⟩ := L
  simp only [ce_castI] at h
  split at h
  · rename_i a r
    split at h
    · rename_i x hx
      split at h
      · rename_i hb
        cases h
        obtain ⟨y1, y2⟩ := x
        have hb1 := Nat.eq_of_beq_eq_true hb
        dsimp only at hb1
        subst hb1
        have hat := (ce_arr_at (z := z) (ad := ad) hx).2
        dsimp only at hat
        refine va_castA hC.1 hC.2.1 hC.2.2.2.1 (hC.2.2.2.2.1 _ hk) hI.1 a hat (va_nm_int ((ce_CXK hC).1.2 0 _ rfl).2) d ?_
        exact hS _ (List.mem_singleton.mpr rfl) ad ls H locs kc ks h1 h2 hl hI hv k1 k2
      · cases h
    · cases h
  · cases h
/-- are two references one? -/
def ce_same (n : Nat) (a b : ce_SV) : Option Bool := match a, b with
  | .inr (.inr (.inl (.inl i))), .inr (.inr (.inl (.inl j))) => match Nat.blt i n && Nat.blt j n with
    | true => some (Nat.beq i j)
    | false => none
  | .inr (.inr (.inl (.inr i))), .inr (.inr (.inl (.inr j))) => match Nat.beq i j && Nat.blt i 7 with
    | true => some true
    | false => none
  | .inr (.inr (.inl (.inl i))), .inr (.inr (.inl (.inr 1))) => match Nat.blt i n with
    | true => some false
    | false => none
  | .inr (.inr (.inl (.inr 1))), .inr (.inr (.inl (.inl i))) => match Nat.blt i n with
    | true => some false
    | false => none
  | _, _ => none
theorem ce_w_some {z : ce_U} {ad : Nat → Nat} {cs : List ce_SE} {i : Nat} (h : i < cs.length) : ∃ e, (ce_w z ad 0 cs)[i]? = some (ad i, e) := ⟨_, by rw [ce_w_get, List.getElem?_eq_getElem h, Nat.zero_add]; rfl⟩
theorem ce_same_ok {z : ce_U} {s : State} {ad : Nat → Nat} {G : ce_G} {H : Heap} (hK : ce_CK z s) (hI : ce_Inv z ad G H) {a b : ce_SV} {v : Bool} (h : ce_same G.2.1.length a b = some v) : ∃ ra rb : Option Nat, ce_v z ad a = va_rf ra ∧ ce_v z ad b = va_rf rb ∧ (v = true ↔ ra = rb) := by
  unfold ce_same at h
  split at h
  · rename_i i j
    split at h
    · rename_i hb
      simp only [Bool.and_eq_true] at hb
      cases h
      refine ⟨some (ad i), some (ad j), rfl, rfl, ?_⟩
      obtain ⟨e1, w1⟩ := ce_w_some (z := z) (ad := ad) (Nat.lt_of_succ_le (Nat.le_of_ble_eq_true hb.1))
      obtain ⟨e2, w2⟩ := ce_w_some (z := z) (ad := ad) (Nat.lt_of_succ_le (Nat.le_of_ble_eq_true hb.2))
      constructor
      · intro hh
        rw [Nat.eq_of_beq_eq_true hh]
      · intro hh
        have := hI.2.1.1 i j _ _ w1 w2 (Option.some.inj hh)
        rw [this, Nat.beq_refl]
    · cases h
  · rename_i i j
    split at h
    · rename_i hb
      simp only [Bool.and_eq_true] at hb
      cases h
      have hij := Nat.eq_of_beq_eq_true hb.1
      subst hij
      obtain ⟨a, ha⟩ := ce_ext hK i (Nat.lt_of_succ_le (Nat.le_of_ble_eq_true hb.2))
      exact ⟨some a, some a, ha, ha, by simp⟩
    · cases h
  · rename_i i
    split at h
    · rename_i hb
      cases h
      obtain ⟨t, e0, ⟨-, -, -, -, -, -, -, e1⟩, -⟩ := hK.2.2.2.2.2.1
      obtain ⟨e9, w1⟩ := ce_w_some (z := z) (ad := ad) (Nat.lt_of_succ_le (Nat.le_of_ble_eq_true hb))
      refine ⟨some (ad i), some t, rfl, e0, ?_⟩
      have hA := hI.2.1.2 i _ w1
      constructor
      · intro hh; cases hh
      · intro hh
        rw [Option.some.inj hh] at hA
        exact absurd hA e1
    · cases h
  · rename_i i
    split at h
    · rename_i hb
      cases h
      obtain ⟨t, e0, ⟨-, -, -, -, -, -, -, e1⟩, -⟩ := hK.2.2.2.2.2.1
      obtain ⟨e9, w1⟩ := ce_w_some (z := z) (ad := ad) (Nat.lt_of_succ_le (Nat.le_of_ble_eq_true hb))
      refine ⟨some t, some (ad i), e0, rfl, ?_⟩
      have hA := hI.2.1.2 i _ w1
      constructor
      · intro hh; cases hh
      · intro hh
        rw [← Option.some.inj hh] at hA
        exact absurd hA e1
    · cases h
  · cases h
def ce_acmp (ng : Bool) (tgt nx : Nat) : ce_P := fun L G => match L.2 with
  | b :: a :: r => match ce_same G.2.1.length a b with
    | some v => some [(if v == ng then nx else tgt, (L.1, r), G)]
    | none => none
  | _ => none
theorem ok_acmp_eq {off : Int} {tgt : Nat} (d : decode cc pc = .ok (.if_acmp .eq off, 3)) (htg : (pc : Int) + off = (tgt : Int)) : ce_OK own nm cc nL ret ht pc (ce_acmp false tgt (pc + 3)) := by
  intro z p l e R s m args below meth c Q ad0 n0 hC L G S h hS ad ls H locs kc ks h1 h2 hl hI hv k1 k2
  obtain ⟨lo, st⟩ := L
  simp only [ce_acmp] at h
  split at h
  · rename_i b a r
    split at h
    · rename_i v hv9
      cases h
      obtain ⟨ra, rb, ea, eb, hi⟩ := ce_same_ok (ce_CXK hC) hI hv9
      show W _ _ _ _ _ _ _ _ _ _ _ _ _ _ _ (F0 m pc ls (ce_v z ad b :: ce_v z ad a :: r.map (ce_v z ad)))
      rw [ea, eb]
      have hgo := hS _ (List.mem_singleton.mpr rfl) ad ls H locs kc ks h1 h2 hl hI hv k1 k2
      refine lv_acmp_eq hC.1 hC.2.1 d htg (fun c8 => ?_) (fun c8 => ?_)
      · have e9 : v = true := hi.mpr c8
        subst e9
        exact hgo
      · have e9 : v = false := (Bool.eq_false_iff.mpr fun q => c8 (hi.mp q))
        subst e9
        exact hgo
    · cases h
  · cases h
theorem ok_acmp_ne {off : Int} {tgt : Nat} (d : decode cc pc = .ok (.if_acmp .ne off, 3)) (htg : (pc : Int) + off = (tgt : Int)) : ce_OK own nm cc nL ret ht pc (ce_acmp true tgt (pc + 3)) := by
  intro z p l e R s m args below meth c Q ad0 n0 hC L G S h hS ad ls H locs kc ks h1 h2 hl hI hv k1 k2
  obtain ⟨lo, st⟩ := L
  simp only [ce_acmp] at h
  split at h
  · rename_i b a r
    split at h
    · rename_i v hv9
      cases h
      obtain ⟨ra, rb, ea, eb, hi⟩ := ce_same_ok (ce_CXK hC) hI hv9
      show W _ _ _ _ _ _ _ _ _ _ _ _ _ _ _ (F0 m pc ls (ce_v z ad b :: ce_v z ad a :: r.map (ce_v z ad)))
      rw [ea, eb]
      have hgo := hS _ (List.mem_singleton.mpr rfl) ad ls H locs kc ks h1 h2 hl hI hv k1 k2
      refine lv_acmp_ne hC.1 hC.2.1 d htg (fun c8 => ?_) (fun c8 => ?_)
      · have e9 : v = false := (Bool.eq_false_iff.mpr fun q => c8 (hi.mp q))
        subst e9
        exact hgo
      · have e9 : v = true := hi.mpr c8
        subst e9
        exact hgo
    · cases h
  · cases h
def ce_ifnn (tgt nx : Nat) : ce_P := fun L G => match L.2 with
  | .inr (.inr (.inl (.inl _))) :: r => some [(tgt, (L.1, r), G)]
  | .inr (.inr (.inl (.inr j))) :: r => match Nat.blt j 7 with
    | true => some [(tgt, (L.1, r), G)]
    | false => none
  | .inr (.inr (.inr .null)) :: r => some [(nx, (L.1, r), G)]
  | _ => none
theorem ok_ifnn {off : Int} {tgt : Nat} (d : decode cc pc = .ok (.ifnonnull off, 3)) (htg : (pc : Int) + off = (tgt : Int)) : ce_OK own nm cc nL ret ht pc (ce_ifnn tgt (pc + 3)) := by
  intro z p l e R s m args below meth c Q ad0 n0 hC L G S h hS ad ls H locs kc ks h1 h2 hl hI hv k1 k2
  obtain ⟨lo, st⟩ := L
  simp only [ce_ifnn] at h
  split at h
  · cases h
    refine lv_ifnonnull hC.1 hC.2.1 d htg ?_
    exact hS _ (List.mem_singleton.mpr rfl) ad ls H locs kc ks h1 h2 hl hI hv k1 k2
  · rename_i j r
    split at h
    · rename_i hj
      cases h
      obtain ⟨a, ha⟩ := ce_ext (ce_CXK hC) j (Nat.lt_of_succ_le (Nat.le_of_ble_eq_true hj))
      show W _ _ _ _ _ _ _ _ _ _ _ _ _ _ _ (F0 m pc ls (ce_ev z j :: r.map (ce_v z ad)))
      rw [ha]
      refine lv_ifnonnull hC.1 hC.2.1 d htg ?_
      exact hS _ (List.mem_singleton.mpr rfl) ad ls H locs kc ks h1 h2 hl hI hv k1 k2
    · cases h
  · cases h
    refine lv_ifnonnullN hC.1 hC.2.1 d ?_
    exact hS _ (List.mem_singleton.mpr rfl) ad ls H locs kc ks h1 h2 hl hI hv k1 k2
  · cases h
/-- a switch over a row of numbers from 0 on -/
def ce_tsw (dflt : Nat) (tg : List Nat) : ce_P := fun L G => match L.2 with
  | .inl i :: r => match ce_ix G.1 i with
    | some (.inl k) => match Nat.blt k 1000 with
      | true => match ce_nth tg k with
        | some t => some [(t, (L.1, r), G)]
        | none => some [(dflt, (L.1, r), G)]
      | false => none
    | _ => none
  | _ => none
theorem ok_tsw {da hi : Int} {offs : Array Int} {len dflt : Nat} {tg : List Nat} (d : decode cc pc = .ok (.tableswitch da 0 hi offs, len)) (hd : (pc : Int) + da = (dflt : Int)) (hh : hi + 1 = (tg.length : Int)) (ho : tg.map (fun t : Nat => (t : Int) - (pc : Int)) = offs.toList) : ce_OK own nm cc nL ret ht pc (ce_tsw dflt tg) := by
  intro z p l e R s m args below meth c Q ad0 n0 hC L G S h hS ad ls H locs kc ks h1 h2 hl hI hv k1 k2
  obtain ⟨lo, st⟩ := L
  simp only [ce_tsw] at h
  split at h
  · rename_i i r
    split at h
    · rename_i k hk
      have hi9 := ce_ix_ok hk hI.2.2.2
      split at h
      · rename_i hb
        have hb : k < 1000 := Nat.lt_of_succ_le (Nat.le_of_ble_eq_true hb)
        have hkt : (nI k).toInt = (k : Int) := nI_toInt (by omega)
        show W _ _ _ _ _ _ _ _ _ _ _ _ _ _ _ (F0 m pc ls (.int (ce_vi z i) :: r.map (ce_v z ad)))
        rw [hi9]
        split at h
        · rename_i t ht9
          cases h
          have hlt := ce_nth_lt ht9
          rw [ce_nth_eq] at ht9
          have ho2 : offs[((nI k).toInt - 0).toNat]? = some ((t : Int) - (pc : Int)) := by
            rw [hkt, ← Array.getElem?_toList, ← ho, List.getElem?_map]
            have : ((k : Int) - 0).toNat = k := by omega
            rw [this, ht9]; rfl
          refine lv_tableIn hC.1 hC.2.1 d (by omega) (by omega) ho2 (tgt := t) (by omega) ?_
          exact hS _ (List.mem_singleton.mpr rfl) ad ls H locs kc ks h1 h2 hl hI hv k1 k2
        · rename_i ht9
          cases h
          rw [ce_nth_eq] at ht9
          have hge := List.getElem?_eq_none_iff.mp ht9
          refine lv_tableOut hC.1 hC.2.1 d (Or.inr (by omega)) hd ?_
          exact hS _ (List.mem_singleton.mpr rfl) ad ls H locs kc ks h1 h2 hl hI hv k1 k2
      · cases h
    · cases h
  · cases h
/-- a switch over numbers that are named -/
def ce_ls (t : Term) (ks : List (Int × Nat)) (L : ce_L) (G : ce_G) : List (Nat × ce_L × ce_G) := (ks.filter fun k => !(ce_ne G.1 t k.1)).map fun k => (k.2, L, ((t, 0, k.1) :: (t, 1, k.1) :: G.1, G.2))
def ce_lsw (dflt : Nat) (ks : List (Int × Nat)) : ce_P := fun L G => match L.2 with
  | .inl (.inr t) :: r => match ks.any fun k => ce_ge G.1 t k.1 && ce_le G.1 t k.1 with
    | true => some (ce_ls t ks (L.1, r) G)
    | false => some ((dflt, (L.1, r), (ks.map (fun k => (t, 2, k.1)) ++ G.1, G.2)) :: ce_ls t ks (L.1, r) G)
  | _ => none
theorem ce_off_hit {l : List (Int × Int)} {da k o : Int} (hn : ∀ a b, (a, o) ∈ l → (a, b) ∈ l → b = o) (h : (k, o) ∈ l) : Op.lookupswitch.offset l da k = o := by
  induction l with
  | nil => cases h
  | cons q r ih =>
    obtain ⟨a, o1⟩ := q
    rw [Op.lookupswitch.offset_cons]
    split
    · rename_i ha
      subst ha
      exact hn _ _ h List.mem_cons_self
    · rename_i ha
      rcases List.mem_cons.mp h with h | h
      · cases h; exact absurd rfl ha
      · exact ih (fun a b x y => hn a b (List.mem_cons_of_mem _ x) (List.mem_cons_of_mem _ y)) h
theorem ce_off_miss {l : List (Int × Int)} {da k : Int} (h : ∀ q ∈ l, q.1 ≠ k) : Op.lookupswitch.offset l da k = da := by
  induction l with
  | nil => rfl
  | cons q r ih =>
    obtain ⟨a, o1⟩ := q
    rw [Op.lookupswitch.offset_cons, if_neg (h _ List.mem_cons_self)]
    exact ih fun q hq => h q (List.mem_cons_of_mem _ hq)
theorem ok_lsw {da : Int} {ps : Array (Int × Int)} {len dflt : Nat} {ks : List (Int × Nat)} (d : decode cc pc = .ok (.lookupswitch da ps, len)) (hd : (pc : Int) + da = (dflt : Int)) (hp : (ps.toList.zip (ps.toList.drop 1)).all (fun (a, next) => a.1 < next.1) = true) (ho : ks.map (fun k => (k.1, (k.2 : Int) - (pc : Int))) = ps.toList)
    (hu : ∀ a ∈ ks, ∀ b ∈ ks, a.1 = b.1 → a.2 = b.2) : ce_OK own nm cc nL ret ht pc (ce_lsw dflt ks) := by
  intro z p l e R s m args below meth c Q ad0 n0 hC L G S h hS ad ls H locs kc kS h1 h2 hl hI hv k1 k2
  obtain ⟨lo, st⟩ := L
  simp only [ce_lsw] at h
  split at h
  · rename_i t r
    show W _ _ _ _ _ _ _ _ _ _ _ _ _ _ _ (F0 m pc ls (.int (ce_I z t) :: r.map (ce_v z ad)))
    by_cases hm : ∃ k ∈ ks, (ce_I z t).toInt = k.1
    · obtain ⟨k, hk, hkt⟩ := hm
      have hin : (k.2, (lo, r), ((t, 0, k.1) :: (t, 1, k.1) :: G.1, G.2)) ∈ ce_ls t ks (lo, r) G := by
        refine List.mem_map.mpr ⟨k, List.mem_filter.mpr ⟨hk, ?_⟩, rfl⟩
        cases hq : ce_ne G.1 t k.1
        · rfl
        · exact absurd hkt (ce_ne_ok hI.2.2.2 hq)
      have hin2 : (k.2, (lo, r), ((t, 0, k.1) :: (t, 1, k.1) :: G.1, G.2)) ∈ S := by
        split at h
        · cases h; exact hin
        · cases h; exact List.mem_cons_of_mem _ hin
      have hoff : Op.lookupswitch.offset ps.toList da (ce_I z t).toInt = (k.2 : Int) - (pc : Int) := by
        rw [← ho]
        refine ce_off_hit (fun a b ha hb => ?_) (List.mem_map.mpr ⟨k, hk, by rw [hkt]⟩)
        obtain ⟨x, hx, ex⟩ := List.mem_map.mp ha
        obtain ⟨y, hy, ey⟩ := List.mem_map.mp hb
        simp only [Prod.mk.injEq] at ex ey
        have := hu x hx y hy (ex.1.trans ey.1.symm)
        omega
      refine lv_lookup hC.1 hC.2.1 d hp hoff (tgt := k.2) (by omega) ?_
      exact hS _ hin2 ad ls H locs kc kS h1 h2 hl ⟨hI.1, hI.2.1, hI.2.2.1, ce_sat_cons (ce_fa0 (by omega)) (ce_sat_cons (ce_fa1 (by omega)) hI.2.2.2)⟩ hv k1 k2
    · have hno : ∀ k ∈ ks, (ce_I z t).toInt ≠ k.1 := fun k hk he => hm ⟨k, hk, he⟩
      split at h
      · rename_i ha
        obtain ⟨k, hk, hb⟩ := List.any_eq_true.mp ha
        simp only [Bool.and_eq_true] at hb
        have a1 := ce_ge_ok hI.2.2.2 hb.1
        have a2 := ce_le_ok hI.2.2.2 hb.2
        exact absurd (by omega) (hno k hk)
      · cases h
        have hoff : Op.lookupswitch.offset ps.toList da (ce_I z t).toInt = da := by
          rw [← ho]
          refine ce_off_miss fun q hq => ?_
          obtain ⟨x, hx, rfl⟩ := List.mem_map.mp hq
          exact fun he => hno x hx he.symm
        refine lv_lookup hC.1 hC.2.1 d hp hoff hd ?_
        refine hS _ List.mem_cons_self ad ls H locs kc kS h1 h2 hl ⟨hI.1, hI.2.1, hI.2.2.1, fun f hf => ?_⟩ hv k1 k2
        rcases List.mem_append.mp hf with hf | hf
        · obtain ⟨x, hx, rfl⟩ := List.mem_map.mp hf
          exact ce_fa2 (hno x hx)
        · exact hI.2.2.2 f hf
  · cases h
end Misc
