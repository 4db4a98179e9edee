/-! the steps on the heap -/
def ce_nth {α : Type} : List α → Nat → Option α
  | [], _ => none
  | a :: _, 0 => some a
  | _ :: r, i + 1 => ce_nth r i
theorem ce_nth_eq {α : Type} : ∀ (l : List α) (i : Nat), ce_nth l i = l[i]?
  | [], _ => by simp [ce_nth]
  | a :: r, 0 => by simp [ce_nth]
  | a :: r, i + 1 => by simp only [ce_nth, List.getElem?_cons_succ]; exact ce_nth_eq r i
def ce_obj (G : ce_G) (k : Nat) : Option (Nat × List ce_SV) := match ce_nth G.2.1 k with
  | some (.inl x) => some x
  | _ => none
def ce_arr (G : ce_G) (k : Nat) : Option (Nat × List ce_SV) := match ce_nth G.2.1 k with
  | some (.inr x) => some x
  | _ => none
theorem ce_obj_at {z : ce_U} {ad : Nat → Nat} {G : ce_G} {k : Nat} {x : Nat × List ce_SV} (h : ce_obj G k = some x) : G.2.1[k]? = some (.inl x) ∧ (ce_w z ad 0 G.2.1)[k]? = some (ad k, .inr (x.1, x.2.map (ce_v z ad))) := by
  unfold ce_obj at h
  rw [ce_nth_eq] at h
  split at h
  · rename_i y hy
    cases h
    exact ⟨hy, by rw [ce_w_get, hy, Nat.zero_add]; rfl⟩
  · cases h
theorem ce_arr_at {z : ce_U} {ad : Nat → Nat} {G : ce_G} {k : Nat} {x : Nat × List ce_SV} (h : ce_arr G k = some x) : G.2.1[k]? = some (.inr x) ∧ (ce_w z ad 0 G.2.1)[k]? = some (ad k, .inl (ce_cA z x.1, x.2.length, ce_ar z ad x.1 x.2)) := by
  unfold ce_arr at h
  rw [ce_nth_eq] at h
  split at h
  · rename_i y hy
    cases h
    exact ⟨hy, by rw [ce_w_get, hy, Nat.zero_add]; rfl⟩
  · cases h
/-- a cell is written -/
theorem ce_Inv_set {z : ce_U} {ad : Nat → Nat} {G : ce_G} {k : Nat} {e0 e : ce_SE} {H1 : Heap} (hI : G.2.1.all (ce_we G.2.1.length) = true ∧ ce_sat z G.1) (hk : G.2.1[k]? = some e0) (he : ce_we G.2.1.length e = true)
    (hP : va_P (ce_D z) ce_cl ((ce_w z ad 0 G.2.1).set k (ad k, ce_e z ad e)) H1) (hD : va_D (ce_A z) ((ce_w z ad 0 G.2.1).set k (ad k, ce_e z ad e))) : ce_Inv z ad (G.1, G.2.1.set k e, G.2.2) H1 := by
  have hq : ce_w z ad 0 (G.2.1.set k e) = (ce_w z ad 0 G.2.1).set k (ad k, ce_e z ad e) := by rw [ce_w_set, Nat.zero_add]
  refine ⟨?_, ?_, ?_, hI.2⟩
  · show va_P _ _ (ce_w z ad 0 (G.2.1.set k e)) H1
    rw [hq]; exact hP
  · show va_D _ (ce_w z ad 0 (G.2.1.set k e))
    rw [hq]; exact hD
  · show (G.2.1.set k e).all (ce_we (G.2.1.set k e).length) = true
    rw [List.length_set]
    refine List.all_eq_true.mpr fun x hx => ?_
    rcases List.mem_or_eq_of_mem_set hx with hx | hx
    · exact List.all_eq_true.mp hI.1 x hx
    · rw [hx]; exact he
/-- a cell comes -/
theorem ce_Inv_app {z : ce_U} {ad ad' : Nat → Nat} {G : ce_G} {q : Nat} {e : ce_SE} {H1 : Heap} {rc rs : Nat} (hI : G.2.1.all (ce_we G.2.1.length) = true ∧ ce_sat z G.1) (he : ce_we G.2.1.length e = true) (h1 : ∀ i, i < G.2.1.length → ad' i = ad i) (h2 : ad' G.2.1.length = q)
    (hP : va_P (ce_D z) ce_cl (ce_w z ad 0 G.2.1 ++ [(q, ce_e z ad e)]) H1) (hD : va_D (ce_A z) (ce_w z ad 0 G.2.1 ++ [(q, ce_e z ad e)])) : ce_Inv z ad' (G.1, G.2.1 ++ [e], rc, rs) H1 := by
  have hq : ce_w z ad' 0 (G.2.1 ++ [e]) = ce_w z ad 0 G.2.1 ++ [(q, ce_e z ad e)] := by
    rw [ce_w_app, Nat.zero_add, h2, ce_e_congr h1 he, ce_w_congr h1 _ 0 (by omega) hI.1]
  refine ⟨?_, ?_, ?_, hI.2⟩
  · show va_P _ _ (ce_w z ad' 0 (G.2.1 ++ [e])) H1
    rw [hq]; exact hP
  · show va_D _ (ce_w z ad' 0 (G.2.1 ++ [e]))
    rw [hq]; exact hD
  · show (G.2.1 ++ [e]).all (ce_we (G.2.1 ++ [e]).length) = true
    rw [List.length_append]
    refine List.all_eq_true.mpr fun x hx => ?_
    rcases List.mem_append.mp hx with hx | hx
    · exact ce_we_mono (by simp) (List.all_eq_true.mp hI.1 x hx)
    · rw [List.mem_singleton.mp hx]; exact ce_we_mono (by simp) he
/-- is a value one of a field of this type, and told as the field keeps it -/
def ce_fit (ty : FieldType) (v : ce_SV) : Bool := match ty, v with
  | .int, .inl _ => true
  | .boolean, .inl (.inl n) => decide (n = 0) || decide (n = 1)
  | .byte, .inl (.inl n) => decide (-128 ≤ n) && decide (n ≤ 127)
  | .byte, .inl (.inr (.old _)) => true
  | .char, .inl (.inl n) => decide (0 ≤ n) && decide (n ≤ 65535)
  | .char, .inl (.inr (.length _)) => true
  | .long, .inr (.inl _) => true
  | .object _, .inr (.inr (.inl (.inl _))) => true
  | .object _, .inr (.inr (.inl (.inr j))) => Nat.blt j 7
  | .object _, .inr (.inr (.inr .null)) => true
  | .array _, .inr (.inr (.inl (.inl _))) => true
  | .array _, .inr (.inr (.inl (.inr j))) => Nat.blt j 7
  | .array _, .inr (.inr (.inr .null)) => true
  | _, _ => false
theorem ce_byte {n : Int} (h0 : -128 ≤ n) (h1 : n ≤ 127) : (Int32.ofInt n).toInt8.toInt32 = Int32.ofInt n := by
  rw [← Int32.toInt_inj, Int8.toInt_toInt32, Int32.toInt8_ofInt, Int8.toInt_ofInt_of_le (by omega) (by omega), Int32.toInt_ofInt_of_le (by omega) (by omega)]
theorem ce_fit_ok {z : ce_U} {s : State} (hz : ce_CK z s) {ad : Nat → Nat} {ty : FieldType} {v : ce_SV} (h : ce_fit ty v = true) : narrow ty (ce_v z ad v) = ce_v z ad v ∧ fits ty (ce_v z ad v) = true := by
  unfold ce_fit at h
  split at h
  · exact ⟨rfl, rfl⟩
  · rename_i n
    simp only [Bool.or_eq_true, decide_eq_true_eq] at h
    rcases h with rfl | rfl
    · exact ⟨(by decide : narrow .boolean (.int (Int32.ofInt 0)) = .int (Int32.ofInt 0)), (by decide : fits .boolean (.int (Int32.ofInt 0)) = true)⟩
    · exact ⟨(by decide : narrow .boolean (.int (Int32.ofInt 1)) = .int (Int32.ofInt 1)), (by decide : fits .boolean (.int (Int32.ofInt 1)) = true)⟩
  · rename_i n
    simp only [Bool.and_eq_true, decide_eq_true_eq] at h
    have hb := ce_byte h.1 h.2
    refine ⟨congrArg Value.int hb, ?_⟩
    show fits .byte (.int (Int32.ofInt n)) = true
    rw [← hb]; exact pk_fb _
  · exact ⟨pk_nb _, pk_fb _⟩
  · rename_i n
    simp only [Bool.and_eq_true, decide_eq_true_eq] at h
    obtain ⟨k, rfl⟩ := Int.eq_ofNat_of_zero_le h.1
    exact pk_charN (q := k) (by omega)
  · exact ⟨pk_nc _, pk_fc _⟩
  · exact ⟨rfl, rfl⟩
  · exact ⟨rfl, rfl⟩
  · rename_i j
    obtain ⟨a, ha⟩ := ce_ext hz j (Nat.lt_of_succ_le (Nat.le_of_ble_eq_true h))
    have e : ce_v z ad (.inr (.inr (.inl (.inr j)))) = .ref a := ha
    rw [e]; exact ⟨rfl, rfl⟩
  · exact ⟨rfl, rfl⟩
  · exact ⟨rfl, rfl⟩
  · rename_i j
    obtain ⟨a, ha⟩ := ce_ext hz j (Nat.lt_of_succ_le (Nat.le_of_ble_eq_true h))
    have e : ce_v z ad (.inr (.inr (.inl (.inr j)))) = .ref a := ha
    rw [e]; exact ⟨rfl, rfl⟩
  · exact ⟨rfl, rfl⟩
  · cases h
abbrev ce_CXK {z : ce_U} {p : Program} {l : Launch} {R : Room} {s : State} {m : MethodId} {args : Array Value} {meth : Method} {c : Code} {own nm : String} {cc : ByteArray} {nL : Nat} {ret : Option FieldType} {ht : Nat} (hC : ce_CX z p l R s m args meth c own nm cc nL ret ht) : ce_CK z s := hC.2.2.2.2.2.2.2.2.2
abbrev ce_sm (ref o n d : String) : Prop := ∀ (s : State) (args : Array Value), (∀ w ∈ ce_GW, w.before args s = true) → ∀ x, s.fieldFound? o n d = some x → s.fieldFound? ref n d = some x
section Heap
variable {own nm : String} {cc : ByteArray} {nL : Nat} {ret : Option FieldType} {ht pc : Nat}
def ce_getf (ci k nx : Nat) : ce_P := fun L G => match L.2 with
  | .inr (.inr (.inl (.inl a))) :: r => match ce_obj G a with
    | some x => match Nat.beq x.1 ci with
      | true => match ce_nth x.2 k with
        | some v => some [(nx, (L.1, v :: r), G)]
        | none => none
      | false => none
    | none => none
  | _ => none
theorem ce_getf_core {ci k N : Nat} {C ref : String} {T : u_T} {i : Nat} (d : decode cc pc = .ok (.getfield i, 3)) (hc : ce_cl[ci]? = some (C, T, N)) (hin : ∀ w ∈ u_ws C T N, w ∈ ce_GW) (hk : k < N) (hsm : ce_sm ref (T k).1 (T k).2.1 (T k).2.2.1)
    (hl9 : Cond.fieldLink own i ref (T k).2.1 (T k).2.2.1 ∈ ce_GW ∨ ∃ host, Cond.fieldLinkNest own i ref (T k).2.1 (T k).2.2.1 host ∈ ce_NG) : ce_OK own nm cc nL ret ht pc (ce_getf ci k (pc + 3)) := by
  intro z p l e R s m args below meth c Q ad0 n0 hC L G S h hS ad ls H locs kc ks h1 h2 hl hI hv k1 k2
  obtain ⟨lo, st⟩ := L
  simp only [ce_getf] at h
  split at h
  · rename_i a r
    split at h
    · rename_i x hx
      split at h
      · rename_i hci
        split at h
        · rename_i v hv9
          cases h
          obtain ⟨y1, y2⟩ := x
          have hci2 := Nat.eq_of_beq_eq_true hci
          dsimp only at hci2 hv9
          subst hci2
          have hat := (ce_obj_at (z := z) (ad := ad) hx).2
          rw [ce_nth_eq] at hv9
          have hfs : (y2.map (ce_v z ad))[k]? = some (ce_v z ad v) := by rw [List.getElem?_map, hv9]; rfl
          rcases hl9 with hl9 | ⟨host, hl9⟩
          · refine va_get hC.1 hC.2.1 hC.2.2.2.2.1 hin hC.2.2.2.1 (ce_CXK hC).1 hI.1 a hat hc k hk (hC.2.2.2.2.1 _ hl9) (hsm s args hC.2.2.2.2.1) hfs d ?_
            exact hS _ (List.mem_singleton.mpr rfl) ad ls H locs kc ks h1 h2 hl hI hv k1 k2
          · refine va_getN hC.1 hC.2.1 hC.2.2.2.2.1 hin hC.2.2.2.1 (ce_CXK hC).1 hI.1 a hat hc k hk (va_Nw.use rfl ((ce_CXK hC).2.2.2.1.1 _ hl9)) (hsm s args hC.2.2.2.2.1) hfs d ?_
            exact hS _ (List.mem_singleton.mpr rfl) ad ls H locs kc ks h1 h2 hl hI hv k1 k2
        · cases h
      · cases h
    · cases h
  · cases h
theorem ok_getf {ci k N : Nat} {C ref : String} {T : u_T} {i : Nat} (d : decode cc pc = .ok (.getfield i, 3)) (hc : ce_cl[ci]? = some (C, T, N)) (hin : ∀ w ∈ u_ws C T N, w ∈ ce_GW) (hk : k < N) (hl9 : Cond.fieldLink own i ref (T k).2.1 (T k).2.2.1 ∈ ce_GW) (hsm : ce_sm ref (T k).1 (T k).2.1 (T k).2.2.1) : ce_OK own nm cc nL ret ht pc (ce_getf ci k (pc + 3)) :=
  ce_getf_core d hc hin hk hsm (Or.inl hl9)
theorem ok_getfN {ci k N : Nat} {C ref host : String} {T : u_T} {i : Nat} (d : decode cc pc = .ok (.getfield i, 3)) (hc : ce_cl[ci]? = some (C, T, N)) (hin : ∀ w ∈ u_ws C T N, w ∈ ce_GW) (hk : k < N) (hl9 : Cond.fieldLinkNest own i ref (T k).2.1 (T k).2.2.1 host ∈ ce_NG) (hsm : ce_sm ref (T k).1 (T k).2.1 (T k).2.2.1) : ce_OK own nm cc nL ret ht pc (ce_getf ci k (pc + 3)) :=
  ce_getf_core d hc hin hk hsm (Or.inr ⟨host, hl9⟩)
/-- a text's bytes (k = 0) and coder (k = 1), of a text that was made or of a constant -/
def ce_gets (k nx : Nat) : ce_P := fun L G => match L.2 with
  | .inr (.inr (.inl (.inr j))) :: r => match k, j with
    | 0, 2 => some [(nx, (L.1, .inr (.inr (.inl (.inr 3))) :: r), G)]
    | 0, 4 => some [(nx, (L.1, .inr (.inr (.inl (.inr 5))) :: r), G)]
    | 1, 2 => some [(nx, (L.1, .inl (.inl 0) :: r), G)]
    | 1, 4 => some [(nx, (L.1, .inl (.inl 0) :: r), G)]
    | _, _ => none
  | _ => ce_getf 0 k nx L G
theorem ok_gets0 {i : Nat} (d : decode cc pc = .ok (.getfield i, 3)) (hl9 : Cond.fieldLink own i "java/lang/String" "value" "[B" ∈ ce_GW) : ce_OK own nm cc nL ret ht pc (ce_gets 0 (pc + 3)) := by
  intro z p l e R s m args below meth c Q ad0 n0 hC L G S h hS
  unfold ce_gets at h
  split at h
  · rename_i j r hst
    obtain ⟨lo, st⟩ := L
    dsimp only at hst
    subst hst
    intro ad ls H locs kc ks h1 h2 hl hI hv k1 k2
    obtain ⟨aK, aV, e2, e3, e4, e5, hE, -, -⟩ := (ce_CXK hC).2.2.2.2.2.2.1
    split at h
    · cases h
      show W _ _ _ _ _ _ _ _ _ _ _ _ _ _ _ (F0 m pc ls (ce_ev z 2 :: r.map (ce_v z ad)))
      rw [e2]
      refine vk_getf hC.1 hC.2.1 (hE.1 0 (by omega)).2.2.1 hv hC.2.2.2.1 (hC.2.2.2.2.1 _ hl9) (fun _ h => h) d ?_
      rw [← e3]
      exact hS _ (List.mem_singleton.mpr rfl) ad ls H locs kc ks h1 h2 hl hI hv k1 k2
    · cases h
      show W _ _ _ _ _ _ _ _ _ _ _ _ _ _ _ (F0 m pc ls (ce_ev z 4 :: r.map (ce_v z ad)))
      rw [e4]
      refine vk_getf hC.1 hC.2.1 (hE.1 1 (by omega)).2.2.1 hv hC.2.2.2.1 (hC.2.2.2.2.1 _ hl9) (fun _ h => h) d ?_
      rw [← e5]
      exact hS _ (List.mem_singleton.mpr rfl) ad ls H locs kc ks h1 h2 hl hI hv k1 k2
    · omega
    · omega
    · cases h
  · exact ok_getf (ci := 0) (k := 0) (N := 4) (T := TJ0) d rfl ce_uJ0 (by omega) hl9 (fun _ _ _ _ h => h) hC L G S h hS
theorem ok_gets1 {i : Nat} (d : decode cc pc = .ok (.getfield i, 3)) (hl9 : Cond.fieldLink own i "java/lang/String" "coder" "B" ∈ ce_GW) : ce_OK own nm cc nL ret ht pc (ce_gets 1 (pc + 3)) := by
  intro z p l e R s m args below meth c Q ad0 n0 hC L G S h hS
  unfold ce_gets at h
  split at h
  · rename_i j r hst
    obtain ⟨lo, st⟩ := L
    dsimp only at hst
    subst hst
    intro ad ls H locs kc ks h1 h2 hl hI hv k1 k2
    obtain ⟨aK, aV, e2, e3, e4, e5, hE, -, -⟩ := (ce_CXK hC).2.2.2.2.2.2.1
    split at h
    · omega
    · omega
    · cases h
      show W _ _ _ _ _ _ _ _ _ _ _ _ _ _ _ (F0 m pc ls (ce_ev z 2 :: r.map (ce_v z ad)))
      rw [e2]
      refine vk_getf hC.1 hC.2.1 (hE.1 0 (by omega)).2.1 hv hC.2.2.2.1 (hC.2.2.2.2.1 _ hl9) (fun _ h => h) d ?_
      exact hS _ (List.mem_singleton.mpr rfl) ad ls H locs kc ks h1 h2 hl hI hv k1 k2
    · cases h
      show W _ _ _ _ _ _ _ _ _ _ _ _ _ _ _ (F0 m pc ls (ce_ev z 4 :: r.map (ce_v z ad)))
      rw [e4]
      refine vk_getf hC.1 hC.2.1 (hE.1 1 (by omega)).2.1 hv hC.2.2.2.1 (hC.2.2.2.2.1 _ hl9) (fun _ h => h) d ?_
      exact hS _ (List.mem_singleton.mpr rfl) ad ls H locs kc ks h1 h2 hl hI hv k1 k2
    · cases h
  · exact ok_getf (ci := 0) (k := 1) (N := 4) (T := TJ0) d rfl ce_uJ0 (by omega) hl9 (fun _ _ _ _ h => h) hC L G S h hS
def ce_putf (ty : FieldType) (ci k nx : Nat) : ce_P := fun L G => match L.2 with
  | v :: .inr (.inr (.inl (.inl a))) :: r => match ce_obj G a with
    | some x => match Nat.beq x.1 ci && (Nat.blt k x.2.length && (ce_fit ty v && ce_wv G.2.1.length v)) with
      | true => some [(nx, (L.1, r), (G.1, G.2.1.set a (.inl (x.1, x.2.set k v)), G.2.2))]
      | false => none
    | none => none
  | _ => none
theorem ce_all_set {l : List ce_SV} {n k : Nat} {v : ce_SV} (h : l.all (ce_wv n) = true) (hv : ce_wv n v = true) : (l.set k v).all (ce_wv n) = true := List.all_eq_true.mpr fun x hx => by
  rcases List.mem_or_eq_of_mem_set hx with hx | hx
  · exact List.all_eq_true.mp h x hx
  · rw [hx]; exact hv
theorem ok_putf {ci k N : Nat} {C ref : String} {T : u_T} {ty0 : Nat → FieldType} {i : Nat} (d : decode cc pc = .ok (.putfield i, 3)) (hc : ce_cl[ci]? = some (C, T, N)) (hin : ∀ w ∈ u_ws C T N, w ∈ ce_GW) (hk : k < N) (hl9 : Cond.fieldLink own i ref (T k).2.1 (T k).2.2.1 ∈ ce_GW) (hsm : ce_sm ref (T k).1 (T k).2.1 (T k).2.2.1)
    (hty : ∀ k, k < N → parseFieldDescriptor (T k).2.2.1 = some (ty0 k)) (hnm : ∀ a, a < N → ∀ b, b < N → a ≠ b → (T a).2.1 ≠ (T b).2.1) (hfin : (T k).2.2.2 = false ∨ ((T k).2.2.2 = true ∧ nm = "<init>" ∧ (T k).1 = own)) : ce_OK own nm cc nL ret ht pc (ce_putf (ty0 k) ci k (pc + 3)) := by
  intro z p l e R s m args below meth c Q ad0 n0 hC L G S h hS ad ls H locs kc ks h1 h2 hl hI hv k1 k2
  obtain ⟨lo, st⟩ := L
  simp only [ce_putf] at h
  split at h
  · rename_i v a r
    split at h
    · rename_i x hx
      split at h
      · rename_i hb
        cases h
        simp only [Bool.and_eq_true] at hb
        obtain ⟨hci, hkl, hft, hwv⟩ := hb
        obtain ⟨y1, y2⟩ := x
        have hci2 := Nat.eq_of_beq_eq_true hci
        have hkl2 : k < (y2.map (ce_v z ad)).length := by rw [List.length_map]; exact Nat.lt_of_succ_le (Nat.le_of_ble_eq_true hkl)
        dsimp only at hci2
        subst hci2
        obtain ⟨hat0, hat⟩ := ce_obj_at (z := z) (ad := ad) hx
        obtain ⟨hn9, hf9⟩ := ce_fit_ok (ce_CXK hC) (ad := ad) hft
        have hkk : ∀ (H1 : Heap) (locs1 : List Loc), va_P (ce_D z) ce_cl ((ce_w z ad 0 G.2.1).set a (ad a, .inr (y1, (y2.map (ce_v z ad)).set k (ce_v z ad v)))) H1 → va_D (ce_A z) ((ce_w z ad 0 G.2.1).set a (ad a, .inr (y1, (y2.map (ce_v z ad)).set k (ce_v z ad v)))) → va_S (ce_A z) s.heap H1 locs1 → W p l e R s m args below meth c H1 locs1 kc ks Q (F0 m (pc + 3) ls (r.map (ce_v z ad))) := by
          intro H1 locs1 hP hD hS1
          have he : ce_e z ad (.inl (y1, y2.set k v)) = .inr (y1, (y2.map (ce_v z ad)).set k (ce_v z ad v)) := by simp only [ce_e, List.map_set]
          rw [← he] at hP hD
          have hwe : ce_we G.2.1.length (.inl (y1, y2)) = true := List.all_eq_true.mp hI.2.2.1 _ (List.mem_of_getElem? hat0)
          exact hS _ (List.mem_singleton.mpr rfl) ad ls H1 locs1 kc ks h1 (by simpa using h2) hl (ce_Inv_set (e := .inl (y1, y2.set k v)) hI.2.2 hat0 (ce_all_set (l := y2) hwe hwv) hP hD) hS1 k1 k2
        rcases hfin with hfin | ⟨hfin, hni, how⟩
        · exact va_put hC.1 hC.2.1 hC.2.2.2.2.1 hin ty0 hty hnm hC.2.2.2.1 (ce_CXK hC).1 hI.1 hI.2.1 hv a hat hc k hk (hC.2.2.2.2.1 _ hl9) (hsm s args hC.2.2.2.2.1) hfin (hty k hk) hn9 hf9 hkl2 d hkk
        · exact va_putF hC.1 hC.2.1 hC.2.2.2.2.1 hin ty0 hty hnm hC.2.2.2.1 (ce_CXK hC).1 hI.1 hI.2.1 hv a hat hc k hk (hC.2.2.2.2.1 _ hl9) (hsm s args hC.2.2.2.2.1) hfin (hC.2.2.2.2.2.1.trans hni) how (hty k hk) hn9 hf9 hkl2 d hkk
      · cases h
    · cases h
  · cases h
/-- the room that is left, and that nothing at hand names a cell that isn't -/
def ce_ok (L : ce_L) (G : ce_G) (n : Nat) : Bool := Nat.ble 1 G.2.2.1 && (Nat.ble n G.2.2.2 && (L.1.all (fun q => ce_wv G.2.1.length q.2) && L.2.all (ce_wv G.2.1.length)))
def ce_ad (ad : Nat → Nat) (n q : Nat) : Nat → Nat := fun i => match Nat.beq i n with
  | true => q
  | false => ad i
theorem ce_ad_lt {ad : Nat → Nat} {n q : Nat} : ∀ i, i < n → ce_ad ad n q i = ad i := fun i h => by
  have : Nat.beq i n = false := by
    cases hb : Nat.beq i n
    · rfl
    · exact absurd (Nat.eq_of_beq_eq_true hb) (Nat.ne_of_lt h)
  simp [ce_ad, this]
theorem ce_ad_eq {ad : Nat → Nat} {n q : Nat} : ce_ad ad n q n = q := by simp [ce_ad]
theorem ce_loc_congr {z : ce_U} {ad ad' : Nat → Nat} {n : Nat} (h : ∀ i, i < n → ad' i = ad i) {l : List (Nat × ce_SV)} (hl : l.all (fun q => ce_wv n q.2) = true) : l.map (fun q => (q.1, ce_v z ad' q.2)) = l.map (fun q => (q.1, ce_v z ad q.2)) :=
  List.map_congr_left fun q hq => by rw [ce_v_congr h (List.all_eq_true.mp hl q hq)]
def ce_new (ci N : Nat) (dv : List ce_SV) (nx : Nat) : ce_P := fun L G => match ce_ok L G N with
  | true => some [(nx, (L.1, .inr (.inr (.inl (.inl G.2.1.length))) :: L.2), (G.1, G.2.1 ++ [.inl (ci, dv)], G.2.2.1 - 1, G.2.2.2 - N))]
  | false => none
theorem ok_new {ci N : Nat} {C : String} {T : u_T} {ty0 : Nat → FieldType} {i : Nat} {dv : List ce_SV} (d : decode cc pc = .ok (.new i, 3)) (hc : ce_cl[ci]? = some (C, T, N)) (hin : ∀ w ∈ u_ws C T N, w ∈ ce_GW) (hty : ∀ k, k < N → parseFieldDescriptor (T k).2.2.1 = some (ty0 k))
    (hk : Cond.classLink own i C ∈ ce_GW) (hi : Cond.instantiable C N ∈ ce_GW) (hn : Cond.initialized C ∈ ce_GW) (hdv : ∀ (z : ce_U) (ad : Nat → Nat) (j : Nat), j < N → defaultValue (ty0 j) = vp_V (dv.map (ce_v z ad)) j) (hwd : dv.all (ce_wv 0) = true) : ce_OK own nm cc nL ret ht pc (ce_new ci N dv (pc + 3)) := by
  intro z p l e R s m args below meth c Q ad0 n0 hC L G S h hS ad ls H locs kc ks h1 h2 hl hI hv k1 k2
  obtain ⟨lo, st⟩ := L
  simp only [ce_new] at h
  split at h
  · rename_i hb
    cases h
    simp only [ce_ok, Bool.and_eq_true] at hb
    obtain ⟨b1, b2, b3, b4⟩ := hb
    have b1 := Nat.le_of_ble_eq_true b1
    have b2 := Nat.le_of_ble_eq_true b2
    have hA : ∀ q, s.heap.size ≤ q → ce_A z q := fun q hq => Nat.le_trans (ce_CXK hC).2.1 hq
    refine va_new hC.1 hC.2.1 hC.2.2.2.2.1 hin ty0 hty hC.2.2.2.1 (hC.2.2.2.2.1 _ hk) (hC.2.2.2.2.1 _ hi) (hC.2.2.2.2.1 _ hn) (ce_CXK hC).1 hI.1 hI.2.1 hv hA hc (hdv z ad) (by omega) (by omega) d (fun q H1 hP hD hS1 => ?_)
    have hwe : ce_we G.2.1.length (.inl (ci, dv)) = true := List.all_eq_true.mpr fun v hv9 => ce_wv_mono (Nat.zero_le _) (List.all_eq_true.mp hwd v hv9)
    have hgo := hS _ (List.mem_singleton.mpr rfl) (ce_ad ad G.2.1.length q) ls H1 locs (kc + 1) (ks + N) (fun k hk9 => (ce_ad_lt k (Nat.lt_of_lt_of_le hk9 h2)).trans (h1 k hk9)) (by simp; omega) (by rw [ce_loc_congr ce_ad_lt b3]; exact hl)
      (ce_Inv_app (e := .inl (ci, dv)) hI.2.2 hwe ce_ad_lt ce_ad_eq hP hD) hS1 (by dsimp only; omega) (by dsimp only; omega)
    rw [List.map_cons, ce_map_congr ce_ad_lt b4] at hgo
    have e9 : ce_v z (ce_ad ad G.2.1.length q) (.inr (.inr (.inl (.inl G.2.1.length)))) = .ref q := congrArg Value.ref ce_ad_eq
    rw [e9] at hgo
    exact hgo
  · cases h
theorem ce_ra {s : State} {a b : ClassId} {ty : FieldType} (h1 : va_RA s a ty) (h2 : va_RA s b ty) : a = b := by
  cases ty with
  | object C =>
    obtain ⟨_, _, _, _, _, e1⟩ := h1
    obtain ⟨_, _, _, _, _, e2⟩ := h2
    exact Option.some.inj (e1.symm.trans e2)
  | _ => exact Option.some.inj (Eq.trans (Eq.symm h1) h2)
/-- an empty array's contents -/
def ce_df (t : Nat) : ce_SV := match decide (t < 4), decide (t = 4), decide (t = 5) with
  | true, _, _ => .inl (.inl 0)
  | _, true, _ => .inr (.inl (.inl 0))
  | _, _, true => .inr (.inr (.inr (.double 0)))
  | _, _, _ => .inr (.inr (.inr .null))
theorem ce_df_wv (t n : Nat) : ce_wv n (ce_df t) = true := by
  unfold ce_df
  split <;> rfl
def ce_newa (t ln nx : Nat) : ce_P := fun L G => match L.2 with
  | .inl (.inl (.ofNat n)) :: r => match ce_ok L G n && Nat.ble n 60000 with
    | true => some [(nx, (L.1, .inr (.inr (.inl (.inl G.2.1.length))) :: r), (G.1, G.2.1 ++ [.inr (t, List.replicate n (ce_df t))], G.2.2.1 - 1, G.2.2.2 - n))]
    | false => none
  | _ => none
theorem ce_rep {z : ce_U} {ad : Nat → Nat} {n j : Nat} {v : ce_SV} {β : Type} {g : Value → β} {x : β} (h : g (ce_v z ad v) = x) (h0 : g (ce_v z ad ce_0) = x) : g (ce_v z ad ((List.replicate n v).getD j ce_0)) = x := by
  rw [List.getD_eq_getElem?_getD, List.getElem?_replicate]
  split
  · exact h
  · exact h0
theorem ce_newa_core {t ln : Nat} {ty : FieldType} (htt : ∀ z : ce_U, (ce_ty z)[t]? = some (ce_cA z t, ty))
    (row : ∀ {z : ce_U} {p : Program} {l : Launch} {e : Env} {R : Room} {s : State} {m : MethodId} {args : Array Value} {below : List Frame} {meth : Method} {c : Code} {Q : State → Prop} {ad : Nat → Nat} {H : Heap} {locs : List Loc} {kc ks n : Nat} {ls : Array Slot} {rest : List Value} {G : ce_G},
      ce_CX z p l R s m args meth c own nm cc nL ret ht → ce_Inv z ad G H → va_S (ce_A z) s.heap H locs → n ≤ 60000 → kc + 1 ≤ R.cells → ks + n ≤ R.slots →
      (∀ (q : Nat) (cA : ClassId) (H1 : Heap), va_K (ce_D z) ce_cl (ce_ty z ++ [(cA, ty)]) s → va_P (ce_D z) ce_cl (ce_w z ad 0 G.2.1 ++ [(q, .inl (cA, (List.replicate n (ce_df t)).length, ce_ar z ad t (List.replicate n (ce_df t))))]) H1 → va_D (ce_A z) (ce_w z ad 0 G.2.1 ++ [(q, .inl (cA, (List.replicate n (ce_df t)).length, ce_ar z ad t (List.replicate n (ce_df t))))]) → va_S (ce_A z) s.heap H1 locs →
        W p l e R s m args below meth c H1 locs (kc + 1) (ks + n) Q (F0 m (pc + ln) ls (.ref q :: rest))) → W p l e R s m args below meth c H locs kc ks Q (F0 m pc ls (.int (nI n) :: rest))) : ce_OK own nm cc nL ret ht pc (ce_newa t ln (pc + ln)) := by
  intro z p l e R s m args below meth c Q ad0 n0 hC L G S h hS ad ls H locs kc ks h1 h2 hl hI hv k1 k2
  obtain ⟨lo, st⟩ := L
  simp only [ce_newa] at h
  split at h
  · rename_i n r
    split at h
    · rename_i hb
      cases h
      simp only [ce_ok, Bool.and_eq_true] at hb
      obtain ⟨⟨b1, b2, b3, b4⟩, b5⟩ := hb
      have b1 := Nat.le_of_ble_eq_true b1
      have b2 := Nat.le_of_ble_eq_true b2
      have b5 := Nat.le_of_ble_eq_true b5
      refine row (G := G) (n := n) hC hI hv b5 (by omega) (by omega) (fun q cA H1 hK hP hD hS1 => ?_)
      have hcA : cA = ce_cA z t := by
        have e1 := (hK.2 (ce_ty z).length (cA, ty) (by simp)).2
        have e2 := ((ce_CXK hC).1.2 t _ (htt z)).2
        exact ce_ra e1 e2
      subst hcA
      have hwe : ce_we G.2.1.length (.inr (t, List.replicate n (ce_df t))) = true := List.all_eq_true.mpr fun v hv9 => by
        rw [(List.mem_replicate.mp hv9).2]; exact ce_df_wv _ _
      rw [List.all_cons, Bool.and_eq_true] at b4
      have hgo := hS _ (List.mem_singleton.mpr rfl) (ce_ad ad G.2.1.length q) ls H1 locs (kc + 1) (ks + n) (fun k hk9 => (ce_ad_lt k (Nat.lt_of_lt_of_le hk9 h2)).trans (h1 k hk9)) (by simp; omega) (by rw [ce_loc_congr ce_ad_lt b3]; exact hl)
        (ce_Inv_app (e := .inr (t, List.replicate n (ce_df t))) hI.2.2 hwe ce_ad_lt ce_ad_eq hP hD) hS1 (by dsimp only; omega) (by dsimp only; omega)
      rw [List.map_cons, ce_map_congr ce_ad_lt b4.2] at hgo
      have e9 : ce_v z (ce_ad ad G.2.1.length q) (.inr (.inr (.inl (.inl G.2.1.length)))) = .ref q := congrArg Value.ref ce_ad_eq
      rw [e9] at hgo
      exact hgo
    · cases h
  · cases h
theorem ok_newa_int (d : decode cc pc = .ok (.newarray .int, 2)) (hk : Cond.arrayClass .int ∈ ce_GW) : ce_OK own nm cc nL ret ht pc (ce_newa 0 2 (pc + 2)) := by
  refine ce_newa_core (ty := .int) (fun z => rfl) ?_
  intro z p l e R s m args below meth c Q ad H locs kc ks n ls rest G hC hI hv hn kc1 ks1 kk
  have hA : ∀ q, s.heap.size ≤ q → ce_A z q := fun q hq => Nat.le_trans (ce_CXK hC).2.1 hq
  have ha0 : ((List.replicate n (ce_df 0)).length, ce_ar z ad 0 (List.replicate n (ce_df 0))) = ((n, .inl (fun _ => 0)) : vp_A) := by
    rw [List.length_replicate]
    refine congrArg (Prod.mk n) ?_
    first | rfl | exact congrArg Sum.inl (funext fun j => ce_rep rfl rfl) | exact congrArg (fun x => Sum.inr (Sum.inl x)) (funext fun j => ce_rep rfl rfl)
  rw [ha0] at kk
  exact va_newa (atype := .int) (a0 := (n, .inl (fun _ => 0))) hC.1 hC.2.1 (hC.2.2.2.2.1 _ hk) rfl (ce_CXK hC).1 hI.1 hI.2.1 hv hA (fun _ => rfl) (nI_pos (by omega)) (nI_clamp (by omega)) (by show n * 4 ≤ 536870912; omega) kc1 ks1 d kk
theorem ok_newa_char (d : decode cc pc = .ok (.newarray .char, 2)) (hk : Cond.arrayClass .char ∈ ce_GW) : ce_OK own nm cc nL ret ht pc (ce_newa 1 2 (pc + 2)) := by
  refine ce_newa_core (ty := .char) (fun z => rfl) ?_
  intro z p l e R s m args below meth c Q ad H locs kc ks n ls rest G hC hI hv hn kc1 ks1 kk
  have hA : ∀ q, s.heap.size ≤ q → ce_A z q := fun q hq => Nat.le_trans (ce_CXK hC).2.1 hq
  have ha0 : ((List.replicate n (ce_df 1)).length, ce_ar z ad 1 (List.replicate n (ce_df 1))) = ((n, .inl (fun _ => 0)) : vp_A) := by
    rw [List.length_replicate]
    refine congrArg (Prod.mk n) ?_
    first | rfl | exact congrArg Sum.inl (funext fun j => ce_rep rfl rfl) | exact congrArg (fun x => Sum.inr (Sum.inl x)) (funext fun j => ce_rep rfl rfl)
  rw [ha0] at kk
  exact va_newa (atype := .char) (a0 := (n, .inl (fun _ => 0))) hC.1 hC.2.1 (hC.2.2.2.2.1 _ hk) rfl (ce_CXK hC).1 hI.1 hI.2.1 hv hA (fun _ => rfl) (nI_pos (by omega)) (nI_clamp (by omega)) (by show n * 2 ≤ 536870912; omega) kc1 ks1 d kk
theorem ok_newa_byte (d : decode cc pc = .ok (.newarray .byte, 2)) (hk : Cond.arrayClass .byte ∈ ce_GW) : ce_OK own nm cc nL ret ht pc (ce_newa 2 2 (pc + 2)) := by
  refine ce_newa_core (ty := .byte) (fun z => rfl) ?_
  intro z p l e R s m args below meth c Q ad H locs kc ks n ls rest G hC hI hv hn kc1 ks1 kk
  have hA : ∀ q, s.heap.size ≤ q → ce_A z q := fun q hq => Nat.le_trans (ce_CXK hC).2.1 hq
  have ha0 : ((List.replicate n (ce_df 2)).length, ce_ar z ad 2 (List.replicate n (ce_df 2))) = ((n, .inl (fun _ => 0)) : vp_A) := by
    rw [List.length_replicate]
    refine congrArg (Prod.mk n) ?_
    first | rfl | exact congrArg Sum.inl (funext fun j => ce_rep rfl rfl) | exact congrArg (fun x => Sum.inr (Sum.inl x)) (funext fun j => ce_rep rfl rfl)
  rw [ha0] at kk
  exact va_newa (atype := .byte) (a0 := (n, .inl (fun _ => 0))) hC.1 hC.2.1 (hC.2.2.2.2.1 _ hk) rfl (ce_CXK hC).1 hI.1 hI.2.1 hv hA (fun _ => rfl) (nI_pos (by omega)) (nI_clamp (by omega)) (by show n * 1 ≤ 536870912; omega) kc1 ks1 d kk
theorem ok_newa_long (d : decode cc pc = .ok (.newarray .long, 2)) (hk : Cond.arrayClass .long ∈ ce_GW) : ce_OK own nm cc nL ret ht pc (ce_newa 4 2 (pc + 2)) := by
  refine ce_newa_core (ty := .long) (fun z => rfl) ?_
  intro z p l e R s m args below meth c Q ad H locs kc ks n ls rest G hC hI hv hn kc1 ks1 kk
  have hA : ∀ q, s.heap.size ≤ q → ce_A z q := fun q hq => Nat.le_trans (ce_CXK hC).2.1 hq
  have ha0 : ((List.replicate n (ce_df 4)).length, ce_ar z ad 4 (List.replicate n (ce_df 4))) = ((n, .inr (.inl (fun _ => 0))) : vp_A) := by
    rw [List.length_replicate]
    refine congrArg (Prod.mk n) ?_
    first | rfl | exact congrArg Sum.inl (funext fun j => ce_rep rfl rfl) | exact congrArg (fun x => Sum.inr (Sum.inl x)) (funext fun j => ce_rep rfl rfl)
  rw [ha0] at kk
  exact va_newa (atype := .long) (a0 := (n, .inr (.inl (fun _ => 0)))) hC.1 hC.2.1 (hC.2.2.2.2.1 _ hk) rfl (ce_CXK hC).1 hI.1 hI.2.1 hv hA (fun _ => rfl) (nI_pos (by omega)) (nI_clamp (by omega)) (by show n * 8 ≤ 536870912; omega) kc1 ks1 d kk
theorem ok_newa_double (d : decode cc pc = .ok (.newarray .double, 2)) (hk : Cond.arrayClass .double ∈ ce_GW) : ce_OK own nm cc nL ret ht pc (ce_newa 5 2 (pc + 2)) := by
  refine ce_newa_core (ty := .double) (fun z => rfl) ?_
  intro z p l e R s m args below meth c Q ad H locs kc ks n ls rest G hC hI hv hn kc1 ks1 kk
  have hA : ∀ q, s.heap.size ≤ q → ce_A z q := fun q hq => Nat.le_trans (ce_CXK hC).2.1 hq
  have ha0 : ((List.replicate n (ce_df 5)).length, ce_ar z ad 5 (List.replicate n (ce_df 5))) = ((n, .inr (.inr (.inr (.inl (fun _ => 0))))) : vp_A) := by
    rw [List.length_replicate]
    refine congrArg (Prod.mk n) ?_
    first | rfl | exact congrArg Sum.inl (funext fun j => ce_rep rfl rfl) | exact congrArg (fun x => Sum.inr (Sum.inl x)) (funext fun j => ce_rep rfl rfl)
  rw [ha0] at kk
  exact va_newa (atype := .double) (a0 := (n, .inr (.inr (.inr (.inl (fun _ => 0)))))) hC.1 hC.2.1 (hC.2.2.2.2.1 _ hk) rfl (ce_CXK hC).1 hI.1 hI.2.1 hv hA (fun _ => rfl) (nI_pos (by omega)) (nI_clamp (by omega)) (by show n * 8 ≤ 536870912; omega) kc1 ks1 d kk
theorem ok_newq {C : String} {t i : Nat} (d : decode cc pc = .ok (.anewarray i, 3)) (hk : Cond.classLink own i C ∈ ce_GW) (hC9 : C ∈ ce_AOs) (htt : ∀ z : ce_U, (ce_ty z)[t]? = some (ce_cA z t, .object C)) (h6 : ∀ (z : ce_U) (ad : Nat → Nat) (n : Nat), ce_ar z ad t (List.replicate n (ce_df t)) = .inr (.inr (.inr (.inr (fun _ => none))))) : ce_OK own nm cc nL ret ht pc (ce_newa t 3 (pc + 3)) := by
  refine ce_newa_core (ty := .object C) htt ?_
  intro z p l e R s m args below meth c Q ad H locs kc ks n ls rest G hC hI hv hn kc1 ks1 kk
  have hA : ∀ q, s.heap.size ≤ q → ce_A z q := fun q hq => Nat.le_trans (ce_CXK hC).2.1 hq
  have ha0 : ((List.replicate n (ce_df t)).length, ce_ar z ad t (List.replicate n (ce_df t))) = ((n, .inr (.inr (.inr (.inr (fun _ => none))))) : vp_A) := by
    rw [List.length_replicate, h6]
  rw [ha0] at kk
  exact va_newq hC.1 hC.2.1 hC.2.2.2.1 (hC.2.2.2.2.1 _ hk) ((ce_CXK hC).2.2.2.1.2.2.1 _ hC9) (ce_CXK hC).1 hI.1 hI.2.1 hv hA (nI_pos (by omega)) (nI_clamp (by omega)) (by omega) kc1 ks1 d kk
theorem ce_refs {t : Nat} (h4 : ¬ t < 4) (h5 : t ≠ 4) (h6 : t ≠ 5) (z : ce_U) (ad : Nat → Nat) (n : Nat) : ce_ar z ad t (List.replicate n (ce_df t)) = .inr (.inr (.inr (.inr (fun _ => none)))) := by
  have hd : ce_df t = .inr (.inr (.inr .null)) := by simp [ce_df, h4, h5, h6]
  rw [hd]
  unfold ce_ar
  rw [if_neg h4, if_neg h5, if_neg h6]
  exact congrArg (fun x => Sum.inr (Sum.inr (Sum.inr (Sum.inr x)))) (funext fun j => ce_rep rfl rfl)
end Heap
