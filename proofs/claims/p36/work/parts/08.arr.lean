/-! arrays, the old things, switches -/
/-- the newest lower bound of a number that the script tells -/
def ce_low : ce_F → Term → Option Int
  | [], _ => none
  | f :: r, t => match decide (f.1 = t) && Nat.beq f.2.1 0 with
    | true => some f.2.2
    | false => ce_low r t
theorem ce_low_ok {z : ce_U} {t : Term} {n : Int} : ∀ {F : ce_F}, ce_low F t = some n → ce_sat z F → n ≤ (ce_I z t).toInt
  | f :: r, h, hF => by
    unfold ce_low at h
    split at h
    · rename_i hb
      simp only [Bool.and_eq_true, decide_eq_true_eq, Nat.beq_eq] at hb
      cases h
      have := hF f List.mem_cons_self
      rw [ce_fa, if_pos hb.2, hb.1] at this
      exact this
    · exact ce_low_ok h (fun g hg => hF g (List.mem_cons_of_mem _ hg))
/-- a number that is known, or where it may be parted -/
def ce_ix (F : ce_F) (i : ce_SI) : Option (Nat ⊕ (Term × Int)) := match i with
  | .inl (.ofNat k) => some (.inl k)
  | .inl _ => none
  | .inr t => match ce_low F t with
    | none => none
    | some lo => match ce_le F t lo with
      | true => match lo with
        | .ofNat k => some (.inl k)
        | _ => none
      | false => some (.inr (t, lo))
theorem ce_of_toInt {x : Int32} {k : Nat} (h : x.toInt = (k : Int)) : x = nI k := by
  rw [← Int32.ofInt_toInt x, h]; rfl
theorem ce_ix_ok {z : ce_U} {F : ce_F} {i : ce_SI} {k : Nat} (h : ce_ix F i = some (.inl k)) (hF : ce_sat z F) : ce_vi z i = nI k := by
  match i, h with
  | .inl (.ofNat n), h => simp only [ce_ix, Option.some.injEq, Sum.inl.injEq] at h; subst h; rfl
  | .inl (.negSucc n), h => simp [ce_ix] at h
  | .inr t, h =>
    simp only [ce_ix] at h
    split at h
    · cases h
    · rename_i lo hlo
      split at h
      · rename_i hle
        split at h
        · simp only [Option.some.injEq, Sum.inl.injEq] at h
          subst h
          have a1 := ce_low_ok hlo hF
          have a2 := ce_le_ok hF hle
          exact ce_of_toInt (show (ce_I z t).toInt = _ by simp only [Int.ofNat_eq_natCast] at a1 a2; omega)
        · cases h
      · cases h
/-- the same step again, a number being at its bound, or above it -/
def ce_sp (pc : Nat) (t : Term) (lo : Int) (L : ce_L) (G : ce_G) : List (Nat × ce_L × ce_G) := [(pc, L, ((t, 1, lo) :: G.1, G.2)), (pc, L, ((t, 0, lo + 1) :: G.1, G.2))]
section Arr
variable {own nm : String} {cc : ByteArray} {nL : Nat} {ret : Option FieldType} {ht pc : Nat}
theorem ce_sp_ok {z : ce_U} {p : Program} {l : Launch} {e : Env} {R : Room} {s : State} {m : MethodId} {args : Array Value} {below : List Frame} {meth : Method} {c : Code} {Q : State → Prop} {ad0 : Nat → Nat} {n0 : Nat} {t : Term} {lo : Int} {L : ce_L} {G : ce_G} (hS : ∀ x ∈ ce_sp pc t lo L G, ce_WS z p l e R s m args below meth c Q nL ad0 n0 x.1 x.2.1 x.2.2) : ce_WS z p l e R s m args below meth c Q nL ad0 n0 pc L G := by
  intro ad ls H locs kc ks h1 h2 hl hI hv k1 k2
  by_cases hc : (ce_I z t).toInt ≤ lo
  · exact hS _ List.mem_cons_self ad ls H locs kc ks h1 h2 hl ⟨hI.1, hI.2.1, hI.2.2.1, ce_sat_cons (ce_fa1 hc) hI.2.2.2⟩ hv k1 k2
  · exact hS _ (List.mem_cons_of_mem _ List.mem_cons_self) ad ls H locs kc ks h1 h2 hl ⟨hI.1, hI.2.1, hI.2.2.1, ce_sat_cons (ce_fa0 (by omega)) hI.2.2.2⟩ hv k1 k2
theorem ce_nth_lt {α : Type} {l : List α} {k : Nat} {v : α} (h : ce_nth l k = some v) : k < l.length := by
  rw [ce_nth_eq] at h
  exact (List.getElem?_eq_some_iff.mp h).1
theorem ce_nth_D {l : List ce_SV} {k : Nat} {v : ce_SV} (h : ce_nth l k = some v) : l.getD k ce_0 = v := by
  rw [ce_nth_eq] at h
  rw [List.getD_eq_getElem?_getD, h]; rfl
/-- loads: of the script, of arrays of numbers, of references, of bytes of a constant text -/
def ce_iald (nx pc : Nat) : ce_P := fun L G => match L.2 with
  | .inl i :: .inr (.inr (.inl (.inl a))) :: r => match ce_ix G.1 i with
    | some (.inl k) => match ce_arr G a with
      | some x => match Nat.beq x.1 0 && Nat.blt x.2.length 60000 with
        | true => match ce_nth x.2 k with
          | some (.inl v) => some [(nx, (L.1, .inl v :: r), G)]
          | _ => none
        | false => none
      | none => none
    | some (.inr (t, lo)) => some (ce_sp pc t lo L G)
    | none => none
  | .inl (.inl (.ofNat k)) :: .inr (.inr (.inl (.inr 0))) :: r => match Nat.blt k 372 with
    | true => some [(nx, (L.1, .inl (.inl (rf_s k)) :: r), G)]
    | false => none
  | _ => none
theorem ok_iald (d : decode cc pc = .ok (.iaload, 1)) : ce_OK own nm cc nL ret ht pc (ce_iald (pc + 1) pc) := by
  intro z p l e R s m args below meth c Q ad0 n0 hC L G S h hS
  obtain ⟨lo, st⟩ := L
  simp only [ce_iald] at h
  split at h
  · rename_i i a r
    split at h
    · rename_i k hk
      split at h
      · rename_i x hx
        split at h
        · rename_i hb
          split at h
          · rename_i v hv9
            cases h
            intro ad ls H locs kc ks h1 h2 hl hI hv k1 k2
            simp only [Bool.and_eq_true, Nat.beq_eq] at hb
            obtain ⟨y1, y2⟩ := x
            obtain ⟨hb1, hb2⟩ := hb
            dsimp only at hb1 hb2 hv9
            subst hb1
            have hat := (ce_arr_at (z := z) (ad := ad) hx).2
            dsimp only at hat
            have hi := ce_ix_ok hk hI.2.2.2
            have hlt := ce_nth_lt hv9
            have hlen : y2.length < 60000 := Nat.lt_of_succ_le (Nat.le_of_ble_eq_true hb2)
            show W _ _ _ _ _ _ _ _ _ _ _ _ _ _ _ (F0 m pc ls (.int (ce_vi z i) :: .ref (ad a) :: r.map (ce_v z ad)))
            rw [hi]
            refine va_iald (f := fun j => ce_iv (ce_v z ad (y2.getD j ce_0))) hC.1 hC.2.1 (ce_CXK hC).1 hI.1 a 0 hat rfl (vp_in_nI hlt (by omega)) d ?_
            rw [nI_clamp (by omega), ce_nth_D hv9]
            exact hS _ (List.mem_singleton.mpr rfl) ad ls H locs kc ks h1 h2 hl hI hv k1 k2
          · cases h
        · cases h
      · cases h
    · cases h
      exact ce_sp_ok hS
    · cases h
  · rename_i k r
    split at h
    · rename_i hg
      cases h
      intro ad ls H locs kc ks h1 h2 hl hI hv k1 k2
      obtain ⟨b, e0, e1, e2, e3, e4, e5⟩ := (ce_CXK hC).2.2.2.2.1
      have hg2 : k < 372 := Nat.lt_of_succ_le (Nat.le_of_ble_eq_true hg)
      have hk : k < ce_len z := by omega
      show W _ _ _ _ _ _ _ _ _ _ _ _ _ _ _ (F0 m pc ls (.int (nI k) :: ce_ev z 0 :: r.map (ce_v z ad)))
      rw [e0]
      refine va_sld hC.1 hC.2.1 e3 e2 (Nat.not_le.mpr e1) hv (vp_in_nI hk (by omega)) d ?_
      rw [nI_clamp (by omega), e5 k hg2]
      exact hS _ (List.mem_singleton.mpr rfl) ad ls H locs kc ks h1 h2 hl hI hv k1 k2
    · cases h
  · cases h
def ce_lald (nx : Nat) : ce_P := fun L G => match L.2 with
  | .inl (.inl (.ofNat k)) :: .inr (.inr (.inl (.inl a))) :: r => match ce_arr G a with
    | some x => match Nat.beq x.1 4 && Nat.blt x.2.length 60000 with
      | true => match ce_nth x.2 k with
        | some (.inr (.inl v)) => some [(nx, (L.1, .inr (.inl v) :: r), G)]
        | _ => none
      | false => none
    | none => none
  | _ => none
theorem ok_lald (d : decode cc pc = .ok (.laload, 1)) : ce_OK own nm cc nL ret ht pc (ce_lald (pc + 1)) := by
  intro z p l e R s m args below meth c Q ad0 n0 hC L G S h hS ad ls H locs kc ks h1 h2 hl hI hv k1 k2
  obtain ⟨lo, st⟩ := L
  simp only [ce_lald] at h
  split at h
  · rename_i k a r
    split at h
    · rename_i x hx
      split at h
      · rename_i hb
        split at h
        · rename_i v hv9
          cases h
          simp only [Bool.and_eq_true, Nat.beq_eq] at hb
          obtain ⟨y1, y2⟩ := x
          obtain ⟨hb1, hb2⟩ := hb
          dsimp only at hb1 hb2 hv9
          subst hb1
          have hat := (ce_arr_at (z := z) (ad := ad) hx).2
          dsimp only at hat
          have hlt := ce_nth_lt hv9
          have hlen : y2.length < 60000 := Nat.lt_of_succ_le (Nat.le_of_ble_eq_true hb2)
          show W _ _ _ _ _ _ _ _ _ _ _ _ _ _ _ (F0 m pc ls (.int (nI k) :: .ref (ad a) :: r.map (ce_v z ad)))
          refine va_lald (f := fun j => ce_lv (ce_v z ad (y2.getD j ce_0))) hC.1 hC.2.1 (ce_CXK hC).1 hI.1 a 4 hat rfl (vp_in_nI hlt (by omega)) d ?_
          rw [nI_clamp (by omega), ce_nth_D hv9]
          exact hS _ (List.mem_singleton.mpr rfl) ad ls H locs kc ks h1 h2 hl hI hv k1 k2
        · cases h
      · cases h
    · cases h
  · cases h
/-- is it a reference that was made, or null -/
def ce_isR : ce_SV → Bool
  | .inr (.inr (.inl (.inl _))) => true
  | .inr (.inr (.inr .null)) => true
  | _ => false
theorem ce_isR_ok {z : ce_U} {ad : Nat → Nat} {v : ce_SV} (h : ce_isR v = true) : va_rf (ce_rv (ce_v z ad v)) = ce_v z ad v := by
  unfold ce_isR at h
  split at h
  · rfl
  · rfl
  · cases h
def ce_aald (nx : Nat) : ce_P := fun L G => match L.2 with
  | .inl (.inl (.ofNat k)) :: .inr (.inr (.inl (.inl a))) :: r => match ce_arr G a with
    | some x => match Nat.blt 5 x.1 && (Nat.blt x.1 12 && Nat.blt x.2.length 60000) with
      | true => match ce_nth x.2 k with
        | some v => match ce_isR v with
          | true => some [(nx, (L.1, v :: r), G)]
          | false => none
        | none => none
      | false => none
    | none => none
  | _ => none
theorem ce_ty_ref {t : Nat} (h1 : 5 < t) (h2 : t < 12) (z : ce_U) : ∃ C, (ce_ty z)[t]? = some (ce_cA z t, .object C) := by
  rcases (by omega : t = 6 ∨ t = 7 ∨ t = 8 ∨ t = 9 ∨ t = 10 ∨ t = 11) with rfl | rfl | rfl | rfl | rfl | rfl <;> exact ⟨_, rfl⟩
theorem ce_ar_ref {t : Nat} (h1 : 5 < t) {z : ce_U} {ad : Nat → Nat} {es : List ce_SV} : ce_ar z ad t es = .inr (.inr (.inr (.inr (fun j => ce_rv (ce_v z ad (es.getD j ce_0)))))) := by
  unfold ce_ar
  rw [if_neg (by omega), if_neg (by omega), if_neg (by omega)]
theorem ok_aald (d : decode cc pc = .ok (.aaload, 1)) : ce_OK own nm cc nL ret ht pc (ce_aald (pc + 1)) := by
  intro z p l e R s m args below meth c Q ad0 n0 hC L G S h hS ad ls H locs kc ks h1 h2 hl hI hv k1 k2
  obtain ⟨lo, st⟩ := L
  simp only [ce_aald] at h
  split at h
  · rename_i k a r
    split at h
    · rename_i x hx
      split at h
      · rename_i hb
        split at h
        · rename_i v hv9
          split at h
          · rename_i hr
            cases h
            simp only [Bool.and_eq_true] at hb
            obtain ⟨y1, y2⟩ := x
            obtain ⟨hb1, hb2, hb3⟩ := hb
            have hb1 : 5 < y1 := Nat.lt_of_succ_le (Nat.le_of_ble_eq_true hb1)
            have hb2 : y1 < 12 := Nat.lt_of_succ_le (Nat.le_of_ble_eq_true hb2)
            have hlen : y2.length < 60000 := Nat.lt_of_succ_le (Nat.le_of_ble_eq_true hb3)
            dsimp only at hv9
            have hat := (ce_arr_at (z := z) (ad := ad) hx).2
            have hlt := ce_nth_lt hv9
            obtain ⟨C9, hty⟩ := ce_ty_ref hb1 hb2 z
            dsimp only at hat
            rw [ce_ar_ref hb1] at hat
            show W _ _ _ _ _ _ _ _ _ _ _ _ _ _ _ (F0 m pc ls (.int (nI k) :: .ref (ad a) :: r.map (ce_v z ad)))
            refine va_aldq hC.1 hC.2.1 (ce_CXK hC).1 hI.1 a y1 hat hty (vp_in_nI hlt (by omega)) d ?_
            rw [nI_clamp (by omega), ce_nth_D hv9, ce_isR_ok hr]
            exact hS _ (List.mem_singleton.mpr rfl) ad ls H locs kc ks h1 h2 hl hI hv k1 k2
          · cases h
        · cases h
      · cases h
    · cases h
  · cases h
def ce_ewns : List Int := [101, 119, 110, 115]
def ce_bald (nx : Nat) : ce_P := fun L G => match L.2 with
  | .inl (.inl (.ofNat k)) :: .inr (.inr (.inl (.inl a))) :: r => match ce_arr G a with
    | some x => match Nat.beq x.1 2 && Nat.blt x.2.length 60000 with
      | true => match ce_nth x.2 k with
        | some (.inl v) => some [(nx, (L.1, .inl v :: r), G)]
        | _ => none
      | false => none
    | none => none
  | .inl (.inl (.ofNat k)) :: .inr (.inr (.inl (.inr 5))) :: r => match ce_nth ce_ewns k with
    | some v => some [(nx, (L.1, .inl (.inl v) :: r), G)]
    | none => none
  | _ => none
theorem ok_bald (d : decode cc pc = .ok (.baload, 1)) : ce_OK own nm cc nL ret ht pc (ce_bald (pc + 1)) := by
  intro z p l e R s m args below meth c Q ad0 n0 hC L G S h hS ad ls H locs kc ks h1 h2 hl hI hv k1 k2
  obtain ⟨lo, st⟩ := L
  simp only [ce_bald] at h
  split at h
  · rename_i k a r
    split at h
    · rename_i x hx
      split at h
      · rename_i hb
        split at h
        · rename_i v hv9
          cases h
          simp only [Bool.and_eq_true, Nat.beq_eq] at hb
          obtain ⟨y1, y2⟩ := x
          obtain ⟨hb1, hb2⟩ := hb
          dsimp only at hb1 hb2 hv9
          subst hb1
          have hat := (ce_arr_at (z := z) (ad := ad) hx).2
          dsimp only at hat
          have hlt := ce_nth_lt hv9
          have hlen : y2.length < 60000 := Nat.lt_of_succ_le (Nat.le_of_ble_eq_true hb2)
          show W _ _ _ _ _ _ _ _ _ _ _ _ _ _ _ (F0 m pc ls (.int (nI k) :: .ref (ad a) :: r.map (ce_v z ad)))
          refine va_bald (f := fun j => ce_iv (ce_v z ad (y2.getD j ce_0))) hC.1 hC.2.1 (ce_CXK hC).1 hI.1 a 2 hat rfl (vp_in_nI hlt (by omega)) d ?_
          rw [nI_clamp (by omega), ce_nth_D hv9]
          exact hS _ (List.mem_singleton.mpr rfl) ad ls H locs kc ks h1 h2 hl hI hv k1 k2
        · cases h
      · cases h
    · cases h
  · rename_i k r
    split at h
    · rename_i v hv9
      cases h
      obtain ⟨aK, aV, e2, e3, e4, e5, hE, -, -⟩ := (ce_CXK hC).2.2.2.2.2.2.1
      have hlt : k < 4 := ce_nth_lt hv9
      show W _ _ _ _ _ _ _ _ _ _ _ _ _ _ _ (F0 m pc ls (.int (nI k) :: ce_ev z 5 :: r.map (ce_v z ad)))
      rw [e5]
      refine va_tb hC.1 hC.2.1 (hE.1 1 (by omega)).2.2.2 hv (vp_in_nI hlt (by decide)) (v := ce_v z ad (.inl (.inl v))) ?_ d ?_
      · rw [nI_clamp (by omega)]
        rcases (by omega : k = 0 ∨ k = 1 ∨ k = 2 ∨ k = 3) with rfl | rfl | rfl | rfl <;> (simp only [ce_ewns, ce_nth, Option.some.injEq] at hv9; subst hv9; rfl)
      · exact hS _ (List.mem_singleton.mpr rfl) ad ls H locs kc ks h1 h2 hl hI hv k1 k2
    · cases h
  · cases h
def ce_alen (nx : Nat) : ce_P := fun L G => match L.2 with
  | .inr (.inr (.inl (.inl a))) :: r => match ce_arr G a with
    | some x => match Nat.blt x.1 12 with
      | true => some [(nx, (L.1, .inl (.inl (.ofNat x.2.length)) :: r), G)]
      | false => none
    | none => none
  | .inr (.inr (.inl (.inr 0))) :: r => some [(nx, (L.1, .inl (.inl 372) :: r), G)]
  | .inr (.inr (.inl (.inr 1))) :: r => some [(nx, (L.1, .inl (.inl 0) :: r), G)]
  | .inr (.inr (.inl (.inr 3))) :: r => some [(nx, (L.1, .inl (.inl 0) :: r), G)]
  | .inr (.inr (.inl (.inr 5))) :: r => some [(nx, (L.1, .inl (.inl 4) :: r), G)]
  | _ => none
theorem ce_ty_any {t : Nat} (h2 : t < 12) (z : ce_U) : ∃ ty, (ce_ty z)[t]? = some (ce_cA z t, ty) := by
  rcases (by omega : t = 0 ∨ t = 1 ∨ t = 2 ∨ t = 3 ∨ t = 4 ∨ t = 5 ∨ t = 6 ∨ t = 7 ∨ t = 8 ∨ t = 9 ∨ t = 10 ∨ t = 11) with rfl | rfl | rfl | rfl | rfl | rfl | rfl | rfl | rfl | rfl | rfl | rfl <;> exact ⟨_, rfl⟩
theorem ok_alen (d : decode cc pc = .ok (.arraylength, 1)) : ce_OK own nm cc nL ret ht pc (ce_alen (pc + 1)) := by
  intro z p l e R s m args below meth c Q ad0 n0 hC L G S h hS ad ls H locs kc ks h1 h2 hl hI hv k1 k2
  obtain ⟨lo, st⟩ := L
  simp only [ce_alen] at h
  split at h
  · rename_i a r
    split at h
    · rename_i x hx
      split at h
      · rename_i hb
        cases h
        obtain ⟨ty, hty⟩ := ce_ty_any (Nat.lt_of_succ_le (Nat.le_of_ble_eq_true hb)) z
        have hat := (ce_arr_at (z := z) (ad := ad) hx).2
        refine va_alen hC.1 hC.2.1 (ce_CXK hC).1 hI.1 a x.1 hat hty (v := ce_vi z (.inl (.ofNat x.2.length))) rfl d ?_
        exact hS _ (List.mem_singleton.mpr rfl) ad ls H locs kc ks h1 h2 hl hI hv k1 k2
      · cases h
    · cases h
  · rename_i r
    cases h
    obtain ⟨b, e0, e1, e2, e3, e4, e5⟩ := (ce_CXK hC).2.2.2.2.1
    show W _ _ _ _ _ _ _ _ _ _ _ _ _ _ _ (F0 m pc ls (ce_ev z 0 :: r.map (ce_v z ad)))
    rw [e0]
    refine va_slen hC.1 hC.2.1 e3 e2 (Nat.not_le.mpr e1) hv d ?_
    rw [e4]
    exact hS _ (List.mem_singleton.mpr rfl) ad ls H locs kc ks h1 h2 hl hI hv k1 k2
  · rename_i r
    cases h
    obtain ⟨t, e0, e1, -⟩ := (ce_CXK hC).2.2.2.2.2.1
    show W _ _ _ _ _ _ _ _ _ _ _ _ _ _ _ (F0 m pc ls (ce_ev z 1 :: r.map (ce_v z ad)))
    rw [e0]
    refine va_tlen hC.1 hC.2.1 e1 hv (v := ce_vi z (.inl 0)) rfl d ?_
    exact hS _ (List.mem_singleton.mpr rfl) ad ls H locs kc ks h1 h2 hl hI hv k1 k2
  · rename_i r
    cases h
    obtain ⟨aK, aV, e2, e3, e4, e5, hE, -, -⟩ := (ce_CXK hC).2.2.2.2.2.2.1
    show W _ _ _ _ _ _ _ _ _ _ _ _ _ _ _ (F0 m pc ls (ce_ev z 3 :: r.map (ce_v z ad)))
    rw [e3]
    refine va_tlen hC.1 hC.2.1 (hE.1 0 (by omega)).2.2.2 hv (v := ce_vi z (.inl 0)) rfl d ?_
    exact hS _ (List.mem_singleton.mpr rfl) ad ls H locs kc ks h1 h2 hl hI hv k1 k2
  · rename_i r
    cases h
    obtain ⟨aK, aV, e2, e3, e4, e5, hE, -, -⟩ := (ce_CXK hC).2.2.2.2.2.2.1
    show W _ _ _ _ _ _ _ _ _ _ _ _ _ _ _ (F0 m pc ls (ce_ev z 5 :: r.map (ce_v z ad)))
    rw [e5]
    refine va_tlen hC.1 hC.2.1 (hE.1 1 (by omega)).2.2.2 hv (v := ce_vi z (.inl 4)) rfl d ?_
    exact hS _ (List.mem_singleton.mpr rfl) ad ls H locs kc ks h1 h2 hl hI hv k1 k2
  · cases h
/-- stores -/
theorem ce_set_fun {β : Type} {g : Value → β} {z : ce_U} {ad : Nat → Nat} {es : List ce_SV} {k : Nat} {v : ce_SV} (hk : k < es.length) : (fun j => if j = k then g (ce_v z ad v) else g (ce_v z ad (es.getD j ce_0))) = fun j => g (ce_v z ad ((es.set k v).getD j ce_0)) := by
  funext j
  by_cases hj : j = k
  · subst hj
    rw [if_pos rfl, List.getD_eq_getElem?_getD, List.getElem?_set_self hk]; rfl
  · rw [if_neg hj, List.getD_eq_getElem?_getD, List.getD_eq_getElem?_getD, List.getElem?_set_ne (Ne.symm hj)]
/-- what may stand in an array of this kind -/
def ce_fa2s (t : Nat) (v : ce_SI) : Bool := match t with
  | 0 => true
  | 1 => ce_fit .char (.inl v)
  | 2 => ce_fit .byte (.inl v)
  | _ => false
def ce_iast (t nx pc : Nat) : ce_P := fun L G => match L.2 with
  | .inl v :: .inl i :: .inr (.inr (.inl (.inl a))) :: r => match ce_ix G.1 i with
    | some (.inl k) => match ce_arr G a with
      | some x => match Nat.beq x.1 t && (Nat.blt x.2.length 60000 && (Nat.blt k x.2.length && ce_fa2s t v)) with
        | true => some [(nx, (L.1, r), (G.1, G.2.1.set a (.inr (x.1, x.2.set k (.inl v))), G.2.2))]
        | false => none
      | none => none
    | some (.inr (t9, lo)) => some (ce_sp pc t9 lo L G)
    | none => none
  | _ => none
theorem ok_iastore (d : decode cc pc = .ok (.iastore, 1)) : ce_OK own nm cc nL ret ht pc (ce_iast 0 (pc + 1) pc) := by
  intro z p l e R s m args below meth c Q ad0 n0 hC L G S h hS
  obtain ⟨lo, st⟩ := L
  simp only [ce_iast] at h
  split at h
  · rename_i v i a r
    split at h
    · rename_i k hk
      split at h
      · rename_i x hx
        split at h
        · rename_i hb
          cases h
          intro ad ls H locs kc ks h1 h2 hl hI hv k1 k2
          simp only [Bool.and_eq_true, Nat.beq_eq] at hb
          obtain ⟨y1, y2⟩ := x
          obtain ⟨hb1, hb2, hb3, hb4⟩ := hb
          dsimp only at hb1
          subst hb1
          obtain ⟨hat0, hat⟩ := ce_arr_at (z := z) (ad := ad) hx
          dsimp only at hat
          have hi := ce_ix_ok hk hI.2.2.2
          have hlen : y2.length < 60000 := Nat.lt_of_succ_le (Nat.le_of_ble_eq_true hb2)
          have hlt : k < y2.length := Nat.lt_of_succ_le (Nat.le_of_ble_eq_true hb3)
          show W _ _ _ _ _ _ _ _ _ _ _ _ _ _ _ (F0 m pc ls (.int (ce_vi z v) :: .int (ce_vi z i) :: .ref (ad a) :: r.map (ce_v z ad)))
          rw [hi]
          refine va_iast (f := fun j => ce_iv (ce_v z ad (y2.getD j ce_0))) hC.1 hC.2.1 (ce_CXK hC).1 hI.1 hI.2.1 hv a 0 hat rfl (vp_in_nI hlt (by omega)) d (fun H1 locs1 hP hD hS1 => ?_)
          · rw [nI_clamp (by omega)] at hP hD
            have hf : upd (fun j => ce_iv (ce_v z ad (y2.getD j ce_0))) k (ce_vi z v) = fun j => ce_iv (ce_v z ad ((y2.set k (.inl v)).getD j ce_0)) := ce_set_fun (g := ce_iv) (v := .inl v) hlt
            rw [hf] at hP hD
            have he : ce_e z ad (.inr (0, y2.set k (.inl v))) = .inl (ce_cA z 0, y2.length, .inl (fun j => ce_iv (ce_v z ad ((y2.set k (.inl v)).getD j ce_0)))) := by
              simp only [ce_e, List.length_set]; rfl
            rw [← he] at hP hD
            have hwe : ce_we G.2.1.length (.inr (0, y2)) = true := List.all_eq_true.mp hI.2.2.1 _ (List.mem_of_getElem? hat0)
            exact hS _ (List.mem_singleton.mpr rfl) ad ls H1 locs1 kc ks h1 (by simpa using h2) hl (ce_Inv_set (e := .inr (0, y2.set k (.inl v))) hI.2.2 hat0 (ce_all_set (l := y2) hwe rfl) hP hD) hS1 k1 k2
        · cases h
      · cases h
    · cases h
      exact ce_sp_ok hS
    · cases h
  · cases h
theorem ok_castore (d : decode cc pc = .ok (.castore, 1)) : ce_OK own nm cc nL ret ht pc (ce_iast 1 (pc + 1) pc) := by
  intro z p l e R s m args below meth c Q ad0 n0 hC L G S h hS
  obtain ⟨lo, st⟩ := L
  simp only [ce_iast] at h
  split at h
  · rename_i v i a r
    split at h
    · rename_i k hk
      split at h
      · rename_i x hx
        split at h
        · rename_i hb
          cases h
          intro ad ls H locs kc ks h1 h2 hl hI hv k1 k2
          simp only [Bool.and_eq_true, Nat.beq_eq] at hb
          obtain ⟨y1, y2⟩ := x
          obtain ⟨hb1, hb2, hb3, hb4⟩ := hb
          dsimp only at hb1
          subst hb1
          obtain ⟨hat0, hat⟩ := ce_arr_at (z := z) (ad := ad) hx
          dsimp only at hat
          have hi := ce_ix_ok hk hI.2.2.2
          have hlen : y2.length < 60000 := Nat.lt_of_succ_le (Nat.le_of_ble_eq_true hb2)
          have hlt : k < y2.length := Nat.lt_of_succ_le (Nat.le_of_ble_eq_true hb3)
          show W _ _ _ _ _ _ _ _ _ _ _ _ _ _ _ (F0 m pc ls (.int (ce_vi z v) :: .int (ce_vi z i) :: .ref (ad a) :: r.map (ce_v z ad)))
          rw [hi]
          refine va_cast (f := fun j => ce_iv (ce_v z ad (y2.getD j ce_0))) hC.1 hC.2.1 (ce_CXK hC).1 hI.1 hI.2.1 hv a 1 hat rfl (vp_in_nI hlt (by omega)) d (fun H1 locs1 hP hD hS1 => ?_)
          · rw [nI_clamp (by omega)] at hP hD
            have hnar : vp_nar .char (ce_vi z v) = ce_vi z v := by
              have e8 := (ce_fit_ok (ce_CXK hC) (ad := ad) (ty := .char) (v := .inl v) hb4).1
              simp only [ce_v] at e8
              unfold vp_nar
              rw [e8]
            rw [hnar] at hP hD
            have hf : upd (fun j => ce_iv (ce_v z ad (y2.getD j ce_0))) k (ce_vi z v) = fun j => ce_iv (ce_v z ad ((y2.set k (.inl v)).getD j ce_0)) := ce_set_fun (g := ce_iv) (v := .inl v) hlt
            rw [hf] at hP hD
            have he : ce_e z ad (.inr (1, y2.set k (.inl v))) = .inl (ce_cA z 1, y2.length, .inl (fun j => ce_iv (ce_v z ad ((y2.set k (.inl v)).getD j ce_0)))) := by
              simp only [ce_e, List.length_set]; rfl
            rw [← he] at hP hD
            have hwe : ce_we G.2.1.length (.inr (1, y2)) = true := List.all_eq_true.mp hI.2.2.1 _ (List.mem_of_getElem? hat0)
            exact hS _ (List.mem_singleton.mpr rfl) ad ls H1 locs1 kc ks h1 (by simpa using h2) hl (ce_Inv_set (e := .inr (1, y2.set k (.inl v))) hI.2.2 hat0 (ce_all_set (l := y2) hwe rfl) hP hD) hS1 k1 k2
        · cases h
      · cases h
    · cases h
      exact ce_sp_ok hS
    · cases h
  · cases h
theorem ok_bastore (d : decode cc pc = .ok (.bastore, 1)) : ce_OK own nm cc nL ret ht pc (ce_iast 2 (pc + 1) pc) := by
  intro z p l e R s m args below meth c Q ad0 n0 hC L G S h hS
  obtain ⟨lo, st⟩ := L
  simp only [ce_iast] at h
  split at h
  · rename_i v i a r
    split at h
    · rename_i k hk
      split at h
      · rename_i x hx
        split at h
        · rename_i hb
          cases h
          intro ad ls H locs kc ks h1 h2 hl hI hv k1 k2
          simp only [Bool.and_eq_true, Nat.beq_eq] at hb
          obtain ⟨y1, y2⟩ := x
          obtain ⟨hb1, hb2, hb3, hb4⟩ := hb
          dsimp only at hb1
          subst hb1
          obtain ⟨hat0, hat⟩ := ce_arr_at (z := z) (ad := ad) hx
          dsimp only at hat
          have hi := ce_ix_ok hk hI.2.2.2
          have hlen : y2.length < 60000 := Nat.lt_of_succ_le (Nat.le_of_ble_eq_true hb2)
          have hlt : k < y2.length := Nat.lt_of_succ_le (Nat.le_of_ble_eq_true hb3)
          show W _ _ _ _ _ _ _ _ _ _ _ _ _ _ _ (F0 m pc ls (.int (ce_vi z v) :: .int (ce_vi z i) :: .ref (ad a) :: r.map (ce_v z ad)))
          rw [hi]
          refine va_bast (f := fun j => ce_iv (ce_v z ad (y2.getD j ce_0))) hC.1 hC.2.1 (ce_CXK hC).1 hI.1 hI.2.1 hv a 2 hat rfl (vp_in_nI hlt (by omega)) d (fun H1 locs1 hP hD hS1 => ?_)
          · rw [nI_clamp (by omega)] at hP hD
            have hnar : vp_nar .byte (ce_vi z v) = ce_vi z v := by
              have e8 := (ce_fit_ok (ce_CXK hC) (ad := ad) (ty := .byte) (v := .inl v) hb4).1
              simp only [ce_v] at e8
              unfold vp_nar
              rw [e8]
            rw [hnar] at hP hD
            have hf : upd (fun j => ce_iv (ce_v z ad (y2.getD j ce_0))) k (ce_vi z v) = fun j => ce_iv (ce_v z ad ((y2.set k (.inl v)).getD j ce_0)) := ce_set_fun (g := ce_iv) (v := .inl v) hlt
            rw [hf] at hP hD
            have he : ce_e z ad (.inr (2, y2.set k (.inl v))) = .inl (ce_cA z 2, y2.length, .inl (fun j => ce_iv (ce_v z ad ((y2.set k (.inl v)).getD j ce_0)))) := by
              simp only [ce_e, List.length_set]; rfl
            rw [← he] at hP hD
            have hwe : ce_we G.2.1.length (.inr (2, y2)) = true := List.all_eq_true.mp hI.2.2.1 _ (List.mem_of_getElem? hat0)
            exact hS _ (List.mem_singleton.mpr rfl) ad ls H1 locs1 kc ks h1 (by simpa using h2) hl (ce_Inv_set (e := .inr (2, y2.set k (.inl v))) hI.2.2 hat0 (ce_all_set (l := y2) hwe rfl) hP hD) hS1 k1 k2
        · cases h
      · cases h
    · cases h
      exact ce_sp_ok hS
    · cases h
  · cases h
def ce_last (nx : Nat) : ce_P := fun L G => match L.2 with
  | .inr (.inl v) :: .inl (.inl (.ofNat k)) :: .inr (.inr (.inl (.inl a))) :: r => match ce_arr G a with
    | some x => match Nat.beq x.1 4 && (Nat.blt x.2.length 60000 && Nat.blt k x.2.length) with
      | true => some [(nx, (L.1, r), (G.1, G.2.1.set a (.inr (x.1, x.2.set k (.inr (.inl v)))), G.2.2))]
      | false => none
    | none => none
  | _ => none
theorem ok_last (d : decode cc pc = .ok (.lastore, 1)) : ce_OK own nm cc nL ret ht pc (ce_last (pc + 1)) := by
  intro z p l e R s m args below meth c Q ad0 n0 hC L G S h hS ad ls H locs kc ks h1 h2 hl hI hv k1 k2
  obtain ⟨lo, st⟩ := L
  simp only [ce_last] at h
  split at h
  · rename_i v k a r
    split at h
    · rename_i x hx
      split at h
      · rename_i hb
        cases h
        simp only [Bool.and_eq_true, Nat.beq_eq] at hb
        obtain ⟨y1, y2⟩ := x
        obtain ⟨hb1, hb2, hb3⟩ := hb
        dsimp only at hb1
        subst hb1
        obtain ⟨hat0, hat⟩ := ce_arr_at (z := z) (ad := ad) hx
        dsimp only at hat
        have hlen : y2.length < 60000 := Nat.lt_of_succ_le (Nat.le_of_ble_eq_true hb2)
        have hlt : k < y2.length := Nat.lt_of_succ_le (Nat.le_of_ble_eq_true hb3)
        show W _ _ _ _ _ _ _ _ _ _ _ _ _ _ _ (F0 m pc ls (.long (ce_vl z v) :: .int (nI k) :: .ref (ad a) :: r.map (ce_v z ad)))
        refine va_last (f := fun j => ce_lv (ce_v z ad (y2.getD j ce_0))) hC.1 hC.2.1 (ce_CXK hC).1 hI.1 hI.2.1 hv a 4 hat rfl (vp_in_nI hlt (by omega)) d (fun H1 locs1 hP hD hS1 => ?_)
        rw [nI_clamp (by omega)] at hP hD
        have hf : vp_updL (fun j => ce_lv (ce_v z ad (y2.getD j ce_0))) k (ce_vl z v) = fun j => ce_lv (ce_v z ad ((y2.set k (.inr (.inl v))).getD j ce_0)) := ce_set_fun (g := ce_lv) (v := .inr (.inl v)) hlt
        rw [hf] at hP hD
        have he : ce_e z ad (.inr (4, y2.set k (.inr (.inl v)))) = .inl (ce_cA z 4, y2.length, .inr (.inl (fun j => ce_lv (ce_v z ad ((y2.set k (.inr (.inl v))).getD j ce_0))))) := by
          simp only [ce_e, List.length_set]; rfl
        rw [← he] at hP hD
        have hwe : ce_we G.2.1.length (.inr (4, y2)) = true := List.all_eq_true.mp hI.2.2.1 _ (List.mem_of_getElem? hat0)
        exact hS _ (List.mem_singleton.mpr rfl) ad ls H1 locs1 kc ks h1 (by simpa using h2) hl (ce_Inv_set (e := .inr (4, y2.set k (.inr (.inl v)))) hI.2.2 hat0 (ce_all_set (l := y2) hwe rfl) hP hD) hS1 k1 k2
      · cases h
    · cases h
  · cases h
/-- which objects may stand in which arrays: kind of the array, class of the object -/
def ce_ao (t ci : Nat) : Bool := match t, ci with
  | 6, 19 => true
  | 6, 17 => true
  | 6, 16 => true
  | 7, 14 => true
  | 8, 7 => true
  | 9, 9 => true
  | 10, 6 => true
  | 11, 4 => true
  | _, _ => false
theorem ce_ao_ok {z : ce_U} {s : State} {t ci : Nat} (h : ce_ao t ci = true) (hK : ce_CK z s) : 5 < t ∧ ∃ (E : String) (r : vw_C), (ce_ty z)[t]? = some (ce_cA z t, .object E) ∧ ce_cl[ci]? = some r ∧ (va_Nw (.castable r.1 E) s ∨ r.1 = E) := by
  have hn := hK.2.2.2.1.1
  unfold ce_ao at h
  split at h
  · exact ⟨by omega, _, _, rfl, rfl, Or.inl (hn _ (by decide +kernel))⟩
  · exact ⟨by omega, _, _, rfl, rfl, Or.inl (hn _ (by decide +kernel))⟩
  · exact ⟨by omega, _, _, rfl, rfl, Or.inl (hn _ (by decide +kernel))⟩
  · exact ⟨by omega, _, _, rfl, rfl, Or.inr rfl⟩
  · exact ⟨by omega, _, _, rfl, rfl, Or.inr rfl⟩
  · exact ⟨by omega, _, _, rfl, rfl, Or.inr rfl⟩
  · exact ⟨by omega, _, _, rfl, rfl, Or.inr rfl⟩
  · exact ⟨by omega, _, _, rfl, rfl, Or.inr rfl⟩
  · cases h
/-- a made object into an array: ci its class, t the array's kind -/
def ce_aast (nx : Nat) : ce_P := fun L G => match L.2 with
  | .inr (.inr (.inl (.inl b))) :: .inl (.inl (.ofNat k)) :: .inr (.inr (.inl (.inl a))) :: r => match ce_arr G a, ce_obj G b with
    | some x, some y => match ce_ao x.1 y.1 && (Nat.blt x.2.length 60000 && (Nat.blt k x.2.length && Nat.blt b G.2.1.length)) with
      | true => some [(nx, (L.1, r), (G.1, G.2.1.set a (.inr (x.1, x.2.set k (.inr (.inr (.inl (.inl b)))))), G.2.2))]
      | false => none
    | _, _ => none
  | _ => none
theorem ok_aast (d : decode cc pc = .ok (.aastore, 1)) : ce_OK own nm cc nL ret ht pc (ce_aast (pc + 1)) := by
  intro z p l e R s m args below meth c Q ad0 n0 hC L G S h hS ad ls H locs kc ks h1 h2 hl hI hv k1 k2
  obtain ⟨lo, st⟩ := L
  simp only [ce_aast] at h
  split at h
  · rename_i b k a r
    split at h
    · rename_i x y hx hy
      split at h
      · rename_i hb
        cases h
        simp only [Bool.and_eq_true] at hb
        obtain ⟨y1, y2⟩ := x
        obtain ⟨o1, o2⟩ := y
        obtain ⟨hb1, hb2, hb3, hb4⟩ := hb
        dsimp only at hb1
        obtain ⟨hat0, hat⟩ := ce_arr_at (z := z) (ad := ad) hx
        obtain ⟨hbt0, hbt⟩ := ce_obj_at (z := z) (ad := ad) hy
        have hlen : y2.length < 60000 := Nat.lt_of_succ_le (Nat.le_of_ble_eq_true hb2)
        have hlt : k < y2.length := Nat.lt_of_succ_le (Nat.le_of_ble_eq_true hb3)
        obtain ⟨h5, E9, r9, hty, hcl, hca⟩ := ce_ao_ok (z := z) hb1 (ce_CXK hC)
        dsimp only at hat
        rw [ce_ar_ref h5] at hat
        show W _ _ _ _ _ _ _ _ _ _ _ _ _ _ _ (F0 m pc ls (.ref (ad b) :: .int (nI k) :: .ref (ad a) :: r.map (ce_v z ad)))
        have hkk : ∀ (H1 : Heap) (locs1 : List Loc), va_P (ce_D z) ce_cl ((ce_w z ad 0 G.2.1).set a (ad a, .inl (ce_cA z y1, y2.length, .inr (.inr (.inr (.inr (va_up (fun j => ce_rv (ce_v z ad (y2.getD j ce_0))) (nI k).toNatClampNeg (some (ad b))))))))) H1 → va_D (ce_A z) ((ce_w z ad 0 G.2.1).set a (ad a, .inl (ce_cA z y1, y2.length, .inr (.inr (.inr (.inr (va_up (fun j => ce_rv (ce_v z ad (y2.getD j ce_0))) (nI k).toNatClampNeg (some (ad b))))))))) → va_S (ce_A z) s.heap H1 locs1 → W p l e R s m args below meth c H1 locs1 kc ks Q (F0 m (pc + 1) ls (r.map (ce_v z ad))) := by
          intro H1 locs1 hP hD hS1
          rw [nI_clamp (by omega)] at hP hD
          have hf : va_up (fun j => ce_rv (ce_v z ad (y2.getD j ce_0))) k (some (ad b)) = fun j => ce_rv (ce_v z ad ((y2.set k (.inr (.inr (.inl (.inl b))))).getD j ce_0)) := ce_set_fun (g := ce_rv) (v := .inr (.inr (.inl (.inl b)))) hlt
          rw [hf] at hP hD
          have he : ce_e z ad (.inr (y1, y2.set k (.inr (.inr (.inl (.inl b)))))) = .inl (ce_cA z y1, y2.length, .inr (.inr (.inr (.inr (fun j => ce_rv (ce_v z ad ((y2.set k (.inr (.inr (.inl (.inl b))))).getD j ce_0))))))) := by
            simp only [ce_e, List.length_set, ce_ar_ref h5]
          rw [← he] at hP hD
          have hwe : ce_we G.2.1.length (.inr (y1, y2)) = true := List.all_eq_true.mp hI.2.2.1 _ (List.mem_of_getElem? hat0)
          exact hS _ (List.mem_singleton.mpr rfl) ad ls H1 locs1 kc ks h1 (by simpa using h2) hl (ce_Inv_set (e := .inr (y1, y2.set k (.inr (.inr (.inl (.inl b)))))) hI.2.2 hat0 (ce_all_set (l := y2) hwe hb4) hP hD) hS1 k1 k2
        rcases hca with hca | hca
        · exact va_astqO hC.1 hC.2.1 (ce_CXK hC).1 hI.1 hI.2.1 hv a y1 b o1 hat hty hca hbt hcl (vp_in_nI hlt (by omega)) d hkk
        · subst hca
          exact va_astq hC.1 hC.2.1 (ce_CXK hC).1 hI.1 hI.2.1 hv a y1 b o1 hat hty hbt hcl (vp_in_nI hlt (by omega)) d hkk
      · cases h
    · cases h
  · cases h
end Arr
