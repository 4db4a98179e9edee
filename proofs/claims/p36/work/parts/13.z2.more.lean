/-! two steps more: a cast that stands, and the greater one of a number and the next one -/
section More
variable {own nm : String} {cc : ByteArray} {nL : Nat} {ret : Option FieldType} {ht pc : Nat}
def ce_castO (ci nx : Nat) : ce_P := fun L G => match L.2 with
  | v :: r => match ce_rc ci v G with
    | true => some [(nx, (L.1, v :: r), G)]
    | false => none
  | _ => none
theorem ok_castO {i ci N : Nat} {C : String} {T : u_T} (hc : ce_cl[ci]? = some (C, T, N)) (d : decode cc pc = .ok (.checkcast i, 3)) (hk : Cond.classLink own i C ∈ ce_GW) : ce_OK own nm cc nL ret ht pc (ce_castO ci (pc + 3)) := by
  intro z p l e R s m args below meth c Q ad0 n0 hC L G S h hS ad ls H locs kc ks h1 h2 hl hI hv k1 k2
  obtain ⟨lo, st⟩ := L
  simp only [ce_castO] at h
  split at h
  · rename_i v r
    split at h
    · rename_i hb
      cases h
      obtain ⟨b, hb1, hcell⟩ := ce_rc_ok (ce_CXK hC) hI hv hc hb
      show W _ _ _ _ _ _ _ _ _ _ _ _ _ _ _ (F0 m pc ls (ce_v z ad v :: r.map (ce_v z ad)))
      rw [hb1]
      refine va_castS hC.1 hC.2.1 hC.2.2.2.1 (hC.2.2.2.2.1 _ hk) ((ce_CXK hC).1.1 ci _ hc).2 hcell d ?_
      rw [← hb1]
      exact hS _ (List.mem_singleton.mpr rfl) ad ls H locs kc ks h1 h2 hl hI hv k1 k2
    · cases h
  · cases h
def ce_mmx (nx : Nat) : ce_P := fun L G => match L.2 with
  | .inl (.inr y) :: .inl (.inr x) :: r => match decide (y = Term.add x (.int 1)) && (ce_ge G.1 x 0 && (ce_le G.1 x 9998 && Nat.ble (ce_wt r) 40)) with
    | true => some [(nx, (L.1, .inl (.inr y) :: r), G)]
    | false => none
  | _ => none
theorem ok_mmx {i : Nat} (d : decode cc pc = .ok (.invokestatic i, 3)) (g1 : Cond.methodLink own i Lib.Math.max.name ∈ ce_GW) (g2 : Cond.static Lib.Math.max.name ∈ ce_GW) (g3 : Cond.initialized "java/lang/Math" ∈ ce_GW) (g4 : Cond.code Lib.Math.max.name Lib.Math.max.code 2 (some .int) ∈ ce_GW) : ce_OK own nm cc nL ret ht pc (ce_mmx (pc + 3)) := by
  intro z p l e R s m args below meth c Q ad0 n0 hC L G S h hS ad ls H locs kc ks h1 h2 hl hI hv k1 k2
  obtain ⟨lo, st⟩ := L
  simp only [ce_mmx] at h
  split at h
  · rename_i y x r
    split at h
    · rename_i hb
      cases h
      simp only [Bool.and_eq_true, decide_eq_true_eq] at hb
      obtain ⟨b1, b2, b3, b4⟩ := hb
      subst b1
      have b2 := ce_ge_ok hI.2.2.2 b2
      have b3 := ce_le_ok hI.2.2.2 b3
      obtain ⟨hl9, hfr, hlo⟩ := ce_CXl hC
      have b8 := Nat.le_trans (ce_wt_ok (ce_CXK hC) (ad := ad) r) (Nat.le_of_ble_eq_true b4)
      have e1 : ce_I z (.add x (.int 1)) = Int32.ofInt ((ce_I z x).toInt + 1) := by
        show ce_I z x + 1 = _
        rw [Int32.ofInt_add, Int32.ofInt_toInt]; rfl
      have hlt : ce_I z x < ce_I z (.add x (.int 1)) := by
        rw [Int32.lt_iff_toInt_lt, e1, ce_rt (by simp only [ce_r, Bool.and_eq_true, decide_eq_true_eq]; omega)]
        omega
      show W _ _ _ _ _ _ _ _ _ _ _ _ _ _ _ (F0 m pc ls (.int (ce_I z (.add x (.int 1))) :: .int (ce_I z x) :: r.map (ce_v z ad)))
      refine va_mmax hC.1 hC.2.1 (hC.2.2.1.trans hl.1.symm) hC.2.2.2.1 (hC.2.2.2.2.1 _ g1) (hC.2.2.2.2.1 _ g2) (hC.2.2.2.2.1 _ g3) (hC.2.2.2.2.1 _ g4) (by omega) (by omega) (by omega) (by omega) d ?_
      rw [if_pos hlt]
      exact hS _ (List.mem_singleton.mpr rfl) ad ls H locs kc ks h1 h2 hl hI hv k1 k2
    · cases h
  · cases h
end More
