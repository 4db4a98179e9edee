/-! the greater and the lesser of two numbers, as the library's rows have them -/
section Mm
variable {own nm : String} {cc : ByteArray} {nL : Nat} {ret : Option FieldType} {ht pc : Nat}
def ce_mm (mx : Bool) (nx : Nat) : ce_P := fun L G => match L.2 with
  | .inl (.inl y) :: .inl (.inl x) :: r => match ce_r x && (ce_r y && Nat.ble (ce_wt r) 40) with
    | true => match mx with
      | true => match decide (x < y) with
        | true => some [(nx, (L.1, .inl (.inl y) :: r), G)]
        | false => some [(nx, (L.1, .inl (.inl x) :: r), G)]
      | false => match decide (y < x) with
        | true => some [(nx, (L.1, .inl (.inl y) :: r), G)]
        | false => some [(nx, (L.1, .inl (.inl x) :: r), G)]
    | false => none
  | _ => none
theorem ce_ltI {x y : Int} (hx : ce_r x = true) (hy : ce_r y = true) : Int32.ofInt x < Int32.ofInt y ↔ x < y := by
  rw [Int32.lt_iff_toInt_lt, ce_rt hx, ce_rt hy]
theorem ok_mmax {i : Nat} (d : decode cc pc = .ok (.invokestatic i, 3)) (g1 : Cond.methodLink own i Lib.Math.max.name ∈ ce_GW) (g2 : Cond.static Lib.Math.max.name ∈ ce_GW) (g3 : Cond.initialized "java/lang/Math" ∈ ce_GW) (g4 : Cond.code Lib.Math.max.name Lib.Math.max.code 2 (some .int) ∈ ce_GW) : ce_OK own nm cc nL ret ht pc (ce_mm true (pc + 3)) := by
  intro z p l e R s m args below meth c Q ad0 n0 hC L G S h hS ad ls H locs kc ks h1 h2 hl hI hv k1 k2
  obtain ⟨lo, st⟩ := L
  simp only [ce_mm] at h
  split at h
  · rename_i y x r
    split at h
    · rename_i hb
      simp only [Bool.and_eq_true] at hb
      obtain ⟨b1, b2, b3⟩ := hb
      obtain ⟨hl9, hfr, hlo⟩ := ce_CXl hC
      have b8 := Nat.le_trans (ce_wt_ok (ce_CXK hC) (ad := ad) r) (Nat.le_of_ble_eq_true b3)
      have hlt := ce_ltI b1 b2
      show W _ _ _ _ _ _ _ _ _ _ _ _ _ _ _ (F0 m pc ls (.int (Int32.ofInt y) :: .int (Int32.ofInt x) :: r.map (ce_v z ad)))
      refine va_mmax hC.1 hC.2.1 (hC.2.2.1.trans hl.1.symm) hC.2.2.2.1 (hC.2.2.2.2.1 _ g1) (hC.2.2.2.2.1 _ g2) (hC.2.2.2.2.1 _ g3) (hC.2.2.2.2.1 _ g4) (by omega) (by omega) (by omega) (by omega) d ?_
      split at h
      · rename_i hd
        cases h
        rw [if_pos (hlt.mpr (of_decide_eq_true hd))]
        exact hS _ (List.mem_singleton.mpr rfl) ad ls H locs kc ks h1 h2 hl hI hv k1 k2
      · rename_i hd
        cases h
        rw [if_neg (fun q => of_decide_eq_false hd (hlt.mp q))]
        exact hS _ (List.mem_singleton.mpr rfl) ad ls H locs kc ks h1 h2 hl hI hv k1 k2
    · cases h
  · cases h
theorem ok_mmin {i : Nat} (d : decode cc pc = .ok (.invokestatic i, 3)) (g1 : Cond.methodLink own i Lib.Math.min.name ∈ ce_GW) (g2 : Cond.static Lib.Math.min.name ∈ ce_GW) (g3 : Cond.initialized "java/lang/Math" ∈ ce_GW) (g4 : Cond.code Lib.Math.min.name Lib.Math.min.code 2 (some .int) ∈ ce_GW) : ce_OK own nm cc nL ret ht pc (ce_mm false (pc + 3)) := by
  intro z p l e R s m args below meth c Q ad0 n0 hC L G S h hS ad ls H locs kc ks h1 h2 hl hI hv k1 k2
  obtain ⟨lo, st⟩ := L
  simp only [ce_mm] at h
  split at h
  · rename_i y x r
    split at h
    · rename_i hb
      simp only [Bool.and_eq_true] at hb
      obtain ⟨b1, b2, b3⟩ := hb
      obtain ⟨hl9, hfr, hlo⟩ := ce_CXl hC
      have b8 := Nat.le_trans (ce_wt_ok (ce_CXK hC) (ad := ad) r) (Nat.le_of_ble_eq_true b3)
      have hlt := ce_ltI b2 b1
      show W _ _ _ _ _ _ _ _ _ _ _ _ _ _ _ (F0 m pc ls (.int (Int32.ofInt y) :: .int (Int32.ofInt x) :: r.map (ce_v z ad)))
      refine va_mmin hC.1 hC.2.1 (hC.2.2.1.trans hl.1.symm) hC.2.2.2.1 (hC.2.2.2.2.1 _ g1) (hC.2.2.2.2.1 _ g2) (hC.2.2.2.2.1 _ g3) (hC.2.2.2.2.1 _ g4) (by omega) (by omega) (by omega) (by omega) d ?_
      split at h
      · rename_i hd
        cases h
        rw [if_pos (hlt.mpr (of_decide_eq_true hd))]
        exact hS _ (List.mem_singleton.mpr rfl) ad ls H locs kc ks h1 h2 hl hI hv k1 k2
      · rename_i hd
        cases h
        rw [if_neg (fun q => of_decide_eq_false hd (hlt.mp q))]
        exact hS _ (List.mem_singleton.mpr rfl) ad ls H locs kc ks h1 h2 hl hI hv k1 k2
    · cases h
  · cases h
end Mm
