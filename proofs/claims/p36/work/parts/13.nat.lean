/-! a byte of a sign, copies of rows, the class of a row, a row's copy -/
section Nat9
variable {own nm : String} {cc : ByteArray} {nL : Nat} {ret : Option FieldType} {ht pc : Nat}
def ce_i2bF (nx pc : Nat) : ce_P := fun L G => match L.2 with
  | .inl (.inr t) :: r => match ce_ge G.1 t 0 && ce_le G.1 t 127 with
    | true => some [(nx, (L.1, .inl (.inr t) :: r), G)]
    | false => match ce_ge G.1 t 128 && ce_le G.1 t 255 with
      | true => some [(nx, (L.1, .inl (.inr (.old t)) :: r), ((.old t, 1, -1) :: G.1, G.2))]
      | false => some (ce_sp pc t 127 L G)
  | _ => none
theorem ce_b7 {x : Int32} (h0 : 0 ≤ x.toInt) (h1 : x.toInt ≤ 127) : x.toInt8.toInt32 = x := by
  have h := ce_byte (n := x.toInt) (by omega) h1
  rwa [Int32.ofInt_toInt] at h
theorem ce_b8 {x : Int32} (h0 : 128 ≤ x.toInt) (h1 : x.toInt ≤ 255) : x.toInt8.toInt32.toInt ≤ -1 := by
  rw [Int8.toInt_toInt32]
  have e : x = Int32.ofInt x.toInt := (Int32.ofInt_toInt x).symm
  rw [e, Int32.toInt8_ofInt, Int8.toInt_ofInt]
  have : (Int8.size : Nat) = 256 := rfl
  rw [this]
  generalize x.toInt = n at h0 h1
  simp only [Int.bmod]
  omega
theorem ok_i2bF (d : decode cc pc = .ok (.i2b, 1)) : ce_OK own nm cc nL ret ht pc (ce_i2bF (pc + 1) pc) := by
  intro z p l e R s m args below meth c Q ad0 n0 hC L G S h hS
  obtain ⟨lo, st⟩ := L
  simp only [ce_i2bF] at h
  split at h
  · rename_i t r
    split at h
    · rename_i hb
      cases h
      simp only [Bool.and_eq_true] at hb
      intro ad ls H locs kc ks h1 h2 hl hI hv k1 k2
      have e9 := ce_b7 (ce_ge_ok hI.2.2.2 hb.1) (ce_le_ok hI.2.2.2 hb.2)
      show W _ _ _ _ _ _ _ _ _ _ _ _ _ _ _ (F0 m pc ls (.int (ce_I z t) :: r.map (ce_v z ad)))
      refine lv_i2b hC.1 hC.2.1 d e9 ?_
      exact hS _ (List.mem_singleton.mpr rfl) ad ls H locs kc ks h1 h2 hl hI hv k1 k2
    · split at h
      · rename_i hb
        cases h
        simp only [Bool.and_eq_true] at hb
        intro ad ls H locs kc ks h1 h2 hl hI hv k1 k2
        have e9 := ce_b8 (ce_ge_ok hI.2.2.2 hb.1) (ce_le_ok hI.2.2.2 hb.2)
        show W _ _ _ _ _ _ _ _ _ _ _ _ _ _ _ (F0 m pc ls (.int (ce_I z t) :: r.map (ce_v z ad)))
        refine lv_i2b hC.1 hC.2.1 d rfl ?_
        exact hS _ (List.mem_singleton.mpr rfl) ad ls H locs kc ks h1 h2 hl ⟨hI.1, hI.2.1, hI.2.2.1, ce_sat_cons (ce_fa1 e9) hI.2.2.2⟩ hv k1 k2
      · cases h
        exact ce_sp_ok hS
  · cases h
def ce_cp (x y : List ce_SV) (i j n : Nat) : List ce_SV := y.take j ++ ((x.drop i).take n ++ y.drop (j + n))
theorem ce_cp_get {x y : List ce_SV} {i j n : Nat} (hx : i + n ≤ x.length) (hy : j + n ≤ y.length) (k : Nat) : (ce_cp x y i j n)[k]? = if j ≤ k ∧ k < j + n then x[i + (k - j)]? else y[k]? := by
  unfold ce_cp
  have l1 : (y.take j).length = j := by rw [List.length_take]; omega
  have l2 : ((x.drop i).take n).length = n := by rw [List.length_take, List.length_drop]; omega
  by_cases h1 : k < j
  · rw [List.getElem?_append_left (by omega), List.getElem?_take, if_pos h1, if_neg (by omega)]
  · rw [List.getElem?_append_right (by omega), l1]
    by_cases h2 : k < j + n
    · rw [List.getElem?_append_left (by omega), List.getElem?_take, if_pos (by omega), List.getElem?_drop, if_pos (by omega)]
    · rw [List.getElem?_append_right (by omega), l2, List.getElem?_drop, if_neg (by omega)]
      congr 1
      omega
theorem ce_cp_fun {β : Type} {g : Value → β} {z : ce_U} {ad : Nat → Nat} {x y : List ce_SV} {i j n : Nat} (hx : i + n ≤ x.length) (hy : j + n ≤ y.length) :
    (fun k => g (ce_v z ad ((ce_cp x y i j n).getD k ce_0))) = va_cpy (fun k => g (ce_v z ad (x.getD k ce_0))) (fun k => g (ce_v z ad (y.getD k ce_0))) i j n := by
  funext k
  simp only [va_cpy, List.getD_eq_getElem?_getD, ce_cp_get hx hy]
  split <;> rfl
theorem ce_cp_len {x y : List ce_SV} {i j n : Nat} (hx : i + n ≤ x.length) (hy : j + n ≤ y.length) : (ce_cp x y i j n).length = y.length := by
  simp only [ce_cp, List.length_append, List.length_take, List.length_drop]
  omega
theorem ce_cp_all {x y : List ce_SV} {i j n : Nat} {f : ce_SV → Bool} (hx : x.all f = true) (hy : y.all f = true) : (ce_cp x y i j n).all f = true := by
  refine List.all_eq_true.mpr fun v hv => ?_
  unfold ce_cp at hv
  rcases List.mem_append.mp hv with h | h
  · exact List.all_eq_true.mp hy v (List.mem_of_mem_take h)
  · rcases List.mem_append.mp h with h | h
    · exact List.all_eq_true.mp hx v (List.mem_of_mem_drop (List.mem_of_mem_take h))
    · exact List.all_eq_true.mp hy v (List.mem_of_mem_drop h)
theorem ce_fit_iv {z : ce_U} {s : State} (hK : ce_CK z s) {ad : Nat → Nat} {v : ce_SV} (h : ce_fit .byte v = true) : fits .byte (.int (ce_iv (ce_v z ad v))) = true := by
  have h2 := (ce_fit_ok hK (ad := ad) h).2
  match v, h, h2 with
  | .inl i, _, h2 => exact h2
/-- bytes copied from a row to another, and from the constant empty row -/
def ce_cpb (nx : Nat) : ce_P := fun L G => match L.2 with
  | .inl (.inl (.ofNat n)) :: .inl (.inl (.ofNat j)) :: .inr (.inr (.inl (.inl b))) :: .inl (.inl (.ofNat i)) :: .inr (.inr (.inl (.inl a))) :: r => match ce_arr G a, ce_arr G b with
    | some x, some y => match Nat.beq x.1 2 && (Nat.beq y.1 2 && (Nat.ble (i + n) x.2.length && (Nat.ble (j + n) y.2.length && (Nat.blt x.2.length 60000 && (Nat.blt y.2.length 60000 && (x.2.all (ce_fit .byte) && Nat.ble (ce_wt r) 40)))))) with
      | true => some [(nx, (L.1, r), (G.1, G.2.1.set b (.inr (2, ce_cp x.2 y.2 i j n)), G.2.2))]
      | false => none
    | _, _ => none
  | .inl (.inl (.ofNat n)) :: .inl (.inl (.ofNat j)) :: .inr (.inr (.inl (.inl b))) :: .inl (.inl (.ofNat i)) :: .inr (.inr (.inl (.inr k))) :: r => match ce_arr G b with
    | some y => match Nat.beq k 3 && (Nat.beq n 0 && (Nat.beq i 0 && (Nat.beq y.1 2 && (Nat.ble j y.2.length && (Nat.blt y.2.length 60000 && Nat.ble (ce_wt r) 40))))) with
      | true => some [(nx, (L.1, r), G)]
      | false => none
    | none => none
  | _ => none
theorem ce_nfw : nativeFrameWords "java/lang/System" "arraycopy" 5 ≤ 60 := by decide
theorem ok_cpb {i9 : Nat} (d : decode cc pc = .ok (.invokestatic i9, 3)) (g1 : Cond.methodLink own i9 arraycopyName ∈ ce_GW) (g2 : Cond.native arraycopyName ∈ ce_GW) (g3 : Cond.static arraycopyName ∈ ce_GW) (g4 : Cond.initialized "java/lang/System" ∈ ce_GW) : ce_OK own nm cc nL ret ht pc (ce_cpb (pc + 3)) := by
  intro z p l e R s m args below meth c Q ad0 n0 hC L G S h hS ad ls H locs kc ks h1 h2 hl hI hv k1 k2
  obtain ⟨lo, st⟩ := L
  have hK := ce_CXK hC
  obtain ⟨hl9, hfr, hlo⟩ := ce_CXl hC
  have hnf := ce_nfw
  have ex : ∀ es : List ce_SV, ce_ar z ad 2 es = .inl (fun j => ce_iv (ce_v z ad (es.getD j ce_0))) := fun es => rfl
  simp only [ce_cpb] at h
  split at h
  · rename_i n j b i a r
    split at h
    · rename_i x y hx hy
      split at h
      · rename_i hb
        cases h
        obtain ⟨x1, x2⟩ := x
        obtain ⟨y1, y2⟩ := y
        simp only [Bool.and_eq_true] at hb
        obtain ⟨b1, b2, b3, b4, b5, b6, b7, b8⟩ := hb
        have b1 := Nat.eq_of_beq_eq_true b1
        have b2 := Nat.eq_of_beq_eq_true b2
        subst b1
        subst b2
        have b3 := Nat.le_of_ble_eq_true b3
        have b4 := Nat.le_of_ble_eq_true b4
        have b5 : x2.length < 60000 := Nat.lt_of_succ_le (Nat.le_of_ble_eq_true b5)
        have b6 : y2.length < 60000 := Nat.lt_of_succ_le (Nat.le_of_ble_eq_true b6)
        have b8 := Nat.le_trans (ce_wt_ok hK (ad := ad) r) (Nat.le_of_ble_eq_true b8)
        obtain ⟨hx0, hxw⟩ := ce_arr_at (z := z) (ad := ad) hx
        obtain ⟨hy0, hyw⟩ := ce_arr_at (z := z) (ad := ad) hy
        dsimp only at hxw hyw b3 b4
        rw [ex] at hxw hyw
        have cn : (nI n).toNatClampNeg = n := nI_clamp (by omega)
        have ci : (nI i).toNatClampNeg = i := nI_clamp (by omega)
        have cj : (nI j).toNatClampNeg = j := nI_clamp (by omega)
        show W _ _ _ _ _ _ _ _ _ _ _ _ _ _ _ (F0 m pc ls (.int (nI n) :: .int (nI j) :: .ref (ad b) :: .int (nI i) :: .ref (ad a) :: r.map (ce_v z ad)))
        refine va_copyi (ty := .byte) hC.1 hC.2.1 (hC.2.2.1.trans hl.1.symm) hC.2.2.2.1 (hC.2.2.2.2.1 _ g1) (hC.2.2.2.2.1 _ g2) (hC.2.2.2.2.1 _ g3) (hC.2.2.2.2.1 _ g4) hK.1 hI.1 hI.2.1 hv a b 2 2 hxw hyw rfl rfl rfl (nI_pos (by omega)) (nI_pos (by omega)) (nI_pos (by omega)) (by rw [cn, ci]; exact b3) (by rw [cn, cj]; exact b4) (fun k hk => ?_) (by omega) (by omega) d (fun H1 locs1 hP hD hS1 => ?_)
        · rw [cn] at hk
          rw [ci]
          have hm : x2.getD (i + k) ce_0 ∈ x2 := by
            rw [List.getD_eq_getElem?_getD, List.getElem?_eq_getElem (by omega)]
            exact List.getElem_mem _
          exact ce_fit_iv hK (List.all_eq_true.mp b7 _ hm)
        · rw [cn, ci, cj, ← ce_cp_fun (g := ce_iv) b3 b4] at hP hD
          have he : ce_e z ad (.inr (2, ce_cp x2 y2 i j n)) = .inl (ce_cA z 2, y2.length, .inl (fun k => ce_iv (ce_v z ad ((ce_cp x2 y2 i j n).getD k ce_0)))) := by
            simp only [ce_e, ce_cp_len b3 b4, ex]
          rw [← he] at hP hD
          have hwx : ce_we G.2.1.length (.inr (2, x2)) = true := List.all_eq_true.mp hI.2.2.1 _ (List.mem_of_getElem? hx0)
          have hwy : ce_we G.2.1.length (.inr (2, y2)) = true := List.all_eq_true.mp hI.2.2.1 _ (List.mem_of_getElem? hy0)
          exact hS _ (List.mem_singleton.mpr rfl) ad ls H1 locs1 kc ks h1 (by simpa using h2) hl (ce_Inv_set (e := .inr (2, ce_cp x2 y2 i j n)) hI.2.2 hy0 (ce_cp_all (f := ce_wv G.2.1.length) hwx hwy) hP hD) hS1 k1 k2
      · cases h
    · cases h
  · rename_i n j b i k r
    split at h
    · rename_i y hy
      split at h
      · rename_i hb
        cases h
        obtain ⟨y1, y2⟩ := y
        simp only [Bool.and_eq_true] at hb
        obtain ⟨b1, b2, b3, b4, b5, b6, b8⟩ := hb
        have b1 := Nat.eq_of_beq_eq_true b1
        have b2 := Nat.eq_of_beq_eq_true b2
        have b3 := Nat.eq_of_beq_eq_true b3
        have b4 := Nat.eq_of_beq_eq_true b4
        subst b1
        subst b2
        subst b3
        subst b4
        have b5 := Nat.le_of_ble_eq_true b5
        have b6 : y2.length < 60000 := Nat.lt_of_succ_le (Nat.le_of_ble_eq_true b6)
        have b8 := Nat.le_trans (ce_wt_ok hK (ad := ad) r) (Nat.le_of_ble_eq_true b8)
        obtain ⟨hy0, hyw⟩ := ce_arr_at (z := z) (ad := ad) hy
        dsimp only at hyw b5
        rw [ex] at hyw
        have cj : (nI j).toNatClampNeg = j := nI_clamp (by omega)
        obtain ⟨aK, aV, e2, e3, e4, e5, hE, -, -⟩ := hK.2.2.2.2.2.2.1
        obtain ⟨scr, hs1, hs2, hs3, -, -, -, hbA⟩ := (hE.kept hv.2.1).1 0 (by omega) |>.2.2.2
        show W _ _ _ _ _ _ _ _ _ _ _ _ _ _ _ (F0 m pc ls (.int (nI 0) :: .int (nI j) :: .ref (ad b) :: .int (nI 0) :: ce_ev z 3 :: r.map (ce_v z ad)))
        rw [e3]
        intro T hT X
        have hc1 : H[ad b]? = some (vp_cell (ce_cA z 2) (y2.length, .inl (fun j => ce_iv (ce_v z ad (y2.getD j ce_0))))) := hI.1 b _ hyw
        obtain ⟨hs6, k0, hk0, cm0, hkk0⟩ := hs2
        obtain ⟨-, k9, hk9, cm9, hkk9⟩ := (hK.1.2 2 (ce_cA z 2, .byte) rfl).1 y2.length (fun q => .int ((fun j => ce_iv (ce_v z ad (y2.getD j ce_0))) q))
        obtain ⟨vm', X', step⟩ := X.arraycopy hC.1 hC.2.2.2.1 (hC.2.2.2.2.1 _ g1) (hC.2.2.2.2.1 _ g2) (hC.2.2.2.2.1 _ g3) (hC.2.2.2.2.1 _ g4) (src := aV 0) (dst := ad b) (cs := scr) (cd := vp_cell (ce_cA z 2) (y2.length, .inl (fun j => ce_iv (ce_v z ad (y2.getD j ce_0))))) (srcPos := nI 0) (destPos := nI j) (n := nI 0) (by rw [hT]; exact hs1) (by rw [hT]; exact hc1)
          hs6 (fun _ h => by cases h) hs3 (fun h => by cases h) hk0 hk9 hkk0 hkk9 (by simp [refKind]) (nI_pos (by omega)) (nI_pos (by omega)) (nI_pos (by omega))
          (by rw [nI_toInt (by omega)]; omega)
          (by rw [nI_toInt (by omega), nI_toInt (by omega)]; show ¬ _ > ((arrV (ce_cA z 2) y2.length (fun q => .int ((fun j => ce_iv (ce_v z ad (y2.getD j ce_0))) q))).slots.size : Int); rw [arrV_size]; omega)
          (fun vm₁ _ i hi => absurd hi (by rw [show (nI 0).toNatClampNeg = 0 from nI_clamp (by omega)]; omega))
          (g := F0 m pc ls (.int (nI 0) :: .int (nI j) :: .ref (ad b) :: .int (nI 0) :: .ref (aV 0) :: r.map (ce_v z ad))) rfl (by rw [hC.2.2.1]; exact hl.1) (rest := r.map (ce_v z ad)) rfl (by rw [hC.2.1]; exact d) (by omega) (by show 2 * 0 + _ + _ ≤ _; omega)
        have e1 : copied scr (vp_cell (ce_cA z 2) (y2.length, .inl (fun j => ce_iv (ce_v z ad (y2.getD j ce_0))))) (nI 0) (nI j) (nI 0) = vp_cell (ce_cA z 2) (y2.length, .inl (va_cpy (fun _ => (0 : Int32)) (fun j => ce_iv (ce_v z ad (y2.getD j ce_0))) (nI 0).toNatClampNeg (nI j).toNatClampNeg (nI 0).toNatClampNeg)) := va_copiedX (fun z => .int z) scr (ce_cA z 2) (fun _ => (0 : Int32)) (fun j => ce_iv (ce_v z ad (y2.getD j ce_0))) (n0 := 0) (fun j hj => absurd hj (Nat.not_lt_zero j)) (by rw [show (nI 0).toNatClampNeg = 0 from nI_clamp (by omega)]; exact Nat.le_refl _)
        have e0 : va_cpy (fun _ => (0 : Int32)) (fun j => ce_iv (ce_v z ad (y2.getD j ce_0))) (nI 0).toNatClampNeg (nI j).toNatClampNeg (nI 0).toNatClampNeg = (fun j => ce_iv (ce_v z ad (y2.getD j ce_0))) := by
          funext q
          simp only [va_cpy, show (nI 0).toNatClampNeg = 0 from nI_clamp (by omega)]
          rw [if_neg (by omega)]
        rw [e1, e0] at X' step
        have hlt : ad b < H.size := (Array.getElem?_eq_some_iff.mp hc1).1
        have hheap : ((T.setVm vm').setCell (ad b) (vp_cell (ce_cA z 2) (y2.length, .inl (fun j => ce_iv (ce_v z ad (y2.getD j ce_0)))))).heap = H := by
          have : ((T.setVm vm').setCell (ad b) (vp_cell (ce_cA z 2) (y2.length, .inl (fun j => ce_iv (ce_v z ad (y2.getD j ce_0)))))).heap = H.setIfInBounds (ad b) (vp_cell (ce_cA z 2) (y2.length, .inl (fun j => ce_iv (ce_v z ad (y2.getD j ce_0))))) := by rw [← hT]; rfl
          rw [this]
          refine Array.ext_getElem? fun q => ?_
          by_cases hq : q = ad b
          · rw [hq, hc1]
            simp [Array.getElem?_setIfInBounds, hlt]
          · simp [Array.getElem?_setIfInBounds, Ne.symm hq]
        have hAb : ce_A z (ad b) := hI.2.1.2 b _ hyw
        obtain ⟨t9, a1, c1⟩ := hS _ (List.mem_singleton.mpr rfl) ad ls H _ kc ks h1 h2 hl hI ⟨hv.1, hv.2.1, fun q hq => by
          rcases List.mem_append.mp hq with h | h
          · exact hv.2.2 q h
          · obtain ⟨w, -, hw⟩ := List.mem_map.mp h
            rw [← hw]
            exact hAb⟩ k1 k2 _ hheap X'
        exact ⟨t9, step t9 a1, c1⟩
      · cases h
    · cases h
  · cases h
/-- references copied between rows of Object: objects of one class, or null -/
def ce_cq (G : ce_G) : ce_SV → Bool
  | .inr (.inr (.inl (.inl k))) => match ce_obj G k with
    | some x => Nat.beq x.1 16
    | none => false
  | .inr (.inr (.inr .null)) => true
  | _ => false
def ce_cpq (nx : Nat) : ce_P := fun L G => match L.2 with
  | .inl (.inl (.ofNat n)) :: .inl (.inl (.ofNat j)) :: .inr (.inr (.inl (.inl b))) :: .inl (.inl (.ofNat i)) :: .inr (.inr (.inl (.inl a))) :: r => match ce_arr G a, ce_arr G b with
    | some x, some y => match Nat.beq x.1 6 && (Nat.beq y.1 6 && (Nat.ble (i + n) x.2.length && (Nat.ble (j + n) y.2.length && (Nat.blt x.2.length 60000 && (Nat.blt y.2.length 60000 && (x.2.all (ce_cq G) && Nat.ble (ce_wt r) 40)))))) with
      | true => some [(nx, (L.1, r), (G.1, G.2.1.set b (.inr (6, ce_cp x.2 y.2 i j n)), G.2.2))]
      | false => none
    | _, _ => none
  | _ => none
theorem ok_cpq {i9 N16 : Nat} {T16 : u_T} (hc16 : ce_cl[16]? = some ("CarcasswrightModel$Board", T16, N16)) (hng : Cond.castable "CarcasswrightModel$Board" "java/lang/Object" ∈ ce_NG) (d : decode cc pc = .ok (.invokestatic i9, 3)) (g1 : Cond.methodLink own i9 arraycopyName ∈ ce_GW) (g2 : Cond.native arraycopyName ∈ ce_GW) (g3 : Cond.static arraycopyName ∈ ce_GW) (g4 : Cond.initialized "java/lang/System" ∈ ce_GW) : ce_OK own nm cc nL ret ht pc (ce_cpq (pc + 3)) := by
  intro z p l e R s m args below meth c Q ad0 n0 hC L G S h hS ad ls H locs kc ks h1 h2 hl hI hv k1 k2
  obtain ⟨lo, st⟩ := L
  have hK := ce_CXK hC
  obtain ⟨hl9, hfr, hlo⟩ := ce_CXl hC
  have hnf := ce_nfw
  have ex : ∀ es : List ce_SV, ce_ar z ad 6 es = .inr (.inr (.inr (.inr (fun j => ce_rv (ce_v z ad (es.getD j ce_0)))))) := fun es => rfl
  simp only [ce_cpq] at h
  split at h
  · rename_i n j b i a r
    split at h
    · rename_i x y hx hy
      split at h
      · rename_i hb
        cases h
        obtain ⟨x1, x2⟩ := x
        obtain ⟨y1, y2⟩ := y
        simp only [Bool.and_eq_true] at hb
        obtain ⟨b1, b2, b3, b4, b5, b6, b7, b8⟩ := hb
        have b1 := Nat.eq_of_beq_eq_true b1
        have b2 := Nat.eq_of_beq_eq_true b2
        subst b1
        subst b2
        have b3 := Nat.le_of_ble_eq_true b3
        have b4 := Nat.le_of_ble_eq_true b4
        have b5 : x2.length < 60000 := Nat.lt_of_succ_le (Nat.le_of_ble_eq_true b5)
        have b6 : y2.length < 60000 := Nat.lt_of_succ_le (Nat.le_of_ble_eq_true b6)
        have b8 := Nat.le_trans (ce_wt_ok hK (ad := ad) r) (Nat.le_of_ble_eq_true b8)
        obtain ⟨hx0, hxw⟩ := ce_arr_at (z := z) (ad := ad) hx
        obtain ⟨hy0, hyw⟩ := ce_arr_at (z := z) (ad := ad) hy
        dsimp only at hxw hyw b3 b4
        rw [ex] at hxw hyw
        have cn : (nI n).toNatClampNeg = n := nI_clamp (by omega)
        have ci : (nI i).toNatClampNeg = i := nI_clamp (by omega)
        have cj : (nI j).toNatClampNeg = j := nI_clamp (by omega)
        show W _ _ _ _ _ _ _ _ _ _ _ _ _ _ _ (F0 m pc ls (.int (nI n) :: .int (nI j) :: .ref (ad b) :: .int (nI i) :: .ref (ad a) :: r.map (ce_v z ad)))
        refine va_copyq (C := "CarcasswrightModel$Board") (E0 := "java/lang/Object") (E1 := "java/lang/Object") hC.1 hC.2.1 (hC.2.2.1.trans hl.1.symm) hC.2.2.2.1 (hC.2.2.2.2.1 _ g1) (hC.2.2.2.2.1 _ g2) (hC.2.2.2.2.1 _ g3) (hC.2.2.2.2.1 _ g4) hK.1 hI.1 hI.2.1 hv a b 6 6 hxw hyw rfl rfl (nI_pos (by omega)) (nI_pos (by omega)) (nI_pos (by omega)) (by rw [cn, ci]; exact b3) (by rw [cn, cj]; exact b4) (fun k hk q hq => ?_) (fun comp c0 hcomp hc0 => ?_) (by omega) (by omega) d (fun H1 locs1 hP hD hS1 => ?_)
        · rw [cn] at hk
          rw [ci] at hq
          have hm : x2.getD (i + k) ce_0 ∈ x2 := by
            rw [List.getD_eq_getElem?_getD, List.getElem?_eq_getElem (by omega)]
            exact List.getElem_mem _
          have h7 := List.all_eq_true.mp b7 _ hm
          generalize x2.getD (i + k) ce_0 = v at h7 hq
          unfold ce_cq at h7
          split at h7
          · rename_i k9
            split at h7
            · rename_i w hw
              obtain ⟨w1, w2⟩ := w
              have h7 := Nat.eq_of_beq_eq_true h7
              dsimp only at h7
              subst h7
              have e9 : q = ad k9 := (Option.some.inj hq).symm
              rw [e9]
              exact va_recv hK.1 hI.1 hc16 (ce_obj_at (z := z) (ad := ad) hw).2
            · cases h7
          · cases hq
          · cases h7
        · obtain ⟨c3, c4, hc3, hc4, hasg⟩ := Cond.castable_spec (va_Nw.use (A := args) rfl (hK.2.2.2.1.1 _ hng))
          cases Option.some.inj (hc3.symm.trans hc0)
          cases Option.some.inj (hc4.symm.trans hcomp)
          exact hasg
        · rw [cn, ci, cj, ← ce_cp_fun (g := ce_rv) b3 b4] at hP hD
          have he : ce_e z ad (.inr (6, ce_cp x2 y2 i j n)) = .inl (ce_cA z 6, y2.length, .inr (.inr (.inr (.inr (fun k => ce_rv (ce_v z ad ((ce_cp x2 y2 i j n).getD k ce_0))))))) := by
            simp only [ce_e, ce_cp_len b3 b4, ex]
          rw [← he] at hP hD
          have hwx : ce_we G.2.1.length (.inr (6, x2)) = true := List.all_eq_true.mp hI.2.2.1 _ (List.mem_of_getElem? hx0)
          have hwy : ce_we G.2.1.length (.inr (6, y2)) = true := List.all_eq_true.mp hI.2.2.1 _ (List.mem_of_getElem? hy0)
          exact hS _ (List.mem_singleton.mpr rfl) ad ls H1 locs1 kc ks h1 (by simpa using h2) hl (ce_Inv_set (e := .inr (6, ce_cp x2 y2 i j n)) hI.2.2 hy0 (ce_cp_all (f := ce_wv G.2.1.length) hwx hwy) hP hD) hS1 k1 k2
      · cases h
    · cases h
  · cases h
theorem ce_arrR {z : ce_U} {s : State} {ad : Nat → Nat} {G : ce_G} {H : Heap} (hI : ce_Inv z ad G H) {a : Nat} {x : Nat × List ce_SV} (hx : ce_arr G a = some x) : ∃ cell : Cell, H[ad a]? = some cell ∧ cell.vm.isStatics = false ∧ cell.cls = ce_cA z x.1 := by
  obtain ⟨hx0, hxw⟩ := ce_arr_at (z := z) (ad := ad) hx
  have h := hI.1 a _ hxw
  refine ⟨_, h, ?_, ?_⟩
  · generalize ce_ar z ad x.1 x.2 = q
    rcases q with f | f | f | f | f <;> rfl
  · generalize ce_ar z ad x.1 x.2 = q
    rcases q with f | f | f | f | f <;> rfl
def ce_yG : MethodName := ⟨"java/lang/Object", "getClass", "()Ljava/lang/Class;"⟩
def ce_getC (nx : Nat) : ce_P := fun L G => match L.2 with
  | .inr (.inr (.inl (.inl a))) :: r => match ce_arr G a with
    | some x => match Nat.beq x.1 6 && Nat.ble (ce_wt r) 40 with
      | true => some [(nx, (L.1, .inr (.inr (.inl (.inr 6))) :: r), G)]
      | false => none
    | none => none
  | _ => none
theorem ok_getC {i : Nat} (d : decode cc pc = .ok (.invokevirtual i, 3)) (g1 : Cond.methodLink own i ce_yG ∈ ce_GW) (g2 : Cond.selects "[Ljava/lang/Object;" ce_yG ce_yG ∈ ce_GW) (g3 : Cond.instanceMethod ce_yG ∈ ce_GW) (g4 : Cond.native ce_yG ∈ ce_GW) : ce_OK own nm cc nL ret ht pc (ce_getC (pc + 3)) := by
  intro z p l e R s m args below meth c Q ad0 n0 hC L G S h hS ad ls H locs kc ks h1 h2 hl hI hv k1 k2
  obtain ⟨lo, st⟩ := L
  have hK := ce_CXK hC
  obtain ⟨hl9, hfr, hlo⟩ := ce_CXl hC
  simp only [ce_getC] at h
  split at h
  · rename_i a r
    split at h
    · rename_i x hx
      split at h
      · rename_i hb
        cases h
        obtain ⟨x1, x2⟩ := x
        simp only [Bool.and_eq_true] at hb
        have b1 := Nat.eq_of_beq_eq_true hb.1
        subst b1
        have b8 := Nat.le_trans (ce_wt_ok hK (ad := ad) r) (Nat.le_of_ble_eq_true hb.2)
        obtain ⟨mi, e6, hM⟩ := hK.2.2.2.2.2.2.2.1
        obtain ⟨cell, c1, c2, c3⟩ := ce_arrR (s := s) hI hx
        obtain ⟨-, -, -, -, -, hfc⟩ := (hK.1.2 6 (ce_cA z 6, .object "java/lang/Object") rfl).2
        have hfc2 : s.vm.findClass "[Ljava/lang/Object;" = some cell.cls := by rw [c3]; exact hfc
        refine va_getC (mi := mi) hC.1 hC.2.1 (hC.2.2.1.trans hl.1.symm) hC.2.2.2.1 (hC.2.2.2.2.1 _ g1) (va_Dc.use hK.2.2.2.1.2.2.2) (hC.2.2.2.2.1 _ g2) (hC.2.2.2.2.1 _ g3) (hC.2.2.2.2.1 _ g4) hM ⟨cell, c1, c2, hfc2⟩ (by omega) (by omega) d ?_
        rw [← e6]
        exact hS _ (List.mem_singleton.mpr rfl) ad ls H locs kc ks h1 h2 hl hI hv k1 k2
      · cases h
    · cases h
  · cases h
def ce_yC (C : String) : MethodName := ⟨C, "clone", "()Ljava/lang/Object;"⟩
def ce_clo (nx : Nat) : ce_P := fun L G => match L.2 with
  | .inr (.inr (.inl (.inl a))) :: r => match ce_arr G a with
    | some x => match Nat.beq x.1 0 && (Nat.ble (ce_wt r) 40 && ce_ok (L.1, r) G x.2.length) with
      | true => some [(nx, (L.1, .inr (.inr (.inl (.inl G.2.1.length))) :: r), (G.1, G.2.1 ++ [.inr (0, x.2)], G.2.2.1 - 1, G.2.2.2 - x.2.length))]
      | false => none
    | none => none
  | _ => none
theorem ok_clo {i : Nat} (d : decode cc pc = .ok (.invokevirtual i, 3)) (g1 : Cond.methodLink own i (ce_yC "[I") ∈ ce_GW) (g2 : Cond.sameMethod "[I" "java/lang/Object" "clone" "()Ljava/lang/Object;" ∈ ce_GW) (g3 : Cond.native (ce_yC "java/lang/Object") ∈ ce_GW) (g4 : Cond.instanceMethod (ce_yC "java/lang/Object") ∈ ce_GW) (g5 : Cond.selects "[I" (ce_yC "[I") (ce_yC "java/lang/Object") ∈ ce_GW) (g6 : Cond.castable "[I" "java/lang/Cloneable" ∈ ce_NG) : ce_OK own nm cc nL ret ht pc (ce_clo (pc + 3)) := by
  intro z p l e R s m args below meth c Q ad0 n0 hC L G S h hS ad ls H locs kc ks h1 h2 hl hI hv k1 k2
  obtain ⟨lo, st⟩ := L
  have hK := ce_CXK hC
  obtain ⟨hl9, hfr, hlo⟩ := ce_CXl hC
  have ex : ∀ es : List ce_SV, ce_ar z ad 0 es = .inl (fun j => ce_iv (ce_v z ad (es.getD j ce_0))) := fun es => rfl
  simp only [ce_clo] at h
  split at h
  · rename_i a r
    split at h
    · rename_i x hx
      split at h
      · rename_i hb
        cases h
        obtain ⟨x1, x2⟩ := x
        simp only [Bool.and_eq_true, ce_ok] at hb
        obtain ⟨b1, b8, b2, b3, b4, b5⟩ := hb
        have b1 := Nat.eq_of_beq_eq_true b1
        subst b1
        have b2 := Nat.le_of_ble_eq_true b2
        have b3 := Nat.le_of_ble_eq_true b3
        have b8 := Nat.le_trans (ce_wt_ok hK (ad := ad) r) (Nat.le_of_ble_eq_true b8)
        obtain ⟨hx0, hxw⟩ := ce_arr_at (z := z) (ad := ad) hx
        dsimp only at hxw
        have hxw2 := hxw
        rw [ex] at hxw
        have hA : ∀ q, s.heap.size ≤ q → ce_A z q := fun q hq => Nat.le_trans hK.2.1 hq
        show W _ _ _ _ _ _ _ _ _ _ _ _ _ _ _ (F0 m pc ls (.ref (ad a) :: r.map (ce_v z ad)))
        refine va_clone (x := (x2.length, .inl (fun j => ce_iv (ce_v z ad (x2.getD j ce_0))))) (ty := .int) hC.1 hC.2.1 (hC.2.2.1.trans hl.1.symm) hC.2.2.2.1 (hC.2.2.2.2.1 _ g1) (hC.2.2.2.2.1 _ g2) (hC.2.2.2.2.1 _ g3) (hC.2.2.2.2.1 _ g4) (hC.2.2.2.2.1 _ g5) (hK.2.2.2.1.1 _ g6) hK.1 hI.1 hI.2.1 hv hA a 0 hxw rfl (va_nm_int (hK.1.2 0 _ rfl).2) (fun i v hv9 => ?_) (by omega) (by omega) (by omega) (by dsimp only; omega) d (fun q H1 hK9 hP hD hS1 => ?_)
        · obtain ⟨hi, hv8⟩ := Array.getElem?_eq_some_iff.mp hv9
          have : ∃ w, v = .int w := by
            rw [← hv8]
            show ∃ w, (arrV (ce_cA z 0) x2.length (fun j => .int (ce_iv (ce_v z ad (x2.getD j ce_0))))).slots[i] = .int w
            simp [arrV]
          obtain ⟨w, rfl⟩ := this
          rfl
        · have he : ce_e z ad (.inr (0, x2)) = .inl (ce_cA z 0, x2.length, .inl (fun j => ce_iv (ce_v z ad (x2.getD j ce_0)))) := by
            simp only [ce_e, ex]
          rw [← he] at hP hD
          have hwe : ce_we G.2.1.length (.inr (0, x2)) = true := List.all_eq_true.mp hI.2.2.1 _ (List.mem_of_getElem? hx0)
          have hgo := hS _ (List.mem_singleton.mpr rfl) (ce_ad ad G.2.1.length q) ls H1 locs (kc + 1) (ks + x2.length) (fun k hk9 => (ce_ad_lt k (Nat.lt_of_lt_of_le hk9 h2)).trans (h1 k hk9)) (by simp; omega) (by rw [ce_loc_congr ce_ad_lt b4]; exact hl)
            (ce_Inv_app (e := .inr (0, x2)) hI.2.2 hwe ce_ad_lt ce_ad_eq hP hD) hS1 (by dsimp only; omega) (by dsimp only; omega)
          rw [List.map_cons, ce_map_congr ce_ad_lt b5] at hgo
          have e9 : ce_v z (ce_ad ad G.2.1.length q) (.inr (.inr (.inl (.inl G.2.1.length)))) = .ref q := congrArg Value.ref ce_ad_eq
          rw [e9] at hgo
          exact hgo
      · cases h
    · cases h
  · cases h
end Nat9
