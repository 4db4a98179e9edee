/-! free(int, boolean, boolean) over a wall of 9999 places without modules: 9999 new cells -/
def rf_z (z : ce_U) (k : Nat) : ce_U := (fun j => if j = 400 then Int32.ofInt (k : Int) else ce_xs z j, z.2)
theorem rf_zK {z : ce_U} {k : Nat} {U : State} (h : ce_CK z U) : ce_CK (rf_z z k) U := by
  obtain ⟨hK, hb, h1, h2, ⟨b, e0, e1, e2, e3, e4, e5⟩, h4, h5, h6, h7, h8⟩ := h
  refine ⟨hK, hb, h1, h2, ⟨b, e0, e1, e2, ?_, e4, fun j hj => ?_⟩, h4, h5, h6, h7, h8⟩
  · obtain ⟨scr, x1, x2, x3, x4, x5⟩ := e3
    refine ⟨scr, x1, x2, x3, x4, fun j hj => ?_⟩
    have hj : j < ce_len z := hj
    rw [show ce_xs (rf_z z k) j = ce_xs z j from if_neg (by omega)]
    exact x5 j hj
  · rw [show ce_xs (rf_z z k) j = ce_xs z j from if_neg (by omega)]
    exact e5 j hj
abbrev rf_t : Term := .arg 400
abbrev rf_s0 : ce_SV := .inl (.inr rf_t)
abbrev rf_s1 : ce_SV := .inl (.inr (.add rf_t (.int 1)))
def rf_Lk (k : Int) : List (Nat × ce_SV) := [(8, rf_i k), (7, rf_i k), (6, rf_i k), (5, rf_i k), (4, rf_r 193), (0, rf_r 181), (1, rf_i 0), (2, rf_i 0), (3, rf_i 0)]
def rf_LA : List (Nat × ce_SV) := [(8, rf_s0), (7, rf_s0), (6, rf_s0), (5, rf_s0), (4, rf_r 193), (0, rf_r 181), (1, rf_i 0), (2, rf_i 0), (3, rf_i 0)]
def rf_LB : List (Nat × ce_SV) := [(9, rf_i 1), (8, rf_s0), (7, rf_s0), (6, rf_s0), (5, rf_s0), (4, rf_r 193), (0, rf_r 181), (1, rf_i 0), (2, rf_i 0), (3, rf_i 0)]
def rf_LC : List (Nat × ce_SV) := [(8, rf_s1), (6, rf_s1), (5, rf_s1), (7, rf_s1), (10, rf_r 195), (9, rf_i 1), (4, rf_r 193), (0, rf_r 181), (1, rf_i 0), (2, rf_i 0), (3, rf_i 0)]
def rf_FA : ce_F := [(rf_t, 0, 0), (rf_t, 1, 9998)]
def rf_it : ce_SE := .inl (2, [rf_i 0, rf_i (-1), rf_i 0, rf_r 185])
def rf_av : List ce_SV := [rf_r 181, rf_i 0, rf_i 0, rf_i 0]
noncomputable def rf_b0 : Bool := @decide (ce_to ta_X21_free 25 100 0 (ce_args 0 rf_av, []) ([], rf_C, 0, 0) = some ((rf_Lk 0, []), ([], rf_C, 0, 0))) (ce_dO _ _)
theorem rf_b0t : rf_b0 = true := by decide +kernel
theorem rf_seg0 : ce_to ta_X21_free 25 100 0 (ce_args 0 rf_av, []) ([], rf_C, 0, 0) = some ((rf_Lk 0, []), ([], rf_C, 0, 0)) := @of_decide_eq_true _ (ce_dO _ _) rf_b0t
noncomputable def rf_bA : Bool := @decide (ce_to ta_X21_free 42 100 25 (rf_LA, []) (rf_FA, rf_C, 0, 0) = some ((rf_LB, [rf_r 185]), (rf_FA, rf_C, 0, 0))) (ce_dO _ _)
theorem rf_bAt : rf_bA = true := by decide +kernel
theorem rf_segA : ce_to ta_X21_free 42 100 25 (rf_LA, []) (rf_FA, rf_C, 0, 0) = some ((rf_LB, [rf_r 185]), (rf_FA, rf_C, 0, 0)) := @of_decide_eq_true _ (ce_dO _ _) rf_bAt
noncomputable def rf_bI : Bool := @decide (ce_CV 3 rf_Fi [rf_r 185] (rf_FA, rf_C, 0, 0) = some [(.inl (some (rf_r 195)), (rf_FA, rf_C ++ [rf_it], 0, 0))]) (ce_dR _ _)
theorem rf_bIt : rf_bI = true := by decide +kernel
theorem rf_evI (r q : Nat) : ce_CV 3 rf_Fi [rf_r 185] (rf_FA, rf_C, r, q) = some [(.inl (some (rf_r 195)), (rf_FA, rf_C ++ [rf_it], 0, 0))] := rf_cv (@of_decide_eq_true _ (ce_dR _ _) rf_bIt) (rf_Fi_eq _ _ _ _ _ _ _)
noncomputable def rf_bC : Bool := @decide (ce_to ta_X21_free 25 200 45 (rf_LB, [rf_r 195]) (rf_FA, rf_C ++ [rf_it], 0, 0) = some ((rf_LC, []), (rf_FA, rf_C ++ [rf_it], 0, 0))) (ce_dO _ _)
theorem rf_bCt : rf_bC = true := by decide +kernel
theorem rf_segC : ce_to ta_X21_free 25 200 45 (rf_LB, [rf_r 195]) (rf_FA, rf_C ++ [rf_it], 0, 0) = some ((rf_LC, []), (rf_FA, rf_C ++ [rf_it], 0, 0)) := @of_decide_eq_true _ (ce_dO _ _) rf_bCt
noncomputable def rf_bE : Bool := @decide (ce_go ta_X21_free 100 25 (rf_Lk 9999, []) ([], rf_C, 0, 0) = some [(.inl (some (rf_i 9999)), ([], rf_C, 0, 0))]) (ce_dR _ _)
theorem rf_bEt : rf_bE = true := by decide +kernel
theorem rf_evE : ce_go ta_X21_free 100 25 (rf_Lk 9999, []) ([], rf_C, 0, 0) = some [(.inl (some (rf_i 9999)), ([], rf_C, 0, 0))] := @of_decide_eq_true _ (ce_dR _ _) rf_bEt
theorem rf_ckI : (Nat.ble (ce_wt ([] : List ce_SV)) 8 && (rf_LB.all (fun x => ce_wv rf_C.length x.2) && ([] : List ce_SV).all (ce_wv rf_C.length))) = true := by decide +kernel
theorem rf_sat0 {z : ce_U} : ce_sat z [] := fun f h => nomatch h
theorem rf_tk {z : ce_U} {k : Nat} : ce_I (rf_z z k) rf_t = Int32.ofInt (k : Int) := by
  show (if (400 : Nat) = 400 then Int32.ofInt (k : Int) else ce_xs z 400) = Int32.ofInt (k : Int)
  exact if_pos rfl
theorem rf_sat9 {z : ce_U} {k : Nat} (h : k ≤ 9998) : ce_sat (rf_z z k) rf_FA := fun f hf => by
  have e : (ce_I (rf_z z k) rf_t).toInt = (k : Int) := by rw [rf_tk]; exact Int32.toInt_ofInt_of_le (by omega) (by omega)
  simp only [rf_FA, List.mem_cons, List.not_mem_nil, or_false] at hf
  rcases hf with rfl | rfl
  · exact ce_fa0 (by rw [e]; omega)
  · exact ce_fa1 (by rw [e]; omega)
theorem rf_runI : rf_RU 1 "CarcasswrightModel" "free" cX21_free 13 (some .int) 3 42 1 1 4 45 (ce_CV 3 rf_Fi) :=
  rf_runV (ci := 3) (C := RJx4a65c) (Tf := TJx4a65c) (N := 3) rf_mi (by decide) (by decide) rfl gw_1800 gw_1797 gw_1798 gw_1799 gw_16 ⟨rfl, hp_Jx4a65c_iterator_32c93⟩ dX21_free_42
theorem rf_loop {z : ce_U} {p : Program} {l : Launch} {e : Env} {R : Room} {s : State} {m : MethodId} {args : Array Value} {below : List Frame} {meth : Method} {c : Code} {ad0 : Nat → Nat} {B : Nat} {Q : State → Prop} (hC : ce_CX z p l R s m args meth c "CarcasswrightModel" "free" cX21_free 13 (some .int) 3) (hT : ∀ h, some [] = some h → c.exceptionTable.toList = tableOf h)
    (hQ : ∀ t, ce_Qm z R s args below ad0 rf_C.length [(.inl (some (rf_i 9999)), ([], rf_C, 0, 0))] t → B + 9999 ≤ t.heap.size → Q t) :
    ∀ d k : Nat, k + d = 9999 → rf_WB (B + k) z p l e R s m args below meth c Q 13 ad0 rf_C.length 25 (rf_Lk k, []) ([], rf_C, d, 4 * d)
  | 0, k, hk => by
    have hk : k = 9999 := by omega
    subst hk
    exact rf_go tx_X21_free hC hT rf_evE hQ
  | d + 1, k, hk => by
    have ih := rf_loop (e := e) hC hT hQ d (k + 1) (by omega)
    have hC2 : ce_CX (rf_z z k) p l R s m args meth c "CarcasswrightModel" "free" cX21_free 13 (some .int) 3 := by
      obtain ⟨x1, x2, x3, x4, x5, x6, x7, x8, x9, x10⟩ := hC
      exact ⟨x1, x2, x3, x4, x5, x6, x7, x8, x9, rf_zK x10⟩
    -- the world after one place, told anew
    have back : rf_WB (B + k + 1) (rf_z z k) p l e R s m args below meth c Q 13 ad0 rf_C.length 25 (rf_LC, []) (rf_FA, rf_C ++ [rf_it], 0 + d, 0 + 4 * d) := by
      intro ad ls H locs kc ks h1 h2 hl hI hv k1 k2 hB
      have k1 : kc + (0 + d) ≤ R.cells := k1
      have k2 : ks + (0 + 4 * d) ≤ R.slots := k2
      have e1 : ce_I (rf_z z k) rf_t + 1 = Int32.ofInt ((k + 1 : Nat) : Int) := by
        rw [rf_tk, show ((k + 1 : Nat) : Int) = (k : Int) + 1 from rfl, Int32.ofInt_add]; rfl
      have hl2 : lv_has ls 13 [(8, .int (ce_I (rf_z z k) rf_t + 1)), (6, .int (ce_I (rf_z z k) rf_t + 1)), (5, .int (ce_I (rf_z z k) rf_t + 1)), (7, .int (ce_I (rf_z z k) rf_t + 1)), (10, .ref (ad 195)), (9, .int (Int32.ofInt 1)), (4, .ref (ad 193)), (0, .ref (ad 181)), (1, .int (Int32.ofInt 0)), (2, .int (Int32.ofInt 0)), (3, .int (Int32.ofInt 0))] := hl
      rw [e1] at hl2
      exact ih ad ls H locs kc ks h1 (Nat.le_refl _) (lv_sub hl2 [0, 3, 1, 2, 6, 7, 8, 9, 10] rfl) (rf_Inv (z := rf_z z k) (z2 := z) rfl rf_Cnt rf_Cwe rf_sat0 hI) hv (by show kc + d ≤ R.cells; omega) (by show ks + 4 * d ≤ R.slots; omega) (by omega)
    have s2 := rf_seg tx_X21_free hC2 hT rf_segC back
    have s1 : rf_WB (B + k) (rf_z z k) p l e R s m args below meth c Q 13 ad0 rf_C.length 42 (rf_LB, [rf_r 185]) (rf_FA, rf_C, 0 + (d + 1), 0 + 4 * (d + 1)) := by
      refine rf_call (as := [rf_r 185]) (rest := []) rf_runI hC2 (rf_evI _ _) rfl rf_ckI (by omega) (by omega) ?_
      rw [show 0 + (d + 1) - 1 = 0 + d by omega, show 0 + 4 * (d + 1) - 4 = 0 + 4 * d by omega]
      exact s2
    have s0 := rf_seg tx_X21_free hC2 hT rf_segA s1
    intro ad ls H locs kc ks h1 h2 hl hI hv k1 k2 hB
    have k1 : kc + (d + 1) ≤ R.cells := k1
    have k2 : ks + 4 * (d + 1) ≤ R.slots := k2
    have hl2 : lv_has ls 13 [(8, .int (ce_I (rf_z z k) rf_t)), (7, .int (ce_I (rf_z z k) rf_t)), (6, .int (ce_I (rf_z z k) rf_t)), (5, .int (ce_I (rf_z z k) rf_t)), (4, .ref (ad 193)), (0, .ref (ad 181)), (1, .int (Int32.ofInt 0)), (2, .int (Int32.ofInt 0)), (3, .int (Int32.ofInt 0))] := by
      rw [rf_tk]; exact hl
    exact s0 ad ls H locs kc ks h1 h2 hl2 (rf_Inv (z := z) (z2 := rf_z z k) (X := []) rfl rf_Cnt rf_Cwe (rf_sat9 (by omega)) (by rw [List.append_nil]; exact hI)) hv (by show kc + (0 + (d + 1)) ≤ R.cells; omega) (by show ks + (0 + 4 * (d + 1)) ≤ R.slots; omega) hB
noncomputable def rf_Ff : ce_C := fun avs G => match @decide (avs = rf_av) (ce_dVL _ _) && @decide (G.2.1 = rf_C) (ce_dSL _ _) with
  | true => some [(.inl (some (rf_i 9999)), ([], rf_C, 0, 0))]
  | false => none
theorem rf_mf : ∀ l : Launch, l.stackTraces = false → rf_MS l yX21_free (.code yX21_free cX21_free 13 (some .int)) 3 9999 39996 9999 rf_Ff := by
  intro l hl z ad avs G S hF
  unfold rf_Ff at hF
  split at hF
  · rename_i hb
    cases hF
    simp only [Bool.and_eq_true] at hb
    obtain ⟨F, C, r, q⟩ := G
    have h1 : avs = rf_av := @of_decide_eq_true _ (ce_dVL _ _) hb.1
    have h2 : C = rf_C := @of_decide_eq_true _ (ce_dSL _ _) hb.2
    subst h1
    subst h2
    refine rf_met hl (by decide +kernel) rfl ?_
    intro p e s m args below meth c hC hT ad9 ls _ hlv hI
    have loop := rf_loop (e := e) (below := below) (ad0 := ad) (B := s.heap.size) (Q := vx_MQ below (rf_Q z ad rf_C.length [(.inl (some (rf_i 9999)), ([], rf_C, 0, 0))] 9999) (ce_XC z ad rf_C.length [(.inl (some (rf_i 9999)), ([], rf_C, 0, 0))]) args s 9999 39996 (ce_A z)) hC hT (fun t h1 h2 => rf_end h1 h2) 9999 0 rfl
    have loop2 : rf_WB s.heap.size z p l e ({ frames := 8 + 3, cells := 9999, slots := 39996, locals := 100 * (3 + 2) } : Room) s m args below meth c (vx_MQ below (rf_Q z ad rf_C.length [(.inl (some (rf_i 9999)), ([], rf_C, 0, 0))] 9999) (ce_XC z ad rf_C.length [(.inl (some (rf_i 9999)), ([], rf_C, 0, 0))]) args s 9999 39996 (ce_A z)) 13 ad rf_C.length 25 (rf_Lk 0, []) ([], rf_C, 0 + 9999, 0 + 39996) := loop
    have key := rf_seg tx_X21_free hC hT rf_seg0 loop2
    exact key ad ls s.heap [] 0 0 (fun _ _ => rfl) (Nat.le_refl _) hlv (rf_Inv (z := z) (z2 := z) (X := []) rfl rf_Cnt rf_Cwe rf_sat0 (by rw [List.append_nil]; exact hI)) va_S.rf (Nat.le_refl _) (Nat.le_refl _) (Nat.le_refl _)
  · cases hF
/-- free(int, boolean) -/
def rf_av2 : List ce_SV := [rf_r 181, rf_i 0, rf_i 0]
def rf_L2 : List (Nat × ce_SV) := [(0, rf_r 181), (1, rf_i 0), (2, rf_i 0)]
noncomputable def rf_bG : Bool := @decide (ce_to ta_X21_free_ 16 100 0 (ce_args 0 rf_av2, []) ([], rf_C, 0, 0) = some ((rf_L2, [rf_i 0, rf_i 0, rf_i 0, rf_r 181]), ([], rf_C, 0, 0))) (ce_dO _ _)
theorem rf_bGt : rf_bG = true := by decide +kernel
theorem rf_segG : ce_to ta_X21_free_ 16 100 0 (ce_args 0 rf_av2, []) ([], rf_C, 0, 0) = some ((rf_L2, [rf_i 0, rf_i 0, rf_i 0, rf_r 181]), ([], rf_C, 0, 0)) := @of_decide_eq_true _ (ce_dO _ _) rf_bGt
noncomputable def rf_bH : Bool := @decide (ce_go ta_X21_free_ 100 19 (rf_L2, [rf_i 9999]) ([], rf_C, 0, 0) = some [(.inl (some (rf_i 9999)), ([], rf_C, 0, 0))]) (ce_dR _ _)
theorem rf_bHt : rf_bH = true := by decide +kernel
theorem rf_evH : ce_go ta_X21_free_ 100 19 (rf_L2, [rf_i 9999]) ([], rf_C, 0, 0) = some [(.inl (some (rf_i 9999)), ([], rf_C, 0, 0))] := @of_decide_eq_true _ (ce_dR _ _) rf_bHt
theorem rf_Ff_eq (avs : List ce_SV) (A : ce_F) (C : List ce_SE) (r q r2 q2 : Nat) : rf_Ff avs (A, C, r, q) = rf_Ff avs (A, C, r2, q2) := rfl
noncomputable def rf_bF : Bool := @decide (ce_CV 20 rf_Ff rf_av ([], rf_C, 0, 0) = some [(.inl (some (rf_i 9999)), ([], rf_C, 0, 0))]) (ce_dR _ _)
theorem rf_bFt : rf_bF = true := by decide +kernel
theorem rf_evF (r q : Nat) : ce_CV 20 rf_Ff rf_av ([], rf_C, r, q) = some [(.inl (some (rf_i 9999)), ([], rf_C, 0, 0))] := rf_cv (@of_decide_eq_true _ (ce_dR _ _) rf_bFt) (rf_Ff_eq _ _ _ _ _ _ _)
theorem rf_runF : rf_RU 9999 "CarcasswrightModel" "free" cX21_free_ 3 (some .int) 4 16 4 9999 39996 19 (ce_CV 20 rf_Ff) :=
  rf_runV (ci := 20) (C := RX21) (Tf := TX21) (N := 20) rf_mf (by decide) (by decide) rfl gw_2453 gw_2450 gw_2452 gp_23 gw_13 ⟨rfl, hp_X21_free⟩ dX21_free__16
theorem rf_ckF : (Nat.ble (ce_wt ([] : List ce_SV)) 8 && (rf_L2.all (fun x => ce_wv rf_C.length x.2) && ([] : List ce_SV).all (ce_wv rf_C.length))) = true := by decide +kernel
noncomputable def rf_Fg : ce_C := fun avs G => match @decide (avs = rf_av2) (ce_dVL _ _) && @decide (G.2.1 = rf_C) (ce_dSL _ _) with
  | true => some [(.inl (some (rf_i 9999)), ([], rf_C, 0, 0))]
  | false => none
theorem rf_mg : ∀ l : Launch, l.stackTraces = false → rf_MS l yX21_free_ (.code yX21_free_ cX21_free_ 3 (some .int)) 4 9999 39996 9999 rf_Fg := by
  intro l hl z ad avs G S hF
  unfold rf_Fg at hF
  split at hF
  · rename_i hb
    cases hF
    simp only [Bool.and_eq_true] at hb
    obtain ⟨F, C, r, q⟩ := G
    have h1 : avs = rf_av2 := @of_decide_eq_true _ (ce_dVL _ _) hb.1
    have h2 : C = rf_C := @of_decide_eq_true _ (ce_dSL _ _) hb.2
    subst h1
    subst h2
    refine rf_met hl (by decide +kernel) rfl ?_
    intro p e s m args below meth c hC hT ad9 ls _ hlv hI
    have fin : rf_WB (s.heap.size + 9999) z p l e ({ frames := 8 + 4, cells := 9999, slots := 39996, locals := 100 * (4 + 2) } : Room) s m args below meth c (vx_MQ below (rf_Q z ad rf_C.length [(.inl (some (rf_i 9999)), ([], rf_C, 0, 0))] 9999) (ce_XC z ad rf_C.length [(.inl (some (rf_i 9999)), ([], rf_C, 0, 0))]) args s 9999 39996 (ce_A z)) 3 ad rf_C.length 19 (rf_L2, [rf_i 9999]) ([], rf_C, 0, 0) :=
      rf_go tx_X21_free_ hC hT rf_evH (fun t h1 h2 => rf_end h1 h2)
    have mid : rf_WB s.heap.size z p l e ({ frames := 8 + 4, cells := 9999, slots := 39996, locals := 100 * (4 + 2) } : Room) s m args below meth c (vx_MQ below (rf_Q z ad rf_C.length [(.inl (some (rf_i 9999)), ([], rf_C, 0, 0))] 9999) (ce_XC z ad rf_C.length [(.inl (some (rf_i 9999)), ([], rf_C, 0, 0))]) args s 9999 39996 (ce_A z)) 3 ad rf_C.length 16 (rf_L2, [rf_i 0, rf_i 0, rf_i 0, rf_r 181]) ([], rf_C, 0 + 9999, 0 + 39996) :=
      rf_call (as := rf_av) (rest := []) rf_runF hC (rf_evF _ _) rfl rf_ckF (Nat.le_refl _) (Nat.le_refl _) fin
    have key := rf_seg tx_X21_free_ hC hT rf_segG mid
    exact key ad ls s.heap [] 0 0 (fun _ _ => rfl) (Nat.le_refl _) hlv (rf_Inv (z := z) (z2 := z) (X := []) rfl rf_Cnt rf_Cwe rf_sat0 (by rw [List.append_nil]; exact hI)) va_S.rf (Nat.le_refl _) (Nat.le_refl _) (Nat.le_refl _)
  · cases hF
