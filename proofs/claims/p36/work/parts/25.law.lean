/-! the law's run over the refuting script: 61 calls of free, 9999 new cells each -/
def rf_R : Room := { frames := 2048, cells := 620000, slots := 7293034, locals := 84000 }
def rf_lo (k : Nat) : List (Nat × ce_SV) := [(6, rf_i 0), (5, rf_i (6 * (k : Int))), (7, rf_i (match k with | 1 => 0 | _ => 9999)), (4, rf_r 192), (3, rf_r 191), (2, rf_r 181), (1, rf_r 0), (0, .inr (.inr (.inl (.inr 0))))]
def rf_st : List ce_SV := [rf_i 0, rf_i 0, rf_r 181]
abbrev ce_L0 : ce_L := ([(0, .inr (.inr (.inl (.inr 0))))], [])
noncomputable def rf_bJ : Bool := @decide (ce_to ta_L_law 900 100000 0 ce_L0 ([], [], 195, 1569) = some ((rf_lo 1, rf_st), ([], rf_C, 0, 0))) (ce_dO _ _)
theorem rf_bJt : rf_bJ = true := by decide +kernel
theorem rf_segJ : ce_to ta_L_law 900 100000 0 ce_L0 ([], [], 195, 1569) = some ((rf_lo 1, rf_st), ([], rf_C, 0, 0)) := @of_decide_eq_true _ (ce_dO _ _) rf_bJt
noncomputable def rf_bL (k : Nat) : Bool := @decide (ce_to ta_L_law 900 5000 903 (rf_lo k, [rf_i 9999]) ([], rf_C, 0, 0) = some ((rf_lo (k + 1), rf_st), ([], rf_C, 0, 0))) (ce_dO _ _)
theorem rf_bLt : ((List.range 60).all fun k => rf_bL (k + 1)) = true := by decide +kernel
theorem rf_segL (k : Nat) (h1 : 1 ≤ k) (h2 : k < 61) : ce_to ta_L_law 900 5000 903 (rf_lo k, [rf_i 9999]) ([], rf_C, 0, 0) = some ((rf_lo (k + 1), rf_st), ([], rf_C, 0, 0)) := by
  have h := List.all_eq_true.mp rf_bLt (k - 1) (List.mem_range.mpr (by omega))
  rw [show k - 1 + 1 = k by omega] at h
  exact @of_decide_eq_true _ (ce_dO _ _) h
noncomputable def rf_bM : Bool := @decide (ce_go ta_L_law 5000 903 (rf_lo 61, [rf_i 9999]) ([], rf_C, 0, 0) = some [(.inl (some (rf_i 1)), ([], rf_C, 0, 0))]) (ce_dR _ _)
theorem rf_bMt : rf_bM = true := by decide +kernel
theorem rf_evM : ce_go ta_L_law 5000 903 (rf_lo 61, [rf_i 9999]) ([], rf_C, 0, 0) = some [(.inl (some (rf_i 1)), ([], rf_C, 0, 0))] := @of_decide_eq_true _ (ce_dR _ _) rf_bMt
theorem rf_Fg_eq (avs : List ce_SV) (A : ce_F) (C : List ce_SE) (r q r2 q2 : Nat) : rf_Fg avs (A, C, r, q) = rf_Fg avs (A, C, r2, q2) := rfl
noncomputable def rf_bN : Bool := @decide (ce_CV 20 rf_Fg rf_av2 ([], rf_C, 0, 0) = some [(.inl (some (rf_i 9999)), ([], rf_C, 0, 0))]) (ce_dR _ _)
theorem rf_bNt : rf_bN = true := by decide +kernel
theorem rf_evN (r q : Nat) : ce_CV 20 rf_Fg rf_av2 ([], rf_C, r, q) = some [(.inl (some (rf_i 9999)), ([], rf_C, 0, 0))] := rf_cv (@of_decide_eq_true _ (ce_dR _ _) rf_bNt) (rf_Fg_eq _ _ _ _ _ _ _)
theorem rf_runG {nm : String} : rf_RU 9999 "CarcasswrightLaw" nm cL_law 9 (some .boolean) 5 900 3 9999 39996 903 (ce_CV 20 rf_Fg) :=
  rf_runV (ci := 20) (C := RX21) (Tf := TX21) (N := 20) rf_mg (by decide) (by decide) rfl gw_2449 gw_2446 gw_2447 gw_2448 gw_13 ⟨rfl, hp_X21_free_⟩ dL_law_900
theorem rf_ckL (k : Nat) : (Nat.ble (ce_wt ([] : List ce_SV)) 8 && ((rf_lo k).all (fun x => ce_wv rf_C.length x.2) && ([] : List ce_SV).all (ce_wv rf_C.length))) = true := by
  rw [rf_Clen]; rfl
theorem rf_chain {z : ce_U} {p : Program} {l : Launch} {e : Env} {R : Room} {s : State} {m : MethodId} {args : Array Value} {below : List Frame} {meth : Method} {c : Code} {nm : String} {ad0 : Nat → Nat} {B : Nat} {Q : State → Prop} (hC : ce_CX z p l R s m args meth c "CarcasswrightLaw" nm cL_law 9 (some .boolean) 5)
    (hQ : ∀ t, ce_Qm z R s args below ad0 0 [(.inl (some (rf_i 1)), ([], rf_C, 0, 0))] t → B + 609939 ≤ t.heap.size → Q t) :
    ∀ d k : Nat, k + d = 61 → 1 ≤ k → rf_WB (B + 9999 * (k - 1)) z p l e R s m args below meth c Q 9 ad0 0 900 (rf_lo k, rf_st) ([], rf_C, 9999 * (d + 1), 39996 * (d + 1))
  | 0, k, hk, h1 => by
    have hk : k = 61 := by omega
    subst hk
    have fin : rf_WB (B + 609939) z p l e R s m args below meth c Q 9 ad0 0 903 (rf_lo 61, [rf_i 9999]) ([], rf_C, 0, 0) := rf_go (tx_L_law (nm := nm)) hC (fun h e9 => by cases e9) rf_evM hQ
    refine rf_call (as := rf_av2) (rest := []) rf_runG hC (rf_evN _ _) rfl (rf_ckL 61) (by omega) (by omega) ?_
    rw [show B + 9999 * (61 - 1) + 9999 = B + 609939 by omega]
    exact fin
  | d + 1, k, hk, h1 => by
    have ih : rf_WB (B + 9999 * k) z p l e R s m args below meth c Q 9 ad0 0 900 (rf_lo (k + 1), rf_st) ([], rf_C, 9999 * (d + 1), 39996 * (d + 1)) := rf_chain (e := e) hC hQ d (k + 1) (by omega) (by omega)
    have ih2 : rf_WB (B + 9999 * k) z p l e R s m args below meth c Q 9 ad0 0 900 (rf_lo (k + 1), rf_st) ([], rf_C, 0 + 9999 * (d + 1), 0 + 39996 * (d + 1)) := by
      rw [Nat.zero_add, Nat.zero_add]; exact ih
    have s1 := rf_seg (tx_L_law (nm := nm)) hC (fun h e9 => by cases e9) (rf_segL k h1 (by omega)) ih2
    refine rf_call (as := rf_av2) (rest := []) rf_runG hC (rf_evN _ _) rfl (rf_ckL k) (by omega) (by omega) ?_
    rw [show B + 9999 * (k - 1) + 9999 = B + 9999 * k by omega, show 9999 * (d + 1 + 1) - 9999 = 0 + 9999 * (d + 1) by omega, show 39996 * (d + 1 + 1) - 39996 = 0 + 39996 * (d + 1) by omega]
    exact s1
/-- the end of the run, with how many cells the heap has then at least -/
def rf_Z (below : List Frame) (s : State) : State → Prop := fun t => ∃ o, t.status = .running ∧ Ended t below o ∧ s.heap.size + 609939 ≤ t.heap.size
theorem rf_lawW {p : Program} {e : Env} {s : State} {m : MethodId} {below : List Frame} {meth : Method} {c : Code} {l : Launch} {b : Nat} (hl : l.stackTraces = false) (hx : p.tables.exec = Jvm.exec) (hb : c.code = code) (hr : meth.sig.returnType = ret) (hml : c.maxLocals = 9) (hown : s.vm.findClass "CarcasswrightLaw" = some m.cls) (hts : ∀ w ∈ lw_tbl, w.before #[Value.ref b] s = true) (hlocks : meth.locks = false) {z : ce_U} (hK : ce_CK z s) (hz0 : ce_ev z 0 = .ref b) :
    W p l e rf_R s m #[Value.ref b] below meth c s.heap [] 0 0 (rf_Z below s) (entryFrame m ([Value.ref b] : List Value).toArray 9) := by
  have hC : ce_CX z p l rf_R s m #[Value.ref b] meth c "CarcasswrightLaw" meth.name cL_law 9 (some .boolean) 5 :=
    ⟨hx, hb, hml, hown, ce_gwb hts, rfl, hr, hlocks, ⟨hl, by decide, by decide⟩, hK⟩
  have hl9 := lv_entry [Value.ref b] (n := 9) (Nat.le_of_ble_eq_true rfl)
  rw [lg_entry_eq]
  have chain := rf_chain (e := e) (below := below) (ad0 := fun _ => 0) (B := s.heap.size) (Q := rf_Z below s) hC (fun t h1 h2 => by
    obtain ⟨o, b1, b2, -⟩ := h1
    exact ⟨o, b1, b2, h2⟩) 60 1 rfl (Nat.le_refl _)
  have chain2 : rf_WB s.heap.size z p l e rf_R s m #[Value.ref b] below meth c (rf_Z below s) 9 (fun _ => 0) 0 900 (rf_lo 1, rf_st) ([], rf_C, 0 + 609939, 0 + 2439756) := chain
  have key := rf_seg (tx_L_law (nm := meth.name)) hC (fun h e9 => by cases e9) rf_segJ chain2
  exact key (fun _ => 0) _ s.heap [] 0 0 (fun _ _ => rfl) (Nat.le_refl _) (by
      show lv_has _ 9 [(0, ce_ev z 0)]
      rw [hz0]; exact hl9) ⟨fun k q h => by simp [ce_w] at h, ⟨fun i j p q h => by simp [ce_w] at h, fun k q h => by simp [ce_w] at h⟩, rfl, rf_sat0⟩ va_S.rf (Nat.le_of_ble_eq_true rfl) (Nat.le_of_ble_eq_true rfl) (Nat.le_refl _)
