/-! how far the heap has grown at least: the library's word on every run of the machine ('stepsAlone_heap_grows'), carried along with the symbolic machine -/
theorem rf_steps {tb : Tables} {e : Env} {below : List Frame} {s t : State} (h : Steps tb e below s t) : s.heap.size ≤ t.heap.size := by
  obtain ⟨n, rfl, -⟩ := h
  exact (stepsAlone_heap_grows tb e n s).1
theorem rf_top (T : State) (g : JFrame) : (T.setTop g).heap = T.heap := by first | rfl | simp
theorem rf_grow {p : Program} {l : Launch} {e : Env} {R : Room} {s : State} {m : MethodId} {args : Array Value} {below : List Frame} {meth : Method} {c : Code} {H : Heap} {locs : List Loc} {cells slots : Nat} {Q : State → Prop} {g : JFrame} (k : W p l e R s m args below meth c H locs cells slots Q g) :
    W p l e R s m args below meth c H locs cells slots (fun t => Q t ∧ H.size ≤ t.heap.size) g := by
  intro T hT X
  obtain ⟨t, a, b⟩ := k T hT X
  refine ⟨t, a, b, ?_⟩
  have h := rf_steps a
  rw [rf_top, hT] at h
  exact h
/-- a state of the symbolic machine, at a heap of at least B cells -/
def rf_WB (B : Nat) (z : ce_U) (p : Program) (l : Launch) (e : Env) (R : Room) (s : State) (m : MethodId) (args : Array Value) (below : List Frame) (meth : Method) (c : Code) (Q : State → Prop) (nL : Nat) (ad0 : Nat → Nat) (n0 : Nat) (pc : Nat) (L : ce_L) (G : ce_G) : Prop :=
  ∀ (ad : Nat → Nat) (ls : Array Slot) (H : Heap) (locs : List Loc) (kc ks : Nat), (∀ k, k < n0 → ad k = ad0 k) → n0 ≤ G.2.1.length → lv_has ls nL (L.1.map fun q => (q.1, ce_v z ad q.2)) → ce_Inv z ad G H → va_S (ce_A z) s.heap H locs → kc + G.2.2.1 ≤ R.cells → ks + G.2.2.2 ≤ R.slots → B ≤ H.size →
    W p l e R s m args below meth c H locs kc ks Q (F0 m pc ls (L.2.map (ce_v z ad)))
noncomputable def ce_to (tab : Nat → Option ce_N) (cut n : Nat) : Nat → ce_L → ce_G → Option (ce_L × ce_G) :=
  Nat.rec (motive := fun _ => Nat → ce_L → ce_G → Option (ce_L × ce_G)) (fun _ _ _ => none)
    (fun _ ih pc L G => match Nat.beq pc cut with
      | true => some (L, G)
      | false => match tab pc with
        | none => none
        | some f => ce_nf L G fun L G => match f L G with
          | some ([], [y]) => ih y.1 y.2.1 y.2.2
          | _ => none) n
theorem ce_to_succ (tab : Nat → Option ce_N) (cut n pc : Nat) (L : ce_L) (G : ce_G) : ce_to tab cut (n + 1) pc L G = match Nat.beq pc cut with
      | true => some (L, G)
      | false => match tab pc with
        | none => none
        | some f => ce_nf L G fun L G => match f L G with
          | some ([], [y]) => ce_to tab cut n y.1 y.2.1 y.2.2
          | _ => none := rfl
section Seg
variable {own nm : String} {cc : ByteArray} {nL : Nat} {ret : Option FieldType} {ht : Nat} {hh : Option (List (Nat × Nat × Nat × Nat))} {tab : Nat → Option ce_N}
variable {z : ce_U} {p : Program} {l : Launch} {e : Env} {R : Room} {s : State} {m : MethodId} {args : Array Value} {below : List Frame} {meth : Method} {c : Code} {ad0 : Nat → Nat} {n0 : Nat}
theorem ce_to_ok (htab : ∀ pc f, tab pc = some f → ce_OKN own nm cc nL ret ht hh pc f)
    (hC : ce_CX z p l R s m args meth c own nm cc nL ret ht) (hT : ∀ h, hh = some h → c.exceptionTable.toList = tableOf h) (T : ce_R) (Q : State → Prop) (hQ : ∀ t, ce_Qm z R s args below ad0 n0 T t → Q t) {cut : Nat} {L1 : ce_L} {G1 : ce_G} (hgo : ce_WS z p l e R s m args below meth c Q nL ad0 n0 cut L1 G1) : ∀ (n pc : Nat) (L : ce_L) (G : ce_G), ce_to tab cut n pc L G = some (L1, G1) → ce_WS z p l e R s m args below meth c Q nL ad0 n0 pc L G
  | 0, pc, L, G, h => by cases h
  | n + 1, pc, L, G, h => by
    rw [ce_to_succ] at h
    split at h
    · rename_i hb
      cases h
      rw [Nat.eq_of_beq_eq_true hb]
      exact hgo
    · split at h
      · cases h
      · rename_i f hf
        rw [ce_nf_eq] at h
        split at h
        · rename_i y hXY
          refine htab pc f hf hC hT T Q hQ L G [] [y] hXY (fun x hx => nomatch hx) (fun y2 hy => ?_)
          rw [List.mem_singleton.mp hy]
          exact ce_to_ok htab hC hT T Q hQ hgo n y.1 y.2.1 y.2.2 h
        · cases h
theorem rf_no {t : State} (h : ce_Qm z R s args below ad0 n0 [] t) : False := by
  obtain ⟨o, -, -, h⟩ := h
  rcases h with ⟨⟨⟨o9, G9, ad9, m9, -⟩, -⟩, -⟩ | ⟨q, -, E, ce, L9, ⟨⟨k9, G9, ad9, m9, -⟩, -⟩, -⟩
  · cases m9
  · cases m9
/-- another room, as long as the start has it -/
theorem rf_room {T : State} {locs : List Loc} {kc ks : Nat} (X : Stand p l e R s m args below meth c T locs kc ks) {R2 : Room} (h : s.hasRoom e.platform R2 = true) : Stand p l e R2 s m args below meth c T locs kc ks :=
  { X with room := h }
theorem rf_less (h : s.hasRoom e.platform R = true) {a b : Nat} (ha : a ≤ R.cells) (hb : b ≤ R.slots) : s.hasRoom e.platform ({ R with cells := a, slots := b } : Room) = true := by
  simp only [State.hasRoom, Bool.and_eq_true, decide_eq_true_eq] at h ⊢
  obtain ⟨⟨⟨⟨h1, h2⟩, h3⟩, h4⟩, h5⟩ := h
  exact ⟨⟨⟨⟨h1, h2⟩, by omega⟩, by omega⟩, h5⟩
/-- a piece of a run, whatever room is left beyond its own -/
theorem rf_seg (htab : ∀ pc f, tab pc = some f → ce_OKN own nm cc nL ret ht hh pc f)
    (hC : ce_CX z p l R s m args meth c own nm cc nL ret ht) (hT : ∀ h, hh = some h → c.exceptionTable.toList = tableOf h) {cut n pc : Nat} {L L1 : ce_L} {F F1 : ce_F} {C C1 : List ce_SE} {r q r1 q1 : Nat} (hto : ce_to tab cut n pc L (F, C, r, q) = some (L1, (F1, C1, r1, q1)))
    {a b B : Nat} {Q : State → Prop} (hgo : rf_WB B z p l e R s m args below meth c Q nL ad0 n0 cut L1 (F1, C1, r1 + a, q1 + b)) : rf_WB B z p l e R s m args below meth c Q nL ad0 n0 pc L (F, C, r + a, q + b) := by
  intro ad ls H locs kc ks h1 h2 hl hI hv k1 k2 hB T hT9 X
  have k1 : kc + (r + a) ≤ R.cells := k1
  have k2 : ks + (q + b) ≤ R.slots := k2
  let R2 : Room := { R with cells := kc + r, slots := ks + q }
  have hC2 : ce_CX z p l R2 s m args meth c own nm cc nL ret ht := hC
  have X2 : Stand p l e R2 s m args below meth c T locs kc ks := rf_room X (rf_less X.room (by omega) (by omega))
  let Q1 : State → Prop := fun t => ∃ (ad : Nat → Nat) (ls : Array Slot) (H : Heap) (locs : List Loc) (kc ks : Nat) (T : State), (∀ k, k < n0 → ad k = ad0 k) ∧ n0 ≤ C1.length ∧ lv_has ls nL (L1.1.map fun q => (q.1, ce_v z ad q.2)) ∧ ce_Inv z ad (F1, C1, r1, q1) H ∧ va_S (ce_A z) s.heap H locs ∧ kc + r1 ≤ R2.cells ∧ ks + q1 ≤ R2.slots ∧ T.heap = H ∧ Stand p l e R2 s m args below meth c T locs kc ks ∧ t = T.setTop (F0 m cut ls (L1.2.map (ce_v z ad)))
  have key := ce_to_ok (ad0 := ad0) (n0 := n0) (below := below) (e := e) htab hC2 hT [] Q1 (fun t h => (rf_no h).elim) (fun ad ls H locs kc ks a1 a2 a3 a4 a5 a6 a7 T hT X => ⟨_, Steps.refl _, ad, ls, H, locs, kc, ks, T, a1, a2, a3, a4, a5, a6, a7, hT, X, rfl⟩) n pc L (F, C, r, q) hto ad ls H locs kc ks h1 h2 hl hI hv (Nat.le_refl _) (Nat.le_refl _) T hT9 X2
  obtain ⟨t, st, ad1, ls1, H1, locs1, kc1, ks1, T1, a1, a2, a3, a4, a5, a6, a7, e1, X1, rfl⟩ := key
  have a6 : kc1 + r1 ≤ kc + r := a6
  have a7 : ks1 + q1 ≤ ks + q := a7
  have hg := rf_steps st
  rw [rf_top, rf_top, hT9, e1] at hg
  obtain ⟨t2, st2, q2⟩ := hgo ad1 ls1 H1 locs1 kc1 ks1 a1 a2 a3 a4 a5 (by show kc1 + (r1 + a) ≤ R.cells; omega) (by show ks1 + (q1 + b) ≤ R.slots; omega) (Nat.le_trans hB hg) T1 e1 (rf_room X1 X.room)
  exact ⟨t2, st.trans st2, q2⟩
/-- a run to the method's end -/
theorem rf_go (htab : ∀ pc f, tab pc = some f → ce_OKN own nm cc nL ret ht hh pc f)
    (hC : ce_CX z p l R s m args meth c own nm cc nL ret ht) (hT : ∀ h, hh = some h → c.exceptionTable.toList = tableOf h) {n pc : Nat} {L : ce_L} {G : ce_G} {S : ce_R} (hgo : ce_go tab n pc L G = some S)
    {B : Nat} {Q : State → Prop} (hQ : ∀ t, ce_Qm z R s args below ad0 n0 S t → B ≤ t.heap.size → Q t) : rf_WB B z p l e R s m args below meth c Q nL ad0 n0 pc L G := by
  intro ad ls H locs kc ks h1 h2 hl hI hv k1 k2 hB
  exact ce_mono (fun t ht => hQ t ht.1 (Nat.le_trans hB ht.2)) (rf_grow (ce_go_ok htab hC hT S _ (fun _ h => h) n pc L G S hgo (fun _ h => h) ad ls H locs kc ks h1 h2 hl hI hv k1 k2))
end Seg
/-- a contract that tells, too, by how much the heap has grown at least -/
def rf_Q (z : ce_U) (ad : Nat → Nat) (n0 : Nat) (S : ce_R) (gr : Nat) : Array Value → State → Outcome → State → Prop := fun a st o t => ce_Qc z ad n0 S a st o t ∧ st.heap.size + gr ≤ t.heap.size
def rf_MS (l : Launch) (y : MethodName) (hd : Cond) (ht mc ms gr : Nat) (F : ce_C) : Prop := ∀ (z : ce_U) (ad : Nat → Nat) (avs : List ce_SV) (G : ce_G) (S : ce_R), F avs G = some S →
  vx_Met l y (hd :: ce_GW) ({ frames := 8 + ht, cells := mc, slots := ms, locals := 100 * (ht + 2) } : Room) (ce_Pc z ad avs G) (rf_Q z ad G.2.1.length S gr) (ce_XC z ad G.2.1.length S) mc ms (ce_A z)
def rf_RU (gr : Nat) (own nm : String) (cc : ByteArray) (nL : Nat) (ret : Option FieldType) (ht pc na mc ms nx : Nat) (F : ce_C) : Prop :=
  ∀ {z : ce_U} {p : Program} {l : Launch} {e : Env} {R : Room} {s : State} {m : MethodId} {args : Array Value} {below : List Frame} {meth : Method} {c : Code}, ce_CX z p l R s m args meth c own nm cc nL ret ht →
    ∀ (ad : Nat → Nat) (as rest : List ce_SV) (G : ce_G) (S : ce_R) (ls : Array Slot) (H : Heap) (locs : List Loc) (kc ks : Nat), F as G = some S → as.length = na → ls.size = nL → ce_Inv z ad G H → va_S (ce_A z) s.heap H locs → ((rest.map (ce_v z ad)).map fun v => v.category).sum ≤ 8 → kc + mc ≤ R.cells → ks + ms ≤ R.slots →
      ∃ aa, ce_Rn nx p l e R s m args below meth c H locs kc ks mc ms (F0 m pc ls ((as.map (ce_v z ad)).reverse ++ rest.map (ce_v z ad))) (rest.map (ce_v z ad)) (rf_Q z ad G.2.1.length S gr aa) (ce_XC z ad G.2.1.length S) (ce_A z)
section Call2
variable {own nm : String} {cc : ByteArray} {nL : Nat} {ret : Option FieldType} {ht pc : Nat}
theorem rf_runV {ht2 mc ms n index maxL ci N gr : Nat} {C : String} {Tf : u_T} {y : MethodName} {bytes : ByteArray} {ret2 : Option FieldType} {F : ce_C} (hM : ∀ l : Launch, l.stackTraces = false → rf_MS l y (.code y bytes maxL ret2) ht2 mc ms gr F) (hh2 : ht2 + 1 ≤ ht) (hmx : maxL ≤ 81)
    (hc : ce_cl[ci]? = some (C, Tf, N)) (g0 : Cond.code y bytes maxL ret2 ∈ ce_GW) (g1 : Cond.methodLink own index y ∈ ce_GW) (g2 : Cond.instanceMethod y ∈ ce_GW) (g3 : Cond.selects C y y ∈ ce_GW) (g4 : Cond.initialized C ∈ ce_GW)
    (hd : y.cls = C ∧ y.cls ≠ "java/lang/invoke/MethodHandle" ∧ y.cls ≠ "java/lang/invoke/VarHandle" ∧ (parseMethodDescriptor y.desc).map (fun d => d.parameters.length) = some n) (d : decode cc pc = .ok (.invokevirtual index, 3)) : rf_RU gr own nm cc nL ret ht pc (n + 1) mc ms (pc + 3) (ce_CV ci F) := by
  intro z p l e R s m args below meth c hC ad as rest G S ls H locs kc ks hF hn hls hI hv hw kc1 ks1
  obtain ⟨hl, hfr, hlo⟩ := ce_CXl hC
  match as, hn, hF with
  | v :: as2, hn, hF =>
    simp only [ce_CV] at hF
    split at hF
    · rename_i hrc
      obtain ⟨b, hb, hcell⟩ := ce_rc_ok (ce_CXK hC) hI hv hc hrc
      have hPU := ce_PcU (as := v :: as2) (ce_CXK hC) hI hv
      have hMet := hM l hl z ad (v :: as2) G S hF
      have hGi : GoodIn ce_GW (wsV own index C y (.code y bytes maxL ret2 :: ce_GW)) := ce_gia (fun w hw => by
        simp only [List.mem_cons, List.not_mem_nil, or_false] at hw
        rcases hw with rfl | rfl | rfl | rfl
        · exact g1
        · exact g2
        · exact g3
        · exact g4) (ce_gi2 g0)
      rw [List.map_cons, hb] at hPU
      rw [List.map_cons, hb]
      refine ⟨(Value.ref b :: as2.map (ce_v z ad)).toArray, ?_⟩
      exact vx_runV (As := as2.map (ce_v z ad)) (C := C) (b := b) (ce_fix hC) hMet (cwV n hC.2.2.2.2.1 hGi rfl rfl rfl hd ⟨by show 8 + ht2 + 1 ≤ R.frames; omega, by show 8 + (maxL + 11) + 100 * (ht2 + 2) ≤ R.locals; omega⟩) ⟨ce_Pc_blind, hcell, hPU⟩ rfl (by rw [List.length_map]; exact Nat.succ.inj hn) hls (by simp) (lv_room hw) d ⟨kc1, ks1⟩
    · cases hF
theorem rf_call {z : ce_U} {p : Program} {l : Launch} {e : Env} {R : Room} {s : State} {m : MethodId} {args : Array Value} {below : List Frame} {meth : Method} {c : Code} {ad0 : Nat → Nat} {n0 : Nat} {na mc ms nx gr : Nat} {F : ce_C} (hF : rf_RU gr own nm cc nL ret ht pc na mc ms nx F) (hC : ce_CX z p l R s m args meth c own nm cc nL ret ht)
    {as rest : List ce_SV} {lo : List (Nat × ce_SV)} {Fa F1 : ce_F} {C C1 : List ce_SE} {r q r1 q1 : Nat} {v : ce_SV} (hFv : F as (Fa, C, r, q) = some [(.inl (some v), (F1, C1, r1, q1))]) (hna : as.length = na)
    (hck : (Nat.ble (ce_wt rest) 8 && (lo.all (fun x => ce_wv C.length x.2) && rest.all (ce_wv C.length))) = true) (hmc : mc ≤ r) (hms : ms ≤ q) {B : Nat} {Q : State → Prop}
    (hgo : rf_WB (B + gr) z p l e R s m args below meth c Q nL ad0 n0 nx (lo, v :: rest) (F1, C1, r - mc, q - ms)) : rf_WB B z p l e R s m args below meth c Q nL ad0 n0 pc (lo, as.reverse ++ rest) (Fa, C, r, q) := by
  intro ad ls H locs kc ks h1 h2 hl hI hv k1 k2 hB
  have k1 : kc + r ≤ R.cells := k1
  have k2 : ks + q ≤ R.slots := k2
  have h2 : n0 ≤ C.length := h2
  simp only [Bool.and_eq_true] at hck
  obtain ⟨b1, b4, b5⟩ := hck
  have b1 := Nat.le_of_ble_eq_true b1
  obtain ⟨aa, hr⟩ := hF hC (e := e) (below := below) ad as rest (Fa, C, r, q) _ ls H locs kc ks hFv hna hl.1 hI hv (Nat.le_trans (ce_wt_ok (ce_CXK hC) rest) b1) (by omega) (by omega)
  show W _ _ _ _ _ _ _ _ _ _ _ _ _ _ _ (F0 m pc ls ((as.reverse ++ rest).map (ce_v z ad)))
  rw [List.map_append, List.map_reverse]
  intro T hT X
  rcases hr T hT X with ⟨v9, st₀, t, T', L, h0, X', hL, e1, e2, ⟨⟨⟨o, Gx, ad', hm, hvv, hBx⟩, hF9⟩, hgr⟩, st⟩ | ⟨q9, st₀, t, T', L, E, ce, h0, X', hL, e1, e2, ⟨⟨k, Gx, ad', hm, hE, hBx⟩, hF9⟩, hce, hcv, hcl, st⟩
  · cases hvv
    cases List.mem_singleton.mp hm
    obtain ⟨k1', k2', k3⟩ := vx_keep h0 e1 hv (fun _ _ h => h) (fun _ h => h) hL hF9
    have hBx1 : ∀ i, i < C.length → ad' i = ad i := hBx.1
    have hBx2 : C.length ≤ C1.length := hBx.2.1
    have hgr2 : B + gr ≤ T'.heap.size := by
      rw [e1]
      have h9 := hgr
      rw [h0] at h9
      omega
    have e9 : List.map (ce_v z ad') (v :: rest) = ce_v z ad' v :: rest.map (ce_v z ad) := by rw [List.map_cons, ce_map_congr hBx1 b5]
    obtain ⟨t2, a1, b2⟩ := hgo ad' ls T'.heap (locs ++ L) (kc + mc) (ks + ms) (fun i hi => (hBx1 i (Nat.lt_of_lt_of_le hi h2)).trans (h1 i hi)) (Nat.le_trans h2 hBx2)
      (by show lv_has ls nL (lo.map fun x => (x.1, ce_v z ad' x.2)); rw [ce_loc_congr hBx1 b4]; exact hl) (by rw [e1]; exact hBx.2.2) k3 (by show kc + mc + (r - mc) ≤ R.cells; omega) (by show ks + ms + (q - ms) ≤ R.slots; omega) hgr2 T' rfl X'
    rw [e9] at a1
    exact ⟨t2, st t2 a1, b2⟩
  · cases List.mem_singleton.mp hm
end Call2
theorem rf_met {l : Launch} (hl : l.stackTraces = false) {y : MethodName} {cc : ByteArray} {nL : Nat} {ret : Option FieldType} {ht mc ms gr : Nat} (hy : plainName y.cls = true) {z : ce_U} {ad : Nat → Nat} {avs : List ce_SV} {G : ce_G} {S : ce_R} (hax : (avs.all ce_ax && Nat.ble (ce_wt avs) nL) = true)
    (body : ∀ (p : Program) (e : Env) (s : State) (m : MethodId) (args : Array Value) (below : List Frame) (meth : Method) (c : Code), ce_CX z p l ({ frames := 8 + ht, cells := mc, slots := ms, locals := 100 * (ht + 2) } : Room) s m args meth c y.cls y.name cc nL ret ht → (∀ h, some [] = some h → c.exceptionTable.toList = tableOf h) →
      ∀ (ad9 : Nat → Nat) (ls : Array Slot), ad9 = ad → lv_has ls nL ((ce_args 0 avs).map fun q => (q.1, ce_v z ad q.2)) → ce_Inv z ad G s.heap →
      W p l e ({ frames := 8 + ht, cells := mc, slots := ms, locals := 100 * (ht + 2) } : Room) s m args below meth c s.heap [] 0 0 (vx_MQ below (rf_Q z ad G.2.1.length S gr) (ce_XC z ad G.2.1.length S) args s mc ms (ce_A z)) (F0 m 0 ls [])) :
    vx_Met l y (.code y cc nL ret :: ce_GW) ({ frames := 8 + ht, cells := mc, slots := ms, locals := 100 * (ht + 2) } : Room) (ce_Pc z ad avs G) (rf_Q z ad G.2.1.length S gr) (ce_XC z ad G.2.1.length S) mc ms (ce_A z) := by
  refine vx_ofW (cc := cc) (maxL := nL) (ret := ret) hy rfl ?_
  intro p e s m args below meth c s₁ B hml hx0 hP
  obtain ⟨rfl, hK, hI⟩ := hP
  simp only [Bool.and_eq_true] at hax
  have hts := atoms_spec (ws := Cond.code y cc nL ret :: ce_GW) B.pre
  have hC : ce_CX z p l ({ frames := 8 + ht, cells := mc, slots := ms, locals := 100 * (ht + 2) } : Room) s m ((avs.map (ce_v z ad)).toArray) meth c y.cls y.name cc nL ret ht :=
    ⟨B.exec, B.bytes, hml, findClass_of_methodNamed B.named, fun w hw => hts w (List.mem_cons_of_mem _ hw), (name_of_methodNamed B.named B.method).1, B.returns, B.notSynchronized, ⟨hl, Nat.le_refl _, Nat.le_refl _⟩, hK⟩
  have hlen : (lg_sl (avs.map (ce_v z ad))).length ≤ nL := Nat.le_trans (ce_sl_len hK avs) (Nat.le_of_ble_eq_true hax.2)
  have hl9 := lv_entry (avs.map (ce_v z ad)) hlen
  rw [ce_lv_args hK avs 0 hax.1] at hl9
  rw [lg_entry_eq]
  exact body p e s m _ below meth c hC (fun h hh => by cases hh; exact List.eq_nil_iff_forall_not_mem.mpr hx0) ad _ rfl hl9 hI
