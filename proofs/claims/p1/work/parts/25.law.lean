/-! THE CLAIM OUT OF ONE WALK OF THE LAW'S BODY. Your part is whole_start (and what it stands on); all else here is the same for every law, but numbers. -/
def R_law : String := "CarcasswrightLaw"
def lw_P (b : Addr) (xs : List Int32) (args : Array Value) (s : State) : Prop := args = #[.ref b] ∧ s.IntsAt b xs ∧ xs.length ≤ 6 ∧ (Jvm.Cond.and given_1 narrow_1).before args s = true
/-- what a walk over the start with the record d0 says of its end, said of the start itself -/
theorem lw_closed {s t : State} {o : Outcome} {d0 : Drawn} {L : List Loc} {k n : Nat} (hd0 : s.drawn.sameBut d0 lw_cs) (hv : ∃ v, o = .returned v) (hW : (s.setDrawn d0).WarmedH t.vm) (hs : (s.setDrawn d0).sameButNew ({ t with vm := s.vm } : State) L k n) : State.butDraws s t lw_cs (fun t1 => Framed s o t1 L k n) := by
  have h2 : t.drawn = d0 := congrArg State.drawn hs.1
  refine ⟨⟨hv, hW, State.sameButNew.setDrawn hs s.drawn⟩, ?_, by decide⟩
  rw [h2]
  exact hd0
def lw_Q (_ : Array Value) (s : State) (o : Outcome) (t : State) : Prop := o = .returned (some (.int 1)) ∧ State.butDraws s t lw_cs (fun t1 => Framed s o t1 [] 623858 7230663)
def lw_Z (below : List Frame) (a : Array Value) (s : State) : State → Prop := fun t => ∃ o, t.status = .running ∧ Ended t below o ∧ lw_Q a s o t
/-- the law's own end, with 1 on the stack, nothing written that was there before, its room as the claim has it; d0: the record of draws at this point (at the entry s.drawn: begin with 'refine W.base ?_' and 'have hd0 := Drawn.sameBut.refl s.drawn lw_cs') -/
theorem lw_ret {p : Program} {l : Launch} {e : Env} {s : State} {m : MethodId} {below : List Frame} {meth : Method} {c : Code} {b : Nat} {d0 : Drawn} (hd0 : s.drawn.sameBut d0 lw_cs) (hx : p.tables.exec = Jvm.exec) (hb : c.code = code) (hr : meth.sig.returnType = ret) (hlocks : meth.locks = false) {pc : Nat} {H : Heap} {ls : Array Slot} (hdg : decode code pc = .ok (.ireturn, 1)) : W p l e room_1 (s.setDrawn d0) m #[Value.ref b] below meth c H [] 623858 7230663 (lw_Z below #[Value.ref b] s) (F0 m pc ls [.int 1]) := by
  intro T hT X
  obtain ⟨fs, hret, hrun, hended, hW, hframe⟩ := X.leave (v := some (.int 1)) (hlocks := hlocks) (fun h => by rw [hr] at h; cases h)
  have hmeth' : T.vm.method? m = some meth := X.method'
  refine ⟨T.setFrames fs, ?_, .returned (some (.int 1)), hrun, hended, rfl, lw_closed hd0 ⟨_, rfl⟩ hW hframe⟩
  jvm_step X.here [X.here.top, hx, hb, hdg, hmeth', hr, ret, narrow_b1]
  (try refine ⟨rfl, ?_⟩); (try refine ⟨rfl, ?_⟩)
  first | (intro acts; rw [hret _ acts rfl rfl rfl]) | rw [hret _ _ rfl rfl rfl]
  exact Steps.refl _
/-- what holds at the law's entry: the machine, the code, the tables' words (any of lw_tbl by 'hts w (by decide +kernel)'), the script of L ints xs at the cell b, what the Statement gives of the start (any of its parts by flat_of_before) -/
def lw_At (p : Program) (s : State) (m : MethodId) (meth : Method) (c : Code) (b L : Nat) (xs : Nat → Int32) : Prop :=
  p.tables.exec = Jvm.exec ∧ c.code = code ∧ meth.sig.returnType = ret ∧ c.maxLocals = 9 ∧ s.vm.findClass R_law = some m.cls ∧ (∀ w ∈ lw_tbl, w.before #[Value.ref b] s = true) ∧ va_X b L xs s s.heap ∧ b < s.heap.size ∧ meth.locks = false ∧ (Jvm.Cond.and given_1 narrow_1).before #[Value.ref b] s = true

/-! the law's run, and what it gives of the law -/
def ce_one (x : ce_O × ce_G) : Bool := match x.1 with
  | .inl (some (.inl (.inl n))) => decide (n = 1)
  | _ => false
def ce_chk (r : Option ce_R) : Bool := match r with
  | some S => S.all ce_one
  | none => false
abbrev ce_L0 : ce_L := ([(0, .inr (.inr (.inl (.inr 0))))], [])
abbrev ce_Fl (n : Int) : ce_F := [(.arg 99, 0, n), (.arg 99, 1, n)]
abbrev ce_Fk (k : Int) : ce_F := (.sum (.arg 0), 0, k) :: (.sum (.arg 0), 1, k) :: ce_Fl 6
noncomputable def ce_law (F : ce_F) : Bool := ce_chk (ce_go ta_L_law 1000000 0 ce_L0 (F, [], 1000, 20000))
theorem ce_nolocs {s t : State} {L : List Loc} {k n : Nat} (h : s.sameButNew t L k n) (hL : ∀ q ∈ L, s.heap.size ≤ q.base) : s.sameButNew t [] k n := by
  obtain ⟨h1, h2, h3, h4, h5, h6⟩ := h
  refine ⟨h1, h2, h3, h4, h5, fun a c hc => ?_⟩
  obtain ⟨c', e1, e2, e3, e4⟩ := h6 a c hc
  refine ⟨c', e1, e2, e3, fun i _ => e4 i fun hm => ?_⟩
  have h7 := hL _ hm
  have h8 : a < s.heap.size := (Array.getElem?_eq_some_iff.mp hc).1
  exact absurd h8 (Nat.not_lt.mpr h7)
theorem ce_lawQ {p : Program} {e : Env} {s : State} {m : MethodId} {below : List Frame} {meth : Method} {c : Code} {l : Launch} (hl : l.stackTraces = false) {b L : Nat} {xs : Nat → Int32} (C0 : lw_At p s m meth c b L xs) {z : ce_U} (hK : ce_CK z s) (hzb : ce_b z = s.heap.size) (hz0 : ce_ev z 0 = .ref b) {F : ce_F} (hF : ce_sat z F) {S : ce_R} (hrun : S.all ce_one = true)
    (hgo : ce_CX z p l room_1 s m #[Value.ref b] meth c "CarcasswrightLaw" meth.name code 9 ret 11 → ∀ ad0 : Nat → Nat, ce_WS z p l e room_1 s m #[Value.ref b] below meth c (ce_Qm z room_1 s #[Value.ref b] below ad0 0 S) 9 ad0 0 0 ce_L0 (F, [], 1000, 20000)) :
    W p l e room_1 s m #[Value.ref b] below meth c s.heap [] 0 0 (lw_Z below #[Value.ref b] s) (entryFrame m ([Value.ref b] : List Value).toArray 9) := by
  obtain ⟨hx, hb, hr, hml, hown, hts, hX, hbl, hlocks, hgv⟩ := id C0
  have hC : ce_CX z p l room_1 s m #[Value.ref b] meth c "CarcasswrightLaw" meth.name code 9 ret 11 :=
      ⟨hx, hb, hml, hown, ce_gwb hts, rfl, hr, hlocks, ⟨hl, by decide, by decide⟩, hK⟩
  have hl9 := lv_entry [Value.ref b] (n := 9) (Nat.le_of_ble_eq_true rfl)
  rw [lg_entry_eq]
  have key := hgo hC (fun _ => 0) (fun _ => 0) _ s.heap [] 0 0 (fun _ _ => rfl) (Nat.le_refl _) (by
      show lv_has _ 9 [(0, ce_ev z 0)]
      rw [hz0]; exact hl9) ⟨fun k q h => by simp [ce_w] at h, ⟨fun i j p q h => by simp [ce_w] at h, fun k q h => by simp [ce_w] at h⟩, rfl, hF⟩ va_S.rf (Nat.le_of_ble_eq_true rfl) (Nat.le_of_ble_eq_true rfl)
  intro T hT X
  obtain ⟨t, a1, o, b1, b2, b3⟩ := key T hT X
  refine ⟨t, a1, o, b1, b2, ?_⟩
  rcases b3 with ⟨⟨⟨o9, G9, ad9, m9, e9, -⟩, -⟩, L9, ⟨hv, hW, hsm⟩, hL9⟩ | ⟨q, -, E, ce, L9, ⟨⟨k9, G9, ad9, m9, -⟩, -⟩, -⟩
  · have h1 := List.all_eq_true.mp hrun _ m9
    have h2 : o = .returned (some (.int 1)) := by
      rw [e9]
      unfold ce_one at h1
      dsimp only at h1
      split at h1
      · rename_i n hn
        have := of_decide_eq_true h1
        subst this
        cases hn
        rfl
      · cases h1
    refine ⟨h2, ?_⟩
    exact lw_closed (d0 := s.drawn) (Drawn.sameBut.refl s.drawn lw_cs) hv hW (ce_nolocs hsm (fun q hq => by
      have := hL9 q hq
      show s.heap.size ≤ q.base
      rw [← hzb]; exact this))
  · have h1 := List.all_eq_true.mp hrun _ m9
    cases h1
theorem ce_lawW {p : Program} {e : Env} {s : State} {m : MethodId} {below : List Frame} {meth : Method} {c : Code} {l : Launch} (hl : l.stackTraces = false) {b L : Nat} {xs : Nat → Int32} (C0 : lw_At p s m meth c b L xs) {z : ce_U} (hK : ce_CK z s) (hzb : ce_b z = s.heap.size) (hz0 : ce_ev z 0 = .ref b) {F : ce_F} (hF : ce_sat z F) (hrun : ce_law F = true) :
    W p l e room_1 s m #[Value.ref b] below meth c s.heap [] 0 0 (lw_Z below #[Value.ref b] s) (entryFrame m ([Value.ref b] : List Value).toArray 9) := by
  unfold ce_law ce_chk at hrun
  split at hrun
  · rename_i S hS
    exact ce_lawQ hl C0 hK hzb hz0 hF (S := S) hrun (fun hC ad0 => ce_go_ok (tx_L_law (nm := meth.name)) hC (fun h e9 => by cases e9) S (below := below) (e := e) (ad0 := ad0) (n0 := 0) 1000000 0 ce_L0 (F, [], 1000, 20000) S hS (fun _ h => h))
  · cases hrun
theorem ce_flags {l : Launch} (h : l.flags = flags0) : l.stackTraces = false := by
  simp only [Launch.stackTraces, h]
  decide
