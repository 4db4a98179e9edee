/-! the walk of the law's body, case by case -/
theorem ce_lens {n : Nat} (h : n < 7) : ce_law (ce_Fl n) = true ∨ n = 6 := by
  rcases (by omega : n = 0 ∨ n = 1 ∨ n = 2 ∨ n = 3 ∨ n = 4 ∨ n = 5 ∨ n = 6) with rfl | rfl | rfl | rfl | rfl | rfl | rfl
  · exact Or.inl el_0
  · exact Or.inl el_1
  · exact Or.inl el_2
  · exact Or.inl el_3
  · exact Or.inl el_4
  · exact Or.inl el_5
  · exact Or.inr rfl
theorem ce_key : ∀ k : Nat, k < 64 → k ≠ 29 → ce_law6 k = true
  | 0, _, _ => ek_0
  | 1, _, _ => ek_1
  | 2, _, _ => ek_2
  | 3, _, _ => ek_3
  | 4, _, _ => ek_4
  | 5, _, _ => ek_5
  | 6, _, _ => ek_6
  | 7, _, _ => ek_7
  | 8, _, _ => ek_8
  | 9, _, _ => ek_9
  | 10, _, _ => ek_10
  | 11, _, _ => ek_11
  | 12, _, _ => ek_12
  | 13, _, _ => ek_13
  | 14, _, _ => ek_14
  | 15, _, _ => ek_15
  | 16, _, _ => ek_16
  | 17, _, _ => ek_17
  | 18, _, _ => ek_18
  | 19, _, _ => ek_19
  | 20, _, _ => ek_20
  | 21, _, _ => ek_21
  | 22, _, _ => ek_22
  | 23, _, _ => ek_23
  | 24, _, _ => ek_24
  | 25, _, _ => ek_25
  | 26, _, _ => ek_26
  | 27, _, _ => ek_27
  | 28, _, _ => ek_28
  | 29, _, h => absurd rfl h
  | 30, _, _ => ek_30
  | 31, _, _ => ek_31
  | 32, _, _ => ek_32
  | 33, _, _ => ek_33
  | 34, _, _ => ek_34
  | 35, _, _ => ek_35
  | 36, _, _ => ek_36
  | 37, _, _ => ek_37
  | 38, _, _ => ek_38
  | 39, _, _ => ek_39
  | 40, _, _ => ek_40
  | 41, _, _ => ek_41
  | 42, _, _ => ek_42
  | 43, _, _ => ek_43
  | 44, _, _ => ek_44
  | 45, _, _ => ek_45
  | 46, _, _ => ek_46
  | 47, _, _ => ek_47
  | 48, _, _ => ek_48
  | 49, _, _ => ek_49
  | 50, _, _ => ek_50
  | 51, _, _ => ek_51
  | 52, _, _ => ek_52
  | 53, _, _ => ek_53
  | 54, _, _ => ek_54
  | 55, _, _ => ek_55
  | 56, _, _ => ek_56
  | 57, _, _ => ek_57
  | 58, _, _ => ek_58
  | 59, _, _ => ek_59
  | 60, _, _ => ek_60
  | 61, _, _ => ek_61
  | 62, _, _ => ek_62
  | 63, _, _ => ek_63
  | n + 64, h, _ => absurd h (by omega)
theorem ce_many : ∀ m : Nat, 1 ≤ m → m < 21 → ce_law7 (ce_Fm m) = true
  | 0, h, _ => absurd h (by omega)
  | 1, _, _ => em_1
  | 2, _, _ => em_2
  | 3, _, _ => em_3
  | 4, _, _ => em_4
  | 5, _, _ => em_5
  | 6, _, _ => em_6
  | 7, _, _ => em_7
  | 8, _, _ => em_8
  | 9, _, _ => em_9
  | 10, _, _ => em_10
  | 11, _, _ => em_11
  | 12, _, _ => em_12
  | 13, _, _ => em_13
  | 14, _, _ => em_14
  | 15, _, _ => em_15
  | 16, _, _ => em_16
  | 17, _, _ => em_17
  | 18, _, _ => em_18
  | 19, _, _ => em_19
  | 20, _, _ => em_20
  | n + 21, _, h => absurd h (by omega)
theorem whole_start {p : Program} {e : Env} {s : State} {m : MethodId} {below : List Frame} {meth : Method} {c : Code} (l : Launch) (hflags : l.flags = flags0) {b L : Nat} {xs : Nat → Int32} (hL : L ≤ 6) (C0 : lw_At p s m meth c b L xs) : W p l e room_1 s m #[Value.ref b] below meth c s.heap [] 0 0 (lw_Z below #[Value.ref b] s) (entryFrame m ([Value.ref b] : List Value).toArray 9) := by
  obtain ⟨hx, hb, hr, hml, hown, hts, hX, hbl, hlocks, hgv⟩ := id C0
  obtain ⟨z, hK, hzb, hz0, hz9⟩ := ce_start hts hX hbl hL hgv
  have h99 : (ce_I z (.arg 99)).toInt = (L : Int) := by
    show (ce_xs z 99).toInt = _
    rw [hz9]; exact nI_toInt (by omega)
  have hFl : ce_sat z (ce_Fl L) := fun f hf => by
    simp only [List.mem_cons, List.not_mem_nil, or_false] at hf
    rcases hf with rfl | rfl
    · exact ce_fa0 (by omega)
    · exact ce_fa1 (by omega)
  rcases ce_lens (n := L) (by omega) with h | rfl
  · exact ce_lawW (ce_flags hflags) C0 hK hzb hz0 hFl h
  · obtain ⟨k, hk, he⟩ := pk_andE (ce_I z (.arg 0)) (m := 63) 6 (by decide)
    have hk : k < 64 := hk
    have hs : (ce_I z (.sum (.arg 0))).toInt = (k : Int) := by
      show (ce_I z (.arg 0) &&& 63).toInt = _
      rw [he]; exact nI_toInt (by omega)
    have hFk : ce_sat z (ce_Fk k) := fun f hf => by
      rcases List.mem_cons.mp hf with rfl | hf
      · exact ce_fa0 (by omega)
      · rcases List.mem_cons.mp hf with rfl | hf
        · exact ce_fa1 (by omega)
        · exact hFl f hf
    by_cases h29 : k = 29
    · subst h29
      by_cases hlo : (ce_I z (.arg 5)).toInt ≤ 0
      · exact ce_lawF (ce_flags hflags) C0 hK hzb hz0 hFl (ce_sat_cons (ce_fa1 hlo) hFk) em_lo
      · by_cases hhi : 21 ≤ (ce_I z (.arg 5)).toInt
        · exact ce_lawF (ce_flags hflags) C0 hK hzb hz0 hFl (ce_sat_cons (ce_fa0 hhi) hFk) em_hi
        · obtain ⟨m9, hm9⟩ := Int.eq_ofNat_of_zero_le (a := (ce_I z (.arg 5)).toInt) (by omega)
          exact ce_lawF (ce_flags hflags) C0 hK hzb hz0 hFl (F2 := ce_Fm m9) (ce_sat_cons (ce_fa0 (by omega)) (ce_sat_cons (ce_fa1 (by omega)) hFk)) (ce_many m9 (by omega) (by omega))
    · exact ce_lawX (ce_flags hflags) C0 hK hzb hz0 (k := k) hFl hFk (ce_key k hk h29)
set_option maxHeartbeats 4000000 in
theorem lw_walk (l : Launch) (hflags : l.flags = flags0) (b : Addr) (xs : List Int32) : MetFree l x (headSpec (Jvm.Cond.code x code maxLocals ret :: tables_1) room_1) (lw_P b xs) (fun _ _ _ _ _ => True) lw_Q := by
  refine MetFree.of_bodyS (code := code) (maxLocals := maxLocals) (ret := ret) (by decide) ?_ ?_
  · intro args s m h hn
    obtain ⟨meth, c, h1, h2, h3, h4, h5, h6, -, -⟩ := Cond.code_spec hn (atoms_spec (ws := Jvm.Cond.code x code maxLocals ret :: tables_1) h _ List.mem_cons_self)
    exact ⟨meth, c, h1, h2, h3, h4, h5, h6⟩
  · intro p e s m args below meth c s₁ B hml0 hP _
    obtain ⟨rfl, hx, hbd, hgv⟩ := hP
    obtain ⟨scr, harrAt, hlist, hof, hsmall⟩ := hx
    obtain ⟨hcb, hkn, -, -⟩ := State.arrayAt?_spec harrAt
    have hown : s.vm.findClass R_law = some m.cls := findClass_of_methodNamed B.named
    have hts0 : ∀ c ∈ (Jvm.Cond.code x code maxLocals ret :: tables_1), c.before #[Value.ref b] s = true := atoms_spec (ws := Jvm.Cond.code x code maxLocals ret :: tables_1) B.pre
    have hts : ∀ w ∈ lw_tbl, w.before #[Value.ref b] s = true := k2_hts_sels lw_privs (fun w hw => hts0 w (List.mem_cons_of_mem _ hw)) lw_privs_ok
    have hml : c.maxLocals = 9 := B.maxLocals_eq (hts0 _ List.mem_cons_self)
    have X₀ : Stand p l e room_1 s m #[Value.ref b] below meth c s₁ [] 0 0 := Stand.of_body B
    have hh0 : s₁.heap = s.heap := by rw [B.state]; rfl
    have hsz : scr.slots.size = xs.length := by rw [← Array.length_toList, hlist, List.length_map]
    have hval : ∀ j : Nat, j < xs.length → scr.slots[j]? = some (.int (xs.getD j 0)) := fun j hj => by
      rw [← Array.getElem?_toList, hlist]
      simp [hj]
    have hbl : b < s.heap.size := (Array.getElem?_eq_some_iff.mp hcb).1
    have hX : va_X b xs.length (fun j => xs.getD j 0) s s.heap := ⟨scr, hcb, hof, hkn, hsz, hval⟩
    have K : W p l e room_1 s m #[Value.ref b] below meth c s₁.heap [] 0 0 (lw_Z below #[Value.ref b] s) (entryFrame m ([Value.ref b] : List Value).toArray 9) := by
      rw [hh0]
      exact whole_start l hflags hbd ⟨B.exec, B.bytes, B.returns, hml, hown, hts, hX, hbl, B.notSynchronized, hgv⟩
    obtain ⟨t, a1, o, b1, b2, b3⟩ := K s₁ rfl X₀
    exact ⟨t, o, a1, b1, b2, b3⟩
theorem lw_pre_spec {args : Array Value} {s : State} (h : (Jvm.Cond.and given_1 narrow_1).before args s = true) (hr : rest_1_c.before args s = true) : ∃ (b : Addr) (xs : List Int32), lw_P b xs args s := by
  have hs := flat_of_before _ h
  have hq := flat_of_before _ hr
  have hc : (Cond.count 1).before args s = true := hs _ (by decide +kernel)
  have harr : (Cond.arrayOf (.arg 0) .int).before args s = true := hs _ (by decide +kernel)
  have hle : (Cond.le (.length (.arg 0)) (.int 6)).before args s = true := hs _ (by decide +kernel)
  have hlen : (Cond.isInt (.length (.arg 0))).before args s = true := hq _ (by decide +kernel)
  have hall : (Cond.all (.arg 0) (.isInt (.elem (.arg 0) (.index 0)))).before args s = true := hq _ (by decide +kernel)
  obtain ⟨b, xs, hb, hx⟩ := State.ints_of_pre rfl harr hlen hall
  have hsm : xs.length < 2 ^ 31 := hx.choose_spec.2.2.2
  have hev : (Term.length (.arg 0)).eval args s none [] s = some (.int xs.length.toInt32) := hx.length_eval hb
  have hv := Cond.le_ints hev (show (Term.int 6).eval args s none [] s = some (.int 6) from rfl)
  have hd : xs.length.toInt32 ≤ 6 := by
    simpa [Cond.before, Cond.holds, hv] using hle
  have hN : xs.length ≤ 6 := (Int32.ofNat_le_ofNat hsm (by decide)).mp (show Int32.ofNat xs.length ≤ Int32.ofNat 6 from hd)
  exact ⟨b, xs, Cond.one_arg hc (show args[0]? = some (.ref b) from hb), hx, hN, h⟩
theorem lw_comes (l : Launch) (hflags : l.flags = flags0) : Comes l x (Jvm.Cond.code x code maxLocals ret :: tables_1) room_1 (fun tb e args s => Calls_1 tb e args s ∧ rest_1 tb e args s ∧ Pre_1 tb e args s)
    (fun _ _ args s o t => lw_Q args s o t) := by
  intro p e ha hc hk s m args below hf hfit hheap happ hpre
  obtain ⟨b, xs, hP⟩ := lw_pre_spec hpre.2.2 hpre.2.1
  obtain ⟨k, o, h1, h2, h3, hQ⟩ := lw_walk l hflags b xs p e ha hc hk s m args below hf ((Spec.applies_iff_loose hf).mp happ).1 hP trivial
  exact ⟨k, o, h1, h2, h3, hQ⟩
theorem lw_frame {s t : State} {o : Outcome} {args : Array Value} (h : State.butDraws s t lw_cs (fun t1 => Framed s o t1 [] 623858 7230663)) :
    State.butDraws s t [Jvm.Choice.named "NaN.bits"] (fun t1 => Framed s o t1 (fieldLocs frame_1_writes args s ++ arrayLocs frame_1_arrays args s ++ staticLocs frame_1_statics s) 623858 7230663) := h
theorem lw_limb (L : Cond) (hL : ∀ (args : Array Value) (s t : State), L.after args s (.returned (some (.int 1))) t = true) :
    ArmFor flags0 classFile x code maxLocals ret World_1 tables_1 room_1 Calls_1 rest_1 Pre_1
      (fun tb e a s o t => postC L tb e a s o t ∧ State.butDraws s t [Jvm.Choice.named "NaN.bits"] (fun t1 => Framed s o t1 (fieldLocs frame_1_writes a s ++ arrayLocs frame_1_arrays a s ++ staticLocs frame_1_statics s) 623858 7230663)) := by
  intro l hflags _ _ p e ha hc hk s m args below hf hfit hheap happ hpre
  obtain ⟨k, o, h1, h2, h3, rfl, hF⟩ := lw_comes l hflags p e ha hc hk s m args below hf hfit hheap happ hpre
  exact ⟨k, _, h1, h2, h3, hL args s _, lw_frame hF⟩
theorem i_vc : Claimed_1_1 ∧ Claimed_1_2 := ⟨lw_limb limb_1_1 (fun args s t => by simp [limb_1_1, Cond.after, Cond.holds, Cond.value]), lw_limb limb_1_2 (fun args s t => Cond.after_iff.mpr (by
  first | (rw [show limb_1_2 = Cond.eq .result (.int 1) from rfl, Cond.eq_ints (x := 1) (y := 1) rfl rfl]; simp; done) | (simp [limb_1_2, Cond.value, Term.eval]; done)))⟩
