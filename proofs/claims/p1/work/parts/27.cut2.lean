/-! the same with any further facts -/
noncomputable def ce_law7 (F2 : ce_F) : Bool := ce_chk (ce_go ta_L_law 1000000 45 ce_S1L (F2, ce_S1C, 807, 18446))
theorem ce_lawF {p : Program} {e : Env} {s : State} {m : MethodId} {below : List Frame} {meth : Method} {c : Code} {l : Launch} (hl : l.stackTraces = false) {b L : Nat} {xs : Nat → Int32} (C0 : lw_At p s m meth c b L xs) {z : ce_U} (hK : ce_CK z s) (hzb : ce_b z = s.heap.size) (hz0 : ce_ev z 0 = .ref b) {F2 : ce_F} (hF6 : ce_sat z (ce_Fl 6)) (hF : ce_sat z F2) (hrun : ce_law7 F2 = true) :
    W p l e room_1 s m #[Value.ref b] below meth c s.heap [] 0 0 (lw_Z below #[Value.ref b] s) (entryFrame m ([Value.ref b] : List Value).toArray 9) := by
  unfold ce_law7 ce_chk at hrun
  split at hrun
  · rename_i S hS
    refine ce_lawQ hl C0 hK hzb hz0 hF6 (S := S) hrun (fun hC ad0 => ?_)
    have key := ce_go_ok (tx_L_law (nm := meth.name)) hC (fun h e9 => by cases e9) S (below := below) (e := e) (ad0 := ad0) (n0 := 0) 1000000 45 ce_S1L (F2, ce_S1C, 807, 18446) S hS (fun _ h => h)
    exact ce_to_ok (tx_L_law (nm := meth.name)) hC (fun h e9 => by cases e9) S (ce_more hF key) 100000 0 ce_L0 _ ce_seg
  · cases hrun
abbrev ce_Fm (m : Int) : ce_F := (.arg 5, 0, m) :: (.arg 5, 1, m) :: ce_Fk 29
