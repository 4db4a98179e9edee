/-! ArrayList.iterator: one new cell -/
noncomputable def rf_Fi : ce_C := fun avs G => match avs with
  | [.inr (.inr (.inl (.inl a)))] => match Nat.blt a G.2.1.length with
    | true => ce_go ta_Jx4a65c_iterator_32c93 1000 3 ([(0, .inr (.inr (.inl (.inl a))))], [.inr (.inr (.inl (.inl G.2.1.length)))]) (G.1, G.2.1 ++ [.inl (2, dl_Jx35411)], 0, 0)
    | false => none
  | _ => none
theorem rf_Fi_eq (avs : List ce_SV) (A : ce_F) (C : List ce_SE) (r q r2 q2 : Nat) : rf_Fi avs (A, C, r, q) = rf_Fi avs (A, C, r2, q2) := rfl
theorem rf_mi : ∀ l : Launch, l.stackTraces = false → rf_MS l yJx4a65c_iterator_32c93 (.code yJx4a65c_iterator_32c93 cJx4a65c_iterator_32c93 1 (some (.object "java/util/Iterator"))) 1 1 4 1 rf_Fi := by
  intro l hl z ad avs G S hF
  unfold rf_Fi at hF
  split at hF
  · rename_i a
    split at hF
    · rename_i ha
      have ha : a < G.2.1.length := Nat.lt_of_succ_le (Nat.le_of_ble_eq_true ha)
      refine rf_met hl (by decide +kernel) rfl ?_
      intro p e s m args below meth c hC hT ad9 ls _ hlv hI
      have hK := ce_CXK hC
      have hsz : ce_b z ≤ s.heap.size := hK.2.1
      refine va_new (A := fun q => s.heap.size ≤ q) (H0 := s.heap) (ws := []) (ci := 2) (C := RJx35411) (T := TJx35411) (N := 4) hC.1 hC.2.1 hC.2.2.2.2.1 ce_uJx35411 tyJx35411 tyJx35411_ok hC.2.2.2.1 (hC.2.2.2.2.1 _ gw_1801) (hC.2.2.2.2.1 _ gw_1802) (hC.2.2.2.2.1 _ gw_34) hK.1
        (fun k q h => by simp at h) ⟨fun i j p q h => by simp at h, fun k q h => by simp at h⟩ va_S.rf (fun q h => h) rfl (dv_Jx35411 z ad) (Nat.le_refl _) (Nat.le_refl _) dJx4a65c_iterator_32c93_0 (fun q H1 hP hD hS1 => ?_)
      have hq0 : s.heap.size ≤ q := hD.2 0 _ rfl
      have hq1 : q < H1.size := (hP 0 _ rfl).lt
      have hk : ∀ b : Nat, b < s.heap.size → H1[b]? = s.heap[b]? := fun b h => hS1.2.1 b h (Nat.not_le.mpr h)
      have hlt : ∀ (k : Nat) (x : Nat × va_E), (ce_w z ad 0 G.2.1)[k]? = some x → x.1 < s.heap.size := fun k x hx => (hI.1 k x hx).lt
      have hwe : ce_we G.2.1.length (.inl (2, dl_Jx35411)) = true := by rfl
      have hI2 : ce_Inv z (ce_ad ad G.2.1.length q) (G.1, G.2.1 ++ [.inl (2, dl_Jx35411)], 0, 0) H1 :=
        ce_Inv_app (ad := ad) (G := G) (q := q) (e := .inl (2, dl_Jx35411)) hI.2.2 hwe ce_ad_lt ce_ad_eq (rf_P_app (hI.1.kept (fun k x hx => hk x.1 (hlt k x hx))) (hP 0 _ rfl))
          (rf_D_app hI.2.1 (Nat.le_trans hsz hq0) (fun k x hx => Nat.ne_of_lt (Nat.lt_of_lt_of_le (hlt k x hx) hq0)))
      have go := rf_go (B := s.heap.size + 1) (ad0 := ad) (n0 := G.2.1.length) (below := below) (e := e) (Q := vx_MQ below (rf_Q z ad G.2.1.length S 1) (ce_XC z ad G.2.1.length S) args s 1 4 (ce_A z)) tx_Jx4a65c_iterator_32c93 hC hT hF (fun t h1 h2 => rf_end h1 h2)
      have e9 : ce_v z (ce_ad ad G.2.1.length q) (.inr (.inr (.inl (.inl G.2.1.length)))) = .ref q := congrArg Value.ref ce_ad_eq
      have e8 : ce_v z (ce_ad ad G.2.1.length q) (.inr (.inr (.inl (.inl a)))) = .ref (ad a) := congrArg Value.ref (ce_ad_lt a ha)
      have key := go (ce_ad ad G.2.1.length q) ls H1 [] 1 4 (fun k hk9 => ce_ad_lt k hk9) (by simp)
        (by show lv_has ls 1 [(0, ce_v z (ce_ad ad G.2.1.length q) (.inr (.inr (.inl (.inl a)))))]
            rw [e8]; exact hlv) hI2 ⟨hS1.1, fun q9 h9 _ => hk q9 h9, fun l h => nomatch h⟩ (Nat.le_refl _) (Nat.le_refl _) (by omega)
      simp only [List.map_cons, List.map_nil, e9] at key
      exact key
    · cases hF
  · cases hF
