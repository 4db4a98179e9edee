/-! what is known of the old things at a method's start, and that it goes along -/
abbrev ce_AOs : List String := ["java/lang/Object", "Carcasswright$Wall", "Carcasswright$Obstacle", "Carcasswright$PlacedModule", "Carcasswright$ModuleType", "Carcasswright$Board"]
abbrev ce_yN : MethodName := ⟨"java/util/Iterator", "hasNext", "()Z"⟩
abbrev ce_yI : MethodName := ⟨"java/util/ArrayList$Itr", "hasNext", "()Z"⟩
def ce_E1 (z : ce_U) (U : State) : Prop := vx_Zq Bundle.tN "UNASSIGNED_STACK" Bundle.steD (ce_A z) U U.heap ∧ vx_Zq Bundle.tN "SUPPRESSED_SENTINEL" Bundle.listD (ce_A z) U U.heap
def ce_E2 (U : State) : Prop := (∀ w ∈ ce_NG, va_Nw w U) ∧ va_Fw "java/util/ArrayList$Itr" ce_yN ce_yI U ∧ (∀ C ∈ ce_AOs, va_AO C U) ∧ va_Dc U
/-- the script that refutes: a wall of 9999, and 61 times how much of it is free -/
def rf_s : Nat → Int := fun k => match k with
  | 1 => 101
  | 2 => 9999
  | k => match Nat.beq (k % 6) 0 && Nat.ble 6 k with
    | true => 18
    | false => 0
def ce_E3 (z : ce_U) (U : State) : Prop := ∃ b, ce_ev z 0 = .ref b ∧ b < ce_b z ∧ b < U.heap.size ∧ va_X b (ce_len z) (ce_xs z) U U.heap ∧ ce_len z = 372 ∧ ∀ j, j < 372 → ce_xs z j = Int32.ofInt (rf_s j)
def ce_E4 (z : ce_U) (U : State) : Prop := ∃ t, ce_ev z 1 = .ref t ∧ va_T (.object "java/lang/Object") t 0 (fun _ => .null) (ce_A z) U U.heap ∧ va_Z "java/util/ArrayList" "DEFAULTCAPACITY_EMPTY_ELEMENTDATA" "[Ljava/lang/Object;" (.ref t) (ce_A z) U U.heap
def ce_E5 (z : ce_U) (U : State) : Prop := ∃ adK adV : Nat → Nat, ce_ev z 2 = .ref (adK 0) ∧ ce_ev z 3 = .ref (adV 0) ∧ ce_ev z 4 = .ref (adK 1) ∧ ce_ev z 5 = .ref (adV 1) ∧ vk_S 2 [0, 4] [[], [101, 119, 110, 115]] adK adV (ce_A z) U U.heap ∧ vk_R "CarcasswrightModel" 19 "" (adK 0) U ∧ vk_R "CarcasswrightModel" 57 "ewns" (adK 1) U
def ce_E6 (z : ce_U) (U : State) : Prop := ∃ mi, ce_ev z 6 = .ref mi ∧ va_Mi "[Ljava/lang/Object;" mi U
def ce_E7 (z : ce_U) (U : State) : Prop := (ce_ev z 7).category = 1 ∧ va_Z "jdk/internal/util/Preconditions" "SIOOBE_FORMATTER" "Ljava/util/function/BiFunction;" (ce_ev z 7) (ce_A z) U U.heap
def ce_E8 (z : ce_U) (U : State) : Prop := va_Z "java/lang/String" "COMPACT_STRINGS" "Z" (.int 1) (ce_A z) U U.heap ∧ va_Z "java/lang/StringUTF16" "$assertionsDisabled" "Z" (.int 1) (ce_A z) U U.heap ∧ va_Z "java/lang/StringUTF16" "HI_BYTE_SHIFT" "I" (.int 0) (ce_A z) U U.heap ∧ va_Z "java/lang/StringUTF16" "LO_BYTE_SHIFT" "I" (.int 8) (ce_A z) U U.heap
def ce_CK (z : ce_U) (U : State) : Prop := va_K (ce_D z) ce_cl (ce_ty z) U ∧ ce_b z ≤ U.heap.size ∧ ce_E1 z U ∧ ce_E2 U ∧ ce_E3 z U ∧ ce_E4 z U ∧ ce_E5 z U ∧ ce_E6 z U ∧ ce_E7 z U ∧ ce_E8 z U
def ce_ngk : Cond → Bool
  | .castable .. => true
  | .fieldLinkNest .. => true
  | .methodLinkNest .. => true
  | .declares .. => true
  | _ => false
theorem ce_ng {w : Cond} (h : ce_ngk w = true) {s U : State} (hW : s.WarmedH U.vm) (hZ : va_Nw w s) : va_Nw w U := by
  cases w <;> first | exact va_Nw.warmC hW hZ | exact va_Nw.warmF hW hZ | exact va_Nw.warmM hW hZ | exact va_Nw.warmD hW hZ | exact absurd h (by simp [ce_ngk])
theorem ce_ng_all : ∀ w ∈ ce_NG, ce_ngk w = true := by decide +kernel
theorem ce_next {z : ce_U} {s U : State} {H : Heap} {locs : List Loc} (h : ce_CK z s) (hU : U.heap = H) (hW : s.WarmedH U.vm) (hS : va_S (ce_A z) s.heap H locs) : ce_CK z U := by
  obtain ⟨hK, hb, ⟨a1, a2⟩, ⟨b1, b2, b3, b4⟩, ⟨c0, c1, c2, c5, c3, c6⟩, ⟨d0, d1, d2, d3⟩, ⟨k, v, e1, e2, e3, e4, e5, e6, e7⟩, ⟨f0, f1, f2⟩, ⟨g1, g2⟩, ⟨i1, i2, i3, i4⟩⟩ := h
  have hvm := hW.alike
  have hk : ∀ a : Nat, a < s.heap.size → ¬ ce_A z a → U.heap[a]? = s.heap[a]? := fun a h1 h2 => by rw [hU]; exact hS.2.1 a h1 h2
  have hz : s.heap.size ≤ U.heap.size := by rw [hU]; exact hS.1
  refine ⟨va_K.moved hvm hK, Nat.le_trans hb hz, ⟨(vx_Zq.moved hvm a1).kept hk, (vx_Zq.moved hvm a2).kept hk⟩, ⟨fun w hw => ce_ng (ce_ng_all w hw) hW (b1 w hw), va_Fw.moved (by decide) hvm b2, fun C hC => (b3 C hC).moved hvm, b4.moved hvm⟩, ⟨c0, c1, c2, Nat.lt_of_lt_of_le c5 hz, ?_, c6⟩, ⟨d0, d1, (va_T.moved hvm d2).kept hk, (va_Z.moved hvm d3).kept hk⟩, ⟨k, v, e1, e2, e3, e4, (vk_S.moved hvm e5).kept hk, e6.warm hW, e7.warm hW⟩, ⟨f0, f1, f2.moved hvm⟩, ⟨g1, (va_Z.moved hvm g2).kept hk⟩, ⟨(va_Z.moved hvm i1).kept hk, (va_Z.moved hvm i2).kept hk, (va_Z.moved hvm i3).kept hk, (va_Z.moved hvm i4).kept hk⟩⟩
  exact (va_X.moved hvm c3).kept (hk c0 c5 (Nat.not_le.mpr c2))
theorem ce_blind {z : ce_U} {U : State} {g : JFrame} {mk : MethodId} {a : Array Value} (h : ce_CK z U) : ce_CK z (U.calling g mk a) := by
  obtain ⟨hK, hb, h1, h2, h3, h4, h5, h6, h7, h8⟩ := h
  exact ce_next (locs := []) (H := U.heap) ⟨hK, hb, h1, h2, h3, h4, h5, h6, h7, h8⟩ rfl (State.WarmedH.refl _) va_S.rf
