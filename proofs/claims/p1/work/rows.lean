section
-- ===== PART A: goes FIRST, ahead of the names: the tables' words, and 'selects' of the private methods out of them =====
/-- a private method of a class that the tables say can be made, by its rows of tables_1 -/
def lw_okq (q : MethodName × Nat) : Prop := (q.1.cls ≠ "java/lang/invoke/MethodHandle" ∧ q.1.cls ≠ "java/lang/invoke/VarHandle") ∧ Cond.instantiable q.1.cls q.2 ∈ tables_1 ∧ Cond.privateMethod q.1 ∈ tables_1 ∧ Cond.instanceMethod q.1 ∈ tables_1
theorem lw_p0 : lw_okq (⟨"java/lang/Throwable", "fillInStackTrace", "(I)Ljava/lang/Throwable;"⟩, 6) := ⟨⟨by decide +kernel, by decide +kernel⟩, List.mem_of_getElem? (i := 529) (by decide +kernel), List.mem_of_getElem? (i := 527) (by decide +kernel), List.mem_of_getElem? (i := 528) (by decide +kernel)⟩
theorem lw_p1 : lw_okq (⟨"Carcasswright", "moduleWithPart", "(II)LCarcasswright$PlacedModule;"⟩, 7) := ⟨⟨by decide +kernel, by decide +kernel⟩, List.mem_of_getElem? (i := 52) (by decide +kernel), List.mem_of_getElem? (i := 1083) (by decide +kernel), List.mem_of_getElem? (i := 1084) (by decide +kernel)⟩
theorem lw_p2 : lw_okq (⟨"Carcasswright", "rateOf", "(I)I"⟩, 7) := ⟨⟨by decide +kernel, by decide +kernel⟩, List.mem_of_getElem? (i := 52) (by decide +kernel), List.mem_of_getElem? (i := 1391) (by decide +kernel), List.mem_of_getElem? (i := 1392) (by decide +kernel)⟩
theorem lw_p3 : lw_okq (⟨"Carcasswright", "packAll", "(LCarcasswright$PlacedModule;I)V"⟩, 7) := ⟨⟨by decide +kernel, by decide +kernel⟩, List.mem_of_getElem? (i := 52) (by decide +kernel), List.mem_of_getElem? (i := 1402) (by decide +kernel), List.mem_of_getElem? (i := 1403) (by decide +kernel)⟩
theorem lw_p4 : lw_okq (⟨"java/util/ArrayList", "add", "(Ljava/lang/Object;[Ljava/lang/Object;I)V"⟩, 3) := ⟨⟨by decide +kernel, by decide +kernel⟩, List.mem_of_getElem? (i := 1492) (by decide +kernel), List.mem_of_getElem? (i := 1715) (by decide +kernel), List.mem_of_getElem? (i := 1716) (by decide +kernel)⟩
theorem lw_p5 : lw_okq (⟨"java/util/ArrayList", "grow", "()[Ljava/lang/Object;"⟩, 3) := ⟨⟨by decide +kernel, by decide +kernel⟩, List.mem_of_getElem? (i := 1492) (by decide +kernel), List.mem_of_getElem? (i := 1719) (by decide +kernel), List.mem_of_getElem? (i := 1720) (by decide +kernel)⟩
theorem lw_p6 : lw_okq (⟨"java/util/ArrayList", "grow", "(I)[Ljava/lang/Object;"⟩, 3) := ⟨⟨by decide +kernel, by decide +kernel⟩, List.mem_of_getElem? (i := 1492) (by decide +kernel), List.mem_of_getElem? (i := 1723) (by decide +kernel), List.mem_of_getElem? (i := 1724) (by decide +kernel)⟩
theorem lw_p7 : lw_okq (⟨"CarcasswrightModel", "has", "(C)Z"⟩, 20) := ⟨⟨by decide +kernel, by decide +kernel⟩, List.mem_of_getElem? (i := 1486) (by decide +kernel), List.mem_of_getElem? (i := 1790) (by decide +kernel), List.mem_of_getElem? (i := 1791) (by decide +kernel)⟩
theorem lw_p8 : lw_okq (⟨"CarcasswrightModel", "measured", "(C)I"⟩, 20) := ⟨⟨by decide +kernel, by decide +kernel⟩, List.mem_of_getElem? (i := 1486) (by decide +kernel), List.mem_of_getElem? (i := 1794) (by decide +kernel), List.mem_of_getElem? (i := 1795) (by decide +kernel)⟩
theorem lw_p9 : lw_okq (⟨"CarcasswrightModel", "raises", "(I)I"⟩, 20) := ⟨⟨by decide +kernel, by decide +kernel⟩, List.mem_of_getElem? (i := 1486) (by decide +kernel), List.mem_of_getElem? (i := 1846) (by decide +kernel), List.mem_of_getElem? (i := 1847) (by decide +kernel)⟩
theorem lw_p10 : lw_okq (⟨"CarcasswrightModel", "shares", "(CC)[I"⟩, 20) := ⟨⟨by decide +kernel, by decide +kernel⟩, List.mem_of_getElem? (i := 1486) (by decide +kernel), List.mem_of_getElem? (i := 1850) (by decide +kernel), List.mem_of_getElem? (i := 1851) (by decide +kernel)⟩
theorem lw_p11 : lw_okq (⟨"CarcasswrightModel", "noWall", "(I)Z"⟩, 20) := ⟨⟨by decide +kernel, by decide +kernel⟩, List.mem_of_getElem? (i := 1486) (by decide +kernel), List.mem_of_getElem? (i := 1874) (by decide +kernel), List.mem_of_getElem? (i := 1875) (by decide +kernel)⟩
theorem lw_p12 : lw_okq (⟨"CarcasswrightModel", "sum", "(C)I"⟩, 20) := ⟨⟨by decide +kernel, by decide +kernel⟩, List.mem_of_getElem? (i := 1486) (by decide +kernel), List.mem_of_getElem? (i := 1882) (by decide +kernel), List.mem_of_getElem? (i := 1883) (by decide +kernel)⟩
theorem lw_p13 : lw_okq (⟨"CarcasswrightModel", "reads", "()V"⟩, 20) := ⟨⟨by decide +kernel, by decide +kernel⟩, List.mem_of_getElem? (i := 1486) (by decide +kernel), List.mem_of_getElem? (i := 2161) (by decide +kernel), List.mem_of_getElem? (i := 2162) (by decide +kernel)⟩
theorem lw_p14 : lw_okq (⟨"CarcasswrightModel", "digitAt", "(I)I"⟩, 20) := ⟨⟨by decide +kernel, by decide +kernel⟩, List.mem_of_getElem? (i := 1486) (by decide +kernel), List.mem_of_getElem? (i := 2212) (by decide +kernel), List.mem_of_getElem? (i := 2213) (by decide +kernel)⟩
theorem lw_p15 : lw_okq (⟨"CarcasswrightModel", "faults", "(CI)V"⟩, 20) := ⟨⟨by decide +kernel, by decide +kernel⟩, List.mem_of_getElem? (i := 1486) (by decide +kernel), List.mem_of_getElem? (i := 2217) (by decide +kernel), List.mem_of_getElem? (i := 2218) (by decide +kernel)⟩
def lw_privs_1 : List (MethodName × Nat) := [(⟨"java/lang/Throwable", "fillInStackTrace", "(I)Ljava/lang/Throwable;"⟩, 6), (⟨"Carcasswright", "moduleWithPart", "(II)LCarcasswright$PlacedModule;"⟩, 7), (⟨"Carcasswright", "rateOf", "(I)I"⟩, 7), (⟨"Carcasswright", "packAll", "(LCarcasswright$PlacedModule;I)V"⟩, 7), (⟨"java/util/ArrayList", "add", "(Ljava/lang/Object;[Ljava/lang/Object;I)V"⟩, 3), (⟨"java/util/ArrayList", "grow", "()[Ljava/lang/Object;"⟩, 3), (⟨"java/util/ArrayList", "grow", "(I)[Ljava/lang/Object;"⟩, 3), (⟨"CarcasswrightModel", "has", "(C)Z"⟩, 20), (⟨"CarcasswrightModel", "measured", "(C)I"⟩, 20), (⟨"CarcasswrightModel", "raises", "(I)I"⟩, 20), (⟨"CarcasswrightModel", "shares", "(CC)[I"⟩, 20), (⟨"CarcasswrightModel", "noWall", "(I)Z"⟩, 20), (⟨"CarcasswrightModel", "sum", "(C)I"⟩, 20), (⟨"CarcasswrightModel", "reads", "()V"⟩, 20), (⟨"CarcasswrightModel", "digitAt", "(I)I"⟩, 20), (⟨"CarcasswrightModel", "faults", "(CI)V"⟩, 20)]
theorem lw_r1 : ∀ q ∈ lw_privs_1, lw_okq q := List.forall_mem_cons.mpr ⟨lw_p0, List.forall_mem_cons.mpr ⟨lw_p1, List.forall_mem_cons.mpr ⟨lw_p2, List.forall_mem_cons.mpr ⟨lw_p3, List.forall_mem_cons.mpr ⟨lw_p4, List.forall_mem_cons.mpr ⟨lw_p5, List.forall_mem_cons.mpr ⟨lw_p6, List.forall_mem_cons.mpr ⟨lw_p7, List.forall_mem_cons.mpr ⟨lw_p8, List.forall_mem_cons.mpr ⟨lw_p9, List.forall_mem_cons.mpr ⟨lw_p10, List.forall_mem_cons.mpr ⟨lw_p11, List.forall_mem_cons.mpr ⟨lw_p12, List.forall_mem_cons.mpr ⟨lw_p13, List.forall_mem_cons.mpr ⟨lw_p14, List.forall_mem_cons.mpr ⟨lw_p15, fun _ h => absurd h List.not_mem_nil⟩⟩⟩⟩⟩⟩⟩⟩⟩⟩⟩⟩⟩⟩⟩⟩
theorem lw_p16 : lw_okq (⟨"CarcasswrightModel", "item", "(I)I"⟩, 20) := ⟨⟨by decide +kernel, by decide +kernel⟩, List.mem_of_getElem? (i := 1486) (by decide +kernel), List.mem_of_getElem? (i := 2227) (by decide +kernel), List.mem_of_getElem? (i := 2228) (by decide +kernel)⟩
theorem lw_p17 : lw_okq (⟨"CarcasswrightModel", "isType", "(I)Z"⟩, 20) := ⟨⟨by decide +kernel, by decide +kernel⟩, List.mem_of_getElem? (i := 1486) (by decide +kernel), List.mem_of_getElem? (i := 2257) (by decide +kernel), List.mem_of_getElem? (i := 2258) (by decide +kernel)⟩
theorem lw_p18 : lw_okq (⟨"CarcasswrightModel", "isRefused", "(LCarcasswrightModel$Module;LCarcasswrightModel$Module;)Z"⟩, 20) := ⟨⟨by decide +kernel, by decide +kernel⟩, List.mem_of_getElem? (i := 1486) (by decide +kernel), List.mem_of_getElem? (i := 2296) (by decide +kernel), List.mem_of_getElem? (i := 2297) (by decide +kernel)⟩
theorem lw_p19 : lw_okq (⟨"CarcasswrightModel", "refuses", "(Ljava/lang/String;II)Z"⟩, 20) := ⟨⟨by decide +kernel, by decide +kernel⟩, List.mem_of_getElem? (i := 1486) (by decide +kernel), List.mem_of_getElem? (i := 2301) (by decide +kernel), List.mem_of_getElem? (i := 2302) (by decide +kernel)⟩
theorem lw_p20 : lw_okq (⟨"CarcasswrightModel", "areCornered", "(LCarcasswrightModel$Module;LCarcasswrightModel$Module;)Z"⟩, 20) := ⟨⟨by decide +kernel, by decide +kernel⟩, List.mem_of_getElem? (i := 1486) (by decide +kernel), List.mem_of_getElem? (i := 2318) (by decide +kernel), List.mem_of_getElem? (i := 2319) (by decide +kernel)⟩
theorem lw_p21 : lw_okq (⟨"CarcasswrightModel", "noModule", "(I)Z"⟩, 20) := ⟨⟨by decide +kernel, by decide +kernel⟩, List.mem_of_getElem? (i := 1486) (by decide +kernel), List.mem_of_getElem? (i := 2335) (by decide +kernel), List.mem_of_getElem? (i := 2336) (by decide +kernel)⟩
theorem lw_p22 : lw_okq (⟨"java/util/ArrayList", "fastRemove", "([Ljava/lang/Object;I)V"⟩, 3) := ⟨⟨by decide +kernel, by decide +kernel⟩, List.mem_of_getElem? (i := 1492) (by decide +kernel), List.mem_of_getElem? (i := 2426) (by decide +kernel), List.mem_of_getElem? (i := 2427) (by decide +kernel)⟩
theorem lw_p23 : lw_okq (⟨"CarcasswrightModel", "free", "(IZZ)I"⟩, 20) := ⟨⟨by decide +kernel, by decide +kernel⟩, List.mem_of_getElem? (i := 1486) (by decide +kernel), List.mem_of_getElem? (i := 2451) (by decide +kernel), List.mem_of_getElem? (i := 2452) (by decide +kernel)⟩
theorem lw_p24 : lw_okq (⟨"CarcasswrightModel", "part", "(II)LCarcasswrightModel$Part;"⟩, 20) := ⟨⟨by decide +kernel, by decide +kernel⟩, List.mem_of_getElem? (i := 1486) (by decide +kernel), List.mem_of_getElem? (i := 2467) (by decide +kernel), List.mem_of_getElem? (i := 2468) (by decide +kernel)⟩
theorem lw_p25 : lw_okq (⟨"java/util/ArrayList", "rangeCheckForAdd", "(I)V"⟩, 3) := ⟨⟨by decide +kernel, by decide +kernel⟩, List.mem_of_getElem? (i := 1492) (by decide +kernel), List.mem_of_getElem? (i := 2659) (by decide +kernel), List.mem_of_getElem? (i := 2660) (by decide +kernel)⟩
theorem lw_p26 : lw_okq (⟨"java/util/ArrayList", "outOfBoundsMsg", "(I)Ljava/lang/String;"⟩, 3) := ⟨⟨by decide +kernel, by decide +kernel⟩, List.mem_of_getElem? (i := 1492) (by decide +kernel), List.mem_of_getElem? (i := 2664) (by decide +kernel), List.mem_of_getElem? (i := 2665) (by decide +kernel)⟩
theorem lw_p27 : lw_okq (⟨"CarcasswrightModel$Board", "down", "()I"⟩, 7) := ⟨⟨by decide +kernel, by decide +kernel⟩, List.mem_of_getElem? (i := 2554) (by decide +kernel), List.mem_of_getElem? (i := 2717) (by decide +kernel), List.mem_of_getElem? (i := 2718) (by decide +kernel)⟩
theorem lw_p28 : lw_okq (⟨"CarcasswrightModel$Board", "adds", "(Ljava/util/ArrayList;II)V"⟩, 7) := ⟨⟨by decide +kernel, by decide +kernel⟩, List.mem_of_getElem? (i := 2554) (by decide +kernel), List.mem_of_getElem? (i := 2734) (by decide +kernel), List.mem_of_getElem? (i := 2735) (by decide +kernel)⟩
theorem lw_p29 : lw_okq (⟨"CarcasswrightModel", "orders", "()V"⟩, 20) := ⟨⟨by decide +kernel, by decide +kernel⟩, List.mem_of_getElem? (i := 1486) (by decide +kernel), List.mem_of_getElem? (i := 2809) (by decide +kernel), List.mem_of_getElem? (i := 2810) (by decide +kernel)⟩
theorem lw_p30 : lw_okq (⟨"CarcasswrightModel", "tries", "([IIIII)V"⟩, 20) := ⟨⟨by decide +kernel, by decide +kernel⟩, List.mem_of_getElem? (i := 1486) (by decide +kernel), List.mem_of_getElem? (i := 2814) (by decide +kernel), List.mem_of_getElem? (i := 2815) (by decide +kernel)⟩
theorem lw_p31 : lw_okq (⟨"CarcasswrightModel", "stocked", "()J"⟩, 20) := ⟨⟨by decide +kernel, by decide +kernel⟩, List.mem_of_getElem? (i := 1486) (by decide +kernel), List.mem_of_getElem? (i := 2835) (by decide +kernel), List.mem_of_getElem? (i := 2836) (by decide +kernel)⟩
def lw_privs_2 : List (MethodName × Nat) := [(⟨"CarcasswrightModel", "item", "(I)I"⟩, 20), (⟨"CarcasswrightModel", "isType", "(I)Z"⟩, 20), (⟨"CarcasswrightModel", "isRefused", "(LCarcasswrightModel$Module;LCarcasswrightModel$Module;)Z"⟩, 20), (⟨"CarcasswrightModel", "refuses", "(Ljava/lang/String;II)Z"⟩, 20), (⟨"CarcasswrightModel", "areCornered", "(LCarcasswrightModel$Module;LCarcasswrightModel$Module;)Z"⟩, 20), (⟨"CarcasswrightModel", "noModule", "(I)Z"⟩, 20), (⟨"java/util/ArrayList", "fastRemove", "([Ljava/lang/Object;I)V"⟩, 3), (⟨"CarcasswrightModel", "free", "(IZZ)I"⟩, 20), (⟨"CarcasswrightModel", "part", "(II)LCarcasswrightModel$Part;"⟩, 20), (⟨"java/util/ArrayList", "rangeCheckForAdd", "(I)V"⟩, 3), (⟨"java/util/ArrayList", "outOfBoundsMsg", "(I)Ljava/lang/String;"⟩, 3), (⟨"CarcasswrightModel$Board", "down", "()I"⟩, 7), (⟨"CarcasswrightModel$Board", "adds", "(Ljava/util/ArrayList;II)V"⟩, 7), (⟨"CarcasswrightModel", "orders", "()V"⟩, 20), (⟨"CarcasswrightModel", "tries", "([IIIII)V"⟩, 20), (⟨"CarcasswrightModel", "stocked", "()J"⟩, 20)]
theorem lw_r2 : ∀ q ∈ lw_privs_2, lw_okq q := List.forall_mem_cons.mpr ⟨lw_p16, List.forall_mem_cons.mpr ⟨lw_p17, List.forall_mem_cons.mpr ⟨lw_p18, List.forall_mem_cons.mpr ⟨lw_p19, List.forall_mem_cons.mpr ⟨lw_p20, List.forall_mem_cons.mpr ⟨lw_p21, List.forall_mem_cons.mpr ⟨lw_p22, List.forall_mem_cons.mpr ⟨lw_p23, List.forall_mem_cons.mpr ⟨lw_p24, List.forall_mem_cons.mpr ⟨lw_p25, List.forall_mem_cons.mpr ⟨lw_p26, List.forall_mem_cons.mpr ⟨lw_p27, List.forall_mem_cons.mpr ⟨lw_p28, List.forall_mem_cons.mpr ⟨lw_p29, List.forall_mem_cons.mpr ⟨lw_p30, List.forall_mem_cons.mpr ⟨lw_p31, fun _ h => absurd h List.not_mem_nil⟩⟩⟩⟩⟩⟩⟩⟩⟩⟩⟩⟩⟩⟩⟩⟩
theorem lw_p32 : lw_okq (⟨"CarcasswrightModel", "cutArea", "()J"⟩, 20) := ⟨⟨by decide +kernel, by decide +kernel⟩, List.mem_of_getElem? (i := 1486) (by decide +kernel), List.mem_of_getElem? (i := 2839) (by decide +kernel), List.mem_of_getElem? (i := 2840) (by decide +kernel)⟩
def lw_privs_3 : List (MethodName × Nat) := [(⟨"CarcasswrightModel", "cutArea", "()J"⟩, 20)]
theorem lw_r3 : ∀ q ∈ lw_privs_3, lw_okq q := List.forall_mem_cons.mpr ⟨lw_p32, fun _ h => absurd h List.not_mem_nil⟩
def lw_privs : List (MethodName × Nat) := lw_privs_1 ++ (lw_privs_2 ++ (lw_privs_3))
def lw_tbl : List Cond := k2_sels lw_privs ++ tables_1
theorem lw_privs_ok : ∀ q ∈ lw_privs, lw_okq q := by
  show ∀ q ∈ lw_privs_1 ++ (lw_privs_2 ++ (lw_privs_3)), lw_okq q
  exact List.forall_mem_append.mpr ⟨lw_r1, List.forall_mem_append.mpr ⟨lw_r2, lw_r3⟩⟩
/-- the streams that the claim lets the run draw from -/
abbrev lw_cs : List Choice := [Jvm.Choice.named "NaN.bits"]
theorem lw_bits : nanBits ∈ lw_cs := by first | decide | exact List.mem_cons_self | simp [lw_cs, nanBits]

/-! ===== BEGIN words of one list among another's, by their places ===== -/
theorem goodIn_r {big : List Cond} (ws : List Cond) (ps : List Nat) (hp : ws = ps.filterMap (fun i => big[i]?)) (h : ws.all goodWord = true) : GoodIn big ws := by
  intro w hw
  have h1 := List.all_eq_true.mp h w hw
  rw [hp] at hw
  obtain ⟨i, -, hi⟩ := List.mem_filterMap.mp hw
  have hm : w ∈ big := by first | exact List.mem_of_getElem? hi | exact List.getElem?_mem hi
  exact ⟨hm, good_of_word h1⟩
theorem goodIn_app {big a b : List Cond} (ha : GoodIn big a) (hb : GoodIn big b) : GoodIn big (a ++ b) := fun w h => (List.mem_append.mp h).elim (ha w) (hb w)
theorem goodIn_ca {big a b : List Cond} {c : Cond} (ha : GoodIn big (c :: a)) (hb : GoodIn big b) : GoodIn big (c :: (a ++ b)) := fun w h => (List.mem_cons.mp h).elim (fun e => ha w (List.mem_cons.mpr (Or.inl e))) (fun h => (List.mem_append.mp h).elim (fun h => ha w (List.mem_cons.mpr (Or.inr h))) (hb w))
theorem goodIn_sub {big ws : List Cond} (hm : ∀ w ∈ ws, w ∈ big) (h : ws.all goodWord = true) : GoodIn big ws := fun w hw => ⟨hm w hw, good_of_word (List.all_eq_true.mp h w hw)⟩
/-! ===== END ===== -/
/-! ===== BEGIN exceptions that leave a method, and their catching by the caller (launches without stack traces) ===== -/
section VXA
/-! The laws vx_back, vx_callV, vx_callS, vx_callSW, vx_throw0, vx_throwS follow proofs of the library, with one case more: JvmDerived/Free/Laws.lean (Back.of_free), Shelf42/LK1.lean (callV, callS), Shelf/KitTraced.lean (throwNew0V, throwNewS). -/
/-- where a method has thrown q: the class by its name, the cell, what was written, the world -/
def vx_T (XC : String → State → State → Prop) (st : State) (q : Addr) (t : State) (mc ms : Nat) (free : Addr → Prop) : Prop :=
  ∃ (E : String) (ce : Cell) (L : List Loc), XC E st t ∧ t.heap[q]? = some ce ∧ ce.vm = .none ∧ st.vm.findClass E = some ce.cls ∧ st.WarmedH t.vm ∧ st.sameButNew ({ t with vm := st.vm } : State) L mc ms ∧ ∀ z ∈ L, free z.base
def vx_Q (Qc : Array Value → State → Outcome → State → Prop) (XC : String → State → State → Prop) (mc ms : Nat) (free : Addr → Prop) : Array Value → State → Outcome → State → Prop := fun a st o t =>
  (Qc a st o t ∧ ∃ L, FrameEnd st o t L mc ms ∧ ∀ q ∈ L, free q.base) ∨ ∃ q, o = .threw q ∧ vx_T XC st q t mc ms free
/-- a callee that returns or throws -/
def vx_Met (l : Launch) (y : MethodName) (ws : List Cond) (rm : Room) (Pc : Array Value → State → Prop) (Qc : Array Value → State → Outcome → State → Prop) (XC : String → State → State → Prop) (mc ms : Nat) (free : Addr → Prop) : Prop :=
  MetFree l y (headSpec ws rm) Pc (fun _ _ _ _ _ => True) (vx_Q Qc XC mc ms free)
def vx_Post (XC : String → State → State → Prop) (mc ms : Nat) (free : Addr → Prop) : Pt → Array Value → Addr → Pt → Prop := fun A a q B =>
  ∃ (g : JFrame) (mk : MethodId) (t : State) (L : List Loc) (E : String) (ce : Cell), B.U.heap = t.heap ∧ B.U.vm = t.vm ∧ XC E (A.U.calling g mk a) t ∧ t.heap[q]? = some ce ∧ ce.vm = .none ∧ A.U.vm.findClass E = some ce.cls ∧ B.locs = A.locs ++ L ∧ (∀ z ∈ L, free z.base) ∧ B.cells = A.cells + mc ∧ B.slots = A.slots + ms
def vx_Back (l : Launch) (R : Room) (p : Program) (e : Env) (below : List Frame) (s : State) (sargs : Array Value) (y : MethodName) (len W9 : Nat)
    (Pre : Pt → Array Value → Prop) (Post : Pt → Array Value → Option Value → Pt → Prop) (PostX : Pt → Array Value → Addr → Pt → Prop) : Prop :=
  ∀ (m : MethodId) (meth : Method) (c : Code) (A : Pt) (g : JFrame) (ig : Instr) (mk : MethodId) (a : Array Value),
    Stand p l e R s m sargs below meth c A.U A.locs A.cells A.slots → g.method = m → g.locals.size = c.maxLocals → decode c.code g.pc = .ok (ig, len) →
    2 * g.monitorRoom + (g.stack.map fun v => v.category).sum ≤ W9 → A.U.methodNamed? y = some mk → Pre A a →
    (∃ (v : Option Value) (B : Pt), Stand p l e R s m sargs below meth c B.U B.locs B.cells B.slots ∧ Post A a v B ∧
      Steps p.tables e below (doInvoke e (A.U.setTop g) [] mk a).1 (B.U.setTop { g with pc := g.pc + len, stack := v.toList ++ g.stack })) ∨
    (∃ (q : Addr) (B : Pt), Stand p l e R s m sargs below meth c B.U B.locs B.cells B.slots ∧ PostX A a q B ∧
      Steps p.tables e below (doInvoke e (A.U.setTop g) [] mk a).1 ((B.U.setTop g).pushFrame (.throwing q)))
section Payer
variable {l : Launch} {R : Room} {p : Program} {e : Env} {below : List Frame} {s : State} {sargs : Array Value} {y : MethodName} {len W9 : Nat}
theorem vx_back {ws : List Cond} {rm : Room} {Pc : Array Value → State → Prop} {Qc : Array Value → State → Outcome → State → Prop} {XC : String → State → State → Prop} {mc ms : Nat} {free : Addr → Prop} {bytes : ByteArray} {maxL : Nat} {ret : Option FieldType}
    (hM : vx_Met l y ws rm Pc Qc XC mc ms free) (hblind : FrameBlind Pc) (hrc : rm.cells = mc) (hrs : rm.slots = ms)
    (hframes : rm.frames + 1 ≤ R.frames) (hlocals : W9 + (maxL + 11) + rm.locals ≤ R.locals)
    (hws : ∀ w ∈ ws, ∀ a' U, s.WarmedH U.vm → w.before a' U = true) (hcode : Cond.code y bytes maxL ret ∈ ws) (hinit : ∀ a' U, s.WarmedH U.vm → (Cond.initialized y.cls).before a' U = true) :
    vx_Back l R p e below s sargs y len W9 (PreOf R mc ms Pc) (PostOf Qc mc ms free) (vx_Post XC mc ms free) := by
  intro m meth c A g ig mk a X hg hsize hdg hW hn hp
  have h1 : (headSpec ws rm).pre.before a A.U = true := atoms_intro fun w hw => hws w hw _ _ X.warmed
  have h2 : (Cond.code y bytes maxL ret).before a A.U = true := hws _ hcode _ _ X.warmed
  have h3 : (Cond.initialized y.cls).before a A.U = true := hinit _ _ X.warmed
  have h4 : A.cells + (headSpec ws rm).room.cells ≤ R.cells := by rw [show (headSpec ws rm).room.cells = mc from hrc]; exact hp.1
  have h5 : A.slots + (headSpec ws rm).room.slots ≤ R.slots := by rw [show (headSpec ws rm).room.slots = ms from hrs]; exact hp.2.1
  have hPc : Pc a (A.U.calling g mk a) := hblind _ _ _ _ hp.2.2
  obtain ⟨U, Ls, c0, s0⟩ := A
  dsimp only [Pt.U, Pt.locs, Pt.cells, Pt.slots] at h1 h2 h3 h4 h5 X hn hPc ⊢
  obtain ⟨methY, cY, hmY, hcY, -, hlY, -, -, -, -⟩ := Cond.code_spec hn h2
  obtain ⟨kY, hkY, -⟩ := className_of_methodNamed hn
  have hinitY : kY.init = .initialized := Cond.initialized_spec (findClass_of_methodNamed hn) hkY h3
  have h : At U g.method c below := by rw [hg]; exact X.here
  have hlocals9 : W9 + (maxL + 11) + (headSpec ws rm).room.locals ≤ R.locals := hlocals
  have happ : (headSpec ws rm).appliesLoose y e.platform (U.calling g mk a) = true :=
    Spec.appliesLoose_calling (g := g) h hdg hn hkY hinitY
      (X.room_calling (g := g) (R' := (headSpec ws rm).room) hsize hmY hcY hframes (by rw [hlY]; omega) h4 h5) h1
  obtain ⟨mid, hmid⟩ := h.above
  have hfr : (U.setTop g).frames = (.java g :: mid) ++ below := by rw [State.frames_setTop' g h.top, hmid]; rfl
  obtain ⟨o, s₂, hsteps, -, hend, hq⟩ := Steps.callFree hM p X.admits X.cas X.clock (acts := []) hfr happ hPc trivial
  have hq' : vx_Q Qc XC mc ms free a (U.calling g mk a) o s₂ := hq
  rw [State.frames_setTop' g h.top] at hend
  obtain ⟨g₀, hg0⟩ := Option.isSome_iff_exists.mp h.top
  obtain ⟨r, hr⟩ := State.topJava?_eq_some.mp hg0
  have hr' : (({ U with heap := s₂.heap, slotsUsed := s₂.slotsUsed } : State).setVm s₂.vm).frames = .java g₀ :: r := hr
  rcases hq' with ⟨hqc, L, hfe, hL⟩ | ⟨q, rfl, E, ce, L, hx, hce, hcv, hcl, hW₂, hsm, hL⟩
  · obtain ⟨⟨v, rfl⟩, hW₂, e2, q2, q3, q4, q5, q6⟩ := id hfe
    have e3 : s₂ = ({ (U.calling g mk a).setFrames s₂.frames with heap := s₂.heap, slotsUsed := s₂.slotsUsed } : State).setVm s₂.vm := by
      have : s₂ = ({ s₂ with vm := (U.calling g mk a).vm } : State).setVm s₂.vm := rfl
      rw [e2] at this
      exact this
    obtain ⟨c₂, i₂, len₂, hc₂, hd₂, hf₂⟩ := hend
    have hW' : U.WarmedH s₂.vm := hW₂
    have hcc : c₂ = c := by
      have h1 : s₂.code? g.method = U.code? g.method := by
        rw [State.code?_eq, State.code?_eq, hW'.alike.method?]
      exact Option.some.inj (hc₂.symm.trans (h1.trans h.code))
    subst hcc
    have hlen : len₂ = len := by rw [hdg] at hd₂; cases hd₂; rfl
    subst hlen
    have hs₂ : s₂ = (({ U with heap := s₂.heap, slotsUsed := s₂.slotsUsed } : State).setVm s₂.vm).setTop { g with pc := g.pc + len₂, stack := v.toList ++ g.stack } := by
      refine e3.trans ?_
      rw [hf₂, State.calling_eq h.top, State.setFrames_setFrames, State.setTop_of_frames _ hr', hr]
      rfl
    have hsame : U.sameButNew ({ U with heap := s₂.heap, slotsUsed := s₂.slotsUsed } : State) L mc ms := by
      refine ⟨?_, q2, q3, q4, q5, q6⟩
      obtain ⟨t, ht, -⟩ := State.frames_cons hr
      show ({ U with heap := s₂.heap, slotsUsed := s₂.slotsUsed } : State) = { U.setFrames U.frames with heap := s₂.heap, slotsUsed := s₂.slotsUsed }
      rw [State.setFrames_self ht]
    subst hg
    refine Or.inl ⟨v, ⟨(({ U with heap := s₂.heap, slotsUsed := s₂.slotsUsed } : State).setVm s₂.vm), Ls ++ L, c0 + mc, s0 + ms⟩,
      ⟨X.admits, X.cas, X.clock, X.frames, X.room, X.hears, X.method, X.code, (X.here.setHeapUsed s₂.heap s₂.slotsUsed).setVm hW'.alike, X.tail, State.WarmedH.trans X.warmed hW', X.limits, X.bytes, X.same.trans (hsame.setVm s.vm)⟩,
      ⟨g, mk, s₂, L, rfl, rfl, hqc, rfl, hL, rfl, rfl⟩, ?_⟩
    show Steps p.tables e below _ ((({ U with heap := s₂.heap, slotsUsed := s₂.slotsUsed } : State).setVm s₂.vm).setTop { g with pc := g.pc + len₂, stack := v.toList ++ g.stack })
    rw [← hs₂]
    exact hsteps
  · obtain ⟨e2, q2, q3, q4, q5, q6⟩ := id hsm
    have e3 : s₂ = ({ (U.calling g mk a).setFrames s₂.frames with heap := s₂.heap, slotsUsed := s₂.slotsUsed } : State).setVm s₂.vm := by
      have : s₂ = ({ s₂ with vm := (U.calling g mk a).vm } : State).setVm s₂.vm := rfl
      rw [e2] at this
      exact this
    have hf₂ : s₂.frames = .throwing q :: .java g :: U.frames.tail := hend
    have hW' : U.WarmedH s₂.vm := hW₂
    have hs₂ : s₂ = ((({ U with heap := s₂.heap, slotsUsed := s₂.slotsUsed } : State).setVm s₂.vm).setTop g).pushFrame (.throwing q) := by
      refine e3.trans ?_
      rw [hf₂, State.calling_eq h.top, State.setFrames_setFrames, State.pushFrame, State.frames_setTop _ hr', State.setTop_of_frames _ hr', State.setFrames_setFrames, hr]
      rfl
    have hsame : U.sameButNew ({ U with heap := s₂.heap, slotsUsed := s₂.slotsUsed } : State) L mc ms := by
      refine ⟨?_, q2, q3, q4, q5, q6⟩
      obtain ⟨t, ht, -⟩ := State.frames_cons hr
      show ({ U with heap := s₂.heap, slotsUsed := s₂.slotsUsed } : State) = { U.setFrames U.frames with heap := s₂.heap, slotsUsed := s₂.slotsUsed }
      rw [State.setFrames_self ht]
    subst hg
    refine Or.inr ⟨q, ⟨(({ U with heap := s₂.heap, slotsUsed := s₂.slotsUsed } : State).setVm s₂.vm), Ls ++ L, c0 + mc, s0 + ms⟩,
      ⟨X.admits, X.cas, X.clock, X.frames, X.room, X.hears, X.method, X.code, (X.here.setHeapUsed s₂.heap s₂.slotsUsed).setVm hW'.alike, X.tail, State.WarmedH.trans X.warmed hW', X.limits, X.bytes, X.same.trans (hsame.setVm s.vm)⟩,
      ⟨g, mk, s₂, L, E, ce, rfl, rfl, hx, hce, hcv, hcl, rfl, hL, rfl, rfl⟩, ?_⟩
    show Steps p.tables e below _ (((({ U with heap := s₂.heap, slotsUsed := s₂.slotsUsed } : State).setVm s₂.vm).setTop g).pushFrame (.throwing q))
    rw [← hs₂]
    exact hsteps
end Payer
section Calls
variable {p : Program} {l : Launch} {e : Env} {R : Room} {s : State} {m : MethodId} {args : Array Value} {below : List Frame} {meth : Method} {c : Code} {T : State} {locs : List Loc} {cells slots : Nat}
theorem vx_callV (X : Stand p l e R s m args below meth c T locs cells slots) (hexec : p.tables.exec = Jvm.exec) {own C : String} {index : Nat} {y : MethodName} {bytes : ByteArray} {maxL : Nat} {ret : Option FieldType}
    (hown : s.vm.findClass own = some m.cls) (hlink : (Cond.methodLink own index y).before args s = true) (hinst : (Cond.instanceMethod y).before args s = true) (hsel : (Cond.selects C y y).before args s = true)
    (hcode : (Cond.code y bytes maxL ret).before args s = true) (hy : y.cls ≠ "java/lang/invoke/MethodHandle" ∧ y.cls ≠ "java/lang/invoke/VarHandle")
    {W9 : Nat} {Pre : Pt → Array Value → Prop} {Post : Pt → Array Value → Option Value → Pt → Prop} {PostX : Pt → Array Value → Addr → Pt → Prop} (hK : vx_Back l R p e below s args y 3 W9 Pre Post PostX)
    {b : Addr} {cellB : Cell} (hcell : T.heap[b]? = some cellB) (hobj : cellB.vm.isStatics = false) (hcls : s.vm.findClass C = some cellB.cls)
    {g : JFrame} (hg : g.method = m) (hsize : g.locals.size = c.maxLocals) {argsL rest : List Value} (hlen : ∀ sig, parseMethodDescriptor y.desc = some sig → argsL.length = sig.parameters.length)
    (hstack : g.stack = argsL.reverse ++ .ref b :: rest) (hW : 2 * g.monitorRoom + (rest.map fun v => v.category).sum ≤ W9) (hdg : decode c.code g.pc = .ok (.invokevirtual index, 3))
    (hpre : ∀ vm₁, s.WarmedH vm₁ → Pre ⟨T.setVm vm₁, locs, cells, slots⟩ (Value.ref b :: argsL).toArray) :
    (∃ (v : Option Value) (vm₁ : Vm) (B : Pt), s.WarmedH vm₁ ∧ Stand p l e R s m args below meth c B.U B.locs B.cells B.slots ∧ Post ⟨T.setVm vm₁, locs, cells, slots⟩ (Value.ref b :: argsL).toArray v B ∧
      ∀ target, Steps p.tables e below (B.U.setTop { g with pc := g.pc + 3, stack := v.toList ++ rest }) target → Steps p.tables e below (T.setTop g) target) ∨
    (∃ (q : Addr) (vm₁ : Vm) (B : Pt), s.WarmedH vm₁ ∧ Stand p l e R s m args below meth c B.U B.locs B.cells B.slots ∧ PostX ⟨T.setVm vm₁, locs, cells, slots⟩ (Value.ref b :: argsL).toArray q B ∧
      Steps p.tables e below (T.setTop g) ((B.U.setTop { g with stack := rest }).pushFrame (.throwing q))) := by
  obtain ⟨mk, methM, hnamed, hmethM, hstM, habM⟩ := Cond.instanceMethod_spec hinst
  obtain ⟨methM', cM, hmethM', -, -, -, -, -, -, hsigM⟩ := Cond.code_spec hnamed hcode
  cases hmethM.symm.trans hmethM'
  obtain ⟨c2, r2, m2, q1, q2, q3, q4, kP, hkP, hkPi⟩ := Cond.selects_spec hsel
  cases hcls.symm.trans q1
  cases (State.methodFound?_of_named hnamed hy).symm.trans q2
  cases hnamed.symm.trans q3
  have hselP : selectMethod e.platform s.vm cellB.cls mk = .method mk := by rw [Launch.admits_selectMethod X.admits]; exact q4
  obtain ⟨vm₁, X₁, hstep₁⟩ := X.invokevirtual hexec hown hlink hnamed hmethM hstM hkP hkPi hy (a := b) (cell := cellB) hcell
    (fun z h => by rw [h] at hobj; cases hobj) hselP hmethM habM hkP hkPi (g := g) hg (argsL := argsL) (rest := rest) (hlen _ hsigM) hstack hdg
  rcases hK m meth c ⟨T.setVm vm₁, locs, cells, slots⟩ { g with stack := rest } (.invokevirtual index) mk (Value.ref b :: argsL).toArray X₁ hg hsize hdg hW (X₁.named hnamed) (hpre vm₁ X₁.warmed) with ⟨v, B, X', hpost, hsteps⟩ | ⟨q, B, X', hpost, hsteps⟩
  · exact Or.inl ⟨v, vm₁, B, X₁.warmed, X', hpost, fun target h => hstep₁ _ fun acts => by rw [doInvoke_state]; exact hsteps.trans h⟩
  · exact Or.inr ⟨q, vm₁, B, X₁.warmed, X', hpost, hstep₁ _ fun acts => by rw [doInvoke_state]; exact hsteps⟩
theorem vx_callS (X : Stand p l e R s m args below meth c T locs cells slots) (hexec : p.tables.exec = Jvm.exec) {own : String} {index : Nat} {y : MethodName} {bytes : ByteArray} {maxL : Nat} {ret : Option FieldType}
    (hown : s.vm.findClass own = some m.cls) (hlink : (Cond.methodLink own index y).before args s = true) (hstat : (Cond.static y).before args s = true) (hinit : (Cond.initialized y.cls).before args s = true)
    (hcode : (Cond.code y bytes maxL ret).before args s = true) (hy : y.cls ≠ "java/lang/invoke/MethodHandle" ∧ y.cls ≠ "java/lang/invoke/VarHandle")
    {W9 : Nat} {Pre : Pt → Array Value → Prop} {Post : Pt → Array Value → Option Value → Pt → Prop} {PostX : Pt → Array Value → Addr → Pt → Prop} (hK : vx_Back l R p e below s args y 3 W9 Pre Post PostX)
    {g : JFrame} (hg : g.method = m) (hsize : g.locals.size = c.maxLocals) {argsL rest : List Value} (hlen : ∀ sig, parseMethodDescriptor y.desc = some sig → argsL.length = sig.parameters.length)
    (hstack : g.stack = argsL.reverse ++ rest) (hW : 2 * g.monitorRoom + (rest.map fun v => v.category).sum ≤ W9) (hdg : decode c.code g.pc = .ok (.invokestatic index, 3))
    (hpre : ∀ vm₁, s.WarmedH vm₁ → Pre ⟨T.setVm vm₁, locs, cells, slots⟩ argsL.toArray) :
    (∃ (v : Option Value) (vm₁ : Vm) (B : Pt), s.WarmedH vm₁ ∧ Stand p l e R s m args below meth c B.U B.locs B.cells B.slots ∧ Post ⟨T.setVm vm₁, locs, cells, slots⟩ argsL.toArray v B ∧
      ∀ target, Steps p.tables e below (B.U.setTop { g with pc := g.pc + 3, stack := v.toList ++ rest }) target → Steps p.tables e below (T.setTop g) target) ∨
    (∃ (q : Addr) (vm₁ : Vm) (B : Pt), s.WarmedH vm₁ ∧ Stand p l e R s m args below meth c B.U B.locs B.cells B.slots ∧ PostX ⟨T.setVm vm₁, locs, cells, slots⟩ argsL.toArray q B ∧
      Steps p.tables e below (T.setTop g) ((B.U.setTop { g with stack := rest }).pushFrame (.throwing q))) := by
  obtain ⟨mk, hnamed⟩ := Cond.code_named hcode
  obtain ⟨methM, cM, hmethM, -, -, -, -, -, -, hsigM⟩ := Cond.code_spec hnamed hcode
  have hstatic : methM.isStatic = true := Cond.static_spec hnamed hmethM hstat
  obtain ⟨kP, hkP, -⟩ := className_of_methodNamed hnamed
  have hinitP : kP.init = .initialized := Cond.initialized_spec (findClass_of_methodNamed hnamed) hkP hinit
  obtain ⟨vm₁, X₁, hstep₁⟩ := X.invokestatic hexec hown hlink hnamed hmethM hstatic hkP hinitP hy (g := g) hg (argsL := argsL) (rest := rest) (hlen _ hsigM) hstack hdg
  rcases hK m meth c ⟨T.setVm vm₁, locs, cells, slots⟩ { g with stack := rest } (.invokestatic index) mk argsL.toArray X₁ hg hsize hdg hW (X₁.named hnamed) (hpre vm₁ X₁.warmed) with ⟨v, B, X', hpost, hsteps⟩ | ⟨q, B, X', hpost, hsteps⟩
  · exact Or.inl ⟨v, vm₁, B, X₁.warmed, X', hpost, fun target h => hstep₁ _ fun acts => by rw [doInvoke_state]; exact hsteps.trans h⟩
  · exact Or.inr ⟨q, vm₁, B, X₁.warmed, X', hpost, hstep₁ _ fun acts => by rw [doInvoke_state]; exact hsteps⟩
end Calls
theorem vx_cls {s : State} {T : State} {vm₁ : Vm} {E : String} {k : ClassId} (hW : s.WarmedH vm₁) (h : (T.setVm vm₁).vm.findClass E = some k) : s.vm.findClass E = some k := by
  have h1 : vm₁.findClass E = some k := h
  rw [hW.alike.findClass] at h1
  exact h1
/-- the method's frame g, with q thrown over it -/
def vx_W (p : Program) (l : Launch) (e : Env) (R : Room) (s : State) (m : MethodId) (args : Array Value) (below : List Frame) (meth : Method) (c : Code) (H : Heap) (locs : List Loc) (cells slots : Nat) (Q : State → Prop) (g : JFrame) (q : Addr) : Prop :=
  ∀ T : State, T.heap = H → Stand p l e R s m args below meth c T locs cells slots → ∃ t, Steps p.tables e below ((T.setTop g).pushFrame (.throwing q)) t ∧ Q t
def vx_Run (p : Program) (l : Launch) (e : Env) (R : Room) (s : State) (m : MethodId) (args : Array Value) (below : List Frame) (meth : Method) (c : Code) (H : Heap) (locs : List Loc) (cells slots mc ms : Nat) (g : JFrame) (rest : List Value) (Qa : State → Outcome → State → Prop) (XC : String → State → State → Prop) (free : Addr → Prop) : Prop :=
  ∀ T : State, T.heap = H → Stand p l e R s m args below meth c T locs cells slots →
    (∃ (v : Option Value) (st₀ t T' : State) (L : List Loc), st₀.heap = H ∧ Stand p l e R s m args below meth c T' (locs ++ L) (cells + mc) (slots + ms) ∧ (∀ q ∈ L, free q.base) ∧ T'.heap = t.heap ∧ T'.vm = t.vm ∧ Qa st₀ (.returned v) t ∧
      Goes p e below T g T' { g with pc := g.pc + 3, stack := v.toList ++ rest }) ∨
    (∃ (q : Addr) (st₀ t T' : State) (L : List Loc) (E : String) (ce : Cell), st₀.heap = H ∧ Stand p l e R s m args below meth c T' (locs ++ L) (cells + mc) (slots + ms) ∧ (∀ z ∈ L, free z.base) ∧ T'.heap = t.heap ∧ T'.vm = t.vm ∧ XC E st₀ t ∧ t.heap[q]? = some ce ∧ ce.vm = .none ∧ s.vm.findClass E = some ce.cls ∧
      Steps p.tables e below (T.setTop g) ((T'.setTop { g with stack := rest }).pushFrame (.throwing q)))
def vx_X {S : Type} (px : S → Prop) (B : String → S → State → Prop) (A : Nat → Prop) : String → State → State → Prop := fun E st t => ∃ u : S, px u ∧ B E u t ∧ va_F A st t
section Runs
variable {p : Program} {l : Launch} {e : Env} {R : Room} {s : State} {m : MethodId} {args : Array Value} {below : List Frame} {meth : Method} {c : Code} {H : Heap} {locs : List Loc} {cells slots : Nat}
variable {y : MethodName} {bytes cc : ByteArray} {maxL nL mc ms n index : Nat} {ret : Option FieldType} {ws : List Cond} {rm : Room} {Pc : Array Value → State → Prop} {Qc : Array Value → State → Outcome → State → Prop} {XC : String → State → State → Prop} {free : Addr → Prop} {Ts : List Cond} {own C : String} {b : Addr} {As rest : List Value} {g : JFrame}
theorem vx_callBack (cb : CallB R s args own index y bytes maxL ret ws rm mc ms n) (hM : vx_Met l y ws rm Pc Qc XC mc ms free) (hbl : FrameBlind Pc) : vx_Back l R p e below s args y 3 8 (PreOf R mc ms Pc) (PostOf Qc mc ms free) (vx_Post XC mc ms free) := by
  obtain ⟨hrc, hrs, hfr, hlo, hws, hcw, -, hini, -⟩ := cb
  exact vx_back (bytes := bytes) (maxL := maxL) (ret := ret) hM hbl hrc hrs hfr hlo hws hcw (fun a' U hW => word_at hW (Or.inl (by first | rfl | simp [Cond.onTables, Cond.keeps, Cond.steady])) hini)
theorem vx_runV (S : CallFix p m c cc nL s args Ts own) (hM : vx_Met l y ws rm Pc Qc XC mc ms free) (cw : CallW R s args own C index y bytes maxL ret ws rm mc ms n) (hp : PreV s H C b Pc As)
    (hg : g.method = m) (hn : As.length = n) (hsize : g.locals.size = nL) (hstack : g.stack = As.reverse ++ .ref b :: rest) (hW : 2 * g.monitorRoom + (rest.map fun v => v.category).sum ≤ 8) (hdg : decode cc g.pc = .ok (.invokevirtual index, 3)) (hf : cells + mc ≤ R.cells ∧ slots + ms ≤ R.slots) :
    vx_Run p l e R s m args below meth c H locs cells slots mc ms g rest (Qc (Value.ref b :: As).toArray) XC free := by
  have hK : vx_Back l R p e below s args y 3 8 (PreOf R mc ms Pc) (PostOf Qc mc ms free) (vx_Post XC mc ms free) := vx_callBack cw.1 hM hp.1
  obtain ⟨⟨-, -, -, -, -, -, hcode, -, hy, hlen, hl⟩, hin, hse⟩ := cw
  obtain ⟨hx, hb, hml, ho, -⟩ := S
  obtain ⟨-, ⟨cellB, hcB, hoB, hclB⟩, hPc⟩ := hp
  intro T hT X
  rcases vx_callV X hx (C := C) (bytes := bytes) (maxL := maxL) (ret := ret) ho hl hin hse hcode hy hK (by rw [hT]; exact hcB) hoB hclB hg (hsize.trans hml.symm) (argsL := As) (rest := rest) (fun sig h => hn.trans (hlen sig h)) hstack hW (by rw [hb]; exact hdg)
    (fun vm₁ hW₁ => ⟨hf.1, hf.2, hPc (T.setVm vm₁) hT hW₁⟩) with ⟨v, vm₁, ⟨U', l2, c2, s2⟩, hW₁, X', ⟨g', mk, t, L, e1, e2, hq, h1, hL, h2, h3⟩, st⟩ | ⟨q, vm₁, ⟨U', l2, c2, s2⟩, hW₁, X', ⟨g', mk, t, L, E, ce, e1, e2, hq, hce, hcv, hcl, h1, hL, h2, h3⟩, st⟩
  · dsimp only [Pt.U, Pt.locs, Pt.cells, Pt.slots] at X' e1 e2 h1 h2 h3 st
    subst h1; subst h2; subst h3
    exact Or.inl ⟨v, (T.setVm vm₁).calling g' mk (Value.ref b :: As).toArray, t, U', L, hT, X', hL, e1, e2, hq, st⟩
  · dsimp only [Pt.U, Pt.locs, Pt.cells, Pt.slots] at X' e1 e2 h1 h2 h3 st hcl
    subst h1; subst h2; subst h3
    exact Or.inr ⟨q, (T.setVm vm₁).calling g' mk (Value.ref b :: As).toArray, t, U', L, E, ce, hT, X', hL, e1, e2, hq, hce, hcv, vx_cls hW₁ hcl, st⟩
theorem vx_runS (S : CallFix p m c cc nL s args Ts own) (hM : vx_Met l y ws rm Pc Qc XC mc ms free) (cw : CallB R s args own index y bytes maxL ret ws rm mc ms n ∧ (Cond.static y).before args s = true) (hp : PreS s H Pc As)
    (hg : g.method = m) (hn : As.length = n) (hsize : g.locals.size = nL) (hstack : g.stack = As.reverse ++ rest) (hW : 2 * g.monitorRoom + (rest.map fun v => v.category).sum ≤ 8) (hdg : decode cc g.pc = .ok (.invokestatic index, 3)) (hf : cells + mc ≤ R.cells ∧ slots + ms ≤ R.slots) :
    vx_Run p l e R s m args below meth c H locs cells slots mc ms g rest (Qc As.toArray) XC free := by
  have hK : vx_Back l R p e below s args y 3 8 (PreOf R mc ms Pc) (PostOf Qc mc ms free) (vx_Post XC mc ms free) := vx_callBack cw.1 hM hp.1
  obtain ⟨⟨-, -, -, -, -, -, hcode, hini, hy, hlen, hl⟩, hstt⟩ := cw
  obtain ⟨hx, hb, hml, ho, -⟩ := S
  intro T hT X
  rcases vx_callS X hx (bytes := bytes) (maxL := maxL) (ret := ret) ho hl hstt hini hcode hy hK hg (hsize.trans hml.symm) (argsL := As) (rest := rest) (fun sig h => hn.trans (hlen sig h)) hstack hW (by rw [hb]; exact hdg)
    (fun vm₁ hW₁ => ⟨hf.1, hf.2, hp.2 (T.setVm vm₁) hT hW₁⟩) with ⟨v, vm₁, ⟨U', l2, c2, s2⟩, hW₁, X', ⟨g', mk, t, L, e1, e2, hq, h1, hL, h2, h3⟩, st⟩ | ⟨q, vm₁, ⟨U', l2, c2, s2⟩, hW₁, X', ⟨g', mk, t, L, E, ce, e1, e2, hq, hce, hcv, hcl, h1, hL, h2, h3⟩, st⟩
  · dsimp only [Pt.U, Pt.locs, Pt.cells, Pt.slots] at X' e1 e2 h1 h2 h3 st
    subst h1; subst h2; subst h3
    exact Or.inl ⟨v, (T.setVm vm₁).calling g' mk As.toArray, t, U', L, hT, X', hL, e1, e2, hq, st⟩
  · dsimp only [Pt.U, Pt.locs, Pt.cells, Pt.slots] at X' e1 e2 h1 h2 h3 st hcl
    subst h1; subst h2; subst h3
    exact Or.inr ⟨q, (T.setVm vm₁).calling g' mk As.toArray, t, U', L, E, ce, hT, X', hL, e1, e2, hq, hce, hcv, vx_cls hW₁ hcl, st⟩
end Runs
section Rows
variable {p : Program} {l : Launch} {e : Env} {R : Room} {s : State} {m : MethodId} {args : Array Value} {below : List Frame} {meth : Method} {c : Code} {H : Heap} {locs : List Loc} {cells slots : Nat} {Q : State → Prop}
variable {mc ms : Nat} {free : Addr → Prop} {A0 A1 : Nat → Prop} {H0 : Heap} {a : Array Value} {pc : Nat} {ls : Array Slot} {st0 rest : List Value}
theorem vx_keep {st₀ t T' : State} {L : List Loc} (h0 : st₀.heap = H) (e1 : T'.heap = t.heap) (hS : va_S A0 H0 H locs) (hA : ∀ q, q < H.size → A1 q → A0 q) (hf : ∀ q, free q → A0 q) (hL : ∀ q ∈ L, free q.base) (hF : va_F A1 st₀ t) :
    H.size ≤ T'.heap.size ∧ (∀ q : Nat, q < H.size → ¬ A1 q → T'.heap[q]? = H[q]?) ∧ va_S A0 H0 T'.heap (locs ++ L) := by
  obtain ⟨hz, hk⟩ := hF
  rw [h0] at hz hk
  exact ⟨by rw [e1]; exact hz, fun q h1 h2 => by rw [e1]; exact hk q h1 h2,
    ⟨Nat.le_trans hS.1 (by rw [e1]; exact hz), fun q h1 h2 => by rw [e1, hk q (Nat.lt_of_lt_of_le h1 hS.1) (fun z => h2 (hA q (Nat.lt_of_lt_of_le h1 hS.1) z))]; exact hS.2.1 q h1 h2, fun q hq => by
      rcases List.mem_append.mp hq with h | h
      · exact hS.2.2 q h
      · exact hf _ (hL q h)⟩⟩
theorem vx_calli {S SX : Type} {post : Int32 → S → Prop} {px : SX → Prop} {B : S → State → Prop} {BX : String → SX → State → Prop} {AX : Nat → Prop} (hr : vx_Run p l e R s m args below meth c H locs cells slots mc ms (F0 m pc ls st0) rest (va_Qi post B A1 a) (vx_X px BX AX) free) (hS : va_S A0 H0 H locs) (hA : ∀ q, q < H.size → A1 q → A0 q) (hf : ∀ q, free q → A0 q) (hAX : ∀ q, q < H.size → AX q → A0 q)
    (kx : ∀ (E : String) (ce : Cell) (q9 : Addr) (u : SX) (t : State) (H1 : Heap) (locs1 : List Loc), t.heap = H1 → s.vm.Alike t.vm → px u → BX E u t → H.size ≤ H1.size → (∀ q : Nat, q < H.size → ¬ AX q → H1[q]? = H[q]?) → va_S A0 H0 H1 locs1 → H1[q9]? = some ce → ce.vm = .none → s.vm.findClass E = some ce.cls → vx_W p l e R s m args below meth c H1 locs1 (cells + mc) (slots + ms) Q (F0 m pc ls rest) q9)
    (kk : ∀ (r : Int32) (u : S) (t : State) (H1 : Heap) (locs1 : List Loc), t.heap = H1 → s.vm.Alike t.vm → post r u → B u t → H.size ≤ H1.size → (∀ q : Nat, q < H.size → ¬ A1 q → H1[q]? = H[q]?) → va_S A0 H0 H1 locs1 → W p l e R s m args below meth c H1 locs1 (cells + mc) (slots + ms) Q (F0 m (pc + 3) ls (.int r :: rest))) : W p l e R s m args below meth c H locs cells slots Q (F0 m pc ls st0) := by
  intro T hT X
  rcases hr T hT X with ⟨v, st₀, t, T', L, h0, X', hL, e1, e2, ⟨⟨r, u, hv, hp, hb⟩, hF⟩, st⟩ | ⟨q, st₀, t, T', L, E, ce, h0, X', hL, e1, e2, ⟨u, hp, hb, hF⟩, hce, hcv, hcl, st⟩
  · cases hv
    obtain ⟨k1, k2, k3⟩ := vx_keep h0 e1 hS hA hf hL hF
    obtain ⟨t2, a1, b1⟩ := kk r u t T'.heap (locs ++ L) e1.symm (by rw [← e2]; exact X'.warmed.alike) hp hb k1 k2 k3 T' rfl X'
    exact ⟨t2, st t2 a1, b1⟩
  · obtain ⟨k1, k2, k3⟩ := vx_keep h0 e1 hS hAX hf hL hF
    obtain ⟨t2, a1, b1⟩ := kx E ce q u t T'.heap (locs ++ L) e1.symm (by rw [← e2]; exact X'.warmed.alike) hp hb k1 k2 k3 (by rw [e1]; exact hce) hcv hcl T' rfl X'
    exact ⟨t2, st.trans a1, b1⟩
theorem vx_calll {S SX : Type} {post : Int64 → S → Prop} {px : SX → Prop} {B : S → State → Prop} {BX : String → SX → State → Prop} {AX : Nat → Prop} (hr : vx_Run p l e R s m args below meth c H locs cells slots mc ms (F0 m pc ls st0) rest (va_Ql post B A1 a) (vx_X px BX AX) free) (hS : va_S A0 H0 H locs) (hA : ∀ q, q < H.size → A1 q → A0 q) (hf : ∀ q, free q → A0 q) (hAX : ∀ q, q < H.size → AX q → A0 q)
    (kx : ∀ (E : String) (ce : Cell) (q9 : Addr) (u : SX) (t : State) (H1 : Heap) (locs1 : List Loc), t.heap = H1 → s.vm.Alike t.vm → px u → BX E u t → H.size ≤ H1.size → (∀ q : Nat, q < H.size → ¬ AX q → H1[q]? = H[q]?) → va_S A0 H0 H1 locs1 → H1[q9]? = some ce → ce.vm = .none → s.vm.findClass E = some ce.cls → vx_W p l e R s m args below meth c H1 locs1 (cells + mc) (slots + ms) Q (F0 m pc ls rest) q9)
    (kk : ∀ (r : Int64) (u : S) (t : State) (H1 : Heap) (locs1 : List Loc), t.heap = H1 → s.vm.Alike t.vm → post r u → B u t → H.size ≤ H1.size → (∀ q : Nat, q < H.size → ¬ A1 q → H1[q]? = H[q]?) → va_S A0 H0 H1 locs1 → W p l e R s m args below meth c H1 locs1 (cells + mc) (slots + ms) Q (F0 m (pc + 3) ls (.long r :: rest))) : W p l e R s m args below meth c H locs cells slots Q (F0 m pc ls st0) := by
  intro T hT X
  rcases hr T hT X with ⟨v, st₀, t, T', L, h0, X', hL, e1, e2, ⟨⟨r, u, hv, hp, hb⟩, hF⟩, st⟩ | ⟨q, st₀, t, T', L, E, ce, h0, X', hL, e1, e2, ⟨u, hp, hb, hF⟩, hce, hcv, hcl, st⟩
  · cases hv
    obtain ⟨k1, k2, k3⟩ := vx_keep h0 e1 hS hA hf hL hF
    obtain ⟨t2, a1, b1⟩ := kk r u t T'.heap (locs ++ L) e1.symm (by rw [← e2]; exact X'.warmed.alike) hp hb k1 k2 k3 T' rfl X'
    exact ⟨t2, st t2 a1, b1⟩
  · obtain ⟨k1, k2, k3⟩ := vx_keep h0 e1 hS hAX hf hL hF
    obtain ⟨t2, a1, b1⟩ := kx E ce q u t T'.heap (locs ++ L) e1.symm (by rw [← e2]; exact X'.warmed.alike) hp hb k1 k2 k3 (by rw [e1]; exact hce) hcv hcl T' rfl X'
    exact ⟨t2, st.trans a1, b1⟩
theorem vx_callf {S SX : Type} {post : UInt32 → S → Prop} {px : SX → Prop} {B : S → State → Prop} {BX : String → SX → State → Prop} {AX : Nat → Prop} (hr : vx_Run p l e R s m args below meth c H locs cells slots mc ms (F0 m pc ls st0) rest (va_Qf post B A1 a) (vx_X px BX AX) free) (hS : va_S A0 H0 H locs) (hA : ∀ q, q < H.size → A1 q → A0 q) (hf : ∀ q, free q → A0 q) (hAX : ∀ q, q < H.size → AX q → A0 q)
    (kx : ∀ (E : String) (ce : Cell) (q9 : Addr) (u : SX) (t : State) (H1 : Heap) (locs1 : List Loc), t.heap = H1 → s.vm.Alike t.vm → px u → BX E u t → H.size ≤ H1.size → (∀ q : Nat, q < H.size → ¬ AX q → H1[q]? = H[q]?) → va_S A0 H0 H1 locs1 → H1[q9]? = some ce → ce.vm = .none → s.vm.findClass E = some ce.cls → vx_W p l e R s m args below meth c H1 locs1 (cells + mc) (slots + ms) Q (F0 m pc ls rest) q9)
    (kk : ∀ (r : UInt32) (u : S) (t : State) (H1 : Heap) (locs1 : List Loc), t.heap = H1 → s.vm.Alike t.vm → post r u → B u t → H.size ≤ H1.size → (∀ q : Nat, q < H.size → ¬ A1 q → H1[q]? = H[q]?) → va_S A0 H0 H1 locs1 → W p l e R s m args below meth c H1 locs1 (cells + mc) (slots + ms) Q (F0 m (pc + 3) ls (.float r :: rest))) : W p l e R s m args below meth c H locs cells slots Q (F0 m pc ls st0) := by
  intro T hT X
  rcases hr T hT X with ⟨v, st₀, t, T', L, h0, X', hL, e1, e2, ⟨⟨r, u, hv, hp, hb⟩, hF⟩, st⟩ | ⟨q, st₀, t, T', L, E, ce, h0, X', hL, e1, e2, ⟨u, hp, hb, hF⟩, hce, hcv, hcl, st⟩
  · cases hv
    obtain ⟨k1, k2, k3⟩ := vx_keep h0 e1 hS hA hf hL hF
    obtain ⟨t2, a1, b1⟩ := kk r u t T'.heap (locs ++ L) e1.symm (by rw [← e2]; exact X'.warmed.alike) hp hb k1 k2 k3 T' rfl X'
    exact ⟨t2, st t2 a1, b1⟩
  · obtain ⟨k1, k2, k3⟩ := vx_keep h0 e1 hS hAX hf hL hF
    obtain ⟨t2, a1, b1⟩ := kx E ce q u t T'.heap (locs ++ L) e1.symm (by rw [← e2]; exact X'.warmed.alike) hp hb k1 k2 k3 (by rw [e1]; exact hce) hcv hcl T' rfl X'
    exact ⟨t2, st.trans a1, b1⟩
theorem vx_calld {S SX : Type} {post : UInt64 → S → Prop} {px : SX → Prop} {B : S → State → Prop} {BX : String → SX → State → Prop} {AX : Nat → Prop} (hr : vx_Run p l e R s m args below meth c H locs cells slots mc ms (F0 m pc ls st0) rest (va_Qd post B A1 a) (vx_X px BX AX) free) (hS : va_S A0 H0 H locs) (hA : ∀ q, q < H.size → A1 q → A0 q) (hf : ∀ q, free q → A0 q) (hAX : ∀ q, q < H.size → AX q → A0 q)
    (kx : ∀ (E : String) (ce : Cell) (q9 : Addr) (u : SX) (t : State) (H1 : Heap) (locs1 : List Loc), t.heap = H1 → s.vm.Alike t.vm → px u → BX E u t → H.size ≤ H1.size → (∀ q : Nat, q < H.size → ¬ AX q → H1[q]? = H[q]?) → va_S A0 H0 H1 locs1 → H1[q9]? = some ce → ce.vm = .none → s.vm.findClass E = some ce.cls → vx_W p l e R s m args below meth c H1 locs1 (cells + mc) (slots + ms) Q (F0 m pc ls rest) q9)
    (kk : ∀ (r : UInt64) (u : S) (t : State) (H1 : Heap) (locs1 : List Loc), t.heap = H1 → s.vm.Alike t.vm → post r u → B u t → H.size ≤ H1.size → (∀ q : Nat, q < H.size → ¬ A1 q → H1[q]? = H[q]?) → va_S A0 H0 H1 locs1 → W p l e R s m args below meth c H1 locs1 (cells + mc) (slots + ms) Q (F0 m (pc + 3) ls (.double r :: rest))) : W p l e R s m args below meth c H locs cells slots Q (F0 m pc ls st0) := by
  intro T hT X
  rcases hr T hT X with ⟨v, st₀, t, T', L, h0, X', hL, e1, e2, ⟨⟨r, u, hv, hp, hb⟩, hF⟩, st⟩ | ⟨q, st₀, t, T', L, E, ce, h0, X', hL, e1, e2, ⟨u, hp, hb, hF⟩, hce, hcv, hcl, st⟩
  · cases hv
    obtain ⟨k1, k2, k3⟩ := vx_keep h0 e1 hS hA hf hL hF
    obtain ⟨t2, a1, b1⟩ := kk r u t T'.heap (locs ++ L) e1.symm (by rw [← e2]; exact X'.warmed.alike) hp hb k1 k2 k3 T' rfl X'
    exact ⟨t2, st t2 a1, b1⟩
  · obtain ⟨k1, k2, k3⟩ := vx_keep h0 e1 hS hAX hf hL hF
    obtain ⟨t2, a1, b1⟩ := kx E ce q u t T'.heap (locs ++ L) e1.symm (by rw [← e2]; exact X'.warmed.alike) hp hb k1 k2 k3 (by rw [e1]; exact hce) hcv hcl T' rfl X'
    exact ⟨t2, st.trans a1, b1⟩
theorem vx_callv {S SX : Type} {post : S → Prop} {px : SX → Prop} {B : S → State → Prop} {BX : String → SX → State → Prop} {AX : Nat → Prop} (hr : vx_Run p l e R s m args below meth c H locs cells slots mc ms (F0 m pc ls st0) rest (va_Qv post B A1 a) (vx_X px BX AX) free) (hS : va_S A0 H0 H locs) (hA : ∀ q, q < H.size → A1 q → A0 q) (hf : ∀ q, free q → A0 q) (hAX : ∀ q, q < H.size → AX q → A0 q)
    (kx : ∀ (E : String) (ce : Cell) (q9 : Addr) (u : SX) (t : State) (H1 : Heap) (locs1 : List Loc), t.heap = H1 → s.vm.Alike t.vm → px u → BX E u t → H.size ≤ H1.size → (∀ q : Nat, q < H.size → ¬ AX q → H1[q]? = H[q]?) → va_S A0 H0 H1 locs1 → H1[q9]? = some ce → ce.vm = .none → s.vm.findClass E = some ce.cls → vx_W p l e R s m args below meth c H1 locs1 (cells + mc) (slots + ms) Q (F0 m pc ls rest) q9)
    (kk : ∀ (u : S) (t : State) (H1 : Heap) (locs1 : List Loc), t.heap = H1 → s.vm.Alike t.vm → post u → B u t → H.size ≤ H1.size → (∀ q : Nat, q < H.size → ¬ A1 q → H1[q]? = H[q]?) → va_S A0 H0 H1 locs1 → W p l e R s m args below meth c H1 locs1 (cells + mc) (slots + ms) Q (F0 m (pc + 3) ls (rest))) : W p l e R s m args below meth c H locs cells slots Q (F0 m pc ls st0) := by
  intro T hT X
  rcases hr T hT X with ⟨v, st₀, t, T', L, h0, X', hL, e1, e2, ⟨⟨u, hv, hp, hb⟩, hF⟩, st⟩ | ⟨q, st₀, t, T', L, E, ce, h0, X', hL, e1, e2, ⟨u, hp, hb, hF⟩, hce, hcv, hcl, st⟩
  · cases hv
    obtain ⟨k1, k2, k3⟩ := vx_keep h0 e1 hS hA hf hL hF
    obtain ⟨t2, a1, b1⟩ := kk u t T'.heap (locs ++ L) e1.symm (by rw [← e2]; exact X'.warmed.alike) hp hb k1 k2 k3 T' rfl X'
    exact ⟨t2, st t2 a1, b1⟩
  · obtain ⟨k1, k2, k3⟩ := vx_keep h0 e1 hS hAX hf hL hF
    obtain ⟨t2, a1, b1⟩ := kx E ce q u t T'.heap (locs ++ L) e1.symm (by rw [← e2]; exact X'.warmed.alike) hp hb k1 k2 k3 (by rw [e1]; exact hce) hcv hcl T' rfl X'
    exact ⟨t2, st.trans a1, b1⟩
/-- caught by the row x of this method's table; the rows ahead don't take it -/
theorem vx_catch {own name : String} {E : String} {ce : Cell} {q : Addr} (hown : s.vm.findClass own = some m.cls) (pre : List ExceptionTableEntry) (x : ExceptionTableEntry) (suf : List ExceptionTableEntry) (hsplit : c.exceptionTable.toList = pre ++ x :: suf)
    (hpass : ∀ z ∈ pre, covers z pc = false ∨ (z.catchType ≠ 0 ∧ ∃ nm : String, (Cond.classLink own z.catchType nm).before args s = true ∧ va_Nc E nm s)) (hx : covers x pc = true) (h0 : x.catchType ≠ 0)
    (hlink : (Cond.classLink own x.catchType name).before args s = true) (hcast : (Cond.castable E name).before args s = true) (hcell : H[q]? = some ce) (hv : ce.vm = .none) (hcl : s.vm.findClass E = some ce.cls)
    (kk : W p l e R s m args below meth c H locs cells slots Q (F0 m x.handlerPc ls [.ref q])) : vx_W p l e R s m args below meth c H locs cells slots Q (F0 m pc ls rest) q := by
  intro T hT X
  have hpl : e.platform.magicAccessors = ({} : Platform).magicAccessors := by rw [X.admits.platform]
  obtain ⟨c3, c4, hc3, hc4, hasg⟩ := Cond.castable_spec hcast
  cases Option.some.inj (hc3.symm.trans hcl)
  obtain ⟨c5, hc5, hcl5⟩ := Cond.classLink_spec hown hlink e.platform hpl
  cases Option.some.inj (hc4.symm.trans hc5)
  obtain ⟨vm', X', st⟩ := X.thenCaughtThrough q (g := F0 m pc ls rest) rfl (Steps.refl _) (by rw [hT]; exact hcell) (by rw [hv]; rfl) (by obtain ⟨k9, h9, -⟩ := Vm.findClass_spec hcl; exact ⟨k9, h9⟩) pre x suf hsplit
    (fun z hz => by
      rcases hpass z hz with h | ⟨hz0, nm, hl1, hn1⟩
      · exact Or.inl h
      · obtain ⟨c6, hc6, hcl6⟩ := Cond.classLink_spec hown hl1 e.platform hpl
        obtain ⟨a8, b8, h1, h2, h3⟩ := hn1
        cases Option.some.inj (h1.symm.trans hcl)
        cases Option.some.inj (h2.symm.trans hc6)
        exact Or.inr ⟨hz0, _, hcl6, h3⟩) hx (Or.inr ⟨h0, c4, hcl5, hasg⟩)
  obtain ⟨t, a1, b1⟩ := kk (T.setVm vm') hT X'
  exact ⟨t, st.trans a1, b1⟩
end Rows
section Ends
variable {p : Program} {l : Launch} {e : Env} {R : Room} {s : State} {m : MethodId} {args : Array Value} {below : List Frame} {meth : Method} {c : Code} {H : Heap} {locs : List Loc} {cells slots : Nat} {Q : State → Prop}
variable {mc ms : Nat} {free : Addr → Prop} {A0 A1 : Nat → Prop} {H0 : Heap} {a : Array Value} {ls : Array Slot} {st0 rest : List Value}
variable {Qc : Array Value → State → Outcome → State → Prop} {XC : String → State → State → Prop}
/-- what a body that may throw owes at its end -/
def vx_MQ (below : List Frame) (Qc : Array Value → State → Outcome → State → Prop) (XC : String → State → State → Prop) (a : Array Value) (s : State) (mc ms : Nat) (free : Addr → Prop) : State → Prop := fun t =>
  ∃ o, t.status = .running ∧ Ended t below o ∧ vx_Q Qc XC mc ms free a s o t
theorem vx_ret {g : JFrame} {mc ms : Nat} (k : W p l e R s m args below meth c H locs cells slots (MQ below Qc args s mc ms free) g) : W p l e R s m args below meth c H locs cells slots (vx_MQ below Qc XC args s mc ms free) g := by
  intro T hT X
  obtain ⟨t, a1, o, b1, b2, b3, b4⟩ := k T hT X
  exact ⟨t, a1, o, b1, b2, Or.inl ⟨b3, b4⟩⟩
/-- not caught here: it goes on to the caller -/
theorem vx_widen {g : JFrame} {q : Addr} {k n : Nat} (h1 : cells ≤ k) (h2 : slots ≤ n) (kk : vx_W p l e R s m args below meth c H locs k n Q g q) : vx_W p l e R s m args below meth c H locs cells slots Q g q := fun T hT X => kk T hT (stand_widen X h1 h2)
theorem vx_out {pc : Nat} {E : String} {ce : Cell} {q : Addr} {mc ms : Nat} (hout : ∀ x ∈ c.exceptionTable.toList, covers x pc = false) (hlocks : meth.locks = false) (hcell : H[q]? = some ce) (hv : ce.vm = .none) (hcl : s.vm.findClass E = some ce.cls)
    (hx : ∀ t : State, t.heap = H → s.vm.Alike t.vm → XC E s t) (hf : ∀ z ∈ locs, free z.base) (hc : cells ≤ mc) (hs : slots ≤ ms) :
    vx_W p l e R s m args below meth c H locs cells slots (vx_MQ below Qc XC args s mc ms free) (F0 m pc ls rest) q := by
  intro T hT X
  obtain ⟨st1, hrun, hend, hW, hsm⟩ := X.leaveThrown q (g := F0 m pc ls rest) rfl rfl rfl hout hlocks
  have hcell9 : (T.setFrames (.throwing q :: below)).heap[q]? = some ce := by
    show T.heap[q]? = some ce
    rw [hT]; exact hcell
  exact ⟨_, st1, .threw q, hrun, hend, Or.inr ⟨q, rfl, E, ce, locs, hx _ hT hW.alike, hcell9, hv, hcl, hW, hsm.mono hc hs, hf⟩⟩
theorem vx_frame {U : State} {k n : Nat} (h : s.sameButNew ({ U with vm := s.vm } : State) locs k n) : s.heap.size ≤ U.heap.size ∧ ∀ q : Nat, q < s.heap.size → (∀ z ∈ locs, z.base ≠ q) → U.heap[q]? = s.heap[q]? := by
  obtain ⟨-, h2, -, -, -, h6⟩ := h
  refine ⟨h2, fun q hq hz => ?_⟩
  obtain ⟨c9, e1, e2, e3, e4⟩ := h6 q _ (Array.getElem?_eq_getElem hq)
  have hs : c9.slots = (s.heap[q]).slots := Array.ext_getElem? fun i => e4 i fun hm => hz _ hm rfl
  have h9 : c9 = s.heap[q] := by
    rw [hs] at e2
    exact e2
  have e5 : U.heap[q]? = some c9 := e1
  rw [e5, h9, Array.getElem?_eq_getElem hq]
/-- the words of a throw but the four that speak of the heap -/
def vx_no (w : Cond) : Bool := decide (w ≠ .isRef (.static Bundle.tN "UNASSIGNED_STACK" Bundle.steD)) && decide (w ≠ .isRef (.static Bundle.tN "SUPPRESSED_SENTINEL" Bundle.listD)) && decide (w ≠ .laysStatic Bundle.tN "UNASSIGNED_STACK" Bundle.steD) && decide (w ≠ .laysStatic Bundle.tN "SUPPRESSED_SENTINEL" Bundle.listD)
def vx_at0 (own : String) (ic : Nat) (X : String) (names : List String) : List Cond := (Bundle.ownAtoms0 own ic X names).filter vx_no
def vx_atS (own : String) (ic : Nat) (X : String) (names : List String) : List Cond := (Bundle.ownAtoms own ic X names).filter vx_no
/-- a word that the tables alone decide, or a good one -/
def vx_ot (w : Cond) : Bool := w.onTables || goodWord w
theorem vx_ot_at {args a' : Array Value} {s U : State} {w : Cond} (hW : s.WarmedH U.vm) (hvm : s.vm = U.vm) (hg : vx_ot w = true) (h : w.before args s = true) : w.before a' U = true := by
  simp only [vx_ot, Bool.or_eq_true] at hg
  rcases hg with hg | hg
  · exact va_tabs hg hvm h
  · exact word_at hW (good_of_word hg) h
/-- a list's words: the good ones out of the method's own list, the others by premises of their own -/
theorem vx_hat {args : Array Value} {s : State} {L B : List Cond} (h1 : ∀ w ∈ L.filter goodWord, w.before args s = true) (h2 : ∀ w ∈ L.filter (fun w => !goodWord w), w ∈ B) (h3 : ∀ w ∈ B, w.before args s = true) : ∀ w ∈ L, w.before args s = true := by
  intro w hw
  by_cases g : goodWord w = true
  · exact h1 w (List.mem_filter.mpr ⟨hw, g⟩)
  · refine h3 w (h2 w (List.mem_filter.mpr ⟨hw, ?_⟩))
    show (!goodWord w) = true
    cases hgw : goodWord w
    · rfl
    · exact absurd hgw g
theorem vx_c {args : Array Value} {s : State} {w : Cond} {B : List Cond} (h : w.before args s = true) (t : ∀ w ∈ B, w.before args s = true) : ∀ w' ∈ w :: B, w'.before args s = true := fun w' h' => (List.mem_cons.mp h').elim (fun e => by rw [e]; exact h) (t w')
theorem vx_n {args : Array Value} {s : State} : ∀ w ∈ ([] : List Cond), w.before args s = true := fun _ h => nomatch h
theorem vx_own {args : Array Value} {s : State} {L : List Cond} (h1 : ∀ w ∈ L.filter vx_no, w.before args s = true)
    (hU : (Cond.isRef (.static Bundle.tN "UNASSIGNED_STACK" Bundle.steD)).before args s = true) (hN : (Cond.isRef (.static Bundle.tN "SUPPRESSED_SENTINEL" Bundle.listD)).before args s = true)
    (lU : (Cond.laysStatic Bundle.tN "UNASSIGNED_STACK" Bundle.steD).before args s = true) (lN : (Cond.laysStatic Bundle.tN "SUPPRESSED_SENTINEL" Bundle.listD).before args s = true) : ∀ w ∈ L, w.before args s = true := by
  intro w hw
  by_cases e1 : w = .isRef (.static Bundle.tN "UNASSIGNED_STACK" Bundle.steD)
  · rw [e1]; exact hU
  · by_cases e2 : w = .isRef (.static Bundle.tN "SUPPRESSED_SENTINEL" Bundle.listD)
    · rw [e2]; exact hN
    · by_cases e3 : w = .laysStatic Bundle.tN "UNASSIGNED_STACK" Bundle.steD
      · rw [e3]; exact lU
      · by_cases e4 : w = .laysStatic Bundle.tN "SUPPRESSED_SENTINEL" Bundle.listD
        · rw [e4]; exact lN
        · exact h1 w (List.mem_filter.mpr ⟨hw, by unfold vx_no; rw [decide_eq_true e1, decide_eq_true e2, decide_eq_true e3, decide_eq_true e4]; rfl⟩)
/-- where a static field lies, its class's statics cell in H -/
def vx_L (C n d : String) (A : Nat → Prop) (U : State) (H : Heap) : Prop := ∃ (c : ClassId) (k : Class) (i : Nat) (f : Field) (a : Nat) (cell : Cell), U.vm.findClass C = some c ∧ U.fieldFound? C n d = some (c, k, i, f) ∧ f.isStatic = true ∧ k.statics = some a ∧ H[a]? = some cell ∧ cell.vm.isStatics = true ∧ cell.cls = c ∧ f.slot < cell.slots.size ∧ k.staticTypes[f.slot]? = some f.type ∧ ¬ A a
theorem vx_L.moved {C n d : String} {A : Nat → Prop} {u U : State} {H : Heap} (hvm : u.vm.Alike U.vm) (h : vx_L C n d A u H) : vx_L C n d A U H := by
  obtain ⟨c, k, i, f, a, cell, h1, h2, h3, h4, h5, h6, h7, h8, h9, h10⟩ := h
  obtain ⟨k', hi', he⟩ := State.fieldFound?_setVm hvm h2
  exact ⟨c, k', i, f, a, cell, by rw [hvm.findClass]; exact h1, hi', h3, by rw [he]; exact h4, h5, h6, h7, h8, by rw [he]; exact h9, h10⟩
theorem vx_L.kept {C n d : String} {A : Nat → Prop} {U : State} {H H1 : Heap} (h : vx_L C n d A U H) (hq : ∀ a : Nat, a < H.size → ¬ A a → H1[a]? = H[a]?) : vx_L C n d A U H1 := by
  obtain ⟨c, k, i, f, a, cell, h1, h2, h3, h4, h5, h6, h7, h8, h9, h10⟩ := h
  exact ⟨c, k, i, f, a, cell, h1, h2, h3, h4, by rw [hq a (Array.getElem?_eq_some_iff.mp h5).1 h10]; exact h5, h6, h7, h8, h9, h10⟩
theorem vx_L.narrow {C n d : String} {A B : Nat → Prop} {U : State} {H : Heap} (h : vx_L C n d A U H) (hAB : ∀ q, B q → A q) : vx_L C n d B U H := by
  obtain ⟨c, k, i, f, a, cell, h1, h2, h3, h4, h5, h6, h7, h8, h9, h10⟩ := h
  exact ⟨c, k, i, f, a, cell, h1, h2, h3, h4, h5, h6, h7, h8, h9, fun z => h10 (hAB _ z)⟩
theorem vx_L.word {C n d : String} {A : Nat → Prop} {s : State} {args : Array Value} (h : vx_L C n d A s s.heap) : (Cond.laysStatic C n d).before args s = true := by
  obtain ⟨c, k, i, f, a, cell, h1, h2, h3, h4, h5, h6, h7, h8, h9, -⟩ := h
  show (Cond.laysStatic C n d).holds args s none s [] = true
  exact Cond.laysStatic_of h1 h2 h3 h4 h5 h6 h7 h8 h9
/-- .. and what it holds: null or some reference -/
def vx_Zq (C n d : String) (A : Nat → Prop) (U : State) (H : Heap) : Prop := va_Zq C n d A U H ∧ vx_L C n d A U H
theorem vx_Zq.moved {C n d : String} {A : Nat → Prop} {u U : State} {H : Heap} (hvm : u.vm.Alike U.vm) (h : vx_Zq C n d A u H) : vx_Zq C n d A U H := ⟨va_Zq.moved hvm h.1, vx_L.moved hvm h.2⟩
theorem vx_Zq.kept {C n d : String} {A : Nat → Prop} {U : State} {H H1 : Heap} (h : vx_Zq C n d A U H) (hq : ∀ a : Nat, a < H.size → ¬ A a → H1[a]? = H[a]?) : vx_Zq C n d A U H1 := ⟨va_Zq.kept h.1 hq, vx_L.kept h.2 hq⟩
theorem vx_Zq.narrow {C n d : String} {A B : Nat → Prop} {U : State} {H : Heap} (h : vx_Zq C n d A U H) (hAB : ∀ q, B q → A q) : vx_Zq C n d B U H := ⟨va_Zq.narrow h.1 hAB, vx_L.narrow h.2 hAB⟩
theorem vx_Zqof {args : Array Value} {s : State} {C n d : String} {A : Nat → Prop} (hl : (Cond.laysStatic C n d).before args s = true) (hini : (Cond.initialized C).before args s = true) (h : (Cond.isRef (.static C n d)).before args s = true) (hA : ∀ a : Nat, a < s.heap.size → ¬ A a) : vx_Zq C n d A s s.heap := by
  refine ⟨va_Zqof hl hini h hA, ?_⟩
  obtain ⟨c, k, i, f, a, cell, h1, h2, h3, h4, h5, h6, h7, h8, h9⟩ := Cond.laysStatic_spec hl
  exact ⟨c, k, i, f, a, cell, h1, h2, h3, h4, h5, h6, h7, h8, h9, hA a (Array.getElem?_eq_some_iff.mp h5).1⟩
theorem vx_isRef {C n d : String} {v : Value} {A : Nat → Prop} {s : State} {args : Array Value} (h : va_Z C n d v A s s.heap) (hv : v.isRef = true) : (Cond.isRef (.static C n d)).before args s = true := by
  obtain ⟨cf, kf, fi, f, a, cell, h1, h2, h3, h4, h5, h6, h7, -⟩ := h
  have he : (Term.static C n d).eval args s none [] s = some v := by
    simp [Term.eval, State.fieldNamed?, h1, h2, h4, h5, h6, h7]
  simp only [Cond.before, Cond.holds, Cond.value, he]
  cases v <;> simp_all [Value.isRef]
theorem vx_isRefq {C n d : String} {A : Nat → Prop} {s : State} {args : Array Value} (h : va_Zq C n d A s s.heap) : (Cond.isRef (.static C n d)).before args s = true := by
  rcases h with h | ⟨t, h⟩
  · exact vx_isRef h rfl
  · exact vx_isRef h rfl
/-- the same frame, seen from here: as if the method were called anew in this heap -/
theorem vx_rebase {T : State} (X : Stand p l e R s m args below meth c T locs cells slots) {R' : Room} (hf : R'.frames ≤ R.frames) (hl : R'.locals ≤ R.locals) (hc : cells + R'.cells ≤ R.cells) (hs : slots + R'.slots ≤ R.slots) :
    Stand p l e R' ((T.setVm s.vm).setFrames (.invoking m args :: below)) m args below meth c T [] 0 0 := by
  have htop : (T.setVm s.vm).topJava?.isSome := X.here.top
  have hF : ((T.setVm s.vm).setFrames (.invoking m args :: below)).frames = .invoking m args :: below := State.frames_setFrames _ (State.cur_lt_of_top htop)
  obtain ⟨g₀, hg0⟩ := Option.isSome_iff_exists.mp htop
  obtain ⟨r, hr⟩ := State.topJava?_eq_some.mp hg0
  have hl9 : e.platform.stackLimits (T.setVm s.vm).me = e.platform.stackLimits s.me := X.limits
  have hb9 : (T.setVm s.vm).me.stackBytes = s.me.stackBytes := X.bytes
  refine ⟨X.admits, X.cas, X.clock, hF, ?_, X.hears, X.method, X.code, X.here, X.tail, X.warmed, ?_, ?_, ?_⟩
  · have h := X.room
    have hU : ((T.setVm s.vm).setFrames (.invoking m args :: below)).localsInUse = s.localsInUse := by
      rw [State.localsInUse_invoking hF (meth := meth) (c := c) X.method X.code, State.localsInUse_invoking X.frames X.method X.code]
    simp only [State.hasRoom, Bool.and_eq_true, decide_eq_true_eq] at h ⊢
    obtain ⟨⟨⟨⟨h1, h2, h3, h4, h5, h6⟩, h7⟩, h8⟩, h9⟩ := h
    rw [X.frames, List.length_cons] at h2 h3
    have q1 := X.heapSize
    have q2 := X.used
    simp only [hF, hU, List.length_cons, State.stackLimits_setFrames, State.stackBytes_setFrames, hl9, hb9]
    refine ⟨⟨⟨⟨by omega, by omega, by omega, by omega, by omega, h6⟩, ?_⟩, ?_⟩, X.book⟩
    · show T.heap.size + R'.cells ≤ e.platform.maxCells
      omega
    · show T.slotsUsed + R'.slots ≤ e.platform.maxSlots
      omega
  · rw [State.stackLimits_setFrames]; rfl
  · rw [State.stackBytes_setFrames]; rfl
  · refine ⟨?_, Nat.le_refl _, Nat.le_refl _, ?_, ?_, fun a c9 h9 => ⟨c9, h9, rfl, rfl, fun _ _ => rfl⟩⟩
    · obtain ⟨t, ht, -⟩ := State.frames_cons hr
      show T.setVm s.vm = { ((T.setVm s.vm).setFrames (.invoking m args :: below)).setFrames (T.setVm s.vm).frames with heap := T.heap, slotsUsed := T.slotsUsed }
      rw [State.setFrames_setFrames, State.setFrames_self ht]
      rfl
    · show T.slotsUsed = T.slotsUsed + ((T.heap.toList.drop T.heap.size).map (·.slots.size)).sum
      rw [List.drop_eq_nil_of_le (Nat.le_of_eq Array.length_toList)]
      rfl
    · show ((T.heap.toList.drop T.heap.size).map (·.slots.size)).sum ≤ 0
      rw [List.drop_eq_nil_of_le (Nat.le_of_eq Array.length_toList)]
      exact Nat.le_refl _
/-- 'throw new E()': new; dup; invokespecial; athrow -/
theorem vx_throw0 {cc : ByteArray} {pc : Nat} (hexec : p.tables.exec = Jvm.exec) (hb : c.code = cc) (hl : l.stackTraces = false) {own cls : String} {names : List String} {ik ic mc ms : Nat} {A : Nat → Prop}
    (hown : s.vm.findClass own = some m.cls) (hcls : Bundle.fit cls = true) (hnames : ∀ n ∈ names, Bundle.fit n = true)
    (hk : (Cond.classLink own ik cls).before args s = true) (hini : (Cond.initialized cls).before args s = true) (hat : ∀ w ∈ vx_at0 own ic cls names, w.before args s = true)
    (hgood : ∀ w ∈ Cond.classLink own ik cls :: Cond.initialized cls :: vx_at0 own ic cls names, vx_ot w = true)
    (hU : vx_Zq Bundle.tN "UNASSIGNED_STACK" Bundle.steD A s s.heap) (hN : vx_Zq Bundle.tN "SUPPRESSED_SENTINEL" Bundle.listD A s s.heap) (hS : va_S A s.heap H locs) (hsize : ls.size = c.maxLocals)
    (d0 : decode cc pc = .ok (.new ik, 3)) (d3 : decode cc (pc + 3) = .ok (.dup, 1)) (d4 : decode cc (pc + 4) = .ok (.invokespecial ic, 3)) (d7 : decode cc (pc + 7) = .ok (.athrow, 1))
    (hout : ∀ x ∈ c.exceptionTable.toList, covers x (pc + 7) = false)
    (hRframes : names.length + 3 < R.frames) (hRlocals : (rest.map fun v => v.category).sum + (13 * (names.length + 1) + 42) ≤ R.locals) (hRcells : cells + 1 ≤ R.cells) (hRslots : slots + 6 ≤ R.slots) (hlocks : meth.locks = false)
    (hx : ∀ t : State, s.vm.Alike t.vm → H.size ≤ t.heap.size → (∀ q : Nat, q < H.size → t.heap[q]? = H[q]?) → XC cls s t)
    (hf : ∀ z ∈ locs, free z.base) (hc : cells + 1 ≤ mc) (hs : slots + 6 ≤ ms) :
    W p l e R s m args below meth c H locs cells slots (vx_MQ below Qc XC args s mc ms free) (F0 m pc ls rest) := by
  intro T hT X
  have htr : e.platform.stackTraces = false := (show e.platform.stackTraces = l.stackTraces by rw [X.admits.platform]).trans hl
  have Y := vx_rebase X (R' := { frames := R.frames, locals := R.locals, cells := 1, slots := 6 }) (Nat.le_refl _) (Nat.le_refl _) hRcells hRslots
  obtain ⟨s', hA⟩ : ∃ z, z = (T.setVm s.vm).setFrames (.invoking m args :: below) := ⟨_, rfl⟩
  rw [← hA] at Y
  have hvm : s'.vm = s.vm := by rw [hA]; rfl
  have hhp : s'.heap = H := by rw [hA]; exact hT
  have hW0 : s.WarmedH s'.vm := by rw [hvm]; exact State.WarmedH.refl s
  have hat' : ∀ w ∈ vx_at0 own ic cls names, w.before args s' = true := fun w hw => vx_ot_at hW0 hvm.symm (hgood w (List.mem_cons_of_mem _ (List.mem_cons_of_mem _ hw))) (hat w hw)
  have hk' : (Cond.classLink own ik cls).before args s' = true := vx_ot_at hW0 hvm.symm (hgood _ List.mem_cons_self) hk
  have hini' : (Cond.initialized cls).before args s' = true := vx_ot_at hW0 hvm.symm (hgood _ (List.mem_cons_of_mem _ List.mem_cons_self)) hini
  have hU' : vx_Zq Bundle.tN "UNASSIGNED_STACK" Bundle.steD A s' s'.heap := by rw [hhp]; exact vx_Zq.moved hW0.alike (hU.kept hS.2.1)
  have hN' : vx_Zq Bundle.tN "SUPPRESSED_SENTINEL" Bundle.listD A s' s'.heap := by rw [hhp]; exact vx_Zq.moved hW0.alike (hN.kept hS.2.1)
  have h : ∀ w ∈ Bundle.ownAtoms0 own ic cls names, w.before args s' = true := vx_own hat' (vx_isRefq hU'.1) (vx_isRefq hN'.1) hU'.2.word hN'.2.word
  have hown' : s'.vm.findClass own = some m.cls := by rw [hvm]; exact hown
  have hins : (Cond.instantiable cls 6).before args s' = true := h _ (by simp [Bundle.ownAtoms0])
  obtain ⟨vm₁, cX, kX, hfX, hkX, -, -, X₁, st1⟩ := Y.newCold hexec (own := own) (C := cls) (index := ik) (n := 6) hown' hk' hins hini'
    (g := F0 m pc ls rest) rfl (by rw [hb]; exact d0) (Nat.le_refl _) (Nat.le_refl _)
  generalize hT1 : (T.setVm vm₁).pushCell { cls := cX, slots := kX.instanceTypes.map defaultValue, vm := .none } = T1 at X₁ st1
  have hcat : (Value.ref T.heap.size).category = 1 := rfl
  have hcellA : T1.heap[T.heap.size]? = some (freshCell cX kX) := by rw [← hT1]; exact State.heap_pushCell_size _ _
  have d3' : decode c.code (pc + 3) = .ok (.dup, 1) := by rw [hb]; exact d3
  obtain ⟨U, hsteps, hrun, hend, hW, hsame, ce, hce, hO⟩ := X₁.ctorThrow0 hexec htr (own := own) (cls := cls) (names := names) (ic := ic) hown' hcls hnames h (fun x hx => nomatch hx) hfX hkX hcellA (by rw [hhp, hT]; exact Nat.le_refl _)
    (g := { method := m, pc := pc + 4, locals := ls, stack := .ref T.heap.size :: .ref T.heap.size :: rest, locked := none }) rfl hsize rfl rfl (rest := rest) rfl
    (by rw [hb]; exact d4) (by rw [hb]; exact d7) hout hRframes (by simp only [List.map_cons, List.sum_cons, hcat]; omega) hlocks
  obtain ⟨f1, f2⟩ := vx_frame hsame
  rw [hhp] at f1 f2
  have hWs : s.WarmedH U.vm := State.WarmedH.trans hW0 hW
  have hcl : s.vm.findClass cls = some ce.cls := by
    have h9 := hO.cls
    rw [hvm] at h9
    exact h9
  have hall : s.sameButNew ({ U with vm := s.vm } : State) locs mc ms := by
    subst hA
    obtain ⟨e1, e2⟩ := hsame
    rw [State.setFrames_setFrames] at e1
    have h2 : (T.setVm s.vm).sameButNew ({ U with vm := s.vm } : State) [] (0 + 1) (0 + 6) := ⟨e1, e2⟩
    have h3 := X.same.trans h2
    rw [List.append_nil] at h3
    exact h3.mono hc hs
  refine ⟨U, ?_, .threw T.heap.size, hrun, hend, Or.inr ⟨T.heap.size, rfl, cls, ce, locs, hx U hWs.alike f1 (fun q hq => f2 q hq (fun z hz => nomatch hz)), hce, hO.vm, hcl, hWs, hall, hf⟩⟩
  refine st1 _ ?_
  show Steps p.tables e below (T1.setTop { method := m, pc := pc + 3, locals := ls, stack := .ref T.heap.size :: rest, locked := none }) _
  jvm_step X₁.here [X₁.here.top, hexec, d3', Value.category]
  exact hsteps
/-- 'throw new E("text")': new; dup; ldc; invokespecial; athrow -/
theorem vx_throwS {cc : ByteArray} {pc : Nat} (hexec : p.tables.exec = Jvm.exec) (hb : c.code = cc) (hl : l.stackTraces = false) {own cls text : String} {names : List String} {ik is ic mc ms sa : Nat} {A : Nat → Prop}
    (hown : s.vm.findClass own = some m.cls) (hcls : Bundle.fit cls = true) (hnames : ∀ n ∈ names, Bundle.fit n = true)
    (hk : (Cond.classLink own ik cls).before args s = true) (hini : (Cond.initialized cls).before args s = true) (hstr : vk_R own is text sa s) (hat : ∀ w ∈ vx_atS own ic cls names, w.before args s = true)
    (hgood : ∀ w ∈ Cond.classLink own ik cls :: Cond.initialized cls :: vx_atS own ic cls names, vx_ot w = true)
    (hU : vx_Zq Bundle.tN "UNASSIGNED_STACK" Bundle.steD A s s.heap) (hN : vx_Zq Bundle.tN "SUPPRESSED_SENTINEL" Bundle.listD A s s.heap) (hS : va_S A s.heap H locs) (hsize : ls.size = c.maxLocals)
    (d0 : decode cc pc = .ok (.new ik, 3)) (d3 : decode cc (pc + 3) = .ok (.dup, 1)) (d4 : decode cc (pc + 4) = .ok (.ldc is, 2)) (d6 : decode cc (pc + 6) = .ok (.invokespecial ic, 3)) (d9 : decode cc (pc + 9) = .ok (.athrow, 1))
    (hout : ∀ x ∈ c.exceptionTable.toList, covers x (pc + 9) = false)
    (hRframes : names.length + 3 < R.frames) (hRlocals : (rest.map fun v => v.category).sum + (13 * (names.length + 1) + 43) ≤ R.locals) (hRcells : cells + 1 ≤ R.cells) (hRslots : slots + 6 ≤ R.slots) (hlocks : meth.locks = false)
    (hx : ∀ t : State, s.vm.Alike t.vm → H.size ≤ t.heap.size → (∀ q : Nat, q < H.size → t.heap[q]? = H[q]?) → XC cls s t)
    (hf : ∀ z ∈ locs, free z.base) (hc : cells + 1 ≤ mc) (hs : slots + 6 ≤ ms) :
    W p l e R s m args below meth c H locs cells slots (vx_MQ below Qc XC args s mc ms free) (F0 m pc ls rest) := by
  intro T hT X
  have htr : e.platform.stackTraces = false := (show e.platform.stackTraces = l.stackTraces by rw [X.admits.platform]).trans hl
  have Y := vx_rebase X (R' := { frames := R.frames, locals := R.locals, cells := 1, slots := 6 }) (Nat.le_refl _) (Nat.le_refl _) hRcells hRslots
  obtain ⟨s', hA⟩ : ∃ z, z = (T.setVm s.vm).setFrames (.invoking m args :: below) := ⟨_, rfl⟩
  rw [← hA] at Y
  have hvm : s'.vm = s.vm := by rw [hA]; rfl
  have hhp : s'.heap = H := by rw [hA]; exact hT
  have hW0 : s.WarmedH s'.vm := by rw [hvm]; exact State.WarmedH.refl s
  have hat' : ∀ w ∈ vx_atS own ic cls names, w.before args s' = true := fun w hw => vx_ot_at hW0 hvm.symm (hgood w (List.mem_cons_of_mem _ (List.mem_cons_of_mem _ hw))) (hat w hw)
  have hk' : (Cond.classLink own ik cls).before args s' = true := vx_ot_at hW0 hvm.symm (hgood _ List.mem_cons_self) hk
  have hini' : (Cond.initialized cls).before args s' = true := vx_ot_at hW0 hvm.symm (hgood _ (List.mem_cons_of_mem _ List.mem_cons_self)) hini
  have hU' : vx_Zq Bundle.tN "UNASSIGNED_STACK" Bundle.steD A s' s'.heap := by rw [hhp]; exact vx_Zq.moved hW0.alike (hU.kept hS.2.1)
  have hN' : vx_Zq Bundle.tN "SUPPRESSED_SENTINEL" Bundle.listD A s' s'.heap := by rw [hhp]; exact vx_Zq.moved hW0.alike (hN.kept hS.2.1)
  have h : ∀ w ∈ Bundle.ownAtoms own ic cls names, w.before args s' = true := vx_own hat' (vx_isRefq hU'.1) (vx_isRefq hN'.1) hU'.2.word hN'.2.word
  have hown' : s'.vm.findClass own = some m.cls := by rw [hvm]; exact hown
  have hins : (Cond.instantiable cls 6).before args s' = true := h _ (by simp [Bundle.ownAtoms])
  obtain ⟨vm₁, cX, kX, hfX, hkX, -, -, X₁, st1⟩ := Y.newCold hexec (own := own) (C := cls) (index := ik) (n := 6) hown' hk' hins hini'
    (g := F0 m pc ls rest) rfl (by rw [hb]; exact d0) (Nat.le_refl _) (Nat.le_refl _)
  generalize hT1 : (T.setVm vm₁).pushCell { cls := cX, slots := kX.instanceTypes.map defaultValue, vm := .none } = T1 at X₁ st1
  have hcat : (Value.ref T.heap.size).category = 1 := rfl
  have hcellA : T1.heap[T.heap.size]? = some (freshCell cX kX) := by rw [← hT1]; exact State.heap_pushCell_size _ _
  have d3' : decode c.code (pc + 3) = .ok (.dup, 1) := by rw [hb]; exact d3
  have d4' : decode c.code (pc + 4) = .ok (.ldc is, 2) := by rw [hb]; exact d4
  have hstr' : vk_R own is text sa s' := vk_R.warm hW0 hstr
  obtain ⟨U, hsteps, hrun, hend, hW, hsame, ce, hce, hO⟩ := X₁.ctorThrowS hexec htr (own := own) (cls := cls) (names := names) (ic := ic) hown' hcls hnames h (fun x hx => nomatch hx) hfX hkX hcellA (by rw [hhp, hT]; exact Nat.le_refl _) (msg := .ref sa) rfl
    (g := { method := m, pc := pc + 6, locals := ls, stack := .ref sa :: .ref T.heap.size :: .ref T.heap.size :: rest, locked := none }) rfl hsize rfl rfl (rest := rest) rfl
    (by rw [hb]; exact d6) (by rw [hb]; exact d9) hout hRframes (by simp only [List.map_cons, List.sum_cons, hcat]; omega) hlocks
  obtain ⟨f1, f2⟩ := vx_frame hsame
  rw [hhp] at f1 f2
  have hWs : s.WarmedH U.vm := State.WarmedH.trans hW0 hW
  have hcl : s.vm.findClass cls = some ce.cls := by
    have h9 := hO.cls
    rw [hvm] at h9
    exact h9
  have hall : s.sameButNew ({ U with vm := s.vm } : State) locs mc ms := by
    subst hA
    obtain ⟨e1, e2⟩ := hsame
    rw [State.setFrames_setFrames] at e1
    have h2 : (T.setVm s.vm).sameButNew ({ U with vm := s.vm } : State) [] (0 + 1) (0 + 6) := ⟨e1, e2⟩
    have h3 := X.same.trans h2
    rw [List.append_nil] at h3
    exact h3.mono hc hs
  refine ⟨U, ?_, .threw T.heap.size, hrun, hend, Or.inr ⟨T.heap.size, rfl, cls, ce, locs, hx U hWs.alike f1 (fun q hq => f2 q hq (fun z hz => nomatch hz)), hce, hO.vm, hcl, hWs, hall, hf⟩⟩
  refine st1 _ ?_
  show Steps p.tables e below (T1.setTop { method := m, pc := pc + 3, locals := ls, stack := .ref T.heap.size :: rest, locked := none }) _
  jvm_step X₁.here [X₁.here.top, hexec, d3', Value.category]
  exact X₁.ldcString hexec (own := own) (text := text) (index := is) (a := sa) hown' hstr'.1 hstr'.2
    (g := { method := m, pc := pc + 4, locals := ls, stack := .ref T.heap.size :: .ref T.heap.size :: rest, locked := none }) rfl d4' _ hsteps
/-- 'throw new E("text")', the text by a wide index -/
theorem vx_throwSW {cc : ByteArray} {pc : Nat} (hexec : p.tables.exec = Jvm.exec) (hb : c.code = cc) (hl : l.stackTraces = false) {own cls text : String} {names : List String} {ik is ic mc ms sa : Nat} {A : Nat → Prop}
    (hown : s.vm.findClass own = some m.cls) (hcls : Bundle.fit cls = true) (hnames : ∀ n ∈ names, Bundle.fit n = true)
    (hk : (Cond.classLink own ik cls).before args s = true) (hini : (Cond.initialized cls).before args s = true) (hstr : vk_R own is text sa s) (hat : ∀ w ∈ vx_atS own ic cls names, w.before args s = true)
    (hgood : ∀ w ∈ Cond.classLink own ik cls :: Cond.initialized cls :: vx_atS own ic cls names, vx_ot w = true)
    (hU : vx_Zq Bundle.tN "UNASSIGNED_STACK" Bundle.steD A s s.heap) (hN : vx_Zq Bundle.tN "SUPPRESSED_SENTINEL" Bundle.listD A s s.heap) (hS : va_S A s.heap H locs) (hsize : ls.size = c.maxLocals)
    (d0 : decode cc pc = .ok (.new ik, 3)) (d3 : decode cc (pc + 3) = .ok (.dup, 1)) (d4 : decode cc (pc + 4) = .ok (.ldc_w is, 3)) (d7 : decode cc (pc + 7) = .ok (.invokespecial ic, 3)) (d10 : decode cc (pc + 10) = .ok (.athrow, 1))
    (hout : ∀ x ∈ c.exceptionTable.toList, covers x (pc + 10) = false)
    (hRframes : names.length + 3 < R.frames) (hRlocals : (rest.map fun v => v.category).sum + (13 * (names.length + 1) + 43) ≤ R.locals) (hRcells : cells + 1 ≤ R.cells) (hRslots : slots + 6 ≤ R.slots) (hlocks : meth.locks = false)
    (hx : ∀ t : State, s.vm.Alike t.vm → H.size ≤ t.heap.size → (∀ q : Nat, q < H.size → t.heap[q]? = H[q]?) → XC cls s t)
    (hf : ∀ z ∈ locs, free z.base) (hc : cells + 1 ≤ mc) (hs : slots + 6 ≤ ms) :
    W p l e R s m args below meth c H locs cells slots (vx_MQ below Qc XC args s mc ms free) (F0 m pc ls rest) := by
  intro T hT X
  have htr : e.platform.stackTraces = false := (show e.platform.stackTraces = l.stackTraces by rw [X.admits.platform]).trans hl
  have Y := vx_rebase X (R' := { frames := R.frames, locals := R.locals, cells := 1, slots := 6 }) (Nat.le_refl _) (Nat.le_refl _) hRcells hRslots
  obtain ⟨s', hA⟩ : ∃ z, z = (T.setVm s.vm).setFrames (.invoking m args :: below) := ⟨_, rfl⟩
  rw [← hA] at Y
  have hvm : s'.vm = s.vm := by rw [hA]; rfl
  have hhp : s'.heap = H := by rw [hA]; exact hT
  have hW0 : s.WarmedH s'.vm := by rw [hvm]; exact State.WarmedH.refl s
  have hat' : ∀ w ∈ vx_atS own ic cls names, w.before args s' = true := fun w hw => vx_ot_at hW0 hvm.symm (hgood w (List.mem_cons_of_mem _ (List.mem_cons_of_mem _ hw))) (hat w hw)
  have hk' : (Cond.classLink own ik cls).before args s' = true := vx_ot_at hW0 hvm.symm (hgood _ List.mem_cons_self) hk
  have hini' : (Cond.initialized cls).before args s' = true := vx_ot_at hW0 hvm.symm (hgood _ (List.mem_cons_of_mem _ List.mem_cons_self)) hini
  have hU' : vx_Zq Bundle.tN "UNASSIGNED_STACK" Bundle.steD A s' s'.heap := by rw [hhp]; exact vx_Zq.moved hW0.alike (hU.kept hS.2.1)
  have hN' : vx_Zq Bundle.tN "SUPPRESSED_SENTINEL" Bundle.listD A s' s'.heap := by rw [hhp]; exact vx_Zq.moved hW0.alike (hN.kept hS.2.1)
  have h : ∀ w ∈ Bundle.ownAtoms own ic cls names, w.before args s' = true := vx_own hat' (vx_isRefq hU'.1) (vx_isRefq hN'.1) hU'.2.word hN'.2.word
  have hown' : s'.vm.findClass own = some m.cls := by rw [hvm]; exact hown
  have hins : (Cond.instantiable cls 6).before args s' = true := h _ (by simp [Bundle.ownAtoms])
  obtain ⟨vm₁, cX, kX, hfX, hkX, -, -, X₁, st1⟩ := Y.newCold hexec (own := own) (C := cls) (index := ik) (n := 6) hown' hk' hins hini'
    (g := F0 m pc ls rest) rfl (by rw [hb]; exact d0) (Nat.le_refl _) (Nat.le_refl _)
  generalize hT1 : (T.setVm vm₁).pushCell { cls := cX, slots := kX.instanceTypes.map defaultValue, vm := .none } = T1 at X₁ st1
  have hcat : (Value.ref T.heap.size).category = 1 := rfl
  have hcellA : T1.heap[T.heap.size]? = some (freshCell cX kX) := by rw [← hT1]; exact State.heap_pushCell_size _ _
  have d3' : decode c.code (pc + 3) = .ok (.dup, 1) := by rw [hb]; exact d3
  have d4' : decode c.code (pc + 4) = .ok (.ldc_w is, 3) := by rw [hb]; exact d4
  have hstr' : vk_R own is text sa s' := vk_R.warm hW0 hstr
  obtain ⟨U, hsteps, hrun, hend, hW, hsame, ce, hce, hO⟩ := X₁.ctorThrowS hexec htr (own := own) (cls := cls) (names := names) (ic := ic) hown' hcls hnames h (fun x hx => nomatch hx) hfX hkX hcellA (by rw [hhp, hT]; exact Nat.le_refl _) (msg := .ref sa) rfl
    (g := { method := m, pc := pc + 7, locals := ls, stack := .ref sa :: .ref T.heap.size :: .ref T.heap.size :: rest, locked := none }) rfl hsize rfl rfl (rest := rest) rfl
    (by rw [hb]; exact d7) (by rw [hb]; exact d10) hout hRframes (by simp only [List.map_cons, List.sum_cons, hcat]; omega) hlocks
  obtain ⟨f1, f2⟩ := vx_frame hsame
  rw [hhp] at f1 f2
  have hWs : s.WarmedH U.vm := State.WarmedH.trans hW0 hW
  have hcl : s.vm.findClass cls = some ce.cls := by
    have h9 := hO.cls
    rw [hvm] at h9
    exact h9
  have hall : s.sameButNew ({ U with vm := s.vm } : State) locs mc ms := by
    subst hA
    obtain ⟨e1, e2⟩ := hsame
    rw [State.setFrames_setFrames] at e1
    have h2 : (T.setVm s.vm).sameButNew ({ U with vm := s.vm } : State) [] (0 + 1) (0 + 6) := ⟨e1, e2⟩
    have h3 := X.same.trans h2
    rw [List.append_nil] at h3
    exact h3.mono hc hs
  refine ⟨U, ?_, .threw T.heap.size, hrun, hend, Or.inr ⟨T.heap.size, rfl, cls, ce, locs, hx U hWs.alike f1 (fun q hq => f2 q hq (fun z hz => nomatch hz)), hce, hO.vm, hcl, hWs, hall, hf⟩⟩
  refine st1 _ ?_
  show Steps p.tables e below (T1.setTop { method := m, pc := pc + 3, locals := ls, stack := .ref T.heap.size :: rest, locked := none }) _
  jvm_step X₁.here [X₁.here.top, hexec, d3', Value.category]
  exact X₁.ldcStringW hexec (own := own) (text := text) (index := is) (a := sa) hown' hstr'.1 hstr'.2
    (g := { method := m, pc := pc + 4, locals := ls, stack := .ref T.heap.size :: .ref T.heap.size :: rest, locked := none }) rfl d4' _ hsteps
end Ends
section Bodies
variable {l : Launch}
theorem vx_ofW {y : MethodName} {ws ws' : List Cond} {rm : Room} {Pc : Array Value → State → Prop} {Qc : Array Value → State → Outcome → State → Prop} {XC : String → State → State → Prop} {mc ms : Nat} {free : Addr → Prop} {cc : ByteArray} {maxL : Nat} {ret : Option FieldType}
    (hy : plainName y.cls = true) (hw : ws = Cond.code y cc maxL ret :: ws')
    (body : ∀ p e s m args below meth c s₁, BodyLoose p l y (headSpec ws rm) cc maxL ret e s m args below meth c s₁ → c.maxLocals = maxL → (∀ x ∈ c.exceptionTable.toList, False) → Pc args s →
      W p l e (headSpec ws rm).room s m args below meth c s.heap [] 0 0 (vx_MQ below Qc XC args s mc ms free) (entryFrame m args maxL)) : vx_Met l y ws rm Pc Qc XC mc ms free := by
  refine MetFree.of_bodyS (code := cc) (maxLocals := maxL) (ret := ret) hy ?_ ?_
  · intro args s m h hn
    obtain ⟨meth, c, h1, h2, h3, h4, h5, h6, -, -⟩ := Cond.code_spec hn (atoms_spec (ws := ws) h _ (by rw [hw]; exact List.mem_cons_self))
    exact ⟨meth, c, h1, h2, h3, h4, h5, h6⟩
  · intro p e s m args below meth c s₁ B hml hP _
    have hh0 : s₁.heap = s.heap := by rw [B.state]; rfl
    have ht : ∀ x ∈ c.exceptionTable.toList, False := by
      obtain ⟨meth9, c9, h1, h2, -, -, -, -, h7, -⟩ := Cond.code_spec B.named (atoms_spec (ws := ws) B.pre _ (by rw [hw]; exact List.mem_cons_self))
      cases Option.some.inj (h1.symm.trans B.method)
      cases Option.some.inj (h2.symm.trans (Stand.of_body B).code)
      intro x hx
      rw [Array.isEmpty_iff.mp h7] at hx
      cases hx
    obtain ⟨t, a1, o, b1, b2, b3⟩ := body p e s m args below meth c s₁ B hml ht hP s₁ hh0 (Stand.of_body B)
    exact ⟨t, o, a1, b1, b2, b3⟩
/-- the table of a body with handlers -/
theorem vx_table {p : Program} {x y : MethodName} {S : Spec} {cc bytes : ByteArray} {maxL maxL' : Nat} {ret ret' : Option FieldType} {e : Env} {s s₁ : State} {m : MethodId} {args : Array Value} {below : List Frame} {meth : Method} {c : Code} {hh : List (Nat × Nat × Nat × Nat)}
    (B : BodyLoose p l y S cc maxL ret e s m args below meth c s₁) (h : (Cond.codeWith y bytes maxL' ret' hh).before args s = true) : c.exceptionTable.toList = tableOf hh := by
  obtain ⟨m9, meth9, c9, hn9, h1, h2, -, -, h6, -⟩ := Cond.codeWith_spec h
  cases Option.some.inj (hn9.symm.trans B.named)
  cases Option.some.inj (h1.symm.trans B.method)
  cases Option.some.inj (h2.symm.trans (Stand.of_body B).code)
  rw [← h6, table_eq]
end Bodies
end VXA
/-! ===== END ===== -/
/-! ===== BEGIN a static call of a method with an exception table ===== -/
section VXS
variable {p : Program} {l : Launch} {e : Env} {R : Room} {s : State} {m : MethodId} {args : Array Value} {below : List Frame} {meth : Method} {c : Code} {T : State} {H : Heap} {locs : List Loc} {cells slots : Nat}
abbrev vx_CSW (R : Room) (s : State) (args : Array Value) (own : String) (index : Nat) (y : MethodName) (bytes : ByteArray) (maxL : Nat) (ret : Option FieldType) (hh : List (Nat × Nat × Nat × Nat)) (ws : List Cond) (rm : Room) (mc ms n : Nat) : Prop :=
  (rm.cells = mc ∧ rm.slots = ms ∧ rm.frames + 1 ≤ R.frames ∧ 8 + (maxL + 11) + rm.locals ≤ R.locals ∧ (∀ w ∈ ws, ∀ (a' : Array Value) (U : State), s.WarmedH U.vm → w.before a' U = true) ∧ Cond.codeWith y bytes maxL ret hh ∈ ws) ∧
  (Cond.codeWith y bytes maxL ret hh).before args s = true ∧ (Cond.initialized y.cls).before args s = true ∧ (y.cls ≠ "java/lang/invoke/MethodHandle" ∧ y.cls ≠ "java/lang/invoke/VarHandle") ∧
  (∀ sig, parseMethodDescriptor y.desc = some sig → n = sig.parameters.length) ∧ (Cond.methodLink own index y).before args s = true ∧ (Cond.static y).before args s = true
theorem vx_cwSW {own : String} {index maxL mc ms : Nat} {y : MethodName} {bytes : ByteArray} {ret : Option FieldType} {hh : List (Nat × Nat × Nat × Nat)} {Ts ws ws' : List Cond} {rm : Room} (n : Nat) (ht : ∀ w ∈ Ts, w.before args s = true) (hT : GoodIn Ts (va_wsS own index y ws)) (hw : ws = Cond.codeWith y bytes maxL ret hh :: ws') (hrc : rm.cells = mc) (hrs : rm.slots = ms)
    (hd : y.cls ≠ "java/lang/invoke/MethodHandle" ∧ y.cls ≠ "java/lang/invoke/VarHandle" ∧ (parseMethodDescriptor y.desc).map (fun d => d.parameters.length) = some n) (hR : rm.frames + 1 ≤ R.frames ∧ 8 + (maxL + 11) + rm.locals ≤ R.locals) :
    vx_CSW R s args own index y bytes maxL ret hh ws rm mc ms n := by
  have ok : ∀ w ∈ va_wsS own index y ws, w.before args s = true := fun w h => ht w (hT w h).1
  have hG : GoodIn Ts ws := fun w h => hT w (by unfold va_wsS; exact List.mem_append_right _ h)
  have hc : Cond.codeWith y bytes maxL ret hh ∈ ws := by rw [hw]; exact List.mem_cons_self
  refine ⟨⟨hrc, hrs, hR.1, hR.2, pay_in ht hG, hc⟩, ht _ (hG _ hc).1, ok _ (by simp [va_wsS]), ⟨hd.1, hd.2.1⟩, fun sig h => ?_, ok _ (by simp [va_wsS]), ok _ (by simp [va_wsS])⟩
  have h2 := hd.2.2
  rw [h] at h2
  exact (Option.some.inj h2).symm
theorem vx_callSW (X : Stand p l e R s m args below meth c T locs cells slots) (hexec : p.tables.exec = Jvm.exec) {own : String} {index : Nat} {y : MethodName} {bytes : ByteArray} {maxL : Nat} {ret : Option FieldType} {hh : List (Nat × Nat × Nat × Nat)}
    (hown : s.vm.findClass own = some m.cls) (hlink : (Cond.methodLink own index y).before args s = true) (hstat : (Cond.static y).before args s = true) (hinit : (Cond.initialized y.cls).before args s = true)
    (hcode : (Cond.codeWith y bytes maxL ret hh).before args s = true) (hy : y.cls ≠ "java/lang/invoke/MethodHandle" ∧ y.cls ≠ "java/lang/invoke/VarHandle")
    {W9 : Nat} {Pre : Pt → Array Value → Prop} {Post : Pt → Array Value → Option Value → Pt → Prop} (hK : Back l R p e below s args y 3 W9 Pre Post)
    {g : JFrame} (hg : g.method = m) (hsize : g.locals.size = c.maxLocals) {argsL rest : List Value} (hlen : ∀ sig, parseMethodDescriptor y.desc = some sig → argsL.length = sig.parameters.length)
    (hstack : g.stack = argsL.reverse ++ rest) (hW : 2 * g.monitorRoom + (rest.map fun v => v.category).sum ≤ W9) (hdg : decode c.code g.pc = .ok (.invokestatic index, 3))
    (hpre : ∀ vm₁, s.WarmedH vm₁ → Pre ⟨T.setVm vm₁, locs, cells, slots⟩ argsL.toArray) :
    ∃ (v : Option Value) (vm₁ : Vm) (B : Pt), s.WarmedH vm₁ ∧ Stand p l e R s m args below meth c B.U B.locs B.cells B.slots ∧ Post ⟨T.setVm vm₁, locs, cells, slots⟩ argsL.toArray v B ∧
      ∀ target, Steps p.tables e below (B.U.setTop { g with pc := g.pc + 3, stack := v.toList ++ rest }) target → Steps p.tables e below (T.setTop g) target := by
  obtain ⟨mk, methM, cM, hnamed, hmethM, -, -, -, -, -, -, hsigM⟩ := Cond.codeWith_spec hcode
  have hstatic : methM.isStatic = true := Cond.static_spec hnamed hmethM hstat
  obtain ⟨kP, hkP, -⟩ := className_of_methodNamed hnamed
  have hinitP : kP.init = .initialized := Cond.initialized_spec (findClass_of_methodNamed hnamed) hkP hinit
  obtain ⟨vm₁, X₁, hstep₁⟩ := X.invokestatic hexec hown hlink hnamed hmethM hstatic hkP hinitP hy (g := g) hg (argsL := argsL) (rest := rest) (hlen _ hsigM) hstack hdg
  obtain ⟨v, B, X', hpost, hsteps⟩ := hK m meth c ⟨T.setVm vm₁, locs, cells, slots⟩ { g with stack := rest } (.invokestatic index) mk argsL.toArray X₁ hg hsize hdg hW (X₁.named hnamed) (hpre vm₁ X₁.warmed)
  exact ⟨v, vm₁, B, X₁.warmed, X', hpost, fun target h => hstep₁ _ fun acts => by rw [doInvoke_state]; exact hsteps.trans h⟩
theorem vx_runSW {y : MethodName} {bytes cc : ByteArray} {maxL nL mc ms n index : Nat} {ret : Option FieldType} {hh : List (Nat × Nat × Nat × Nat)} {ws : List Cond} {rm : Room} {Pc : Array Value → State → Prop} {Qc : Array Value → State → Outcome → State → Prop} {free : Addr → Prop} {Ts : List Cond} {own : String} {As rest : List Value} {g : JFrame}
    (S : CallFix p m c cc nL s args Ts own) (hM : Met l y ws rm Pc Qc mc ms free) (cw : vx_CSW R s args own index y bytes maxL ret hh ws rm mc ms n) (hp : PreS s H Pc As)
    (hg : g.method = m) (hn : As.length = n) (hsize : g.locals.size = nL) (hstack : g.stack = As.reverse ++ rest) (hW : 2 * g.monitorRoom + (rest.map fun v => v.category).sum ≤ 8) (hdg : decode cc g.pc = .ok (.invokestatic index, 3)) (hf : cells + mc ≤ R.cells ∧ slots + ms ≤ R.slots) :
    va_Run p l e R s m args below meth c H locs cells slots mc ms g rest (Qc As.toArray) (free) := by
  obtain ⟨⟨hrc, hrs, hfr, hlo, hws, hcw⟩, hcode, hini, hy, hlen, hl, hstt⟩ := cw
  have hK : Back l R p e below s args y 3 8 (PreOf R mc ms Pc) (PostOf Qc mc ms free) := va_backW (hh := hh) (bytes := bytes) (maxL := maxL) (ret := ret) hM hp.1 hrc hrs hfr hlo hws hcw (fun a' U hW => word_at hW (Or.inl (by first | rfl | simp [Cond.onTables, Cond.keeps, Cond.steady])) hini)
  obtain ⟨hx, hb, hml, ho, -⟩ := S
  intro T hT X
  obtain ⟨v, vm₁, ⟨U', l2, c2, s2⟩, hW₁, X', ⟨g', mk, t, L, e1, e2, hq, h1, hL, h2, h3⟩, st⟩ := vx_callSW X hx (hh := hh) (bytes := bytes) (maxL := maxL) (ret := ret) ho hl hstt hini hcode hy hK hg (hsize.trans hml.symm) (argsL := As) (rest := rest) (fun sig h => hn.trans (hlen sig h)) hstack hW (by rw [hb]; exact hdg)
    (fun vm₁ hW₁ => ⟨hf.1, hf.2, hp.2 (T.setVm vm₁) hT hW₁⟩)
  dsimp only [Pt.U, Pt.locs, Pt.cells, Pt.slots] at X' e1 e2 h1 h2 h3 st
  subst h1; subst h2; subst h3
  exact ⟨v, (T.setVm vm₁).calling g' mk As.toArray, t, U', L, hT, X', hL, e1, e2, hq, st⟩
/-- not caught here, past rows that name other classes: it goes on to the caller -/
theorem vx_outP {p : Program} {l : Launch} {e : Env} {R : Room} {s : State} {m : MethodId} {args : Array Value} {below : List Frame} {meth : Method} {c : Code} {H : Heap} {locs : List Loc} {cells slots : Nat} {free : Addr → Prop} {ls : Array Slot} {rest : List Value} {Qc : Array Value → State → Outcome → State → Prop} {XC : String → State → State → Prop}
    {pc : Nat} {own E : String} {ce : Cell} {q : Addr} {mc ms : Nat} (hown : s.vm.findClass own = some m.cls) (hlocks : meth.locks = false)
    (hpass : ∀ z ∈ c.exceptionTable.toList, covers z pc = false ∨ (z.catchType ≠ 0 ∧ ∃ nm : String, (Cond.classLink own z.catchType nm).before args s = true ∧ va_Nc E nm s)) (hcell : H[q]? = some ce) (hv : ce.vm = .none) (hcl : s.vm.findClass E = some ce.cls)
    (hx : ∀ t : State, t.heap = H → s.vm.Alike t.vm → XC E s t) (hf : ∀ z ∈ locs, free z.base) (hc : cells ≤ mc) (hs : slots ≤ ms) :
    vx_W p l e R s m args below meth c H locs cells slots (vx_MQ below Qc XC args s mc ms free) (F0 m pc ls rest) q := by
  intro T hT X
  have hpl : e.platform.magicAccessors = ({} : Platform).magicAccessors := by rw [X.admits.platform]
  obtain ⟨vm', hW', X', st⟩ := X.outThrough hlocks q (g := F0 m pc ls rest) rfl rfl rfl (cell := ce) (by rw [hT]; exact hcell) (by rw [hv]; rfl)
    (by obtain ⟨k9, h9, -⟩ := Vm.findClass_spec hcl; exact ⟨k9, h9⟩) (fun z hz => by
      rcases hpass z hz with h | ⟨hz0, nm, hl1, hn1⟩
      · exact Or.inl h
      · obtain ⟨c6, hc6, hcl6⟩ := Cond.classLink_spec hown hl1 e.platform hpl
        obtain ⟨a8, b8, h1, h2, h3⟩ := hn1
        cases Option.some.inj (h1.symm.trans hcl)
        cases Option.some.inj (h2.symm.trans hc6)
        exact Or.inr ⟨hz0, _, hcl6, h3⟩)
  obtain ⟨g₀, hfr⟩ := X'.frames_eq
  have hcell9 : ((T.setVm vm').setFrames (.throwing q :: below)).heap[q]? = some ce := by
    show T.heap[q]? = some ce
    rw [hT]; exact hcell
  have hend : Ended ((T.setVm vm').setFrames (.throwing q :: below)) below (.threw q) := State.frames_setFrames _ (State.cur_lt_of_frames hfr)
  refine ⟨(T.setVm vm').setFrames (.throwing q :: below), ?_, .threw q, X'.here.running, hend, Or.inr ⟨q, rfl, E, ce, locs, hx _ hT (X'.ends _).1.alike, hcell9, hv, hcl, (X'.ends _).1, (X'.ends _).2.mono hc hs, hf⟩⟩
  rw [X.pushThrowing_eq]
  exact st
/-- a thing of a world lies in the heap -/
theorem vx_lt {D : va_G} {cl : List vw_C} {ws : va_W} {H1 : Heap} (h : va_P D cl ws H1) {k : Nat} {q : Nat × va_E} (hk : ws[k]? = some q) : q.1 < H1.size := (h k q hk).lt
end VXS
/-! ===== END ===== -/
/-! ===== BEGIN methods with a table of their own: called by a name, returning or throwing ===== -/
section VXH
/-! vx_backW, vx_callVX, vx_callSX, vx_callVW, vx_runVW, vx_runVX, vx_runSX, vx_ofWH follow the same proofs as their sisters above (Free/Laws.lean, Shelf42/LK1.lean); vx_outP calls Shelf42/NT130.lean (outThrough). -/
section
variable {l : Launch} {R : Room} {p : Program} {e : Env} {below : List Frame} {s : State} {sargs : Array Value} {y : MethodName} {len W9 : Nat}
theorem vx_backW {ws : List Cond} {rm : Room} {Pc : Array Value → State → Prop} {Qc : Array Value → State → Outcome → State → Prop} {XC : String → State → State → Prop} {mc ms : Nat} {free : Addr → Prop} {bytes : ByteArray} {maxL : Nat} {ret : Option FieldType} {hh : List (Nat × Nat × Nat × Nat)}
    (hM : vx_Met l y ws rm Pc Qc XC mc ms free) (hblind : FrameBlind Pc) (hrc : rm.cells = mc) (hrs : rm.slots = ms)
    (hframes : rm.frames + 1 ≤ R.frames) (hlocals : W9 + (maxL + 11) + rm.locals ≤ R.locals)
    (hws : ∀ w ∈ ws, ∀ a' U, s.WarmedH U.vm → w.before a' U = true) (hcode : Cond.codeWith y bytes maxL ret hh ∈ ws) (hinit : ∀ a' U, s.WarmedH U.vm → (Cond.initialized y.cls).before a' U = true) :
    vx_Back l R p e below s sargs y len W9 (PreOf R mc ms Pc) (PostOf Qc mc ms free) (vx_Post XC mc ms free) := by
  intro m meth c A g ig mk a X hg hsize hdg hW hn hp
  have h1 : (headSpec ws rm).pre.before a A.U = true := atoms_intro fun w hw => hws w hw _ _ X.warmed
  have h2 : (Cond.codeWith y bytes maxL ret hh).before a A.U = true := hws _ hcode _ _ X.warmed
  have h3 : (Cond.initialized y.cls).before a A.U = true := hinit _ _ X.warmed
  have h4 : A.cells + (headSpec ws rm).room.cells ≤ R.cells := by rw [show (headSpec ws rm).room.cells = mc from hrc]; exact hp.1
  have h5 : A.slots + (headSpec ws rm).room.slots ≤ R.slots := by rw [show (headSpec ws rm).room.slots = ms from hrs]; exact hp.2.1
  have hPc : Pc a (A.U.calling g mk a) := hblind _ _ _ _ hp.2.2
  obtain ⟨U, Ls, c0, s0⟩ := A
  dsimp only [Pt.U, Pt.locs, Pt.cells, Pt.slots] at h1 h2 h3 h4 h5 X hn hPc ⊢
  obtain ⟨m9, methY, cY, hn9, hmY, hcY, -, hlY, -⟩ := Cond.codeWith_spec h2
  cases Option.some.inj (hn9.symm.trans hn)
  obtain ⟨kY, hkY, -⟩ := className_of_methodNamed hn
  have hinitY : kY.init = .initialized := Cond.initialized_spec (findClass_of_methodNamed hn) hkY h3
  have h : At U g.method c below := by rw [hg]; exact X.here
  have hlocals9 : W9 + (maxL + 11) + (headSpec ws rm).room.locals ≤ R.locals := hlocals
  have happ : (headSpec ws rm).appliesLoose y e.platform (U.calling g mk a) = true :=
    Spec.appliesLoose_calling (g := g) h hdg hn hkY hinitY
      (X.room_calling (g := g) (R' := (headSpec ws rm).room) hsize hmY hcY hframes (by rw [hlY]; omega) h4 h5) h1
  obtain ⟨mid, hmid⟩ := h.above
  have hfr : (U.setTop g).frames = (.java g :: mid) ++ below := by rw [State.frames_setTop' g h.top, hmid]; rfl
  obtain ⟨o, s₂, hsteps, -, hend, hq⟩ := Steps.callFree hM p X.admits X.cas X.clock (acts := []) hfr happ hPc trivial
  have hq' : vx_Q Qc XC mc ms free a (U.calling g mk a) o s₂ := hq
  rw [State.frames_setTop' g h.top] at hend
  obtain ⟨g₀, hg0⟩ := Option.isSome_iff_exists.mp h.top
  obtain ⟨r, hr⟩ := State.topJava?_eq_some.mp hg0
  have hr' : (({ U with heap := s₂.heap, slotsUsed := s₂.slotsUsed } : State).setVm s₂.vm).frames = .java g₀ :: r := hr
  rcases hq' with ⟨hqc, L, hfe, hL⟩ | ⟨q, rfl, E, ce, L, hx, hce, hcv, hcl, hW₂, hsm, hL⟩
  · obtain ⟨⟨v, rfl⟩, hW₂, e2, q2, q3, q4, q5, q6⟩ := id hfe
    have e3 : s₂ = ({ (U.calling g mk a).setFrames s₂.frames with heap := s₂.heap, slotsUsed := s₂.slotsUsed } : State).setVm s₂.vm := by
      have : s₂ = ({ s₂ with vm := (U.calling g mk a).vm } : State).setVm s₂.vm := rfl
      rw [e2] at this
      exact this
    obtain ⟨c₂, i₂, len₂, hc₂, hd₂, hf₂⟩ := hend
    have hW' : U.WarmedH s₂.vm := hW₂
    have hcc : c₂ = c := by
      have h1 : s₂.code? g.method = U.code? g.method := by
        rw [State.code?_eq, State.code?_eq, hW'.alike.method?]
      exact Option.some.inj (hc₂.symm.trans (h1.trans h.code))
    subst hcc
    have hlen : len₂ = len := by rw [hdg] at hd₂; cases hd₂; rfl
    subst hlen
    have hs₂ : s₂ = (({ U with heap := s₂.heap, slotsUsed := s₂.slotsUsed } : State).setVm s₂.vm).setTop { g with pc := g.pc + len₂, stack := v.toList ++ g.stack } := by
      refine e3.trans ?_
      rw [hf₂, State.calling_eq h.top, State.setFrames_setFrames, State.setTop_of_frames _ hr', hr]
      rfl
    have hsame : U.sameButNew ({ U with heap := s₂.heap, slotsUsed := s₂.slotsUsed } : State) L mc ms := by
      refine ⟨?_, q2, q3, q4, q5, q6⟩
      obtain ⟨t, ht, -⟩ := State.frames_cons hr
      show ({ U with heap := s₂.heap, slotsUsed := s₂.slotsUsed } : State) = { U.setFrames U.frames with heap := s₂.heap, slotsUsed := s₂.slotsUsed }
      rw [State.setFrames_self ht]
    subst hg
    refine Or.inl ⟨v, ⟨(({ U with heap := s₂.heap, slotsUsed := s₂.slotsUsed } : State).setVm s₂.vm), Ls ++ L, c0 + mc, s0 + ms⟩,
      ⟨X.admits, X.cas, X.clock, X.frames, X.room, X.hears, X.method, X.code, (X.here.setHeapUsed s₂.heap s₂.slotsUsed).setVm hW'.alike, X.tail, State.WarmedH.trans X.warmed hW', X.limits, X.bytes, X.same.trans (hsame.setVm s.vm)⟩,
      ⟨g, mk, s₂, L, rfl, rfl, hqc, rfl, hL, rfl, rfl⟩, ?_⟩
    show Steps p.tables e below _ ((({ U with heap := s₂.heap, slotsUsed := s₂.slotsUsed } : State).setVm s₂.vm).setTop { g with pc := g.pc + len₂, stack := v.toList ++ g.stack })
    rw [← hs₂]
    exact hsteps
  · obtain ⟨e2, q2, q3, q4, q5, q6⟩ := id hsm
    have e3 : s₂ = ({ (U.calling g mk a).setFrames s₂.frames with heap := s₂.heap, slotsUsed := s₂.slotsUsed } : State).setVm s₂.vm := by
      have : s₂ = ({ s₂ with vm := (U.calling g mk a).vm } : State).setVm s₂.vm := rfl
      rw [e2] at this
      exact this
    have hf₂ : s₂.frames = .throwing q :: .java g :: U.frames.tail := hend
    have hW' : U.WarmedH s₂.vm := hW₂
    have hs₂ : s₂ = ((({ U with heap := s₂.heap, slotsUsed := s₂.slotsUsed } : State).setVm s₂.vm).setTop g).pushFrame (.throwing q) := by
      refine e3.trans ?_
      rw [hf₂, State.calling_eq h.top, State.setFrames_setFrames, State.pushFrame, State.frames_setTop _ hr', State.setTop_of_frames _ hr', State.setFrames_setFrames, hr]
      rfl
    have hsame : U.sameButNew ({ U with heap := s₂.heap, slotsUsed := s₂.slotsUsed } : State) L mc ms := by
      refine ⟨?_, q2, q3, q4, q5, q6⟩
      obtain ⟨t, ht, -⟩ := State.frames_cons hr
      show ({ U with heap := s₂.heap, slotsUsed := s₂.slotsUsed } : State) = { U.setFrames U.frames with heap := s₂.heap, slotsUsed := s₂.slotsUsed }
      rw [State.setFrames_self ht]
    subst hg
    refine Or.inr ⟨q, ⟨(({ U with heap := s₂.heap, slotsUsed := s₂.slotsUsed } : State).setVm s₂.vm), Ls ++ L, c0 + mc, s0 + ms⟩,
      ⟨X.admits, X.cas, X.clock, X.frames, X.room, X.hears, X.method, X.code, (X.here.setHeapUsed s₂.heap s₂.slotsUsed).setVm hW'.alike, X.tail, State.WarmedH.trans X.warmed hW', X.limits, X.bytes, X.same.trans (hsame.setVm s.vm)⟩,
      ⟨g, mk, s₂, L, E, ce, rfl, rfl, hx, hce, hcv, hcl, rfl, hL, rfl, rfl⟩, ?_⟩
    show Steps p.tables e below _ (((({ U with heap := s₂.heap, slotsUsed := s₂.slotsUsed } : State).setVm s₂.vm).setTop g).pushFrame (.throwing q))
    rw [← hs₂]
    exact hsteps
end
variable {p : Program} {l : Launch} {e : Env} {R : Room} {s : State} {m : MethodId} {args : Array Value} {below : List Frame} {meth : Method} {c : Code} {T : State} {H : Heap} {locs : List Loc} {cells slots : Nat}
theorem vx_callVX (X : Stand p l e R s m args below meth c T locs cells slots) (hexec : p.tables.exec = Jvm.exec) {own C : String} {index : Nat} {y : MethodName} {bytes : ByteArray} {maxL : Nat} {ret : Option FieldType} {hh : List (Nat × Nat × Nat × Nat)}
    (hown : s.vm.findClass own = some m.cls) (hlink : (Cond.methodLink own index y).before args s = true) (hinst : (Cond.instanceMethod y).before args s = true) (hsel : (Cond.selects C y y).before args s = true)
    (hcode : (Cond.codeWith y bytes maxL ret hh).before args s = true) (hy : y.cls ≠ "java/lang/invoke/MethodHandle" ∧ y.cls ≠ "java/lang/invoke/VarHandle")
    {W9 : Nat} {Pre : Pt → Array Value → Prop} {Post : Pt → Array Value → Option Value → Pt → Prop} {PostX : Pt → Array Value → Addr → Pt → Prop} (hK : vx_Back l R p e below s args y 3 W9 Pre Post PostX)
    {b : Addr} {cellB : Cell} (hcell : T.heap[b]? = some cellB) (hobj : cellB.vm.isStatics = false) (hcls : s.vm.findClass C = some cellB.cls)
    {g : JFrame} (hg : g.method = m) (hsize : g.locals.size = c.maxLocals) {argsL rest : List Value} (hlen : ∀ sig, parseMethodDescriptor y.desc = some sig → argsL.length = sig.parameters.length)
    (hstack : g.stack = argsL.reverse ++ .ref b :: rest) (hW : 2 * g.monitorRoom + (rest.map fun v => v.category).sum ≤ W9) (hdg : decode c.code g.pc = .ok (.invokevirtual index, 3))
    (hpre : ∀ vm₁, s.WarmedH vm₁ → Pre ⟨T.setVm vm₁, locs, cells, slots⟩ (Value.ref b :: argsL).toArray) :
    (∃ (v : Option Value) (vm₁ : Vm) (B : Pt), s.WarmedH vm₁ ∧ Stand p l e R s m args below meth c B.U B.locs B.cells B.slots ∧ Post ⟨T.setVm vm₁, locs, cells, slots⟩ (Value.ref b :: argsL).toArray v B ∧
      ∀ target, Steps p.tables e below (B.U.setTop { g with pc := g.pc + 3, stack := v.toList ++ rest }) target → Steps p.tables e below (T.setTop g) target) ∨
    (∃ (q : Addr) (vm₁ : Vm) (B : Pt), s.WarmedH vm₁ ∧ Stand p l e R s m args below meth c B.U B.locs B.cells B.slots ∧ PostX ⟨T.setVm vm₁, locs, cells, slots⟩ (Value.ref b :: argsL).toArray q B ∧
      Steps p.tables e below (T.setTop g) ((B.U.setTop { g with stack := rest }).pushFrame (.throwing q))) := by
  obtain ⟨mk, methM, hnamed, hmethM, hstM, habM⟩ := Cond.instanceMethod_spec hinst
  obtain ⟨m8, methM', cM, hn8, hmethM', -, -, -, -, -, -, hsigM⟩ := Cond.codeWith_spec hcode
  cases Option.some.inj (hn8.symm.trans hnamed)
  cases hmethM.symm.trans hmethM'
  obtain ⟨c2, r2, m2, q1, q2, q3, q4, kP, hkP, hkPi⟩ := Cond.selects_spec hsel
  cases hcls.symm.trans q1
  cases (State.methodFound?_of_named hnamed hy).symm.trans q2
  cases hnamed.symm.trans q3
  have hselP : selectMethod e.platform s.vm cellB.cls mk = .method mk := by rw [Launch.admits_selectMethod X.admits]; exact q4
  obtain ⟨vm₁, X₁, hstep₁⟩ := X.invokevirtual hexec hown hlink hnamed hmethM hstM hkP hkPi hy (a := b) (cell := cellB) hcell
    (fun z h => by rw [h] at hobj; cases hobj) hselP hmethM habM hkP hkPi (g := g) hg (argsL := argsL) (rest := rest) (hlen _ hsigM) hstack hdg
  rcases hK m meth c ⟨T.setVm vm₁, locs, cells, slots⟩ { g with stack := rest } (.invokevirtual index) mk (Value.ref b :: argsL).toArray X₁ hg hsize hdg hW (X₁.named hnamed) (hpre vm₁ X₁.warmed) with ⟨v, B, X', hpost, hsteps⟩ | ⟨q, B, X', hpost, hsteps⟩
  · exact Or.inl ⟨v, vm₁, B, X₁.warmed, X', hpost, fun target h => hstep₁ _ fun acts => by rw [doInvoke_state]; exact hsteps.trans h⟩
  · exact Or.inr ⟨q, vm₁, B, X₁.warmed, X', hpost, hstep₁ _ fun acts => by rw [doInvoke_state]; exact hsteps⟩
theorem vx_callSX (X : Stand p l e R s m args below meth c T locs cells slots) (hexec : p.tables.exec = Jvm.exec) {own : String} {index : Nat} {y : MethodName} {bytes : ByteArray} {maxL : Nat} {ret : Option FieldType} {hh : List (Nat × Nat × Nat × Nat)}
    (hown : s.vm.findClass own = some m.cls) (hlink : (Cond.methodLink own index y).before args s = true) (hstat : (Cond.static y).before args s = true) (hinit : (Cond.initialized y.cls).before args s = true)
    (hcode : (Cond.codeWith y bytes maxL ret hh).before args s = true) (hy : y.cls ≠ "java/lang/invoke/MethodHandle" ∧ y.cls ≠ "java/lang/invoke/VarHandle")
    {W9 : Nat} {Pre : Pt → Array Value → Prop} {Post : Pt → Array Value → Option Value → Pt → Prop} {PostX : Pt → Array Value → Addr → Pt → Prop} (hK : vx_Back l R p e below s args y 3 W9 Pre Post PostX)
    {g : JFrame} (hg : g.method = m) (hsize : g.locals.size = c.maxLocals) {argsL rest : List Value} (hlen : ∀ sig, parseMethodDescriptor y.desc = some sig → argsL.length = sig.parameters.length)
    (hstack : g.stack = argsL.reverse ++ rest) (hW : 2 * g.monitorRoom + (rest.map fun v => v.category).sum ≤ W9) (hdg : decode c.code g.pc = .ok (.invokestatic index, 3))
    (hpre : ∀ vm₁, s.WarmedH vm₁ → Pre ⟨T.setVm vm₁, locs, cells, slots⟩ argsL.toArray) :
    (∃ (v : Option Value) (vm₁ : Vm) (B : Pt), s.WarmedH vm₁ ∧ Stand p l e R s m args below meth c B.U B.locs B.cells B.slots ∧ Post ⟨T.setVm vm₁, locs, cells, slots⟩ argsL.toArray v B ∧
      ∀ target, Steps p.tables e below (B.U.setTop { g with pc := g.pc + 3, stack := v.toList ++ rest }) target → Steps p.tables e below (T.setTop g) target) ∨
    (∃ (q : Addr) (vm₁ : Vm) (B : Pt), s.WarmedH vm₁ ∧ Stand p l e R s m args below meth c B.U B.locs B.cells B.slots ∧ PostX ⟨T.setVm vm₁, locs, cells, slots⟩ argsL.toArray q B ∧
      Steps p.tables e below (T.setTop g) ((B.U.setTop { g with stack := rest }).pushFrame (.throwing q))) := by
  obtain ⟨mk, methM, cM, hnamed, hmethM, -, -, -, -, -, -, hsigM⟩ := Cond.codeWith_spec hcode
  have hstatic : methM.isStatic = true := Cond.static_spec hnamed hmethM hstat
  obtain ⟨kP, hkP, -⟩ := className_of_methodNamed hnamed
  have hinitP : kP.init = .initialized := Cond.initialized_spec (findClass_of_methodNamed hnamed) hkP hinit
  obtain ⟨vm₁, X₁, hstep₁⟩ := X.invokestatic hexec hown hlink hnamed hmethM hstatic hkP hinitP hy (g := g) hg (argsL := argsL) (rest := rest) (hlen _ hsigM) hstack hdg
  rcases hK m meth c ⟨T.setVm vm₁, locs, cells, slots⟩ { g with stack := rest } (.invokestatic index) mk argsL.toArray X₁ hg hsize hdg hW (X₁.named hnamed) (hpre vm₁ X₁.warmed) with ⟨v, B, X', hpost, hsteps⟩ | ⟨q, B, X', hpost, hsteps⟩
  · exact Or.inl ⟨v, vm₁, B, X₁.warmed, X', hpost, fun target h => hstep₁ _ fun acts => by rw [doInvoke_state]; exact hsteps.trans h⟩
  · exact Or.inr ⟨q, vm₁, B, X₁.warmed, X', hpost, hstep₁ _ fun acts => by rw [doInvoke_state]; exact hsteps⟩
theorem vx_callVW (X : Stand p l e R s m args below meth c T locs cells slots) (hexec : p.tables.exec = Jvm.exec) {own C : String} {index : Nat} {y : MethodName} {bytes : ByteArray} {maxL : Nat} {ret : Option FieldType} {hh : List (Nat × Nat × Nat × Nat)}
    (hown : s.vm.findClass own = some m.cls) (hlink : (Cond.methodLink own index y).before args s = true) (hinst : (Cond.instanceMethod y).before args s = true) (hsel : (Cond.selects C y y).before args s = true)
    (hcode : (Cond.codeWith y bytes maxL ret hh).before args s = true) (hy : y.cls ≠ "java/lang/invoke/MethodHandle" ∧ y.cls ≠ "java/lang/invoke/VarHandle")
    {W9 : Nat} {Pre : Pt → Array Value → Prop} {Post : Pt → Array Value → Option Value → Pt → Prop} (hK : Back l R p e below s args y 3 W9 Pre Post)
    {b : Addr} {cellB : Cell} (hcell : T.heap[b]? = some cellB) (hobj : cellB.vm.isStatics = false) (hcls : s.vm.findClass C = some cellB.cls)
    {g : JFrame} (hg : g.method = m) (hsize : g.locals.size = c.maxLocals) {argsL rest : List Value} (hlen : ∀ sig, parseMethodDescriptor y.desc = some sig → argsL.length = sig.parameters.length)
    (hstack : g.stack = argsL.reverse ++ .ref b :: rest) (hW : 2 * g.monitorRoom + (rest.map fun v => v.category).sum ≤ W9) (hdg : decode c.code g.pc = .ok (.invokevirtual index, 3))
    (hpre : ∀ vm₁, s.WarmedH vm₁ → Pre ⟨T.setVm vm₁, locs, cells, slots⟩ (Value.ref b :: argsL).toArray) :
    ∃ (v : Option Value) (vm₁ : Vm) (B : Pt), s.WarmedH vm₁ ∧ Stand p l e R s m args below meth c B.U B.locs B.cells B.slots ∧ Post ⟨T.setVm vm₁, locs, cells, slots⟩ (Value.ref b :: argsL).toArray v B ∧
      ∀ target, Steps p.tables e below (B.U.setTop { g with pc := g.pc + 3, stack := v.toList ++ rest }) target → Steps p.tables e below (T.setTop g) target := by
  obtain ⟨mk, methM, hnamed, hmethM, hstM, habM⟩ := Cond.instanceMethod_spec hinst
  obtain ⟨m8, methM', cM, hn8, hmethM', -, -, -, -, -, -, hsigM⟩ := Cond.codeWith_spec hcode
  cases Option.some.inj (hn8.symm.trans hnamed)
  cases hmethM.symm.trans hmethM'
  obtain ⟨c2, r2, m2, q1, q2, q3, q4, kP, hkP, hkPi⟩ := Cond.selects_spec hsel
  cases hcls.symm.trans q1
  cases (State.methodFound?_of_named hnamed hy).symm.trans q2
  cases hnamed.symm.trans q3
  have hselP : selectMethod e.platform s.vm cellB.cls mk = .method mk := by rw [Launch.admits_selectMethod X.admits]; exact q4
  obtain ⟨vm₁, X₁, hstep₁⟩ := X.invokevirtual hexec hown hlink hnamed hmethM hstM hkP hkPi hy (a := b) (cell := cellB) hcell
    (fun z h => by rw [h] at hobj; cases hobj) hselP hmethM habM hkP hkPi (g := g) hg (argsL := argsL) (rest := rest) (hlen _ hsigM) hstack hdg
  obtain ⟨v, B, X', hpost, hsteps⟩ := hK m meth c ⟨T.setVm vm₁, locs, cells, slots⟩ { g with stack := rest } (.invokevirtual index) mk (Value.ref b :: argsL).toArray X₁ hg hsize hdg hW (X₁.named hnamed) (hpre vm₁ X₁.warmed)
  exact ⟨v, vm₁, B, X₁.warmed, X', hpost, fun target h => hstep₁ _ fun acts => by rw [doInvoke_state]; exact hsteps.trans h⟩
abbrev vx_CVW (R : Room) (s : State) (args : Array Value) (own C : String) (index : Nat) (y : MethodName) (bytes : ByteArray) (maxL : Nat) (ret : Option FieldType) (hh : List (Nat × Nat × Nat × Nat)) (ws : List Cond) (rm : Room) (mc ms n : Nat) : Prop :=
  (rm.cells = mc ∧ rm.slots = ms ∧ rm.frames + 1 ≤ R.frames ∧ 8 + (maxL + 11) + rm.locals ≤ R.locals ∧ (∀ w ∈ ws, ∀ (a' : Array Value) (U : State), s.WarmedH U.vm → w.before a' U = true) ∧ Cond.codeWith y bytes maxL ret hh ∈ ws) ∧
  (Cond.codeWith y bytes maxL ret hh).before args s = true ∧ (Cond.initialized y.cls).before args s = true ∧ (y.cls ≠ "java/lang/invoke/MethodHandle" ∧ y.cls ≠ "java/lang/invoke/VarHandle") ∧
  (∀ sig, parseMethodDescriptor y.desc = some sig → n = sig.parameters.length) ∧ (Cond.methodLink own index y).before args s = true ∧ (Cond.instanceMethod y).before args s = true ∧ (Cond.selects C y y).before args s = true
theorem vx_cwVW {own C : String} {index maxL mc ms : Nat} {y : MethodName} {bytes : ByteArray} {ret : Option FieldType} {hh : List (Nat × Nat × Nat × Nat)} {Ts ws ws' : List Cond} {rm : Room} (n : Nat) (ht : ∀ w ∈ Ts, w.before args s = true) (hT : GoodIn Ts (wsV own index C y ws)) (hw : ws = Cond.codeWith y bytes maxL ret hh :: ws') (hrc : rm.cells = mc) (hrs : rm.slots = ms)
    (hd : y.cls = C ∧ y.cls ≠ "java/lang/invoke/MethodHandle" ∧ y.cls ≠ "java/lang/invoke/VarHandle" ∧ (parseMethodDescriptor y.desc).map (fun d => d.parameters.length) = some n) (hR : rm.frames + 1 ≤ R.frames ∧ 8 + (maxL + 11) + rm.locals ≤ R.locals) :
    vx_CVW R s args own C index y bytes maxL ret hh ws rm mc ms n := by
  obtain ⟨hC, hd⟩ := hd
  subst hC
  have ok : ∀ w ∈ wsV own index y.cls y ws, w.before args s = true := fun w h => ht w (hT w h).1
  have hG : GoodIn Ts ws := fun w h => hT w (by unfold wsV; exact List.mem_append_right _ h)
  have hc : Cond.codeWith y bytes maxL ret hh ∈ ws := by rw [hw]; exact List.mem_cons_self
  refine ⟨⟨hrc, hrs, hR.1, hR.2, pay_in ht hG, hc⟩, ht _ (hG _ hc).1, ok _ (by simp [wsV]), ⟨hd.1, hd.2.1⟩, fun sig h => ?_, ok _ (by simp [wsV]), ok _ (by simp [wsV]), ok _ (by simp [wsV])⟩
  have h2 := hd.2.2
  rw [h] at h2
  exact (Option.some.inj h2).symm
theorem vx_runVW {y : MethodName} {bytes cc : ByteArray} {maxL nL mc ms n index : Nat} {ret : Option FieldType} {hh : List (Nat × Nat × Nat × Nat)} {ws : List Cond} {rm : Room} {Pc : Array Value → State → Prop} {Qc : Array Value → State → Outcome → State → Prop} {free : Addr → Prop} {Ts : List Cond} {own C : String} {b : Addr} {As rest : List Value} {g : JFrame}
    (S : CallFix p m c cc nL s args Ts own) (hM : Met l y ws rm Pc Qc mc ms free) (cw : vx_CVW R s args own C index y bytes maxL ret hh ws rm mc ms n) (hp : PreV s H C b Pc As)
    (hg : g.method = m) (hn : As.length = n) (hsize : g.locals.size = nL) (hstack : g.stack = As.reverse ++ .ref b :: rest) (hW : 2 * g.monitorRoom + (rest.map fun v => v.category).sum ≤ 8) (hdg : decode cc g.pc = .ok (.invokevirtual index, 3)) (hf : cells + mc ≤ R.cells ∧ slots + ms ≤ R.slots) :
    va_Run p l e R s m args below meth c H locs cells slots mc ms g rest (Qc (Value.ref b :: As).toArray) free := by
  obtain ⟨⟨hrc, hrs, hfr, hlo, hws, hcw⟩, hcode, hini, hy, hlen, hl, hin, hse⟩ := cw
  have hK : Back l R p e below s args y 3 8 (PreOf R mc ms Pc) (PostOf Qc mc ms free) := va_backW (hh := hh) (bytes := bytes) (maxL := maxL) (ret := ret) hM hp.1 hrc hrs hfr hlo hws hcw (fun a' U hW => word_at hW (Or.inl (by first | rfl | simp [Cond.onTables, Cond.keeps, Cond.steady])) hini)
  obtain ⟨hx, hb, hml, ho, -⟩ := S
  obtain ⟨-, ⟨cellB, hcB, hoB, hclB⟩, hPc⟩ := hp
  intro T hT X
  obtain ⟨v, vm₁, ⟨U', l2, c2, s2⟩, hW₁, X', ⟨g', mk, t, L, e1, e2, hq, h1, hL, h2, h3⟩, st⟩ := vx_callVW X hx (C := C) (hh := hh) (bytes := bytes) (maxL := maxL) (ret := ret) ho hl hin hse hcode hy hK (by rw [hT]; exact hcB) hoB hclB hg (hsize.trans hml.symm) (argsL := As) (rest := rest) (fun sig h => hn.trans (hlen sig h)) hstack hW (by rw [hb]; exact hdg)
    (fun vm₁ hW₁ => ⟨hf.1, hf.2, hPc (T.setVm vm₁) hT hW₁⟩)
  dsimp only [Pt.U, Pt.locs, Pt.cells, Pt.slots] at X' e1 e2 h1 h2 h3 st
  subst h1; subst h2; subst h3
  exact ⟨v, (T.setVm vm₁).calling g' mk (Value.ref b :: As).toArray, t, U', L, hT, X', hL, e1, e2, hq, st⟩
section
variable {y : MethodName} {bytes cc : ByteArray} {maxL nL mc ms n index : Nat} {ret : Option FieldType} {ws : List Cond} {rm : Room} {Pc : Array Value → State → Prop} {Qc : Array Value → State → Outcome → State → Prop} {XC : String → State → State → Prop} {free : Addr → Prop} {Ts : List Cond} {own C : String} {b : Addr} {As rest : List Value} {g : JFrame}
theorem vx_runVX {hh : List (Nat × Nat × Nat × Nat)} (S : CallFix p m c cc nL s args Ts own) (hM : vx_Met l y ws rm Pc Qc XC mc ms free) (cw : vx_CVW R s args own C index y bytes maxL ret hh ws rm mc ms n) (hp : PreV s H C b Pc As)
    (hg : g.method = m) (hn : As.length = n) (hsize : g.locals.size = nL) (hstack : g.stack = As.reverse ++ .ref b :: rest) (hW : 2 * g.monitorRoom + (rest.map fun v => v.category).sum ≤ 8) (hdg : decode cc g.pc = .ok (.invokevirtual index, 3)) (hf : cells + mc ≤ R.cells ∧ slots + ms ≤ R.slots) :
    vx_Run p l e R s m args below meth c H locs cells slots mc ms g rest (Qc (Value.ref b :: As).toArray) XC free := by
  obtain ⟨⟨hrc, hrs, hfr, hlo, hws, hcw⟩, hcode, hini, hy, hlen, hl, hin, hse⟩ := cw
  have hK : vx_Back l R p e below s args y 3 8 (PreOf R mc ms Pc) (PostOf Qc mc ms free) (vx_Post XC mc ms free) := vx_backW (hh := hh) (bytes := bytes) (maxL := maxL) (ret := ret) hM hp.1 hrc hrs hfr hlo hws hcw (fun a' U hW => word_at hW (Or.inl (by first | rfl | simp [Cond.onTables, Cond.keeps, Cond.steady])) hini)
  obtain ⟨hx, hb, hml, ho, -⟩ := S
  obtain ⟨-, ⟨cellB, hcB, hoB, hclB⟩, hPc⟩ := hp
  intro T hT X
  rcases vx_callVX X hx (C := C) (hh := hh) (bytes := bytes) (maxL := maxL) (ret := ret) ho hl hin hse hcode hy hK (by rw [hT]; exact hcB) hoB hclB hg (hsize.trans hml.symm) (argsL := As) (rest := rest) (fun sig h => hn.trans (hlen sig h)) hstack hW (by rw [hb]; exact hdg)
    (fun vm₁ hW₁ => ⟨hf.1, hf.2, hPc (T.setVm vm₁) hT hW₁⟩) with ⟨v, vm₁, ⟨U', l2, c2, s2⟩, hW₁, X', ⟨g', mk, t, L, e1, e2, hq, h1, hL, h2, h3⟩, st⟩ | ⟨q, vm₁, ⟨U', l2, c2, s2⟩, hW₁, X', ⟨g', mk, t, L, E, ce, e1, e2, hq, hce, hcv, hcl, h1, hL, h2, h3⟩, st⟩
  · dsimp only [Pt.U, Pt.locs, Pt.cells, Pt.slots] at X' e1 e2 h1 h2 h3 st
    subst h1; subst h2; subst h3
    exact Or.inl ⟨v, (T.setVm vm₁).calling g' mk (Value.ref b :: As).toArray, t, U', L, hT, X', hL, e1, e2, hq, st⟩
  · dsimp only [Pt.U, Pt.locs, Pt.cells, Pt.slots] at X' e1 e2 h1 h2 h3 st hcl
    subst h1; subst h2; subst h3
    exact Or.inr ⟨q, (T.setVm vm₁).calling g' mk (Value.ref b :: As).toArray, t, U', L, E, ce, hT, X', hL, e1, e2, hq, hce, hcv, vx_cls hW₁ hcl, st⟩
theorem vx_runSX {hh : List (Nat × Nat × Nat × Nat)} (S : CallFix p m c cc nL s args Ts own) (hM : vx_Met l y ws rm Pc Qc XC mc ms free) (cw : vx_CSW R s args own index y bytes maxL ret hh ws rm mc ms n) (hp : PreS s H Pc As)
    (hg : g.method = m) (hn : As.length = n) (hsize : g.locals.size = nL) (hstack : g.stack = As.reverse ++ rest) (hW : 2 * g.monitorRoom + (rest.map fun v => v.category).sum ≤ 8) (hdg : decode cc g.pc = .ok (.invokestatic index, 3)) (hf : cells + mc ≤ R.cells ∧ slots + ms ≤ R.slots) :
    vx_Run p l e R s m args below meth c H locs cells slots mc ms g rest (Qc As.toArray) XC free := by
  obtain ⟨⟨hrc, hrs, hfr, hlo, hws, hcw⟩, hcode, hini, hy, hlen, hl, hstt⟩ := cw
  have hK : vx_Back l R p e below s args y 3 8 (PreOf R mc ms Pc) (PostOf Qc mc ms free) (vx_Post XC mc ms free) := vx_backW (hh := hh) (bytes := bytes) (maxL := maxL) (ret := ret) hM hp.1 hrc hrs hfr hlo hws hcw (fun a' U hW => word_at hW (Or.inl (by first | rfl | simp [Cond.onTables, Cond.keeps, Cond.steady])) hini)
  obtain ⟨hx, hb, hml, ho, -⟩ := S
  intro T hT X
  rcases vx_callSX X hx (hh := hh) (bytes := bytes) (maxL := maxL) (ret := ret) ho hl hstt hini hcode hy hK hg (hsize.trans hml.symm) (argsL := As) (rest := rest) (fun sig h => hn.trans (hlen sig h)) hstack hW (by rw [hb]; exact hdg)
    (fun vm₁ hW₁ => ⟨hf.1, hf.2, hp.2 (T.setVm vm₁) hT hW₁⟩) with ⟨v, vm₁, ⟨U', l2, c2, s2⟩, hW₁, X', ⟨g', mk, t, L, e1, e2, hq, h1, hL, h2, h3⟩, st⟩ | ⟨q, vm₁, ⟨U', l2, c2, s2⟩, hW₁, X', ⟨g', mk, t, L, E, ce, e1, e2, hq, hce, hcv, hcl, h1, hL, h2, h3⟩, st⟩
  · dsimp only [Pt.U, Pt.locs, Pt.cells, Pt.slots] at X' e1 e2 h1 h2 h3 st
    subst h1; subst h2; subst h3
    exact Or.inl ⟨v, (T.setVm vm₁).calling g' mk As.toArray, t, U', L, hT, X', hL, e1, e2, hq, st⟩
  · dsimp only [Pt.U, Pt.locs, Pt.cells, Pt.slots] at X' e1 e2 h1 h2 h3 st hcl
    subst h1; subst h2; subst h3
    exact Or.inr ⟨q, (T.setVm vm₁).calling g' mk As.toArray, t, U', L, E, ce, hT, X', hL, e1, e2, hq, hce, hcv, vx_cls hW₁ hcl, st⟩
end
end VXH
theorem vx_ofWH {l : Launch} {y : MethodName} {ws ws' : List Cond} {rm : Room} {Pc : Array Value → State → Prop} {Qc : Array Value → State → Outcome → State → Prop} {XC : String → State → State → Prop} {mc ms : Nat} {free : Addr → Prop} {cc : ByteArray} {maxL : Nat} {ret : Option FieldType} {hh : List (Nat × Nat × Nat × Nat)}
    (hy : plainName y.cls = true) (hw : ws = Cond.codeWith y cc maxL ret hh :: ws')
    (body : ∀ p e s m args below meth c s₁, BodyLoose p l y (headSpec ws rm) cc maxL ret e s m args below meth c s₁ → c.maxLocals = maxL → Pc args s →
      W p l e (headSpec ws rm).room s m args below meth c s.heap [] 0 0 (vx_MQ below Qc XC args s mc ms free) (entryFrame m args maxL)) : vx_Met l y ws rm Pc Qc XC mc ms free := by
  refine MetFree.of_bodyS (code := cc) (maxLocals := maxL) (ret := ret) hy ?_ ?_
  · intro args s m h hn
    obtain ⟨m9, meth, c, hn9, h1, h2, h3, h4, -, h5, h6, -⟩ := Cond.codeWith_spec (atoms_spec (ws := ws) h _ (by rw [hw]; exact List.mem_cons_self))
    cases hn.symm.trans hn9
    exact ⟨meth, c, h1, h2, h3, h4, h5, h6⟩
  · intro p e s m args below meth c s₁ B hml hP _
    have hh0 : s₁.heap = s.heap := by rw [B.state]; rfl
    obtain ⟨t, a1, o, b1, b2, b3⟩ := body p e s m args below meth c s₁ B hml hP s₁ hh0 (Stand.of_body B)
    exact ⟨t, o, a1, b1, b2, b3⟩
/-! ===== END ===== -/
/-! ===== BEGIN what the machine throws by itself, no traces kept ===== -/
section VXM
set_option maxHeartbeats 1000000 in
/-- the machine throws cls with the message text, no traces kept: from its note over the frame g to 'throwing' over the same frame (follows the proofs of Stand.vmThrowsMessage, Shelf/KitTracedVmS.lean, and Stand.throwsMessageColdBareV, StandMessageColdV.lean, without the step out of the frame) -/
theorem vx_vmAt {p : Program} {l : Launch} {e : Env} {R : Room} {s : State} {m₀ : MethodId} {args : Array Value} {below : List Frame} {meth : Method} {c : Code} {W : State} {locs : List Loc} {cells slots : Nat}
    (X : Stand p l e R s m₀ args below meth c W locs cells slots) (hexec : p.tables.exec = Jvm.exec) (htr : e.platform.stackTraces = false) {cls : String} {names : List String} {text : String}
    (hcls : Bundle.fit cls = true) (hnames : ∀ n ∈ names, Bundle.fit n = true) (hsoe : (cls == "java/lang/StackOverflowError") = false) (hoom : (cls == "java/lang/OutOfMemoryError") = false)
    (h : ∀ a ∈ Bundle.messageArmAtoms cls names, a.before args s = true)
    (hlocs : ∀ x ∈ locs, ∀ cell, s.heap[x.base]? = some cell → cell.vm.isStatics = false)
    (htext : (text == notModelled) = false) (hlimit : ¬ (stringBytes (stringToUtf16 text)).size > e.platform.arrayLengthLimit) (hheap : ¬ (stringBytes (stringToUtf16 text)).size * componentBytes .byte > e.platform.maxHeapBytes)
    {g : JFrame} (hg : g.method = m₀) (hsize : g.locals.size = c.maxLocals)
    (hRframes : names.length + 4 < R.frames) (hRlocals : 2 * g.monitorRoom + (g.stack.map fun v => v.category).sum + 10240 ≤ R.locals) (hshort : 13 * names.length + 55 ≤ 10240)
    (hRcells : cells + 3 ≤ R.cells) (hRslots : slots + ((stringBytes (stringToUtf16 text)).size + 4 + 6) ≤ R.slots) (hlocks : meth.locks = false) :
    ∃ (S : State) (q : Addr) (ce : Cell), (∀ target, Steps p.tables e below ((S.setTop g).pushFrame (.throwing q)) target → Steps p.tables e below ((W.setTop g).pushFrame (.throwNew cls (some text) none)) target) ∧
      Stand p l e R s m₀ args below meth c S locs (cells + 3) (slots + ((stringBytes (stringToUtf16 text)).size + 4 + 6)) ∧ S.heap[q]? = some ce ∧ s.vm.findClass cls = some ce.cls ∧ ce.vm = .none := by
  have howns : e.platform.frameOwnsMonitors = true := by rw [X.admits.platform]
  have hfin : e.platform.finalization = false := by rw [X.admits.platform]
  have hpl : e.platform.magicAccessors = ({} : Platform).magicAccessors := by rw [X.admits.platform]
  have a : ∀ x, x ∈ Bundle.messageArmAtoms cls names → x.holds args s none s [] = true := fun x hx => h x hx
  obtain ⟨T, Z0, L, -, Y⟩ := ThrowableC.of_atoms (args := args) howns hfin hpl (fun x hx => h x (by simp [Bundle.messageArmAtoms, hx]))
  obtain ⟨Z, M, LZ, LM, hnZ⟩ := Init0T.ofS_atoms (args := args) hpl L Y (fun x hx => h x (by simp [Bundle.messageArmAtoms, hx]))
  obtain ⟨P1, Ps, hlen, L1, hL, hP1m, hlink1, hlink⟩ := Bundle.chainS (args := args) hpl hnZ names cls hcls hnames (fun x hx => h x (by simp [Bundle.messageArmAtoms, hx]))
  obtain ⟨Zs, LZs, hn4, hfitv, hfitc⟩ := StringT.of_atoms (args := args) (fun x hx => h x (by simp [Bundle.messageArmAtoms, hx]))
  have hfound : s.vm.findClass cls = some P1.m.cls := findClass_of_methodNamed hP1m
  obtain ⟨c1, kX, hc1, hk, hord, -, -, hn6⟩ := Cond.instantiable_spec (a (.instantiable cls 6) (by simp [Bundle.messageArmAtoms]))
  cases Option.some.inj (hc1.symm.trans hfound)
  have hinit := Cond.initialized_spec hfound hk (a (.initialized cls) (by simp [Bundle.messageArmAtoms]))
  have hctor : kX.findMethod "<init>" "(Ljava/lang/String;)V" = some P1.m.idx := findMethod_of_methodNamed hP1m hk
  have hsel0 : selectMethod e.platform s.vm P1.m.cls T.fill0 = .method T.fill0 := by
    obtain ⟨c2, r2, m2, q1, q2, q3, q4, -⟩ := Cond.selects_spec (a (.selects cls Bundle.tFill0 Bundle.tFill0) (by simp [Bundle.messageArmAtoms]))
    cases Option.some.inj (q1.symm.trans hfound)
    cases Option.some.inj (q2.symm.trans (State.methodFound?_of_named Y.fill0 (by decide)))
    cases Option.some.inj (q3.symm.trans Y.fill0)
    rw [Launch.admits_selectMethod X.admits]; exact q4
  have hselF : selectMethod e.platform s.vm P1.m.cls T.fill = .method T.fill := by
    obtain ⟨c2, r2, m2, q1, q2, q3, q4, -⟩ := Cond.selects_spec (a (.selects cls Bundle.tFill Bundle.tFill) (by simp [Bundle.messageArmAtoms]))
    cases Option.some.inj (q1.symm.trans hfound)
    cases Option.some.inj (q2.symm.trans (State.methodFound?_of_named Y.fill (by decide)))
    cases Option.some.inj (q3.symm.trans Y.fill)
    rw [Launch.admits_selectMethod X.admits]; exact q4
  obtain ⟨cellS0, hcS0, hiss⟩ := Y.statics
  obtain ⟨u0, hu0⟩ := Cond.staticRefV Y.unassigned L.unassignedStatic L.statics hcS0 hiss (a (.isRef (.static Bundle.tN "UNASSIGNED_STACK" Bundle.steD)) (by simp [Bundle.messageArmAtoms]))
  obtain ⟨sen, hsen⟩ := Cond.staticRefV Y.sentinel L.sentinelStatic L.statics hcS0 hiss (a (.isRef (.static Bundle.tN "SUPPRESSED_SENTINEL" Bundle.listD)) (by simp [Bundle.messageArmAtoms]))
  obtain ⟨ci198, i198, fB, hk198, hg198, ha198, hsB, -, hnB, htB, hffB⟩ := Cond.ownField (t := .object "java/lang/Object") Y.found L.cls (by decide +kernel) (a (.fieldLink Bundle.tN 198 Bundle.tN "backtrace" "Ljava/lang/Object;") (by simp [Bundle.messageArmAtoms])) (a (.lays Bundle.tN Bundle.tN "backtrace" "Ljava/lang/Object;") (by simp [Bundle.messageArmAtoms])) e.platform hpl
  obtain ⟨cellS, hcS', heS, -, hkeep⟩ := X.same.2.2.2.2.2 T.aS cellS0 hcS0
  have hcellS : W.heap[T.aS]? = some cellS := hcS'
  have hout' : ∀ i, (⟨T.aS, i⟩ : Loc) ∉ locs := fun i hmem => by
    have := hlocs _ hmem cellS0 hcS0
    rw [hiss] at this; cases this
  have hknownS : cellS.vm ≠ .unknown := by
    rw [heS]; intro hu
    rw [show cellS0.vm = .unknown from hu] at hiss
    cases hiss
  have hvU : cellS.slots[T.fUnassigned.slot]? = some u0.v := by rw [hkeep _ (hout' _)]; exact hu0
  have hvSen : cellS.slots[T.fSentinel.slot]? = some sen.v := by rw [hkeep _ (hout' _)]; exact hsen
  obtain ⟨iM, hffM⟩ := Y.msg
  obtain ⟨tyC, dC, hdC, hdnC⟩ := Cond.laysAt hfound hk Y.cause (a (.lays cls Bundle.tN "cause" "Ljava/lang/Throwable;") (by simp [Bundle.messageArmAtoms]))
  obtain ⟨tyS, dS, hdS, hdnS⟩ := Cond.laysAt hfound hk Y.stack (a (.lays cls Bundle.tN "stackTrace" Bundle.steD) (by simp [Bundle.messageArmAtoms]))
  obtain ⟨tyP, dP, hdP, hdnP⟩ := Cond.laysAt hfound hk Y.supp (a (.lays cls Bundle.tN "suppressedExceptions" Bundle.listD) (by simp [Bundle.messageArmAtoms]))
  obtain ⟨tyM, dM, hdM, hdnM⟩ := Cond.laysAt hfound hk hffM (a (.lays cls Bundle.tN "detailMessage" "Ljava/lang/String;") (by simp [Bundle.messageArmAtoms]))
  obtain ⟨tyB, dB, hdB, hdnB⟩ := Cond.laysAt hfound hk hffB (a (.lays cls Bundle.tN "backtrace" "Ljava/lang/Object;") (by simp [Bundle.messageArmAtoms]))
  have bC := Cond.laysApart hdB hdC hdnB hdnC (by rw [hnB, Y.causeName]; decide)
  have bS := Cond.laysApart hdB hdS hdnB hdnS (by rw [hnB, Y.stackName]; decide)
  have bP := Cond.laysApart hdB hdP hdnB hdnP (by rw [hnB, Y.suppName]; decide)
  have hbk : ((preparedCellV T.toThrowableT (freshCell P1.m.cls kX) (W.heap.size + 2) u0 sen).withEntry W.cur).slots[fB.slot]? = some .null := by
    have := fresh_default (c := P1.m.cls) tyB
    rw [htB] at this
    simpa [preparedCellV, Cell.setSlot, Cell.withEntry, Array.getElem?_setIfInBounds, bC, bS, bP, bC.symm, bS.symm, bP.symm, defaultValue] using this
  have tkC := Takes.of_laid (v := .ref (W.heap.size + 2)) hk hord tyC (by rw [Y.causeType]; rfl)
  have tkS := Takes.of_laid (v := u0.v) hk hord tyS (by rw [Y.stackType]; exact fits_refV_array _ u0)
  have tkP := Takes.of_laid (v := sen.v) hk hord tyP (by rw [Y.suppType]; exact fits_refV_object _ sen)
  have tkM := Takes.of_laid (v := .ref (W.heap.size + 1)) hk hord tyM (by rw [Y.msgType]; rfl)
  have hskip : SkipFacts T e.platform s (fun u => u) u0 ((preparedCellV T.toThrowableT (freshCell P1.m.cls kX) (W.heap.size + 2) u0 sen).withEntry W.cur) := ⟨{ ci198 := ci198, i198 := i198, fBack := fB }, ⟨hk198, hg198, ha198, hsB⟩, hbk, fun _ _ => rfl⟩
  have h0 : At W g.method c below := by rw [hg]; exact X.here
  obtain ⟨hbeyond, hfreeW⟩ := X.vmMayThrow hsize (.throwNew cls (some text) none) (fun f hf => by cases hf) rfl hRlocals
  have hfr' : W.frames.length + Ps.length + 4 < (e.platform.stackLimits W.me).1 := by have := X.framesAbove hRframes; omega
  have hwd' : (stackUse (.java g :: W.frames.tail)).2 + 13 * Ps.length + 55 ≤ (e.platform.stackLimits W.me).2 := by have := X.stackAbove hsize (K := 13 * Ps.length + 55) (by omega); omega
  have hslots : W.slotsUsed + (stringBytes (stringToUtf16 text)).size + Zs.kS.instanceTypes.size + kX.instanceTypes.size ≤ e.platform.maxSlots := by
    have := X.slotsAbove hRslots
    rw [hn4, hn6]
    omega
  obtain ⟨vm', hW', st⟩ := Steps.vmThrowsMessageColdByV p (s₀ := s) (S := W) (g := g) h0 hexec T L Z LZ M LM X.warmed (t := W.cur) rfl Zs LZs P1 L1 Ps hL hlink1 hlink hsoe hoom hfound hk hinit hord hctor
    (Launch.admits_hotImplicitExceptions X.admits) hbeyond hfreeW htext hlimit hheap (X.cellsAbove hRcells) hslots (hfitv _) (hfitc _)
    (Nn := fun u => u) heapOnly_id (fun _ _ => rfl) (fun _ => rfl) (fun u x y => setCell_twice _ _ _ _) (fun _ => Nat.le_refl _) (cN := ((preparedCellV T.toThrowableT (freshCell P1.m.cls kX) (W.heap.size + 2) u0 sen).withEntry W.cur))
    hsel0 hcellS hknownS hvU tkS (fun _ hu => hu) (fun _ hu => hu) rfl rfl rfl (by simp [preparedCellV, Cell.setSlot, Cell.withEntry]) hskip (fun _ _ hA hW _ hroom _ hrest => L.nativeOff p htr hA hW hroom hrest) hselF hvSen tkC tkP tkM Y.objLocals rfl hfr' hwd'
  rw [plainBareV_eq T.toThrowableT (W.heap.size + 2) u0 sen (.ref (W.heap.size + 1)) W.cur rfl rfl] at st
  obtain ⟨-, -, w3, w4, -, -, -⟩ := withThrown_facts e.platform W Zs text P1.m.cls kX
  have X3 := ((X.pushed (bytesOf Zs.cB (stringToUtf16 text))).pushed (stringAt Zs.cS Zs.kS Zs.fv Zs.fc (stringToUtf16 text) W.heap.size)).pushed (freshCell P1.m.cls kX)
  rw [← withString_eq] at X3
  have X4 := X3.noted hW'
  have ha : (W.heap.size + 2) < ((withThrown W Zs text P1.m.cls kX).setVm vm').heap.size := by show _ < (withThrown W Zs text P1.m.cls kX).heap.size; rw [w3]; omega
  have hcell : ((withThrown W Zs text P1.m.cls kX).setVm vm').heap[(W.heap.size + 2)]? = some (freshCell P1.m.cls kX) := w4
  have X5 := ((((X4.stored hcell T.fCause.slot (.ref (W.heap.size + 2))).storedAgain ha T.fStack.slot u0.v).storedAgain ha T.fSupp.slot sen.v).storedAgain ha T.fStack.slot u0.v).storedAgain ha T.fMsg.slot (.ref (W.heap.size + 1))
  obtain ⟨g₁, hfrM⟩ := X5.frames_eq
  have hU : ((((withThrown W Zs text P1.m.cls kX).setVm vm').setCell (W.heap.size + 2) (plainBareV T.toThrowableT (freshCell P1.m.cls kX) (W.heap.size + 2) u0 sen (.ref (W.heap.size + 1)))).setTop g).pushFrame (.throwing (W.heap.size + 2)) = (((withThrown W Zs text P1.m.cls kX).setVm vm').setCell (W.heap.size + 2) (plainBareV T.toThrowableT (freshCell P1.m.cls kX) (W.heap.size + 2) u0 sen (.ref (W.heap.size + 1)))).setFrames (.throwing (W.heap.size + 2) :: .java g :: below) := by
    rw [State.pushFrame, State.frames_setTop _ hfrM, State.setTop_of_frames _ hfrM, State.setFrames_setFrames]
  have b1 : (bytesOf Zs.cB (stringToUtf16 text)).slots.size = (stringBytes (stringToUtf16 text)).size := by
    rw [(Cell.writeAll_facts _ _).2.2]; simp [bytes0]
  have b2 : (stringAt Zs.cS Zs.kS Zs.fv Zs.fc (stringToUtf16 text) W.heap.size).slots.size = 4 := by simp [string0, Cell.setSlot, hn4]
  have b3 : (freshCell P1.m.cls kX).slots.size = 6 := by simp [hn6]
  rw [b1, b2, b3] at X5
  have e9 : slots + (stringBytes (stringToUtf16 text)).size + 4 + 6 = slots + ((stringBytes (stringToUtf16 text)).size + 4 + 6) := by omega
  rw [e9] at X5
  simp only [List.append_assoc, List.cons_append, List.nil_append] at X5
  refine ⟨((withThrown W Zs text P1.m.cls kX).setVm vm').setCell (W.heap.size + 2) (plainBareV T.toThrowableT (freshCell P1.m.cls kX) (W.heap.size + 2) u0 sen (.ref (W.heap.size + 1))), W.heap.size + 2, _, fun target ht => st _ (by rw [X.tail, ← hU]; exact ht),
    X5.forget (fun y hy => ?_), heapAt_setCell_self _ ha, hfound, rfl⟩
  simp only [List.mem_cons, List.not_mem_nil, or_false] at hy
  have hge : s.heap.size ≤ W.heap.size := X.same.2.1
  rcases hy with rfl | rfl | rfl | rfl | rfl <;> exact Nat.le_trans hge (Nat.le_add_right _ 2)
set_option maxHeartbeats 1000000 in
/-- the machine throws NullPointerException, no traces kept: from its note over the frame g to 'throwing' over the same frame (follows the proof of Stand.vmThrowsNpe, Shelf42/KT2.lean; throwsNpeColdBareVAt, Shelf42/NT91.lean, called) -/
theorem vx_npeAt {p : Program} {l : Launch} {e : Env} {R : Room} {s : State} {m₀ : MethodId} {args : Array Value} {below : List Frame} {meth : Method} {c : Code} {W : State} {locs : List Loc} {cells slots : Nat}
    (X : Stand p l e R s m₀ args below meth c W locs cells slots) (hexec : p.tables.exec = Jvm.exec) (htr : e.platform.stackTraces = false) {n : Nat}
    (h : ∀ a ∈ Bundle.npeArmAtoms n, a.before args s = true)
    (hlocs : ∀ x ∈ locs, ∀ cell, s.heap[x.base]? = some cell → cell.vm.isStatics = false)
    {g : JFrame} (hg : g.method = m₀) (hsize : g.locals.size = c.maxLocals)
    (hRframes : 7 < R.frames) (hRlocals : 2 * g.monitorRoom + (g.stack.map fun v => v.category).sum + 10240 ≤ R.locals)
    (hRcells : cells + 1 ≤ R.cells) (hRslots : slots + n ≤ R.slots) (hlocks : meth.locks = false) :
    ∃ (S : State) (q : Addr) (ce : Cell), (∀ target, Steps p.tables e below ((S.setTop g).pushFrame (.throwing q)) target → Steps p.tables e below ((W.setTop g).pushFrame (.throwNew "java/lang/NullPointerException" none none)) target) ∧
      Stand p l e R s m₀ args below meth c S locs (cells + 1) (slots + n) ∧ S.heap[q]? = some ce ∧ s.vm.findClass "java/lang/NullPointerException" = some ce.cls ∧ ce.vm = .none := by
  have howns : e.platform.frameOwnsMonitors = true := by rw [X.admits.platform]
  have hfin : e.platform.finalization = false := by rw [X.admits.platform]
  have hpl : e.platform.magicAccessors = ({} : Platform).magicAccessors := by rw [X.admits.platform]
  have hpl2 : e.platform.arrayCloneIsPublic = true := by rw [X.admits.platform]
  have a' : ∀ x, x ∈ Bundle.npeArmAtoms n → x.holds args s none s [] = true := fun x hx => h x hx
  obtain ⟨T, Z, L, LZ, Y⟩ := ThrowableC.of_atoms (args := args) howns hfin hpl (fun x hx => h x (by simp [Bundle.npeArmAtoms, hx]))
  obtain ⟨N, LN, hcN, hnNF, hordN, hffS⟩ := NpeC.of_atoms (args := args) hpl hpl2 L Y (fun x hx => h x (by simp [Bundle.npeArmAtoms, hx]))
  obtain ⟨P1, L1, hP1m, hP1s⟩ := PassC.of_atoms (args := args) (s := s) hpl (X := Bundle.nN) (Y := Bundle.rN) (by decide) (by decide) LibCode.NullPointerException.Init0.at_0 LibCode.NullPointerException.Init0.at_1 LibCode.NullPointerException.Init0.at_4 (fun x hx => h x (by simp [Bundle.npeArmAtoms, hx]))
  obtain ⟨PR, LR, hPRm, hPRs⟩ := PassC.of_atoms (args := args) (s := s) hpl (X := Bundle.rN) (Y := Bundle.eN) (by decide) (by decide) LibCode.RuntimeException.Init0.at_0 LibCode.RuntimeException.Init0.at_1 LibCode.RuntimeException.Init0.at_4 (fun x hx => h x (by simp [Bundle.npeArmAtoms, hx]))
  obtain ⟨PE, LEx, hPEm, hPEs⟩ := PassC.of_atoms (args := args) (s := s) hpl (X := Bundle.eN) (Y := Bundle.tN) (by decide) (by decide) LibCode.Exception.Init0.at_0 LibCode.Exception.Init0.at_1 LibCode.Exception.Init0.at_4 (fun x hx => h x (by simp [Bundle.npeArmAtoms, hx]))
  have hfound : s.vm.findClass Bundle.nN = some P1.m.cls := findClass_of_methodNamed hP1m
  have ecls : N.cN = P1.m.cls := Option.some.inj (hcN.symm.trans hfound)
  have hk : s.vm.classes[P1.m.cls]? = some N.kN := by rw [← ecls]; exact LN.cls
  have hinit := Cond.initialized_spec hfound hk (a' (.initialized Bundle.nN) (by simp [Bundle.npeArmAtoms]))
  have hctor : N.kN.findMethod "<init>" "()V" = some P1.m.idx := findMethod_of_methodNamed hP1m hk
  obtain ⟨c1, k1, hc1, hk1, -, -, -, hn⟩ := Cond.instantiable_spec (a' (.instantiable Bundle.nN n) (by simp [Bundle.npeArmAtoms]))
  cases Option.some.inj (hc1.symm.trans hfound)
  cases Option.some.inj (hk1.symm.trans hk)
  have hfsz : (freshCell P1.m.cls N.kN).slots.size = n := by simp [hn]
  have hlink1 : P1.sup = PR.m := Option.some.inj (hP1s.symm.trans hPRm)
  have hlinkR : PR.sup = PE.m := Option.some.inj (hPRs.symm.trans hPEm)
  have hlinkE : PE.sup = Z.m T.toThrowableT := Option.some.inj (hPEs.symm.trans Y.init0)
  have hLs : ∀ P, P ∈ [PR, PE] → P.Links0 e.platform s := fun P hP => by
    simp only [List.mem_cons, List.not_mem_nil, or_false] at hP
    rcases hP with rfl | rfl
    · exact LR
    · exact LEx
  have hsel0 : selectMethod e.platform s.vm P1.m.cls T.fill0 = .method T.fill0 := by
    obtain ⟨c2, r2, m2, q1, q2, q3, q4, -⟩ := Cond.selects_spec (a' (.selects Bundle.nN Bundle.tFill0 Bundle.tFill0) (by simp [Bundle.npeArmAtoms]))
    cases Option.some.inj (q1.symm.trans hfound)
    cases Option.some.inj (q2.symm.trans (State.methodFound?_of_named Y.fill0 (by decide)))
    cases Option.some.inj (q3.symm.trans Y.fill0)
    rw [Launch.admits_selectMethod X.admits]; exact q4
  have hselF : selectMethod e.platform s.vm P1.m.cls T.fill = .method N.fill := by
    obtain ⟨c2, r2, m2, q1, q2, q3, q4, -⟩ := Cond.selects_spec (a' (.selects Bundle.nN Bundle.tFill Bundle.nFill) (by simp [Bundle.npeArmAtoms]))
    cases Option.some.inj (q1.symm.trans hfound)
    cases Option.some.inj (q2.symm.trans (State.methodFound?_of_named Y.fill (by decide)))
    cases Option.some.inj (q3.symm.trans hnNF)
    rw [Launch.admits_selectMethod X.admits]; exact q4
  obtain ⟨cellS0, hcS0, hiss⟩ := Y.statics
  obtain ⟨u0, hu0⟩ := Cond.staticRefV Y.unassigned L.unassignedStatic L.statics hcS0 hiss (a' (.isRef (.static Bundle.tN "UNASSIGNED_STACK" Bundle.steD)) (by simp [Bundle.npeArmAtoms]))
  obtain ⟨sen, hsen⟩ := Cond.staticRefV Y.sentinel L.sentinelStatic L.statics hcS0 hiss (a' (.isRef (.static Bundle.tN "SUPPRESSED_SENTINEL" Bundle.listD)) (by simp [Bundle.npeArmAtoms]))
  obtain ⟨ci198, i198, fB, hk198, hg198, ha198, hsB, -, hnB, htB, hffB⟩ := Cond.ownField (t := .object "java/lang/Object") Y.found L.cls (by decide +kernel) (a' (.fieldLink Bundle.tN 198 Bundle.tN "backtrace" Bundle.objD) (by simp [Bundle.npeArmAtoms])) (a' (.lays Bundle.tN Bundle.tN "backtrace" Bundle.objD) (by simp [Bundle.npeArmAtoms])) e.platform hpl
  obtain ⟨cellS, hcS', heS, -, hkeep⟩ := X.same.2.2.2.2.2 T.aS cellS0 hcS0
  have hcellS : W.heap[T.aS]? = some cellS := hcS'
  have hout' : ∀ i, (⟨T.aS, i⟩ : Loc) ∉ locs := fun i hmem => by
    have := hlocs _ hmem cellS0 hcS0
    rw [hiss] at this; cases this
  have hknownS : cellS.vm ≠ .unknown := by
    rw [heS]; intro hu
    rw [show cellS0.vm = .unknown from hu] at hiss
    cases hiss
  have hvU : cellS.slots[T.fUnassigned.slot]? = some u0.v := by rw [hkeep _ (hout' _)]; exact hu0
  have hvSen : cellS.slots[T.fSentinel.slot]? = some sen.v := by rw [hkeep _ (hout' _)]; exact hsen
  obtain ⟨tyC, dC, hdC, hdnC⟩ := Cond.laysAt hfound hk Y.cause (a' (.lays Bundle.nN Bundle.tN "cause" "Ljava/lang/Throwable;") (by simp [Bundle.npeArmAtoms]))
  obtain ⟨tyS, dS, hdS, hdnS⟩ := Cond.laysAt hfound hk Y.stack (a' (.lays Bundle.nN Bundle.tN "stackTrace" Bundle.steD) (by simp [Bundle.npeArmAtoms]))
  obtain ⟨tyP, dP, hdP, hdnP⟩ := Cond.laysAt hfound hk Y.supp (a' (.lays Bundle.nN Bundle.tN "suppressedExceptions" Bundle.listD) (by simp [Bundle.npeArmAtoms]))
  obtain ⟨tyX, dX, hdX, hdnX⟩ := Cond.laysAt hfound hk hffS (a' (.lays Bundle.nN Bundle.nN "extendedMessageState" "I") (by simp [Bundle.npeArmAtoms, Bundle.npeAtoms]))
  obtain ⟨hnX, htX⟩ := State.fieldFound?_type hffS (t := .int) (by decide +kernel)
  have xC := Cond.laysApart hdC hdX hdnC hdnX (by rw [hnX, Y.causeName]; decide)
  have xS := Cond.laysApart hdS hdX hdnS hdnX (by rw [hnX, Y.stackName]; decide)
  have xP := Cond.laysApart hdP hdX hdnP hdnX (by rw [hnX, Y.suppName]; decide)
  have hv0 : (freshCell P1.m.cls N.kN).slots[N.fState.slot]? = some (.int 0) := by
    have := fresh_default (c := P1.m.cls) tyX
    rw [htX] at this; exact this
  obtain ⟨tyB, dB, hdB, hdnB⟩ := Cond.laysAt hfound hk hffB (a' (.lays Bundle.nN Bundle.tN "backtrace" Bundle.objD) (by simp [Bundle.npeArmAtoms]))
  have bC := Cond.laysApart hdB hdC hdnB hdnC (by rw [hnB, Y.causeName]; decide)
  have bS := Cond.laysApart hdB hdS hdnB hdnS (by rw [hnB, Y.stackName]; decide)
  have bP := Cond.laysApart hdB hdP hdnB hdnP (by rw [hnB, Y.suppName]; decide)
  have bX := Cond.laysApart hdB hdX hdnB hdnX (by rw [hnB, hnX]; decide)
  have hbk : ((npeCell N.toNpeT (preparedCellV T.toThrowableT (freshCell P1.m.cls N.kN) W.heap.size u0 sen) W.cur).withEntry W.cur).slots[fB.slot]? = some .null := by
    have := fresh_default (c := P1.m.cls) tyB
    rw [htB] at this
    simpa [npeCell, preparedCellV, Cell.setSlot, Cell.withEntry, Array.getElem?_setIfInBounds, bC, bS, bP, bX, bC.symm, bS.symm, bP.symm, bX.symm, defaultValue] using this
  have tkC := Takes.of_laid (v := .ref W.heap.size) hk hordN tyC (by rw [Y.causeType]; rfl)
  have tkS := Takes.of_laid (v := u0.v) hk hordN tyS (by rw [Y.stackType]; exact fits_refV_array _ u0)
  have tkP := Takes.of_laid (v := sen.v) hk hordN tyP (by rw [Y.suppType]; exact fits_refV_object _ sen)
  have tkX := Takes.of_laid (v := .int 1) hk hordN tyX (by rw [htX]; rfl)
  have hskip : SkipFacts T e.platform s (fun u => u) u0 ((npeCell N.toNpeT (preparedCellV T.toThrowableT (freshCell P1.m.cls N.kN) W.heap.size u0 sen) W.cur).withEntry W.cur) := ⟨{ ci198 := ci198, i198 := i198, fBack := fB }, ⟨hk198, hg198, ha198, hsB⟩, hbk, fun _ _ => rfl⟩
  obtain ⟨vm', X3, st, -⟩ := X.throwsNpeColdBareVAt hexec hg hsize T L Z LZ N LN P1 L1 [PR, PE] hLs hlink1 ⟨hlinkR, hlinkE, trivial⟩ hfound hk hinit hordN hctor hsel0 hselF hcellS hknownS hvU hvSen
    hv0 xC xS xP tkC tkS tkP tkX Y.objLocals hskip (fun _ _ hA hW _ hroom _ hrest => L.nativeOff p htr hA hW hroom hrest) (by simpa using hRframes) hRlocals (by simp) hRcells (by rw [hn]; exact hRslots)
  have hlt : W.heap.size < ((W.pushCell (freshCell P1.m.cls N.kN)).setVm vm').heap.size := by
    show W.heap.size < (W.pushCell (freshCell P1.m.cls N.kN)).heap.size
    rw [State.heap_size_pushCell]; omega
  rw [hfsz] at X3
  obtain ⟨g₁, hfrM⟩ := X3.frames_eq
  have hU : ((((W.pushCell (freshCell P1.m.cls N.kN)).setVm vm').setCell W.heap.size (npeBareV T.toThrowableT N.toNpeT (freshCell P1.m.cls N.kN) W.heap.size u0 sen)).setTop g).pushFrame (.throwing W.heap.size) = (((W.pushCell (freshCell P1.m.cls N.kN)).setVm vm').setCell W.heap.size (npeBareV T.toThrowableT N.toNpeT (freshCell P1.m.cls N.kN) W.heap.size u0 sen)).setFrames (.throwing W.heap.size :: .java g :: below) := by
    rw [State.pushFrame, State.frames_setTop _ hfrM, State.setTop_of_frames _ hfrM, State.setFrames_setFrames]
  refine ⟨_, W.heap.size, _, fun target ht => st.trans (by rw [← hU]; exact ht), X3.forget (fun y hy => ?_), heapAt_setCell_self _ hlt, hfound, rfl⟩
  simp only [List.mem_cons, List.not_mem_nil, or_false] at hy
  have hge : s.heap.size ≤ W.heap.size := X.same.2.1
  rcases hy with rfl | rfl | rfl | rfl | rfl <;> exact hge
/-- the words of a machine's NullPointerException, but the four that speak of the heap -/
def vx_atN (n : Nat) : List Cond := (Bundle.npeArmAtoms n).filter vx_no
/-- the words of a machine's throw with a message, but the four that speak of the heap -/
def vx_atM (X : String) (names : List String) : List Cond := (Bundle.messageArmAtoms X names).filter vx_no
section
variable {p : Program} {l : Launch} {e : Env} {R : Room} {s : State} {m : MethodId} {args : Array Value} {below : List Frame} {meth : Method} {c : Code} {H : Heap} {locs : List Loc} {cells slots : Nat}
/-- a frame seen from a rebased start, seen from the first start again -/
theorem vx_back9 {T S : State} {R' : Room} {k n : Nat} (X : Stand p l e R s m args below meth c T locs cells slots) (Y : Stand p l e R' ((T.setVm s.vm).setFrames (.invoking m args :: below)) m args below meth c T [] 0 0) (Z : Stand p l e R' ((T.setVm s.vm).setFrames (.invoking m args :: below)) m args below meth c S [] k n) :
    Stand p l e R s m args below meth c S locs (cells + k) (slots + n) := by
  have hW0 : s.WarmedH ((T.setVm s.vm).setFrames (.invoking m args :: below)).vm := State.WarmedH.refl s
  refine { admits := X.admits, cas := X.cas, clock := X.clock, frames := X.frames, room := X.room, hears := X.hears, method := X.method, code := X.code, here := Z.here, tail := Z.tail, warmed := State.WarmedH.trans hW0 Z.warmed, limits := Z.limits.trans (Y.limits.symm.trans X.limits), bytes := Z.bytes.trans (Y.bytes.symm.trans X.bytes), same := ?_ }
  obtain ⟨e1, e2⟩ := Z.same
  rw [State.setFrames_setFrames] at e1
  have h2 : (T.setVm s.vm).sameButNew (S.setVm s.vm) [] k n := ⟨e1, e2⟩
  have h3 := X.same.trans h2
  rw [List.append_nil] at h3
  exact h3
/-- from the machine's note that E is thrown here with this text -/
def vx_Note (p : Program) (l : Launch) (e : Env) (R : Room) (s : State) (m : MethodId) (args : Array Value) (below : List Frame) (meth : Method) (c : Code) (H : Heap) (locs : List Loc) (cells slots : Nat) (Q : State → Prop) (g : JFrame) (E text : String) : Prop :=
  ∀ T : State, T.heap = H → Stand p l e R s m args below meth c T locs cells slots → ∃ t, Steps p.tables e below ((T.setTop g).pushFrame (.throwNew E (some text) none)) t ∧ Q t
theorem vx_vm {pc : Nat} {ls : Array Slot} {rest : List Value} {Q : State → Prop} (hexec : p.tables.exec = Jvm.exec) (hl : l.stackTraces = false) {cls text : String} {names : List String} {nb : Nat} {A : Nat → Prop}
    (hcls : Bundle.fit cls = true) (hnames : ∀ n ∈ names, Bundle.fit n = true) (hsoe : (cls == "java/lang/StackOverflowError") = false) (hoom : (cls == "java/lang/OutOfMemoryError") = false)
    (hat : ∀ w ∈ vx_atM cls names, w.before args s = true) (hgood : ∀ w ∈ vx_atM cls names, vx_ot w = true)
    (hU : vx_Zq Bundle.tN "UNASSIGNED_STACK" Bundle.steD A s s.heap) (hN : vx_Zq Bundle.tN "SUPPRESSED_SENTINEL" Bundle.listD A s s.heap) (hS : va_S A s.heap H locs) (hsize : ls.size = c.maxLocals)
    (htext : (text == notModelled) = false) (hnb : (stringBytes (stringToUtf16 text)).size ≤ nb) (hnb1 : nb ≤ 1000)
    (hRframes : names.length + 4 < R.frames) (hRlocals : (rest.map fun v => v.category).sum + 10240 ≤ R.locals) (hshort : 13 * names.length + 55 ≤ 10240) (hRcells : cells + 3 ≤ R.cells) (hRslots : slots + (nb + 10) ≤ R.slots) (hlocks : meth.locks = false)
    (k : ∀ (H1 : Heap) (q9 : Addr) (ce : Cell), H.size ≤ H1.size → (∀ q : Nat, q < H.size → H1[q]? = H[q]?) → va_S A s.heap H1 locs → H1[q9]? = some ce → ce.vm = .none → s.vm.findClass cls = some ce.cls → vx_W p l e R s m args below meth c H1 locs (cells + 3) (slots + (nb + 10)) Q (F0 m pc ls rest) q9) :
    vx_Note p l e R s m args below meth c H locs cells slots Q (F0 m pc ls rest) cls text := by
  intro T hT X
  have htr : e.platform.stackTraces = false := (show e.platform.stackTraces = l.stackTraces by rw [X.admits.platform]).trans hl
  have Y := vx_rebase X (R' := { frames := R.frames, locals := R.locals, cells := 3, slots := nb + 10 }) (Nat.le_refl _) (Nat.le_refl _) hRcells hRslots
  have hhp : ((T.setVm s.vm).setFrames (.invoking m args :: below)).heap = H := hT
  have hW0 : s.WarmedH ((T.setVm s.vm).setFrames (.invoking m args :: below)).vm := State.WarmedH.refl s
  have hat' : ∀ w ∈ vx_atM cls names, w.before args ((T.setVm s.vm).setFrames (.invoking m args :: below)) = true := fun w hw => vx_ot_at hW0 rfl (hgood w hw) (hat w hw)
  have hU' : vx_Zq Bundle.tN "UNASSIGNED_STACK" Bundle.steD A ((T.setVm s.vm).setFrames (.invoking m args :: below)) ((T.setVm s.vm).setFrames (.invoking m args :: below)).heap := by rw [hhp]; exact vx_Zq.moved hW0.alike (hU.kept hS.2.1)
  have hN' : vx_Zq Bundle.tN "SUPPRESSED_SENTINEL" Bundle.listD A ((T.setVm s.vm).setFrames (.invoking m args :: below)) ((T.setVm s.vm).setFrames (.invoking m args :: below)).heap := by rw [hhp]; exact vx_Zq.moved hW0.alike (hN.kept hS.2.1)
  obtain ⟨S, q, ce, st, Z, hce, hcl', hv⟩ := vx_vmAt Y hexec htr (cls := cls) (names := names) (text := text) hcls hnames hsoe hoom (vx_own hat' (vx_isRefq hU'.1) (vx_isRefq hN'.1) hU'.2.word hN'.2.word) (fun x hx => nomatch hx) htext
    (by rw [Launch.admits_arrayLengthLimit X.admits]; omega) (by rw [Launch.admits_maxHeapBytes X.admits]; simp only [componentBytes]; omega)
    (g := F0 m pc ls rest) rfl hsize hRframes (by show 2 * 0 + (rest.map fun v => v.category).sum + 10240 ≤ R.locals; omega) hshort (by show 0 + 3 ≤ 3; omega) (by show 0 + (_ + 4 + 6) ≤ nb + 10; omega) hlocks
  obtain ⟨f1, f2⟩ := vx_frame Z.same
  have f1' : H.size ≤ S.heap.size := by rw [← hT]; exact f1
  have f2' : ∀ q : Nat, q < H.size → S.heap[q]? = H[q]? := fun q hq => by
    rw [← hT]
    exact f2 q (by rw [← hT] at hq; exact hq) (fun z hz => nomatch hz)
  have X5 := vx_back9 X Y Z
  have X6 : Stand p l e R s m args below meth c S locs (cells + 3) (slots + (nb + 10)) := { X5 with same := X5.same.mono (by omega) (by omega) }
  obtain ⟨t, a1, b1⟩ := k S.heap q ce f1' f2' ⟨Nat.le_trans hS.1 f1', fun q h1 h2 => (f2' q (Nat.lt_of_lt_of_le h1 hS.1)).trans (hS.2.1 q h1 h2), hS.2.2⟩ hce hv hcl' S rfl X6
  exact ⟨t, st t a1, b1⟩
/-- from the machine's note that NullPointerException is thrown here -/
def vx_NoteN (p : Program) (l : Launch) (e : Env) (R : Room) (s : State) (m : MethodId) (args : Array Value) (below : List Frame) (meth : Method) (c : Code) (H : Heap) (locs : List Loc) (cells slots : Nat) (Q : State → Prop) (g : JFrame) : Prop :=
  ∀ T : State, T.heap = H → Stand p l e R s m args below meth c T locs cells slots → ∃ t, Steps p.tables e below ((T.setTop g).pushFrame (.throwNew "java/lang/NullPointerException" none none)) t ∧ Q t
theorem vx_npe {pc : Nat} {ls : Array Slot} {rest : List Value} {Q : State → Prop} (hexec : p.tables.exec = Jvm.exec) (hl : l.stackTraces = false) {nb : Nat} {A : Nat → Prop}
    (hat : ∀ w ∈ vx_atN nb, w.before args s = true) (hgood : ∀ w ∈ vx_atN nb, vx_ot w = true)
    (hU : vx_Zq Bundle.tN "UNASSIGNED_STACK" Bundle.steD A s s.heap) (hN : vx_Zq Bundle.tN "SUPPRESSED_SENTINEL" Bundle.listD A s s.heap) (hS : va_S A s.heap H locs) (hsize : ls.size = c.maxLocals)
    (hRframes : 7 < R.frames) (hRlocals : (rest.map fun v => v.category).sum + 10240 ≤ R.locals) (hRcells : cells + 1 ≤ R.cells) (hRslots : slots + nb ≤ R.slots) (hlocks : meth.locks = false)
    (k : ∀ (H1 : Heap) (q9 : Addr) (ce : Cell), H.size ≤ H1.size → (∀ q : Nat, q < H.size → H1[q]? = H[q]?) → va_S A s.heap H1 locs → H1[q9]? = some ce → ce.vm = .none → s.vm.findClass "java/lang/NullPointerException" = some ce.cls → vx_W p l e R s m args below meth c H1 locs (cells + 1) (slots + nb) Q (F0 m pc ls rest) q9) :
    vx_NoteN p l e R s m args below meth c H locs cells slots Q (F0 m pc ls rest) := by
  intro T hT X
  have htr : e.platform.stackTraces = false := (show e.platform.stackTraces = l.stackTraces by rw [X.admits.platform]).trans hl
  have Y := vx_rebase X (R' := { frames := R.frames, locals := R.locals, cells := 1, slots := nb }) (Nat.le_refl _) (Nat.le_refl _) hRcells hRslots
  have hhp : ((T.setVm s.vm).setFrames (.invoking m args :: below)).heap = H := hT
  have hW0 : s.WarmedH ((T.setVm s.vm).setFrames (.invoking m args :: below)).vm := State.WarmedH.refl s
  have hat' : ∀ w ∈ vx_atN nb, w.before args ((T.setVm s.vm).setFrames (.invoking m args :: below)) = true := fun w hw => vx_ot_at hW0 rfl (hgood w hw) (hat w hw)
  have hU' : vx_Zq Bundle.tN "UNASSIGNED_STACK" Bundle.steD A ((T.setVm s.vm).setFrames (.invoking m args :: below)) ((T.setVm s.vm).setFrames (.invoking m args :: below)).heap := by rw [hhp]; exact vx_Zq.moved hW0.alike (hU.kept hS.2.1)
  have hN' : vx_Zq Bundle.tN "SUPPRESSED_SENTINEL" Bundle.listD A ((T.setVm s.vm).setFrames (.invoking m args :: below)) ((T.setVm s.vm).setFrames (.invoking m args :: below)).heap := by rw [hhp]; exact vx_Zq.moved hW0.alike (hN.kept hS.2.1)
  obtain ⟨S, q, ce, st, Z, hce, hcl', hv⟩ := vx_npeAt Y hexec htr (n := nb) (vx_own hat' (vx_isRefq hU'.1) (vx_isRefq hN'.1) hU'.2.word hN'.2.word) (fun x hx => nomatch hx)
    (g := F0 m pc ls rest) rfl hsize hRframes (by show 2 * 0 + (rest.map fun v => v.category).sum + 10240 ≤ R.locals; omega) (by show 0 + 1 ≤ 1; omega) (by show 0 + nb ≤ nb; omega) hlocks
  obtain ⟨f1, f2⟩ := vx_frame Z.same
  have f1' : H.size ≤ S.heap.size := by rw [← hT]; exact f1
  have f2' : ∀ q : Nat, q < H.size → S.heap[q]? = H[q]? := fun q hq => by
    rw [← hT]
    exact f2 q (by rw [← hT] at hq; exact hq) (fun z hz => nomatch hz)
  have X5 := vx_back9 X Y Z
  have X6 : Stand p l e R s m args below meth c S locs (cells + 1) (slots + nb) := { X5 with same := X5.same.mono (by omega) (by omega) }
  obtain ⟨t, a1, b1⟩ := k S.heap q ce f1' f2' ⟨Nat.le_trans hS.1 f1', fun q h1 h2 => (f2' q (Nat.lt_of_lt_of_le h1 hS.1)).trans (hS.2.1 q h1 h2), hS.2.2⟩ hce hv hcl' S rfl X6
  exact ⟨t, st t a1, b1⟩
variable {Q : State → Prop} {cc : ByteArray} {pc : Nat} {ls : Array Slot} {rest : List Value}
theorem vx_idivZ (hexec : p.tables.exec = Jvm.exec) (hb : c.code = cc) {a b : Int32} (h0 : b = 0) (d : decode cc pc = .ok (.idiv, 1)) (k : vx_Note p l e R s m args below meth c H locs cells slots Q (F0 m pc ls rest) "java/lang/ArithmeticException" "/ by zero") :
    W p l e R s m args below meth c H locs cells slots Q (F0 m pc ls (.int b :: .int a :: rest)) := by
  intro T hT X
  obtain ⟨t, st, q⟩ := k T hT X
  exact ⟨t, X.idivZero hexec (g := F0 m pc ls (.int b :: .int a :: rest)) rfl (a := a) (rest := rest) (by rw [h0]) (by rw [hb]; exact d) t st, q⟩
theorem vx_iremZ (hexec : p.tables.exec = Jvm.exec) (hb : c.code = cc) {a b : Int32} (h0 : b = 0) (d : decode cc pc = .ok (.irem, 1)) (k : vx_Note p l e R s m args below meth c H locs cells slots Q (F0 m pc ls rest) "java/lang/ArithmeticException" "/ by zero") :
    W p l e R s m args below meth c H locs cells slots Q (F0 m pc ls (.int b :: .int a :: rest)) := by
  intro T hT X
  obtain ⟨t, st, q⟩ := k T hT X
  exact ⟨t, X.iremZero hexec (g := F0 m pc ls (.int b :: .int a :: rest)) rfl (a := a) (rest := rest) (by rw [h0]) (by rw [hb]; exact d) t st, q⟩
theorem vx_ldivZ (hexec : p.tables.exec = Jvm.exec) (hb : c.code = cc) {a b : Int64} (h0 : b = 0) (d : decode cc pc = .ok (.ldiv, 1)) (k : vx_Note p l e R s m args below meth c H locs cells slots Q (F0 m pc ls rest) "java/lang/ArithmeticException" "/ by zero") :
    W p l e R s m args below meth c H locs cells slots Q (F0 m pc ls (.long b :: .long a :: rest)) := by
  intro T hT X
  obtain ⟨t, st, q⟩ := k T hT X
  exact ⟨t, X.ldivZero hexec (g := F0 m pc ls (.long b :: .long a :: rest)) rfl (a := a) (rest := rest) (by rw [h0]) (by rw [hb]; exact d) t st, q⟩
theorem vx_lremZ (hexec : p.tables.exec = Jvm.exec) (hb : c.code = cc) {a b : Int64} (h0 : b = 0) (d : decode cc pc = .ok (.lrem, 1)) (k : vx_Note p l e R s m args below meth c H locs cells slots Q (F0 m pc ls rest) "java/lang/ArithmeticException" "/ by zero") :
    W p l e R s m args below meth c H locs cells slots Q (F0 m pc ls (.long b :: .long a :: rest)) := by
  intro T hT X
  obtain ⟨t, st, q⟩ := k T hT X
  exact ⟨t, X.lremZero hexec (g := F0 m pc ls (.long b :: .long a :: rest)) rfl (a := a) (rest := rest) (by rw [h0]) (by rw [hb]; exact d) t st, q⟩
theorem vx_ialdZ {D : va_G} {cl : List vw_C} {ws : va_W} {tys : List (ClassId × FieldType)} {a : Nat} (hexec : p.tables.exec = Jvm.exec) (hb : c.code = cc) (hK : va_K D cl tys s) (hP : va_P D cl ws H) (q0 t0 : Nat) {cA : ClassId} {n : Nat} {f : Nat → Int32} (ha : ws[q0]? = some (a, .inl (cA, n, .inl f))) (ht : tys[t0]? = some (cA, .int)) {i : Int32} (hout : ¬ vp_in i n) (hdg : decode cc pc = .ok (.iaload, 1))
    (k : ∀ tx : String, tx = (toString "Index " ++ toString i ++ toString " out of bounds for length " ++ toString n : String) → vx_Note p l e R s m args below meth c H locs cells slots Q (F0 m pc ls rest) "java/lang/ArrayIndexOutOfBoundsException" tx) : W p l e R s m args below meth c H locs cells slots Q (F0 m pc ls (.int i :: .ref a :: rest)) := by
  intro T hT X
  obtain ⟨t, st, q⟩ := k _ rfl T hT X
  refine ⟨t, ?_, q⟩
  have h1 := X.ialoadOut hexec (by rw [hT]; exact hP q0 _ ha) ((hK.2 t0 _ ht).1 n (fun j => .int (f j))) (j := i) (by show (i < 0 ∨ (arrV _ _ _).slots.size ≤ _); rw [arrV_size]; exact Classical.byContradiction hout) (g := F0 m pc ls (.int i :: .ref a :: rest)) rfl (rest := rest) rfl (by rw [hb]; exact hdg) t
  simp only [arrV_size] at h1
  exact h1 st
theorem vx_iastZ {D : va_G} {cl : List vw_C} {ws : va_W} {tys : List (ClassId × FieldType)} {a : Nat} (hexec : p.tables.exec = Jvm.exec) (hb : c.code = cc) (hK : va_K D cl tys s) (hP : va_P D cl ws H) (q0 t0 : Nat) {cA : ClassId} {n : Nat} {f : Nat → Int32} (ha : ws[q0]? = some (a, .inl (cA, n, .inl f))) (ht : tys[t0]? = some (cA, .int)) {i : Int32} {x : Int32} (hout : ¬ vp_in i n) (hdg : decode cc pc = .ok (.iastore, 1))
    (k : ∀ tx : String, tx = (toString "Index " ++ toString i ++ toString " out of bounds for length " ++ toString n : String) → vx_Note p l e R s m args below meth c H locs cells slots Q (F0 m pc ls rest) "java/lang/ArrayIndexOutOfBoundsException" tx) : W p l e R s m args below meth c H locs cells slots Q (F0 m pc ls (.int x :: .int i :: .ref a :: rest)) := by
  intro T hT X
  obtain ⟨t, st, q⟩ := k _ rfl T hT X
  refine ⟨t, ?_, q⟩
  have h1 := X.iastoreOut hexec (by rw [hT]; exact hP q0 _ ha) ((hK.2 t0 _ ht).1 n (fun j => .int (f j))) (j := i) (by show (i < 0 ∨ (arrV _ _ _).slots.size ≤ _); rw [arrV_size]; exact Classical.byContradiction hout) (g := F0 m pc ls (.int x :: .int i :: .ref a :: rest)) rfl (rest := rest) rfl (by rw [hb]; exact hdg) t
  simp only [arrV_size] at h1
  exact h1 st
theorem vx_baldZ {D : va_G} {cl : List vw_C} {ws : va_W} {tys : List (ClassId × FieldType)} {a : Nat} (hexec : p.tables.exec = Jvm.exec) (hb : c.code = cc) (hK : va_K D cl tys s) (hP : va_P D cl ws H) (q0 t0 : Nat) {cA : ClassId} {n : Nat} {f : Nat → Int32} (ha : ws[q0]? = some (a, .inl (cA, n, .inl f))) (ht : tys[t0]? = some (cA, .byte)) {i : Int32} (hout : ¬ vp_in i n) (hdg : decode cc pc = .ok (.baload, 1))
    (k : ∀ tx : String, tx = (toString "Index " ++ toString i ++ toString " out of bounds for length " ++ toString n : String) → vx_Note p l e R s m args below meth c H locs cells slots Q (F0 m pc ls rest) "java/lang/ArrayIndexOutOfBoundsException" tx) : W p l e R s m args below meth c H locs cells slots Q (F0 m pc ls (.int i :: .ref a :: rest)) := by
  intro T hT X
  obtain ⟨t, st, q⟩ := k _ rfl T hT X
  refine ⟨t, ?_, q⟩
  have h1 := X.baloadOut hexec (by rw [hT]; exact hP q0 _ ha) ((hK.2 t0 _ ht).1 n (fun j => .int (f j))) (j := i) (by show (i < 0 ∨ (arrV _ _ _).slots.size ≤ _); rw [arrV_size]; exact Classical.byContradiction hout) (g := F0 m pc ls (.int i :: .ref a :: rest)) rfl (rest := rest) rfl (by rw [hb]; exact hdg) t
  simp only [arrV_size] at h1
  exact h1 st
theorem vx_bastZ {D : va_G} {cl : List vw_C} {ws : va_W} {tys : List (ClassId × FieldType)} {a : Nat} (hexec : p.tables.exec = Jvm.exec) (hb : c.code = cc) (hK : va_K D cl tys s) (hP : va_P D cl ws H) (q0 t0 : Nat) {cA : ClassId} {n : Nat} {f : Nat → Int32} (ha : ws[q0]? = some (a, .inl (cA, n, .inl f))) (ht : tys[t0]? = some (cA, .byte)) {i : Int32} {x : Int32} (hout : ¬ vp_in i n) (hdg : decode cc pc = .ok (.bastore, 1))
    (k : ∀ tx : String, tx = (toString "Index " ++ toString i ++ toString " out of bounds for length " ++ toString n : String) → vx_Note p l e R s m args below meth c H locs cells slots Q (F0 m pc ls rest) "java/lang/ArrayIndexOutOfBoundsException" tx) : W p l e R s m args below meth c H locs cells slots Q (F0 m pc ls (.int x :: .int i :: .ref a :: rest)) := by
  intro T hT X
  obtain ⟨t, st, q⟩ := k _ rfl T hT X
  refine ⟨t, ?_, q⟩
  have h1 := X.bastoreOut hexec (by rw [hT]; exact hP q0 _ ha) ((hK.2 t0 _ ht).1 n (fun j => .int (f j))) (j := i) (by show (i < 0 ∨ (arrV _ _ _).slots.size ≤ _); rw [arrV_size]; exact Classical.byContradiction hout) (g := F0 m pc ls (.int x :: .int i :: .ref a :: rest)) rfl (rest := rest) rfl (by rw [hb]; exact hdg) t
  simp only [arrV_size] at h1
  exact h1 st
theorem vx_zaldZ {D : va_G} {cl : List vw_C} {ws : va_W} {tys : List (ClassId × FieldType)} {a : Nat} (hexec : p.tables.exec = Jvm.exec) (hb : c.code = cc) (hK : va_K D cl tys s) (hP : va_P D cl ws H) (q0 t0 : Nat) {cA : ClassId} {n : Nat} {f : Nat → Int32} (ha : ws[q0]? = some (a, .inl (cA, n, .inl f))) (ht : tys[t0]? = some (cA, .boolean)) {i : Int32} (hout : ¬ vp_in i n) (hdg : decode cc pc = .ok (.baload, 1))
    (k : ∀ tx : String, tx = (toString "Index " ++ toString i ++ toString " out of bounds for length " ++ toString n : String) → vx_Note p l e R s m args below meth c H locs cells slots Q (F0 m pc ls rest) "java/lang/ArrayIndexOutOfBoundsException" tx) : W p l e R s m args below meth c H locs cells slots Q (F0 m pc ls (.int i :: .ref a :: rest)) := by
  intro T hT X
  obtain ⟨t, st, q⟩ := k _ rfl T hT X
  refine ⟨t, ?_, q⟩
  have h1 := X.baloadOut hexec (by rw [hT]; exact hP q0 _ ha) ((hK.2 t0 _ ht).1 n (fun j => .int (f j))) (j := i) (by show (i < 0 ∨ (arrV _ _ _).slots.size ≤ _); rw [arrV_size]; exact Classical.byContradiction hout) (g := F0 m pc ls (.int i :: .ref a :: rest)) rfl (rest := rest) rfl (by rw [hb]; exact hdg) t
  simp only [arrV_size] at h1
  exact h1 st
theorem vx_zastZ {D : va_G} {cl : List vw_C} {ws : va_W} {tys : List (ClassId × FieldType)} {a : Nat} (hexec : p.tables.exec = Jvm.exec) (hb : c.code = cc) (hK : va_K D cl tys s) (hP : va_P D cl ws H) (q0 t0 : Nat) {cA : ClassId} {n : Nat} {f : Nat → Int32} (ha : ws[q0]? = some (a, .inl (cA, n, .inl f))) (ht : tys[t0]? = some (cA, .boolean)) {i : Int32} {x : Int32} (hout : ¬ vp_in i n) (hdg : decode cc pc = .ok (.bastore, 1))
    (k : ∀ tx : String, tx = (toString "Index " ++ toString i ++ toString " out of bounds for length " ++ toString n : String) → vx_Note p l e R s m args below meth c H locs cells slots Q (F0 m pc ls rest) "java/lang/ArrayIndexOutOfBoundsException" tx) : W p l e R s m args below meth c H locs cells slots Q (F0 m pc ls (.int x :: .int i :: .ref a :: rest)) := by
  intro T hT X
  obtain ⟨t, st, q⟩ := k _ rfl T hT X
  refine ⟨t, ?_, q⟩
  have h1 := X.bastoreOut hexec (by rw [hT]; exact hP q0 _ ha) ((hK.2 t0 _ ht).1 n (fun j => .int (f j))) (j := i) (by show (i < 0 ∨ (arrV _ _ _).slots.size ≤ _); rw [arrV_size]; exact Classical.byContradiction hout) (g := F0 m pc ls (.int x :: .int i :: .ref a :: rest)) rfl (rest := rest) rfl (by rw [hb]; exact hdg) t
  simp only [arrV_size] at h1
  exact h1 st
theorem vx_caldZ {D : va_G} {cl : List vw_C} {ws : va_W} {tys : List (ClassId × FieldType)} {a : Nat} (hexec : p.tables.exec = Jvm.exec) (hb : c.code = cc) (hK : va_K D cl tys s) (hP : va_P D cl ws H) (q0 t0 : Nat) {cA : ClassId} {n : Nat} {f : Nat → Int32} (ha : ws[q0]? = some (a, .inl (cA, n, .inl f))) (ht : tys[t0]? = some (cA, .char)) {i : Int32} (hout : ¬ vp_in i n) (hdg : decode cc pc = .ok (.caload, 1))
    (k : ∀ tx : String, tx = (toString "Index " ++ toString i ++ toString " out of bounds for length " ++ toString n : String) → vx_Note p l e R s m args below meth c H locs cells slots Q (F0 m pc ls rest) "java/lang/ArrayIndexOutOfBoundsException" tx) : W p l e R s m args below meth c H locs cells slots Q (F0 m pc ls (.int i :: .ref a :: rest)) := by
  intro T hT X
  obtain ⟨t, st, q⟩ := k _ rfl T hT X
  refine ⟨t, ?_, q⟩
  have h1 := X.caloadOut hexec (by rw [hT]; exact hP q0 _ ha) ((hK.2 t0 _ ht).1 n (fun j => .int (f j))) (j := i) (by show (i < 0 ∨ (arrV _ _ _).slots.size ≤ _); rw [arrV_size]; exact Classical.byContradiction hout) (g := F0 m pc ls (.int i :: .ref a :: rest)) rfl (rest := rest) rfl (by rw [hb]; exact hdg) t
  simp only [arrV_size] at h1
  exact h1 st
theorem vx_castZ {D : va_G} {cl : List vw_C} {ws : va_W} {tys : List (ClassId × FieldType)} {a : Nat} (hexec : p.tables.exec = Jvm.exec) (hb : c.code = cc) (hK : va_K D cl tys s) (hP : va_P D cl ws H) (q0 t0 : Nat) {cA : ClassId} {n : Nat} {f : Nat → Int32} (ha : ws[q0]? = some (a, .inl (cA, n, .inl f))) (ht : tys[t0]? = some (cA, .char)) {i : Int32} {x : Int32} (hout : ¬ vp_in i n) (hdg : decode cc pc = .ok (.castore, 1))
    (k : ∀ tx : String, tx = (toString "Index " ++ toString i ++ toString " out of bounds for length " ++ toString n : String) → vx_Note p l e R s m args below meth c H locs cells slots Q (F0 m pc ls rest) "java/lang/ArrayIndexOutOfBoundsException" tx) : W p l e R s m args below meth c H locs cells slots Q (F0 m pc ls (.int x :: .int i :: .ref a :: rest)) := by
  intro T hT X
  obtain ⟨t, st, q⟩ := k _ rfl T hT X
  refine ⟨t, ?_, q⟩
  have h1 := X.castoreOut hexec (by rw [hT]; exact hP q0 _ ha) ((hK.2 t0 _ ht).1 n (fun j => .int (f j))) (j := i) (by show (i < 0 ∨ (arrV _ _ _).slots.size ≤ _); rw [arrV_size]; exact Classical.byContradiction hout) (g := F0 m pc ls (.int x :: .int i :: .ref a :: rest)) rfl (rest := rest) rfl (by rw [hb]; exact hdg) t
  simp only [arrV_size] at h1
  exact h1 st
theorem vx_saldZ {D : va_G} {cl : List vw_C} {ws : va_W} {tys : List (ClassId × FieldType)} {a : Nat} (hexec : p.tables.exec = Jvm.exec) (hb : c.code = cc) (hK : va_K D cl tys s) (hP : va_P D cl ws H) (q0 t0 : Nat) {cA : ClassId} {n : Nat} {f : Nat → Int32} (ha : ws[q0]? = some (a, .inl (cA, n, .inl f))) (ht : tys[t0]? = some (cA, .short)) {i : Int32} (hout : ¬ vp_in i n) (hdg : decode cc pc = .ok (.saload, 1))
    (k : ∀ tx : String, tx = (toString "Index " ++ toString i ++ toString " out of bounds for length " ++ toString n : String) → vx_Note p l e R s m args below meth c H locs cells slots Q (F0 m pc ls rest) "java/lang/ArrayIndexOutOfBoundsException" tx) : W p l e R s m args below meth c H locs cells slots Q (F0 m pc ls (.int i :: .ref a :: rest)) := by
  intro T hT X
  obtain ⟨t, st, q⟩ := k _ rfl T hT X
  refine ⟨t, ?_, q⟩
  have h1 := X.saloadOut hexec (by rw [hT]; exact hP q0 _ ha) ((hK.2 t0 _ ht).1 n (fun j => .int (f j))) (j := i) (by show (i < 0 ∨ (arrV _ _ _).slots.size ≤ _); rw [arrV_size]; exact Classical.byContradiction hout) (g := F0 m pc ls (.int i :: .ref a :: rest)) rfl (rest := rest) rfl (by rw [hb]; exact hdg) t
  simp only [arrV_size] at h1
  exact h1 st
theorem vx_sastZ {D : va_G} {cl : List vw_C} {ws : va_W} {tys : List (ClassId × FieldType)} {a : Nat} (hexec : p.tables.exec = Jvm.exec) (hb : c.code = cc) (hK : va_K D cl tys s) (hP : va_P D cl ws H) (q0 t0 : Nat) {cA : ClassId} {n : Nat} {f : Nat → Int32} (ha : ws[q0]? = some (a, .inl (cA, n, .inl f))) (ht : tys[t0]? = some (cA, .short)) {i : Int32} {x : Int32} (hout : ¬ vp_in i n) (hdg : decode cc pc = .ok (.sastore, 1))
    (k : ∀ tx : String, tx = (toString "Index " ++ toString i ++ toString " out of bounds for length " ++ toString n : String) → vx_Note p l e R s m args below meth c H locs cells slots Q (F0 m pc ls rest) "java/lang/ArrayIndexOutOfBoundsException" tx) : W p l e R s m args below meth c H locs cells slots Q (F0 m pc ls (.int x :: .int i :: .ref a :: rest)) := by
  intro T hT X
  obtain ⟨t, st, q⟩ := k _ rfl T hT X
  refine ⟨t, ?_, q⟩
  have h1 := X.sastoreOut hexec (by rw [hT]; exact hP q0 _ ha) ((hK.2 t0 _ ht).1 n (fun j => .int (f j))) (j := i) (by show (i < 0 ∨ (arrV _ _ _).slots.size ≤ _); rw [arrV_size]; exact Classical.byContradiction hout) (g := F0 m pc ls (.int x :: .int i :: .ref a :: rest)) rfl (rest := rest) rfl (by rw [hb]; exact hdg) t
  simp only [arrV_size] at h1
  exact h1 st
theorem vx_laldZ {D : va_G} {cl : List vw_C} {ws : va_W} {tys : List (ClassId × FieldType)} {a : Nat} (hexec : p.tables.exec = Jvm.exec) (hb : c.code = cc) (hK : va_K D cl tys s) (hP : va_P D cl ws H) (q0 t0 : Nat) {cA : ClassId} {n : Nat} {f : Nat → Int64} (ha : ws[q0]? = some (a, .inl (cA, n, .inr (.inl f)))) (ht : tys[t0]? = some (cA, .long)) {i : Int32} (hout : ¬ vp_in i n) (hdg : decode cc pc = .ok (.laload, 1))
    (k : ∀ tx : String, tx = (toString "Index " ++ toString i ++ toString " out of bounds for length " ++ toString n : String) → vx_Note p l e R s m args below meth c H locs cells slots Q (F0 m pc ls rest) "java/lang/ArrayIndexOutOfBoundsException" tx) : W p l e R s m args below meth c H locs cells slots Q (F0 m pc ls (.int i :: .ref a :: rest)) := by
  intro T hT X
  obtain ⟨t, st, q⟩ := k _ rfl T hT X
  refine ⟨t, ?_, q⟩
  have h1 := X.laloadOut hexec (by rw [hT]; exact hP q0 _ ha) ((hK.2 t0 _ ht).1 n (fun j => .long (f j))) (j := i) (by show (i < 0 ∨ (arrV _ _ _).slots.size ≤ _); rw [arrV_size]; exact Classical.byContradiction hout) (g := F0 m pc ls (.int i :: .ref a :: rest)) rfl (rest := rest) rfl (by rw [hb]; exact hdg) t
  simp only [arrV_size] at h1
  exact h1 st
theorem vx_lastZ {D : va_G} {cl : List vw_C} {ws : va_W} {tys : List (ClassId × FieldType)} {a : Nat} (hexec : p.tables.exec = Jvm.exec) (hb : c.code = cc) (hK : va_K D cl tys s) (hP : va_P D cl ws H) (q0 t0 : Nat) {cA : ClassId} {n : Nat} {f : Nat → Int64} (ha : ws[q0]? = some (a, .inl (cA, n, .inr (.inl f)))) (ht : tys[t0]? = some (cA, .long)) {i : Int32} {x : Int64} (hout : ¬ vp_in i n) (hdg : decode cc pc = .ok (.lastore, 1))
    (k : ∀ tx : String, tx = (toString "Index " ++ toString i ++ toString " out of bounds for length " ++ toString n : String) → vx_Note p l e R s m args below meth c H locs cells slots Q (F0 m pc ls rest) "java/lang/ArrayIndexOutOfBoundsException" tx) : W p l e R s m args below meth c H locs cells slots Q (F0 m pc ls (.long x :: .int i :: .ref a :: rest)) := by
  intro T hT X
  obtain ⟨t, st, q⟩ := k _ rfl T hT X
  refine ⟨t, ?_, q⟩
  have h1 := X.lastoreOut hexec (by rw [hT]; exact hP q0 _ ha) ((hK.2 t0 _ ht).1 n (fun j => .long (f j))) (j := i) (by show (i < 0 ∨ (arrV _ _ _).slots.size ≤ _); rw [arrV_size]; exact Classical.byContradiction hout) (g := F0 m pc ls (.long x :: .int i :: .ref a :: rest)) rfl (rest := rest) rfl (by rw [hb]; exact hdg) t
  simp only [arrV_size] at h1
  exact h1 st
theorem vx_faldZ {D : va_G} {cl : List vw_C} {ws : va_W} {tys : List (ClassId × FieldType)} {a : Nat} (hexec : p.tables.exec = Jvm.exec) (hb : c.code = cc) (hK : va_K D cl tys s) (hP : va_P D cl ws H) (q0 t0 : Nat) {cA : ClassId} {n : Nat} {f : Nat → UInt32} (ha : ws[q0]? = some (a, .inl (cA, n, .inr (.inr (.inl f))))) (ht : tys[t0]? = some (cA, .float)) {i : Int32} (hout : ¬ vp_in i n) (hdg : decode cc pc = .ok (.faload, 1))
    (k : ∀ tx : String, tx = (toString "Index " ++ toString i ++ toString " out of bounds for length " ++ toString n : String) → vx_Note p l e R s m args below meth c H locs cells slots Q (F0 m pc ls rest) "java/lang/ArrayIndexOutOfBoundsException" tx) : W p l e R s m args below meth c H locs cells slots Q (F0 m pc ls (.int i :: .ref a :: rest)) := by
  intro T hT X
  obtain ⟨t, st, q⟩ := k _ rfl T hT X
  refine ⟨t, ?_, q⟩
  have h1 := X.faloadOut hexec (by rw [hT]; exact hP q0 _ ha) ((hK.2 t0 _ ht).1 n (fun j => .float (f j))) (j := i) (by show (i < 0 ∨ (arrV _ _ _).slots.size ≤ _); rw [arrV_size]; exact Classical.byContradiction hout) (g := F0 m pc ls (.int i :: .ref a :: rest)) rfl (rest := rest) rfl (by rw [hb]; exact hdg) t
  simp only [arrV_size] at h1
  exact h1 st
theorem vx_fastZ {D : va_G} {cl : List vw_C} {ws : va_W} {tys : List (ClassId × FieldType)} {a : Nat} (hexec : p.tables.exec = Jvm.exec) (hb : c.code = cc) (hK : va_K D cl tys s) (hP : va_P D cl ws H) (q0 t0 : Nat) {cA : ClassId} {n : Nat} {f : Nat → UInt32} (ha : ws[q0]? = some (a, .inl (cA, n, .inr (.inr (.inl f))))) (ht : tys[t0]? = some (cA, .float)) {i : Int32} {x : UInt32} (hout : ¬ vp_in i n) (hdg : decode cc pc = .ok (.fastore, 1))
    (k : ∀ tx : String, tx = (toString "Index " ++ toString i ++ toString " out of bounds for length " ++ toString n : String) → vx_Note p l e R s m args below meth c H locs cells slots Q (F0 m pc ls rest) "java/lang/ArrayIndexOutOfBoundsException" tx) : W p l e R s m args below meth c H locs cells slots Q (F0 m pc ls (.float x :: .int i :: .ref a :: rest)) := by
  intro T hT X
  obtain ⟨t, st, q⟩ := k _ rfl T hT X
  refine ⟨t, ?_, q⟩
  have h1 := X.fastoreOut hexec (by rw [hT]; exact hP q0 _ ha) ((hK.2 t0 _ ht).1 n (fun j => .float (f j))) (j := i) (by show (i < 0 ∨ (arrV _ _ _).slots.size ≤ _); rw [arrV_size]; exact Classical.byContradiction hout) (g := F0 m pc ls (.float x :: .int i :: .ref a :: rest)) rfl (rest := rest) rfl (by rw [hb]; exact hdg) t
  simp only [arrV_size] at h1
  exact h1 st
theorem vx_daldZ {D : va_G} {cl : List vw_C} {ws : va_W} {tys : List (ClassId × FieldType)} {a : Nat} (hexec : p.tables.exec = Jvm.exec) (hb : c.code = cc) (hK : va_K D cl tys s) (hP : va_P D cl ws H) (q0 t0 : Nat) {cA : ClassId} {n : Nat} {f : Nat → UInt64} (ha : ws[q0]? = some (a, .inl (cA, n, .inr (.inr (.inr (.inl f)))))) (ht : tys[t0]? = some (cA, .double)) {i : Int32} (hout : ¬ vp_in i n) (hdg : decode cc pc = .ok (.daload, 1))
    (k : ∀ tx : String, tx = (toString "Index " ++ toString i ++ toString " out of bounds for length " ++ toString n : String) → vx_Note p l e R s m args below meth c H locs cells slots Q (F0 m pc ls rest) "java/lang/ArrayIndexOutOfBoundsException" tx) : W p l e R s m args below meth c H locs cells slots Q (F0 m pc ls (.int i :: .ref a :: rest)) := by
  intro T hT X
  obtain ⟨t, st, q⟩ := k _ rfl T hT X
  refine ⟨t, ?_, q⟩
  have h1 := X.daloadOut hexec (by rw [hT]; exact hP q0 _ ha) ((hK.2 t0 _ ht).1 n (fun j => .double (f j))) (j := i) (by show (i < 0 ∨ (arrV _ _ _).slots.size ≤ _); rw [arrV_size]; exact Classical.byContradiction hout) (g := F0 m pc ls (.int i :: .ref a :: rest)) rfl (rest := rest) rfl (by rw [hb]; exact hdg) t
  simp only [arrV_size] at h1
  exact h1 st
theorem vx_dastZ {D : va_G} {cl : List vw_C} {ws : va_W} {tys : List (ClassId × FieldType)} {a : Nat} (hexec : p.tables.exec = Jvm.exec) (hb : c.code = cc) (hK : va_K D cl tys s) (hP : va_P D cl ws H) (q0 t0 : Nat) {cA : ClassId} {n : Nat} {f : Nat → UInt64} (ha : ws[q0]? = some (a, .inl (cA, n, .inr (.inr (.inr (.inl f)))))) (ht : tys[t0]? = some (cA, .double)) {i : Int32} {x : UInt64} (hout : ¬ vp_in i n) (hdg : decode cc pc = .ok (.dastore, 1))
    (k : ∀ tx : String, tx = (toString "Index " ++ toString i ++ toString " out of bounds for length " ++ toString n : String) → vx_Note p l e R s m args below meth c H locs cells slots Q (F0 m pc ls rest) "java/lang/ArrayIndexOutOfBoundsException" tx) : W p l e R s m args below meth c H locs cells slots Q (F0 m pc ls (.double x :: .int i :: .ref a :: rest)) := by
  intro T hT X
  obtain ⟨t, st, q⟩ := k _ rfl T hT X
  refine ⟨t, ?_, q⟩
  have h1 := X.dastoreOut hexec (by rw [hT]; exact hP q0 _ ha) ((hK.2 t0 _ ht).1 n (fun j => .double (f j))) (j := i) (by show (i < 0 ∨ (arrV _ _ _).slots.size ≤ _); rw [arrV_size]; exact Classical.byContradiction hout) (g := F0 m pc ls (.double x :: .int i :: .ref a :: rest)) rfl (rest := rest) rfl (by rw [hb]; exact hdg) t
  simp only [arrV_size] at h1
  exact h1 st
theorem vx_arraylengthN (hexec : p.tables.exec = Jvm.exec) (hb : c.code = cc) (hdg : decode cc pc = .ok (.arraylength, 1)) (k : vx_NoteN p l e R s m args below meth c H locs cells slots Q (F0 m pc ls rest)) : W p l e R s m args below meth c H locs cells slots Q (F0 m pc ls (.null :: rest)) := by
  intro T hT X
  obtain ⟨t, st, q⟩ := k T hT X
  exact ⟨t, X.arraylengthNull hexec (g := F0 m pc ls (.null :: rest)) rfl (rest := rest) rfl (by rw [hb]; exact hdg) t st, q⟩
theorem vx_ialoadN (hexec : p.tables.exec = Jvm.exec) (hb : c.code = cc) {i : Int32} (hdg : decode cc pc = .ok (.iaload, 1)) (k : vx_NoteN p l e R s m args below meth c H locs cells slots Q (F0 m pc ls rest)) : W p l e R s m args below meth c H locs cells slots Q (F0 m pc ls (.int i :: .null :: rest)) := by
  intro T hT X
  obtain ⟨t, st, q⟩ := k T hT X
  exact ⟨t, X.ialoadNull hexec (g := F0 m pc ls (.int i :: .null :: rest)) rfl (rest := rest) rfl (by rw [hb]; exact hdg) t st, q⟩
theorem vx_laloadN (hexec : p.tables.exec = Jvm.exec) (hb : c.code = cc) {i : Int32} (hdg : decode cc pc = .ok (.laload, 1)) (k : vx_NoteN p l e R s m args below meth c H locs cells slots Q (F0 m pc ls rest)) : W p l e R s m args below meth c H locs cells slots Q (F0 m pc ls (.int i :: .null :: rest)) := by
  intro T hT X
  obtain ⟨t, st, q⟩ := k T hT X
  exact ⟨t, X.laloadNull hexec (g := F0 m pc ls (.int i :: .null :: rest)) rfl (rest := rest) rfl (by rw [hb]; exact hdg) t st, q⟩
theorem vx_faloadN (hexec : p.tables.exec = Jvm.exec) (hb : c.code = cc) {i : Int32} (hdg : decode cc pc = .ok (.faload, 1)) (k : vx_NoteN p l e R s m args below meth c H locs cells slots Q (F0 m pc ls rest)) : W p l e R s m args below meth c H locs cells slots Q (F0 m pc ls (.int i :: .null :: rest)) := by
  intro T hT X
  obtain ⟨t, st, q⟩ := k T hT X
  exact ⟨t, X.faloadNull hexec (g := F0 m pc ls (.int i :: .null :: rest)) rfl (rest := rest) rfl (by rw [hb]; exact hdg) t st, q⟩
theorem vx_daloadN (hexec : p.tables.exec = Jvm.exec) (hb : c.code = cc) {i : Int32} (hdg : decode cc pc = .ok (.daload, 1)) (k : vx_NoteN p l e R s m args below meth c H locs cells slots Q (F0 m pc ls rest)) : W p l e R s m args below meth c H locs cells slots Q (F0 m pc ls (.int i :: .null :: rest)) := by
  intro T hT X
  obtain ⟨t, st, q⟩ := k T hT X
  exact ⟨t, X.daloadNull hexec (g := F0 m pc ls (.int i :: .null :: rest)) rfl (rest := rest) rfl (by rw [hb]; exact hdg) t st, q⟩
theorem vx_aaloadN (hexec : p.tables.exec = Jvm.exec) (hb : c.code = cc) {i : Int32} (hdg : decode cc pc = .ok (.aaload, 1)) (k : vx_NoteN p l e R s m args below meth c H locs cells slots Q (F0 m pc ls rest)) : W p l e R s m args below meth c H locs cells slots Q (F0 m pc ls (.int i :: .null :: rest)) := by
  intro T hT X
  obtain ⟨t, st, q⟩ := k T hT X
  exact ⟨t, X.aaloadNull hexec (g := F0 m pc ls (.int i :: .null :: rest)) rfl (rest := rest) rfl (by rw [hb]; exact hdg) t st, q⟩
theorem vx_baloadN (hexec : p.tables.exec = Jvm.exec) (hb : c.code = cc) {i : Int32} (hdg : decode cc pc = .ok (.baload, 1)) (k : vx_NoteN p l e R s m args below meth c H locs cells slots Q (F0 m pc ls rest)) : W p l e R s m args below meth c H locs cells slots Q (F0 m pc ls (.int i :: .null :: rest)) := by
  intro T hT X
  obtain ⟨t, st, q⟩ := k T hT X
  exact ⟨t, X.baloadNull hexec (g := F0 m pc ls (.int i :: .null :: rest)) rfl (rest := rest) rfl (by rw [hb]; exact hdg) t st, q⟩
theorem vx_caloadN (hexec : p.tables.exec = Jvm.exec) (hb : c.code = cc) {i : Int32} (hdg : decode cc pc = .ok (.caload, 1)) (k : vx_NoteN p l e R s m args below meth c H locs cells slots Q (F0 m pc ls rest)) : W p l e R s m args below meth c H locs cells slots Q (F0 m pc ls (.int i :: .null :: rest)) := by
  intro T hT X
  obtain ⟨t, st, q⟩ := k T hT X
  exact ⟨t, X.caloadNull hexec (g := F0 m pc ls (.int i :: .null :: rest)) rfl (rest := rest) rfl (by rw [hb]; exact hdg) t st, q⟩
theorem vx_saloadN (hexec : p.tables.exec = Jvm.exec) (hb : c.code = cc) {i : Int32} (hdg : decode cc pc = .ok (.saload, 1)) (k : vx_NoteN p l e R s m args below meth c H locs cells slots Q (F0 m pc ls rest)) : W p l e R s m args below meth c H locs cells slots Q (F0 m pc ls (.int i :: .null :: rest)) := by
  intro T hT X
  obtain ⟨t, st, q⟩ := k T hT X
  exact ⟨t, X.saloadNull hexec (g := F0 m pc ls (.int i :: .null :: rest)) rfl (rest := rest) rfl (by rw [hb]; exact hdg) t st, q⟩
theorem vx_iastoreN (hexec : p.tables.exec = Jvm.exec) (hb : c.code = cc) {x : Int32} {i : Int32} (hdg : decode cc pc = .ok (.iastore, 1)) (k : vx_NoteN p l e R s m args below meth c H locs cells slots Q (F0 m pc ls rest)) : W p l e R s m args below meth c H locs cells slots Q (F0 m pc ls (.int x :: .int i :: .null :: rest)) := by
  intro T hT X
  obtain ⟨t, st, q⟩ := k T hT X
  exact ⟨t, X.iastoreNull hexec (g := F0 m pc ls (.int x :: .int i :: .null :: rest)) rfl (rest := rest) rfl (by rw [hb]; exact hdg) t st, q⟩
theorem vx_lastoreN (hexec : p.tables.exec = Jvm.exec) (hb : c.code = cc) {x : Int64} {i : Int32} (hdg : decode cc pc = .ok (.lastore, 1)) (k : vx_NoteN p l e R s m args below meth c H locs cells slots Q (F0 m pc ls rest)) : W p l e R s m args below meth c H locs cells slots Q (F0 m pc ls (.long x :: .int i :: .null :: rest)) := by
  intro T hT X
  obtain ⟨t, st, q⟩ := k T hT X
  exact ⟨t, X.lastoreNull hexec (g := F0 m pc ls (.long x :: .int i :: .null :: rest)) rfl (rest := rest) rfl (by rw [hb]; exact hdg) t st, q⟩
theorem vx_fastoreN (hexec : p.tables.exec = Jvm.exec) (hb : c.code = cc) {x : UInt32} {i : Int32} (hdg : decode cc pc = .ok (.fastore, 1)) (k : vx_NoteN p l e R s m args below meth c H locs cells slots Q (F0 m pc ls rest)) : W p l e R s m args below meth c H locs cells slots Q (F0 m pc ls (.float x :: .int i :: .null :: rest)) := by
  intro T hT X
  obtain ⟨t, st, q⟩ := k T hT X
  exact ⟨t, X.fastoreNull hexec (g := F0 m pc ls (.float x :: .int i :: .null :: rest)) rfl (rest := rest) rfl (by rw [hb]; exact hdg) t st, q⟩
theorem vx_dastoreN (hexec : p.tables.exec = Jvm.exec) (hb : c.code = cc) {x : UInt64} {i : Int32} (hdg : decode cc pc = .ok (.dastore, 1)) (k : vx_NoteN p l e R s m args below meth c H locs cells slots Q (F0 m pc ls rest)) : W p l e R s m args below meth c H locs cells slots Q (F0 m pc ls (.double x :: .int i :: .null :: rest)) := by
  intro T hT X
  obtain ⟨t, st, q⟩ := k T hT X
  exact ⟨t, X.dastoreNull hexec (g := F0 m pc ls (.double x :: .int i :: .null :: rest)) rfl (rest := rest) rfl (by rw [hb]; exact hdg) t st, q⟩
theorem vx_bastoreN (hexec : p.tables.exec = Jvm.exec) (hb : c.code = cc) {x : Int32} {i : Int32} (hdg : decode cc pc = .ok (.bastore, 1)) (k : vx_NoteN p l e R s m args below meth c H locs cells slots Q (F0 m pc ls rest)) : W p l e R s m args below meth c H locs cells slots Q (F0 m pc ls (.int x :: .int i :: .null :: rest)) := by
  intro T hT X
  obtain ⟨t, st, q⟩ := k T hT X
  exact ⟨t, X.bastoreNull hexec (g := F0 m pc ls (.int x :: .int i :: .null :: rest)) rfl (rest := rest) rfl (by rw [hb]; exact hdg) t st, q⟩
theorem vx_castoreN (hexec : p.tables.exec = Jvm.exec) (hb : c.code = cc) {x : Int32} {i : Int32} (hdg : decode cc pc = .ok (.castore, 1)) (k : vx_NoteN p l e R s m args below meth c H locs cells slots Q (F0 m pc ls rest)) : W p l e R s m args below meth c H locs cells slots Q (F0 m pc ls (.int x :: .int i :: .null :: rest)) := by
  intro T hT X
  obtain ⟨t, st, q⟩ := k T hT X
  exact ⟨t, X.castoreNull hexec (g := F0 m pc ls (.int x :: .int i :: .null :: rest)) rfl (rest := rest) rfl (by rw [hb]; exact hdg) t st, q⟩
theorem vx_sastoreN (hexec : p.tables.exec = Jvm.exec) (hb : c.code = cc) {x : Int32} {i : Int32} (hdg : decode cc pc = .ok (.sastore, 1)) (k : vx_NoteN p l e R s m args below meth c H locs cells slots Q (F0 m pc ls rest)) : W p l e R s m args below meth c H locs cells slots Q (F0 m pc ls (.int x :: .int i :: .null :: rest)) := by
  intro T hT X
  obtain ⟨t, st, q⟩ := k T hT X
  exact ⟨t, X.sastoreNull hexec (g := F0 m pc ls (.int x :: .int i :: .null :: rest)) rfl (rest := rest) rfl (by rw [hb]; exact hdg) t st, q⟩
theorem vx_invokeN {own C : String} {index maxL : Nat} {y : MethodName} {bytes : ByteArray} {ret : Option FieldType} (hexec : p.tables.exec = Jvm.exec) (hb : c.code = cc) (hown : s.vm.findClass own = some m.cls) (hlink : (Cond.methodLink own index y).before args s = true) (hinst : (Cond.instanceMethod y).before args s = true) (hcode : (Cond.code y bytes maxL ret).before args s = true) (hsel : (Cond.selects C y y).before args s = true)
    (hx : y.cls ≠ "java/lang/invoke/MethodHandle" ∧ y.cls ≠ "java/lang/invoke/VarHandle") {As : List Value} (hlen : (parseMethodDescriptor y.desc).map (fun d => d.parameters.length) = some As.length) (hdg : decode cc pc = .ok (.invokevirtual index, 3))
    (k : vx_NoteN p l e R s m args below meth c H locs cells slots Q (F0 m pc ls rest)) {st0 : List Value} (hst : st0 = As.reverse ++ .null :: rest) : W p l e R s m args below meth c H locs cells slots Q (F0 m pc ls st0) := by
  intro T hT X
  obtain ⟨r0, r, hn, hrm, hstR, hsigR⟩ := va_Decl.of hinst hcode
  obtain ⟨c2, r2, m2, q1, q2, q3, q4, kP, hkP, hkPi⟩ := Cond.selects_spec hsel
  cases hn.symm.trans q3
  have hl9 : As.length = r.sig.parameters.length := by
    rw [hsigR] at hlen
    exact (Option.some.inj hlen).symm
  obtain ⟨vm', X1, st1⟩ := X.invokevirtualNull hexec hown hlink hn hrm hstR hkP hkPi hx (g := F0 m pc ls st0) rfl (argsL := As) (rest := rest) hl9 hst (by rw [hb]; exact hdg)
  obtain ⟨t, st, q⟩ := k (T.setVm vm') hT X1
  exact ⟨t, st1 t st, q⟩
theorem vx_newarrayZ {atype : ArrayType} (hexec : p.tables.exec = Jvm.exec) (hb : c.code = cc) {n : Int32} (h0 : n < 0) (hdg : decode cc pc = .ok (.newarray atype, 2)) (k : ∀ tx : String, tx = toString n → vx_Note p l e R s m args below meth c H locs cells slots Q (F0 m pc ls rest) "java/lang/NegativeArraySizeException" tx) : W p l e R s m args below meth c H locs cells slots Q (F0 m pc ls (.int n :: rest)) := by
  intro T hT X
  obtain ⟨t, st, q⟩ := k _ rfl T hT X
  exact ⟨t, X.newarrayNegative hexec (g := F0 m pc ls (.int n :: rest)) rfl h0 (rest := rest) rfl (by rw [hb]; exact hdg) t st, q⟩
end
end VXM
/-! ===== END ===== -/
/-! ===== BEGIN an exception as an object: made, kept, thrown later (no traces kept) ===== -/
section VXK
variable {p : Program} {l : Launch} {e : Env} {R : Room} {s : State} {m₀ : MethodId} {args : Array Value} {below : List Frame} {meth : Method} {c : Code} {W : State} {locs : List Loc} {cells slots : Nat}
set_option maxHeartbeats 1000000 in
theorem vx_ctorMadeS (X : Stand p l e R s m₀ args below meth c W locs cells slots) (hexec : p.tables.exec = Jvm.exec) (htr : e.platform.stackTraces = false) {own cls : String} {names : List String} {ic : Nat}
    (hown : s.vm.findClass own = some m₀.cls) (hcls : Bundle.fit cls = true) (hnames : ∀ n ∈ names, Bundle.fit n = true)
    (h : ∀ a ∈ Bundle.ownAtoms own ic cls names, a.before args s = true)
    (hlocs : ∀ x ∈ locs, ∀ cell, s.heap[x.base]? = some cell → cell.vm.isStatics = false)
    {a : Addr} {cX : ClassId} {kX : Class} (hfoundX : s.vm.findClass cls = some cX) (hkX : s.vm.classes[cX]? = some kX) (hcell : W.heap[a]? = some (freshCell cX kX)) (hnew : s.heap.size ≤ a)
    {msg : Value} (hmsg : msg.isRef = true)
    {g : JFrame} (hg : g.method = m₀) (hsize : g.locals.size = c.maxLocals) {rest : List Value} (hstack : g.stack = msg :: .ref a :: .ref a :: rest)
    (hd6 : decode c.code g.pc = .ok (.invokespecial ic, 3))
    (hRframes : names.length + 3 < R.frames) (hRlocals : 2 * g.monitorRoom + ((Value.ref a :: rest).map fun v => v.category).sum + (13 * (names.length + 1) + 42) ≤ R.locals) :
    ∃ (V : State) (ce : Cell) (L : List Loc), Stand p l e R s m₀ args below meth c (V.setCell a ce) (locs ++ L) cells slots ∧ (∀ y ∈ L, y.base = a) ∧ a < V.heap.size ∧ ce.cls = cX ∧ ce.vm = .none ∧
      ∀ target, Steps p.tables e below ((V.setCell a ce).setTop { g with stack := .ref a :: rest, pc := g.pc + 3 }) target → Steps p.tables e below (W.setTop g) target := by
  have howns : e.platform.frameOwnsMonitors = true := by rw [X.admits.platform]
  have hfin : e.platform.finalization = false := by rw [X.admits.platform]
  have hpl : e.platform.magicAccessors = ({} : Platform).magicAccessors := by rw [X.admits.platform]
  have a' : ∀ x, x ∈ Bundle.ownAtoms own ic cls names → x.holds args s none s [] = true := fun x hx => h x hx
  obtain ⟨T, Z0, L, -, Y⟩ := ThrowableC.of_atoms (args := args) howns hfin hpl (fun x hx => h x (by simp [Bundle.ownAtoms, hx]))
  obtain ⟨Z, M, LZ, LM, hnZ⟩ := Init0T.ofS_atoms (args := args) hpl L Y (fun x hx => h x (by simp [Bundle.ownAtoms, hx]))
  obtain ⟨P1, Ps, hlen, L1, hL, hP1m, hlink1, hlink⟩ := Bundle.chainS (args := args) hpl hnZ names cls hcls hnames (fun x hx => h x (by simp [Bundle.ownAtoms, hx]))
  have hfound : s.vm.findClass cls = some P1.m.cls := findClass_of_methodNamed hP1m
  cases Option.some.inj (hfoundX.symm.trans hfound)
  obtain ⟨c1, kX', hc1, hk, hord, -, -, hn6⟩ := Cond.instantiable_spec (a' (.instantiable cls 6) (by simp [Bundle.ownAtoms]))
  cases Option.some.inj (hc1.symm.trans hfound)
  cases Option.some.inj (hkX.symm.trans hk)
  have hsel0 : selectMethod e.platform s.vm P1.m.cls T.fill0 = .method T.fill0 := by
    obtain ⟨c2, r2, m2, q1, q2, q3, q4, -⟩ := Cond.selects_spec (a' (.selects cls Bundle.tFill0 Bundle.tFill0) (by simp [Bundle.ownAtoms]))
    cases Option.some.inj (q1.symm.trans hfound)
    cases Option.some.inj (q2.symm.trans (State.methodFound?_of_named Y.fill0 (by decide)))
    cases Option.some.inj (q3.symm.trans Y.fill0)
    rw [Launch.admits_selectMethod X.admits]; exact q4
  have hselF : selectMethod e.platform s.vm P1.m.cls T.fill = .method T.fill := by
    obtain ⟨c2, r2, m2, q1, q2, q3, q4, -⟩ := Cond.selects_spec (a' (.selects cls Bundle.tFill Bundle.tFill) (by simp [Bundle.ownAtoms]))
    cases Option.some.inj (q1.symm.trans hfound)
    cases Option.some.inj (q2.symm.trans (State.methodFound?_of_named Y.fill (by decide)))
    cases Option.some.inj (q3.symm.trans Y.fill)
    rw [Launch.admits_selectMethod X.admits]; exact q4
  obtain ⟨cellS0, hcS0, hiss⟩ := Y.statics
  obtain ⟨u0, hu0⟩ := Cond.staticRefV Y.unassigned L.unassignedStatic L.statics hcS0 hiss (a' (.isRef (.static Bundle.tN "UNASSIGNED_STACK" Bundle.steD)) (by simp [Bundle.ownAtoms]))
  obtain ⟨sen, hsen⟩ := Cond.staticRefV Y.sentinel L.sentinelStatic L.statics hcS0 hiss (a' (.isRef (.static Bundle.tN "SUPPRESSED_SENTINEL" Bundle.listD)) (by simp [Bundle.ownAtoms]))
  obtain ⟨ci198, i198, fB, hk198, hg198, ha198, hsB, -, hnB, htB, hffB⟩ := Cond.ownField (t := .object "java/lang/Object") Y.found L.cls (by decide +kernel) (a' (.fieldLink Bundle.tN 198 Bundle.tN "backtrace" "Ljava/lang/Object;") (by simp [Bundle.ownAtoms])) (a' (.lays Bundle.tN Bundle.tN "backtrace" "Ljava/lang/Object;") (by simp [Bundle.ownAtoms])) e.platform hpl
  obtain ⟨cellS, hcS', heS, -, hkeep⟩ := X.same.2.2.2.2.2 T.aS cellS0 hcS0
  have hcellS : W.heap[T.aS]? = some cellS := hcS'
  have hout' : ∀ i, (⟨T.aS, i⟩ : Loc) ∉ locs := fun i hmem => by
    have := hlocs _ hmem cellS0 hcS0
    rw [hiss] at this; cases this
  have hknownS : cellS.vm ≠ .unknown := by
    rw [heS]; intro hu
    rw [show cellS0.vm = .unknown from hu] at hiss
    cases hiss
  have hneS : T.aS ≠ a := Nat.ne_of_lt (Nat.lt_of_lt_of_le (Array.getElem?_eq_some_iff.mp hcS0).1 hnew)
  obtain ⟨iM, hffM⟩ := Y.msg
  obtain ⟨tyC, dC, hdC, hdnC⟩ := Cond.laysAt hfound hk Y.cause (a' (.lays cls Bundle.tN "cause" "Ljava/lang/Throwable;") (by simp [Bundle.ownAtoms]))
  obtain ⟨tyS, dS, hdS, hdnS⟩ := Cond.laysAt hfound hk Y.stack (a' (.lays cls Bundle.tN "stackTrace" Bundle.steD) (by simp [Bundle.ownAtoms]))
  obtain ⟨tyP, dP, hdP, hdnP⟩ := Cond.laysAt hfound hk Y.supp (a' (.lays cls Bundle.tN "suppressedExceptions" Bundle.listD) (by simp [Bundle.ownAtoms]))
  obtain ⟨tyM, dM, hdM, hdnM⟩ := Cond.laysAt hfound hk hffM (a' (.lays cls Bundle.tN "detailMessage" "Ljava/lang/String;") (by simp [Bundle.ownAtoms]))
  obtain ⟨tyB, dB, hdB, hdnB⟩ := Cond.laysAt hfound hk hffB (a' (.lays cls Bundle.tN "backtrace" "Ljava/lang/Object;") (by simp [Bundle.ownAtoms]))
  have bC := Cond.laysApart hdB hdC hdnB hdnC (by rw [hnB, Y.causeName]; decide)
  have bS := Cond.laysApart hdB hdS hdnB hdnS (by rw [hnB, Y.stackName]; decide)
  have bP := Cond.laysApart hdB hdP hdnB hdnP (by rw [hnB, Y.suppName]; decide)
  have hskip : SkipFacts T e.platform s (fun u => u) u0 ((preparedCellV T.toThrowableT (freshCell P1.m.cls kX) a u0 sen).withEntry W.cur) :=
    ⟨{ ci198 := ci198, i198 := i198, fBack := fB }, ⟨hk198, hg198, ha198, hsB⟩, by
      have := fresh_default (c := P1.m.cls) tyB
      rw [htB] at this
      simpa [preparedCellV, Cell.setSlot, Cell.withEntry, Array.getElem?_setIfInBounds, bC, bS, bP, bC.symm, bS.symm, bP.symm, defaultValue] using this, fun _ _ => rfl⟩
  obtain ⟨tm, methC, cdC, kC, vm₁, hnC, -, -, -, -, -, -, -, hW₁, st1⟩ := Steps.initColdS (tb := p.tables) (e := e) (below := below) (s := s) (U := W) X.here hexec X.warmed hpl hown (t := Bundle.initS cls) rfl rfl (Bundle.fit_spec hcls).2
    (a' (.methodLink own ic (Bundle.initS cls)) (by simp [Bundle.ownAtoms])) (h (.instanceMethod (Bundle.initS cls)) (by cases names <;> simp [Bundle.ownAtoms, Bundle.chainSAtoms, Bundle.passSAtoms])) (bytes := Bundle.six) (maxL := 2) (h (.code (Bundle.initS cls) Bundle.six 2 none) (by cases names <;> simp [Bundle.ownAtoms, Bundle.chainSAtoms, Bundle.passSAtoms]))
    (f := g) hg (a := a) (msg := msg) (rest := .ref a :: rest) hstack hd6
  cases Option.some.inj (hnC.symm.trans hP1m)
  have X₁ := X.noted hW₁
  obtain ⟨vm₂, X₂, st2⟩ := X₁.ctorMessageOffV hexec (g := { g with stack := .ref a :: rest }) hg hsize T L Z LZ M LM (P1 :: Ps)
    (fun P hP => by rcases List.mem_cons.mp hP with rfl | hP; exact L1; exact hL P hP) ⟨hlink1, hlink⟩ (u0 := u0) (sen := sen) (self := a) hmsg (cell := freshCell P1.m.cls kX) (cellS := cellS)
    hcell (fun _ => by simp) (by simp) rfl rfl hsel0 hselF hcellS hneS hknownS (by rw [hkeep _ (hout' _)]; exact hu0) (by rw [hkeep _ (hout' _)]; exact hsen)
    (Takes.of_laid hk hord tyC (by rw [Y.causeType]; rfl)) (Takes.of_laid hk hord tyS (by rw [Y.stackType]; exact fits_refV_array _ u0)) (Takes.of_laid hk hord tyP (by rw [Y.suppType]; exact fits_refV_object _ sen))
    (Takes.of_laid hk hord tyM (by rw [Y.msgType]; exact fits_refV_object _ ⟨msg, hmsg⟩)) Y.objLocals hskip htr [] hd6
    (by simp only [List.length_cons, hlen]; omega) (by simp only [List.length_cons, hlen]; exact hRlocals)
  have hlt : a < ((W.setVm vm₁).setVm vm₂).heap.size := (Array.getElem?_eq_some_iff.mp hcell).1
  refine ⟨(W.setVm vm₁).setVm vm₂, _, _, X₂, fun y hy => ?_, hlt, rfl, rfl, fun target hwalk => st1 _ (fun acts => ?_)⟩
  · simp only [List.mem_cons, List.not_mem_nil, or_false] at hy
    rcases hy with rfl | rfl | rfl | rfl | rfl <;> rfl
  · rw [doInvoke_state]
    exact st2 _ hwalk
set_option maxHeartbeats 1000000 in
theorem vx_ctorMade0 (X : Stand p l e R s m₀ args below meth c W locs cells slots) (hexec : p.tables.exec = Jvm.exec) (htr : e.platform.stackTraces = false) {own cls : String} {names : List String} {ic : Nat}
    (hown : s.vm.findClass own = some m₀.cls) (hcls : Bundle.fit cls = true) (hnames : ∀ n ∈ names, Bundle.fit n = true)
    (h : ∀ a ∈ Bundle.ownAtoms0 own ic cls names, a.before args s = true)
    (hlocs : ∀ x ∈ locs, ∀ cell, s.heap[x.base]? = some cell → cell.vm.isStatics = false)
    {a : Addr} {cX : ClassId} {kX : Class} (hfoundX : s.vm.findClass cls = some cX) (hkX : s.vm.classes[cX]? = some kX) (hcell : W.heap[a]? = some (freshCell cX kX)) (hnew : s.heap.size ≤ a)
    {g : JFrame} (hg : g.method = m₀) (hsize : g.locals.size = c.maxLocals) {rest : List Value} (hstack : g.stack = .ref a :: .ref a :: rest)
    (hd6 : decode c.code g.pc = .ok (.invokespecial ic, 3))
    (hRframes : names.length + 3 < R.frames) (hRlocals : 2 * g.monitorRoom + ((Value.ref a :: rest).map fun v => v.category).sum + (13 * (names.length + 1) + 41) ≤ R.locals) :
    ∃ (V : State) (ce : Cell) (L : List Loc), Stand p l e R s m₀ args below meth c (V.setCell a ce) (locs ++ L) cells slots ∧ (∀ y ∈ L, y.base = a) ∧ a < V.heap.size ∧ ce.cls = cX ∧ ce.vm = .none ∧
      ∀ target, Steps p.tables e below ((V.setCell a ce).setTop { g with stack := .ref a :: rest, pc := g.pc + 3 }) target → Steps p.tables e below (W.setTop g) target := by
  have howns : e.platform.frameOwnsMonitors = true := by rw [X.admits.platform]
  have hfin : e.platform.finalization = false := by rw [X.admits.platform]
  have hpl : e.platform.magicAccessors = ({} : Platform).magicAccessors := by rw [X.admits.platform]
  have a' : ∀ x, x ∈ Bundle.ownAtoms0 own ic cls names → x.holds args s none s [] = true := fun x hx => h x hx
  obtain ⟨T, Z, L, LZ, Y⟩ := ThrowableC.of_atoms (args := args) howns hfin hpl (fun x hx => h x (by simp [Bundle.ownAtoms0, hx]))
  obtain ⟨P1, Ps, hlen, L1, hL, hP1m, hlink1, hlink⟩ := Bundle.chain0 (args := args) hpl Y.init0 names cls hcls hnames (fun x hx => h x (by simp [Bundle.ownAtoms0, hx]))
  have hfound : s.vm.findClass cls = some P1.m.cls := findClass_of_methodNamed hP1m
  cases Option.some.inj (hfoundX.symm.trans hfound)
  obtain ⟨c1, kX', hc1, hk, hord, -, -, hn6⟩ := Cond.instantiable_spec (a' (.instantiable cls 6) (by simp [Bundle.ownAtoms0]))
  cases Option.some.inj (hc1.symm.trans hfound)
  cases Option.some.inj (hkX.symm.trans hk)
  have hsel0 : selectMethod e.platform s.vm P1.m.cls T.fill0 = .method T.fill0 := by
    obtain ⟨c2, r2, m2, q1, q2, q3, q4, -⟩ := Cond.selects_spec (a' (.selects cls Bundle.tFill0 Bundle.tFill0) (by simp [Bundle.ownAtoms0]))
    cases Option.some.inj (q1.symm.trans hfound)
    cases Option.some.inj (q2.symm.trans (State.methodFound?_of_named Y.fill0 (by decide)))
    cases Option.some.inj (q3.symm.trans Y.fill0)
    rw [Launch.admits_selectMethod X.admits]; exact q4
  have hselF : selectMethod e.platform s.vm P1.m.cls T.fill = .method T.fill := by
    obtain ⟨c2, r2, m2, q1, q2, q3, q4, -⟩ := Cond.selects_spec (a' (.selects cls Bundle.tFill Bundle.tFill) (by simp [Bundle.ownAtoms0]))
    cases Option.some.inj (q1.symm.trans hfound)
    cases Option.some.inj (q2.symm.trans (State.methodFound?_of_named Y.fill (by decide)))
    cases Option.some.inj (q3.symm.trans Y.fill)
    rw [Launch.admits_selectMethod X.admits]; exact q4
  obtain ⟨cellS0, hcS0, hiss⟩ := Y.statics
  obtain ⟨u0, hu0⟩ := Cond.staticRefV Y.unassigned L.unassignedStatic L.statics hcS0 hiss (a' (.isRef (.static Bundle.tN "UNASSIGNED_STACK" Bundle.steD)) (by simp [Bundle.ownAtoms0]))
  obtain ⟨sen, hsen⟩ := Cond.staticRefV Y.sentinel L.sentinelStatic L.statics hcS0 hiss (a' (.isRef (.static Bundle.tN "SUPPRESSED_SENTINEL" Bundle.listD)) (by simp [Bundle.ownAtoms0]))
  obtain ⟨ci198, i198, fB, hk198, hg198, ha198, hsB, -, hnB, htB, hffB⟩ := Cond.ownField (t := .object "java/lang/Object") Y.found L.cls (by decide +kernel) (a' (.fieldLink Bundle.tN 198 Bundle.tN "backtrace" "Ljava/lang/Object;") (by simp [Bundle.ownAtoms0])) (a' (.lays Bundle.tN Bundle.tN "backtrace" "Ljava/lang/Object;") (by simp [Bundle.ownAtoms0])) e.platform hpl
  obtain ⟨cellS, hcS', heS, -, hkeep⟩ := X.same.2.2.2.2.2 T.aS cellS0 hcS0
  have hcellS : W.heap[T.aS]? = some cellS := hcS'
  have hout' : ∀ i, (⟨T.aS, i⟩ : Loc) ∉ locs := fun i hmem => by
    have := hlocs _ hmem cellS0 hcS0
    rw [hiss] at this; cases this
  have hknownS : cellS.vm ≠ .unknown := by
    rw [heS]; intro hu
    rw [show cellS0.vm = .unknown from hu] at hiss
    cases hiss
  have hneS : T.aS ≠ a := Nat.ne_of_lt (Nat.lt_of_lt_of_le (Array.getElem?_eq_some_iff.mp hcS0).1 hnew)
  obtain ⟨iM, hffM⟩ := Y.msg
  obtain ⟨tyC, dC, hdC, hdnC⟩ := Cond.laysAt hfound hk Y.cause (a' (.lays cls Bundle.tN "cause" "Ljava/lang/Throwable;") (by simp [Bundle.ownAtoms0]))
  obtain ⟨tyS, dS, hdS, hdnS⟩ := Cond.laysAt hfound hk Y.stack (a' (.lays cls Bundle.tN "stackTrace" Bundle.steD) (by simp [Bundle.ownAtoms0]))
  obtain ⟨tyP, dP, hdP, hdnP⟩ := Cond.laysAt hfound hk Y.supp (a' (.lays cls Bundle.tN "suppressedExceptions" Bundle.listD) (by simp [Bundle.ownAtoms0]))
  obtain ⟨tyM, dM, hdM, hdnM⟩ := Cond.laysAt hfound hk hffM (a' (.lays cls Bundle.tN "detailMessage" "Ljava/lang/String;") (by simp [Bundle.ownAtoms0]))
  obtain ⟨tyB, dB, hdB, hdnB⟩ := Cond.laysAt hfound hk hffB (a' (.lays cls Bundle.tN "backtrace" "Ljava/lang/Object;") (by simp [Bundle.ownAtoms0]))
  have bC := Cond.laysApart hdB hdC hdnB hdnC (by rw [hnB, Y.causeName]; decide)
  have bS := Cond.laysApart hdB hdS hdnB hdnS (by rw [hnB, Y.stackName]; decide)
  have bP := Cond.laysApart hdB hdP hdnB hdnP (by rw [hnB, Y.suppName]; decide)
  have hskip : SkipFacts T e.platform s (fun u => u) u0 ((preparedCellV T.toThrowableT (freshCell P1.m.cls kX) a u0 sen).withEntry W.cur) :=
    ⟨{ ci198 := ci198, i198 := i198, fBack := fB }, ⟨hk198, hg198, ha198, hsB⟩, by
      have := fresh_default (c := P1.m.cls) tyB
      rw [htB] at this
      simpa [preparedCellV, Cell.setSlot, Cell.withEntry, Array.getElem?_setIfInBounds, bC, bS, bP, bC.symm, bS.symm, bP.symm, defaultValue] using this, fun _ _ => rfl⟩
  obtain ⟨tm, methC, cdC, kC, vm₁, hnC, -, -, -, -, -, -, -, hW₁, st1⟩ := Steps.initCold (tb := p.tables) (e := e) (below := below) (s := s) (U := W) X.here hexec X.warmed hpl hown (t := Bundle.init0 cls) rfl rfl (Bundle.fit_spec hcls).2
    (a' (.methodLink own ic (Bundle.init0 cls)) (by simp [Bundle.ownAtoms0])) (h (.instanceMethod (Bundle.init0 cls)) (by cases names <;> simp [Bundle.ownAtoms0, Bundle.chain0Atoms, Bundle.passAtoms])) (bytes := Bundle.five) (maxL := 1) (h (.code (Bundle.init0 cls) Bundle.five 1 none) (by cases names <;> simp [Bundle.ownAtoms0, Bundle.chain0Atoms, Bundle.passAtoms]))
    (f := g) hg (a := a) (rest := .ref a :: rest) hstack hd6
  cases Option.some.inj (hnC.symm.trans hP1m)
  have X₁ := X.noted hW₁
  obtain ⟨vm₂, X₂, st2⟩ := X₁.ctorPlainOffV hexec (g := { g with stack := .ref a :: rest }) hg hsize T L Z LZ (P1 :: Ps)
    (fun P hP => by rcases List.mem_cons.mp hP with rfl | hP; exact L1; exact hL P hP) ⟨hlink1, hlink⟩ (u0 := u0) (sen := sen) (self := a) (cell := freshCell P1.m.cls kX) (cellS := cellS)
    hcell (fun _ => by simp) (by simp) rfl rfl hsel0 hselF hcellS hneS hknownS (by rw [hkeep _ (hout' _)]; exact hu0) (by rw [hkeep _ (hout' _)]; exact hsen)
    (Takes.of_laid hk hord tyC (by rw [Y.causeType]; rfl)) (Takes.of_laid hk hord tyS (by rw [Y.stackType]; exact fits_refV_array _ u0)) (Takes.of_laid hk hord tyP (by rw [Y.suppType]; exact fits_refV_object _ sen)) Y.objLocals hskip htr [] hd6
    (by simp only [List.length_cons, hlen]; omega) (by simp only [List.length_cons, hlen]; exact hRlocals)
  have hlt : a < ((W.setVm vm₁).setVm vm₂).heap.size := (Array.getElem?_eq_some_iff.mp hcell).1
  refine ⟨(W.setVm vm₁).setVm vm₂, _, _, X₂, fun y hy => ?_, hlt, rfl, rfl, fun target hwalk => st1 _ (fun acts => ?_)⟩
  · simp only [List.mem_cons, List.not_mem_nil, or_false] at hy
    rcases hy with rfl | rfl | rfl | rfl <;> rfl
  · rw [doInvoke_state]
    exact st2 _ hwalk
end VXK
section VXK2
variable {p : Program} {l : Launch} {e : Env} {R : Room} {s : State} {m : MethodId} {args : Array Value} {below : List Frame} {meth : Method} {c : Code} {H : Heap} {locs : List Loc} {cells slots : Nat} {Q : State → Prop}
variable {ls : Array Slot} {rest : List Value} {D : va_G} {cl : List vw_C} {tys : List (ClassId × FieldType)} {ws : va_W}
/-- 'new E("text")' that isn't thrown at once: the object goes on the stack -/
theorem vx_makeS {cc : ByteArray} {pc : Nat} (hexec : p.tables.exec = Jvm.exec) (hb : c.code = cc) (hl : l.stackTraces = false) {own cls text : String} {names : List String} {ik is ic sa ci : Nat} {A : Nat → Prop} {T0 : u_T}
    (hown : s.vm.findClass own = some m.cls) (hcls : Bundle.fit cls = true) (hnames : ∀ n ∈ names, Bundle.fit n = true)
    (hk : (Cond.classLink own ik cls).before args s = true) (hini : (Cond.initialized cls).before args s = true) (hstr : vk_R own is text sa s) (hat : ∀ w ∈ vx_atS own ic cls names, w.before args s = true)
    (hgood : ∀ w ∈ Cond.classLink own ik cls :: Cond.initialized cls :: vx_atS own ic cls names, vx_ot w = true)
    (hU : vx_Zq Bundle.tN "UNASSIGNED_STACK" Bundle.steD A s s.heap) (hN : vx_Zq Bundle.tN "SUPPRESSED_SENTINEL" Bundle.listD A s s.heap) (hS : va_S A s.heap H locs) (hsize : ls.size = c.maxLocals)
    (d0 : decode cc pc = .ok (.new ik, 3)) (d3 : decode cc (pc + 3) = .ok (.dup, 1)) (d4 : decode cc (pc + 4) = .ok (.ldc is, 2)) (d6 : decode cc (pc + 6) = .ok (.invokespecial ic, 3))
    (hK : va_K D cl tys s) (hP : va_P D cl ws H) (hD : va_D A ws) (hA : ∀ q, s.heap.size ≤ q → A q) (hc : cl[ci]? = some (cls, T0, 0))
    (hRframes : names.length + 3 < R.frames) (hRlocals : (rest.map fun v => v.category).sum + (13 * (names.length + 1) + 43) ≤ R.locals) (hRcells : cells + 1 ≤ R.cells) (hRslots : slots + 6 ≤ R.slots)
    (kk : ∀ (q : Nat) (H1 : Heap), va_P D cl (ws ++ [(q, .inr (ci, []))]) H1 → va_D A (ws ++ [(q, .inr (ci, []))]) → va_S A s.heap H1 locs → W p l e R s m args below meth c H1 locs (cells + 1) (slots + 6) Q (F0 m (pc + 9) ls (.ref q :: rest))) :
    W p l e R s m args below meth c H locs cells slots Q (F0 m pc ls rest) := by
  intro T hT X
  subst hT
  have htr : e.platform.stackTraces = false := (show e.platform.stackTraces = l.stackTraces by rw [X.admits.platform]).trans hl
  have Y := vx_rebase X (R' := { frames := R.frames, locals := R.locals, cells := 1, slots := 6 }) (Nat.le_refl _) (Nat.le_refl _) hRcells hRslots
  obtain ⟨s', hA'⟩ : ∃ z, z = (T.setVm s.vm).setFrames (.invoking m args :: below) := ⟨_, rfl⟩
  rw [← hA'] at Y
  have hvm : s'.vm = s.vm := by rw [hA']; rfl
  have hhp : s'.heap = T.heap := by rw [hA']; rfl
  have hW0 : s.WarmedH s'.vm := by rw [hvm]; exact State.WarmedH.refl s
  have hat' : ∀ w ∈ vx_atS own ic cls names, w.before args s' = true := fun w hw => vx_ot_at hW0 hvm.symm (hgood w (List.mem_cons_of_mem _ (List.mem_cons_of_mem _ hw))) (hat w hw)
  have hk' : (Cond.classLink own ik cls).before args s' = true := vx_ot_at hW0 hvm.symm (hgood _ List.mem_cons_self) hk
  have hini' : (Cond.initialized cls).before args s' = true := vx_ot_at hW0 hvm.symm (hgood _ (List.mem_cons_of_mem _ List.mem_cons_self)) hini
  have hU' : vx_Zq Bundle.tN "UNASSIGNED_STACK" Bundle.steD A s' s'.heap := by rw [hhp]; exact vx_Zq.moved hW0.alike (hU.kept hS.2.1)
  have hN' : vx_Zq Bundle.tN "SUPPRESSED_SENTINEL" Bundle.listD A s' s'.heap := by rw [hhp]; exact vx_Zq.moved hW0.alike (hN.kept hS.2.1)
  have h : ∀ w ∈ Bundle.ownAtoms own ic cls names, w.before args s' = true := vx_own hat' (vx_isRefq hU'.1) (vx_isRefq hN'.1) hU'.2.word hN'.2.word
  have hown' : s'.vm.findClass own = some m.cls := by rw [hvm]; exact hown
  have hins : (Cond.instantiable cls 6).before args s' = true := h _ (by simp [Bundle.ownAtoms])
  obtain ⟨vm₁, cX, kX, hfX, hkX, -, -, X₁, st1⟩ := Y.newCold hexec (own := own) (C := cls) (index := ik) (n := 6) hown' hk' hins hini'
    (g := F0 m pc ls rest) rfl (by rw [hb]; exact d0) (Nat.le_refl _) (Nat.le_refl _)
  generalize hT1 : (T.setVm vm₁).pushCell { cls := cX, slots := kX.instanceTypes.map defaultValue, vm := .none } = T1 at X₁ st1
  have hcat : (Value.ref T.heap.size).category = 1 := rfl
  have hcellA : T1.heap[T.heap.size]? = some (freshCell cX kX) := by rw [← hT1]; exact State.heap_pushCell_size _ _
  have d3' : decode c.code (pc + 3) = .ok (.dup, 1) := by rw [hb]; exact d3
  have d4' : decode c.code (pc + 4) = .ok (.ldc is, 2) := by rw [hb]; exact d4
  have hstr' : vk_R own is text sa s' := vk_R.warm hW0 hstr
  obtain ⟨V, ce, L, Z, hL, hlt, hcl9, hvm9, st⟩ := vx_ctorMadeS X₁ hexec htr (own := own) (cls := cls) (names := names) (ic := ic) hown' hcls hnames h (fun x hx => nomatch hx) hfX hkX hcellA (by rw [hhp]; exact Nat.le_refl _) (msg := .ref sa) rfl
    (g := { method := m, pc := pc + 6, locals := ls, stack := .ref sa :: .ref T.heap.size :: .ref T.heap.size :: rest, locked := none }) rfl hsize (rest := rest) rfl
    (by rw [hb]; exact d6) hRframes (by simp only [List.map_cons, List.sum_cons, hcat]; omega)
  have Z0 := Stand.forget (locs := []) Z (fun y hy => by rw [hL y hy, hhp]; exact Nat.le_refl _)
  obtain ⟨f1, f2⟩ := vx_frame Z0.same
  rw [hhp] at f1 f2
  have hcid : ce.cls = D.1 ci := by
    rw [hcl9]
    have h1 := (hK.1 ci _ hc).2.1
    rw [hvm] at hfX
    exact Option.some.inj (hfX.symm.trans h1)
  have hh : (V.setCell T.heap.size ce).heap[T.heap.size]? = some ce := heapAt_setCell_self (s := V) ce hlt
  subst hA'
  have X5 := vx_back9 X Y Z0
  have X6 : Stand p l e R s m args below meth c (V.setCell T.heap.size ce) locs (cells + 1) (slots + 6) := { X5 with same := X5.same.mono (by omega) (by omega) }
  have hk9 : ∀ (k : Nat) (x : Nat × va_E), ws[k]? = some x → (V.setCell T.heap.size ce).heap[x.1]? = T.heap[x.1]? := fun k x hx => f2 x.1 ((hP k x hx).lt) (fun z hz => nomatch hz)
  obtain ⟨t, a1, b1⟩ := kk T.heap.size (V.setCell T.heap.size ce).heap ((hP.kept hk9).app (fun k x hx => by
      have hz : k < 1 := (List.getElem?_eq_some_iff.mp hx).1
      rw [show k = 0 by omega] at hx
      cases hx
      exact ⟨_, hc, ce, hh, hcid, hvm9, fun k hk => absurd hk (Nat.not_lt_zero k)⟩)) (hD.push hP rfl (hA _ hS.1)) ⟨Nat.le_trans hS.1 f1, fun q h1 h2 => (f2 q (Nat.lt_of_lt_of_le h1 hS.1) (fun z hz => nomatch hz)).trans (hS.2.1 q h1 h2), hS.2.2⟩ _ rfl X6
  refine ⟨t, st1 _ ?_, b1⟩
  show Steps p.tables e below (T1.setTop { method := m, pc := pc + 3, locals := ls, stack := .ref T.heap.size :: rest, locked := none }) _
  jvm_step X₁.here [X₁.here.top, hexec, d3', Value.category]
  exact X₁.ldcString hexec (own := own) (text := text) (index := is) (a := sa) hown' hstr'.1 hstr'.2
    (g := { method := m, pc := pc + 4, locals := ls, stack := .ref T.heap.size :: .ref T.heap.size :: rest, locked := none }) rfl d4' _ (st _ a1)
/-- 'new E()' that isn't thrown at once: the object goes on the stack -/
theorem vx_make0 {cc : ByteArray} {pc : Nat} (hexec : p.tables.exec = Jvm.exec) (hb : c.code = cc) (hl : l.stackTraces = false) {own cls : String} {names : List String} {ik ic ci : Nat} {A : Nat → Prop} {T0 : u_T}
    (hown : s.vm.findClass own = some m.cls) (hcls : Bundle.fit cls = true) (hnames : ∀ n ∈ names, Bundle.fit n = true)
    (hk : (Cond.classLink own ik cls).before args s = true) (hini : (Cond.initialized cls).before args s = true) (hat : ∀ w ∈ vx_at0 own ic cls names, w.before args s = true)
    (hgood : ∀ w ∈ Cond.classLink own ik cls :: Cond.initialized cls :: vx_at0 own ic cls names, vx_ot w = true)
    (hU : vx_Zq Bundle.tN "UNASSIGNED_STACK" Bundle.steD A s s.heap) (hN : vx_Zq Bundle.tN "SUPPRESSED_SENTINEL" Bundle.listD A s s.heap) (hS : va_S A s.heap H locs) (hsize : ls.size = c.maxLocals)
    (d0 : decode cc pc = .ok (.new ik, 3)) (d3 : decode cc (pc + 3) = .ok (.dup, 1)) (d4 : decode cc (pc + 4) = .ok (.invokespecial ic, 3))
    (hK : va_K D cl tys s) (hP : va_P D cl ws H) (hD : va_D A ws) (hA : ∀ q, s.heap.size ≤ q → A q) (hc : cl[ci]? = some (cls, T0, 0))
    (hRframes : names.length + 3 < R.frames) (hRlocals : (rest.map fun v => v.category).sum + (13 * (names.length + 1) + 42) ≤ R.locals) (hRcells : cells + 1 ≤ R.cells) (hRslots : slots + 6 ≤ R.slots)
    (kk : ∀ (q : Nat) (H1 : Heap), va_P D cl (ws ++ [(q, .inr (ci, []))]) H1 → va_D A (ws ++ [(q, .inr (ci, []))]) → va_S A s.heap H1 locs → W p l e R s m args below meth c H1 locs (cells + 1) (slots + 6) Q (F0 m (pc + 7) ls (.ref q :: rest))) :
    W p l e R s m args below meth c H locs cells slots Q (F0 m pc ls rest) := by
  intro T hT X
  subst hT
  have htr : e.platform.stackTraces = false := (show e.platform.stackTraces = l.stackTraces by rw [X.admits.platform]).trans hl
  have Y := vx_rebase X (R' := { frames := R.frames, locals := R.locals, cells := 1, slots := 6 }) (Nat.le_refl _) (Nat.le_refl _) hRcells hRslots
  obtain ⟨s', hA'⟩ : ∃ z, z = (T.setVm s.vm).setFrames (.invoking m args :: below) := ⟨_, rfl⟩
  rw [← hA'] at Y
  have hvm : s'.vm = s.vm := by rw [hA']; rfl
  have hhp : s'.heap = T.heap := by rw [hA']; rfl
  have hW0 : s.WarmedH s'.vm := by rw [hvm]; exact State.WarmedH.refl s
  have hat' : ∀ w ∈ vx_at0 own ic cls names, w.before args s' = true := fun w hw => vx_ot_at hW0 hvm.symm (hgood w (List.mem_cons_of_mem _ (List.mem_cons_of_mem _ hw))) (hat w hw)
  have hk' : (Cond.classLink own ik cls).before args s' = true := vx_ot_at hW0 hvm.symm (hgood _ List.mem_cons_self) hk
  have hini' : (Cond.initialized cls).before args s' = true := vx_ot_at hW0 hvm.symm (hgood _ (List.mem_cons_of_mem _ List.mem_cons_self)) hini
  have hU' : vx_Zq Bundle.tN "UNASSIGNED_STACK" Bundle.steD A s' s'.heap := by rw [hhp]; exact vx_Zq.moved hW0.alike (hU.kept hS.2.1)
  have hN' : vx_Zq Bundle.tN "SUPPRESSED_SENTINEL" Bundle.listD A s' s'.heap := by rw [hhp]; exact vx_Zq.moved hW0.alike (hN.kept hS.2.1)
  have h : ∀ w ∈ Bundle.ownAtoms0 own ic cls names, w.before args s' = true := vx_own hat' (vx_isRefq hU'.1) (vx_isRefq hN'.1) hU'.2.word hN'.2.word
  have hown' : s'.vm.findClass own = some m.cls := by rw [hvm]; exact hown
  have hins : (Cond.instantiable cls 6).before args s' = true := h _ (by simp [Bundle.ownAtoms0])
  obtain ⟨vm₁, cX, kX, hfX, hkX, -, -, X₁, st1⟩ := Y.newCold hexec (own := own) (C := cls) (index := ik) (n := 6) hown' hk' hins hini'
    (g := F0 m pc ls rest) rfl (by rw [hb]; exact d0) (Nat.le_refl _) (Nat.le_refl _)
  generalize hT1 : (T.setVm vm₁).pushCell { cls := cX, slots := kX.instanceTypes.map defaultValue, vm := .none } = T1 at X₁ st1
  have hcat : (Value.ref T.heap.size).category = 1 := rfl
  have hcellA : T1.heap[T.heap.size]? = some (freshCell cX kX) := by rw [← hT1]; exact State.heap_pushCell_size _ _
  have d3' : decode c.code (pc + 3) = .ok (.dup, 1) := by rw [hb]; exact d3
  obtain ⟨V, ce, L, Z, hL, hlt, hcl9, hvm9, st⟩ := vx_ctorMade0 X₁ hexec htr (own := own) (cls := cls) (names := names) (ic := ic) hown' hcls hnames h (fun x hx => nomatch hx) hfX hkX hcellA (by rw [hhp]; exact Nat.le_refl _)
    (g := { method := m, pc := pc + 4, locals := ls, stack := .ref T.heap.size :: .ref T.heap.size :: rest, locked := none }) rfl hsize (rest := rest) rfl
    (by rw [hb]; exact d4) hRframes (by simp only [List.map_cons, List.sum_cons, hcat]; omega)
  have Z0 := Stand.forget (locs := []) Z (fun y hy => by rw [hL y hy, hhp]; exact Nat.le_refl _)
  obtain ⟨f1, f2⟩ := vx_frame Z0.same
  rw [hhp] at f1 f2
  have hcid : ce.cls = D.1 ci := by
    rw [hcl9]
    have h1 := (hK.1 ci _ hc).2.1
    rw [hvm] at hfX
    exact Option.some.inj (hfX.symm.trans h1)
  have hh : (V.setCell T.heap.size ce).heap[T.heap.size]? = some ce := heapAt_setCell_self (s := V) ce hlt
  subst hA'
  have X5 := vx_back9 X Y Z0
  have X6 : Stand p l e R s m args below meth c (V.setCell T.heap.size ce) locs (cells + 1) (slots + 6) := { X5 with same := X5.same.mono (by omega) (by omega) }
  have hk9 : ∀ (k : Nat) (x : Nat × va_E), ws[k]? = some x → (V.setCell T.heap.size ce).heap[x.1]? = T.heap[x.1]? := fun k x hx => f2 x.1 ((hP k x hx).lt) (fun z hz => nomatch hz)
  obtain ⟨t, a1, b1⟩ := kk T.heap.size (V.setCell T.heap.size ce).heap ((hP.kept hk9).app (fun k x hx => by
      have hz : k < 1 := (List.getElem?_eq_some_iff.mp hx).1
      rw [show k = 0 by omega] at hx
      cases hx
      exact ⟨_, hc, ce, hh, hcid, hvm9, fun k hk => absurd hk (Nat.not_lt_zero k)⟩)) (hD.push hP rfl (hA _ hS.1)) ⟨Nat.le_trans hS.1 f1, fun q h1 h2 => (f2 q (Nat.lt_of_lt_of_le h1 hS.1) (fun z hz => nomatch hz)).trans (hS.2.1 q h1 h2), hS.2.2⟩ _ rfl X6
  refine ⟨t, st1 _ ?_, b1⟩
  show Steps p.tables e below (T1.setTop { method := m, pc := pc + 3, locals := ls, stack := .ref T.heap.size :: rest, locked := none }) _
  jvm_step X₁.here [X₁.here.top, hexec, d3', Value.category]
  exact st _ a1
/-- 'throw x' of an object that was made before -/
theorem vx_athrow {cc : ByteArray} {pc : Nat} (hexec : p.tables.exec = Jvm.exec) (hb : c.code = cc) {q : Addr} (hdg : decode cc pc = .ok (.athrow, 1)) (k : vx_W p l e R s m args below meth c H locs cells slots Q (F0 m pc ls rest) q) : W p l e R s m args below meth c H locs cells slots Q (F0 m pc ls (.ref q :: rest)) := by
  intro T hT X
  obtain ⟨t, st, hq⟩ := k T hT X
  refine ⟨t, ?_, hq⟩
  have hdg' : decode c.code pc = .ok (.athrow, 1) := by rw [hb]; exact hdg
  jvm_step X.here [X.here.top, hexec, hdg', athrow.wp_sem]
  exact st
end VXK2
/-! ===== END ===== -/
/-! ===== BEGIN a constructor that throws (launches without stack traces) ===== -/
section VXIA
variable {p : Program} {l : Launch} {e : Env} {R : Room} {s : State} {m : MethodId} {args : Array Value} {below : List Frame} {meth : Method} {c : Code} {T : State} {locs : List Loc} {cells slots : Nat}
theorem vx_callI (X : Stand p l e R s m args below meth c T locs cells slots) (hexec : p.tables.exec = Jvm.exec) {own : String} {index : Nat} {y : MethodName} {bytes : ByteArray} {maxL : Nat}
    (hown : s.vm.findClass own = some m.cls) (hy1 : y.name = "<init>") (hlink : (Cond.methodLink own index y).before args s = true) (hinst : (Cond.instanceMethod y).before args s = true)
    (hcode : (Cond.code y bytes maxL none).before args s = true) (hy : y.cls ≠ "java/lang/invoke/MethodHandle" ∧ y.cls ≠ "java/lang/invoke/VarHandle")
    {W9 : Nat} {Pre : Pt → Array Value → Prop} {Post : Pt → Array Value → Option Value → Pt → Prop} {PostX : Pt → Array Value → Addr → Pt → Prop} (hK : vx_Back l R p e below s args y 3 W9 Pre Post PostX)
    {g : JFrame} (hg : g.method = m) (hsize : g.locals.size = c.maxLocals) {a : Addr} {argsL rest : List Value} (hlen : ∀ sig, parseMethodDescriptor y.desc = some sig → argsL.length = sig.parameters.length)
    (hstack : g.stack = argsL.reverse ++ .ref a :: rest) (hW : 2 * g.monitorRoom + (rest.map fun v => v.category).sum ≤ W9) (hdg : decode c.code g.pc = .ok (.invokespecial index, 3))
    (hpre : ∀ vm₁, s.WarmedH vm₁ → Pre ⟨T.setVm vm₁, locs, cells, slots⟩ (Value.ref a :: argsL).toArray) :
    (∃ (v : Option Value) (vm₁ : Vm) (B : Pt), s.WarmedH vm₁ ∧ Stand p l e R s m args below meth c B.U B.locs B.cells B.slots ∧ Post ⟨T.setVm vm₁, locs, cells, slots⟩ (Value.ref a :: argsL).toArray v B ∧
      ∀ target, Steps p.tables e below (B.U.setTop { g with pc := g.pc + 3, stack := v.toList ++ rest }) target → Steps p.tables e below (T.setTop g) target) ∨
    (∃ (q : Addr) (vm₁ : Vm) (B : Pt), s.WarmedH vm₁ ∧ Stand p l e R s m args below meth c B.U B.locs B.cells B.slots ∧ PostX ⟨T.setVm vm₁, locs, cells, slots⟩ (Value.ref a :: argsL).toArray q B ∧
      Steps p.tables e below (T.setTop g) ((B.U.setTop { g with stack := rest }).pushFrame (.throwing q))) := by
  subst hg
  have hpl : e.platform.magicAccessors = ({} : Platform).magicAccessors := by rw [X.admits.platform]
  obtain ⟨mk, methM, cM, kP, vm₁, hnamed, hmethM, hcodeM, -, hlocalsM, -, hkP, -, hW₁, hstep₁⟩ := Steps.initColdArgs (e := e) X.here hexec X.warmed hpl hown hy1 hy hlink hinst hcode (f := g) rfl hlen hstack hdg
  have X₁ := X.noted hW₁
  rcases hK g.method meth c ⟨T.setVm vm₁, locs, cells, slots⟩ { g with stack := rest } (.invokespecial index) mk (Value.ref a :: argsL).toArray X₁ rfl hsize hdg hW (X₁.named hnamed) (hpre vm₁ X₁.warmed) with ⟨v, B, X', hpost, hsteps⟩ | ⟨q, B, X', hpost, hsteps⟩
  · exact Or.inl ⟨v, vm₁, B, X₁.warmed, X', hpost, fun target h => hstep₁ _ fun acts => by rw [doInvoke_state]; exact hsteps.trans h⟩
  · exact Or.inr ⟨q, vm₁, B, X₁.warmed, X', hpost, hstep₁ _ fun acts => by rw [doInvoke_state]; exact hsteps⟩
end VXIA
section VXIB
variable {p : Program} {l : Launch} {e : Env} {R : Room} {s : State} {m : MethodId} {args : Array Value} {below : List Frame} {meth : Method} {c : Code} {H : Heap} {locs : List Loc} {cells slots : Nat}
variable {y : MethodName} {bytes cc : ByteArray} {maxL nL mc ms n index : Nat} {ret : Option FieldType} {ws : List Cond} {rm : Room} {Pc : Array Value → State → Prop} {Qc : Array Value → State → Outcome → State → Prop} {XC : String → State → State → Prop} {free : Addr → Prop} {Ts : List Cond} {own C : String} {b : Addr} {As rest : List Value} {g : JFrame}
theorem vx_runI (S : CallFix p m c cc nL s args Ts own) (hM : vx_Met l y ws rm Pc Qc XC mc ms free) (cw : CallB R s args own index y bytes maxL none ws rm mc ms n ∧ y.name = "<init>" ∧ (Cond.instanceMethod y).before args s = true) (hp : PreS s H Pc (.ref b :: As))
    (hg : g.method = m) (hn : As.length = n) (hsize : g.locals.size = nL) (hstack : g.stack = As.reverse ++ .ref b :: rest) (hW : 2 * g.monitorRoom + (rest.map fun v => v.category).sum ≤ 8) (hdg : decode cc g.pc = .ok (.invokespecial index, 3)) (hf : cells + mc ≤ R.cells ∧ slots + ms ≤ R.slots) :
    vx_Run p l e R s m args below meth c H locs cells slots mc ms g rest (Qc (Value.ref b :: As).toArray) XC free := by
  have hK : vx_Back l R p e below s args y 3 8 (PreOf R mc ms Pc) (PostOf Qc mc ms free) (vx_Post XC mc ms free) := vx_callBack cw.1 hM hp.1
  obtain ⟨⟨-, -, -, -, -, -, hcode, -, hy, hlen, hl⟩, hy1, hin⟩ := cw
  obtain ⟨hx, hb, hml, ho, -⟩ := S
  have hPc := hp.2
  intro T hT X
  rcases vx_callI X hx (bytes := bytes) (maxL := maxL) ho hy1 hl hin hcode hy hK hg (hsize.trans hml.symm) (a := b) (argsL := As) (rest := rest) (fun sig h => hn.trans (hlen sig h)) hstack hW (by rw [hb]; exact hdg)
    (fun vm₁ hW₁ => ⟨hf.1, hf.2, hPc (T.setVm vm₁) hT hW₁⟩) with ⟨v, vm₁, ⟨U', l2, c2, s2⟩, hW₁, X', ⟨g', mk, t, L, e1, e2, hq, h1, hL, h2, h3⟩, st⟩ | ⟨q, vm₁, ⟨U', l2, c2, s2⟩, hW₁, X', ⟨g', mk, t, L, E, ce, e1, e2, hq, hce, hcv, hcl, h1, hL, h2, h3⟩, st⟩
  · dsimp only [Pt.U, Pt.locs, Pt.cells, Pt.slots] at X' e1 e2 h1 h2 h3 st
    subst h1; subst h2; subst h3
    exact Or.inl ⟨v, (T.setVm vm₁).calling g' mk (Value.ref b :: As).toArray, t, U', L, hT, X', hL, e1, e2, hq, st⟩
  · dsimp only [Pt.U, Pt.locs, Pt.cells, Pt.slots] at X' e1 e2 h1 h2 h3 st hcl
    subst h1; subst h2; subst h3
    exact Or.inr ⟨q, (T.setVm vm₁).calling g' mk (Value.ref b :: As).toArray, t, U', L, E, ce, hT, X', hL, e1, e2, hq, hce, hcv, vx_cls hW₁ hcl, st⟩
end VXIB
/-! ===== END ===== -/
/-! ===== BEGIN a private constructor of a nest mate that throws ===== -/
section VXIC
variable {p : Program} {l : Launch} {e : Env} {R : Room} {s : State} {m : MethodId} {args : Array Value} {below : List Frame} {meth : Method} {c : Code} {T : State} {locs : List Loc} {cells slots : Nat}
theorem vx_callIN (X : Stand p l e R s m args below meth c T locs cells slots) (hexec : p.tables.exec = Jvm.exec) {own : String} {index : Nat} {host : String} {y : MethodName} {bytes : ByteArray} {maxL : Nat}
    (hown : s.vm.findClass own = some m.cls) (hy1 : y.name = "<init>") (hlink : (Cond.methodLinkNest own index y host).before args s = true) (hinst : (Cond.instanceMethod y).before args s = true)
    (hcode : (Cond.code y bytes maxL none).before args s = true) (hy : y.cls ≠ "java/lang/invoke/MethodHandle" ∧ y.cls ≠ "java/lang/invoke/VarHandle")
    {W9 : Nat} {Pre : Pt → Array Value → Prop} {Post : Pt → Array Value → Option Value → Pt → Prop} {PostX : Pt → Array Value → Addr → Pt → Prop} (hK : vx_Back l R p e below s args y 3 W9 Pre Post PostX)
    {g : JFrame} (hg : g.method = m) (hsize : g.locals.size = c.maxLocals) {a : Addr} {argsL rest : List Value} (hlen : ∀ sig, parseMethodDescriptor y.desc = some sig → argsL.length = sig.parameters.length)
    (hstack : g.stack = argsL.reverse ++ .ref a :: rest) (hW : 2 * g.monitorRoom + (rest.map fun v => v.category).sum ≤ W9) (hdg : decode c.code g.pc = .ok (.invokespecial index, 3))
    (hpre : ∀ vm₁, s.WarmedH vm₁ → Pre ⟨T.setVm vm₁, locs, cells, slots⟩ (Value.ref a :: argsL).toArray) :
    (∃ (v : Option Value) (vm₁ : Vm) (B : Pt), s.WarmedH vm₁ ∧ Stand p l e R s m args below meth c B.U B.locs B.cells B.slots ∧ Post ⟨T.setVm vm₁, locs, cells, slots⟩ (Value.ref a :: argsL).toArray v B ∧
      ∀ target, Steps p.tables e below (B.U.setTop { g with pc := g.pc + 3, stack := v.toList ++ rest }) target → Steps p.tables e below (T.setTop g) target) ∨
    (∃ (q : Addr) (vm₁ : Vm) (B : Pt), s.WarmedH vm₁ ∧ Stand p l e R s m args below meth c B.U B.locs B.cells B.slots ∧ PostX ⟨T.setVm vm₁, locs, cells, slots⟩ (Value.ref a :: argsL).toArray q B ∧
      Steps p.tables e below (T.setTop g) ((B.U.setTop { g with stack := rest }).pushFrame (.throwing q))) := by
  subst hg
  have hpl : e.platform.magicAccessors = ({} : Platform).magicAccessors := by rw [X.admits.platform]
  obtain ⟨mk, methM, cM, kP, vm₁, hnamed, hmethM, hcodeM, -, hlocalsM, -, hkP, -, hW₁, hstep₁⟩ := Steps.initColdArgsNest (e := e) X.here hexec X.warmed hpl hown hy1 hy hlink hinst hcode (f := g) rfl hlen hstack hdg
  have X₁ := X.noted hW₁
  rcases hK g.method meth c ⟨T.setVm vm₁, locs, cells, slots⟩ { g with stack := rest } (.invokespecial index) mk (Value.ref a :: argsL).toArray X₁ rfl hsize hdg hW (X₁.named hnamed) (hpre vm₁ X₁.warmed) with ⟨v, B, X', hpost, hsteps⟩ | ⟨q, B, X', hpost, hsteps⟩
  · exact Or.inl ⟨v, vm₁, B, X₁.warmed, X', hpost, fun target h => hstep₁ _ fun acts => by rw [doInvoke_state]; exact hsteps.trans h⟩
  · exact Or.inr ⟨q, vm₁, B, X₁.warmed, X', hpost, hstep₁ _ fun acts => by rw [doInvoke_state]; exact hsteps⟩
end VXIC
section VXID
variable {p : Program} {l : Launch} {e : Env} {R : Room} {s : State} {m : MethodId} {args : Array Value} {below : List Frame} {meth : Method} {c : Code} {H : Heap} {locs : List Loc} {cells slots : Nat}
theorem vx_runIN {y : MethodName} {bytes cc : ByteArray} {maxL nL mc ms n index : Nat} {ws : List Cond} {rm : Room} {Pc : Array Value → State → Prop} {Qc : Array Value → State → Outcome → State → Prop} {XC : String → State → State → Prop} {free : Addr → Prop} {Ts : List Cond} {own host : String} {b : Addr} {As rest : List Value} {g : JFrame}
    (S : CallFix p m c cc nL s args Ts own) (hM : vx_Met l y ws rm Pc Qc XC mc ms free) (cw : va_CN R s args own index y host bytes maxL none ws rm mc ms n ∧ y.name = "<init>" ∧ (Cond.instanceMethod y).before args s = true) (hp : PreS s H Pc (.ref b :: As))
    (hg : g.method = m) (hn : As.length = n) (hsize : g.locals.size = nL) (hstack : g.stack = As.reverse ++ .ref b :: rest) (hW : 2 * g.monitorRoom + (rest.map fun v => v.category).sum ≤ 8) (hdg : decode cc g.pc = .ok (.invokespecial index, 3)) (hf : cells + mc ≤ R.cells ∧ slots + ms ≤ R.slots) :
    vx_Run p l e R s m args below meth c H locs cells slots mc ms g rest (Qc (Value.ref b :: As).toArray) XC free := by
  obtain ⟨⟨⟨hrc, hrs, hfr, hlo, hws, hcw⟩, hcode, hini, hy, hlen, hl⟩, hx1, hx2⟩ := cw
  have hK : vx_Back l R p e below s args y 3 8 (PreOf R mc ms Pc) (PostOf Qc mc ms free) (vx_Post XC mc ms free) := vx_back (bytes := bytes) (maxL := maxL) (ret := none) hM hp.1 hrc hrs hfr hlo hws hcw (fun a' U hW => word_at hW (Or.inl (by first | rfl | simp [Cond.onTables, Cond.keeps, Cond.steady])) hini)
  obtain ⟨hx, hb, hml, ho, -⟩ := S
  have hPc := hp.2
  intro T hT X
  rcases vx_callIN X hx (bytes := bytes) (maxL := maxL) ho hx1 hl hx2 hcode hy hK hg (hsize.trans hml.symm) (a := b) (argsL := As) (rest := rest) (fun sig h => hn.trans (hlen sig h)) hstack hW (by rw [hb]; exact hdg)
    (fun vm₁ hW₁ => ⟨hf.1, hf.2, hPc (T.setVm vm₁) hT hW₁⟩) with ⟨v, vm₁, ⟨U', l2, c2, s2⟩, hW₁, X', ⟨g', mk, t, L, e1, e2, hq, h1, hL, h2, h3⟩, st⟩ | ⟨q, vm₁, ⟨U', l2, c2, s2⟩, hW₁, X', ⟨g', mk, t, L, E, ce, e1, e2, hq, hce, hcv, hcl, h1, hL, h2, h3⟩, st⟩
  · dsimp only [Pt.U, Pt.locs, Pt.cells, Pt.slots] at X' e1 e2 h1 h2 h3 st
    subst h1; subst h2; subst h3
    exact Or.inl ⟨v, (T.setVm vm₁).calling g' mk (Value.ref b :: As).toArray, t, U', L, hT, X', hL, e1, e2, hq, st⟩
  · dsimp only [Pt.U, Pt.locs, Pt.cells, Pt.slots] at X' e1 e2 h1 h2 h3 st hcl
    subst h1; subst h2; subst h3
    exact Or.inr ⟨q, (T.setVm vm₁).calling g' mk (Value.ref b :: As).toArray, t, U', L, E, ce, hT, X', hL, e1, e2, hq, hce, hcv, vx_cls hW₁ hcl, st⟩
end VXID
/-! ===== END ===== -/
/-! ===== BEGIN a method of a class above, found by the receiver, that may throw (follows va_callVU, va_runU of this kit) ===== -/
section
variable {p : Program} {l : Launch} {e : Env} {R : Room} {s : State} {m : MethodId} {args : Array Value} {below : List Frame} {meth : Method} {c : Code} {H : Heap} {locs : List Loc} {cells slots : Nat}
theorem vx_callVU {T : State} {locs : List Loc} {cells slots : Nat} (X : Stand p l e R s m args below meth c T locs cells slots) (hexec : p.tables.exec = Jvm.exec) {own C owner : String} {index : Nat} {x y : MethodName} {bytes : ByteArray} {maxL : Nat} {ret : Option FieldType}
    (hown : s.vm.findClass own = some m.cls) (hlink : (Cond.methodLink own index x).before args s = true) (hsame : (Cond.sameMethod x.cls owner x.name x.desc).before args s = true)
    (hd0 : va_Decl s ⟨owner, x.name, x.desc⟩) (howner : owner ≠ "java/lang/invoke/MethodHandle" ∧ owner ≠ "java/lang/invoke/VarHandle")
    (hsel : (Cond.selects C x y).before args s = true) (hinst : (Cond.instanceMethod y).before args s = true) (hcode : (Cond.code y bytes maxL ret).before args s = true)
    {W : Nat} {Pre : Pt → Array Value → Prop} {Post : Pt → Array Value → Option Value → Pt → Prop} {PostX : Pt → Array Value → Addr → Pt → Prop} (hK : vx_Back l R p e below s args y 3 W Pre Post PostX)
    {b : Addr} {cellB : Cell} (hcell : T.heap[b]? = some cellB) (hobj : cellB.vm.isStatics = false) (hcls : s.vm.findClass C = some cellB.cls)
    {g : JFrame} (hg : g.method = m) (hsize : g.locals.size = c.maxLocals) {argsL rest : List Value} (hlen : ∀ sig, parseMethodDescriptor x.desc = some sig → argsL.length = sig.parameters.length)
    (hstack : g.stack = argsL.reverse ++ .ref b :: rest) (hW : 2 * g.monitorRoom + (rest.map fun v => v.category).sum ≤ W) (hdg : decode c.code g.pc = .ok (.invokevirtual index, 3))
    (hpre : ∀ vm₁, s.WarmedH vm₁ → Pre ⟨T.setVm vm₁, locs, cells, slots⟩ (Value.ref b :: argsL).toArray) :
    (∃ (v : Option Value) (vm₁ : Vm) (B : Pt), s.WarmedH vm₁ ∧ Stand p l e R s m args below meth c B.U B.locs B.cells B.slots ∧ Post ⟨T.setVm vm₁, locs, cells, slots⟩ (Value.ref b :: argsL).toArray v B ∧
      ∀ target, Steps p.tables e below (B.U.setTop { g with pc := g.pc + 3, stack := v.toList ++ rest }) target → Steps p.tables e below (T.setTop g) target) ∨
    (∃ (q : Addr) (vm₁ : Vm) (B : Pt), s.WarmedH vm₁ ∧ Stand p l e R s m args below meth c B.U B.locs B.cells B.slots ∧ PostX ⟨T.setVm vm₁, locs, cells, slots⟩ (Value.ref b :: argsL).toArray q B ∧
      Steps p.tables e below (T.setTop g) ((B.U.setTop { g with stack := rest }).pushFrame (.throwing q))) := by
  obtain ⟨r0, r, hn, hrm, hstR, hsigR⟩ := hd0
  obtain ⟨cn, ck, r1, hcn, hck, hni, hf, hn1⟩ := Cond.sameMethod_found hsame
  cases hn.symm.trans hn1
  obtain ⟨mk, methM, hnamed, hmethM, -, habM⟩ := Cond.instanceMethod_spec hinst
  obtain ⟨c2, r2, m2, q1, q2, q3, q4, kP, hkP, hkPi⟩ := Cond.selects_spec hsel
  cases hcls.symm.trans q1
  cases hf.symm.trans q2
  cases hnamed.symm.trans q3
  have hselP : selectMethod e.platform s.vm cellB.cls r0 = .method mk := by rw [Launch.admits_selectMethod X.admits]; exact q4
  obtain ⟨vm₁, X₁, hstep₁⟩ := X.invokevirtualUp hexec hown hlink hsame howner hn hrm hstR (a := b) (cell := cellB) hcell
    (fun z h => by rw [h] at hobj; cases hobj) hselP hmethM habM hkP hkPi (g := g) hg (argsL := argsL) (rest := rest) (hlen _ hsigR) hstack hdg
  rcases hK m meth c ⟨T.setVm vm₁, locs, cells, slots⟩ { g with stack := rest } (.invokevirtual index) mk (Value.ref b :: argsL).toArray X₁ hg hsize hdg hW (X₁.named hnamed) (hpre vm₁ X₁.warmed) with ⟨v, B, X', hpost, hsteps⟩ | ⟨q, B, X', hpost, hsteps⟩
  · exact Or.inl ⟨v, vm₁, B, X₁.warmed, X', hpost, fun target h => hstep₁ _ fun acts => by rw [doInvoke_state]; exact hsteps.trans h⟩
  · exact Or.inr ⟨q, vm₁, B, X₁.warmed, X', hpost, hstep₁ _ fun acts => by rw [doInvoke_state]; exact hsteps⟩
theorem vx_runU {x y : MethodName} {bytes cc : ByteArray} {maxL nL mc ms n index : Nat} {ret : Option FieldType} {ws : List Cond} {rm : Room} {Pc : Array Value → State → Prop} {Qc : Array Value → State → Outcome → State → Prop} {XC : String → State → State → Prop} {free : Addr → Prop} {Ts : List Cond} {own C owner : String} {b : Addr} {As rest : List Value} {g : JFrame}
    (S : CallFix p m c cc nL s args Ts own) (hM : vx_Met l y ws rm Pc Qc XC mc ms free) (cw : va_CU R s args own C owner index x y bytes maxL ret ws rm mc ms n) (hp : PreV s H C b Pc As)
    (hg : g.method = m) (hn : As.length = n) (hsize : g.locals.size = nL) (hstack : g.stack = As.reverse ++ .ref b :: rest) (hW : 2 * g.monitorRoom + (rest.map fun v => v.category).sum ≤ 8) (hdg : decode cc g.pc = .ok (.invokevirtual index, 3)) (hf : cells + mc ≤ R.cells ∧ slots + ms ≤ R.slots) :
    vx_Run p l e R s m args below meth c H locs cells slots mc ms g rest (Qc (Value.ref b :: As).toArray) XC free := by
  obtain ⟨hrc, hrs, hfr, hlo, hws, hcw⟩ := cw.back
  have hini := cw.init
  have hK : vx_Back l R p e below s args y 3 8 (PreOf R mc ms Pc) (PostOf Qc mc ms free) (vx_Post XC mc ms free) := vx_back (bytes := bytes) (maxL := maxL) (ret := ret) hM hp.1 hrc hrs hfr hlo hws hcw (fun a' U hW => word_at hW (Or.inl (by first | rfl | simp [Cond.onTables, Cond.keeps, Cond.steady])) hini)
  obtain ⟨hx, hb, hml, ho, -⟩ := S
  obtain ⟨-, ⟨cellB, hcB, hoB, hclB⟩, hPc⟩ := hp
  intro T hT X
  rcases vx_callVU X hx (C := C) (owner := owner) (bytes := bytes) (maxL := maxL) (ret := ret) ho cw.link cw.same cw.decl cw.notMH cw.sel cw.inst cw.code hK (by rw [hT]; exact hcB) hoB hclB hg (hsize.trans hml.symm) (argsL := As) (rest := rest) (fun sig h => hn.trans (cw.len sig h)) hstack hW (by rw [hb]; exact hdg)
    (fun vm₁ hW₁ => ⟨hf.1, hf.2, hPc (T.setVm vm₁) hT hW₁⟩) with ⟨v, vm₁, ⟨U', l2, c2, s2⟩, hW₁, X', ⟨g', mk, t, L, e1, e2, hq, h1, hL, h2, h3⟩, st⟩ | ⟨q, vm₁, ⟨U', l2, c2, s2⟩, hW₁, X', ⟨g', mk, t, L, E, ce, e1, e2, hq, hce, hcv, hcl, h1, hL, h2, h3⟩, st⟩
  · dsimp only [Pt.U, Pt.locs, Pt.cells, Pt.slots] at X' e1 e2 h1 h2 h3 st
    subst h1; subst h2; subst h3
    exact Or.inl ⟨v, (T.setVm vm₁).calling g' mk (Value.ref b :: As).toArray, t, U', L, hT, X', hL, e1, e2, hq, st⟩
  · dsimp only [Pt.U, Pt.locs, Pt.cells, Pt.slots] at X' e1 e2 h1 h2 h3 st hcl
    subst h1; subst h2; subst h3
    exact Or.inr ⟨q, (T.setVm vm₁).calling g' mk (Value.ref b :: As).toArray, t, U', L, E, ce, hT, X', hL, e1, e2, hq, hce, hcv, vx_cls hW₁ hcl, st⟩
end
/-! ===== END ===== -/
/-! ===== BEGIN super.m(..) that may throw (follows va_callSU, va_runSU) ===== -/
section
variable {p : Program} {l : Launch} {e : Env} {R : Room} {s : State} {m : MethodId} {args : Array Value} {below : List Frame} {meth : Method} {c : Code} {H : Heap} {locs : List Loc} {cells slots : Nat}
theorem vx_callSU {T : State} {locs : List Loc} {cells slots : Nat} (X : Stand p l e R s m args below meth c T locs cells slots) (hexec : p.tables.exec = Jvm.exec) {own : String} {index : Nat} {y : MethodName} {bytes : ByteArray} {maxL : Nat} {ret : Option FieldType}
    (hown : s.vm.findClass own = some m.cls) (hlink : (Cond.methodLink own index y).before args s = true) (hsame : (Cond.sameMethod y.cls y.cls y.name y.desc).before args s = true) (hsup : (Cond.superclass own y.cls).before args s = true)
    (hinst : (Cond.instanceMethod y).before args s = true) (hcode : (Cond.code y bytes maxL ret).before args s = true) (hno : y.name ≠ "<init>")
    {W : Nat} {Pre : Pt → Array Value → Prop} {Post : Pt → Array Value → Option Value → Pt → Prop} {PostX : Pt → Array Value → Addr → Pt → Prop} (hK : vx_Back l R p e below s args y 3 W Pre Post PostX)
    {b : Addr} {cellB : Cell} {kB : Class} (hcell : T.heap[b]? = some cellB) (hobj : cellB.vm.isStatics = false) (hkB : s.vm.classes[cellB.cls]? = some kB)
    {g : JFrame} (hg : g.method = m) (hsize : g.locals.size = c.maxLocals) {argsL rest : List Value} (hlen : ∀ sig, parseMethodDescriptor y.desc = some sig → argsL.length = sig.parameters.length)
    (hstack : g.stack = argsL.reverse ++ .ref b :: rest) (hW : 2 * g.monitorRoom + (rest.map fun v => v.category).sum ≤ W) (hdg : decode c.code g.pc = .ok (.invokespecial index, 3))
    (hpre : ∀ vm₁, s.WarmedH vm₁ → Pre ⟨T.setVm vm₁, locs, cells, slots⟩ (Value.ref b :: argsL).toArray) :
    (∃ (v : Option Value) (vm₁ : Vm) (B : Pt), s.WarmedH vm₁ ∧ Stand p l e R s m args below meth c B.U B.locs B.cells B.slots ∧ Post ⟨T.setVm vm₁, locs, cells, slots⟩ (Value.ref b :: argsL).toArray v B ∧
      ∀ target, Steps p.tables e below (B.U.setTop { g with pc := g.pc + 3, stack := v.toList ++ rest }) target → Steps p.tables e below (T.setTop g) target) ∨
    (∃ (q : Addr) (vm₁ : Vm) (B : Pt), s.WarmedH vm₁ ∧ Stand p l e R s m args below meth c B.U B.locs B.cells B.slots ∧ PostX ⟨T.setVm vm₁, locs, cells, slots⟩ (Value.ref b :: argsL).toArray q B ∧
      Steps p.tables e below (T.setTop g) ((B.U.setTop { g with stack := rest }).pushFrame (.throwing q))) := by
  obtain ⟨mk, methM, hnamed, hmethM, hstM, habM⟩ := Cond.instanceMethod_spec hinst
  obtain ⟨methM', cM, hmethM', -, -, -, -, -, -, hsigM⟩ := Cond.code_spec hnamed hcode
  cases hmethM.symm.trans hmethM'
  obtain ⟨ps, dk, kp, hps, hdk, hkp, hsuper, -, -, hnid⟩ := Cond.superclass_spec hown hsup
  have hn : s.methodNamed? ⟨y.cls, y.name, y.desc⟩ = some mk := hnamed
  have hpm : ps = mk.cls := Option.some.inj (hps.symm.trans (findClass_of_methodNamed hnamed))
  have hsub : s.vm.isSubclass ps mk.cls = true := by rw [hpm]; simp [Vm.isSubclass, Vm.isSubclassAux]
  obtain ⟨vm₁, X₁, hstep₁⟩ := X.invokespecialUp hexec hown hlink hsame hn hmethM hstM habM hno hdk hnid hps hsuper hsub (a := b) (cell := cellB) hcell
    (fun z h => by rw [h] at hobj; cases hobj) hkB (g := g) hg (argsL := argsL) (rest := rest) (hlen _ hsigM) hstack hdg
  rcases hK m meth c ⟨T.setVm vm₁, locs, cells, slots⟩ { g with stack := rest } (.invokespecial index) mk (Value.ref b :: argsL).toArray X₁ hg hsize hdg hW (X₁.named hnamed) (hpre vm₁ X₁.warmed) with ⟨v, B, X', hpost, hsteps⟩ | ⟨q, B, X', hpost, hsteps⟩
  · exact Or.inl ⟨v, vm₁, B, X₁.warmed, X', hpost, fun target h => hstep₁ _ (by rw [doInvoke_state]; exact hsteps.trans h)⟩
  · exact Or.inr ⟨q, vm₁, B, X₁.warmed, X', hpost, hstep₁ _ (by rw [doInvoke_state]; exact hsteps)⟩
theorem vx_runSU {y : MethodName} {bytes cc : ByteArray} {maxL nL mc ms n index : Nat} {ret : Option FieldType} {ws : List Cond} {rm : Room} {Pc : Array Value → State → Prop} {Qc : Array Value → State → Outcome → State → Prop} {XC : String → State → State → Prop} {free : Addr → Prop} {Ts : List Cond} {own C : String} {cC : ClassId} {b : Addr} {As rest : List Value} {g : JFrame}
    (hat : ClassAt s C cC) (S : CallFix p m c cc nL s args Ts own) (hM : vx_Met l y ws rm Pc Qc XC mc ms free) (cw : va_CS R s args own index y bytes maxL ret ws rm mc ms n) (hp : PreV s H C b Pc As)
    (hg : g.method = m) (hn : As.length = n) (hsize : g.locals.size = nL) (hstack : g.stack = As.reverse ++ .ref b :: rest) (hW : 2 * g.monitorRoom + (rest.map fun v => v.category).sum ≤ 8) (hdg : decode cc g.pc = .ok (.invokespecial index, 3)) (hf : cells + mc ≤ R.cells ∧ slots + ms ≤ R.slots) :
    vx_Run p l e R s m args below meth c H locs cells slots mc ms g rest (Qc (Value.ref b :: As).toArray) XC free := by
  obtain ⟨⟨hrc, hrs, hfr, hlo, hws, hcw⟩, hl1, hl2, hl3, hl4, hini, hcode, hno, hlen⟩ := cw
  have hK : vx_Back l R p e below s args y 3 8 (PreOf R mc ms Pc) (PostOf Qc mc ms free) (vx_Post XC mc ms free) := vx_back (bytes := bytes) (maxL := maxL) (ret := ret) hM hp.1 hrc hrs hfr hlo hws hcw (fun a' U hW => word_at hW (Or.inl (by first | rfl | simp [Cond.onTables, Cond.keeps, Cond.steady])) hini)
  obtain ⟨hx, hb, hml, ho, -⟩ := S
  obtain ⟨-, ⟨cellB, hcB, hoB, hclB⟩, hPc⟩ := hp
  obtain ⟨hfc, kB, hkB, -⟩ := hat
  cases hfc.symm.trans hclB
  intro T hT X
  rcases vx_callSU X hx (bytes := bytes) (maxL := maxL) (ret := ret) ho hl1 hl2 hl3 hl4 hcode hno hK (by rw [hT]; exact hcB) hoB hkB hg (hsize.trans hml.symm) (argsL := As) (rest := rest) (fun sig h => hn.trans (hlen sig h)) hstack hW (by rw [hb]; exact hdg)
    (fun vm₁ hW₁ => ⟨hf.1, hf.2, hPc (T.setVm vm₁) hT hW₁⟩) with ⟨v, vm₁, ⟨U', l2, c2, s2⟩, hW₁, X', ⟨g', mk, t, L, e1, e2, hq, h1, hL, h2, h3⟩, st⟩ | ⟨q, vm₁, ⟨U', l2, c2, s2⟩, hW₁, X', ⟨g', mk, t, L, E, ce, e1, e2, hq, hce, hcv, hcl, h1, hL, h2, h3⟩, st⟩
  · dsimp only [Pt.U, Pt.locs, Pt.cells, Pt.slots] at X' e1 e2 h1 h2 h3 st
    subst h1; subst h2; subst h3
    exact Or.inl ⟨v, (T.setVm vm₁).calling g' mk (Value.ref b :: As).toArray, t, U', L, hT, X', hL, e1, e2, hq, st⟩
  · dsimp only [Pt.U, Pt.locs, Pt.cells, Pt.slots] at X' e1 e2 h1 h2 h3 st hcl
    subst h1; subst h2; subst h3
    exact Or.inr ⟨q, (T.setVm vm₁).calling g' mk (Value.ref b :: As).toArray, t, U', L, E, ce, hT, X', hL, e1, e2, hq, hce, hcv, vx_cls hW₁ hcl, st⟩
end
/-! ===== END ===== -/
/-! ===== BEGIN a private method of a nest mate that may throw (follows va_callVN, va_callSN, va_runVN, va_runSN) ===== -/
section
variable {p : Program} {l : Launch} {e : Env} {R : Room} {s : State} {m : MethodId} {args : Array Value} {below : List Frame} {meth : Method} {c : Code} {H : Heap} {locs : List Loc} {cells slots : Nat}
variable {T : State}
theorem vx_callVN (X : Stand p l e R s m args below meth c T locs cells slots) (hexec : p.tables.exec = Jvm.exec) {own C : String} {index : Nat} {host : String} {y : MethodName} {bytes : ByteArray} {maxL : Nat} {ret : Option FieldType}
    (hown : s.vm.findClass own = some m.cls) (hlink : (Cond.methodLinkNest own index y host).before args s = true) (hinst : (Cond.instanceMethod y).before args s = true) (hsel : (Cond.selects C y y).before args s = true)
    (hcode : (Cond.code y bytes maxL ret).before args s = true) (hy : y.cls ≠ "java/lang/invoke/MethodHandle" ∧ y.cls ≠ "java/lang/invoke/VarHandle")
    {W : Nat} {Pre : Pt → Array Value → Prop} {Post : Pt → Array Value → Option Value → Pt → Prop} {PostX : Pt → Array Value → Addr → Pt → Prop} (hK : vx_Back l R p e below s args y 3 W Pre Post PostX)
    {b : Addr} {cellB : Cell} (hcell : T.heap[b]? = some cellB) (hobj : cellB.vm.isStatics = false) (hcls : s.vm.findClass C = some cellB.cls)
    {g : JFrame} (hg : g.method = m) (hsize : g.locals.size = c.maxLocals) {argsL rest : List Value} (hlen : ∀ sig, parseMethodDescriptor y.desc = some sig → argsL.length = sig.parameters.length)
    (hstack : g.stack = argsL.reverse ++ .ref b :: rest) (hW : 2 * g.monitorRoom + (rest.map fun v => v.category).sum ≤ W) (hdg : decode c.code g.pc = .ok (.invokevirtual index, 3))
    (hpre : ∀ vm₁, s.WarmedH vm₁ → Pre ⟨T.setVm vm₁, locs, cells, slots⟩ (Value.ref b :: argsL).toArray) :
    (∃ (v : Option Value) (vm₁ : Vm) (B : Pt), s.WarmedH vm₁ ∧ Stand p l e R s m args below meth c B.U B.locs B.cells B.slots ∧ Post ⟨T.setVm vm₁, locs, cells, slots⟩ (Value.ref b :: argsL).toArray v B ∧
      ∀ target, Steps p.tables e below (B.U.setTop { g with pc := g.pc + 3, stack := v.toList ++ rest }) target → Steps p.tables e below (T.setTop g) target) ∨
    (∃ (q : Addr) (vm₁ : Vm) (B : Pt), s.WarmedH vm₁ ∧ Stand p l e R s m args below meth c B.U B.locs B.cells B.slots ∧ PostX ⟨T.setVm vm₁, locs, cells, slots⟩ (Value.ref b :: argsL).toArray q B ∧
      Steps p.tables e below (T.setTop g) ((B.U.setTop { g with stack := rest }).pushFrame (.throwing q))) := by
  obtain ⟨mk, methM, hnamed, hmethM, hstM, habM⟩ := Cond.instanceMethod_spec hinst
  obtain ⟨methM', cM, hmethM', -, -, -, -, -, -, hsigM⟩ := Cond.code_spec hnamed hcode
  cases hmethM.symm.trans hmethM'
  obtain ⟨c2, r2, m2, q1, q2, q3, q4, kP, hkP, hkPi⟩ := Cond.selects_spec hsel
  cases hcls.symm.trans q1
  cases (State.methodFound?_of_named hnamed hy).symm.trans q2
  cases hnamed.symm.trans q3
  have hselP : selectMethod e.platform s.vm cellB.cls mk = .method mk := by rw [Launch.admits_selectMethod X.admits]; exact q4
  obtain ⟨vm₁, X₁, hstep₁⟩ := X.invokevirtualNest hexec hown hlink hnamed hmethM hstM hkP hkPi hy (a := b) (cell := cellB) hcell
    (fun z h => by rw [h] at hobj; cases hobj) hselP hmethM habM hkP hkPi (g := g) hg (argsL := argsL) (rest := rest) (hlen _ hsigM) hstack hdg
  rcases hK m meth c ⟨T.setVm vm₁, locs, cells, slots⟩ { g with stack := rest } (.invokevirtual index) mk (Value.ref b :: argsL).toArray X₁ hg hsize hdg hW (X₁.named hnamed) (hpre vm₁ X₁.warmed) with ⟨v, B, X', hpost, hsteps⟩ | ⟨q, B, X', hpost, hsteps⟩
  · exact Or.inl ⟨v, vm₁, B, X₁.warmed, X', hpost, fun target h => hstep₁ _ fun acts => by rw [doInvoke_state]; exact hsteps.trans h⟩
  · exact Or.inr ⟨q, vm₁, B, X₁.warmed, X', hpost, hstep₁ _ fun acts => by rw [doInvoke_state]; exact hsteps⟩
theorem vx_callSN (X : Stand p l e R s m args below meth c T locs cells slots) (hexec : p.tables.exec = Jvm.exec) {own : String} {index : Nat} {host : String} {y : MethodName} {bytes : ByteArray} {maxL : Nat} {ret : Option FieldType}
    (hown : s.vm.findClass own = some m.cls) (hlink : (Cond.methodLinkNest own index y host).before args s = true) (hstat : (Cond.static y).before args s = true) (hinit : (Cond.initialized y.cls).before args s = true)
    (hcode : (Cond.code y bytes maxL ret).before args s = true) (hy : y.cls ≠ "java/lang/invoke/MethodHandle" ∧ y.cls ≠ "java/lang/invoke/VarHandle")
    {W : Nat} {Pre : Pt → Array Value → Prop} {Post : Pt → Array Value → Option Value → Pt → Prop} {PostX : Pt → Array Value → Addr → Pt → Prop} (hK : vx_Back l R p e below s args y 3 W Pre Post PostX)
    {g : JFrame} (hg : g.method = m) (hsize : g.locals.size = c.maxLocals) {argsL rest : List Value} (hlen : ∀ sig, parseMethodDescriptor y.desc = some sig → argsL.length = sig.parameters.length)
    (hstack : g.stack = argsL.reverse ++ rest) (hW : 2 * g.monitorRoom + (rest.map fun v => v.category).sum ≤ W) (hdg : decode c.code g.pc = .ok (.invokestatic index, 3))
    (hpre : ∀ vm₁, s.WarmedH vm₁ → Pre ⟨T.setVm vm₁, locs, cells, slots⟩ argsL.toArray) :
    (∃ (v : Option Value) (vm₁ : Vm) (B : Pt), s.WarmedH vm₁ ∧ Stand p l e R s m args below meth c B.U B.locs B.cells B.slots ∧ Post ⟨T.setVm vm₁, locs, cells, slots⟩ argsL.toArray v B ∧
      ∀ target, Steps p.tables e below (B.U.setTop { g with pc := g.pc + 3, stack := v.toList ++ rest }) target → Steps p.tables e below (T.setTop g) target) ∨
    (∃ (q : Addr) (vm₁ : Vm) (B : Pt), s.WarmedH vm₁ ∧ Stand p l e R s m args below meth c B.U B.locs B.cells B.slots ∧ PostX ⟨T.setVm vm₁, locs, cells, slots⟩ argsL.toArray q B ∧
      Steps p.tables e below (T.setTop g) ((B.U.setTop { g with stack := rest }).pushFrame (.throwing q))) := by
  obtain ⟨mk, hnamed⟩ := Cond.code_named hcode
  obtain ⟨methM, cM, hmethM, -, -, -, -, -, -, hsigM⟩ := Cond.code_spec hnamed hcode
  have hstatic : methM.isStatic = true := Cond.static_spec hnamed hmethM hstat
  obtain ⟨kP, hkP, -⟩ := className_of_methodNamed hnamed
  have hinitP : kP.init = .initialized := Cond.initialized_spec (findClass_of_methodNamed hnamed) hkP hinit
  obtain ⟨vm₁, X₁, hstep₁⟩ := X.invokestaticNest hexec hown hlink hnamed hmethM hstatic hkP hinitP hy (g := g) hg (argsL := argsL) (rest := rest) (hlen _ hsigM) hstack hdg
  rcases hK m meth c ⟨T.setVm vm₁, locs, cells, slots⟩ { g with stack := rest } (.invokestatic index) mk argsL.toArray X₁ hg hsize hdg hW (X₁.named hnamed) (hpre vm₁ X₁.warmed) with ⟨v, B, X', hpost, hsteps⟩ | ⟨q, B, X', hpost, hsteps⟩
  · exact Or.inl ⟨v, vm₁, B, X₁.warmed, X', hpost, fun target h => hstep₁ _ fun acts => by rw [doInvoke_state]; exact hsteps.trans h⟩
  · exact Or.inr ⟨q, vm₁, B, X₁.warmed, X', hpost, hstep₁ _ fun acts => by rw [doInvoke_state]; exact hsteps⟩
theorem vx_runVN {y : MethodName} {bytes cc : ByteArray} {maxL nL mc ms n index : Nat} {ret : Option FieldType} {ws : List Cond} {rm : Room} {Pc : Array Value → State → Prop} {Qc : Array Value → State → Outcome → State → Prop} {XC : String → State → State → Prop} {free : Addr → Prop} {Ts : List Cond} {own C host : String} {b : Addr} {As rest : List Value} {g : JFrame}
    (S : CallFix p m c cc nL s args Ts own) (hM : vx_Met l y ws rm Pc Qc XC mc ms free) (cw : va_CN R s args own index y host bytes maxL ret ws rm mc ms n ∧ (Cond.instanceMethod y).before args s = true ∧ (Cond.selects C y y).before args s = true) (hp : PreV s H C b Pc As)
    (hg : g.method = m) (hn : As.length = n) (hsize : g.locals.size = nL) (hstack : g.stack = As.reverse ++ .ref b :: rest) (hW : 2 * g.monitorRoom + (rest.map fun v => v.category).sum ≤ 8) (hdg : decode cc g.pc = .ok (.invokevirtual index, 3)) (hf : cells + mc ≤ R.cells ∧ slots + ms ≤ R.slots) :
    vx_Run p l e R s m args below meth c H locs cells slots mc ms g rest (Qc (Value.ref b :: As).toArray) XC free := by
  obtain ⟨⟨⟨hrc, hrs, hfr, hlo, hws, hcw⟩, hcode, hini, hy, hlen, hl⟩, hx1, hx2⟩ := cw
  have hK : vx_Back l R p e below s args y 3 8 (PreOf R mc ms Pc) (PostOf Qc mc ms free) (vx_Post XC mc ms free) := vx_back (bytes := bytes) (maxL := maxL) (ret := ret) hM hp.1 hrc hrs hfr hlo hws hcw (fun a' U hW => word_at hW (Or.inl (by first | rfl | simp [Cond.onTables, Cond.keeps, Cond.steady])) hini)
  obtain ⟨hx, hb, hml, ho, -⟩ := S
  obtain ⟨-, ⟨cellB, hcB, hoB, hclB⟩, hPc⟩ := hp
  intro T hT X
  rcases vx_callVN X hx (C := C) (bytes := bytes) (maxL := maxL) (ret := ret) ho hl hx1 hx2 hcode hy hK (by rw [hT]; exact hcB) hoB hclB hg (hsize.trans hml.symm) (argsL := As) (rest := rest) (fun sig h => hn.trans (hlen sig h)) hstack hW (by rw [hb]; exact hdg)
    (fun vm₁ hW₁ => ⟨hf.1, hf.2, hPc (T.setVm vm₁) hT hW₁⟩) with ⟨v, vm₁, ⟨U', l2, c2, s2⟩, hW₁, X', ⟨g', mk, t, L, e1, e2, hq, h1, hL, h2, h3⟩, st⟩ | ⟨q, vm₁, ⟨U', l2, c2, s2⟩, hW₁, X', ⟨g', mk, t, L, E, ce, e1, e2, hq, hce, hcv, hcl, h1, hL, h2, h3⟩, st⟩
  · dsimp only [Pt.U, Pt.locs, Pt.cells, Pt.slots] at X' e1 e2 h1 h2 h3 st
    subst h1; subst h2; subst h3
    exact Or.inl ⟨v, (T.setVm vm₁).calling g' mk (Value.ref b :: As).toArray, t, U', L, hT, X', hL, e1, e2, hq, st⟩
  · dsimp only [Pt.U, Pt.locs, Pt.cells, Pt.slots] at X' e1 e2 h1 h2 h3 st hcl
    subst h1; subst h2; subst h3
    exact Or.inr ⟨q, (T.setVm vm₁).calling g' mk (Value.ref b :: As).toArray, t, U', L, E, ce, hT, X', hL, e1, e2, hq, hce, hcv, vx_cls hW₁ hcl, st⟩
theorem vx_runSN {y : MethodName} {bytes cc : ByteArray} {maxL nL mc ms n index : Nat} {ret : Option FieldType} {ws : List Cond} {rm : Room} {Pc : Array Value → State → Prop} {Qc : Array Value → State → Outcome → State → Prop} {XC : String → State → State → Prop} {free : Addr → Prop} {Ts : List Cond} {own host : String} {As rest : List Value} {g : JFrame}
    (S : CallFix p m c cc nL s args Ts own) (hM : vx_Met l y ws rm Pc Qc XC mc ms free) (cw : va_CN R s args own index y host bytes maxL ret ws rm mc ms n ∧ (Cond.static y).before args s = true ∧ True) (hp : PreS s H Pc As)
    (hg : g.method = m) (hn : As.length = n) (hsize : g.locals.size = nL) (hstack : g.stack = As.reverse ++ rest) (hW : 2 * g.monitorRoom + (rest.map fun v => v.category).sum ≤ 8) (hdg : decode cc g.pc = .ok (.invokestatic index, 3)) (hf : cells + mc ≤ R.cells ∧ slots + ms ≤ R.slots) :
    vx_Run p l e R s m args below meth c H locs cells slots mc ms g rest (Qc As.toArray) XC free := by
  obtain ⟨⟨⟨hrc, hrs, hfr, hlo, hws, hcw⟩, hcode, hini, hy, hlen, hl⟩, hx1, hx2⟩ := cw
  have hK : vx_Back l R p e below s args y 3 8 (PreOf R mc ms Pc) (PostOf Qc mc ms free) (vx_Post XC mc ms free) := vx_back (bytes := bytes) (maxL := maxL) (ret := ret) hM hp.1 hrc hrs hfr hlo hws hcw (fun a' U hW => word_at hW (Or.inl (by first | rfl | simp [Cond.onTables, Cond.keeps, Cond.steady])) hini)
  obtain ⟨hx, hb, hml, ho, -⟩ := S
  have hPc := hp.2
  intro T hT X
  rcases vx_callSN X hx (bytes := bytes) (maxL := maxL) (ret := ret) ho hl hx1 hini hcode hy hK hg (hsize.trans hml.symm) (argsL := As) (rest := rest) (fun sig h => hn.trans (hlen sig h)) hstack hW (by rw [hb]; exact hdg)
    (fun vm₁ hW₁ => ⟨hf.1, hf.2, hPc (T.setVm vm₁) hT hW₁⟩) with ⟨v, vm₁, ⟨U', l2, c2, s2⟩, hW₁, X', ⟨g', mk, t, L, e1, e2, hq, h1, hL, h2, h3⟩, st⟩ | ⟨q, vm₁, ⟨U', l2, c2, s2⟩, hW₁, X', ⟨g', mk, t, L, E, ce, e1, e2, hq, hce, hcv, hcl, h1, hL, h2, h3⟩, st⟩
  · dsimp only [Pt.U, Pt.locs, Pt.cells, Pt.slots] at X' e1 e2 h1 h2 h3 st
    subst h1; subst h2; subst h3
    exact Or.inl ⟨v, (T.setVm vm₁).calling g' mk As.toArray, t, U', L, hT, X', hL, e1, e2, hq, st⟩
  · dsimp only [Pt.U, Pt.locs, Pt.cells, Pt.slots] at X' e1 e2 h1 h2 h3 st hcl
    subst h1; subst h2; subst h3
    exact Or.inr ⟨q, (T.setVm vm₁).calling g' mk As.toArray, t, U', L, E, ce, hT, X', hL, e1, e2, hq, hce, hcv, vx_cls hW₁ hcl, st⟩
end
/-! ===== END ===== -/
/-! ===== BEGIN calls by an interface of methods that may throw (vx_callIF, vx_runF follow va_callIF, va_runF of this kit) ===== -/
section
variable {p : Program} {l : Launch} {e : Env} {R : Room} {s : State} {m : MethodId} {args : Array Value} {below : List Frame} {meth : Method} {c : Code} {H : Heap} {locs : List Loc} {cells slots : Nat} {Q : State → Prop}
variable {mc ms : Nat} {free : Addr → Prop} {A0 A1 : Nat → Prop} {H0 : Heap} {a : Array Value} {pc : Nat} {ls : Array Slot} {st0 rest : List Value}
def vx_Run5 (p : Program) (l : Launch) (e : Env) (R : Room) (s : State) (m : MethodId) (args : Array Value) (below : List Frame) (meth : Method) (c : Code) (H : Heap) (locs : List Loc) (cells slots mc ms : Nat) (g : JFrame) (rest : List Value) (Qa : State → Outcome → State → Prop) (XC : String → State → State → Prop) (free : Addr → Prop) : Prop :=
  ∀ T : State, T.heap = H → Stand p l e R s m args below meth c T locs cells slots →
    (∃ (v : Option Value) (st₀ t T' : State) (L : List Loc), st₀.heap = H ∧ Stand p l e R s m args below meth c T' (locs ++ L) (cells + mc) (slots + ms) ∧ (∀ q ∈ L, free q.base) ∧ T'.heap = t.heap ∧ T'.vm = t.vm ∧ Qa st₀ (.returned v) t ∧
      Goes p e below T g T' { g with pc := g.pc + 5, stack := v.toList ++ rest }) ∨
    (∃ (q : Addr) (st₀ t T' : State) (L : List Loc) (E : String) (ce : Cell), st₀.heap = H ∧ Stand p l e R s m args below meth c T' (locs ++ L) (cells + mc) (slots + ms) ∧ (∀ z ∈ L, free z.base) ∧ T'.heap = t.heap ∧ T'.vm = t.vm ∧ XC E st₀ t ∧ t.heap[q]? = some ce ∧ ce.vm = .none ∧ s.vm.findClass E = some ce.cls ∧
      Steps p.tables e below (T.setTop g) ((T'.setTop { g with stack := rest }).pushFrame (.throwing q)))
theorem vx_callIF {T : State} (X : Stand p l e R s m args below meth c T locs cells slots) (hexec : p.tables.exec = Jvm.exec) {own C : String} {index count : Nat} {x y : MethodName} {bytes : ByteArray} {maxL : Nat} {ret : Option FieldType}
    (hown : s.vm.findClass own = some m.cls) (hlink : (Cond.methodLink own index x).before args s = true) (hdecl : (Cond.declares x).before args s = true) (hface : (Cond.interfaceMethod x.cls x.cls x.name x.desc).before args s = true)
    (hsel : (Cond.selects C x y).before args s = true) (hinst : (Cond.instanceMethod y).before args s = true) (hpub : (Cond.publicMethod y).before args s = true) (hunh : (Cond.unhidden C x.name x.desc).before args s = true)
    (hcast : (Cond.castable C x.cls).before args s = true) (hcode : (Cond.code y bytes maxL ret).before args s = true) (hx : x.cls ≠ "java/lang/invoke/MethodHandle" ∧ x.cls ≠ "java/lang/invoke/VarHandle")
    {W9 : Nat} {Pre : Pt → Array Value → Prop} {Post : Pt → Array Value → Option Value → Pt → Prop} {PostX : Pt → Array Value → Addr → Pt → Prop} (hK : vx_Back l R p e below s args y 5 W9 Pre Post PostX)
    {b : Addr} {cellB : Cell} {kB : Class} (hcell : T.heap[b]? = some cellB) (hobj : cellB.vm.isStatics = false) (hcls : s.vm.findClass C = some cellB.cls) (hkB : s.vm.classes[cellB.cls]? = some kB)
    {g : JFrame} (hg : g.method = m) (hsize : g.locals.size = c.maxLocals) {argsL rest : List Value} (hlen : ∀ sig, parseMethodDescriptor x.desc = some sig → argsL.length = sig.parameters.length)
    (hstack : g.stack = argsL.reverse ++ .ref b :: rest) (hW : 2 * g.monitorRoom + (rest.map fun v => v.category).sum ≤ W9) (hdg : decode c.code g.pc = .ok (.invokeinterface index count, 5))
    (hpre : ∀ vm₁, s.WarmedH vm₁ → Pre ⟨T.setVm vm₁, locs, cells, slots⟩ (Value.ref b :: argsL).toArray) :
    (∃ (v : Option Value) (vm₁ : Vm) (B : Pt), s.WarmedH vm₁ ∧ Stand p l e R s m args below meth c B.U B.locs B.cells B.slots ∧ Post ⟨T.setVm vm₁, locs, cells, slots⟩ (Value.ref b :: argsL).toArray v B ∧
      ∀ target, Steps p.tables e below (B.U.setTop { g with pc := g.pc + 5, stack := v.toList ++ rest }) target → Steps p.tables e below (T.setTop g) target) ∨
    (∃ (q : Addr) (vm₁ : Vm) (B : Pt), s.WarmedH vm₁ ∧ Stand p l e R s m args below meth c B.U B.locs B.cells B.slots ∧ PostX ⟨T.setVm vm₁, locs, cells, slots⟩ (Value.ref b :: argsL).toArray q B ∧
      Steps p.tables e below (T.setTop g) ((B.U.setTop { g with stack := rest }).pushFrame (.throwing q))) := by
  obtain ⟨r0, r, hn, hrm, hstR, hsigR⟩ := Cond.declares_spec hdecl
  obtain ⟨cL, kL, r1, hcL, hkL, hiL, hfoundL, hn1⟩ := Cond.interfaceMethod_spec hface
  cases hn.symm.trans hn1
  have hr0cls : r0.cls = cL := Option.some.inj ((findClass_of_methodNamed hn).symm.trans hcL)
  obtain ⟨hnameR, hdescR⟩ := name_of_methodNamed hn hrm
  obtain ⟨mk, methM, hnamed, hmethM, -, habM⟩ := Cond.instanceMethod_spec hinst
  obtain ⟨c2, r2, m2, q1, q2, q3, q4, -⟩ := Cond.selects_spec hsel
  cases hcls.symm.trans q1
  cases hfoundL.symm.trans q2
  cases hnamed.symm.trans q3
  have hselP : selectMethod e.platform s.vm cellB.cls r0 = .method mk := by rw [Launch.admits_selectMethod X.admits]; exact q4
  have hpubM : hasFlag methM.accessFlags Acc.public_ = true := Cond.publicMethod_spec hnamed hmethM hpub
  have hway : ((cellB.cls :: s.vm.superclasses cellB.cls).any fun k => (declaredIn s.vm r.name r.desc k).any fun (_, z) => z.isPrivate || z.isStatic) = false := by
    rw [hnameR, hdescR]; exact Cond.unhidden_spec hcls hunh
  obtain ⟨c3, t3, w1, w2, w3⟩ := Cond.castable_spec hcast
  cases hcls.symm.trans w1
  cases hcL.symm.trans w2
  obtain ⟨vm₁, X₁, hstep₁⟩ := X.invokeinterface hexec hown hlink hn hrm hstR (by rw [hr0cls]; exact hkL) hiL hx (a := b) (cell := cellB) (kcell := kB) hcell
    (fun z h => by rw [h] at hobj; cases hobj) hkB (by rw [hr0cls]; exact w3) hselP hmethM hway hpubM habM (g := g) hg (argsL := argsL) (rest := rest) (hlen _ hsigR) hstack hdg
  rcases hK m meth c ⟨T.setVm vm₁, locs, cells, slots⟩ { g with stack := rest } (.invokeinterface index count) mk (Value.ref b :: argsL).toArray X₁ hg hsize hdg hW (X₁.named hnamed) (hpre vm₁ X₁.warmed) with ⟨v, B, X', hpost, hsteps⟩ | ⟨q, B, X', hpost, hsteps⟩
  · exact Or.inl ⟨v, vm₁, B, X₁.warmed, X', hpost, fun target h => hstep₁ _ fun acts => by rw [doInvoke_state]; exact hsteps.trans h⟩
  · exact Or.inr ⟨q, vm₁, B, X₁.warmed, X', hpost, hstep₁ _ fun acts => by rw [doInvoke_state]; exact hsteps⟩
theorem vx_runF {x y : MethodName} {bytes cc : ByteArray} {maxL nL mc ms n index count : Nat} {ret : Option FieldType} {ws : List Cond} {rm : Room} {Pc : Array Value → State → Prop} {Qc : Array Value → State → Outcome → State → Prop} {XC : String → State → State → Prop} {free : Addr → Prop} {Ts : List Cond} {own C : String} {cC : ClassId} {b : Addr} {As rest : List Value} {g : JFrame}
    (hat : ClassAt s C cC) (S : CallFix p m c cc nL s args Ts own) (hM : vx_Met l y ws rm Pc Qc XC mc ms free) (cw : va_CI R s args own C index x y bytes maxL ret ws rm mc ms n) (hp : PreV s H C b Pc As)
    (hg : g.method = m) (hn : As.length = n) (hsize : g.locals.size = nL) (hstack : g.stack = As.reverse ++ .ref b :: rest) (hW : 2 * g.monitorRoom + (rest.map fun v => v.category).sum ≤ 8) (hdg : decode cc g.pc = .ok (.invokeinterface index count, 5)) (hf : cells + mc ≤ R.cells ∧ slots + ms ≤ R.slots) :
    vx_Run5 p l e R s m args below meth c H locs cells slots mc ms g rest (Qc (Value.ref b :: As).toArray) XC free := by
  obtain ⟨hrc, hrs, hfr, hlo, hws, hcw⟩ := cw.back
  have hini := cw.init
  have hK : vx_Back l R p e below s args y 5 8 (PreOf R mc ms Pc) (PostOf Qc mc ms free) (vx_Post XC mc ms free) := vx_back (bytes := bytes) (maxL := maxL) (ret := ret) hM hp.1 hrc hrs hfr hlo hws hcw (fun a' U hW => word_at hW (Or.inl (by first | rfl | simp [Cond.onTables, Cond.keeps, Cond.steady])) hini)
  obtain ⟨hx, hb, hml, ho, -⟩ := S
  obtain ⟨-, ⟨cellB, hcB, hoB, hclB⟩, hPc⟩ := hp
  obtain ⟨hfc, kB, hkB, -⟩ := hat
  cases hfc.symm.trans hclB
  intro T hT X
  rcases vx_callIF X hx (C := C) (bytes := bytes) (maxL := maxL) (ret := ret) ho cw.link cw.decl cw.face cw.sel cw.inst cw.pub cw.unh cw.cast cw.code cw.notMH hK (by rw [hT]; exact hcB) hoB hclB hkB hg (hsize.trans hml.symm) (argsL := As) (rest := rest) (fun sig h => hn.trans (cw.len sig h)) hstack hW (by rw [hb]; exact hdg)
    (fun vm₁ hW₁ => ⟨hf.1, hf.2, hPc (T.setVm vm₁) hT hW₁⟩) with ⟨v, vm₁, ⟨U', l2, c2, s2⟩, hW₁, X', ⟨g', mk, t, L, e1, e2, hq, h1, hL, h2, h3⟩, st⟩ | ⟨q, vm₁, ⟨U', l2, c2, s2⟩, hW₁, X', ⟨g', mk, t, L, E, ce, e1, e2, hq, hce, hcv, hcl, h1, hL, h2, h3⟩, st⟩
  · dsimp only [Pt.U, Pt.locs, Pt.cells, Pt.slots] at X' e1 e2 h1 h2 h3 st
    subst h1; subst h2; subst h3
    exact Or.inl ⟨v, (T.setVm vm₁).calling g' mk (Value.ref b :: As).toArray, t, U', L, hT, X', hL, e1, e2, hq, st⟩
  · dsimp only [Pt.U, Pt.locs, Pt.cells, Pt.slots] at X' e1 e2 h1 h2 h3 st hcl
    subst h1; subst h2; subst h3
    exact Or.inr ⟨q, (T.setVm vm₁).calling g' mk (Value.ref b :: As).toArray, t, U', L, E, ce, hT, X', hL, e1, e2, hq, hce, hcv, vx_cls hW₁ hcl, st⟩
theorem vx_callFv {S SX : Type} {post : S → Prop} {px : SX → Prop} {B : S → State → Prop} {BX : String → SX → State → Prop} {AX : Nat → Prop} (hr : vx_Run5 p l e R s m args below meth c H locs cells slots mc ms (F0 m pc ls st0) rest (va_Qv post B A1 a) (vx_X px BX AX) free) (hS : va_S A0 H0 H locs) (hA : ∀ q, q < H.size → A1 q → A0 q) (hf : ∀ q, free q → A0 q) (hAX : ∀ q, q < H.size → AX q → A0 q)
    (kx : ∀ (E : String) (ce : Cell) (q9 : Addr) (u : SX) (t : State) (H1 : Heap) (locs1 : List Loc), t.heap = H1 → s.vm.Alike t.vm → px u → BX E u t → H.size ≤ H1.size → (∀ q : Nat, q < H.size → ¬ AX q → H1[q]? = H[q]?) → va_S A0 H0 H1 locs1 → H1[q9]? = some ce → ce.vm = .none → s.vm.findClass E = some ce.cls → vx_W p l e R s m args below meth c H1 locs1 (cells + mc) (slots + ms) Q (F0 m pc ls rest) q9)
    (kk : ∀ (u : S) (t : State) (H1 : Heap) (locs1 : List Loc), t.heap = H1 → s.vm.Alike t.vm → post u → B u t → H.size ≤ H1.size → (∀ q : Nat, q < H.size → ¬ A1 q → H1[q]? = H[q]?) → va_S A0 H0 H1 locs1 → W p l e R s m args below meth c H1 locs1 (cells + mc) (slots + ms) Q (F0 m (pc + 5) ls (rest))) : W p l e R s m args below meth c H locs cells slots Q (F0 m pc ls st0) := by
  intro T hT X
  rcases hr T hT X with ⟨v, st₀, t, T', L, h0, X', hL, e1, e2, ⟨⟨u, hv, hp, hb⟩, hF⟩, st⟩ | ⟨q, st₀, t, T', L, E, ce, h0, X', hL, e1, e2, ⟨u, hp, hb, hF⟩, hce, hcv, hcl, st⟩
  · cases hv
    obtain ⟨k1, k2, k3⟩ := vx_keep h0 e1 hS hA hf hL hF
    obtain ⟨t2, a1, b1⟩ := kk u t T'.heap (locs ++ L) e1.symm (by rw [← e2]; exact X'.warmed.alike) hp hb k1 k2 k3 T' rfl X'
    exact ⟨t2, st t2 a1, b1⟩
  · obtain ⟨k1, k2, k3⟩ := vx_keep h0 e1 hS hAX hf hL hF
    obtain ⟨t2, a1, b1⟩ := kx E ce q u t T'.heap (locs ++ L) e1.symm (by rw [← e2]; exact X'.warmed.alike) hp hb k1 k2 k3 (by rw [e1]; exact hce) hcv hcl T' rfl X'
    exact ⟨t2, st.trans a1, b1⟩
theorem vx_callFi {S SX : Type} {post : Int32 → S → Prop} {px : SX → Prop} {B : S → State → Prop} {BX : String → SX → State → Prop} {AX : Nat → Prop} (hr : vx_Run5 p l e R s m args below meth c H locs cells slots mc ms (F0 m pc ls st0) rest (va_Qi post B A1 a) (vx_X px BX AX) free) (hS : va_S A0 H0 H locs) (hA : ∀ q, q < H.size → A1 q → A0 q) (hf : ∀ q, free q → A0 q) (hAX : ∀ q, q < H.size → AX q → A0 q)
    (kx : ∀ (E : String) (ce : Cell) (q9 : Addr) (u : SX) (t : State) (H1 : Heap) (locs1 : List Loc), t.heap = H1 → s.vm.Alike t.vm → px u → BX E u t → H.size ≤ H1.size → (∀ q : Nat, q < H.size → ¬ AX q → H1[q]? = H[q]?) → va_S A0 H0 H1 locs1 → H1[q9]? = some ce → ce.vm = .none → s.vm.findClass E = some ce.cls → vx_W p l e R s m args below meth c H1 locs1 (cells + mc) (slots + ms) Q (F0 m pc ls rest) q9)
    (kk : ∀ (r : Int32) (u : S) (t : State) (H1 : Heap) (locs1 : List Loc), t.heap = H1 → s.vm.Alike t.vm → post r u → B u t → H.size ≤ H1.size → (∀ q : Nat, q < H.size → ¬ A1 q → H1[q]? = H[q]?) → va_S A0 H0 H1 locs1 → W p l e R s m args below meth c H1 locs1 (cells + mc) (slots + ms) Q (F0 m (pc + 5) ls (.int r :: rest))) : W p l e R s m args below meth c H locs cells slots Q (F0 m pc ls st0) := by
  intro T hT X
  rcases hr T hT X with ⟨v, st₀, t, T', L, h0, X', hL, e1, e2, ⟨⟨r, u, hv, hp, hb⟩, hF⟩, st⟩ | ⟨q, st₀, t, T', L, E, ce, h0, X', hL, e1, e2, ⟨u, hp, hb, hF⟩, hce, hcv, hcl, st⟩
  · cases hv
    obtain ⟨k1, k2, k3⟩ := vx_keep h0 e1 hS hA hf hL hF
    obtain ⟨t2, a1, b1⟩ := kk r u t T'.heap (locs ++ L) e1.symm (by rw [← e2]; exact X'.warmed.alike) hp hb k1 k2 k3 T' rfl X'
    exact ⟨t2, st t2 a1, b1⟩
  · obtain ⟨k1, k2, k3⟩ := vx_keep h0 e1 hS hAX hf hL hF
    obtain ⟨t2, a1, b1⟩ := kx E ce q u t T'.heap (locs ++ L) e1.symm (by rw [← e2]; exact X'.warmed.alike) hp hb k1 k2 k3 (by rw [e1]; exact hce) hcv hcl T' rfl X'
    exact ⟨t2, st.trans a1, b1⟩
theorem vx_callFl {S SX : Type} {post : Int64 → S → Prop} {px : SX → Prop} {B : S → State → Prop} {BX : String → SX → State → Prop} {AX : Nat → Prop} (hr : vx_Run5 p l e R s m args below meth c H locs cells slots mc ms (F0 m pc ls st0) rest (va_Ql post B A1 a) (vx_X px BX AX) free) (hS : va_S A0 H0 H locs) (hA : ∀ q, q < H.size → A1 q → A0 q) (hf : ∀ q, free q → A0 q) (hAX : ∀ q, q < H.size → AX q → A0 q)
    (kx : ∀ (E : String) (ce : Cell) (q9 : Addr) (u : SX) (t : State) (H1 : Heap) (locs1 : List Loc), t.heap = H1 → s.vm.Alike t.vm → px u → BX E u t → H.size ≤ H1.size → (∀ q : Nat, q < H.size → ¬ AX q → H1[q]? = H[q]?) → va_S A0 H0 H1 locs1 → H1[q9]? = some ce → ce.vm = .none → s.vm.findClass E = some ce.cls → vx_W p l e R s m args below meth c H1 locs1 (cells + mc) (slots + ms) Q (F0 m pc ls rest) q9)
    (kk : ∀ (r : Int64) (u : S) (t : State) (H1 : Heap) (locs1 : List Loc), t.heap = H1 → s.vm.Alike t.vm → post r u → B u t → H.size ≤ H1.size → (∀ q : Nat, q < H.size → ¬ A1 q → H1[q]? = H[q]?) → va_S A0 H0 H1 locs1 → W p l e R s m args below meth c H1 locs1 (cells + mc) (slots + ms) Q (F0 m (pc + 5) ls (.long r :: rest))) : W p l e R s m args below meth c H locs cells slots Q (F0 m pc ls st0) := by
  intro T hT X
  rcases hr T hT X with ⟨v, st₀, t, T', L, h0, X', hL, e1, e2, ⟨⟨r, u, hv, hp, hb⟩, hF⟩, st⟩ | ⟨q, st₀, t, T', L, E, ce, h0, X', hL, e1, e2, ⟨u, hp, hb, hF⟩, hce, hcv, hcl, st⟩
  · cases hv
    obtain ⟨k1, k2, k3⟩ := vx_keep h0 e1 hS hA hf hL hF
    obtain ⟨t2, a1, b1⟩ := kk r u t T'.heap (locs ++ L) e1.symm (by rw [← e2]; exact X'.warmed.alike) hp hb k1 k2 k3 T' rfl X'
    exact ⟨t2, st t2 a1, b1⟩
  · obtain ⟨k1, k2, k3⟩ := vx_keep h0 e1 hS hAX hf hL hF
    obtain ⟨t2, a1, b1⟩ := kx E ce q u t T'.heap (locs ++ L) e1.symm (by rw [← e2]; exact X'.warmed.alike) hp hb k1 k2 k3 (by rw [e1]; exact hce) hcv hcl T' rfl X'
    exact ⟨t2, st.trans a1, b1⟩
theorem vx_callFf {S SX : Type} {post : UInt32 → S → Prop} {px : SX → Prop} {B : S → State → Prop} {BX : String → SX → State → Prop} {AX : Nat → Prop} (hr : vx_Run5 p l e R s m args below meth c H locs cells slots mc ms (F0 m pc ls st0) rest (va_Qf post B A1 a) (vx_X px BX AX) free) (hS : va_S A0 H0 H locs) (hA : ∀ q, q < H.size → A1 q → A0 q) (hf : ∀ q, free q → A0 q) (hAX : ∀ q, q < H.size → AX q → A0 q)
    (kx : ∀ (E : String) (ce : Cell) (q9 : Addr) (u : SX) (t : State) (H1 : Heap) (locs1 : List Loc), t.heap = H1 → s.vm.Alike t.vm → px u → BX E u t → H.size ≤ H1.size → (∀ q : Nat, q < H.size → ¬ AX q → H1[q]? = H[q]?) → va_S A0 H0 H1 locs1 → H1[q9]? = some ce → ce.vm = .none → s.vm.findClass E = some ce.cls → vx_W p l e R s m args below meth c H1 locs1 (cells + mc) (slots + ms) Q (F0 m pc ls rest) q9)
    (kk : ∀ (r : UInt32) (u : S) (t : State) (H1 : Heap) (locs1 : List Loc), t.heap = H1 → s.vm.Alike t.vm → post r u → B u t → H.size ≤ H1.size → (∀ q : Nat, q < H.size → ¬ A1 q → H1[q]? = H[q]?) → va_S A0 H0 H1 locs1 → W p l e R s m args below meth c H1 locs1 (cells + mc) (slots + ms) Q (F0 m (pc + 5) ls (.float r :: rest))) : W p l e R s m args below meth c H locs cells slots Q (F0 m pc ls st0) := by
  intro T hT X
  rcases hr T hT X with ⟨v, st₀, t, T', L, h0, X', hL, e1, e2, ⟨⟨r, u, hv, hp, hb⟩, hF⟩, st⟩ | ⟨q, st₀, t, T', L, E, ce, h0, X', hL, e1, e2, ⟨u, hp, hb, hF⟩, hce, hcv, hcl, st⟩
  · cases hv
    obtain ⟨k1, k2, k3⟩ := vx_keep h0 e1 hS hA hf hL hF
    obtain ⟨t2, a1, b1⟩ := kk r u t T'.heap (locs ++ L) e1.symm (by rw [← e2]; exact X'.warmed.alike) hp hb k1 k2 k3 T' rfl X'
    exact ⟨t2, st t2 a1, b1⟩
  · obtain ⟨k1, k2, k3⟩ := vx_keep h0 e1 hS hAX hf hL hF
    obtain ⟨t2, a1, b1⟩ := kx E ce q u t T'.heap (locs ++ L) e1.symm (by rw [← e2]; exact X'.warmed.alike) hp hb k1 k2 k3 (by rw [e1]; exact hce) hcv hcl T' rfl X'
    exact ⟨t2, st.trans a1, b1⟩
theorem vx_callFd {S SX : Type} {post : UInt64 → S → Prop} {px : SX → Prop} {B : S → State → Prop} {BX : String → SX → State → Prop} {AX : Nat → Prop} (hr : vx_Run5 p l e R s m args below meth c H locs cells slots mc ms (F0 m pc ls st0) rest (va_Qd post B A1 a) (vx_X px BX AX) free) (hS : va_S A0 H0 H locs) (hA : ∀ q, q < H.size → A1 q → A0 q) (hf : ∀ q, free q → A0 q) (hAX : ∀ q, q < H.size → AX q → A0 q)
    (kx : ∀ (E : String) (ce : Cell) (q9 : Addr) (u : SX) (t : State) (H1 : Heap) (locs1 : List Loc), t.heap = H1 → s.vm.Alike t.vm → px u → BX E u t → H.size ≤ H1.size → (∀ q : Nat, q < H.size → ¬ AX q → H1[q]? = H[q]?) → va_S A0 H0 H1 locs1 → H1[q9]? = some ce → ce.vm = .none → s.vm.findClass E = some ce.cls → vx_W p l e R s m args below meth c H1 locs1 (cells + mc) (slots + ms) Q (F0 m pc ls rest) q9)
    (kk : ∀ (r : UInt64) (u : S) (t : State) (H1 : Heap) (locs1 : List Loc), t.heap = H1 → s.vm.Alike t.vm → post r u → B u t → H.size ≤ H1.size → (∀ q : Nat, q < H.size → ¬ A1 q → H1[q]? = H[q]?) → va_S A0 H0 H1 locs1 → W p l e R s m args below meth c H1 locs1 (cells + mc) (slots + ms) Q (F0 m (pc + 5) ls (.double r :: rest))) : W p l e R s m args below meth c H locs cells slots Q (F0 m pc ls st0) := by
  intro T hT X
  rcases hr T hT X with ⟨v, st₀, t, T', L, h0, X', hL, e1, e2, ⟨⟨r, u, hv, hp, hb⟩, hF⟩, st⟩ | ⟨q, st₀, t, T', L, E, ce, h0, X', hL, e1, e2, ⟨u, hp, hb, hF⟩, hce, hcv, hcl, st⟩
  · cases hv
    obtain ⟨k1, k2, k3⟩ := vx_keep h0 e1 hS hA hf hL hF
    obtain ⟨t2, a1, b1⟩ := kk r u t T'.heap (locs ++ L) e1.symm (by rw [← e2]; exact X'.warmed.alike) hp hb k1 k2 k3 T' rfl X'
    exact ⟨t2, st t2 a1, b1⟩
  · obtain ⟨k1, k2, k3⟩ := vx_keep h0 e1 hS hAX hf hL hF
    obtain ⟨t2, a1, b1⟩ := kx E ce q u t T'.heap (locs ++ L) e1.symm (by rw [← e2]; exact X'.warmed.alike) hp hb k1 k2 k3 (by rw [e1]; exact hce) hcv hcl T' rfl X'
    exact ⟨t2, st.trans a1, b1⟩
end
/-! ===== END ===== -/
/-! ===== BEGIN by an interface, a method with a table of its own that may throw (follows va_callIFW, va_runFW) ===== -/
section
variable {p : Program} {l : Launch} {e : Env} {R : Room} {s : State} {m : MethodId} {args : Array Value} {below : List Frame} {meth : Method} {c : Code} {H : Heap} {locs : List Loc} {cells slots : Nat}
theorem vx_callIFW {T : State} (X : Stand p l e R s m args below meth c T locs cells slots) (hexec : p.tables.exec = Jvm.exec) {own C : String} {index count : Nat} {x y : MethodName} {bytes : ByteArray} {maxL : Nat} {ret : Option FieldType} {hh : List (Nat × Nat × Nat × Nat)}
    (hown : s.vm.findClass own = some m.cls) (hlink : (Cond.methodLink own index x).before args s = true) (hdecl : (Cond.declares x).before args s = true) (hface : (Cond.interfaceMethod x.cls x.cls x.name x.desc).before args s = true)
    (hsel : (Cond.selects C x y).before args s = true) (hinst : (Cond.instanceMethod y).before args s = true) (hpub : (Cond.publicMethod y).before args s = true) (hunh : (Cond.unhidden C x.name x.desc).before args s = true)
    (hcast : (Cond.castable C x.cls).before args s = true) (hcode : (Cond.codeWith y bytes maxL ret hh).before args s = true) (hx : x.cls ≠ "java/lang/invoke/MethodHandle" ∧ x.cls ≠ "java/lang/invoke/VarHandle")
    {W : Nat} {Pre : Pt → Array Value → Prop} {Post : Pt → Array Value → Option Value → Pt → Prop} {PostX : Pt → Array Value → Addr → Pt → Prop} (hK : vx_Back l R p e below s args y 5 W Pre Post PostX)
    {b : Addr} {cellB : Cell} {kB : Class} (hcell : T.heap[b]? = some cellB) (hobj : cellB.vm.isStatics = false) (hcls : s.vm.findClass C = some cellB.cls) (hkB : s.vm.classes[cellB.cls]? = some kB)
    {g : JFrame} (hg : g.method = m) (hsize : g.locals.size = c.maxLocals) {argsL rest : List Value} (hlen : ∀ sig, parseMethodDescriptor x.desc = some sig → argsL.length = sig.parameters.length)
    (hstack : g.stack = argsL.reverse ++ .ref b :: rest) (hW : 2 * g.monitorRoom + (rest.map fun v => v.category).sum ≤ W) (hdg : decode c.code g.pc = .ok (.invokeinterface index count, 5))
    (hpre : ∀ vm₁, s.WarmedH vm₁ → Pre ⟨T.setVm vm₁, locs, cells, slots⟩ (Value.ref b :: argsL).toArray) :
    (∃ (v : Option Value) (vm₁ : Vm) (B : Pt), s.WarmedH vm₁ ∧ Stand p l e R s m args below meth c B.U B.locs B.cells B.slots ∧ Post ⟨T.setVm vm₁, locs, cells, slots⟩ (Value.ref b :: argsL).toArray v B ∧
      ∀ target, Steps p.tables e below (B.U.setTop { g with pc := g.pc + 5, stack := v.toList ++ rest }) target → Steps p.tables e below (T.setTop g) target) ∨
    (∃ (q : Addr) (vm₁ : Vm) (B : Pt), s.WarmedH vm₁ ∧ Stand p l e R s m args below meth c B.U B.locs B.cells B.slots ∧ PostX ⟨T.setVm vm₁, locs, cells, slots⟩ (Value.ref b :: argsL).toArray q B ∧
      Steps p.tables e below (T.setTop g) ((B.U.setTop { g with stack := rest }).pushFrame (.throwing q))) := by
  obtain ⟨r0, r, hn, hrm, hstR, hsigR⟩ := Cond.declares_spec hdecl
  obtain ⟨cL, kL, r1, hcL, hkL, hiL, hfoundL, hn1⟩ := Cond.interfaceMethod_spec hface
  cases hn.symm.trans hn1
  have hr0cls : r0.cls = cL := Option.some.inj ((findClass_of_methodNamed hn).symm.trans hcL)
  obtain ⟨hnameR, hdescR⟩ := name_of_methodNamed hn hrm
  obtain ⟨mk, methM, hnamed, hmethM, -, habM⟩ := Cond.instanceMethod_spec hinst
  obtain ⟨c2, r2, m2, q1, q2, q3, q4, -⟩ := Cond.selects_spec hsel
  cases hcls.symm.trans q1
  cases hfoundL.symm.trans q2
  cases hnamed.symm.trans q3
  have hselP : selectMethod e.platform s.vm cellB.cls r0 = .method mk := by rw [Launch.admits_selectMethod X.admits]; exact q4
  have hpubM : hasFlag methM.accessFlags Acc.public_ = true := Cond.publicMethod_spec hnamed hmethM hpub
  have hway : ((cellB.cls :: s.vm.superclasses cellB.cls).any fun k => (declaredIn s.vm r.name r.desc k).any fun (_, z) => z.isPrivate || z.isStatic) = false := by
    rw [hnameR, hdescR]; exact Cond.unhidden_spec hcls hunh
  obtain ⟨c3, t3, w1, w2, w3⟩ := Cond.castable_spec hcast
  cases hcls.symm.trans w1
  cases hcL.symm.trans w2
  obtain ⟨vm₁, X₁, hstep₁⟩ := X.invokeinterface hexec hown hlink hn hrm hstR (by rw [hr0cls]; exact hkL) hiL hx (a := b) (cell := cellB) (kcell := kB) hcell
    (fun z h => by rw [h] at hobj; cases hobj) hkB (by rw [hr0cls]; exact w3) hselP hmethM hway hpubM habM (g := g) hg (argsL := argsL) (rest := rest) (hlen _ hsigR) hstack hdg
  rcases hK m meth c ⟨T.setVm vm₁, locs, cells, slots⟩ { g with stack := rest } (.invokeinterface index count) mk (Value.ref b :: argsL).toArray X₁ hg hsize hdg hW (X₁.named hnamed) (hpre vm₁ X₁.warmed) with ⟨v, B, X', hpost, hsteps⟩ | ⟨q, B, X', hpost, hsteps⟩
  · exact Or.inl ⟨v, vm₁, B, X₁.warmed, X', hpost, fun target h => hstep₁ _ fun acts => by rw [doInvoke_state]; exact hsteps.trans h⟩
  · exact Or.inr ⟨q, vm₁, B, X₁.warmed, X', hpost, hstep₁ _ fun acts => by rw [doInvoke_state]; exact hsteps⟩
theorem vx_runFW {x y : MethodName} {bytes cc : ByteArray} {maxL nL mc ms n index count : Nat} {ret : Option FieldType} {hh : List (Nat × Nat × Nat × Nat)} {ws : List Cond} {rm : Room} {Pc : Array Value → State → Prop} {Qc : Array Value → State → Outcome → State → Prop} {XC : String → State → State → Prop} {free : Addr → Prop} {Ts : List Cond} {own C : String} {cC : ClassId} {b : Addr} {As rest : List Value} {g : JFrame}
    (hat : ClassAt s C cC) (S : CallFix p m c cc nL s args Ts own) (hM : vx_Met l y ws rm Pc Qc XC mc ms free) (cw : va_CIW R s args own C index x y bytes maxL ret hh ws rm mc ms n) (hp : PreV s H C b Pc As)
    (hg : g.method = m) (hn : As.length = n) (hsize : g.locals.size = nL) (hstack : g.stack = As.reverse ++ .ref b :: rest) (hW : 2 * g.monitorRoom + (rest.map fun v => v.category).sum ≤ 8) (hdg : decode cc g.pc = .ok (.invokeinterface index count, 5)) (hf : cells + mc ≤ R.cells ∧ slots + ms ≤ R.slots) :
    vx_Run5 p l e R s m args below meth c H locs cells slots mc ms g rest (Qc (Value.ref b :: As).toArray) XC free := by
  obtain ⟨hrc, hrs, hfr, hlo, hws, hcw⟩ := cw.back
  have hini := cw.init
  have hK : vx_Back l R p e below s args y 5 8 (PreOf R mc ms Pc) (PostOf Qc mc ms free) (vx_Post XC mc ms free) := vx_backW (hh := hh) (bytes := bytes) (maxL := maxL) (ret := ret) hM hp.1 hrc hrs hfr hlo hws hcw (fun a' U hW => word_at hW (Or.inl (by first | rfl | simp [Cond.onTables, Cond.keeps, Cond.steady])) hini)
  obtain ⟨hx, hb, hml, ho, -⟩ := S
  obtain ⟨-, ⟨cellB, hcB, hoB, hclB⟩, hPc⟩ := hp
  obtain ⟨hfc, kB, hkB, -⟩ := hat
  cases hfc.symm.trans hclB
  intro T hT X
  rcases vx_callIFW X hx (C := C) (hh := hh) (bytes := bytes) (maxL := maxL) (ret := ret) ho cw.link cw.decl cw.face cw.sel cw.inst cw.pub cw.unh cw.cast cw.code cw.notMH hK (by rw [hT]; exact hcB) hoB hclB hkB hg (hsize.trans hml.symm) (argsL := As) (rest := rest) (fun sig h => hn.trans (cw.len sig h)) hstack hW (by rw [hb]; exact hdg)
    (fun vm₁ hW₁ => ⟨hf.1, hf.2, hPc (T.setVm vm₁) hT hW₁⟩) with ⟨v, vm₁, ⟨U', l2, c2, s2⟩, hW₁, X', ⟨g', mk, t, L, e1, e2, hq, h1, hL, h2, h3⟩, st⟩ | ⟨q, vm₁, ⟨U', l2, c2, s2⟩, hW₁, X', ⟨g', mk, t, L, E, ce, e1, e2, hq, hce, hcv, hcl, h1, hL, h2, h3⟩, st⟩
  · dsimp only [Pt.U, Pt.locs, Pt.cells, Pt.slots] at X' e1 e2 h1 h2 h3 st
    subst h1; subst h2; subst h3
    exact Or.inl ⟨v, (T.setVm vm₁).calling g' mk (Value.ref b :: As).toArray, t, U', L, hT, X', hL, e1, e2, hq, st⟩
  · dsimp only [Pt.U, Pt.locs, Pt.cells, Pt.slots] at X' e1 e2 h1 h2 h3 st hcl
    subst h1; subst h2; subst h3
    exact Or.inr ⟨q, (T.setVm vm₁).calling g' mk (Value.ref b :: As).toArray, t, U', L, E, ce, hT, X', hL, e1, e2, hq, hce, hcv, vx_cls hW₁ hcl, st⟩
end
/-! ===== END ===== -/
/-! ===== BEGIN .. of methods that hand back an object of the pool ===== -/
section
variable {p : Program} {l : Launch} {e : Env} {R : Room} {s : State} {m : MethodId} {args : Array Value} {below : List Frame} {meth : Method} {c : Code} {H : Heap} {locs : List Loc} {cells slots : Nat} {Q : State → Prop}
variable {mc ms : Nat} {free : Addr → Prop} {A0 A1 : Nat → Prop} {H0 : Heap} {a : Array Value} {pc : Nat} {ls : Array Slot} {st0 rest : List Value}
theorem vx_callq {S SX : Type} {post : Option Nat → S → Prop} {px : SX → Prop} {B : S → State → Prop} {BX : String → SX → State → Prop} {AX : Nat → Prop} (hr : vx_Run p l e R s m args below meth c H locs cells slots mc ms (F0 m pc ls st0) rest (va_Qq post B A1 a) (vx_X px BX AX) free) (hS : va_S A0 H0 H locs) (hA : ∀ q, q < H.size → A1 q → A0 q) (hf : ∀ q, free q → A0 q) (hAX : ∀ q, q < H.size → AX q → A0 q)
    (kx : ∀ (E : String) (ce : Cell) (q9 : Addr) (u : SX) (t : State) (H1 : Heap) (locs1 : List Loc), t.heap = H1 → s.vm.Alike t.vm → px u → BX E u t → H.size ≤ H1.size → (∀ q : Nat, q < H.size → ¬ AX q → H1[q]? = H[q]?) → va_S A0 H0 H1 locs1 → H1[q9]? = some ce → ce.vm = .none → s.vm.findClass E = some ce.cls → vx_W p l e R s m args below meth c H1 locs1 (cells + mc) (slots + ms) Q (F0 m pc ls rest) q9)
    (kk : ∀ (r : Option Nat) (u : S) (t : State) (H1 : Heap) (locs1 : List Loc), t.heap = H1 → s.vm.Alike t.vm → post r u → B u t → H.size ≤ H1.size → (∀ q : Nat, q < H.size → ¬ A1 q → H1[q]? = H[q]?) → va_S A0 H0 H1 locs1 → W p l e R s m args below meth c H1 locs1 (cells + mc) (slots + ms) Q (F0 m (pc + 3) ls (va_rf r :: rest))) : W p l e R s m args below meth c H locs cells slots Q (F0 m pc ls st0) := by
  intro T hT X
  rcases hr T hT X with ⟨v, st₀, t, T', L, h0, X', hL, e1, e2, ⟨⟨r, u, hv, hp, hb⟩, hF⟩, st⟩ | ⟨q, st₀, t, T', L, E, ce, h0, X', hL, e1, e2, ⟨u, hp, hb, hF⟩, hce, hcv, hcl, st⟩
  · cases hv
    obtain ⟨k1, k2, k3⟩ := vx_keep h0 e1 hS hA hf hL hF
    obtain ⟨t2, a1, b1⟩ := kk r u t T'.heap (locs ++ L) e1.symm (by rw [← e2]; exact X'.warmed.alike) hp hb k1 k2 k3 T' rfl X'
    exact ⟨t2, st t2 a1, b1⟩
  · obtain ⟨k1, k2, k3⟩ := vx_keep h0 e1 hS hAX hf hL hF
    obtain ⟨t2, a1, b1⟩ := kx E ce q u t T'.heap (locs ++ L) e1.symm (by rw [← e2]; exact X'.warmed.alike) hp hb k1 k2 k3 (by rw [e1]; exact hce) hcv hcl T' rfl X'
    exact ⟨t2, st.trans a1, b1⟩
end
/-! ===== END ===== -/
/-! ===== BEGIN .. a constant ===== -/
section
variable {p : Program} {l : Launch} {e : Env} {R : Room} {s : State} {m : MethodId} {args : Array Value} {below : List Frame} {meth : Method} {c : Code} {H : Heap} {locs : List Loc} {cells slots : Nat} {Q : State → Prop}
variable {mc ms : Nat} {free : Addr → Prop} {A0 A1 : Nat → Prop} {H0 : Heap} {a : Array Value} {pc : Nat} {ls : Array Slot} {st0 rest : List Value}
theorem vx_calle {ad : Nat → Nat} {S SX : Type} {post : Option Nat → S → Prop} {px : SX → Prop} {B : S → State → Prop} {BX : String → SX → State → Prop} {AX : Nat → Prop} (hr : vx_Run p l e R s m args below meth c H locs cells slots mc ms (F0 m pc ls st0) rest (va_Qe ad post B A1 a) (vx_X px BX AX) free) (hS : va_S A0 H0 H locs) (hA : ∀ q, q < H.size → A1 q → A0 q) (hf : ∀ q, free q → A0 q) (hAX : ∀ q, q < H.size → AX q → A0 q)
    (kx : ∀ (E : String) (ce : Cell) (q9 : Addr) (u : SX) (t : State) (H1 : Heap) (locs1 : List Loc), t.heap = H1 → s.vm.Alike t.vm → px u → BX E u t → H.size ≤ H1.size → (∀ q : Nat, q < H.size → ¬ AX q → H1[q]? = H[q]?) → va_S A0 H0 H1 locs1 → H1[q9]? = some ce → ce.vm = .none → s.vm.findClass E = some ce.cls → vx_W p l e R s m args below meth c H1 locs1 (cells + mc) (slots + ms) Q (F0 m pc ls rest) q9)
    (kk : ∀ (r : Option Nat) (u : S) (t : State) (H1 : Heap) (locs1 : List Loc), t.heap = H1 → s.vm.Alike t.vm → post r u → B u t → H.size ≤ H1.size → (∀ q : Nat, q < H.size → ¬ A1 q → H1[q]? = H[q]?) → va_S A0 H0 H1 locs1 → W p l e R s m args below meth c H1 locs1 (cells + mc) (slots + ms) Q (F0 m (pc + 3) ls (va_re ad r :: rest))) : W p l e R s m args below meth c H locs cells slots Q (F0 m pc ls st0) := by
  intro T hT X
  rcases hr T hT X with ⟨v, st₀, t, T', L, h0, X', hL, e1, e2, ⟨⟨r, u, hv, hp, hb⟩, hF⟩, st⟩ | ⟨q, st₀, t, T', L, E, ce, h0, X', hL, e1, e2, ⟨u, hp, hb, hF⟩, hce, hcv, hcl, st⟩
  · cases hv
    obtain ⟨k1, k2, k3⟩ := vx_keep h0 e1 hS hA hf hL hF
    obtain ⟨t2, a1, b1⟩ := kk r u t T'.heap (locs ++ L) e1.symm (by rw [← e2]; exact X'.warmed.alike) hp hb k1 k2 k3 T' rfl X'
    exact ⟨t2, st t2 a1, b1⟩
  · obtain ⟨k1, k2, k3⟩ := vx_keep h0 e1 hS hAX hf hL hF
    obtain ⟨t2, a1, b1⟩ := kx E ce q u t T'.heap (locs ++ L) e1.symm (by rw [← e2]; exact X'.warmed.alike) hp hb k1 k2 k3 (by rw [e1]; exact hce) hcv hcl T' rfl X'
    exact ⟨t2, st.trans a1, b1⟩
end
/-! ===== END ===== -/
/-! ===== BEGIN .. by an interface, an object ===== -/
section
variable {p : Program} {l : Launch} {e : Env} {R : Room} {s : State} {m : MethodId} {args : Array Value} {below : List Frame} {meth : Method} {c : Code} {H : Heap} {locs : List Loc} {cells slots : Nat} {Q : State → Prop}
variable {mc ms : Nat} {free : Addr → Prop} {A0 A1 : Nat → Prop} {H0 : Heap} {a : Array Value} {pc : Nat} {ls : Array Slot} {st0 rest : List Value}
theorem vx_callFq {S SX : Type} {post : Option Nat → S → Prop} {px : SX → Prop} {B : S → State → Prop} {BX : String → SX → State → Prop} {AX : Nat → Prop} (hr : vx_Run5 p l e R s m args below meth c H locs cells slots mc ms (F0 m pc ls st0) rest (va_Qq post B A1 a) (vx_X px BX AX) free) (hS : va_S A0 H0 H locs) (hA : ∀ q, q < H.size → A1 q → A0 q) (hf : ∀ q, free q → A0 q) (hAX : ∀ q, q < H.size → AX q → A0 q)
    (kx : ∀ (E : String) (ce : Cell) (q9 : Addr) (u : SX) (t : State) (H1 : Heap) (locs1 : List Loc), t.heap = H1 → s.vm.Alike t.vm → px u → BX E u t → H.size ≤ H1.size → (∀ q : Nat, q < H.size → ¬ AX q → H1[q]? = H[q]?) → va_S A0 H0 H1 locs1 → H1[q9]? = some ce → ce.vm = .none → s.vm.findClass E = some ce.cls → vx_W p l e R s m args below meth c H1 locs1 (cells + mc) (slots + ms) Q (F0 m pc ls rest) q9)
    (kk : ∀ (r : Option Nat) (u : S) (t : State) (H1 : Heap) (locs1 : List Loc), t.heap = H1 → s.vm.Alike t.vm → post r u → B u t → H.size ≤ H1.size → (∀ q : Nat, q < H.size → ¬ A1 q → H1[q]? = H[q]?) → va_S A0 H0 H1 locs1 → W p l e R s m args below meth c H1 locs1 (cells + mc) (slots + ms) Q (F0 m (pc + 5) ls (va_rf r :: rest))) : W p l e R s m args below meth c H locs cells slots Q (F0 m pc ls st0) := by
  intro T hT X
  rcases hr T hT X with ⟨v, st₀, t, T', L, h0, X', hL, e1, e2, ⟨⟨r, u, hv, hp, hb⟩, hF⟩, st⟩ | ⟨q, st₀, t, T', L, E, ce, h0, X', hL, e1, e2, ⟨u, hp, hb, hF⟩, hce, hcv, hcl, st⟩
  · cases hv
    obtain ⟨k1, k2, k3⟩ := vx_keep h0 e1 hS hA hf hL hF
    obtain ⟨t2, a1, b1⟩ := kk r u t T'.heap (locs ++ L) e1.symm (by rw [← e2]; exact X'.warmed.alike) hp hb k1 k2 k3 T' rfl X'
    exact ⟨t2, st t2 a1, b1⟩
  · obtain ⟨k1, k2, k3⟩ := vx_keep h0 e1 hS hAX hf hL hF
    obtain ⟨t2, a1, b1⟩ := kx E ce q u t T'.heap (locs ++ L) e1.symm (by rw [← e2]; exact X'.warmed.alike) hp hb k1 k2 k3 (by rw [e1]; exact hce) hcv hcl T' rfl X'
    exact ⟨t2, st.trans a1, b1⟩
end
/-! ===== END ===== -/
/-! ===== BEGIN .. by an interface, a constant ===== -/
section
variable {p : Program} {l : Launch} {e : Env} {R : Room} {s : State} {m : MethodId} {args : Array Value} {below : List Frame} {meth : Method} {c : Code} {H : Heap} {locs : List Loc} {cells slots : Nat} {Q : State → Prop}
variable {mc ms : Nat} {free : Addr → Prop} {A0 A1 : Nat → Prop} {H0 : Heap} {a : Array Value} {pc : Nat} {ls : Array Slot} {st0 rest : List Value}
theorem vx_callFe {ad : Nat → Nat} {S SX : Type} {post : Option Nat → S → Prop} {px : SX → Prop} {B : S → State → Prop} {BX : String → SX → State → Prop} {AX : Nat → Prop} (hr : vx_Run5 p l e R s m args below meth c H locs cells slots mc ms (F0 m pc ls st0) rest (va_Qe ad post B A1 a) (vx_X px BX AX) free) (hS : va_S A0 H0 H locs) (hA : ∀ q, q < H.size → A1 q → A0 q) (hf : ∀ q, free q → A0 q) (hAX : ∀ q, q < H.size → AX q → A0 q)
    (kx : ∀ (E : String) (ce : Cell) (q9 : Addr) (u : SX) (t : State) (H1 : Heap) (locs1 : List Loc), t.heap = H1 → s.vm.Alike t.vm → px u → BX E u t → H.size ≤ H1.size → (∀ q : Nat, q < H.size → ¬ AX q → H1[q]? = H[q]?) → va_S A0 H0 H1 locs1 → H1[q9]? = some ce → ce.vm = .none → s.vm.findClass E = some ce.cls → vx_W p l e R s m args below meth c H1 locs1 (cells + mc) (slots + ms) Q (F0 m pc ls rest) q9)
    (kk : ∀ (r : Option Nat) (u : S) (t : State) (H1 : Heap) (locs1 : List Loc), t.heap = H1 → s.vm.Alike t.vm → post r u → B u t → H.size ≤ H1.size → (∀ q : Nat, q < H.size → ¬ A1 q → H1[q]? = H[q]?) → va_S A0 H0 H1 locs1 → W p l e R s m args below meth c H1 locs1 (cells + mc) (slots + ms) Q (F0 m (pc + 5) ls (va_re ad r :: rest))) : W p l e R s m args below meth c H locs cells slots Q (F0 m pc ls st0) := by
  intro T hT X
  rcases hr T hT X with ⟨v, st₀, t, T', L, h0, X', hL, e1, e2, ⟨⟨r, u, hv, hp, hb⟩, hF⟩, st⟩ | ⟨q, st₀, t, T', L, E, ce, h0, X', hL, e1, e2, ⟨u, hp, hb, hF⟩, hce, hcv, hcl, st⟩
  · cases hv
    obtain ⟨k1, k2, k3⟩ := vx_keep h0 e1 hS hA hf hL hF
    obtain ⟨t2, a1, b1⟩ := kk r u t T'.heap (locs ++ L) e1.symm (by rw [← e2]; exact X'.warmed.alike) hp hb k1 k2 k3 T' rfl X'
    exact ⟨t2, st t2 a1, b1⟩
  · obtain ⟨k1, k2, k3⟩ := vx_keep h0 e1 hS hAX hf hL hF
    obtain ⟨t2, a1, b1⟩ := kx E ce q u t T'.heap (locs ++ L) e1.symm (by rw [← e2]; exact X'.warmed.alike) hp hb k1 k2 k3 (by rw [e1]; exact hce) hcv hcl T' rfl X'
    exact ⟨t2, st.trans a1, b1⟩
end
/-! ===== END ===== -/
/-! ===== BEGIN what the machine throws by itself: null at a field, at athrow ===== -/
section VXM2
variable {p : Program} {l : Launch} {e : Env} {R : Room} {s : State} {m : MethodId} {args : Array Value} {below : List Frame} {meth : Method} {c : Code} {H : Heap} {locs : List Loc} {cells slots : Nat}
variable {Q : State → Prop} {cc : ByteArray} {pc : Nat} {ls : Array Slot} {rest : List Value}
theorem vx_getfN {D cl tys} {own ref C : String} {T : u_T} {N ci index : Nat} {Ts : List Cond} (hexec : p.tables.exec = Jvm.exec) (hb : c.code = cc) (hts : ∀ w ∈ Ts, w.before args s = true) (hin : ∀ w ∈ u_ws C T N, w ∈ Ts) (hown : s.vm.findClass own = some m.cls) (hK : va_K D cl tys s) (hc : cl[ci]? = some (C, T, N)) (k : Nat) (hk : k < N) (hlink : (Cond.fieldLink own index ref (T k).2.1 (T k).2.2.1).before args s = true) (hsame : ∀ x, s.fieldFound? (T k).1 (T k).2.1 (T k).2.2.1 = some x → s.fieldFound? ref (T k).2.1 (T k).2.2.1 = some x) (hdg : decode cc pc = .ok (.getfield index, 3)) (kk : vx_NoteN p l e R s m args below meth c H locs cells slots Q (F0 m pc ls rest)) : W p l e R s m args below meth c H locs cells slots Q (F0 m pc ls (.null :: rest)) := by
  obtain ⟨hS, hfc, kC, hkC, -⟩ := hK.1 ci _ hc
  obtain ⟨cf, kf, fi, f, hi, -⟩ := hS k hk
  intro U hU X
  obtain ⟨vm', X1, st1⟩ := X.getfieldNull hexec hown hlink (hsame _ hi) (u_facts hfc hkC (u_lays hts hin hk) hi).1 (g := F0 m pc ls (.null :: rest)) rfl (rest := rest) rfl (by rw [hb]; exact hdg)
  obtain ⟨t, st, q⟩ := kk (U.setVm vm') hU X1
  exact ⟨t, st1 t st, q⟩
theorem vx_getfNN {D cl tys} {own ref C host : String} {T : u_T} {N ci index : Nat} {Ts : List Cond} (hexec : p.tables.exec = Jvm.exec) (hb : c.code = cc) (hts : ∀ w ∈ Ts, w.before args s = true) (hin : ∀ w ∈ u_ws C T N, w ∈ Ts) (hown : s.vm.findClass own = some m.cls) (hK : va_K D cl tys s) (hc : cl[ci]? = some (C, T, N)) (k : Nat) (hk : k < N) (hlink : (Cond.fieldLinkNest own index ref (T k).2.1 (T k).2.2.1 host).before args s = true) (hsame : ∀ x, s.fieldFound? (T k).1 (T k).2.1 (T k).2.2.1 = some x → s.fieldFound? ref (T k).2.1 (T k).2.2.1 = some x) (hdg : decode cc pc = .ok (.getfield index, 3)) (kk : vx_NoteN p l e R s m args below meth c H locs cells slots Q (F0 m pc ls rest)) : W p l e R s m args below meth c H locs cells slots Q (F0 m pc ls (.null :: rest)) := by
  obtain ⟨hS, hfc, kC, hkC, -⟩ := hK.1 ci _ hc
  obtain ⟨cf, kf, fi, f, hi, -⟩ := hS k hk
  intro U hU X
  obtain ⟨vm', X1, st1⟩ := X.getfieldNullNest hexec hown hlink (hsame _ hi) (u_facts hfc hkC (u_lays hts hin hk) hi).1 (g := F0 m pc ls (.null :: rest)) rfl (rest := rest) rfl (by rw [hb]; exact hdg)
  obtain ⟨t, st, q⟩ := kk (U.setVm vm') hU X1
  exact ⟨t, st1 t st, q⟩
theorem vx_putfN {D cl tys} {own ref C : String} {T : u_T} {N ci index : Nat} {Ts : List Cond} (hexec : p.tables.exec = Jvm.exec) (hb : c.code = cc) (hts : ∀ w ∈ Ts, w.before args s = true) (hin : ∀ w ∈ u_ws C T N, w ∈ Ts) (hown : s.vm.findClass own = some m.cls) (hK : va_K D cl tys s) (hc : cl[ci]? = some (C, T, N)) (k : Nat) (hk : k < N) (hlink : (Cond.fieldLink own index ref (T k).2.1 (T k).2.2.1).before args s = true) (hsame : ∀ x, s.fieldFound? (T k).1 (T k).2.1 (T k).2.2.1 = some x → s.fieldFound? ref (T k).2.1 (T k).2.2.1 = some x) (hfin : (T k).2.2.2 = false) {v : Value} (hdg : decode cc pc = .ok (.putfield index, 3)) (kk : vx_NoteN p l e R s m args below meth c H locs cells slots Q (F0 m pc ls rest)) : W p l e R s m args below meth c H locs cells slots Q (F0 m pc ls (v :: .null :: rest)) := by
  obtain ⟨hS, hfc, kC, hkC, -⟩ := hK.1 ci _ hc
  obtain ⟨cf, kf, fi, f, hi, -⟩ := hS k hk
  have hlay := hts _ (hin _ (u_in_lay hk))
  unfold u_lay at hlay
  rw [if_neg (by rw [hfin]; decide)] at hlay
  obtain ⟨c9, k9, cf9, kf9, fi9, f9, -, -, hi9, hst9, hnf9, -⟩ := Cond.lays_spec hlay
  cases hi.symm.trans hi9
  intro U hU X
  obtain ⟨vm', X1, st1⟩ := X.putfieldNull hexec hown hlink (hsame _ hi) hst9 hnf9 (g := F0 m pc ls (v :: .null :: rest)) rfl (v := v) (rest := rest) rfl (by rw [hb]; exact hdg)
  obtain ⟨t, st, q⟩ := kk (U.setVm vm') hU X1
  exact ⟨t, st1 t st, q⟩
theorem vx_putfNN {D cl tys} {own ref C host : String} {T : u_T} {N ci index : Nat} {Ts : List Cond} (hexec : p.tables.exec = Jvm.exec) (hb : c.code = cc) (hts : ∀ w ∈ Ts, w.before args s = true) (hin : ∀ w ∈ u_ws C T N, w ∈ Ts) (hown : s.vm.findClass own = some m.cls) (hK : va_K D cl tys s) (hc : cl[ci]? = some (C, T, N)) (k : Nat) (hk : k < N) (hlink : (Cond.fieldLinkNest own index ref (T k).2.1 (T k).2.2.1 host).before args s = true) (hsame : ∀ x, s.fieldFound? (T k).1 (T k).2.1 (T k).2.2.1 = some x → s.fieldFound? ref (T k).2.1 (T k).2.2.1 = some x) (hfin : (T k).2.2.2 = false) {v : Value} (hdg : decode cc pc = .ok (.putfield index, 3)) (kk : vx_NoteN p l e R s m args below meth c H locs cells slots Q (F0 m pc ls rest)) : W p l e R s m args below meth c H locs cells slots Q (F0 m pc ls (v :: .null :: rest)) := by
  obtain ⟨hS, hfc, kC, hkC, -⟩ := hK.1 ci _ hc
  obtain ⟨cf, kf, fi, f, hi, -⟩ := hS k hk
  have hlay := hts _ (hin _ (u_in_lay hk))
  unfold u_lay at hlay
  rw [if_neg (by rw [hfin]; decide)] at hlay
  obtain ⟨c9, k9, cf9, kf9, fi9, f9, -, -, hi9, hst9, hnf9, -⟩ := Cond.lays_spec hlay
  cases hi.symm.trans hi9
  intro U hU X
  obtain ⟨vm', X1, st1⟩ := X.putfieldNullNest hexec hown hlink (hsame _ hi) hst9 hnf9 (g := F0 m pc ls (v :: .null :: rest)) rfl (v := v) (rest := rest) rfl (by rw [hb]; exact hdg)
  obtain ⟨t, st, q⟩ := kk (U.setVm vm') hU X1
  exact ⟨t, st1 t st, q⟩
theorem vx_athrowN (hexec : p.tables.exec = Jvm.exec) (hb : c.code = cc) (hdg : decode cc pc = .ok (.athrow, 1)) (k : vx_NoteN p l e R s m args below meth c H locs cells slots Q (F0 m pc ls rest)) : W p l e R s m args below meth c H locs cells slots Q (F0 m pc ls (.null :: rest)) := by
  intro T hT X
  obtain ⟨t, st, q⟩ := k T hT X
  exact ⟨t, X.athrowNull hexec (g := F0 m pc ls (.null :: rest)) rfl (rest := rest) rfl (by rw [hb]; exact hdg) t st, q⟩
end VXM2
/-! ===== END ===== -/
end
section
-- the classes of which the run makes objects (names and tables as the claim prints them)
def RJ0 : String := "java/lang/String"
def TJ0 : u_T := fun k => match k with
  | 0 => ("java/lang/String", "value", "[B", true)
  | 1 => ("java/lang/String", "coder", "B", true)
  | 2 => ("java/lang/String", "hash", "I", false)
  | _ => ("java/lang/String", "hashIsZero", "Z", false)
def tyJ0 : Nat → FieldType := fun k => match k with
  | 0 => .array .byte
  | 1 => .byte
  | 2 => .int
  | _ => .boolean
theorem nmJ0 : ∀ a, a < 4 → ∀ b, b < 4 → a ≠ b → (TJ0 a).2.1 ≠ (TJ0 b).2.1 := by decide +kernel
theorem tyJ0_ok : ∀ k, k < 4 → parseFieldDescriptor (TJ0 k).2.2.1 = some (tyJ0 k) := by decide +kernel
def RJ4 : String := "java/lang/StringBuilder"
def TJ4 : u_T := fun k => match k with
  | 0 => ("java/lang/AbstractStringBuilder", "value", "[B", false)
  | 1 => ("java/lang/AbstractStringBuilder", "coder", "B", false)
  | 2 => ("java/lang/AbstractStringBuilder", "maybeLatin1", "Z", false)
  | _ => ("java/lang/AbstractStringBuilder", "count", "I", false)
def tyJ4 : Nat → FieldType := fun k => match k with
  | 0 => .array .byte
  | 1 => .byte
  | 2 => .boolean
  | _ => .int
theorem nmJ4 : ∀ a, a < 4 → ∀ b, b < 4 → a ≠ b → (TJ4 a).2.1 ≠ (TJ4 b).2.1 := by decide +kernel
theorem tyJ4_ok : ∀ k, k < 4 → parseFieldDescriptor (TJ4 k).2.2.1 = some (tyJ4 k) := by decide +kernel
def RJx35411 : String := "java/util/ArrayList$Itr"
def TJx35411 : u_T := fun k => match k with
  | 0 => ("java/util/ArrayList$Itr", "cursor", "I", false)
  | 1 => ("java/util/ArrayList$Itr", "lastRet", "I", false)
  | 2 => ("java/util/ArrayList$Itr", "expectedModCount", "I", false)
  | _ => ("java/util/ArrayList$Itr", "this$0", "Ljava/util/ArrayList;", true)
def tyJx35411 : Nat → FieldType := fun k => match k with
  | 0 => .int
  | 1 => .int
  | 2 => .int
  | _ => .object "java/util/ArrayList"
theorem nmJx35411 : ∀ a, a < 4 → ∀ b, b < 4 → a ≠ b → (TJx35411 a).2.1 ≠ (TJx35411 b).2.1 := by decide +kernel
theorem tyJx35411_ok : ∀ k, k < 4 → parseFieldDescriptor (TJx35411 k).2.2.1 = some (tyJx35411 k) := by decide +kernel
def RJx4a65c : String := "java/util/ArrayList"
def TJx4a65c : u_T := fun k => match k with
  | 0 => ("java/util/AbstractList", "modCount", "I", false)
  | 1 => ("java/util/ArrayList", "elementData", "[Ljava/lang/Object;", false)
  | _ => ("java/util/ArrayList", "size", "I", false)
def tyJx4a65c : Nat → FieldType := fun k => match k with
  | 0 => .int
  | 1 => .array (.object "java/lang/Object")
  | _ => .int
theorem nmJx4a65c : ∀ a, a < 3 → ∀ b, b < 3 → a ≠ b → (TJx4a65c a).2.1 ≠ (TJx4a65c b).2.1 := by decide +kernel
theorem tyJx4a65c_ok : ∀ k, k < 3 → parseFieldDescriptor (TJx4a65c k).2.2.1 = some (tyJx4a65c k) := by decide +kernel
def RX0 : String := "Carcasswright$Board"
def TX0 : u_T := fun k => match k with
  | 0 => ("Carcasswright$Board", "colour", "I", false)
  | 1 => ("Carcasswright$Board", "thick", "I", false)
  | 2 => ("Carcasswright$Board", "length", "I", false)
  | 3 => ("Carcasswright$Board", "width", "I", false)
  | 4 => ("Carcasswright$Board", "isOffcut", "Z", false)
  | 5 => ("Carcasswright$Board", "isOpened", "Z", false)
  | _ => ("Carcasswright$Board", "stripsEnd", "I", false)
def tyX0 : Nat → FieldType := fun k => match k with
  | 0 => .int
  | 1 => .int
  | 2 => .int
  | 3 => .int
  | 4 => .boolean
  | 5 => .boolean
  | _ => .int
theorem nmX0 : ∀ a, a < 7 → ∀ b, b < 7 → a ≠ b → (TX0 a).2.1 ≠ (TX0 b).2.1 := by decide +kernel
theorem tyX0_ok : ∀ k, k < 7 → parseFieldDescriptor (TX0 k).2.2.1 = some (tyX0 k) := by decide +kernel
def RX1 : String := "Carcasswright$Jobs"
def TX1 : u_T := fun k => match k with
  | 0 => ("Carcasswright$Jobs", "colours", "[I", true)
  | 1 => ("Carcasswright$Jobs", "hours", "[I", true)
  | 2 => ("Carcasswright$Jobs", "dues", "[I", true)
  | 3 => ("Carcasswright$Jobs", "order", "[I", true)
  | 4 => ("Carcasswright$Jobs", "best", "[I", true)
  | 5 => ("Carcasswright$Jobs", "count", "I", false)
  | 6 => ("Carcasswright$Jobs", "setup", "I", false)
  | _ => ("Carcasswright$Jobs", "leastLate", "I", false)
def tyX1 : Nat → FieldType := fun k => match k with
  | 0 => .array .int
  | 1 => .array .int
  | 2 => .array .int
  | 3 => .array .int
  | 4 => .array .int
  | 5 => .int
  | 6 => .int
  | _ => .int
theorem nmX1 : ∀ a, a < 8 → ∀ b, b < 8 → a ≠ b → (TX1 a).2.1 ≠ (TX1 b).2.1 := by decide +kernel
theorem tyX1_ok : ∀ k, k < 8 → parseFieldDescriptor (TX1 k).2.2.1 = some (tyX1 k) := by decide +kernel
def RX2 : String := "Carcasswright$ModuleType"
def TX2 : u_T := fun k => match k with
  | 0 => ("Carcasswright$ModuleType", "body", "C", false)
  | 1 => ("Carcasswright$ModuleType", "high", "I", false)
  | 2 => ("Carcasswright$ModuleType", "deep", "I", false)
  | 3 => ("Carcasswright$ModuleType", "lowest", "I", false)
  | 4 => ("Carcasswright$ModuleType", "highest", "I", false)
  | 5 => ("Carcasswright$ModuleType", "width", "I", false)
  | 6 => ("Carcasswright$ModuleType", "doors", "I", false)
  | 7 => ("Carcasswright$ModuleType", "shelves", "I", false)
  | _ => ("Carcasswright$ModuleType", "drawers", "I", false)
def tyX2 : Nat → FieldType := fun k => match k with
  | 0 => .char
  | 1 => .int
  | 2 => .int
  | 3 => .int
  | 4 => .int
  | 5 => .int
  | 6 => .int
  | 7 => .int
  | _ => .int
theorem nmX2 : ∀ a, a < 9 → ∀ b, b < 9 → a ≠ b → (TX2 a).2.1 ≠ (TX2 b).2.1 := by decide +kernel
theorem tyX2_ok : ∀ k, k < 9 → parseFieldDescriptor (TX2 k).2.2.1 = some (tyX2 k) := by decide +kernel
def RX3 : String := "Carcasswright$Obstacle"
def TX3 : u_T := fun k => match k with
  | 0 => ("Carcasswright$Obstacle", "wall", "I", false)
  | 1 => ("Carcasswright$Obstacle", "from", "I", false)
  | 2 => ("Carcasswright$Obstacle", "to", "I", false)
  | 3 => ("Carcasswright$Obstacle", "low", "I", false)
  | _ => ("Carcasswright$Obstacle", "high", "I", false)
def tyX3 : Nat → FieldType := fun k => match k with
  | 0 => .int
  | 1 => .int
  | 2 => .int
  | 3 => .int
  | _ => .int
theorem nmX3 : ∀ a, a < 5 → ∀ b, b < 5 → a ≠ b → (TX3 a).2.1 ≠ (TX3 b).2.1 := by decide +kernel
theorem tyX3_ok : ∀ k, k < 5 → parseFieldDescriptor (TX3 k).2.2.1 = some (tyX3 k) := by decide +kernel
def RX4 : String := "Carcasswright$Packer"
def TX4 : u_T := fun k => match k with
  | 0 => ("Carcasswright$Packer", "weights", "[I", true)
  | 1 => ("Carcasswright$Packer", "packs", "[I", true)
  | 2 => ("Carcasswright$Packer", "loads", "[I", true)
  | _ => ("Carcasswright$Packer", "packCount", "I", false)
def tyX4 : Nat → FieldType := fun k => match k with
  | 0 => .array .int
  | 1 => .array .int
  | 2 => .array .int
  | _ => .int
theorem nmX4 : ∀ a, a < 4 → ∀ b, b < 4 → a ≠ b → (TX4 a).2.1 ≠ (TX4 b).2.1 := by decide +kernel
theorem tyX4_ok : ∀ k, k < 4 → parseFieldDescriptor (TX4 k).2.2.1 = some (tyX4 k) := by decide +kernel
def RX5 : String := "Carcasswright$PlacedModule"
def TX5 : u_T := fun k => match k with
  | 0 => ("Carcasswright$PlacedModule", "type", "LCarcasswright$ModuleType;", false)
  | 1 => ("Carcasswright$PlacedModule", "wall", "I", false)
  | 2 => ("Carcasswright$PlacedModule", "from", "I", false)
  | 3 => ("Carcasswright$PlacedModule", "colour", "I", false)
  | _ => ("Carcasswright$PlacedModule", "cutBits", "I", false)
def tyX5 : Nat → FieldType := fun k => match k with
  | 0 => .object "Carcasswright$ModuleType"
  | 1 => .int
  | 2 => .int
  | 3 => .int
  | _ => .int
theorem nmX5 : ∀ a, a < 5 → ∀ b, b < 5 → a ≠ b → (TX5 a).2.1 ≠ (TX5 b).2.1 := by decide +kernel
theorem tyX5_ok : ∀ k, k < 5 → parseFieldDescriptor (TX5 k).2.2.1 = some (tyX5 k) := by decide +kernel
def RX6 : String := "Carcasswright$Room"
def TX6 : u_T := fun k => match k with
  | 0 => ("Carcasswright$Room", "walls", "[LCarcasswright$Wall;", true)
  | 1 => ("Carcasswright$Room", "obstacles", "[LCarcasswright$Obstacle;", true)
  | 2 => ("Carcasswright$Room", "modules", "[LCarcasswright$PlacedModule;", true)
  | 3 => ("Carcasswright$Room", "trial", "LCarcasswright$PlacedModule;", true)
  | 4 => ("Carcasswright$Room", "causes", "[C", true)
  | 5 => ("Carcasswright$Room", "causeNumbers", "[I", true)
  | 6 => ("Carcasswright$Room", "wallCount", "I", false)
  | 7 => ("Carcasswright$Room", "obstacleCount", "I", false)
  | 8 => ("Carcasswright$Room", "moduleCount", "I", false)
  | _ => ("Carcasswright$Room", "causeCount", "I", false)
def tyX6 : Nat → FieldType := fun k => match k with
  | 0 => .array (.object "Carcasswright$Wall")
  | 1 => .array (.object "Carcasswright$Obstacle")
  | 2 => .array (.object "Carcasswright$PlacedModule")
  | 3 => .object "Carcasswright$PlacedModule"
  | 4 => .array .char
  | 5 => .array .int
  | 6 => .int
  | 7 => .int
  | 8 => .int
  | _ => .int
theorem nmX6 : ∀ a, a < 10 → ∀ b, b < 10 → a ≠ b → (TX6 a).2.1 ≠ (TX6 b).2.1 := by decide +kernel
theorem tyX6_ok : ∀ k, k < 10 → parseFieldDescriptor (TX6 k).2.2.1 = some (tyX6 k) := by decide +kernel
def RX7 : String := "Carcasswright$Saw"
def TX7 : u_T := fun k => match k with
  | 0 => ("Carcasswright$Saw", "stock", "LCarcasswright$Stock;", true)
  | 1 => ("Carcasswright$Saw", "lengths", "[I", true)
  | 2 => ("Carcasswright$Saw", "widths", "[I", true)
  | 3 => ("Carcasswright$Saw", "pieceCount", "I", false)
  | 4 => ("Carcasswright$Saw", "opened", "[I", true)
  | 5 => ("Carcasswright$Saw", "openedCount", "I", false)
  | 6 => ("Carcasswright$Saw", "groupStart", "I", false)
  | 7 => ("Carcasswright$Saw", "stripBoards", "[I", true)
  | 8 => ("Carcasswright$Saw", "stripWidths", "[I", true)
  | 9 => ("Carcasswright$Saw", "stripEnds", "[I", true)
  | 10 => ("Carcasswright$Saw", "stripCount", "I", false)
  | 11 => ("Carcasswright$Saw", "left", "[LCarcasswright$Board;", true)
  | _ => ("Carcasswright$Saw", "leftCount", "I", false)
def tyX7 : Nat → FieldType := fun k => match k with
  | 0 => .object "Carcasswright$Stock"
  | 1 => .array .int
  | 2 => .array .int
  | 3 => .int
  | 4 => .array .int
  | 5 => .int
  | 6 => .int
  | 7 => .array .int
  | 8 => .array .int
  | 9 => .array .int
  | 10 => .int
  | 11 => .array (.object "Carcasswright$Board")
  | _ => .int
theorem nmX7 : ∀ a, a < 13 → ∀ b, b < 13 → a ≠ b → (TX7 a).2.1 ≠ (TX7 b).2.1 := by decide +kernel
theorem tyX7_ok : ∀ k, k < 13 → parseFieldDescriptor (TX7 k).2.2.1 = some (tyX7 k) := by decide +kernel
def RX8 : String := "Carcasswright$Stock"
def TX8 : u_T := fun k => match k with
  | 0 => ("Carcasswright$Stock", "boards", "[LCarcasswright$Board;", true)
  | 1 => ("Carcasswright$Stock", "count", "I", false)
  | 2 => ("Carcasswright$Stock", "came", "J", false)
  | 3 => ("Carcasswright$Stock", "dust", "J", false)
  | _ => ("Carcasswright$Stock", "scrap", "J", false)
def tyX8 : Nat → FieldType := fun k => match k with
  | 0 => .array (.object "Carcasswright$Board")
  | 1 => .int
  | 2 => .long
  | 3 => .long
  | _ => .long
theorem nmX8 : ∀ a, a < 5 → ∀ b, b < 5 → a ≠ b → (TX8 a).2.1 ≠ (TX8 b).2.1 := by decide +kernel
theorem tyX8_ok : ∀ k, k < 5 → parseFieldDescriptor (TX8 k).2.2.1 = some (tyX8 k) := by decide +kernel
def RX9 : String := "Carcasswright$Types"
def TX9 : u_T := fun k => match k with
  | 0 => ("Carcasswright$Types", "signs", "[C", true)
  | 1 => ("Carcasswright$Types", "types", "[LCarcasswright$ModuleType;", true)
  | 2 => ("Carcasswright$Types", "draft", "LCarcasswright$ModuleType;", true)
  | 3 => ("Carcasswright$Types", "signCount", "I", false)
  | 4 => ("Carcasswright$Types", "typeCount", "I", false)
  | 5 => ("Carcasswright$Types", "faultPlace", "I", false)
  | 6 => ("Carcasswright$Types", "faultLetter", "C", false)
  | 7 => ("Carcasswright$Types", "awaited", "C", false)
  | 8 => ("Carcasswright$Types", "item", "C", false)
  | _ => ("Carcasswright$Types", "digits", "I", false)
def tyX9 : Nat → FieldType := fun k => match k with
  | 0 => .array .char
  | 1 => .array (.object "Carcasswright$ModuleType")
  | 2 => .object "Carcasswright$ModuleType"
  | 3 => .int
  | 4 => .int
  | 5 => .int
  | 6 => .char
  | 7 => .char
  | 8 => .char
  | _ => .int
theorem nmX9 : ∀ a, a < 10 → ∀ b, b < 10 → a ≠ b → (TX9 a).2.1 ≠ (TX9 b).2.1 := by decide +kernel
theorem tyX9_ok : ∀ k, k < 10 → parseFieldDescriptor (TX9 k).2.2.1 = some (tyX9 k) := by decide +kernel
def RX10 : String := "Carcasswright$Wall"
def TX10 : u_T := fun k => match k with
  | 0 => ("Carcasswright$Wall", "way", "C", false)
  | 1 => ("Carcasswright$Wall", "measured", "I", false)
  | 2 => ("Carcasswright$Wall", "length", "I", false)
  | 3 => ("Carcasswright$Wall", "settled", "I", false)
  | 4 => ("Carcasswright$Wall", "left", "I", false)
  | _ => ("Carcasswright$Wall", "right", "I", false)
def tyX10 : Nat → FieldType := fun k => match k with
  | 0 => .char
  | 1 => .int
  | 2 => .int
  | 3 => .int
  | 4 => .int
  | _ => .int
theorem nmX10 : ∀ a, a < 6 → ∀ b, b < 6 → a ≠ b → (TX10 a).2.1 ≠ (TX10 b).2.1 := by decide +kernel
theorem tyX10_ok : ∀ k, k < 6 → parseFieldDescriptor (TX10 k).2.2.1 = some (tyX10 k) := by decide +kernel
def RX11 : String := "Carcasswright"
def TX11 : u_T := fun k => match k with
  | 0 => ("Carcasswright", "types", "LCarcasswright$Types;", true)
  | 1 => ("Carcasswright", "room", "LCarcasswright$Room;", true)
  | 2 => ("Carcasswright", "stock", "LCarcasswright$Stock;", true)
  | 3 => ("Carcasswright", "saw", "LCarcasswright$Saw;", true)
  | 4 => ("Carcasswright", "packer", "LCarcasswright$Packer;", true)
  | 5 => ("Carcasswright", "jobs", "LCarcasswright$Jobs;", true)
  | _ => ("Carcasswright", "rates", "[I", true)
def tyX11 : Nat → FieldType := fun k => match k with
  | 0 => .object "Carcasswright$Types"
  | 1 => .object "Carcasswright$Room"
  | 2 => .object "Carcasswright$Stock"
  | 3 => .object "Carcasswright$Saw"
  | 4 => .object "Carcasswright$Packer"
  | 5 => .object "Carcasswright$Jobs"
  | _ => .array .int
theorem nmX11 : ∀ a, a < 7 → ∀ b, b < 7 → a ≠ b → (TX11 a).2.1 ≠ (TX11 b).2.1 := by decide +kernel
theorem tyX11_ok : ∀ k, k < 7 → parseFieldDescriptor (TX11 k).2.2.1 = some (tyX11 k) := by decide +kernel
def RX12 : String := "CarcasswrightModel$Board"
def TX12 : u_T := fun k => match k with
  | 0 => ("CarcasswrightModel$Board", "colour", "I", true)
  | 1 => ("CarcasswrightModel$Board", "thick", "I", true)
  | 2 => ("CarcasswrightModel$Board", "length", "I", true)
  | 3 => ("CarcasswrightModel$Board", "width", "I", true)
  | 4 => ("CarcasswrightModel$Board", "isOffcut", "Z", true)
  | 5 => ("CarcasswrightModel$Board", "wide", "Ljava/util/ArrayList;", true)
  | _ => ("CarcasswrightModel$Board", "used", "Ljava/util/ArrayList;", true)
def tyX12 : Nat → FieldType := fun k => match k with
  | 0 => .int
  | 1 => .int
  | 2 => .int
  | 3 => .int
  | 4 => .boolean
  | 5 => .object "java/util/ArrayList"
  | _ => .object "java/util/ArrayList"
theorem nmX12 : ∀ a, a < 7 → ∀ b, b < 7 → a ≠ b → (TX12 a).2.1 ≠ (TX12 b).2.1 := by decide +kernel
theorem tyX12_ok : ∀ k, k < 7 → parseFieldDescriptor (TX12 k).2.2.1 = some (tyX12 k) := by decide +kernel
def RX14 : String := "CarcasswrightModel$Job"
def TX14 : u_T := fun k => match k with
  | 0 => ("CarcasswrightModel$Job", "colour", "I", true)
  | 1 => ("CarcasswrightModel$Job", "hours", "I", true)
  | _ => ("CarcasswrightModel$Job", "due", "I", true)
def tyX14 : Nat → FieldType := fun k => match k with
  | 0 => .int
  | 1 => .int
  | _ => .int
theorem nmX14 : ∀ a, a < 3 → ∀ b, b < 3 → a ≠ b → (TX14 a).2.1 ≠ (TX14 b).2.1 := by decide +kernel
theorem tyX14_ok : ∀ k, k < 3 → parseFieldDescriptor (TX14 k).2.2.1 = some (tyX14 k) := by decide +kernel
def RX19 : String := "CarcasswrightModel$Type"
def TX19 : u_T := fun k => match k with
  | 0 => ("CarcasswrightModel$Type", "kind", "C", false)
  | 1 => ("CarcasswrightModel$Type", "width", "I", false)
  | 2 => ("CarcasswrightModel$Type", "doors", "I", false)
  | 3 => ("CarcasswrightModel$Type", "shelves", "I", false)
  | _ => ("CarcasswrightModel$Type", "drawers", "I", false)
def tyX19 : Nat → FieldType := fun k => match k with
  | 0 => .char
  | 1 => .int
  | 2 => .int
  | 3 => .int
  | _ => .int
theorem nmX19 : ∀ a, a < 5 → ∀ b, b < 5 → a ≠ b → (TX19 a).2.1 ≠ (TX19 b).2.1 := by decide +kernel
theorem tyX19_ok : ∀ k, k < 5 → parseFieldDescriptor (TX19 k).2.2.1 = some (tyX19 k) := by decide +kernel
def RX20 : String := "CarcasswrightModel$Wall"
def TX20 : u_T := fun k => match k with
  | 0 => ("CarcasswrightModel$Wall", "way", "C", true)
  | 1 => ("CarcasswrightModel$Wall", "measured", "I", true)
  | 2 => ("CarcasswrightModel$Wall", "length", "I", false)
  | 3 => ("CarcasswrightModel$Wall", "left", "I", false)
  | _ => ("CarcasswrightModel$Wall", "right", "I", false)
def tyX20 : Nat → FieldType := fun k => match k with
  | 0 => .char
  | 1 => .int
  | 2 => .int
  | 3 => .int
  | _ => .int
theorem nmX20 : ∀ a, a < 5 → ∀ b, b < 5 → a ≠ b → (TX20 a).2.1 ≠ (TX20 b).2.1 := by decide +kernel
theorem tyX20_ok : ∀ k, k < 5 → parseFieldDescriptor (TX20 k).2.2.1 = some (tyX20 k) := by decide +kernel
def RX21 : String := "CarcasswrightModel"
def TX21 : u_T := fun k => match k with
  | 0 => ("CarcasswrightModel", "thrown", "I", false)
  | 1 => ("CarcasswrightModel", "walls", "Ljava/util/ArrayList;", true)
  | 2 => ("CarcasswrightModel", "obstacles", "Ljava/util/ArrayList;", true)
  | 3 => ("CarcasswrightModel", "text", "Ljava/lang/String;", false)
  | 4 => ("CarcasswrightModel", "types", "Ljava/util/ArrayList;", true)
  | 5 => ("CarcasswrightModel", "modules", "Ljava/util/ArrayList;", true)
  | 6 => ("CarcasswrightModel", "stock", "Ljava/util/ArrayList;", false)
  | 7 => ("CarcasswrightModel", "jobs", "Ljava/util/ArrayList;", true)
  | 8 => ("CarcasswrightModel", "rates", "[I", true)
  | 9 => ("CarcasswrightModel", "setup", "I", false)
  | 10 => ("CarcasswrightModel", "came", "J", false)
  | 11 => ("CarcasswrightModel", "dust", "J", false)
  | 12 => ("CarcasswrightModel", "scrap", "J", false)
  | 13 => ("CarcasswrightModel", "clashes", "Ljava/lang/String;", false)
  | 14 => ("CarcasswrightModel", "clashNumbers", "[I", false)
  | 15 => ("CarcasswrightModel", "read", "LCarcasswrightModel$Type;", false)
  | 16 => ("CarcasswrightModel", "fault", "C", false)
  | 17 => ("CarcasswrightModel", "faultAt", "I", false)
  | 18 => ("CarcasswrightModel", "least", "I", false)
  | _ => ("CarcasswrightModel", "order", "[I", false)
def tyX21 : Nat → FieldType := fun k => match k with
  | 0 => .int
  | 1 => .object "java/util/ArrayList"
  | 2 => .object "java/util/ArrayList"
  | 3 => .object "java/lang/String"
  | 4 => .object "java/util/ArrayList"
  | 5 => .object "java/util/ArrayList"
  | 6 => .object "java/util/ArrayList"
  | 7 => .object "java/util/ArrayList"
  | 8 => .array .int
  | 9 => .int
  | 10 => .long
  | 11 => .long
  | 12 => .long
  | 13 => .object "java/lang/String"
  | 14 => .array .int
  | 15 => .object "CarcasswrightModel$Type"
  | 16 => .char
  | 17 => .int
  | 18 => .int
  | _ => .array .int
theorem nmX21 : ∀ a, a < 20 → ∀ b, b < 20 → a ≠ b → (TX21 a).2.1 ≠ (TX21 b).2.1 := by decide +kernel
theorem tyX21_ok : ∀ k, k < 20 → parseFieldDescriptor (TX21 k).2.2.1 = some (tyX21 k) := by decide +kernel
/-- the classes of the objects, by number -/
abbrev ce_cl : List vw_C := [(RJ0, TJ0, 4), (RJ4, TJ4, 4), (RJx35411, TJx35411, 4), (RJx4a65c, TJx4a65c, 3), (RX0, TX0, 7), (RX1, TX1, 8), (RX2, TX2, 9), (RX3, TX3, 5), (RX4, TX4, 4), (RX5, TX5, 5), (RX6, TX6, 10), (RX7, TX7, 13), (RX8, TX8, 5), (RX9, TX9, 10), (RX10, TX10, 6), (RX11, TX11, 7), (RX12, TX12, 7), (RX14, TX14, 3), (RX19, TX19, 5), (RX20, TX20, 5), (RX21, TX21, 20)]
/-- the element types of the arrays, by number -/
abbrev ce_at : List FieldType := [.int, .char, .byte, .boolean, .long, .double, (.object "java/lang/Object"), (.object "Carcasswright$Wall"), (.object "Carcasswright$Obstacle"), (.object "Carcasswright$PlacedModule"), (.object "Carcasswright$ModuleType"), (.object "Carcasswright$Board")]
theorem ce_vJ0 : ∀ w ∈ u_ws RJ0 TJ0 4, w ∈ lw_tbl.filter goodWord := by decide +kernel
theorem ce_vJ4 : ∀ w ∈ u_ws RJ4 TJ4 4, w ∈ lw_tbl.filter goodWord := by decide +kernel
theorem ce_vJx35411 : ∀ w ∈ u_ws RJx35411 TJx35411 4, w ∈ lw_tbl.filter goodWord := by decide +kernel
theorem ce_vJx4a65c : ∀ w ∈ u_ws RJx4a65c TJx4a65c 3, w ∈ lw_tbl.filter goodWord := by decide +kernel
theorem ce_vX0 : ∀ w ∈ u_ws RX0 TX0 7, w ∈ lw_tbl.filter goodWord := by decide +kernel
theorem ce_vX1 : ∀ w ∈ u_ws RX1 TX1 8, w ∈ lw_tbl.filter goodWord := by decide +kernel
theorem ce_vX2 : ∀ w ∈ u_ws RX2 TX2 9, w ∈ lw_tbl.filter goodWord := by decide +kernel
theorem ce_vX3 : ∀ w ∈ u_ws RX3 TX3 5, w ∈ lw_tbl.filter goodWord := by decide +kernel
theorem ce_vX4 : ∀ w ∈ u_ws RX4 TX4 4, w ∈ lw_tbl.filter goodWord := by decide +kernel
theorem ce_vX5 : ∀ w ∈ u_ws RX5 TX5 5, w ∈ lw_tbl.filter goodWord := by decide +kernel
theorem ce_vX6 : ∀ w ∈ u_ws RX6 TX6 10, w ∈ lw_tbl.filter goodWord := by decide +kernel
theorem ce_vX7 : ∀ w ∈ u_ws RX7 TX7 13, w ∈ lw_tbl.filter goodWord := by decide +kernel
theorem ce_vX8 : ∀ w ∈ u_ws RX8 TX8 5, w ∈ lw_tbl.filter goodWord := by decide +kernel
theorem ce_vX9 : ∀ w ∈ u_ws RX9 TX9 10, w ∈ lw_tbl.filter goodWord := by decide +kernel
theorem ce_vX10 : ∀ w ∈ u_ws RX10 TX10 6, w ∈ lw_tbl.filter goodWord := by decide +kernel
theorem ce_vX11 : ∀ w ∈ u_ws RX11 TX11 7, w ∈ lw_tbl.filter goodWord := by decide +kernel
theorem ce_vX12 : ∀ w ∈ u_ws RX12 TX12 7, w ∈ lw_tbl.filter goodWord := by decide +kernel
theorem ce_vX14 : ∀ w ∈ u_ws RX14 TX14 3, w ∈ lw_tbl.filter goodWord := by decide +kernel
theorem ce_vX19 : ∀ w ∈ u_ws RX19 TX19 5, w ∈ lw_tbl.filter goodWord := by decide +kernel
theorem ce_vX20 : ∀ w ∈ u_ws RX20 TX20 5, w ∈ lw_tbl.filter goodWord := by decide +kernel
theorem ce_vX21 : ∀ w ∈ u_ws RX21 TX21 20, w ∈ lw_tbl.filter goodWord := by decide +kernel
/-- the words that go along with every call -/
def ce_XS : List Cond := [Cond.selects "java/lang/StringBuilder" ⟨"java/lang/AbstractStringBuilder", "ensureCapacityInternal", "(I)V"⟩ ⟨"java/lang/AbstractStringBuilder", "ensureCapacityInternal", "(I)V"⟩, Cond.selects "java/lang/StringBuilder" ⟨"java/lang/AbstractStringBuilder", "putStringAt", "(ILjava/lang/String;)V"⟩ ⟨"java/lang/AbstractStringBuilder", "putStringAt", "(ILjava/lang/String;)V"⟩, Cond.selects "java/lang/StringBuilder" ⟨"java/lang/AbstractStringBuilder", "inflateIfNeededFor", "(Ljava/lang/String;)V"⟩ ⟨"java/lang/AbstractStringBuilder", "inflateIfNeededFor", "(Ljava/lang/String;)V"⟩, Cond.selects "java/lang/StringBuilder" ⟨"java/lang/AbstractStringBuilder", "inflate", "()V"⟩ ⟨"java/lang/AbstractStringBuilder", "inflate", "()V"⟩, Cond.selects "java/lang/StringBuilder" ⟨"java/lang/AbstractStringBuilder", "newCapacity", "(I)I"⟩ ⟨"java/lang/AbstractStringBuilder", "newCapacity", "(I)I"⟩, Cond.selects "java/lang/StringBuilder" ⟨"java/lang/AbstractStringBuilder", "appendNull", "()Ljava/lang/AbstractStringBuilder;"⟩ ⟨"java/lang/AbstractStringBuilder", "appendNull", "()Ljava/lang/AbstractStringBuilder;"⟩]
def ce_GW : List Cond := ce_XS ++ lw_tbl.filter goodWord
theorem ce_inF {w : Cond} (h : w ∈ lw_tbl.filter goodWord) : w ∈ ce_GW := List.mem_append_right _ h
theorem ce_in (i : Nat) {w : Cond} (h : lw_tbl[i]? = some w) (g : goodWord w = true) : w ∈ ce_GW := ce_inF (List.mem_filter.mpr ⟨List.mem_of_getElem? h, g⟩)
theorem ce_XSg : ∀ w ∈ ce_XS, goodWord w = true := by decide +kernel
theorem ce_good {w : Cond} (h : w ∈ ce_GW) : goodWord w = true := by
  rcases List.mem_append.mp h with h | h
  · exact ce_XSg w h
  · exact (List.mem_filter.mp h).2
theorem ce_uJ0 : ∀ w ∈ u_ws RJ0 TJ0 4, w ∈ ce_GW := fun w h => ce_inF (ce_vJ0 w h)
theorem ce_uJ4 : ∀ w ∈ u_ws RJ4 TJ4 4, w ∈ ce_GW := fun w h => ce_inF (ce_vJ4 w h)
theorem ce_uJx35411 : ∀ w ∈ u_ws RJx35411 TJx35411 4, w ∈ ce_GW := fun w h => ce_inF (ce_vJx35411 w h)
theorem ce_uJx4a65c : ∀ w ∈ u_ws RJx4a65c TJx4a65c 3, w ∈ ce_GW := fun w h => ce_inF (ce_vJx4a65c w h)
theorem ce_uX0 : ∀ w ∈ u_ws RX0 TX0 7, w ∈ ce_GW := fun w h => ce_inF (ce_vX0 w h)
theorem ce_uX1 : ∀ w ∈ u_ws RX1 TX1 8, w ∈ ce_GW := fun w h => ce_inF (ce_vX1 w h)
theorem ce_uX2 : ∀ w ∈ u_ws RX2 TX2 9, w ∈ ce_GW := fun w h => ce_inF (ce_vX2 w h)
theorem ce_uX3 : ∀ w ∈ u_ws RX3 TX3 5, w ∈ ce_GW := fun w h => ce_inF (ce_vX3 w h)
theorem ce_uX4 : ∀ w ∈ u_ws RX4 TX4 4, w ∈ ce_GW := fun w h => ce_inF (ce_vX4 w h)
theorem ce_uX5 : ∀ w ∈ u_ws RX5 TX5 5, w ∈ ce_GW := fun w h => ce_inF (ce_vX5 w h)
theorem ce_uX6 : ∀ w ∈ u_ws RX6 TX6 10, w ∈ ce_GW := fun w h => ce_inF (ce_vX6 w h)
theorem ce_uX7 : ∀ w ∈ u_ws RX7 TX7 13, w ∈ ce_GW := fun w h => ce_inF (ce_vX7 w h)
theorem ce_uX8 : ∀ w ∈ u_ws RX8 TX8 5, w ∈ ce_GW := fun w h => ce_inF (ce_vX8 w h)
theorem ce_uX9 : ∀ w ∈ u_ws RX9 TX9 10, w ∈ ce_GW := fun w h => ce_inF (ce_vX9 w h)
theorem ce_uX10 : ∀ w ∈ u_ws RX10 TX10 6, w ∈ ce_GW := fun w h => ce_inF (ce_vX10 w h)
theorem ce_uX11 : ∀ w ∈ u_ws RX11 TX11 7, w ∈ ce_GW := fun w h => ce_inF (ce_vX11 w h)
theorem ce_uX12 : ∀ w ∈ u_ws RX12 TX12 7, w ∈ ce_GW := fun w h => ce_inF (ce_vX12 w h)
theorem ce_uX14 : ∀ w ∈ u_ws RX14 TX14 3, w ∈ ce_GW := fun w h => ce_inF (ce_vX14 w h)
theorem ce_uX19 : ∀ w ∈ u_ws RX19 TX19 5, w ∈ ce_GW := fun w h => ce_inF (ce_vX19 w h)
theorem ce_uX20 : ∀ w ∈ u_ws RX20 TX20 5, w ∈ ce_GW := fun w h => ce_inF (ce_vX20 w h)
theorem ce_uX21 : ∀ w ∈ u_ws RX21 TX21 20, w ∈ ce_GW := fun w h => ce_inF (ce_vX21 w h)
theorem ce_gi {a b : Cond} (h : b ∈ ce_GW) : GoodIn (a :: ce_GW) (b :: ce_GW) := by
  intro w hw
  have h2 : w ∈ ce_GW := by
    rcases List.mem_cons.mp hw with e | e
    · rw [e]; exact h
    · exact e
  exact ⟨List.mem_cons_of_mem _ h2, good_of_word (ce_good h2)⟩
/-- words that no row carries along: they stand in the facts of the world -/
def ce_NG : List Cond := [.castable "java/lang/IllegalArgumentException" "java/lang/IllegalArgumentException", .castable "java/lang/IndexOutOfBoundsException" "java/lang/IndexOutOfBoundsException", .castable "java/util/NoSuchElementException" "java/util/NoSuchElementException", .castable "java/lang/UnsupportedOperationException" "java/lang/UnsupportedOperationException", .castable "CarcasswrightModel$Wall" "java/lang/Object", .castable "CarcasswrightModel$Job" "java/lang/Object", .castable "CarcasswrightModel$Board" "java/lang/Object", .castable "[I" "java/lang/Cloneable", .methodLinkNest "Carcasswright$Types" 19 ⟨"Carcasswright$ModuleType", "<init>", "()V"⟩ "Carcasswright", .methodLinkNest "Carcasswright$Room" 35 ⟨"Carcasswright$Wall", "<init>", "()V"⟩ "Carcasswright", .methodLinkNest "Carcasswright$Room" 36 ⟨"Carcasswright$Obstacle", "<init>", "()V"⟩ "Carcasswright", .methodLinkNest "Carcasswright$Stock" 15 ⟨"Carcasswright$Board", "<init>", "()V"⟩ "Carcasswright", .methodLinkNest "Carcasswright$Saw" 40 ⟨"Carcasswright$Board", "<init>", "()V"⟩ "Carcasswright", .methodLinkNest "Carcasswright" 47 ⟨"Carcasswright$Packer", "<init>", "()V"⟩ "Carcasswright", .methodLinkNest "Carcasswright" 54 ⟨"Carcasswright$Jobs", "<init>", "()V"⟩ "Carcasswright", .declares ⟨"java/lang/RuntimeException", "<init>", "()V"⟩, .declares ⟨"java/lang/RuntimeException", "<init>", "(Ljava/lang/String;)V"⟩, .declares ⟨"java/lang/Exception", "<init>", "()V"⟩, .declares ⟨"java/lang/Exception", "<init>", "(Ljava/lang/String;)V"⟩, .declares ⟨"java/lang/Throwable", "<init>", "()V"⟩, .declares ⟨"java/lang/Throwable", "<init>", "(Ljava/lang/String;)V"⟩, .fieldLinkNest "java/util/ArrayList$Itr" 28 "java/util/ArrayList" "size" "I" "java/util/ArrayList", .declares ⟨"java/util/Iterator", "hasNext", "()Z"⟩, .declares ⟨"java/util/Iterator", "next", "()Ljava/lang/Object;"⟩, .methodLinkNest "CarcasswrightModel" 184 ⟨"CarcasswrightModel$Type", "<init>", "()V"⟩ "CarcasswrightModel", .declares ⟨"java/util/Collection", "toArray", "()[Ljava/lang/Object;"⟩, .declares ⟨"java/lang/Object", "getClass", "()Ljava/lang/Class;"⟩]
end
section
/-! A SMALL SYMBOLIC MACHINE over the claim's bytecode, and why it is right: a value is a number, a number that the script tells (a term), a reference by number, or a constant; the heap is a list of cells. -/
abbrev ce_SI : Type := Int ⊕ Term
abbrev ce_SV : Type := ce_SI ⊕ (ce_SI ⊕ ((Nat ⊕ Nat) ⊕ Value))
abbrev ce_SE : Type := (Nat × List ce_SV) ⊕ (Nat × List ce_SV)
abbrev ce_F : Type := List (Term × Nat × Int)
/-- facts, cells, and how many cells and slots may still come -/
abbrev ce_G : Type := ce_F × List ce_SE × Nat × Nat
/-- locals and stack -/
abbrev ce_L : Type := List (Nat × ce_SV) × List ce_SV
/-- the script, the old things, the array classes, the object classes and slots, where new cells begin -/
abbrev ce_U : Type := (Nat → Int32) × (Nat → Value) × (Nat → ClassId) × va_G × Nat × Nat
abbrev ce_xs (z : ce_U) : Nat → Int32 := z.1
abbrev ce_ev (z : ce_U) : Nat → Value := z.2.1
abbrev ce_cA (z : ce_U) : Nat → ClassId := z.2.2.1
abbrev ce_D (z : ce_U) : va_G := z.2.2.2.1
abbrev ce_b (z : ce_U) : Nat := z.2.2.2.2.1
abbrev ce_len (z : ce_U) : Nat := z.2.2.2.2.2
abbrev ce_A (z : ce_U) : Nat → Prop := fun q => ce_b z ≤ q
def ce_I (z : ce_U) : Term → Int32
  | .arg i => ce_xs z i
  | .int v => v
  | .add a b => ce_I z a + ce_I z b
  | .sub a b => ce_I z a - ce_I z b
  | .mul a b => ce_I z a * ce_I z b
  | .div a b => ce_I z a >>> (ce_I z b &&& 31)
  | .elem a b => ce_I z a <<< (ce_I z b &&& 31)
  | .length a => ((ce_I z a).toUInt32 % 65536).toInt32
  | .old a => (ce_I z a).toInt8.toInt32
  | .sum a => ce_I z a &&& 63
  | _ => 0
def ce_Lg (z : ce_U) : Term → Int64
  | .long v => v
  | .old a => (ce_I z a).toInt64
  | .add a b => ce_Lg z a + ce_Lg z b
  | .mul a b => ce_Lg z a * ce_Lg z b
  | _ => 0
def ce_vi (z : ce_U) : ce_SI → Int32
  | .inl n => Int32.ofInt n
  | .inr t => ce_I z t
def ce_vl (z : ce_U) : ce_SI → Int64
  | .inl n => Int64.ofInt n
  | .inr t => ce_Lg z t
def ce_v (z : ce_U) (ad : Nat → Nat) : ce_SV → Value
  | .inl i => .int (ce_vi z i)
  | .inr (.inl i) => .long (ce_vl z i)
  | .inr (.inr (.inl (.inl k))) => .ref (ad k)
  | .inr (.inr (.inl (.inr j))) => ce_ev z j
  | .inr (.inr (.inr v)) => v
def ce_iv : Value → Int32
  | .int x => x
  | _ => 0
def ce_lv : Value → Int64
  | .long x => x
  | _ => 0
def ce_rv : Value → Option Nat
  | .ref a => some a
  | _ => none
abbrev ce_0 : ce_SV := .inl (.inl 0)
def ce_ar (z : ce_U) (ad : Nat → Nat) (ty : Nat) (es : List ce_SV) : (Nat → Int32) ⊕ (Nat → Int64) ⊕ (Nat → UInt32) ⊕ (Nat → UInt64) ⊕ (Nat → Option Nat) :=
  if ty < 4 then .inl (fun j => ce_iv (ce_v z ad (es.getD j ce_0)))
  else if ty = 4 then .inr (.inl (fun j => ce_lv (ce_v z ad (es.getD j ce_0))))
  else if ty = 5 then .inr (.inr (.inr (.inl (fun _ => 0))))
  else .inr (.inr (.inr (.inr (fun j => ce_rv (ce_v z ad (es.getD j ce_0))))))
def ce_e (z : ce_U) (ad : Nat → Nat) : ce_SE → va_E
  | .inl x => .inr (x.1, x.2.map (ce_v z ad))
  | .inr x => .inl (ce_cA z x.1, x.2.length, ce_ar z ad x.1 x.2)
def ce_w (z : ce_U) (ad : Nat → Nat) : Nat → List ce_SE → va_W
  | _, [] => []
  | k, e :: r => (ad k, ce_e z ad e) :: ce_w z ad (k + 1) r
theorem ce_w_get {z : ce_U} {ad : Nat → Nat} (cs : List ce_SE) : ∀ (k i : Nat), (ce_w z ad k cs)[i]? = (cs[i]?).map (fun e => (ad (k + i), ce_e z ad e)) := by
  induction cs with
  | nil => intro k i; simp [ce_w]
  | cons e r ih =>
    intro k i
    cases i with
    | zero => simp [ce_w]
    | succ i => simp only [ce_w, List.getElem?_cons_succ]; rw [ih, show k + 1 + i = k + (i + 1) by omega]
theorem ce_w_set {z : ce_U} {ad : Nat → Nat} (cs : List ce_SE) : ∀ (k i : Nat) (e : ce_SE), ce_w z ad k (cs.set i e) = (ce_w z ad k cs).set i (ad (k + i), ce_e z ad e) := by
  induction cs with
  | nil => intro k i e; simp [ce_w]
  | cons e0 r ih =>
    intro k i e
    cases i with
    | zero => simp [ce_w]
    | succ i => simp only [ce_w, List.set_cons_succ]; rw [ih, show k + 1 + i = k + (i + 1) by omega]
theorem ce_w_app {z : ce_U} {ad : Nat → Nat} (cs : List ce_SE) (e : ce_SE) : ∀ (k : Nat), ce_w z ad k (cs ++ [e]) = ce_w z ad k cs ++ [(ad (k + cs.length), ce_e z ad e)] := by
  induction cs with
  | nil => intro k; simp [ce_w]
  | cons e0 r ih => intro k; simp only [ce_w, List.cons_append, List.length_cons]; rw [ih, show k + 1 + r.length = k + (r.length + 1) by omega]
/-- no reference beyond the cells -/
def ce_wv (n : Nat) : ce_SV → Bool
  | .inr (.inr (.inl (.inl k))) => Nat.blt k n
  | _ => true
def ce_we (n : Nat) : ce_SE → Bool
  | .inl x => x.2.all (ce_wv n)
  | .inr x => x.2.all (ce_wv n)
theorem ce_v_congr {z : ce_U} {ad ad' : Nat → Nat} {n : Nat} (h : ∀ i, i < n → ad' i = ad i) {v : ce_SV} (hv : ce_wv n v = true) : ce_v z ad' v = ce_v z ad v := by
  match v, hv with
  | .inl i, _ => rfl
  | .inr (.inl i), _ => rfl
  | .inr (.inr (.inl (.inl k))), hv => exact congrArg Value.ref (h k (Nat.lt_of_lt_of_le (Nat.lt_of_succ_le (Nat.le_of_ble_eq_true hv)) (Nat.le_refl n)))
  | .inr (.inr (.inl (.inr j))), _ => rfl
  | .inr (.inr (.inr v)), _ => rfl
theorem ce_map_congr {z : ce_U} {ad ad' : Nat → Nat} {n : Nat} (h : ∀ i, i < n → ad' i = ad i) {l : List ce_SV} (hl : l.all (ce_wv n) = true) : l.map (ce_v z ad') = l.map (ce_v z ad) :=
  List.map_congr_left fun v hv => ce_v_congr h (List.all_eq_true.mp hl v hv)
theorem ce_getD_congr {z : ce_U} {ad ad' : Nat → Nat} {n : Nat} (h : ∀ i, i < n → ad' i = ad i) {l : List ce_SV} (hl : l.all (ce_wv n) = true) (j : Nat) : ce_v z ad' (l.getD j ce_0) = ce_v z ad (l.getD j ce_0) := by
  rw [List.getD_eq_getElem?_getD]
  cases hj : l[j]? with
  | none => rfl
  | some v => exact ce_v_congr h (List.all_eq_true.mp hl v (List.mem_of_getElem? hj))
theorem ce_e_congr {z : ce_U} {ad ad' : Nat → Nat} {n : Nat} (h : ∀ i, i < n → ad' i = ad i) {e : ce_SE} (he : ce_we n e = true) : ce_e z ad' e = ce_e z ad e := by
  match e, he with
  | .inl x, he => exact congrArg (fun l => (Sum.inr (x.1, l) : va_E)) (ce_map_congr h he)
  | .inr x, he =>
    have hf : (fun j => ce_v z ad' (x.2.getD j ce_0)) = fun j => ce_v z ad (x.2.getD j ce_0) := funext fun j => ce_getD_congr h he j
    have hg : ∀ {β : Type} (g : Value → β), (fun j => g (ce_v z ad' (x.2.getD j ce_0))) = fun j => g (ce_v z ad (x.2.getD j ce_0)) := fun g => funext fun j => congrArg g (congrFun hf j)
    unfold ce_e ce_ar
    simp only [hg]
theorem ce_w_congr {z : ce_U} {ad ad' : Nat → Nat} {n : Nat} (h : ∀ i, i < n → ad' i = ad i) (cs : List ce_SE) : ∀ k, k + cs.length ≤ n → cs.all (ce_we n) = true → ce_w z ad' k cs = ce_w z ad k cs := by
  induction cs with
  | nil => intros; rfl
  | cons e r ih =>
    intro k hk ha
    simp only [List.all_cons, Bool.and_eq_true] at ha
    simp only [List.length_cons] at hk
    simp only [ce_w]
    rw [ih (k + 1) (by omega) ha.2, ce_e_congr h ha.1, h k (by omega)]
theorem ce_wv_mono {n n' : Nat} (h : n ≤ n') {v : ce_SV} (hv : ce_wv n v = true) : ce_wv n' v = true := by
  match v, hv with
  | .inl i, _ => rfl
  | .inr (.inl i), _ => rfl
  | .inr (.inr (.inl (.inl k))), hv => exact Nat.ble_eq_true_of_le (Nat.le_trans (Nat.le_of_ble_eq_true hv) h)
  | .inr (.inr (.inl (.inr j))), _ => rfl
  | .inr (.inr (.inr v)), _ => rfl
theorem ce_we_mono {n n' : Nat} (h : n ≤ n') {e : ce_SE} (he : ce_we n e = true) : ce_we n' e = true := by
  match e, he with
  | .inl x, he => exact List.all_eq_true.mpr fun v hv => ce_wv_mono h (List.all_eq_true.mp he v hv)
  | .inr x, he => exact List.all_eq_true.mpr fun v hv => ce_wv_mono h (List.all_eq_true.mp he v hv)
def ce_fa (z : ce_U) (f : Term × Nat × Int) : Prop :=
  if f.2.1 = 0 then f.2.2 ≤ (ce_I z f.1).toInt else if f.2.1 = 1 then (ce_I z f.1).toInt ≤ f.2.2 else (ce_I z f.1).toInt ≠ f.2.2
def ce_sat (z : ce_U) (F : ce_F) : Prop := ∀ f ∈ F, ce_fa z f
def ce_ty (z : ce_U) : List (ClassId × FieldType) := [(ce_cA z 0, .int), (ce_cA z 1, .char), (ce_cA z 2, .byte), (ce_cA z 3, .boolean), (ce_cA z 4, .long), (ce_cA z 5, .double), (ce_cA z 6, .object "java/lang/Object"), (ce_cA z 7, .object "Carcasswright$Wall"), (ce_cA z 8, .object "Carcasswright$Obstacle"), (ce_cA z 9, .object "Carcasswright$PlacedModule"), (ce_cA z 10, .object "Carcasswright$ModuleType"), (ce_cA z 11, .object "Carcasswright$Board")]
def ce_Inv (z : ce_U) (ad : Nat → Nat) (G : ce_G) (H : Heap) : Prop :=
  va_P (ce_D z) ce_cl (ce_w z ad 0 G.2.1) H ∧ va_D (ce_A z) (ce_w z ad 0 G.2.1) ∧ G.2.1.all (ce_we G.2.1.length) = true ∧ ce_sat z G.1
end
section
/-! what is known of the old things at a method's start, and that it goes along -/
abbrev ce_AOs : List String := ["java/lang/Object", "Carcasswright$Wall", "Carcasswright$Obstacle", "Carcasswright$PlacedModule", "Carcasswright$ModuleType", "Carcasswright$Board"]
abbrev ce_yN : MethodName := ⟨"java/util/Iterator", "hasNext", "()Z"⟩
abbrev ce_yI : MethodName := ⟨"java/util/ArrayList$Itr", "hasNext", "()Z"⟩
def ce_E1 (z : ce_U) (U : State) : Prop := vx_Zq Bundle.tN "UNASSIGNED_STACK" Bundle.steD (ce_A z) U U.heap ∧ vx_Zq Bundle.tN "SUPPRESSED_SENTINEL" Bundle.listD (ce_A z) U U.heap
def ce_E2 (U : State) : Prop := (∀ w ∈ ce_NG, va_Nw w U) ∧ va_Fw "java/util/ArrayList$Itr" ce_yN ce_yI U ∧ (∀ C ∈ ce_AOs, va_AO C U) ∧ va_Dc U
def ce_E3 (z : ce_U) (U : State) : Prop := ∃ b, ce_ev z 0 = .ref b ∧ b < ce_b z ∧ b < U.heap.size ∧ va_X b (ce_len z) (ce_xs z) U U.heap ∧ ce_xs z 99 = nI (ce_len z) ∧ ce_len z < 2 ^ 31
def ce_E4 (z : ce_U) (U : State) : Prop := ∃ t, ce_ev z 1 = .ref t ∧ va_T (.object "java/lang/Object") t 0 (fun _ => .null) (ce_A z) U U.heap ∧ va_Z "java/util/ArrayList" "DEFAULTCAPACITY_EMPTY_ELEMENTDATA" "[Ljava/lang/Object;" (.ref t) (ce_A z) U U.heap
def ce_E5 (z : ce_U) (U : State) : Prop := ∃ adK adV : Nat → Nat, ce_ev z 2 = .ref (adK 0) ∧ ce_ev z 3 = .ref (adV 0) ∧ ce_ev z 4 = .ref (adK 1) ∧ ce_ev z 5 = .ref (adV 1) ∧ vk_S 2 [0, 4] [[], [101, 119, 110, 115]] adK adV (ce_A z) U U.heap ∧ vk_R "CarcasswrightModel" 19 "" (adK 0) U ∧ vk_R "CarcasswrightModel" 57 "ewns" (adK 1) U
def ce_E6 (z : ce_U) (U : State) : Prop := ∃ mi, ce_ev z 6 = .ref mi ∧ va_Mi "[Ljava/lang/Object;" mi U
def ce_E7 (z : ce_U) (U : State) : Prop := (ce_ev z 7).category = 1 ∧ va_Z "jdk/internal/util/Preconditions" "SIOOBE_FORMATTER" "Ljava/util/function/BiFunction;" (ce_ev z 7) (ce_A z) U U.heap
def ce_E8 (z : ce_U) (U : State) : Prop := va_Z "java/lang/String" "COMPACT_STRINGS" "Z" (.int 1) (ce_A z) U U.heap ∧ va_Z "java/lang/StringUTF16" "$assertionsDisabled" "Z" (.int 1) (ce_A z) U U.heap ∧ va_Z "java/lang/StringUTF16" "HI_BYTE_SHIFT" "I" (.int 0) (ce_A z) U U.heap ∧ va_Z "java/lang/StringUTF16" "LO_BYTE_SHIFT" "I" (.int 8) (ce_A z) U U.heap
def ce_CK (z : ce_U) (U : State) : Prop := va_K (ce_D z) ce_cl (ce_ty z) U ∧ ce_b z ≤ U.heap.size ∧ ce_E1 z U ∧ ce_E2 U ∧ ce_E3 z U ∧ ce_E4 z U ∧ ce_E5 z U ∧ ce_E6 z U ∧ ce_E7 z U ∧ ce_E8 z U
def ce_ngk : Cond → Bool
  | .castable .. => true
  | .fieldLinkNest .. => true
  | .methodLinkNest .. => true
  | .declares .. => true
  | _ => false
theorem ce_ng {w : Cond} (h : ce_ngk w = true) {s U : State} (hW : s.WarmedH U.vm) (hZ : va_Nw w s) : va_Nw w U := by
  cases w <;> first | exact va_Nw.warmC hW hZ | exact va_Nw.warmF hW hZ | exact va_Nw.warmM hW hZ | exact va_Nw.warmD hW hZ | exact absurd h (by simp [ce_ngk])
theorem ce_ng_all : ∀ w ∈ ce_NG, ce_ngk w = true := by decide +kernel
theorem ce_next {z : ce_U} {s U : State} {H : Heap} {locs : List Loc} (h : ce_CK z s) (hU : U.heap = H) (hW : s.WarmedH U.vm) (hS : va_S (ce_A z) s.heap H locs) : ce_CK z U := by
  obtain ⟨hK, hb, ⟨a1, a2⟩, ⟨b1, b2, b3, b4⟩, ⟨c0, c1, c2, c5, c3, c6⟩, ⟨d0, d1, d2, d3⟩, ⟨k, v, e1, e2, e3, e4, e5, e6, e7⟩, ⟨f0, f1, f2⟩, ⟨g1, g2⟩, ⟨i1, i2, i3, i4⟩⟩ := h
  have hvm := hW.alike
  have hk : ∀ a : Nat, a < s.heap.size → ¬ ce_A z a → U.heap[a]? = s.heap[a]? := fun a h1 h2 => by rw [hU]; exact hS.2.1 a h1 h2
  have hz : s.heap.size ≤ U.heap.size := by rw [hU]; exact hS.1
  refine ⟨va_K.moved hvm hK, Nat.le_trans hb hz, ⟨(vx_Zq.moved hvm a1).kept hk, (vx_Zq.moved hvm a2).kept hk⟩, ⟨fun w hw => ce_ng (ce_ng_all w hw) hW (b1 w hw), va_Fw.moved (by decide) hvm b2, fun C hC => (b3 C hC).moved hvm, b4.moved hvm⟩, ⟨c0, c1, c2, Nat.lt_of_lt_of_le c5 hz, ?_, c6⟩, ⟨d0, d1, (va_T.moved hvm d2).kept hk, (va_Z.moved hvm d3).kept hk⟩, ⟨k, v, e1, e2, e3, e4, (vk_S.moved hvm e5).kept hk, e6.warm hW, e7.warm hW⟩, ⟨f0, f1, f2.moved hvm⟩, ⟨g1, (va_Z.moved hvm g2).kept hk⟩, ⟨(va_Z.moved hvm i1).kept hk, (va_Z.moved hvm i2).kept hk, (va_Z.moved hvm i3).kept hk, (va_Z.moved hvm i4).kept hk⟩⟩
  exact (va_X.moved hvm c3).kept (hk c0 c5 (Nat.not_le.mpr c2))
theorem ce_blind {z : ce_U} {U : State} {g : JFrame} {mk : MethodId} {a : Array Value} (h : ce_CK z U) : ce_CK z (U.calling g mk a) := by
  obtain ⟨hK, hb, h1, h2, h3, h4, h5, h6, h7, h8⟩ := h
  exact ce_next (locs := []) (H := U.heap) ⟨hK, hb, h1, h2, h3, h4, h5, h6, h7, h8⟩ rfl (State.WarmedH.refl _) va_S.rf
end
section
/-! facts about numbers that the script tells, comparisons, and what a step owes -/
def ce_r (n : Int) : Bool := decide (-2147483648 ≤ n) && decide (n ≤ 2147483647)
theorem ce_rt {n : Int} (h : ce_r n = true) : (Int32.ofInt n).toInt = n := by
  simp only [ce_r, Bool.and_eq_true, decide_eq_true_eq] at h
  exact Int32.toInt_ofInt_of_le (by omega) (by omega)
def ce_ge (F : ce_F) (t : Term) (c : Int) : Bool := F.any fun f => decide (f.1 = t) && (Nat.beq f.2.1 0 && decide (c ≤ f.2.2))
def ce_le (F : ce_F) (t : Term) (c : Int) : Bool := F.any fun f => decide (f.1 = t) && (Nat.beq f.2.1 1 && decide (f.2.2 ≤ c))
def ce_ne (F : ce_F) (t : Term) (c : Int) : Bool := (F.any fun f => decide (f.1 = t) && (Nat.beq f.2.1 2 && decide (f.2.2 = c))) || (ce_ge F t (c + 1) || ce_le F t (c - 1))
theorem ce_ge_ok {z : ce_U} {F : ce_F} (hF : ce_sat z F) {t : Term} {c : Int} (h : ce_ge F t c = true) : c ≤ (ce_I z t).toInt := by
  obtain ⟨f, hf, h⟩ := List.any_eq_true.mp h
  simp only [Bool.and_eq_true, decide_eq_true_eq, Nat.beq_eq] at h
  have := hF f hf
  rw [ce_fa, if_pos h.2.1, h.1] at this
  omega
theorem ce_le_ok {z : ce_U} {F : ce_F} (hF : ce_sat z F) {t : Term} {c : Int} (h : ce_le F t c = true) : (ce_I z t).toInt ≤ c := by
  obtain ⟨f, hf, h⟩ := List.any_eq_true.mp h
  simp only [Bool.and_eq_true, decide_eq_true_eq, Nat.beq_eq] at h
  have := hF f hf
  rw [ce_fa, if_neg (by omega), if_pos h.2.1, h.1] at this
  omega
theorem ce_ne_ok {z : ce_U} {F : ce_F} (hF : ce_sat z F) {t : Term} {c : Int} (h : ce_ne F t c = true) : (ce_I z t).toInt ≠ c := by
  simp only [ce_ne, Bool.or_eq_true] at h
  rcases h with h | h | h
  · obtain ⟨f, hf, h⟩ := List.any_eq_true.mp h
    simp only [Bool.and_eq_true, decide_eq_true_eq, Nat.beq_eq] at h
    have := hF f hf
    rw [ce_fa, if_neg (by omega), if_neg (by omega), h.1, h.2.2] at this
    exact this
  · have := ce_ge_ok hF h; omega
  · have := ce_le_ok hF h; omega
/-- is a = b (q), or a < b? -/
def ce_cmp (F : ce_F) (q : Bool) (a b : ce_SI) : Option Bool :=
  match a, b with
  | .inl x, .inl y => if ce_r x && ce_r y then some (if q then decide (x = y) else decide (x < y)) else none
  | .inr t, .inl c => if ce_r c then (if q then (if ce_ge F t c && ce_le F t c then some true else if ce_ne F t c then some false else none) else (if ce_le F t (c - 1) then some true else if ce_ge F t c then some false else none)) else none
  | .inl c, .inr t => if ce_r c then (if q then (if ce_ge F t c && ce_le F t c then some true else if ce_ne F t c then some false else none) else (if ce_ge F t (c + 1) then some true else if ce_le F t c then some false else none)) else none
  | .inr s, .inr t => if q && decide (s = t) then some true else none
def ce_pr (z : ce_U) (q : Bool) (a b : ce_SI) : Prop := if q then ce_vi z a = ce_vi z b else ce_vi z a < ce_vi z b
theorem ce_pr_int {z : ce_U} {q : Bool} {a b : ce_SI} : ce_pr z q a b ↔ if q then (ce_vi z a).toInt = (ce_vi z b).toInt else (ce_vi z a).toInt < (ce_vi z b).toInt := by
  unfold ce_pr
  cases q with
  | true => simp only [if_true]; exact Int32.toInt_inj.symm
  | false => simp only [Bool.false_eq_true, if_false]; exact Int32.lt_iff_toInt_lt
theorem ce_cmp_ok {z : ce_U} {F : ce_F} (hF : ce_sat z F) {q v : Bool} {a b : ce_SI} (h : ce_cmp F q a b = some v) : v = true ↔ ce_pr z q a b := by
  rw [ce_pr_int]
  match a, b, h with
  | .inl x, .inl y, h =>
    simp only [ce_cmp] at h
    split at h
    · rename_i hr
      simp only [Bool.and_eq_true] at hr
      cases h
      simp only [ce_vi, ce_rt hr.1, ce_rt hr.2]
      cases q <;> simp
    · cases h
  | .inr t, .inl c, h =>
    simp only [ce_cmp] at h
    split at h
    · rename_i hr
      simp only [ce_vi, ce_rt hr]
      cases q with
      | true =>
        simp only [if_true] at h ⊢
        split at h
        · rename_i h2
          simp only [Bool.and_eq_true] at h2
          have h3 := ce_ge_ok hF h2.1
          have h4 := ce_le_ok hF h2.2
          cases h; simp; omega
        · split at h
          · rename_i h2
            have h3 := ce_ne_ok hF h2
            cases h; simp; exact h3
          · cases h
      | false =>
        simp only [Bool.false_eq_true, if_false] at h ⊢
        split at h
        · rename_i h2
          have h3 := ce_le_ok hF h2
          cases h; simp; omega
        · split at h
          · rename_i h2
            have h3 := ce_ge_ok hF h2
            cases h; simp; omega
          · cases h
    · cases h
  | .inl c, .inr t, h =>
    simp only [ce_cmp] at h
    split at h
    · rename_i hr
      simp only [ce_vi, ce_rt hr]
      cases q with
      | true =>
        simp only [if_true] at h ⊢
        split at h
        · rename_i h2
          simp only [Bool.and_eq_true] at h2
          have h3 := ce_ge_ok hF h2.1
          have h4 := ce_le_ok hF h2.2
          cases h; simp; omega
        · split at h
          · rename_i h2
            have h3 := ce_ne_ok hF h2
            cases h; simp; exact fun z => h3 z.symm
          · cases h
      | false =>
        simp only [Bool.false_eq_true, if_false] at h ⊢
        split at h
        · rename_i h2
          have h3 := ce_ge_ok hF h2
          cases h; simp; omega
        · split at h
          · rename_i h2
            have h3 := ce_le_ok hF h2
            cases h; simp; omega
          · cases h
    · cases h
  | .inr s, .inr t, h =>
    simp only [ce_cmp] at h
    by_cases h2 : (q && decide (s = t)) = true
    · rw [if_pos h2] at h
      simp only [Bool.and_eq_true, decide_eq_true_eq] at h2
      have hv : v = true := (Option.some.inj h).symm
      rw [hv, h2.1, h2.2]; simp
    · rw [if_neg h2] at h; cases h
/-- both ways, with what each tells -/
def ce_br (F : ce_F) (q : Bool) (a b : ce_SI) : Option (List (Bool × ce_F)) :=
  match ce_cmp F q a b with
  | some v => some [(v, F)]
  | none => match a, b with
    | .inr t, .inl c => if ce_r c then some (if q then [(true, (t, 0, c) :: (t, 1, c) :: F), (false, (t, 2, c) :: F)] else [(true, (t, 1, c - 1) :: F), (false, (t, 0, c) :: F)]) else none
    | .inl c, .inr t => if ce_r c then some (if q then [(true, (t, 0, c) :: (t, 1, c) :: F), (false, (t, 2, c) :: F)] else [(true, (t, 0, c + 1) :: F), (false, (t, 1, c) :: F)]) else none
    | _, _ => none
theorem ce_sat_cons {z : ce_U} {F : ce_F} {f : Term × Nat × Int} (h : ce_fa z f) (hF : ce_sat z F) : ce_sat z (f :: F) := fun g hg => by
  rcases List.mem_cons.mp hg with e | e
  · rw [e]; exact h
  · exact hF g e
theorem ce_fa0 {z : ce_U} {t : Term} {c : Int} (h : c ≤ (ce_I z t).toInt) : ce_fa z (t, 0, c) := by simp only [ce_fa, if_true]; exact h
theorem ce_fa1 {z : ce_U} {t : Term} {c : Int} (h : (ce_I z t).toInt ≤ c) : ce_fa z (t, 1, c) := by simp [ce_fa]; exact h
theorem ce_fa2 {z : ce_U} {t : Term} {c : Int} (h : (ce_I z t).toInt ≠ c) : ce_fa z (t, 2, c) := by simp [ce_fa]; exact h
theorem ce_br_ok {z : ce_U} {F : ce_F} (hF : ce_sat z F) {q : Bool} {a b : ce_SI} {S : List (Bool × ce_F)} (h : ce_br F q a b = some S) : ∃ x ∈ S, (x.1 = true ↔ ce_pr z q a b) ∧ ce_sat z x.2 := by
  unfold ce_br at h
  split at h
  · rename_i v hv
    cases h
    exact ⟨_, List.mem_singleton.mpr rfl, ce_cmp_ok hF hv, hF⟩
  · rw [ce_pr_int]
    match a, b, h with
    | .inr t, .inl c, h =>
      simp only at h
      split at h
      · rename_i hr
        simp only [ce_vi, ce_rt hr]
        cases h
        cases q with
        | true =>
          simp only [if_true]
          by_cases he : (ce_I z t).toInt = c
          · exact ⟨_, List.mem_cons_self, by simp [he], ce_sat_cons (ce_fa0 (by omega)) (ce_sat_cons (ce_fa1 (by omega)) hF)⟩
          · exact ⟨_, List.mem_cons_of_mem _ List.mem_cons_self, by simp [he], ce_sat_cons (ce_fa2 he) hF⟩
        | false =>
          simp only [Bool.false_eq_true, if_false]
          by_cases he : (ce_I z t).toInt < c
          · exact ⟨_, List.mem_cons_self, by simp [he], ce_sat_cons (ce_fa1 (by omega)) hF⟩
          · exact ⟨_, List.mem_cons_of_mem _ List.mem_cons_self, by simp [he], ce_sat_cons (ce_fa0 (by omega)) hF⟩
      · cases h
    | .inl c, .inr t, h =>
      simp only at h
      split at h
      · rename_i hr
        simp only [ce_vi, ce_rt hr]
        cases h
        cases q with
        | true =>
          simp only [if_true]
          by_cases he : (ce_I z t).toInt = c
          · exact ⟨_, List.mem_cons_self, by simp [he], ce_sat_cons (ce_fa0 (by omega)) (ce_sat_cons (ce_fa1 (by omega)) hF)⟩
          · exact ⟨_, List.mem_cons_of_mem _ List.mem_cons_self, by simp; exact fun h => he h.symm, ce_sat_cons (ce_fa2 he) hF⟩
        | false =>
          simp only [Bool.false_eq_true, if_false]
          by_cases he : c < (ce_I z t).toInt
          · exact ⟨_, List.mem_cons_self, by simp [he], ce_sat_cons (ce_fa0 (by omega)) hF⟩
          · exact ⟨_, List.mem_cons_of_mem _ List.mem_cons_self, by simp [he], ce_sat_cons (ce_fa1 (by omega)) hF⟩
      · cases h
    | .inl _, .inl _, h => simp at h
    | .inr _, .inr _, h => simp at h
abbrev ce_P : Type := ce_L → ce_G → Option (List (Nat × ce_L × ce_G))
def ce_WS (z : ce_U) (p : Program) (l : Launch) (e : Env) (R : Room) (s : State) (m : MethodId) (args : Array Value) (below : List Frame) (meth : Method) (c : Code) (Q : State → Prop) (nL : Nat) (ad0 : Nat → Nat) (n0 : Nat) (pc : Nat) (L : ce_L) (G : ce_G) : Prop :=
  ∀ (ad : Nat → Nat) (ls : Array Slot) (H : Heap) (locs : List Loc) (kc ks : Nat), (∀ k, k < n0 → ad k = ad0 k) → n0 ≤ G.2.1.length → lv_has ls nL (L.1.map fun q => (q.1, ce_v z ad q.2)) → ce_Inv z ad G H → va_S (ce_A z) s.heap H locs → kc + G.2.2.1 ≤ R.cells → ks + G.2.2.2 ≤ R.slots →
    W p l e R s m args below meth c H locs kc ks Q (F0 m pc ls (L.2.map (ce_v z ad)))
def ce_CX (z : ce_U) (p : Program) (l : Launch) (R : Room) (s : State) (m : MethodId) (args : Array Value) (meth : Method) (c : Code) (own nm : String) (cc : ByteArray) (nL : Nat) (ret : Option FieldType) (ht : Nat) : Prop :=
  p.tables.exec = Jvm.exec ∧ c.code = cc ∧ c.maxLocals = nL ∧ s.vm.findClass own = some m.cls ∧ (∀ w ∈ ce_GW, w.before args s = true) ∧ meth.name = nm ∧ meth.sig.returnType = ret ∧ meth.locks = false ∧ (l.stackTraces = false ∧ 8 + ht ≤ R.frames ∧ 100 * (ht + 2) ≤ R.locals) ∧ ce_CK z s
def ce_OK (own nm : String) (cc : ByteArray) (nL : Nat) (ret : Option FieldType) (ht : Nat) (pc : Nat) (f : ce_P) : Prop :=
  ∀ {z : ce_U} {p : Program} {l : Launch} {e : Env} {R : Room} {s : State} {m : MethodId} {args : Array Value} {below : List Frame} {meth : Method} {c : Code} {Q : State → Prop} {ad0 : Nat → Nat} {n0 : Nat},
    ce_CX z p l R s m args meth c own nm cc nL ret ht → ∀ (L : ce_L) (G : ce_G) (S : List (Nat × ce_L × ce_G)), f L G = some S → (∀ x ∈ S, ce_WS z p l e R s m args below meth c Q nL ad0 n0 x.1 x.2.1 x.2.2) → ce_WS z p l e R s m args below meth c Q nL ad0 n0 pc L G
end
section
/-! the plain steps: what each does to locals, stack and facts, and that the machine does so -/
theorem ce_has_sub {ls : Array Slot} {n : Nat} {l l' : List (Nat × Value)} (h : lv_has ls n l) (hs : ∀ q ∈ l', q ∈ l) : lv_has ls n l' := ⟨h.1, h.2.1, fun q hq => h.2.2 q (hs q hq)⟩
def ce_lk : List (Nat × ce_SV) → Nat → Option ce_SV
  | [], _ => none
  | q :: r, i => match Nat.beq q.1 i with
    | true => some q.2
    | false => ce_lk r i
theorem ce_lk_mem {i : Nat} {v : ce_SV} : ∀ {l : List (Nat × ce_SV)}, ce_lk l i = some v → (i, v) ∈ l
  | q :: r, h => by
    unfold ce_lk at h
    split at h
    · rename_i hq
      cases h
      rw [← Nat.eq_of_beq_eq_true hq]
      exact List.mem_cons_self
    · exact List.mem_cons_of_mem _ (ce_lk_mem h)
theorem ce_lk_at {z : ce_U} {ad : Nat → Nat} {ls : Array Slot} {n i : Nat} {v : ce_SV} {l : List (Nat × ce_SV)} (hl : lv_has ls n (l.map fun q => (q.1, ce_v z ad q.2))) (h : ce_lk l i = some v) : ls[i]? = some (.val (ce_v z ad v)) :=
  hl.2.2 (i, ce_v z ad v) (List.mem_map.mpr ⟨(i, v), ce_lk_mem h, rfl⟩)
/-- may it take two places -/
def ce_c2 : ce_SV → Bool
  | .inl _ => false
  | .inr (.inl _) => true
  | .inr (.inr (.inl (.inl _))) => false
  | .inr (.inr (.inl (.inr j))) => Nat.ble 8 j
  | .inr (.inr (.inr v)) => Nat.beq v.category 2
def ce_st (two : Bool) (i : Nat) (v : ce_SV) (l : List (Nat × ce_SV)) : List (Nat × ce_SV) := (i, v) :: l.filter fun q => !(Nat.beq q.1 i) && (!(two && Nat.beq q.1 (i + 1)) && !(Nat.beq (q.1 + 1) i && ce_c2 q.2))
theorem ce_ext {z : ce_U} {s : State} (h : ce_CK z s) : ∀ j, j < 7 → ∃ a, ce_ev z j = .ref a := by
  obtain ⟨-, -, -, -, ⟨b, h0, -⟩, ⟨t, h1, -⟩, ⟨k, v, h2, h3, h4, h5, -⟩, ⟨mi, h6, -⟩, -⟩ := h
  intro j hj
  rcases (by omega : j = 0 ∨ j = 1 ∨ j = 2 ∨ j = 3 ∨ j = 4 ∨ j = 5 ∨ j = 6) with rfl | rfl | rfl | rfl | rfl | rfl | rfl
  · exact ⟨_, h0⟩
  · exact ⟨_, h1⟩
  · exact ⟨_, h2⟩
  · exact ⟨_, h3⟩
  · exact ⟨_, h4⟩
  · exact ⟨_, h5⟩
  · exact ⟨_, h6⟩
theorem ce_cat {z : ce_U} {s : State} (h : ce_CK z s) {ad : Nat → Nat} {v : ce_SV} (hv : ce_c2 v = false) : (ce_v z ad v).category = 1 := by
  match v, hv with
  | .inl _, _ => rfl
  | .inr (.inr (.inl (.inl _))), _ => rfl
  | .inr (.inr (.inl (.inr j))), hv =>
    have hj : ¬ 8 ≤ j := fun z => by have := Nat.ble_eq_true_of_le z; rw [ce_c2, this] at hv; cases hv
    rcases (by omega : j < 7 ∨ j = 7) with h7 | rfl
    · obtain ⟨a, ha⟩ := ce_ext h j h7
      show (ce_ev z j).category = 1
      rw [ha]; rfl
    · exact h.2.2.2.2.2.2.2.2.1.1
  | .inr (.inr (.inr v)), hv =>
    have h2 : v.category ≠ 2 := fun z => by rw [ce_c2, z] at hv; cases hv
    show v.category = 1
    cases v <;> first | rfl | exact absurd rfl h2
theorem ce_st_sub {z : ce_U} {s : State} (h : ce_CK z s) {ad : Nat → Nat} {two : Bool} {i : Nat} {v : ce_SV} {l : List (Nat × ce_SV)} {f : Nat × Value → Bool}
    (hf : ∀ q : Nat × ce_SV, (Nat.beq q.1 i = false ∧ (two = true → Nat.beq q.1 (i + 1) = false) ∧ (Nat.beq (q.1 + 1) i = true → (ce_v z ad q.2).category = 1)) → f (q.1, ce_v z ad q.2) = true) :
    ∀ q ∈ (ce_st two i v l).map (fun q => (q.1, ce_v z ad q.2)), q ∈ (i, ce_v z ad v) :: (l.map fun q => (q.1, ce_v z ad q.2)).filter f := by
  intro q hq
  rw [ce_st, List.map_cons] at hq
  rcases List.mem_cons.mp hq with e | e
  · rw [e]; exact List.mem_cons_self
  · obtain ⟨x, hx, rfl⟩ := List.mem_map.mp e
    obtain ⟨h1, h2⟩ := List.mem_filter.mp hx
    refine List.mem_cons_of_mem _ (List.mem_filter.mpr ⟨List.mem_map.mpr ⟨x, h1, rfl⟩, hf x ?_⟩)
    simp only [Bool.and_eq_true, Bool.not_eq_true'] at h2
    obtain ⟨a1, a2, a3⟩ := h2
    refine ⟨a1, fun ht => ?_, fun hb => ce_cat h ?_⟩
    · rw [ht] at a2; simpa using a2
    · rw [hb] at a3; simpa using a3
theorem ce_beq (a b : Nat) : (a == b) = Nat.beq a b := by
  by_cases h : a = b
  · subst h; rw [Nat.beq_refl]; simp
  · have h2 : Nat.beq a b = false := by
      cases h3 : Nat.beq a b
      · rfl
      · exact absurd (Nat.eq_of_beq_eq_true h3) h
    rw [h2]; simpa using h
theorem ce_f1 {q : Nat × Value} {i : Nat} (h1 : Nat.beq q.1 i = false) (h3 : Nat.beq (q.1 + 1) i = true → q.2.category = 1) : (!(q.1 == i) && !(q.1 + 1 == i && q.2.category == 2)) = true := by
  have e1 : (q.1 == i) = false := by rw [ce_beq]; exact h1
  by_cases hb : Nat.beq (q.1 + 1) i = true
  · have := h3 hb
    simp [e1, this]
  · have e2 : (q.1 + 1 == i) = false := by rw [ce_beq]; exact Bool.eq_false_iff.mpr hb
    simp [e1, e2]
theorem ce_f2 {q : Nat × Value} {i : Nat} (h1 : Nat.beq q.1 i = false) (h2 : Nat.beq q.1 (i + 1) = false) (h3 : Nat.beq (q.1 + 1) i = true → q.2.category = 1) : (!(q.1 == i) && (!(q.1 == i + 1) && !(q.1 + 1 == i && q.2.category == 2))) = true := by
  have e1 : (q.1 == i) = false := by rw [ce_beq]; exact h1
  have e4 : (q.1 == i + 1) = false := by rw [ce_beq]; exact h2
  by_cases hb : Nat.beq (q.1 + 1) i = true
  · have := h3 hb
    simp [e1, e4, this]
  · have e2 : (q.1 + 1 == i) = false := by rw [ce_beq]; exact Bool.eq_false_iff.mpr hb
    simp [e1, e4, e2]
section Ops
variable {own nm : String} {cc : ByteArray} {nL : Nat} {ret : Option FieldType} {ht pc : Nat}

def ce_push (v : ce_SV) (nx : Nat) : ce_P := fun L G => some [(nx, (L.1, v :: L.2), G)]
theorem ok_iconst {n : Int} (d : decode cc pc = .ok (.iconst n, 1)) : ce_OK own nm cc nL ret ht pc (ce_push (.inl (.inl n)) (pc + 1)) := by
  intro z p l e R s m args below meth c Q ad0 n0 hC L G S h hS ad ls H locs kc ks h1 h2 hl hI hv k1 k2
  obtain ⟨lo, st⟩ := L
  cases h
  refine lv_iconst hC.1 hC.2.1 d rfl ?_
  exact hS _ (List.mem_singleton.mpr rfl) ad ls H locs kc ks h1 h2 hl hI hv k1 k2
theorem ok_bipush {n : Int} (d : decode cc pc = .ok (.bipush n, 2)) (hv8 : (Int8.ofInt n).toInt32 = Int32.ofInt n) : ce_OK own nm cc nL ret ht pc (ce_push (.inl (.inl n)) (pc + 2)) := by
  intro z p l e R s m args below meth c Q ad0 n0 hC L G S h hS ad ls H locs kc ks h1 h2 hl hI hv k1 k2
  obtain ⟨lo, st⟩ := L
  cases h
  refine lv_bipush hC.1 hC.2.1 d hv8 ?_
  exact hS _ (List.mem_singleton.mpr rfl) ad ls H locs kc ks h1 h2 hl hI hv k1 k2
theorem ok_sipush {n : Int} (d : decode cc pc = .ok (.sipush n, 3)) (hv8 : (Int16.ofInt n).toInt32 = Int32.ofInt n) : ce_OK own nm cc nL ret ht pc (ce_push (.inl (.inl n)) (pc + 3)) := by
  intro z p l e R s m args below meth c Q ad0 n0 hC L G S h hS ad ls H locs kc ks h1 h2 hl hI hv k1 k2
  obtain ⟨lo, st⟩ := L
  cases h
  refine lv_sipush hC.1 hC.2.1 d hv8 ?_
  exact hS _ (List.mem_singleton.mpr rfl) ad ls H locs kc ks h1 h2 hl hI hv k1 k2
theorem ok_lconst0  (d : decode cc pc = .ok (.lconst 0, 1)) : ce_OK own nm cc nL ret ht pc (ce_push (.inr (.inl (.inl 0))) (pc + 1)) := by
  intro z p l e R s m args below meth c Q ad0 n0 hC L G S h hS ad ls H locs kc ks h1 h2 hl hI hv k1 k2
  obtain ⟨lo, st⟩ := L
  cases h
  refine lv_lconst hC.1 hC.2.1 d rfl ?_
  exact hS _ (List.mem_singleton.mpr rfl) ad ls H locs kc ks h1 h2 hl hI hv k1 k2
theorem ok_lconst1  (d : decode cc pc = .ok (.lconst 1, 1)) : ce_OK own nm cc nL ret ht pc (ce_push (.inr (.inl (.inl 1))) (pc + 1)) := by
  intro z p l e R s m args below meth c Q ad0 n0 hC L G S h hS ad ls H locs kc ks h1 h2 hl hI hv k1 k2
  obtain ⟨lo, st⟩ := L
  cases h
  refine lv_lconst hC.1 hC.2.1 d rfl ?_
  exact hS _ (List.mem_singleton.mpr rfl) ad ls H locs kc ks h1 h2 hl hI hv k1 k2
theorem ok_fconst0  (d : decode cc pc = .ok (.fconst 0, 1)) : ce_OK own nm cc nL ret ht pc (ce_push (.inr (.inr (.inr (.float 0)))) (pc + 1)) := by
  intro z p l e R s m args below meth c Q ad0 n0 hC L G S h hS ad ls H locs kc ks h1 h2 hl hI hv k1 k2
  obtain ⟨lo, st⟩ := L
  cases h
  refine lv_fconst0 hC.1 hC.2.1 d ?_
  exact hS _ (List.mem_singleton.mpr rfl) ad ls H locs kc ks h1 h2 hl hI hv k1 k2
theorem ok_dconst0  (d : decode cc pc = .ok (.dconst 0, 1)) : ce_OK own nm cc nL ret ht pc (ce_push (.inr (.inr (.inr (.double 0)))) (pc + 1)) := by
  intro z p l e R s m args below meth c Q ad0 n0 hC L G S h hS ad ls H locs kc ks h1 h2 hl hI hv k1 k2
  obtain ⟨lo, st⟩ := L
  cases h
  refine lv_dconst0 hC.1 hC.2.1 d ?_
  exact hS _ (List.mem_singleton.mpr rfl) ad ls H locs kc ks h1 h2 hl hI hv k1 k2
theorem ok_null  (d : decode cc pc = .ok (.aconst_null, 1)) : ce_OK own nm cc nL ret ht pc (ce_push (.inr (.inr (.inr .null))) (pc + 1)) := by
  intro z p l e R s m args below meth c Q ad0 n0 hC L G S h hS ad ls H locs kc ks h1 h2 hl hI hv k1 k2
  obtain ⟨lo, st⟩ := L
  cases h
  refine lv_null hC.1 hC.2.1 d ?_
  exact hS _ (List.mem_singleton.mpr rfl) ad ls H locs kc ks h1 h2 hl hI hv k1 k2
theorem ok_ldc {i : Nat} {n : Int} (d : decode cc pc = .ok (.ldc i, 2)) (hk : Cond.constant own i (Int32.ofInt n) ∈ ce_GW) : ce_OK own nm cc nL ret ht pc (ce_push (.inl (.inl n)) (pc + 2)) := by
  intro z p l e R s m args below meth c Q ad0 n0 hC L G S h hS ad ls H locs kc ks h1 h2 hl hI hv k1 k2
  obtain ⟨lo, st⟩ := L
  cases h
  refine lv_ldc hC.1 hC.2.1 hC.2.2.2.1 (hC.2.2.2.2.1 _ hk) d ?_
  exact hS _ (List.mem_singleton.mpr rfl) ad ls H locs kc ks h1 h2 hl hI hv k1 k2
theorem ok_ldcw {i : Nat} {n : Int} (d : decode cc pc = .ok (.ldc_w i, 3)) (hk : Cond.constant own i (Int32.ofInt n) ∈ ce_GW) : ce_OK own nm cc nL ret ht pc (ce_push (.inl (.inl n)) (pc + 3)) := by
  intro z p l e R s m args below meth c Q ad0 n0 hC L G S h hS ad ls H locs kc ks h1 h2 hl hI hv k1 k2
  obtain ⟨lo, st⟩ := L
  cases h
  refine lv_ldcw hC.1 hC.2.1 hC.2.2.2.1 (hC.2.2.2.2.1 _ hk) d ?_
  exact hS _ (List.mem_singleton.mpr rfl) ad ls H locs kc ks h1 h2 hl hI hv k1 k2
def ce_iload (i nx : Nat) : ce_P := fun L G => match ce_lk L.1 i with
  | some (.inl a) => some [(nx, (L.1, .inl a :: L.2), G)]
  | _ => none
def ce_lload (i nx : Nat) : ce_P := fun L G => match ce_lk L.1 i with
  | some (.inr (.inl a)) => some [(nx, (L.1, .inr (.inl a) :: L.2), G)]
  | _ => none
def ce_aload (i nx : Nat) : ce_P := fun L G => match ce_lk L.1 i with
  | some (.inr (.inr (.inl (.inl k)))) => some [(nx, (L.1, .inr (.inr (.inl (.inl k))) :: L.2), G)]
  | some (.inr (.inr (.inl (.inr j)))) => match Nat.blt j 7 with
    | true => some [(nx, (L.1, .inr (.inr (.inl (.inr j))) :: L.2), G)]
    | false => none
  | some (.inr (.inr (.inr .null))) => some [(nx, (L.1, .inr (.inr (.inr .null)) :: L.2), G)]
  | _ => none
theorem ok_iload {i : Nat} (d : decode cc pc = .ok (.iload i, 2)) : ce_OK own nm cc nL ret ht pc (ce_iload i (pc + 2)) := by
  intro z p l e R s m args below meth c Q ad0 n0 hC L G S h hS ad ls H locs kc ks h1 h2 hl hI hv k1 k2
  obtain ⟨lo, st⟩ := L
  simp only [ce_iload] at h
  split at h
  · rename_i a ha
    cases h
    refine lv_iload hC.1 hC.2.1 d (ce_lk_at hl ha) ?_
    exact hS _ (List.mem_singleton.mpr rfl) ad ls H locs kc ks h1 h2 hl hI hv k1 k2
  · cases h
theorem ok_iload_n {k : Fin 4} {i : Nat} (d : decode cc pc = .ok (.iload_n k, 1)) (hi : (k : Nat) = i) : ce_OK own nm cc nL ret ht pc (ce_iload i (pc + 1)) := by
  intro z p l e R s m args below meth c Q ad0 n0 hC L G S h hS ad ls H locs kc ks h1 h2 hl hI hv k1 k2
  obtain ⟨lo, st⟩ := L
  simp only [ce_iload] at h
  split at h
  · rename_i a ha
    cases h
    refine lv_iload_n hC.1 hC.2.1 d hi (ce_lk_at hl ha) ?_
    exact hS _ (List.mem_singleton.mpr rfl) ad ls H locs kc ks h1 h2 hl hI hv k1 k2
  · cases h
theorem ok_lload {i : Nat} (d : decode cc pc = .ok (.lload i, 2)) : ce_OK own nm cc nL ret ht pc (ce_lload i (pc + 2)) := by
  intro z p l e R s m args below meth c Q ad0 n0 hC L G S h hS ad ls H locs kc ks h1 h2 hl hI hv k1 k2
  obtain ⟨lo, st⟩ := L
  simp only [ce_lload] at h
  split at h
  · rename_i a ha
    cases h
    refine lv_lload hC.1 hC.2.1 d (ce_lk_at hl ha) ?_
    exact hS _ (List.mem_singleton.mpr rfl) ad ls H locs kc ks h1 h2 hl hI hv k1 k2
  · cases h
theorem ok_lload_n {k : Fin 4} {i : Nat} (d : decode cc pc = .ok (.lload_n k, 1)) (hi : (k : Nat) = i) : ce_OK own nm cc nL ret ht pc (ce_lload i (pc + 1)) := by
  intro z p l e R s m args below meth c Q ad0 n0 hC L G S h hS ad ls H locs kc ks h1 h2 hl hI hv k1 k2
  obtain ⟨lo, st⟩ := L
  simp only [ce_lload] at h
  split at h
  · rename_i a ha
    cases h
    refine lv_lload_n hC.1 hC.2.1 d hi (ce_lk_at hl ha) ?_
    exact hS _ (List.mem_singleton.mpr rfl) ad ls H locs kc ks h1 h2 hl hI hv k1 k2
  · cases h
theorem ok_aload {i : Nat} (d : decode cc pc = .ok (.aload i, 2)) : ce_OK own nm cc nL ret ht pc (ce_aload i (pc + 2)) := by
  intro z p l e R s m args below meth c Q ad0 n0 hC L G S h hS ad ls H locs kc ks h1 h2 hl hI hv k1 k2
  obtain ⟨lo, st⟩ := L
  simp only [ce_aload] at h
  split at h
  · rename_i a ha
    cases h
    refine lv_aload hC.1 hC.2.1 d (ce_lk_at hl ha) ?_
    exact hS _ (List.mem_singleton.mpr rfl) ad ls H locs kc ks h1 h2 hl hI hv k1 k2
  · rename_i j ha
    split at h
    · rename_i hj
      cases h
      obtain ⟨a, hja⟩ := ce_ext hC.2.2.2.2.2.2.2.2.2 j (Nat.lt_of_succ_le (Nat.le_of_ble_eq_true hj))
      have hq := ce_lk_at hl ha
      have hva : ce_v z ad (.inr (.inr (.inl (.inr j)))) = .ref a := hja
      rw [hva] at hq
      refine lv_aload hC.1 hC.2.1 d hq ?_
      rw [← hva]
      exact hS _ (List.mem_singleton.mpr rfl) ad ls H locs kc ks h1 h2 hl hI hv k1 k2
    · cases h
  · rename_i ha
    cases h
    refine lv_aloadN hC.1 hC.2.1 d (ce_lk_at hl ha) ?_
    exact hS _ (List.mem_singleton.mpr rfl) ad ls H locs kc ks h1 h2 hl hI hv k1 k2
  · cases h
theorem ok_aload_n {k : Fin 4} {i : Nat} (d : decode cc pc = .ok (.aload_n k, 1)) (hi : (k : Nat) = i) : ce_OK own nm cc nL ret ht pc (ce_aload i (pc + 1)) := by
  intro z p l e R s m args below meth c Q ad0 n0 hC L G S h hS ad ls H locs kc ks h1 h2 hl hI hv k1 k2
  obtain ⟨lo, st⟩ := L
  simp only [ce_aload] at h
  split at h
  · rename_i a ha
    cases h
    refine lv_aload_n hC.1 hC.2.1 d hi (ce_lk_at hl ha) ?_
    exact hS _ (List.mem_singleton.mpr rfl) ad ls H locs kc ks h1 h2 hl hI hv k1 k2
  · rename_i j ha
    split at h
    · rename_i hj
      cases h
      obtain ⟨a, hja⟩ := ce_ext hC.2.2.2.2.2.2.2.2.2 j (Nat.lt_of_succ_le (Nat.le_of_ble_eq_true hj))
      have hq := ce_lk_at hl ha
      have hva : ce_v z ad (.inr (.inr (.inl (.inr j)))) = .ref a := hja
      rw [hva] at hq
      refine lv_aload_n hC.1 hC.2.1 d hi hq ?_
      rw [← hva]
      exact hS _ (List.mem_singleton.mpr rfl) ad ls H locs kc ks h1 h2 hl hI hv k1 k2
    · cases h
  · rename_i ha
    cases h
    refine lv_aload_nN hC.1 hC.2.1 d hi (ce_lk_at hl ha) ?_
    exact hS _ (List.mem_singleton.mpr rfl) ad ls H locs kc ks h1 h2 hl hI hv k1 k2
  · cases h
def ce_istore (i nx nL : Nat) : ce_P := fun L G => match L.2 with
  | .inl a :: r => match Nat.blt i nL with
    | true => some [(nx, (ce_st false i (.inl a) L.1, r), G)]
    | false => none
  | _ => none
def ce_lstore (i nx nL : Nat) : ce_P := fun L G => match L.2 with
  | .inr (.inl a) :: r => match Nat.blt (i + 1) nL with
    | true => some [(nx, (ce_st true i (.inr (.inl a)) L.1, r), G)]
    | false => none
  | _ => none
def ce_fstore (i nx nL : Nat) : ce_P := fun L G => match L.2 with
  | .inr (.inr (.inr (.float a))) :: r => match Nat.blt i nL with
    | true => some [(nx, (ce_st false i (.inr (.inr (.inr (.float a)))) L.1, r), G)]
    | false => none
  | _ => none
def ce_dstore (i nx nL : Nat) : ce_P := fun L G => match L.2 with
  | .inr (.inr (.inr (.double a))) :: r => match Nat.blt (i + 1) nL with
    | true => some [(nx, (ce_st true i (.inr (.inr (.inr (.double a)))) L.1, r), G)]
    | false => none
  | _ => none
def ce_astore (i nx nL : Nat) : ce_P := fun L G => match Nat.blt i nL with
  | true => match L.2 with
    | .inr (.inr (.inl (.inl k))) :: r => some [(nx, (ce_st false i (.inr (.inr (.inl (.inl k)))) L.1, r), G)]
    | .inr (.inr (.inl (.inr j))) :: r => match Nat.blt j 7 with
      | true => some [(nx, (ce_st false i (.inr (.inr (.inl (.inr j)))) L.1, r), G)]
      | false => none
    | .inr (.inr (.inr .null)) :: r => some [(nx, (ce_st false i (.inr (.inr (.inr .null))) L.1, r), G)]
    | _ => none
  | false => none
theorem ok_istore {i : Nat} (d : decode cc pc = .ok (.istore i, 2)) : ce_OK own nm cc nL ret ht pc (ce_istore i (pc + 2) nL) := by
  intro z p l e R s m args below meth c Q ad0 n0 hC L G S h hS ad ls H locs kc ks h1 h2 hl hI hv k1 k2
  obtain ⟨lo, st⟩ := L
  simp only [ce_istore] at h
  split at h
  · rename_i a r
    split at h
    · rename_i hn
      cases h
      refine lv_istore hC.1 hC.2.1 d hl (Nat.lt_of_succ_le (Nat.le_of_ble_eq_true hn)) rfl (fun ls' hl' => ?_)
      exact hS _ (List.mem_singleton.mpr rfl) ad ls' H locs kc ks h1 h2 (ce_has_sub hl' (ce_st_sub hC.2.2.2.2.2.2.2.2.2 fun q ⟨q1, q2, q3⟩ => ce_f1 q1 q3)) hI hv k1 k2
    · cases h
  · cases h
theorem ok_istore_n {k : Fin 4} {i : Nat} (d : decode cc pc = .ok (.istore_n k, 1)) (hi : (k : Nat) = i) : ce_OK own nm cc nL ret ht pc (ce_istore i (pc + 1) nL) := by
  intro z p l e R s m args below meth c Q ad0 n0 hC L G S h hS ad ls H locs kc ks h1 h2 hl hI hv k1 k2
  obtain ⟨lo, st⟩ := L
  simp only [ce_istore] at h
  split at h
  · rename_i a r
    split at h
    · rename_i hn
      cases h
      refine lv_istore_n hC.1 hC.2.1 d hi hl (Nat.lt_of_succ_le (Nat.le_of_ble_eq_true hn)) rfl (fun ls' hl' => ?_)
      exact hS _ (List.mem_singleton.mpr rfl) ad ls' H locs kc ks h1 h2 (ce_has_sub hl' (ce_st_sub hC.2.2.2.2.2.2.2.2.2 fun q ⟨q1, q2, q3⟩ => ce_f1 q1 q3)) hI hv k1 k2
    · cases h
  · cases h
theorem ok_lstore {i : Nat} (d : decode cc pc = .ok (.lstore i, 2)) : ce_OK own nm cc nL ret ht pc (ce_lstore i (pc + 2) nL) := by
  intro z p l e R s m args below meth c Q ad0 n0 hC L G S h hS ad ls H locs kc ks h1 h2 hl hI hv k1 k2
  obtain ⟨lo, st⟩ := L
  simp only [ce_lstore] at h
  split at h
  · rename_i a r
    split at h
    · rename_i hn
      cases h
      refine lv_lstore hC.1 hC.2.1 d hl (Nat.lt_of_succ_le (Nat.le_of_ble_eq_true hn)) rfl (fun ls' hl' => ?_)
      exact hS _ (List.mem_singleton.mpr rfl) ad ls' H locs kc ks h1 h2 (ce_has_sub hl' (ce_st_sub hC.2.2.2.2.2.2.2.2.2 fun q ⟨q1, q2, q3⟩ => ce_f2 q1 (q2 rfl) q3)) hI hv k1 k2
    · cases h
  · cases h
theorem ok_lstore_n {k : Fin 4} {i : Nat} (d : decode cc pc = .ok (.lstore_n k, 1)) (hi : (k : Nat) = i) : ce_OK own nm cc nL ret ht pc (ce_lstore i (pc + 1) nL) := by
  intro z p l e R s m args below meth c Q ad0 n0 hC L G S h hS ad ls H locs kc ks h1 h2 hl hI hv k1 k2
  obtain ⟨lo, st⟩ := L
  simp only [ce_lstore] at h
  split at h
  · rename_i a r
    split at h
    · rename_i hn
      cases h
      refine lv_lstore_n hC.1 hC.2.1 d hi hl (Nat.lt_of_succ_le (Nat.le_of_ble_eq_true hn)) rfl (fun ls' hl' => ?_)
      exact hS _ (List.mem_singleton.mpr rfl) ad ls' H locs kc ks h1 h2 (ce_has_sub hl' (ce_st_sub hC.2.2.2.2.2.2.2.2.2 fun q ⟨q1, q2, q3⟩ => ce_f2 q1 (q2 rfl) q3)) hI hv k1 k2
    · cases h
  · cases h
theorem ok_astore {i : Nat} (d : decode cc pc = .ok (.astore i, 2)) : ce_OK own nm cc nL ret ht pc (ce_astore i (pc + 2) nL) := by
  intro z p l e R s m args below meth c Q ad0 n0 hC L G S h hS ad ls H locs kc ks h1 h2 hl hI hv k1 k2
  obtain ⟨lo, st⟩ := L
  simp only [ce_astore] at h
  split at h
  · rename_i hn
    split at h
    · cases h
      refine lv_astore hC.1 hC.2.1 d hl (Nat.lt_of_succ_le (Nat.le_of_ble_eq_true hn)) rfl (fun ls' hl' => ?_)
      exact hS _ (List.mem_singleton.mpr rfl) ad ls' H locs kc ks h1 h2 (ce_has_sub hl' (ce_st_sub hC.2.2.2.2.2.2.2.2.2 fun q ⟨q1, q2, q3⟩ => ce_f1 q1 q3)) hI hv k1 k2
    · rename_i j r
      split at h
      · rename_i hj
        cases h
        obtain ⟨a, hja⟩ := ce_ext hC.2.2.2.2.2.2.2.2.2 j (Nat.lt_of_succ_le (Nat.le_of_ble_eq_true hj))
        have hva : ce_v z ad (.inr (.inr (.inl (.inr j)))) = .ref a := hja
        rw [List.map_cons, hva]
        refine lv_astore hC.1 hC.2.1 d hl (Nat.lt_of_succ_le (Nat.le_of_ble_eq_true hn)) rfl (fun ls' hl' => ?_)
        rw [← hva] at hl'
        exact hS _ (List.mem_singleton.mpr rfl) ad ls' H locs kc ks h1 h2 (ce_has_sub hl' (ce_st_sub hC.2.2.2.2.2.2.2.2.2 fun q ⟨q1, q2, q3⟩ => ce_f1 q1 q3)) hI hv k1 k2
      · cases h
    · cases h
      refine lv_astoreN hC.1 hC.2.1 d hl (Nat.lt_of_succ_le (Nat.le_of_ble_eq_true hn)) rfl (fun ls' hl' => ?_)
      exact hS _ (List.mem_singleton.mpr rfl) ad ls' H locs kc ks h1 h2 (ce_has_sub hl' (ce_st_sub hC.2.2.2.2.2.2.2.2.2 fun q ⟨q1, q2, q3⟩ => ce_f1 q1 q3)) hI hv k1 k2
    · cases h
  · cases h
theorem ok_astore_n {k : Fin 4} {i : Nat} (d : decode cc pc = .ok (.astore_n k, 1)) (hi : (k : Nat) = i) : ce_OK own nm cc nL ret ht pc (ce_astore i (pc + 1) nL) := by
  intro z p l e R s m args below meth c Q ad0 n0 hC L G S h hS ad ls H locs kc ks h1 h2 hl hI hv k1 k2
  obtain ⟨lo, st⟩ := L
  simp only [ce_astore] at h
  split at h
  · rename_i hn
    split at h
    · cases h
      refine lv_astore_n hC.1 hC.2.1 d hi hl (Nat.lt_of_succ_le (Nat.le_of_ble_eq_true hn)) rfl (fun ls' hl' => ?_)
      exact hS _ (List.mem_singleton.mpr rfl) ad ls' H locs kc ks h1 h2 (ce_has_sub hl' (ce_st_sub hC.2.2.2.2.2.2.2.2.2 fun q ⟨q1, q2, q3⟩ => ce_f1 q1 q3)) hI hv k1 k2
    · rename_i j r
      split at h
      · rename_i hj
        cases h
        obtain ⟨a, hja⟩ := ce_ext hC.2.2.2.2.2.2.2.2.2 j (Nat.lt_of_succ_le (Nat.le_of_ble_eq_true hj))
        have hva : ce_v z ad (.inr (.inr (.inl (.inr j)))) = .ref a := hja
        rw [List.map_cons, hva]
        refine lv_astore_n hC.1 hC.2.1 d hi hl (Nat.lt_of_succ_le (Nat.le_of_ble_eq_true hn)) rfl (fun ls' hl' => ?_)
        rw [← hva] at hl'
        exact hS _ (List.mem_singleton.mpr rfl) ad ls' H locs kc ks h1 h2 (ce_has_sub hl' (ce_st_sub hC.2.2.2.2.2.2.2.2.2 fun q ⟨q1, q2, q3⟩ => ce_f1 q1 q3)) hI hv k1 k2
      · cases h
    · cases h
      refine lv_astore_nN hC.1 hC.2.1 d hi hl (Nat.lt_of_succ_le (Nat.le_of_ble_eq_true hn)) rfl (fun ls' hl' => ?_)
      exact hS _ (List.mem_singleton.mpr rfl) ad ls' H locs kc ks h1 h2 (ce_has_sub hl' (ce_st_sub hC.2.2.2.2.2.2.2.2.2 fun q ⟨q1, q2, q3⟩ => ce_f1 q1 q3)) hI hv k1 k2
    · cases h
  · cases h
theorem ok_fstore {i : Nat} (d : decode cc pc = .ok (.fstore i, 2)) : ce_OK own nm cc nL ret ht pc (ce_fstore i (pc + 2) nL) := by
  intro z p l e R s m args below meth c Q ad0 n0 hC L G S h hS ad ls H locs kc ks h1 h2 hl hI hv k1 k2
  obtain ⟨lo, st⟩ := L
  simp only [ce_fstore] at h
  split at h
  · rename_i a r
    split at h
    · rename_i hn
      cases h
      refine lv_fstore hC.1 hC.2.1 d hl (Nat.lt_of_succ_le (Nat.le_of_ble_eq_true hn)) rfl (fun ls' hl' => ?_)
      exact hS _ (List.mem_singleton.mpr rfl) ad ls' H locs kc ks h1 h2 (ce_has_sub hl' (ce_st_sub hC.2.2.2.2.2.2.2.2.2 fun q ⟨q1, q2, q3⟩ => ce_f1 q1 q3)) hI hv k1 k2
    · cases h
  · cases h
theorem ok_dstore {i : Nat} (d : decode cc pc = .ok (.dstore i, 2)) : ce_OK own nm cc nL ret ht pc (ce_dstore i (pc + 2) nL) := by
  intro z p l e R s m args below meth c Q ad0 n0 hC L G S h hS ad ls H locs kc ks h1 h2 hl hI hv k1 k2
  obtain ⟨lo, st⟩ := L
  simp only [ce_dstore] at h
  split at h
  · rename_i a r
    split at h
    · rename_i hn
      cases h
      refine lv_dstore hC.1 hC.2.1 d hl (Nat.lt_of_succ_le (Nat.le_of_ble_eq_true hn)) rfl (fun ls' hl' => ?_)
      exact hS _ (List.mem_singleton.mpr rfl) ad ls' H locs kc ks h1 h2 (ce_has_sub hl' (ce_st_sub hC.2.2.2.2.2.2.2.2.2 fun q ⟨q1, q2, q3⟩ => ce_f2 q1 (q2 rfl) q3)) hI hv k1 k2
    · cases h
  · cases h
def ce_dup (nx : Nat) : ce_P := fun L G => match L.2 with
  | a :: r => match ce_c2 a with
    | false => some [(nx, (L.1, a :: a :: r), G)]
    | true => none
  | _ => none
def ce_pop (nx : Nat) : ce_P := fun L G => match L.2 with
  | a :: r => match ce_c2 a with
    | false => some [(nx, (L.1, r), G)]
    | true => none
  | _ => none
def ce_dup_x1 (nx : Nat) : ce_P := fun L G => match L.2 with
  | a :: b :: r => match ce_c2 a, ce_c2 b with
    | false, false => some [(nx, (L.1, a :: b :: a :: r), G)]
    | _, _ => none
  | _ => none
theorem ok_dup (d : decode cc pc = .ok (.dup, 1)) : ce_OK own nm cc nL ret ht pc (ce_dup (pc + 1)) := by
  intro z p l e R s m args below meth c Q ad0 n0 hC L G S h hS ad ls H locs kc ks h1 h2 hl hI hv k1 k2
  obtain ⟨lo, st⟩ := L
  simp only [ce_dup] at h
  split at h
  · rename_i a r
    split at h
    · rename_i hc
      cases h
      refine lv_dup hC.1 hC.2.1 d (ce_cat hC.2.2.2.2.2.2.2.2.2 hc) ?_
      exact hS _ (List.mem_singleton.mpr rfl) ad ls H locs kc ks h1 h2 hl hI hv k1 k2
    · cases h
  · cases h
theorem ok_pop (d : decode cc pc = .ok (.pop, 1)) : ce_OK own nm cc nL ret ht pc (ce_pop (pc + 1)) := by
  intro z p l e R s m args below meth c Q ad0 n0 hC L G S h hS ad ls H locs kc ks h1 h2 hl hI hv k1 k2
  obtain ⟨lo, st⟩ := L
  simp only [ce_pop] at h
  split at h
  · rename_i a r
    split at h
    · rename_i hc
      cases h
      refine lv_pop hC.1 hC.2.1 d (ce_cat hC.2.2.2.2.2.2.2.2.2 hc) ?_
      exact hS _ (List.mem_singleton.mpr rfl) ad ls H locs kc ks h1 h2 hl hI hv k1 k2
    · cases h
  · cases h
theorem ok_dup_x1 (d : decode cc pc = .ok (.dup_x1, 1)) : ce_OK own nm cc nL ret ht pc (ce_dup_x1 (pc + 1)) := by
  intro z p l e R s m args below meth c Q ad0 n0 hC L G S h hS ad ls H locs kc ks h1 h2 hl hI hv k1 k2
  obtain ⟨lo, st⟩ := L
  simp only [ce_dup_x1] at h
  split at h
  · rename_i a b r
    split at h
    · rename_i hc hc2
      cases h
      refine lv_dup_x1 hC.1 hC.2.1 d (ce_cat hC.2.2.2.2.2.2.2.2.2 hc) (ce_cat hC.2.2.2.2.2.2.2.2.2 hc2) ?_
      exact hS _ (List.mem_singleton.mpr rfl) ad ls H locs kc ks h1 h2 hl hI hv k1 k2
    · cases h
  · cases h
def ce_tm : ce_SI → Term
  | .inl n => .int (Int32.ofInt n)
  | .inr t => t
theorem ce_tm_ok {z : ce_U} (a : ce_SI) : ce_I z (ce_tm a) = ce_vi z a := by cases a <;> rfl
def ce_tl : ce_SI → Term
  | .inl n => .long (Int64.ofInt n)
  | .inr t => t
theorem ce_tl_ok {z : ce_U} (a : ce_SI) : ce_Lg z (ce_tl a) = ce_vl z a := by cases a <;> rfl
def ce_add : ce_SI → ce_SI → ce_SI
  | .inl x, .inl y => .inl (x + y)
  | .inl x, .inr t => match decide (x = 0) with
    | true => .inr t
    | false => .inr (.add (.int (Int32.ofInt x)) t)
  | a, b => .inr (.add (ce_tm a) (ce_tm b))
theorem ce_add_ok {z : ce_U} (a b : ce_SI) : ce_vi z (ce_add a b) = ce_vi z a + ce_vi z b := by
  match a, b with
  | .inl x, .inl y => simp [ce_add, ce_vi, Int32.ofInt_add]
  | .inl x, .inr t =>
    simp only [ce_add]
    split
    · rename_i h
      rw [of_decide_eq_true h]
      simp [ce_vi]
    · rfl
  | .inr t, b => simp only [ce_add, ce_vi, ce_I, ce_tm_ok]
def ce_sub : ce_SI → ce_SI → ce_SI
  | .inl x, .inl y => .inl (x - y)
  | a, b => .inr (.sub (ce_tm a) (ce_tm b))
theorem ce_sub_ok {z : ce_U} (a b : ce_SI) : ce_vi z (ce_sub a b) = ce_vi z a - ce_vi z b := by
  match a, b with
  | .inl x, .inl y => simp [ce_sub, ce_vi, Int32.ofInt_sub]
  | .inl x, .inr t => simp only [ce_sub, ce_vi, ce_I, ce_tm_ok]
  | .inr t, b => simp only [ce_sub, ce_vi, ce_I, ce_tm_ok]
def ce_addo (a b : ce_SI) : Option ce_SI := some (ce_add a b)
def ce_subo (a b : ce_SI) : Option ce_SI := some (ce_sub a b)
def ce_bin (f : ce_SI → ce_SI → Option ce_SI) (nx : Nat) : ce_P := fun L G => match L.2 with
  | .inl b :: .inl a :: r => match f a b with
    | some v => some [(nx, (L.1, .inl v :: r), G)]
    | none => none
  | _ => none
def ce_binL (f : ce_SI → ce_SI → ce_SI) (nx : Nat) : ce_P := fun L G => match L.2 with
  | .inr (.inl b) :: .inr (.inl a) :: r => some [(nx, (L.1, .inr (.inl (f a b)) :: r), G)]
  | _ => none
/-- numbers written out, by the machine's own counting -/
def ce_num (f : Int32 → Int32 → Int32) (a b : ce_SI) : Option ce_SI := match a, b with
  | .inl x, .inl y => some (.inl (f (Int32.ofInt x) (Int32.ofInt y)).toInt)
  | _, _ => none
theorem ce_num_ok {z : ce_U} {f : Int32 → Int32 → Int32} {a b v : ce_SI} (h : ce_num f a b = some v) : ce_vi z v = f (ce_vi z a) (ce_vi z b) := by
  match a, b, h with
  | .inl x, .inl y, h =>
    simp only [ce_num, Option.some.injEq] at h
    subst h
    simp [ce_vi]
  | .inl _, .inr _, h => simp [ce_num] at h
  | .inr _, _, h => simp [ce_num] at h
/-- a number told by the script, shifted down -/
def ce_shr (a b : ce_SI) : Option ce_SI := match a, b with
  | .inl x, .inl y => ce_num (fun x y => x >>> (y &&& 31)) (.inl x) (.inl y)
  | .inr t, b => some (.inr (.div t (ce_tm b)))
  | _, _ => none
theorem ce_shr_ok {z : ce_U} {a b v : ce_SI} (h : ce_shr a b = some v) : ce_vi z v = ce_vi z a >>> (ce_vi z b &&& 31) := by
  match a, b, h with
  | .inl x, .inl y, h => exact ce_num_ok (f := fun x y => x >>> (y &&& 31)) h
  | .inr t, b, h =>
    simp only [ce_shr, Option.some.injEq] at h
    subst h
    simp only [ce_vi, ce_I, ce_tm_ok]
  | .inl _, .inr _, h => simp [ce_shr] at h
def ce_and (a b : ce_SI) : Option ce_SI := match a, b with
  | .inl x, .inl y => ce_num (fun x y => x &&& y) (.inl x) (.inl y)
  | .inr t, .inl y => match decide (y = 63) with
    | true => some (.inr (.sum t))
    | false => none
  | _, _ => none
theorem ce_and_ok {z : ce_U} {a b v : ce_SI} (h : ce_and a b = some v) : ce_vi z v = ce_vi z a &&& ce_vi z b := by
  match a, b, h with
  | .inl x, .inl y, h => exact ce_num_ok (f := fun x y => x &&& y) h
  | .inr t, .inl y, h =>
    simp only [ce_and] at h
    split at h
    · rename_i hy
      cases h
      rw [of_decide_eq_true hy]
      rfl
    · cases h
  | .inl _, .inr _, h => simp [ce_and] at h
  | .inr _, .inr _, h => simp [ce_and] at h
theorem ok_iadd (d : decode cc pc = .ok (.iadd, 1)) : ce_OK own nm cc nL ret ht pc (ce_bin ce_addo (pc + 1)) := by
  intro z p l e R s m args below meth c Q ad0 n0 hC L G S h hS ad ls H locs kc ks h1 h2 hl hI hv k1 k2
  obtain ⟨lo, st⟩ := L
  simp only [ce_bin] at h
  split at h
  · rename_i b a r
    split at h
    · rename_i v hv8
      cases h
      refine lv_iadd hC.1 hC.2.1 d ?_
      have hq := (by rw [← Option.some.inj (show some (ce_add a b) = some v from hv8)]; exact ce_add_ok a b : ce_vi z v = ce_vi z a + ce_vi z b)
      rw [← hq]
      exact hS _ (List.mem_singleton.mpr rfl) ad ls H locs kc ks h1 h2 hl hI hv k1 k2
    · cases h
  · cases h
theorem ok_isub (d : decode cc pc = .ok (.isub, 1)) : ce_OK own nm cc nL ret ht pc (ce_bin ce_subo (pc + 1)) := by
  intro z p l e R s m args below meth c Q ad0 n0 hC L G S h hS ad ls H locs kc ks h1 h2 hl hI hv k1 k2
  obtain ⟨lo, st⟩ := L
  simp only [ce_bin] at h
  split at h
  · rename_i b a r
    split at h
    · rename_i v hv8
      cases h
      refine lv_isub hC.1 hC.2.1 d ?_
      have hq := (by rw [← Option.some.inj (show some (ce_sub a b) = some v from hv8)]; exact ce_sub_ok a b : ce_vi z v = ce_vi z a - ce_vi z b)
      rw [← hq]
      exact hS _ (List.mem_singleton.mpr rfl) ad ls H locs kc ks h1 h2 hl hI hv k1 k2
    · cases h
  · cases h
theorem ok_ior (d : decode cc pc = .ok (.ior, 1)) : ce_OK own nm cc nL ret ht pc (ce_bin (ce_num fun x y => x ||| y) (pc + 1)) := by
  intro z p l e R s m args below meth c Q ad0 n0 hC L G S h hS ad ls H locs kc ks h1 h2 hl hI hv k1 k2
  obtain ⟨lo, st⟩ := L
  simp only [ce_bin] at h
  split at h
  · rename_i b a r
    split at h
    · rename_i v hv8
      cases h
      refine lv_ior hC.1 hC.2.1 d ?_
      have hq := (ce_num_ok hv8 : ce_vi z v = ce_vi z a ||| ce_vi z b)
      rw [← hq]
      exact hS _ (List.mem_singleton.mpr rfl) ad ls H locs kc ks h1 h2 hl hI hv k1 k2
    · cases h
  · cases h
theorem ok_ishl (d : decode cc pc = .ok (.ishl, 1)) : ce_OK own nm cc nL ret ht pc (ce_bin (ce_num fun x y => x <<< (y &&& 31)) (pc + 1)) := by
  intro z p l e R s m args below meth c Q ad0 n0 hC L G S h hS ad ls H locs kc ks h1 h2 hl hI hv k1 k2
  obtain ⟨lo, st⟩ := L
  simp only [ce_bin] at h
  split at h
  · rename_i b a r
    split at h
    · rename_i v hv8
      cases h
      refine lv_ishl hC.1 hC.2.1 d ?_
      have hq := (ce_num_ok hv8 : ce_vi z v = ce_vi z a <<< (ce_vi z b &&& 31))
      rw [← hq]
      exact hS _ (List.mem_singleton.mpr rfl) ad ls H locs kc ks h1 h2 hl hI hv k1 k2
    · cases h
  · cases h
theorem ok_ishr (d : decode cc pc = .ok (.ishr, 1)) : ce_OK own nm cc nL ret ht pc (ce_bin ce_shr (pc + 1)) := by
  intro z p l e R s m args below meth c Q ad0 n0 hC L G S h hS ad ls H locs kc ks h1 h2 hl hI hv k1 k2
  obtain ⟨lo, st⟩ := L
  simp only [ce_bin] at h
  split at h
  · rename_i b a r
    split at h
    · rename_i v hv8
      cases h
      refine lv_ishr hC.1 hC.2.1 d ?_
      have hq := (ce_shr_ok hv8 : ce_vi z v = ce_vi z a >>> (ce_vi z b &&& 31))
      rw [← hq]
      exact hS _ (List.mem_singleton.mpr rfl) ad ls H locs kc ks h1 h2 hl hI hv k1 k2
    · cases h
  · cases h
theorem ok_iand (d : decode cc pc = .ok (.iand, 1)) : ce_OK own nm cc nL ret ht pc (ce_bin ce_and (pc + 1)) := by
  intro z p l e R s m args below meth c Q ad0 n0 hC L G S h hS ad ls H locs kc ks h1 h2 hl hI hv k1 k2
  obtain ⟨lo, st⟩ := L
  simp only [ce_bin] at h
  split at h
  · rename_i b a r
    split at h
    · rename_i v hv8
      cases h
      refine lv_iand hC.1 hC.2.1 d ?_
      have hq := (ce_and_ok hv8 : ce_vi z v = ce_vi z a &&& ce_vi z b)
      rw [← hq]
      exact hS _ (List.mem_singleton.mpr rfl) ad ls H locs kc ks h1 h2 hl hI hv k1 k2
    · cases h
  · cases h
def ce_ladd : ce_SI → ce_SI → ce_SI
  | .inl x, .inl y => .inl (x + y)
  | a, b => .inr (.add (ce_tl a) (ce_tl b))
theorem ce_ladd_ok {z : ce_U} (a b : ce_SI) : ce_vl z (ce_ladd a b) = ce_vl z a + ce_vl z b := by
  match a, b with
  | .inl x, .inl y => simp [ce_ladd, ce_vl, Int64.ofInt_add]
  | .inl x, .inr t => simp only [ce_ladd, ce_vl, ce_Lg, ce_tl_ok]
  | .inr t, b => simp only [ce_ladd, ce_vl, ce_Lg, ce_tl_ok]
def ce_lmul : ce_SI → ce_SI → ce_SI
  | .inl x, .inl y => .inl (x * y)
  | a, b => .inr (.mul (ce_tl a) (ce_tl b))
theorem ce_lmul_ok {z : ce_U} (a b : ce_SI) : ce_vl z (ce_lmul a b) = ce_vl z a * ce_vl z b := by
  match a, b with
  | .inl x, .inl y => simp [ce_lmul, ce_vl, Int64.ofInt_mul]
  | .inl x, .inr t => simp only [ce_lmul, ce_vl, ce_Lg, ce_tl_ok]
  | .inr t, b => simp only [ce_lmul, ce_vl, ce_Lg, ce_tl_ok]
theorem ok_ladd (d : decode cc pc = .ok (.ladd, 1)) : ce_OK own nm cc nL ret ht pc (ce_binL ce_ladd (pc + 1)) := by
  intro z p l e R s m args below meth c Q ad0 n0 hC L G S h hS ad ls H locs kc ks h1 h2 hl hI hv k1 k2
  obtain ⟨lo, st⟩ := L
  simp only [ce_binL] at h
  split at h
  · rename_i b a r
    cases h
    refine lv_ladd hC.1 hC.2.1 d ?_
    have hq := ce_ladd_ok (z := z) a b
    rw [← hq]
    exact hS _ (List.mem_singleton.mpr rfl) ad ls H locs kc ks h1 h2 hl hI hv k1 k2
  · cases h
theorem ok_lmul (d : decode cc pc = .ok (.lmul, 1)) : ce_OK own nm cc nL ret ht pc (ce_binL ce_lmul (pc + 1)) := by
  intro z p l e R s m args below meth c Q ad0 n0 hC L G S h hS ad ls H locs kc ks h1 h2 hl hI hv k1 k2
  obtain ⟨lo, st⟩ := L
  simp only [ce_binL] at h
  split at h
  · rename_i b a r
    cases h
    refine lv_lmul hC.1 hC.2.1 d ?_
    have hq := ce_lmul_ok (z := z) a b
    rw [← hq]
    exact hS _ (List.mem_singleton.mpr rfl) ad ls H locs kc ks h1 h2 hl hI hv k1 k2
  · cases h
/-- a number that the script tells, as a char: its bounds are facts -/
def ce_i2c (nx : Nat) : ce_P := fun L G => match L.2 with
  | .inl (.inl x) :: r => match decide (0 ≤ x) && decide (x ≤ 65535) with
    | true => some [(nx, (L.1, .inl (.inl x) :: r), G)]
    | false => none
  | .inl (.inr t) :: r => some [(nx, (L.1, .inl (.inr (.length t)) :: r), ((.length t, 0, 0) :: (.length t, 1, 65535) :: G.1, G.2))]
  | _ => none
def ce_i2b (nx : Nat) : ce_P := fun L G => match L.2 with
  | .inl (.inl x) :: r => some [(nx, (L.1, .inl (.inl (Int32.ofInt x).toInt8.toInt32.toInt) :: r), G)]
  | .inl (.inr t) :: r => some [(nx, (L.1, .inl (.inr (.old t)) :: r), G)]
  | _ => none
def ce_i2l (nx : Nat) : ce_P := fun L G => match L.2 with
  | .inl (.inl x) :: r => match ce_r x with
    | true => some [(nx, (L.1, .inr (.inl (.inl x)) :: r), G)]
    | false => none
  | .inl (.inr t) :: r => some [(nx, (L.1, .inr (.inl (.inr (.old t))) :: r), G)]
  | _ => none
theorem ce_char (x : Int32) : 0 ≤ ((x.toUInt32 % 65536).toInt32).toInt ∧ ((x.toUInt32 % 65536).toInt32).toInt ≤ 65535 := by
  rw [pk_char, nI_toInt (by omega)]
  omega
theorem ce_char_id {x : Int} (h0 : 0 ≤ x) (h1 : x ≤ 65535) : ((Int32.ofInt x).toUInt32 % 65536).toInt32 = Int32.ofInt x := by
  obtain ⟨n, rfl⟩ := Int.eq_ofNat_of_zero_le h0
  rw [pk_char]
  show nI ((Int32.ofNat n).toBitVec.toNat % 65536) = Int32.ofNat n
  rw [show (Int32.ofNat n).toBitVec.toNat = n from pk_tn (by omega), Nat.mod_eq_of_lt (by omega)]
  rfl
theorem ok_i2c (d : decode cc pc = .ok (.i2c, 1)) : ce_OK own nm cc nL ret ht pc (ce_i2c (pc + 1)) := by
  intro z p l e R s m args below meth c Q ad0 n0 hC L G S h hS ad ls H locs kc ks h1 h2 hl hI hv k1 k2
  obtain ⟨lo, st⟩ := L
  simp only [ce_i2c] at h
  split at h
  · rename_i x r
    split at h
    · rename_i hx
      simp only [Bool.and_eq_true, decide_eq_true_eq] at hx
      cases h
      refine lv_i2c hC.1 hC.2.1 d (ce_char_id hx.1 hx.2) ?_
      exact hS _ (List.mem_singleton.mpr rfl) ad ls H locs kc ks h1 h2 hl hI hv k1 k2
    · cases h
  · rename_i t r
    cases h
    refine lv_i2c hC.1 hC.2.1 d rfl ?_
    have hq := ce_char (ce_I z t)
    exact hS _ (List.mem_singleton.mpr rfl) ad ls H locs kc ks h1 h2 hl ⟨hI.1, hI.2.1, hI.2.2.1, ce_sat_cons (ce_fa0 hq.1) (ce_sat_cons (ce_fa1 hq.2) hI.2.2.2)⟩ hv k1 k2
  · cases h
theorem ok_i2b (d : decode cc pc = .ok (.i2b, 1)) : ce_OK own nm cc nL ret ht pc (ce_i2b (pc + 1)) := by
  intro z p l e R s m args below meth c Q ad0 n0 hC L G S h hS ad ls H locs kc ks h1 h2 hl hI hv k1 k2
  obtain ⟨lo, st⟩ := L
  simp only [ce_i2b] at h
  split at h
  · rename_i x r
    cases h
    refine lv_i2b hC.1 hC.2.1 d (v := ce_vi z (.inl (Int32.ofInt x).toInt8.toInt32.toInt)) (by show (Int32.ofInt x).toInt8.toInt32 = Int32.ofInt (Int32.ofInt x).toInt8.toInt32.toInt; rw [Int32.ofInt_toInt]) ?_
    exact hS _ (List.mem_singleton.mpr rfl) ad ls H locs kc ks h1 h2 hl hI hv k1 k2
  · rename_i t r
    cases h
    refine lv_i2b hC.1 hC.2.1 d rfl ?_
    exact hS _ (List.mem_singleton.mpr rfl) ad ls H locs kc ks h1 h2 hl hI hv k1 k2
  · cases h
theorem ok_i2l (d : decode cc pc = .ok (.i2l, 1)) : ce_OK own nm cc nL ret ht pc (ce_i2l (pc + 1)) := by
  intro z p l e R s m args below meth c Q ad0 n0 hC L G S h hS ad ls H locs kc ks h1 h2 hl hI hv k1 k2
  obtain ⟨lo, st⟩ := L
  simp only [ce_i2l] at h
  split at h
  · rename_i x r
    split at h
    · rename_i hx
      cases h
      refine lv_i2l hC.1 hC.2.1 d (v := ce_vl z (.inl x)) ?_ ?_
      · show (Int32.ofInt x).toInt64 = Int64.ofInt x
        rw [← Int64.ofInt_int32ToInt, ce_rt hx]
      · exact hS _ (List.mem_singleton.mpr rfl) ad ls H locs kc ks h1 h2 hl hI hv k1 k2
    · cases h
  · rename_i t r
    cases h
    refine lv_i2l hC.1 hC.2.1 d rfl ?_
    exact hS _ (List.mem_singleton.mpr rfl) ad ls H locs kc ks h1 h2 hl hI hv k1 k2
  · cases h
def ce_lr (n : Int) : Bool := decide (-9223372036854775808 ≤ n) && decide (n ≤ 9223372036854775807)
def ce_lcmp (nx : Nat) : ce_P := fun L G => match L.2 with
  | .inr (.inl (.inl y)) :: .inr (.inl (.inl x)) :: r => match ce_lr x && ce_lr y with
    | true => some [(nx, (L.1, .inl (.inl (if y < x then 1 else if x = y then 0 else -1)) :: r), G)]
    | false => none
  | .inr (.inl (.inr y)) :: .inr (.inl (.inr x)) :: r => match decide (x = y) with
    | true => some [(nx, (L.1, .inl (.inl 0) :: r), G)]
    | false => none
  | _ => none
theorem ce_lrt {n : Int} (h : ce_lr n = true) : (Int64.ofInt n).toInt = n := by
  simp only [ce_lr, Bool.and_eq_true, decide_eq_true_eq] at h
  exact Int64.toInt_ofInt_of_le (by omega) (by omega)
theorem ok_lcmp (d : decode cc pc = .ok (.lcmp, 1)) : ce_OK own nm cc nL ret ht pc (ce_lcmp (pc + 1)) := by
  intro z p l e R s m args below meth c Q ad0 n0 hC L G S h hS ad ls H locs kc ks h1 h2 hl hI hv k1 k2
  obtain ⟨lo, st⟩ := L
  simp only [ce_lcmp] at h
  split at h
  · rename_i y x r
    split at h
    · rename_i hx
      simp only [Bool.and_eq_true] at hx
      cases h
      refine W.lcmp hC.1 hC.2.1 d ?_
      have hq : lg_cmp (ce_vl z (.inl x)) (ce_vl z (.inl y)) = ce_vi z (.inl (if y < x then 1 else if x = y then 0 else -1)) := by
        have e1 : (Int64.ofInt x > Int64.ofInt y) ↔ y < x := by rw [gt_iff_lt, Int64.lt_iff_toInt_lt, ce_lrt hx.1, ce_lrt hx.2]
        have e2 : (Int64.ofInt x = Int64.ofInt y) ↔ x = y := by rw [← Int64.toInt_inj, ce_lrt hx.1, ce_lrt hx.2]
        simp only [lg_cmp, ce_vl, ce_vi, e1, e2]
        split
        · rfl
        · split <;> rfl
      show W _ _ _ _ _ _ _ _ _ _ _ _ _ _ _ (F0 m (pc + 1) ls (.int (lg_cmp (ce_vl z (.inl x)) (ce_vl z (.inl y))) :: r.map (ce_v z ad)))
      rw [hq]
      exact hS _ (List.mem_singleton.mpr rfl) ad ls H locs kc ks h1 h2 hl hI hv k1 k2
    · cases h
  · rename_i y x r
    split at h
    · rename_i hx
      cases h
      refine W.lcmp hC.1 hC.2.1 d ?_
      have hq : lg_cmp (ce_vl z (.inr x)) (ce_vl z (.inr y)) = ce_vi z (.inl 0) := by
        rw [of_decide_eq_true hx]
        simp [lg_cmp, ce_vi]
      show W _ _ _ _ _ _ _ _ _ _ _ _ _ _ _ (F0 m (pc + 1) ls (.int (lg_cmp (ce_vl z (.inr x)) (ce_vl z (.inr y))) :: r.map (ce_v z ad)))
      rw [hq]
      exact hS _ (List.mem_singleton.mpr rfl) ad ls H locs kc ks h1 h2 hl hI hv k1 k2
    · cases h
  · cases h
def ce_iinc (i : Nat) (n : Int) (nx nL : Nat) : ce_P := fun L G => match ce_lk L.1 i with
  | some (.inl a) => match Nat.blt i nL with
    | true => some [(nx, (ce_st false i (.inl (ce_add a (.inl n))) L.1, L.2), G)]
    | false => none
  | _ => none
theorem ok_iinc {i : Nat} {n : Int} (d : decode cc pc = .ok (.iinc i n, 3)) : ce_OK own nm cc nL ret ht pc (ce_iinc i n (pc + 3) nL) := by
  intro z p l e R s m args below meth c Q ad0 n0 hC L G S h hS ad ls H locs kc ks h1 h2 hl hI hv k1 k2
  obtain ⟨lo, st⟩ := L
  simp only [ce_iinc] at h
  split at h
  · rename_i a ha
    split at h
    · rename_i hn
      cases h
      obtain ⟨k, hk⟩ := List.getElem?_of_mem (List.mem_map.mpr ⟨(i, .inl a), ce_lk_mem ha, rfl⟩ : (i, ce_v z ad (.inl a)) ∈ lo.map fun q => (q.1, ce_v z ad q.2))
      refine lv_iinc hC.1 hC.2.1 d hl (k := k) hk (v := ce_vi z (ce_add a (.inl n))) (ce_add_ok a (.inl n)).symm (Nat.lt_of_succ_le (Nat.le_of_ble_eq_true hn)) rfl (fun ls' hl' => ?_)
      exact hS _ (List.mem_singleton.mpr rfl) ad ls' H locs kc ks h1 h2 (ce_has_sub hl' (ce_st_sub hC.2.2.2.2.2.2.2.2.2 fun q ⟨q1, q2, q3⟩ => ce_f1 q1 q3)) hI hv k1 k2
    · cases h
  · cases h
def ce_goto (nx : Nat) : ce_P := fun L G => some [(nx, L, G)]
theorem ok_goto {off : Int} {tgt : Nat} (d : decode cc pc = .ok (.goto off, 3)) (htg : (pc : Int) + off = (tgt : Int)) : ce_OK own nm cc nL ret ht pc (ce_goto tgt) := by
  intro z p l e R s m args below meth c Q ad0 n0 hC L G S h hS ad ls H locs kc ks h1 h2 hl hI hv k1 k2
  obtain ⟨lo, st⟩ := L
  cases h
  refine lv_goto hC.1 hC.2.1 d htg ?_
  exact hS _ (List.mem_singleton.mpr rfl) ad ls H locs kc ks h1 h2 hl hI hv k1 k2
/-- q: is it =, or <; sw: the other way round; ng: not -/
def ce_jump (q ng : Bool) (a b : ce_SI) (tgt nx : Nat) (L : ce_L) (G : ce_G) : Option (List (Nat × ce_L × ce_G)) := match ce_br G.1 q a b with
  | some S => some (S.map fun x => (if x.1 == ng then nx else tgt, L, (x.2, G.2)))
  | none => none
theorem ce_jump_ok {z : ce_U} {q ng : Bool} {a b : ce_SI} {tgt nx : Nat} {L : ce_L} {G : ce_G} {S : List (Nat × ce_L × ce_G)} (h : ce_jump q ng a b tgt nx L G = some S) (hF : ce_sat z G.1) :
    ∃ x ∈ S, x.2.1 = L ∧ x.2.2.2 = G.2 ∧ ce_sat z x.2.2.1 ∧ (ce_pr z q a b → x.1 = if ng then nx else tgt) ∧ (¬ ce_pr z q a b → x.1 = if ng then tgt else nx) := by
  unfold ce_jump at h
  split at h
  · rename_i S0 h0
    cases h
    obtain ⟨x, hx, h1, h2⟩ := ce_br_ok hF h0
    refine ⟨_, List.mem_map.mpr ⟨x, hx, rfl⟩, rfl, rfl, h2, fun hp => ?_, fun hp => ?_⟩
    · have e : x.1 = true := h1.mpr hp
      cases ng <;> simp [e]
    · have e : x.1 = false := by
        cases hx1 : x.1
        · rfl
        · exact absurd (h1.mp hx1) hp
      cases ng <;> simp [e]
  · cases h
def ce_icmp (q sw ng : Bool) (tgt nx : Nat) : ce_P := fun L G => match L.2 with
  | .inl b :: .inl a :: r => match sw with
    | false => ce_jump q ng a b tgt nx (L.1, r) G
    | true => ce_jump q ng b a tgt nx (L.1, r) G
  | _ => none
def ce_if (q sw ng : Bool) (tgt nx : Nat) : ce_P := fun L G => match L.2 with
  | .inl a :: r => match sw with
    | false => ce_jump q ng a (.inl 0) tgt nx (L.1, r) G
    | true => ce_jump q ng (.inl 0) a tgt nx (L.1, r) G
  | _ => none
theorem ok_icmp_eq {off : Int} {tgt : Nat} (d : decode cc pc = .ok (.if_icmp .eq off, 3)) (htg : (pc : Int) + off = (tgt : Int)) : ce_OK own nm cc nL ret ht pc (ce_icmp true false false tgt (pc + 3)) := by
  intro z p l e R s m args below meth c Q ad0 n0 hC L G S h hS ad ls H locs kc ks h1 h2 hl hI hv k1 k2
  obtain ⟨lo, st⟩ := L
  simp only [ce_icmp] at h
  split at h
  · rename_i b a r
    obtain ⟨x, hx, e1, e2, hs, hp, hn⟩ := ce_jump_ok h hI.2.2.2
    have hgo := hS x hx
    obtain ⟨x1, x2, x3, x4⟩ := x
    dsimp only at e1 e2 hs hp hn hgo
    subst e1; subst e2
    have hpr : ce_pr z true a b ↔ ce_vi z a = ce_vi z b := by simp [ce_pr]
    have hgo2 := hgo ad ls H locs kc ks h1 h2 hl ⟨hI.1, hI.2.1, hI.2.2.1, hs⟩ hv k1 k2
    rw [hpr] at hp hn
    by_cases hc : ce_vi z a = ce_vi z b
    · have e9 := hp hc
      simp only [if_true, Bool.false_eq_true, if_false] at e9
      subst e9
      refine lv_icmp_eq hC.1 hC.2.1 d htg (fun c8 => ?_) (fun c8 => ?_)
      · first | exact hgo2 | exact absurd hc c8 | exact absurd c8 (by simpa [ce_vi] using hc) | exact absurd hc (Int32.not_lt.mpr c8)
      · first | exact hgo2 | exact absurd hc c8 | exact absurd (by simpa [ce_vi] using hc) c8 | exact absurd (Int32.not_le.mp c8) (by simpa [ce_vi] using hc)
    · have e9 := hn hc
      simp only [if_true, Bool.false_eq_true, if_false] at e9
      subst e9
      refine lv_icmp_eq hC.1 hC.2.1 d htg (fun c8 => ?_) (fun c8 => ?_)
      · first | exact hgo2 | exact absurd c8 hc | exact absurd c8 (by simpa [ce_vi] using hc) | exact absurd (Int32.not_lt.mp hc) (by simpa [ce_vi] using c8)
      · first | exact hgo2 | exact absurd c8 hc | exact absurd (Int32.not_le.mp c8) hc | exact absurd (by simpa [ce_vi] using hc) c8
  · cases h
theorem ok_if_eq {off : Int} {tgt : Nat} (d : decode cc pc = .ok (.ifCond .eq off, 3)) (htg : (pc : Int) + off = (tgt : Int)) : ce_OK own nm cc nL ret ht pc (ce_if true false false tgt (pc + 3)) := by
  intro z p l e R s m args below meth c Q ad0 n0 hC L G S h hS ad ls H locs kc ks h1 h2 hl hI hv k1 k2
  obtain ⟨lo, st⟩ := L
  simp only [ce_if] at h
  split at h
  · rename_i a r
    obtain ⟨x, hx, e1, e2, hs, hp, hn⟩ := ce_jump_ok h hI.2.2.2
    have hgo := hS x hx
    obtain ⟨x1, x2, x3, x4⟩ := x
    dsimp only at e1 e2 hs hp hn hgo
    subst e1; subst e2
    have hpr : ce_pr z true a (.inl 0) ↔ ce_vi z a = ce_vi z (.inl 0) := by simp [ce_pr]
    have hgo2 := hgo ad ls H locs kc ks h1 h2 hl ⟨hI.1, hI.2.1, hI.2.2.1, hs⟩ hv k1 k2
    rw [hpr] at hp hn
    by_cases hc : ce_vi z a = ce_vi z (.inl 0)
    · have e9 := hp hc
      simp only [if_true, Bool.false_eq_true, if_false] at e9
      subst e9
      refine lv_if_eq hC.1 hC.2.1 d htg (fun c8 => ?_) (fun c8 => ?_)
      · first | exact hgo2 | exact absurd hc c8 | exact absurd c8 (by simpa [ce_vi] using hc) | exact absurd hc (Int32.not_lt.mpr c8)
      · first | exact hgo2 | exact absurd hc c8 | exact absurd (by simpa [ce_vi] using hc) c8 | exact absurd (Int32.not_le.mp c8) (by simpa [ce_vi] using hc)
    · have e9 := hn hc
      simp only [if_true, Bool.false_eq_true, if_false] at e9
      subst e9
      refine lv_if_eq hC.1 hC.2.1 d htg (fun c8 => ?_) (fun c8 => ?_)
      · first | exact hgo2 | exact absurd c8 hc | exact absurd c8 (by simpa [ce_vi] using hc) | exact absurd (Int32.not_lt.mp hc) (by simpa [ce_vi] using c8)
      · first | exact hgo2 | exact absurd c8 hc | exact absurd (Int32.not_le.mp c8) hc | exact absurd (by simpa [ce_vi] using hc) c8
  · cases h
theorem ok_icmp_ne {off : Int} {tgt : Nat} (d : decode cc pc = .ok (.if_icmp .ne off, 3)) (htg : (pc : Int) + off = (tgt : Int)) : ce_OK own nm cc nL ret ht pc (ce_icmp true false true tgt (pc + 3)) := by
  intro z p l e R s m args below meth c Q ad0 n0 hC L G S h hS ad ls H locs kc ks h1 h2 hl hI hv k1 k2
  obtain ⟨lo, st⟩ := L
  simp only [ce_icmp] at h
  split at h
  · rename_i b a r
    obtain ⟨x, hx, e1, e2, hs, hp, hn⟩ := ce_jump_ok h hI.2.2.2
    have hgo := hS x hx
    obtain ⟨x1, x2, x3, x4⟩ := x
    dsimp only at e1 e2 hs hp hn hgo
    subst e1; subst e2
    have hpr : ce_pr z true a b ↔ ce_vi z a = ce_vi z b := by simp [ce_pr]
    have hgo2 := hgo ad ls H locs kc ks h1 h2 hl ⟨hI.1, hI.2.1, hI.2.2.1, hs⟩ hv k1 k2
    rw [hpr] at hp hn
    by_cases hc : ce_vi z a = ce_vi z b
    · have e9 := hp hc
      simp only [if_true, Bool.false_eq_true, if_false] at e9
      subst e9
      refine lv_icmp_ne hC.1 hC.2.1 d htg (fun c8 => ?_) (fun c8 => ?_)
      · first | exact hgo2 | exact absurd hc c8 | exact absurd c8 (by simpa [ce_vi] using hc) | exact absurd hc (Int32.not_lt.mpr c8)
      · first | exact hgo2 | exact absurd hc c8 | exact absurd (by simpa [ce_vi] using hc) c8 | exact absurd (Int32.not_le.mp c8) (by simpa [ce_vi] using hc)
    · have e9 := hn hc
      simp only [if_true, Bool.false_eq_true, if_false] at e9
      subst e9
      refine lv_icmp_ne hC.1 hC.2.1 d htg (fun c8 => ?_) (fun c8 => ?_)
      · first | exact hgo2 | exact absurd c8 hc | exact absurd c8 (by simpa [ce_vi] using hc) | exact absurd (Int32.not_lt.mp hc) (by simpa [ce_vi] using c8)
      · first | exact hgo2 | exact absurd c8 hc | exact absurd (Int32.not_le.mp c8) hc | exact absurd (by simpa [ce_vi] using hc) c8
  · cases h
theorem ok_if_ne {off : Int} {tgt : Nat} (d : decode cc pc = .ok (.ifCond .ne off, 3)) (htg : (pc : Int) + off = (tgt : Int)) : ce_OK own nm cc nL ret ht pc (ce_if true false true tgt (pc + 3)) := by
  intro z p l e R s m args below meth c Q ad0 n0 hC L G S h hS ad ls H locs kc ks h1 h2 hl hI hv k1 k2
  obtain ⟨lo, st⟩ := L
  simp only [ce_if] at h
  split at h
  · rename_i a r
    obtain ⟨x, hx, e1, e2, hs, hp, hn⟩ := ce_jump_ok h hI.2.2.2
    have hgo := hS x hx
    obtain ⟨x1, x2, x3, x4⟩ := x
    dsimp only at e1 e2 hs hp hn hgo
    subst e1; subst e2
    have hpr : ce_pr z true a (.inl 0) ↔ ce_vi z a = ce_vi z (.inl 0) := by simp [ce_pr]
    have hgo2 := hgo ad ls H locs kc ks h1 h2 hl ⟨hI.1, hI.2.1, hI.2.2.1, hs⟩ hv k1 k2
    rw [hpr] at hp hn
    by_cases hc : ce_vi z a = ce_vi z (.inl 0)
    · have e9 := hp hc
      simp only [if_true, Bool.false_eq_true, if_false] at e9
      subst e9
      refine lv_if_ne hC.1 hC.2.1 d htg (fun c8 => ?_) (fun c8 => ?_)
      · first | exact hgo2 | exact absurd hc c8 | exact absurd c8 (by simpa [ce_vi] using hc) | exact absurd hc (Int32.not_lt.mpr c8)
      · first | exact hgo2 | exact absurd hc c8 | exact absurd (by simpa [ce_vi] using hc) c8 | exact absurd (Int32.not_le.mp c8) (by simpa [ce_vi] using hc)
    · have e9 := hn hc
      simp only [if_true, Bool.false_eq_true, if_false] at e9
      subst e9
      refine lv_if_ne hC.1 hC.2.1 d htg (fun c8 => ?_) (fun c8 => ?_)
      · first | exact hgo2 | exact absurd c8 hc | exact absurd c8 (by simpa [ce_vi] using hc) | exact absurd (Int32.not_lt.mp hc) (by simpa [ce_vi] using c8)
      · first | exact hgo2 | exact absurd c8 hc | exact absurd (Int32.not_le.mp c8) hc | exact absurd (by simpa [ce_vi] using hc) c8
  · cases h
theorem ok_icmp_lt {off : Int} {tgt : Nat} (d : decode cc pc = .ok (.if_icmp .lt off, 3)) (htg : (pc : Int) + off = (tgt : Int)) : ce_OK own nm cc nL ret ht pc (ce_icmp false false false tgt (pc + 3)) := by
  intro z p l e R s m args below meth c Q ad0 n0 hC L G S h hS ad ls H locs kc ks h1 h2 hl hI hv k1 k2
  obtain ⟨lo, st⟩ := L
  simp only [ce_icmp] at h
  split at h
  · rename_i b a r
    obtain ⟨x, hx, e1, e2, hs, hp, hn⟩ := ce_jump_ok h hI.2.2.2
    have hgo := hS x hx
    obtain ⟨x1, x2, x3, x4⟩ := x
    dsimp only at e1 e2 hs hp hn hgo
    subst e1; subst e2
    have hpr : ce_pr z false a b ↔ ce_vi z a < ce_vi z b := by simp [ce_pr]
    have hgo2 := hgo ad ls H locs kc ks h1 h2 hl ⟨hI.1, hI.2.1, hI.2.2.1, hs⟩ hv k1 k2
    rw [hpr] at hp hn
    by_cases hc : ce_vi z a < ce_vi z b
    · have e9 := hp hc
      simp only [if_true, Bool.false_eq_true, if_false] at e9
      subst e9
      refine lv_icmp_lt hC.1 hC.2.1 d htg (fun c8 => ?_) (fun c8 => ?_)
      · first | exact hgo2 | exact absurd hc c8 | exact absurd c8 (by simpa [ce_vi] using hc) | exact absurd hc (Int32.not_lt.mpr c8)
      · first | exact hgo2 | exact absurd hc c8 | exact absurd (by simpa [ce_vi] using hc) c8 | exact absurd (Int32.not_le.mp c8) (by simpa [ce_vi] using hc)
    · have e9 := hn hc
      simp only [if_true, Bool.false_eq_true, if_false] at e9
      subst e9
      refine lv_icmp_lt hC.1 hC.2.1 d htg (fun c8 => ?_) (fun c8 => ?_)
      · first | exact hgo2 | exact absurd c8 hc | exact absurd c8 (by simpa [ce_vi] using hc) | exact absurd (Int32.not_lt.mp hc) (by simpa [ce_vi] using c8)
      · first | exact hgo2 | exact absurd c8 hc | exact absurd (Int32.not_le.mp c8) hc | exact absurd (by simpa [ce_vi] using hc) c8
  · cases h
theorem ok_if_lt {off : Int} {tgt : Nat} (d : decode cc pc = .ok (.ifCond .lt off, 3)) (htg : (pc : Int) + off = (tgt : Int)) : ce_OK own nm cc nL ret ht pc (ce_if false false false tgt (pc + 3)) := by
  intro z p l e R s m args below meth c Q ad0 n0 hC L G S h hS ad ls H locs kc ks h1 h2 hl hI hv k1 k2
  obtain ⟨lo, st⟩ := L
  simp only [ce_if] at h
  split at h
  · rename_i a r
    obtain ⟨x, hx, e1, e2, hs, hp, hn⟩ := ce_jump_ok h hI.2.2.2
    have hgo := hS x hx
    obtain ⟨x1, x2, x3, x4⟩ := x
    dsimp only at e1 e2 hs hp hn hgo
    subst e1; subst e2
    have hpr : ce_pr z false a (.inl 0) ↔ ce_vi z a < ce_vi z (.inl 0) := by simp [ce_pr]
    have hgo2 := hgo ad ls H locs kc ks h1 h2 hl ⟨hI.1, hI.2.1, hI.2.2.1, hs⟩ hv k1 k2
    rw [hpr] at hp hn
    by_cases hc : ce_vi z a < ce_vi z (.inl 0)
    · have e9 := hp hc
      simp only [if_true, Bool.false_eq_true, if_false] at e9
      subst e9
      refine lv_if_lt hC.1 hC.2.1 d htg (fun c8 => ?_) (fun c8 => ?_)
      · first | exact hgo2 | exact absurd hc c8 | exact absurd c8 (by simpa [ce_vi] using hc) | exact absurd hc (Int32.not_lt.mpr c8)
      · first | exact hgo2 | exact absurd hc c8 | exact absurd (by simpa [ce_vi] using hc) c8 | exact absurd (Int32.not_le.mp c8) (by simpa [ce_vi] using hc)
    · have e9 := hn hc
      simp only [if_true, Bool.false_eq_true, if_false] at e9
      subst e9
      refine lv_if_lt hC.1 hC.2.1 d htg (fun c8 => ?_) (fun c8 => ?_)
      · first | exact hgo2 | exact absurd c8 hc | exact absurd c8 (by simpa [ce_vi] using hc) | exact absurd (Int32.not_lt.mp hc) (by simpa [ce_vi] using c8)
      · first | exact hgo2 | exact absurd c8 hc | exact absurd (Int32.not_le.mp c8) hc | exact absurd (by simpa [ce_vi] using hc) c8
  · cases h
theorem ok_icmp_ge {off : Int} {tgt : Nat} (d : decode cc pc = .ok (.if_icmp .ge off, 3)) (htg : (pc : Int) + off = (tgt : Int)) : ce_OK own nm cc nL ret ht pc (ce_icmp false false true tgt (pc + 3)) := by
  intro z p l e R s m args below meth c Q ad0 n0 hC L G S h hS ad ls H locs kc ks h1 h2 hl hI hv k1 k2
  obtain ⟨lo, st⟩ := L
  simp only [ce_icmp] at h
  split at h
  · rename_i b a r
    obtain ⟨x, hx, e1, e2, hs, hp, hn⟩ := ce_jump_ok h hI.2.2.2
    have hgo := hS x hx
    obtain ⟨x1, x2, x3, x4⟩ := x
    dsimp only at e1 e2 hs hp hn hgo
    subst e1; subst e2
    have hpr : ce_pr z false a b ↔ ce_vi z a < ce_vi z b := by simp [ce_pr]
    have hgo2 := hgo ad ls H locs kc ks h1 h2 hl ⟨hI.1, hI.2.1, hI.2.2.1, hs⟩ hv k1 k2
    rw [hpr] at hp hn
    by_cases hc : ce_vi z a < ce_vi z b
    · have e9 := hp hc
      simp only [if_true, Bool.false_eq_true, if_false] at e9
      subst e9
      refine lv_icmp_ge hC.1 hC.2.1 d htg (fun c8 => ?_) (fun c8 => ?_)
      · first | exact hgo2 | exact absurd hc c8 | exact absurd c8 (by simpa [ce_vi] using hc) | exact absurd hc (Int32.not_lt.mpr c8)
      · first | exact hgo2 | exact absurd hc c8 | exact absurd (by simpa [ce_vi] using hc) c8 | exact absurd (Int32.not_le.mp c8) (by simpa [ce_vi] using hc)
    · have e9 := hn hc
      simp only [if_true, Bool.false_eq_true, if_false] at e9
      subst e9
      refine lv_icmp_ge hC.1 hC.2.1 d htg (fun c8 => ?_) (fun c8 => ?_)
      · first | exact hgo2 | exact absurd c8 hc | exact absurd c8 (by simpa [ce_vi] using hc) | exact absurd (Int32.not_lt.mp hc) (by simpa [ce_vi] using c8)
      · first | exact hgo2 | exact absurd c8 hc | exact absurd (Int32.not_le.mp c8) hc | exact absurd (by simpa [ce_vi] using hc) c8
  · cases h
theorem ok_if_ge {off : Int} {tgt : Nat} (d : decode cc pc = .ok (.ifCond .ge off, 3)) (htg : (pc : Int) + off = (tgt : Int)) : ce_OK own nm cc nL ret ht pc (ce_if false false true tgt (pc + 3)) := by
  intro z p l e R s m args below meth c Q ad0 n0 hC L G S h hS ad ls H locs kc ks h1 h2 hl hI hv k1 k2
  obtain ⟨lo, st⟩ := L
  simp only [ce_if] at h
  split at h
  · rename_i a r
    obtain ⟨x, hx, e1, e2, hs, hp, hn⟩ := ce_jump_ok h hI.2.2.2
    have hgo := hS x hx
    obtain ⟨x1, x2, x3, x4⟩ := x
    dsimp only at e1 e2 hs hp hn hgo
    subst e1; subst e2
    have hpr : ce_pr z false a (.inl 0) ↔ ce_vi z a < ce_vi z (.inl 0) := by simp [ce_pr]
    have hgo2 := hgo ad ls H locs kc ks h1 h2 hl ⟨hI.1, hI.2.1, hI.2.2.1, hs⟩ hv k1 k2
    rw [hpr] at hp hn
    by_cases hc : ce_vi z a < ce_vi z (.inl 0)
    · have e9 := hp hc
      simp only [if_true, Bool.false_eq_true, if_false] at e9
      subst e9
      refine lv_if_ge hC.1 hC.2.1 d htg (fun c8 => ?_) (fun c8 => ?_)
      · first | exact hgo2 | exact absurd hc c8 | exact absurd c8 (by simpa [ce_vi] using hc) | exact absurd hc (Int32.not_lt.mpr c8)
      · first | exact hgo2 | exact absurd hc c8 | exact absurd (by simpa [ce_vi] using hc) c8 | exact absurd (Int32.not_le.mp c8) (by simpa [ce_vi] using hc)
    · have e9 := hn hc
      simp only [if_true, Bool.false_eq_true, if_false] at e9
      subst e9
      refine lv_if_ge hC.1 hC.2.1 d htg (fun c8 => ?_) (fun c8 => ?_)
      · first | exact hgo2 | exact absurd c8 hc | exact absurd c8 (by simpa [ce_vi] using hc) | exact absurd (Int32.not_lt.mp hc) (by simpa [ce_vi] using c8)
      · first | exact hgo2 | exact absurd c8 hc | exact absurd (Int32.not_le.mp c8) hc | exact absurd (by simpa [ce_vi] using hc) c8
  · cases h
theorem ok_icmp_gt {off : Int} {tgt : Nat} (d : decode cc pc = .ok (.if_icmp .gt off, 3)) (htg : (pc : Int) + off = (tgt : Int)) : ce_OK own nm cc nL ret ht pc (ce_icmp false true false tgt (pc + 3)) := by
  intro z p l e R s m args below meth c Q ad0 n0 hC L G S h hS ad ls H locs kc ks h1 h2 hl hI hv k1 k2
  obtain ⟨lo, st⟩ := L
  simp only [ce_icmp] at h
  split at h
  · rename_i b a r
    obtain ⟨x, hx, e1, e2, hs, hp, hn⟩ := ce_jump_ok h hI.2.2.2
    have hgo := hS x hx
    obtain ⟨x1, x2, x3, x4⟩ := x
    dsimp only at e1 e2 hs hp hn hgo
    subst e1; subst e2
    have hpr : ce_pr z false b a ↔ ce_vi z b < ce_vi z a := by simp [ce_pr]
    have hgo2 := hgo ad ls H locs kc ks h1 h2 hl ⟨hI.1, hI.2.1, hI.2.2.1, hs⟩ hv k1 k2
    rw [hpr] at hp hn
    by_cases hc : ce_vi z b < ce_vi z a
    · have e9 := hp hc
      simp only [if_true, Bool.false_eq_true, if_false] at e9
      subst e9
      refine lv_icmp_gt hC.1 hC.2.1 d htg (fun c8 => ?_) (fun c8 => ?_)
      · first | exact hgo2 | exact absurd hc c8 | exact absurd c8 (by simpa [ce_vi] using hc) | exact absurd hc (Int32.not_lt.mpr c8)
      · first | exact hgo2 | exact absurd hc c8 | exact absurd (by simpa [ce_vi] using hc) c8 | exact absurd (Int32.not_le.mp c8) (by simpa [ce_vi] using hc)
    · have e9 := hn hc
      simp only [if_true, Bool.false_eq_true, if_false] at e9
      subst e9
      refine lv_icmp_gt hC.1 hC.2.1 d htg (fun c8 => ?_) (fun c8 => ?_)
      · first | exact hgo2 | exact absurd c8 hc | exact absurd c8 (by simpa [ce_vi] using hc) | exact absurd (Int32.not_lt.mp hc) (by simpa [ce_vi] using c8)
      · first | exact hgo2 | exact absurd c8 hc | exact absurd (Int32.not_le.mp c8) hc | exact absurd (by simpa [ce_vi] using hc) c8
  · cases h
theorem ok_if_gt {off : Int} {tgt : Nat} (d : decode cc pc = .ok (.ifCond .gt off, 3)) (htg : (pc : Int) + off = (tgt : Int)) : ce_OK own nm cc nL ret ht pc (ce_if false true false tgt (pc + 3)) := by
  intro z p l e R s m args below meth c Q ad0 n0 hC L G S h hS ad ls H locs kc ks h1 h2 hl hI hv k1 k2
  obtain ⟨lo, st⟩ := L
  simp only [ce_if] at h
  split at h
  · rename_i a r
    obtain ⟨x, hx, e1, e2, hs, hp, hn⟩ := ce_jump_ok h hI.2.2.2
    have hgo := hS x hx
    obtain ⟨x1, x2, x3, x4⟩ := x
    dsimp only at e1 e2 hs hp hn hgo
    subst e1; subst e2
    have hpr : ce_pr z false (.inl 0) a ↔ ce_vi z (.inl 0) < ce_vi z a := by simp [ce_pr]
    have hgo2 := hgo ad ls H locs kc ks h1 h2 hl ⟨hI.1, hI.2.1, hI.2.2.1, hs⟩ hv k1 k2
    rw [hpr] at hp hn
    by_cases hc : ce_vi z (.inl 0) < ce_vi z a
    · have e9 := hp hc
      simp only [if_true, Bool.false_eq_true, if_false] at e9
      subst e9
      refine lv_if_gt hC.1 hC.2.1 d htg (fun c8 => ?_) (fun c8 => ?_)
      · first | exact hgo2 | exact absurd hc c8 | exact absurd c8 (by simpa [ce_vi] using hc) | exact absurd hc (Int32.not_lt.mpr c8)
      · first | exact hgo2 | exact absurd hc c8 | exact absurd (by simpa [ce_vi] using hc) c8 | exact absurd (Int32.not_le.mp c8) (by simpa [ce_vi] using hc)
    · have e9 := hn hc
      simp only [if_true, Bool.false_eq_true, if_false] at e9
      subst e9
      refine lv_if_gt hC.1 hC.2.1 d htg (fun c8 => ?_) (fun c8 => ?_)
      · first | exact hgo2 | exact absurd c8 hc | exact absurd c8 (by simpa [ce_vi] using hc) | exact absurd (Int32.not_lt.mp hc) (by simpa [ce_vi] using c8)
      · first | exact hgo2 | exact absurd c8 hc | exact absurd (Int32.not_le.mp c8) hc | exact absurd (by simpa [ce_vi] using hc) c8
  · cases h
theorem ok_icmp_le {off : Int} {tgt : Nat} (d : decode cc pc = .ok (.if_icmp .le off, 3)) (htg : (pc : Int) + off = (tgt : Int)) : ce_OK own nm cc nL ret ht pc (ce_icmp false true true tgt (pc + 3)) := by
  intro z p l e R s m args below meth c Q ad0 n0 hC L G S h hS ad ls H locs kc ks h1 h2 hl hI hv k1 k2
  obtain ⟨lo, st⟩ := L
  simp only [ce_icmp] at h
  split at h
  · rename_i b a r
    obtain ⟨x, hx, e1, e2, hs, hp, hn⟩ := ce_jump_ok h hI.2.2.2
    have hgo := hS x hx
    obtain ⟨x1, x2, x3, x4⟩ := x
    dsimp only at e1 e2 hs hp hn hgo
    subst e1; subst e2
    have hpr : ce_pr z false b a ↔ ce_vi z b < ce_vi z a := by simp [ce_pr]
    have hgo2 := hgo ad ls H locs kc ks h1 h2 hl ⟨hI.1, hI.2.1, hI.2.2.1, hs⟩ hv k1 k2
    rw [hpr] at hp hn
    by_cases hc : ce_vi z b < ce_vi z a
    · have e9 := hp hc
      simp only [if_true, Bool.false_eq_true, if_false] at e9
      subst e9
      refine lv_icmp_le hC.1 hC.2.1 d htg (fun c8 => ?_) (fun c8 => ?_)
      · first | exact hgo2 | exact absurd hc c8 | exact absurd c8 (by simpa [ce_vi] using hc) | exact absurd hc (Int32.not_lt.mpr c8)
      · first | exact hgo2 | exact absurd hc c8 | exact absurd (by simpa [ce_vi] using hc) c8 | exact absurd (Int32.not_le.mp c8) (by simpa [ce_vi] using hc)
    · have e9 := hn hc
      simp only [if_true, Bool.false_eq_true, if_false] at e9
      subst e9
      refine lv_icmp_le hC.1 hC.2.1 d htg (fun c8 => ?_) (fun c8 => ?_)
      · first | exact hgo2 | exact absurd c8 hc | exact absurd c8 (by simpa [ce_vi] using hc) | exact absurd (Int32.not_lt.mp hc) (by simpa [ce_vi] using c8)
      · first | exact hgo2 | exact absurd c8 hc | exact absurd (Int32.not_le.mp c8) hc | exact absurd (by simpa [ce_vi] using hc) c8
  · cases h
theorem ok_if_le {off : Int} {tgt : Nat} (d : decode cc pc = .ok (.ifCond .le off, 3)) (htg : (pc : Int) + off = (tgt : Int)) : ce_OK own nm cc nL ret ht pc (ce_if false true true tgt (pc + 3)) := by
  intro z p l e R s m args below meth c Q ad0 n0 hC L G S h hS ad ls H locs kc ks h1 h2 hl hI hv k1 k2
  obtain ⟨lo, st⟩ := L
  simp only [ce_if] at h
  split at h
  · rename_i a r
    obtain ⟨x, hx, e1, e2, hs, hp, hn⟩ := ce_jump_ok h hI.2.2.2
    have hgo := hS x hx
    obtain ⟨x1, x2, x3, x4⟩ := x
    dsimp only at e1 e2 hs hp hn hgo
    subst e1; subst e2
    have hpr : ce_pr z false (.inl 0) a ↔ ce_vi z (.inl 0) < ce_vi z a := by simp [ce_pr]
    have hgo2 := hgo ad ls H locs kc ks h1 h2 hl ⟨hI.1, hI.2.1, hI.2.2.1, hs⟩ hv k1 k2
    rw [hpr] at hp hn
    by_cases hc : ce_vi z (.inl 0) < ce_vi z a
    · have e9 := hp hc
      simp only [if_true, Bool.false_eq_true, if_false] at e9
      subst e9
      refine lv_if_le hC.1 hC.2.1 d htg (fun c8 => ?_) (fun c8 => ?_)
      · first | exact hgo2 | exact absurd hc c8 | exact absurd c8 (by simpa [ce_vi] using hc) | exact absurd hc (Int32.not_lt.mpr c8)
      · first | exact hgo2 | exact absurd hc c8 | exact absurd (by simpa [ce_vi] using hc) c8 | exact absurd (Int32.not_le.mp c8) (by simpa [ce_vi] using hc)
    · have e9 := hn hc
      simp only [if_true, Bool.false_eq_true, if_false] at e9
      subst e9
      refine lv_if_le hC.1 hC.2.1 d htg (fun c8 => ?_) (fun c8 => ?_)
      · first | exact hgo2 | exact absurd c8 hc | exact absurd c8 (by simpa [ce_vi] using hc) | exact absurd (Int32.not_lt.mp hc) (by simpa [ce_vi] using c8)
      · first | exact hgo2 | exact absurd c8 hc | exact absurd (Int32.not_le.mp c8) hc | exact absurd (by simpa [ce_vi] using hc) c8
  · cases h
end Ops
end
section
/-! the steps on the heap -/
def ce_nth {α : Type} : List α → Nat → Option α
  | [], _ => none
  | a :: _, 0 => some a
  | _ :: r, i + 1 => ce_nth r i
theorem ce_nth_eq {α : Type} : ∀ (l : List α) (i : Nat), ce_nth l i = l[i]?
  | [], _ => by simp [ce_nth]
  | a :: r, 0 => by simp [ce_nth]
  | a :: r, i + 1 => by simp only [ce_nth, List.getElem?_cons_succ]; exact ce_nth_eq r i
def ce_obj (G : ce_G) (k : Nat) : Option (Nat × List ce_SV) := match ce_nth G.2.1 k with
  | some (.inl x) => some x
  | _ => none
def ce_arr (G : ce_G) (k : Nat) : Option (Nat × List ce_SV) := match ce_nth G.2.1 k with
  | some (.inr x) => some x
  | _ => none
theorem ce_obj_at {z : ce_U} {ad : Nat → Nat} {G : ce_G} {k : Nat} {x : Nat × List ce_SV} (h : ce_obj G k = some x) : G.2.1[k]? = some (.inl x) ∧ (ce_w z ad 0 G.2.1)[k]? = some (ad k, .inr (x.1, x.2.map (ce_v z ad))) := by
  unfold ce_obj at h
  rw [ce_nth_eq] at h
  split at h
  · rename_i y hy
    cases h
    exact ⟨hy, by rw [ce_w_get, hy, Nat.zero_add]; rfl⟩
  · cases h
theorem ce_arr_at {z : ce_U} {ad : Nat → Nat} {G : ce_G} {k : Nat} {x : Nat × List ce_SV} (h : ce_arr G k = some x) : G.2.1[k]? = some (.inr x) ∧ (ce_w z ad 0 G.2.1)[k]? = some (ad k, .inl (ce_cA z x.1, x.2.length, ce_ar z ad x.1 x.2)) := by
  unfold ce_arr at h
  rw [ce_nth_eq] at h
  split at h
  · rename_i y hy
    cases h
    exact ⟨hy, by rw [ce_w_get, hy, Nat.zero_add]; rfl⟩
  · cases h
/-- a cell is written -/
theorem ce_Inv_set {z : ce_U} {ad : Nat → Nat} {G : ce_G} {k : Nat} {e0 e : ce_SE} {H1 : Heap} (hI : G.2.1.all (ce_we G.2.1.length) = true ∧ ce_sat z G.1) (hk : G.2.1[k]? = some e0) (he : ce_we G.2.1.length e = true)
    (hP : va_P (ce_D z) ce_cl ((ce_w z ad 0 G.2.1).set k (ad k, ce_e z ad e)) H1) (hD : va_D (ce_A z) ((ce_w z ad 0 G.2.1).set k (ad k, ce_e z ad e))) : ce_Inv z ad (G.1, G.2.1.set k e, G.2.2) H1 := by
  have hq : ce_w z ad 0 (G.2.1.set k e) = (ce_w z ad 0 G.2.1).set k (ad k, ce_e z ad e) := by rw [ce_w_set, Nat.zero_add]
  refine ⟨?_, ?_, ?_, hI.2⟩
  · show va_P _ _ (ce_w z ad 0 (G.2.1.set k e)) H1
    rw [hq]; exact hP
  · show va_D _ (ce_w z ad 0 (G.2.1.set k e))
    rw [hq]; exact hD
  · show (G.2.1.set k e).all (ce_we (G.2.1.set k e).length) = true
    rw [List.length_set]
    refine List.all_eq_true.mpr fun x hx => ?_
    rcases List.mem_or_eq_of_mem_set hx with hx | hx
    · exact List.all_eq_true.mp hI.1 x hx
    · rw [hx]; exact he
/-- a cell comes -/
theorem ce_Inv_app {z : ce_U} {ad ad' : Nat → Nat} {G : ce_G} {q : Nat} {e : ce_SE} {H1 : Heap} {rc rs : Nat} (hI : G.2.1.all (ce_we G.2.1.length) = true ∧ ce_sat z G.1) (he : ce_we G.2.1.length e = true) (h1 : ∀ i, i < G.2.1.length → ad' i = ad i) (h2 : ad' G.2.1.length = q)
    (hP : va_P (ce_D z) ce_cl (ce_w z ad 0 G.2.1 ++ [(q, ce_e z ad e)]) H1) (hD : va_D (ce_A z) (ce_w z ad 0 G.2.1 ++ [(q, ce_e z ad e)])) : ce_Inv z ad' (G.1, G.2.1 ++ [e], rc, rs) H1 := by
  have hq : ce_w z ad' 0 (G.2.1 ++ [e]) = ce_w z ad 0 G.2.1 ++ [(q, ce_e z ad e)] := by
    rw [ce_w_app, Nat.zero_add, h2, ce_e_congr h1 he, ce_w_congr h1 _ 0 (by omega) hI.1]
  refine ⟨?_, ?_, ?_, hI.2⟩
  · show va_P _ _ (ce_w z ad' 0 (G.2.1 ++ [e])) H1
    rw [hq]; exact hP
  · show va_D _ (ce_w z ad' 0 (G.2.1 ++ [e]))
    rw [hq]; exact hD
  · show (G.2.1 ++ [e]).all (ce_we (G.2.1 ++ [e]).length) = true
    rw [List.length_append]
    refine List.all_eq_true.mpr fun x hx => ?_
    rcases List.mem_append.mp hx with hx | hx
    · exact ce_we_mono (by simp) (List.all_eq_true.mp hI.1 x hx)
    · rw [List.mem_singleton.mp hx]; exact ce_we_mono (by simp) he
/-- is a value one of a field of this type, and told as the field keeps it -/
def ce_fit (ty : FieldType) (v : ce_SV) : Bool := match ty, v with
  | .int, .inl _ => true
  | .boolean, .inl (.inl n) => decide (n = 0) || decide (n = 1)
  | .byte, .inl (.inl n) => decide (-128 ≤ n) && decide (n ≤ 127)
  | .byte, .inl (.inr (.old _)) => true
  | .char, .inl (.inl n) => decide (0 ≤ n) && decide (n ≤ 65535)
  | .char, .inl (.inr (.length _)) => true
  | .long, .inr (.inl _) => true
  | .object _, .inr (.inr (.inl (.inl _))) => true
  | .object _, .inr (.inr (.inl (.inr j))) => Nat.blt j 7
  | .object _, .inr (.inr (.inr .null)) => true
  | .array _, .inr (.inr (.inl (.inl _))) => true
  | .array _, .inr (.inr (.inl (.inr j))) => Nat.blt j 7
  | .array _, .inr (.inr (.inr .null)) => true
  | _, _ => false
theorem ce_byte {n : Int} (h0 : -128 ≤ n) (h1 : n ≤ 127) : (Int32.ofInt n).toInt8.toInt32 = Int32.ofInt n := by
  rw [← Int32.toInt_inj, Int8.toInt_toInt32, Int32.toInt8_ofInt, Int8.toInt_ofInt_of_le (by omega) (by omega), Int32.toInt_ofInt_of_le (by omega) (by omega)]
theorem ce_fit_ok {z : ce_U} {s : State} (hz : ce_CK z s) {ad : Nat → Nat} {ty : FieldType} {v : ce_SV} (h : ce_fit ty v = true) : narrow ty (ce_v z ad v) = ce_v z ad v ∧ fits ty (ce_v z ad v) = true := by
  unfold ce_fit at h
  split at h
  · exact ⟨rfl, rfl⟩
  · rename_i n
    simp only [Bool.or_eq_true, decide_eq_true_eq] at h
    rcases h with rfl | rfl
    · exact ⟨(by decide : narrow .boolean (.int (Int32.ofInt 0)) = .int (Int32.ofInt 0)), (by decide : fits .boolean (.int (Int32.ofInt 0)) = true)⟩
    · exact ⟨(by decide : narrow .boolean (.int (Int32.ofInt 1)) = .int (Int32.ofInt 1)), (by decide : fits .boolean (.int (Int32.ofInt 1)) = true)⟩
  · rename_i n
    simp only [Bool.and_eq_true, decide_eq_true_eq] at h
    have hb := ce_byte h.1 h.2
    refine ⟨congrArg Value.int hb, ?_⟩
    show fits .byte (.int (Int32.ofInt n)) = true
    rw [← hb]; exact pk_fb _
  · exact ⟨pk_nb _, pk_fb _⟩
  · rename_i n
    simp only [Bool.and_eq_true, decide_eq_true_eq] at h
    obtain ⟨k, rfl⟩ := Int.eq_ofNat_of_zero_le h.1
    exact pk_charN (q := k) (by omega)
  · exact ⟨pk_nc _, pk_fc _⟩
  · exact ⟨rfl, rfl⟩
  · exact ⟨rfl, rfl⟩
  · rename_i j
    obtain ⟨a, ha⟩ := ce_ext hz j (Nat.lt_of_succ_le (Nat.le_of_ble_eq_true h))
    have e : ce_v z ad (.inr (.inr (.inl (.inr j)))) = .ref a := ha
    rw [e]; exact ⟨rfl, rfl⟩
  · exact ⟨rfl, rfl⟩
  · exact ⟨rfl, rfl⟩
  · rename_i j
    obtain ⟨a, ha⟩ := ce_ext hz j (Nat.lt_of_succ_le (Nat.le_of_ble_eq_true h))
    have e : ce_v z ad (.inr (.inr (.inl (.inr j)))) = .ref a := ha
    rw [e]; exact ⟨rfl, rfl⟩
  · exact ⟨rfl, rfl⟩
  · cases h
abbrev ce_CXK {z : ce_U} {p : Program} {l : Launch} {R : Room} {s : State} {m : MethodId} {args : Array Value} {meth : Method} {c : Code} {own nm : String} {cc : ByteArray} {nL : Nat} {ret : Option FieldType} {ht : Nat} (hC : ce_CX z p l R s m args meth c own nm cc nL ret ht) : ce_CK z s := hC.2.2.2.2.2.2.2.2.2
abbrev ce_sm (ref o n d : String) : Prop := ∀ (s : State) (args : Array Value), (∀ w ∈ ce_GW, w.before args s = true) → ∀ x, s.fieldFound? o n d = some x → s.fieldFound? ref n d = some x
section Heap
variable {own nm : String} {cc : ByteArray} {nL : Nat} {ret : Option FieldType} {ht pc : Nat}
def ce_getf (ci k nx : Nat) : ce_P := fun L G => match L.2 with
  | .inr (.inr (.inl (.inl a))) :: r => match ce_obj G a with
    | some x => match Nat.beq x.1 ci with
      | true => match ce_nth x.2 k with
        | some v => some [(nx, (L.1, v :: r), G)]
        | none => none
      | false => none
    | none => none
  | _ => none
theorem ce_getf_core {ci k N : Nat} {C ref : String} {T : u_T} {i : Nat} (d : decode cc pc = .ok (.getfield i, 3)) (hc : ce_cl[ci]? = some (C, T, N)) (hin : ∀ w ∈ u_ws C T N, w ∈ ce_GW) (hk : k < N) (hsm : ce_sm ref (T k).1 (T k).2.1 (T k).2.2.1)
    (hl9 : Cond.fieldLink own i ref (T k).2.1 (T k).2.2.1 ∈ ce_GW ∨ ∃ host, Cond.fieldLinkNest own i ref (T k).2.1 (T k).2.2.1 host ∈ ce_NG) : ce_OK own nm cc nL ret ht pc (ce_getf ci k (pc + 3)) := by
  intro z p l e R s m args below meth c Q ad0 n0 hC L G S h hS ad ls H locs kc ks h1 h2 hl hI hv k1 k2
  obtain ⟨lo, st⟩ := L
  simp only [ce_getf] at h
  split at h
  · rename_i a r
    split at h
    · rename_i x hx
      split at h
      · rename_i hci
        split at h
        · rename_i v hv9
          cases h
          obtain ⟨y1, y2⟩ := x
          have hci2 := Nat.eq_of_beq_eq_true hci
          dsimp only at hci2 hv9
          subst hci2
          have hat := (ce_obj_at (z := z) (ad := ad) hx).2
          rw [ce_nth_eq] at hv9
          have hfs : (y2.map (ce_v z ad))[k]? = some (ce_v z ad v) := by rw [List.getElem?_map, hv9]; rfl
          rcases hl9 with hl9 | ⟨host, hl9⟩
          · refine va_get hC.1 hC.2.1 hC.2.2.2.2.1 hin hC.2.2.2.1 (ce_CXK hC).1 hI.1 a hat hc k hk (hC.2.2.2.2.1 _ hl9) (hsm s args hC.2.2.2.2.1) hfs d ?_
            exact hS _ (List.mem_singleton.mpr rfl) ad ls H locs kc ks h1 h2 hl hI hv k1 k2
          · refine va_getN hC.1 hC.2.1 hC.2.2.2.2.1 hin hC.2.2.2.1 (ce_CXK hC).1 hI.1 a hat hc k hk (va_Nw.use rfl ((ce_CXK hC).2.2.2.1.1 _ hl9)) (hsm s args hC.2.2.2.2.1) hfs d ?_
            exact hS _ (List.mem_singleton.mpr rfl) ad ls H locs kc ks h1 h2 hl hI hv k1 k2
        · cases h
      · cases h
    · cases h
  · cases h
theorem ok_getf {ci k N : Nat} {C ref : String} {T : u_T} {i : Nat} (d : decode cc pc = .ok (.getfield i, 3)) (hc : ce_cl[ci]? = some (C, T, N)) (hin : ∀ w ∈ u_ws C T N, w ∈ ce_GW) (hk : k < N) (hl9 : Cond.fieldLink own i ref (T k).2.1 (T k).2.2.1 ∈ ce_GW) (hsm : ce_sm ref (T k).1 (T k).2.1 (T k).2.2.1) : ce_OK own nm cc nL ret ht pc (ce_getf ci k (pc + 3)) :=
  ce_getf_core d hc hin hk hsm (Or.inl hl9)
theorem ok_getfN {ci k N : Nat} {C ref host : String} {T : u_T} {i : Nat} (d : decode cc pc = .ok (.getfield i, 3)) (hc : ce_cl[ci]? = some (C, T, N)) (hin : ∀ w ∈ u_ws C T N, w ∈ ce_GW) (hk : k < N) (hl9 : Cond.fieldLinkNest own i ref (T k).2.1 (T k).2.2.1 host ∈ ce_NG) (hsm : ce_sm ref (T k).1 (T k).2.1 (T k).2.2.1) : ce_OK own nm cc nL ret ht pc (ce_getf ci k (pc + 3)) :=
  ce_getf_core d hc hin hk hsm (Or.inr ⟨host, hl9⟩)
/-- a text's bytes (k = 0) and coder (k = 1), of a text that was made or of a constant -/
def ce_gets (k nx : Nat) : ce_P := fun L G => match L.2 with
  | .inr (.inr (.inl (.inr j))) :: r => match k, j with
    | 0, 2 => some [(nx, (L.1, .inr (.inr (.inl (.inr 3))) :: r), G)]
    | 0, 4 => some [(nx, (L.1, .inr (.inr (.inl (.inr 5))) :: r), G)]
    | 1, 2 => some [(nx, (L.1, .inl (.inl 0) :: r), G)]
    | 1, 4 => some [(nx, (L.1, .inl (.inl 0) :: r), G)]
    | _, _ => none
  | _ => ce_getf 0 k nx L G
theorem ok_gets0 {i : Nat} (d : decode cc pc = .ok (.getfield i, 3)) (hl9 : Cond.fieldLink own i "java/lang/String" "value" "[B" ∈ ce_GW) : ce_OK own nm cc nL ret ht pc (ce_gets 0 (pc + 3)) := by
  intro z p l e R s m args below meth c Q ad0 n0 hC L G S h hS
  unfold ce_gets at h
  split at h
  · rename_i j r hst
    obtain ⟨lo, st⟩ := L
    dsimp only at hst
    subst hst
    intro ad ls H locs kc ks h1 h2 hl hI hv k1 k2
    obtain ⟨aK, aV, e2, e3, e4, e5, hE, -, -⟩ := (ce_CXK hC).2.2.2.2.2.2.1
    split at h
    · cases h
      show W _ _ _ _ _ _ _ _ _ _ _ _ _ _ _ (F0 m pc ls (ce_ev z 2 :: r.map (ce_v z ad)))
      rw [e2]
      refine vk_getf hC.1 hC.2.1 (hE.1 0 (by omega)).2.2.1 hv hC.2.2.2.1 (hC.2.2.2.2.1 _ hl9) (fun _ h => h) d ?_
      rw [← e3]
      exact hS _ (List.mem_singleton.mpr rfl) ad ls H locs kc ks h1 h2 hl hI hv k1 k2
    · cases h
      show W _ _ _ _ _ _ _ _ _ _ _ _ _ _ _ (F0 m pc ls (ce_ev z 4 :: r.map (ce_v z ad)))
      rw [e4]
      refine vk_getf hC.1 hC.2.1 (hE.1 1 (by omega)).2.2.1 hv hC.2.2.2.1 (hC.2.2.2.2.1 _ hl9) (fun _ h => h) d ?_
      rw [← e5]
      exact hS _ (List.mem_singleton.mpr rfl) ad ls H locs kc ks h1 h2 hl hI hv k1 k2
    · omega
    · omega
    · cases h
  · exact ok_getf (ci := 0) (k := 0) (N := 4) (T := TJ0) d rfl ce_uJ0 (by omega) hl9 (fun _ _ _ _ h => h) hC L G S h hS
theorem ok_gets1 {i : Nat} (d : decode cc pc = .ok (.getfield i, 3)) (hl9 : Cond.fieldLink own i "java/lang/String" "coder" "B" ∈ ce_GW) : ce_OK own nm cc nL ret ht pc (ce_gets 1 (pc + 3)) := by
  intro z p l e R s m args below meth c Q ad0 n0 hC L G S h hS
  unfold ce_gets at h
  split at h
  · rename_i j r hst
    obtain ⟨lo, st⟩ := L
    dsimp only at hst
    subst hst
    intro ad ls H locs kc ks h1 h2 hl hI hv k1 k2
    obtain ⟨aK, aV, e2, e3, e4, e5, hE, -, -⟩ := (ce_CXK hC).2.2.2.2.2.2.1
    split at h
    · omega
    · omega
    · cases h
      show W _ _ _ _ _ _ _ _ _ _ _ _ _ _ _ (F0 m pc ls (ce_ev z 2 :: r.map (ce_v z ad)))
      rw [e2]
      refine vk_getf hC.1 hC.2.1 (hE.1 0 (by omega)).2.1 hv hC.2.2.2.1 (hC.2.2.2.2.1 _ hl9) (fun _ h => h) d ?_
      exact hS _ (List.mem_singleton.mpr rfl) ad ls H locs kc ks h1 h2 hl hI hv k1 k2
    · cases h
      show W _ _ _ _ _ _ _ _ _ _ _ _ _ _ _ (F0 m pc ls (ce_ev z 4 :: r.map (ce_v z ad)))
      rw [e4]
      refine vk_getf hC.1 hC.2.1 (hE.1 1 (by omega)).2.1 hv hC.2.2.2.1 (hC.2.2.2.2.1 _ hl9) (fun _ h => h) d ?_
      exact hS _ (List.mem_singleton.mpr rfl) ad ls H locs kc ks h1 h2 hl hI hv k1 k2
    · cases h
  · exact ok_getf (ci := 0) (k := 1) (N := 4) (T := TJ0) d rfl ce_uJ0 (by omega) hl9 (fun _ _ _ _ h => h) hC L G S h hS
def ce_putf (ty : FieldType) (ci k nx : Nat) : ce_P := fun L G => match L.2 with
  | v :: .inr (.inr (.inl (.inl a))) :: r => match ce_obj G a with
    | some x => match Nat.beq x.1 ci && (Nat.blt k x.2.length && (ce_fit ty v && ce_wv G.2.1.length v)) with
      | true => some [(nx, (L.1, r), (G.1, G.2.1.set a (.inl (x.1, x.2.set k v)), G.2.2))]
      | false => none
    | none => none
  | _ => none
theorem ce_all_set {l : List ce_SV} {n k : Nat} {v : ce_SV} (h : l.all (ce_wv n) = true) (hv : ce_wv n v = true) : (l.set k v).all (ce_wv n) = true := List.all_eq_true.mpr fun x hx => by
  rcases List.mem_or_eq_of_mem_set hx with hx | hx
  · exact List.all_eq_true.mp h x hx
  · rw [hx]; exact hv
theorem ok_putf {ci k N : Nat} {C ref : String} {T : u_T} {ty0 : Nat → FieldType} {i : Nat} (d : decode cc pc = .ok (.putfield i, 3)) (hc : ce_cl[ci]? = some (C, T, N)) (hin : ∀ w ∈ u_ws C T N, w ∈ ce_GW) (hk : k < N) (hl9 : Cond.fieldLink own i ref (T k).2.1 (T k).2.2.1 ∈ ce_GW) (hsm : ce_sm ref (T k).1 (T k).2.1 (T k).2.2.1)
    (hty : ∀ k, k < N → parseFieldDescriptor (T k).2.2.1 = some (ty0 k)) (hnm : ∀ a, a < N → ∀ b, b < N → a ≠ b → (T a).2.1 ≠ (T b).2.1) (hfin : (T k).2.2.2 = false ∨ ((T k).2.2.2 = true ∧ nm = "<init>" ∧ (T k).1 = own)) : ce_OK own nm cc nL ret ht pc (ce_putf (ty0 k) ci k (pc + 3)) := by
  intro z p l e R s m args below meth c Q ad0 n0 hC L G S h hS ad ls H locs kc ks h1 h2 hl hI hv k1 k2
  obtain ⟨lo, st⟩ := L
  simp only [ce_putf] at h
  split at h
  · rename_i v a r
    split at h
    · rename_i x hx
      split at h
      · rename_i hb
        cases h
        simp only [Bool.and_eq_true] at hb
        obtain ⟨hci, hkl, hft, hwv⟩ := hb
        obtain ⟨y1, y2⟩ := x
        have hci2 := Nat.eq_of_beq_eq_true hci
        have hkl2 : k < (y2.map (ce_v z ad)).length := by rw [List.length_map]; exact Nat.lt_of_succ_le (Nat.le_of_ble_eq_true hkl)
        dsimp only at hci2
        subst hci2
        obtain ⟨hat0, hat⟩ := ce_obj_at (z := z) (ad := ad) hx
        obtain ⟨hn9, hf9⟩ := ce_fit_ok (ce_CXK hC) (ad := ad) hft
        have hkk : ∀ (H1 : Heap) (locs1 : List Loc), va_P (ce_D z) ce_cl ((ce_w z ad 0 G.2.1).set a (ad a, .inr (y1, (y2.map (ce_v z ad)).set k (ce_v z ad v)))) H1 → va_D (ce_A z) ((ce_w z ad 0 G.2.1).set a (ad a, .inr (y1, (y2.map (ce_v z ad)).set k (ce_v z ad v)))) → va_S (ce_A z) s.heap H1 locs1 → W p l e R s m args below meth c H1 locs1 kc ks Q (F0 m (pc + 3) ls (r.map (ce_v z ad))) := by
          intro H1 locs1 hP hD hS1
          have he : ce_e z ad (.inl (y1, y2.set k v)) = .inr (y1, (y2.map (ce_v z ad)).set k (ce_v z ad v)) := by simp only [ce_e, List.map_set]
          rw [← he] at hP hD
          have hwe : ce_we G.2.1.length (.inl (y1, y2)) = true := List.all_eq_true.mp hI.2.2.1 _ (List.mem_of_getElem? hat0)
          exact hS _ (List.mem_singleton.mpr rfl) ad ls H1 locs1 kc ks h1 (by simpa using h2) hl (ce_Inv_set (e := .inl (y1, y2.set k v)) hI.2.2 hat0 (ce_all_set (l := y2) hwe hwv) hP hD) hS1 k1 k2
        rcases hfin with hfin | ⟨hfin, hni, how⟩
        · exact va_put hC.1 hC.2.1 hC.2.2.2.2.1 hin ty0 hty hnm hC.2.2.2.1 (ce_CXK hC).1 hI.1 hI.2.1 hv a hat hc k hk (hC.2.2.2.2.1 _ hl9) (hsm s args hC.2.2.2.2.1) hfin (hty k hk) hn9 hf9 hkl2 d hkk
        · exact va_putF hC.1 hC.2.1 hC.2.2.2.2.1 hin ty0 hty hnm hC.2.2.2.1 (ce_CXK hC).1 hI.1 hI.2.1 hv a hat hc k hk (hC.2.2.2.2.1 _ hl9) (hsm s args hC.2.2.2.2.1) hfin (hC.2.2.2.2.2.1.trans hni) how (hty k hk) hn9 hf9 hkl2 d hkk
      · cases h
    · cases h
  · cases h
/-- the room that is left, and that nothing at hand names a cell that isn't -/
def ce_ok (L : ce_L) (G : ce_G) (n : Nat) : Bool := Nat.ble 1 G.2.2.1 && (Nat.ble n G.2.2.2 && (L.1.all (fun q => ce_wv G.2.1.length q.2) && L.2.all (ce_wv G.2.1.length)))
def ce_ad (ad : Nat → Nat) (n q : Nat) : Nat → Nat := fun i => match Nat.beq i n with
  | true => q
  | false => ad i
theorem ce_ad_lt {ad : Nat → Nat} {n q : Nat} : ∀ i, i < n → ce_ad ad n q i = ad i := fun i h => by
  have : Nat.beq i n = false := by
    cases hb : Nat.beq i n
    · rfl
    · exact absurd (Nat.eq_of_beq_eq_true hb) (Nat.ne_of_lt h)
  simp [ce_ad, this]
theorem ce_ad_eq {ad : Nat → Nat} {n q : Nat} : ce_ad ad n q n = q := by simp [ce_ad]
theorem ce_loc_congr {z : ce_U} {ad ad' : Nat → Nat} {n : Nat} (h : ∀ i, i < n → ad' i = ad i) {l : List (Nat × ce_SV)} (hl : l.all (fun q => ce_wv n q.2) = true) : l.map (fun q => (q.1, ce_v z ad' q.2)) = l.map (fun q => (q.1, ce_v z ad q.2)) :=
  List.map_congr_left fun q hq => by rw [ce_v_congr h (List.all_eq_true.mp hl q hq)]
def ce_new (ci N : Nat) (dv : List ce_SV) (nx : Nat) : ce_P := fun L G => match ce_ok L G N with
  | true => some [(nx, (L.1, .inr (.inr (.inl (.inl G.2.1.length))) :: L.2), (G.1, G.2.1 ++ [.inl (ci, dv)], G.2.2.1 - 1, G.2.2.2 - N))]
  | false => none
theorem ok_new {ci N : Nat} {C : String} {T : u_T} {ty0 : Nat → FieldType} {i : Nat} {dv : List ce_SV} (d : decode cc pc = .ok (.new i, 3)) (hc : ce_cl[ci]? = some (C, T, N)) (hin : ∀ w ∈ u_ws C T N, w ∈ ce_GW) (hty : ∀ k, k < N → parseFieldDescriptor (T k).2.2.1 = some (ty0 k))
    (hk : Cond.classLink own i C ∈ ce_GW) (hi : Cond.instantiable C N ∈ ce_GW) (hn : Cond.initialized C ∈ ce_GW) (hdv : ∀ (z : ce_U) (ad : Nat → Nat) (j : Nat), j < N → defaultValue (ty0 j) = vp_V (dv.map (ce_v z ad)) j) (hwd : dv.all (ce_wv 0) = true) : ce_OK own nm cc nL ret ht pc (ce_new ci N dv (pc + 3)) := by
  intro z p l e R s m args below meth c Q ad0 n0 hC L G S h hS ad ls H locs kc ks h1 h2 hl hI hv k1 k2
  obtain ⟨lo, st⟩ := L
  simp only [ce_new] at h
  split at h
  · rename_i hb
    cases h
    simp only [ce_ok, Bool.and_eq_true] at hb
    obtain ⟨b1, b2, b3, b4⟩ := hb
    have b1 := Nat.le_of_ble_eq_true b1
    have b2 := Nat.le_of_ble_eq_true b2
    have hA : ∀ q, s.heap.size ≤ q → ce_A z q := fun q hq => Nat.le_trans (ce_CXK hC).2.1 hq
    refine va_new hC.1 hC.2.1 hC.2.2.2.2.1 hin ty0 hty hC.2.2.2.1 (hC.2.2.2.2.1 _ hk) (hC.2.2.2.2.1 _ hi) (hC.2.2.2.2.1 _ hn) (ce_CXK hC).1 hI.1 hI.2.1 hv hA hc (hdv z ad) (by omega) (by omega) d (fun q H1 hP hD hS1 => ?_)
    have hwe : ce_we G.2.1.length (.inl (ci, dv)) = true := List.all_eq_true.mpr fun v hv9 => ce_wv_mono (Nat.zero_le _) (List.all_eq_true.mp hwd v hv9)
    have hgo := hS _ (List.mem_singleton.mpr rfl) (ce_ad ad G.2.1.length q) ls H1 locs (kc + 1) (ks + N) (fun k hk9 => (ce_ad_lt k (Nat.lt_of_lt_of_le hk9 h2)).trans (h1 k hk9)) (by simp; omega) (by rw [ce_loc_congr ce_ad_lt b3]; exact hl)
      (ce_Inv_app (e := .inl (ci, dv)) hI.2.2 hwe ce_ad_lt ce_ad_eq hP hD) hS1 (by dsimp only; omega) (by dsimp only; omega)
    rw [List.map_cons, ce_map_congr ce_ad_lt b4] at hgo
    have e9 : ce_v z (ce_ad ad G.2.1.length q) (.inr (.inr (.inl (.inl G.2.1.length)))) = .ref q := congrArg Value.ref ce_ad_eq
    rw [e9] at hgo
    exact hgo
  · cases h
theorem ce_ra {s : State} {a b : ClassId} {ty : FieldType} (h1 : va_RA s a ty) (h2 : va_RA s b ty) : a = b := by
  cases ty with
  | object C =>
    obtain ⟨_, _, _, _, _, e1⟩ := h1
    obtain ⟨_, _, _, _, _, e2⟩ := h2
    exact Option.some.inj (e1.symm.trans e2)
  | _ => exact Option.some.inj (Eq.trans (Eq.symm h1) h2)
/-- an empty array's contents -/
def ce_df (t : Nat) : ce_SV := match decide (t < 4), decide (t = 4), decide (t = 5) with
  | true, _, _ => .inl (.inl 0)
  | _, true, _ => .inr (.inl (.inl 0))
  | _, _, true => .inr (.inr (.inr (.double 0)))
  | _, _, _ => .inr (.inr (.inr .null))
theorem ce_df_wv (t n : Nat) : ce_wv n (ce_df t) = true := by
  unfold ce_df
  split <;> rfl
def ce_newa (t ln nx : Nat) : ce_P := fun L G => match L.2 with
  | .inl (.inl (.ofNat n)) :: r => match ce_ok L G n && Nat.ble n 60000 with
    | true => some [(nx, (L.1, .inr (.inr (.inl (.inl G.2.1.length))) :: r), (G.1, G.2.1 ++ [.inr (t, List.replicate n (ce_df t))], G.2.2.1 - 1, G.2.2.2 - n))]
    | false => none
  | _ => none
theorem ce_rep {z : ce_U} {ad : Nat → Nat} {n j : Nat} {v : ce_SV} {β : Type} {g : Value → β} {x : β} (h : g (ce_v z ad v) = x) (h0 : g (ce_v z ad ce_0) = x) : g (ce_v z ad ((List.replicate n v).getD j ce_0)) = x := by
  rw [List.getD_eq_getElem?_getD, List.getElem?_replicate]
  split
  · exact h
  · exact h0
theorem ce_newa_core {t ln : Nat} {ty : FieldType} (htt : ∀ z : ce_U, (ce_ty z)[t]? = some (ce_cA z t, ty))
    (row : ∀ {z : ce_U} {p : Program} {l : Launch} {e : Env} {R : Room} {s : State} {m : MethodId} {args : Array Value} {below : List Frame} {meth : Method} {c : Code} {Q : State → Prop} {ad : Nat → Nat} {H : Heap} {locs : List Loc} {kc ks n : Nat} {ls : Array Slot} {rest : List Value} {G : ce_G},
      ce_CX z p l R s m args meth c own nm cc nL ret ht → ce_Inv z ad G H → va_S (ce_A z) s.heap H locs → n ≤ 60000 → kc + 1 ≤ R.cells → ks + n ≤ R.slots →
      (∀ (q : Nat) (cA : ClassId) (H1 : Heap), va_K (ce_D z) ce_cl (ce_ty z ++ [(cA, ty)]) s → va_P (ce_D z) ce_cl (ce_w z ad 0 G.2.1 ++ [(q, .inl (cA, (List.replicate n (ce_df t)).length, ce_ar z ad t (List.replicate n (ce_df t))))]) H1 → va_D (ce_A z) (ce_w z ad 0 G.2.1 ++ [(q, .inl (cA, (List.replicate n (ce_df t)).length, ce_ar z ad t (List.replicate n (ce_df t))))]) → va_S (ce_A z) s.heap H1 locs →
        W p l e R s m args below meth c H1 locs (kc + 1) (ks + n) Q (F0 m (pc + ln) ls (.ref q :: rest))) → W p l e R s m args below meth c H locs kc ks Q (F0 m pc ls (.int (nI n) :: rest))) : ce_OK own nm cc nL ret ht pc (ce_newa t ln (pc + ln)) := by
  intro z p l e R s m args below meth c Q ad0 n0 hC L G S h hS ad ls H locs kc ks h1 h2 hl hI hv k1 k2
  obtain ⟨lo, st⟩ := L
  simp only [ce_newa] at h
  split at h
  · rename_i n r
    split at h
    · rename_i hb
      cases h
      simp only [ce_ok, Bool.and_eq_true] at hb
      obtain ⟨⟨b1, b2, b3, b4⟩, b5⟩ := hb
      have b1 := Nat.le_of_ble_eq_true b1
      have b2 := Nat.le_of_ble_eq_true b2
      have b5 := Nat.le_of_ble_eq_true b5
      refine row (G := G) (n := n) hC hI hv b5 (by omega) (by omega) (fun q cA H1 hK hP hD hS1 => ?_)
      have hcA : cA = ce_cA z t := by
        have e1 := (hK.2 (ce_ty z).length (cA, ty) (by simp)).2
        have e2 := ((ce_CXK hC).1.2 t _ (htt z)).2
        exact ce_ra e1 e2
      subst hcA
      have hwe : ce_we G.2.1.length (.inr (t, List.replicate n (ce_df t))) = true := List.all_eq_true.mpr fun v hv9 => by
        rw [(List.mem_replicate.mp hv9).2]; exact ce_df_wv _ _
      rw [List.all_cons, Bool.and_eq_true] at b4
      have hgo := hS _ (List.mem_singleton.mpr rfl) (ce_ad ad G.2.1.length q) ls H1 locs (kc + 1) (ks + n) (fun k hk9 => (ce_ad_lt k (Nat.lt_of_lt_of_le hk9 h2)).trans (h1 k hk9)) (by simp; omega) (by rw [ce_loc_congr ce_ad_lt b3]; exact hl)
        (ce_Inv_app (e := .inr (t, List.replicate n (ce_df t))) hI.2.2 hwe ce_ad_lt ce_ad_eq hP hD) hS1 (by dsimp only; omega) (by dsimp only; omega)
      rw [List.map_cons, ce_map_congr ce_ad_lt b4.2] at hgo
      have e9 : ce_v z (ce_ad ad G.2.1.length q) (.inr (.inr (.inl (.inl G.2.1.length)))) = .ref q := congrArg Value.ref ce_ad_eq
      rw [e9] at hgo
      exact hgo
    · cases h
  · cases h
theorem ok_newa_int (d : decode cc pc = .ok (.newarray .int, 2)) (hk : Cond.arrayClass .int ∈ ce_GW) : ce_OK own nm cc nL ret ht pc (ce_newa 0 2 (pc + 2)) := by
  refine ce_newa_core (ty := .int) (fun z => rfl) ?_
  intro z p l e R s m args below meth c Q ad H locs kc ks n ls rest G hC hI hv hn kc1 ks1 kk
  have hA : ∀ q, s.heap.size ≤ q → ce_A z q := fun q hq => Nat.le_trans (ce_CXK hC).2.1 hq
  have ha0 : ((List.replicate n (ce_df 0)).length, ce_ar z ad 0 (List.replicate n (ce_df 0))) = ((n, .inl (fun _ => 0)) : vp_A) := by
    rw [List.length_replicate]
    refine congrArg (Prod.mk n) ?_
    first | rfl | exact congrArg Sum.inl (funext fun j => ce_rep rfl rfl) | exact congrArg (fun x => Sum.inr (Sum.inl x)) (funext fun j => ce_rep rfl rfl)
  rw [ha0] at kk
  exact va_newa (atype := .int) (a0 := (n, .inl (fun _ => 0))) hC.1 hC.2.1 (hC.2.2.2.2.1 _ hk) rfl (ce_CXK hC).1 hI.1 hI.2.1 hv hA (fun _ => rfl) (nI_pos (by omega)) (nI_clamp (by omega)) (by show n * 4 ≤ 536870912; omega) kc1 ks1 d kk
theorem ok_newa_char (d : decode cc pc = .ok (.newarray .char, 2)) (hk : Cond.arrayClass .char ∈ ce_GW) : ce_OK own nm cc nL ret ht pc (ce_newa 1 2 (pc + 2)) := by
  refine ce_newa_core (ty := .char) (fun z => rfl) ?_
  intro z p l e R s m args below meth c Q ad H locs kc ks n ls rest G hC hI hv hn kc1 ks1 kk
  have hA : ∀ q, s.heap.size ≤ q → ce_A z q := fun q hq => Nat.le_trans (ce_CXK hC).2.1 hq
  have ha0 : ((List.replicate n (ce_df 1)).length, ce_ar z ad 1 (List.replicate n (ce_df 1))) = ((n, .inl (fun _ => 0)) : vp_A) := by
    rw [List.length_replicate]
    refine congrArg (Prod.mk n) ?_
    first | rfl | exact congrArg Sum.inl (funext fun j => ce_rep rfl rfl) | exact congrArg (fun x => Sum.inr (Sum.inl x)) (funext fun j => ce_rep rfl rfl)
  rw [ha0] at kk
  exact va_newa (atype := .char) (a0 := (n, .inl (fun _ => 0))) hC.1 hC.2.1 (hC.2.2.2.2.1 _ hk) rfl (ce_CXK hC).1 hI.1 hI.2.1 hv hA (fun _ => rfl) (nI_pos (by omega)) (nI_clamp (by omega)) (by show n * 2 ≤ 536870912; omega) kc1 ks1 d kk
theorem ok_newa_byte (d : decode cc pc = .ok (.newarray .byte, 2)) (hk : Cond.arrayClass .byte ∈ ce_GW) : ce_OK own nm cc nL ret ht pc (ce_newa 2 2 (pc + 2)) := by
  refine ce_newa_core (ty := .byte) (fun z => rfl) ?_
  intro z p l e R s m args below meth c Q ad H locs kc ks n ls rest G hC hI hv hn kc1 ks1 kk
  have hA : ∀ q, s.heap.size ≤ q → ce_A z q := fun q hq => Nat.le_trans (ce_CXK hC).2.1 hq
  have ha0 : ((List.replicate n (ce_df 2)).length, ce_ar z ad 2 (List.replicate n (ce_df 2))) = ((n, .inl (fun _ => 0)) : vp_A) := by
    rw [List.length_replicate]
    refine congrArg (Prod.mk n) ?_
    first | rfl | exact congrArg Sum.inl (funext fun j => ce_rep rfl rfl) | exact congrArg (fun x => Sum.inr (Sum.inl x)) (funext fun j => ce_rep rfl rfl)
  rw [ha0] at kk
  exact va_newa (atype := .byte) (a0 := (n, .inl (fun _ => 0))) hC.1 hC.2.1 (hC.2.2.2.2.1 _ hk) rfl (ce_CXK hC).1 hI.1 hI.2.1 hv hA (fun _ => rfl) (nI_pos (by omega)) (nI_clamp (by omega)) (by show n * 1 ≤ 536870912; omega) kc1 ks1 d kk
theorem ok_newa_long (d : decode cc pc = .ok (.newarray .long, 2)) (hk : Cond.arrayClass .long ∈ ce_GW) : ce_OK own nm cc nL ret ht pc (ce_newa 4 2 (pc + 2)) := by
  refine ce_newa_core (ty := .long) (fun z => rfl) ?_
  intro z p l e R s m args below meth c Q ad H locs kc ks n ls rest G hC hI hv hn kc1 ks1 kk
  have hA : ∀ q, s.heap.size ≤ q → ce_A z q := fun q hq => Nat.le_trans (ce_CXK hC).2.1 hq
  have ha0 : ((List.replicate n (ce_df 4)).length, ce_ar z ad 4 (List.replicate n (ce_df 4))) = ((n, .inr (.inl (fun _ => 0))) : vp_A) := by
    rw [List.length_replicate]
    refine congrArg (Prod.mk n) ?_
    first | rfl | exact congrArg Sum.inl (funext fun j => ce_rep rfl rfl) | exact congrArg (fun x => Sum.inr (Sum.inl x)) (funext fun j => ce_rep rfl rfl)
  rw [ha0] at kk
  exact va_newa (atype := .long) (a0 := (n, .inr (.inl (fun _ => 0)))) hC.1 hC.2.1 (hC.2.2.2.2.1 _ hk) rfl (ce_CXK hC).1 hI.1 hI.2.1 hv hA (fun _ => rfl) (nI_pos (by omega)) (nI_clamp (by omega)) (by show n * 8 ≤ 536870912; omega) kc1 ks1 d kk
theorem ok_newa_double (d : decode cc pc = .ok (.newarray .double, 2)) (hk : Cond.arrayClass .double ∈ ce_GW) : ce_OK own nm cc nL ret ht pc (ce_newa 5 2 (pc + 2)) := by
  refine ce_newa_core (ty := .double) (fun z => rfl) ?_
  intro z p l e R s m args below meth c Q ad H locs kc ks n ls rest G hC hI hv hn kc1 ks1 kk
  have hA : ∀ q, s.heap.size ≤ q → ce_A z q := fun q hq => Nat.le_trans (ce_CXK hC).2.1 hq
  have ha0 : ((List.replicate n (ce_df 5)).length, ce_ar z ad 5 (List.replicate n (ce_df 5))) = ((n, .inr (.inr (.inr (.inl (fun _ => 0))))) : vp_A) := by
    rw [List.length_replicate]
    refine congrArg (Prod.mk n) ?_
    first | rfl | exact congrArg Sum.inl (funext fun j => ce_rep rfl rfl) | exact congrArg (fun x => Sum.inr (Sum.inl x)) (funext fun j => ce_rep rfl rfl)
  rw [ha0] at kk
  exact va_newa (atype := .double) (a0 := (n, .inr (.inr (.inr (.inl (fun _ => 0)))))) hC.1 hC.2.1 (hC.2.2.2.2.1 _ hk) rfl (ce_CXK hC).1 hI.1 hI.2.1 hv hA (fun _ => rfl) (nI_pos (by omega)) (nI_clamp (by omega)) (by show n * 8 ≤ 536870912; omega) kc1 ks1 d kk
theorem ok_newq {C : String} {t i : Nat} (d : decode cc pc = .ok (.anewarray i, 3)) (hk : Cond.classLink own i C ∈ ce_GW) (hC9 : C ∈ ce_AOs) (htt : ∀ z : ce_U, (ce_ty z)[t]? = some (ce_cA z t, .object C)) (h6 : ∀ (z : ce_U) (ad : Nat → Nat) (n : Nat), ce_ar z ad t (List.replicate n (ce_df t)) = .inr (.inr (.inr (.inr (fun _ => none))))) : ce_OK own nm cc nL ret ht pc (ce_newa t 3 (pc + 3)) := by
  refine ce_newa_core (ty := .object C) htt ?_
  intro z p l e R s m args below meth c Q ad H locs kc ks n ls rest G hC hI hv hn kc1 ks1 kk
  have hA : ∀ q, s.heap.size ≤ q → ce_A z q := fun q hq => Nat.le_trans (ce_CXK hC).2.1 hq
  have ha0 : ((List.replicate n (ce_df t)).length, ce_ar z ad t (List.replicate n (ce_df t))) = ((n, .inr (.inr (.inr (.inr (fun _ => none))))) : vp_A) := by
    rw [List.length_replicate, h6]
  rw [ha0] at kk
  exact va_newq hC.1 hC.2.1 hC.2.2.2.1 (hC.2.2.2.2.1 _ hk) ((ce_CXK hC).2.2.2.1.2.2.1 _ hC9) (ce_CXK hC).1 hI.1 hI.2.1 hv hA (nI_pos (by omega)) (nI_clamp (by omega)) (by omega) kc1 ks1 d kk
theorem ce_refs {t : Nat} (h4 : ¬ t < 4) (h5 : t ≠ 4) (h6 : t ≠ 5) (z : ce_U) (ad : Nat → Nat) (n : Nat) : ce_ar z ad t (List.replicate n (ce_df t)) = .inr (.inr (.inr (.inr (fun _ => none)))) := by
  have hd : ce_df t = .inr (.inr (.inr .null)) := by simp [ce_df, h4, h5, h6]
  rw [hd]
  unfold ce_ar
  rw [if_neg h4, if_neg h5, if_neg h6]
  exact congrArg (fun x => Sum.inr (Sum.inr (Sum.inr (Sum.inr x)))) (funext fun j => ce_rep rfl rfl)
end Heap
end
section
/-! arrays, the old things, switches -/
/-- the newest lower bound of a number that the script tells -/
def ce_low : ce_F → Term → Option Int
  | [], _ => none
  | f :: r, t => match decide (f.1 = t) && Nat.beq f.2.1 0 with
    | true => some f.2.2
    | false => ce_low r t
theorem ce_low_ok {z : ce_U} {t : Term} {n : Int} : ∀ {F : ce_F}, ce_low F t = some n → ce_sat z F → n ≤ (ce_I z t).toInt
  | f :: r, h, hF => by
    unfold ce_low at h
    split at h
    · rename_i hb
      simp only [Bool.and_eq_true, decide_eq_true_eq, Nat.beq_eq] at hb
      cases h
      have := hF f List.mem_cons_self
      rw [ce_fa, if_pos hb.2, hb.1] at this
      exact this
    · exact ce_low_ok h (fun g hg => hF g (List.mem_cons_of_mem _ hg))
/-- a number that is known, or where it may be parted -/
def ce_ix (F : ce_F) (i : ce_SI) : Option (Nat ⊕ (Term × Int)) := match i with
  | .inl (.ofNat k) => some (.inl k)
  | .inl _ => none
  | .inr t => match ce_low F t with
    | none => none
    | some lo => match ce_le F t lo with
      | true => match lo with
        | .ofNat k => some (.inl k)
        | _ => none
      | false => some (.inr (t, lo))
theorem ce_of_toInt {x : Int32} {k : Nat} (h : x.toInt = (k : Int)) : x = nI k := by
  rw [← Int32.ofInt_toInt x, h]; rfl
theorem ce_ix_ok {z : ce_U} {F : ce_F} {i : ce_SI} {k : Nat} (h : ce_ix F i = some (.inl k)) (hF : ce_sat z F) : ce_vi z i = nI k := by
  match i, h with
  | .inl (.ofNat n), h => simp only [ce_ix, Option.some.injEq, Sum.inl.injEq] at h; subst h; rfl
  | .inl (.negSucc n), h => simp [ce_ix] at h
  | .inr t, h =>
    simp only [ce_ix] at h
    split at h
    · cases h
    · rename_i lo hlo
      split at h
      · rename_i hle
        split at h
        · simp only [Option.some.injEq, Sum.inl.injEq] at h
          subst h
          have a1 := ce_low_ok hlo hF
          have a2 := ce_le_ok hF hle
          exact ce_of_toInt (show (ce_I z t).toInt = _ by simp only [Int.ofNat_eq_natCast] at a1 a2; omega)
        · cases h
      · cases h
/-- the same step again, a number being at its bound, or above it -/
def ce_sp (pc : Nat) (t : Term) (lo : Int) (L : ce_L) (G : ce_G) : List (Nat × ce_L × ce_G) := [(pc, L, ((t, 1, lo) :: G.1, G.2)), (pc, L, ((t, 0, lo + 1) :: G.1, G.2))]
section Arr
variable {own nm : String} {cc : ByteArray} {nL : Nat} {ret : Option FieldType} {ht pc : Nat}
theorem ce_sp_ok {z : ce_U} {p : Program} {l : Launch} {e : Env} {R : Room} {s : State} {m : MethodId} {args : Array Value} {below : List Frame} {meth : Method} {c : Code} {Q : State → Prop} {ad0 : Nat → Nat} {n0 : Nat} {t : Term} {lo : Int} {L : ce_L} {G : ce_G} (hS : ∀ x ∈ ce_sp pc t lo L G, ce_WS z p l e R s m args below meth c Q nL ad0 n0 x.1 x.2.1 x.2.2) : ce_WS z p l e R s m args below meth c Q nL ad0 n0 pc L G := by
  intro ad ls H locs kc ks h1 h2 hl hI hv k1 k2
  by_cases hc : (ce_I z t).toInt ≤ lo
  · exact hS _ List.mem_cons_self ad ls H locs kc ks h1 h2 hl ⟨hI.1, hI.2.1, hI.2.2.1, ce_sat_cons (ce_fa1 hc) hI.2.2.2⟩ hv k1 k2
  · exact hS _ (List.mem_cons_of_mem _ List.mem_cons_self) ad ls H locs kc ks h1 h2 hl ⟨hI.1, hI.2.1, hI.2.2.1, ce_sat_cons (ce_fa0 (by omega)) hI.2.2.2⟩ hv k1 k2
theorem ce_nth_lt {α : Type} {l : List α} {k : Nat} {v : α} (h : ce_nth l k = some v) : k < l.length := by
  rw [ce_nth_eq] at h
  exact (List.getElem?_eq_some_iff.mp h).1
theorem ce_nth_D {l : List ce_SV} {k : Nat} {v : ce_SV} (h : ce_nth l k = some v) : l.getD k ce_0 = v := by
  rw [ce_nth_eq] at h
  rw [List.getD_eq_getElem?_getD, h]; rfl
/-- loads: of the script, of arrays of numbers, of references, of bytes of a constant text -/
def ce_iald (nx pc : Nat) : ce_P := fun L G => match L.2 with
  | .inl i :: .inr (.inr (.inl (.inl a))) :: r => match ce_ix G.1 i with
    | some (.inl k) => match ce_arr G a with
      | some x => match Nat.beq x.1 0 && Nat.blt x.2.length 60000 with
        | true => match ce_nth x.2 k with
          | some (.inl v) => some [(nx, (L.1, .inl v :: r), G)]
          | _ => none
        | false => none
      | none => none
    | some (.inr (t, lo)) => some (ce_sp pc t lo L G)
    | none => none
  | .inl (.inl (.ofNat k)) :: .inr (.inr (.inl (.inr 0))) :: r => match ce_ge G.1 (.arg 99) (k + 1) with
    | true => some [(nx, (L.1, .inl (.inr (.arg k)) :: r), G)]
    | false => none
  | _ => none
theorem ok_iald (d : decode cc pc = .ok (.iaload, 1)) : ce_OK own nm cc nL ret ht pc (ce_iald (pc + 1) pc) := by
  intro z p l e R s m args below meth c Q ad0 n0 hC L G S h hS
  obtain ⟨lo, st⟩ := L
  simp only [ce_iald] at h
  split at h
  · rename_i i a r
    split at h
    · rename_i k hk
      split at h
      · rename_i x hx
        split at h
        · rename_i hb
          split at h
          · rename_i v hv9
            cases h
            intro ad ls H locs kc ks h1 h2 hl hI hv k1 k2
            simp only [Bool.and_eq_true, Nat.beq_eq] at hb
            obtain ⟨y1, y2⟩ := x
            obtain ⟨hb1, hb2⟩ := hb
            dsimp only at hb1 hb2 hv9
            subst hb1
            have hat := (ce_arr_at (z := z) (ad := ad) hx).2
            dsimp only at hat
            have hi := ce_ix_ok hk hI.2.2.2
            have hlt := ce_nth_lt hv9
            have hlen : y2.length < 60000 := Nat.lt_of_succ_le (Nat.le_of_ble_eq_true hb2)
            show W _ _ _ _ _ _ _ _ _ _ _ _ _ _ _ (F0 m pc ls (.int (ce_vi z i) :: .ref (ad a) :: r.map (ce_v z ad)))
            rw [hi]
            refine va_iald (f := fun j => ce_iv (ce_v z ad (y2.getD j ce_0))) hC.1 hC.2.1 (ce_CXK hC).1 hI.1 a 0 hat rfl (vp_in_nI hlt (by omega)) d ?_
            rw [nI_clamp (by omega), ce_nth_D hv9]
            exact hS _ (List.mem_singleton.mpr rfl) ad ls H locs kc ks h1 h2 hl hI hv k1 k2
          · cases h
        · cases h
      · cases h
    · cases h
      exact ce_sp_ok hS
    · cases h
  · rename_i k r
    split at h
    · rename_i hg
      cases h
      intro ad ls H locs kc ks h1 h2 hl hI hv k1 k2
      obtain ⟨b, e0, e1, e2, e3, e4, e5⟩ := (ce_CXK hC).2.2.2.2.1
      have hg2 := ce_ge_ok hI.2.2.2 hg
      have hlen : (ce_I z (.arg 99)).toInt = (ce_len z : Int) := by show (ce_xs z 99).toInt = _; rw [e4, nI_toInt e5]
      rw [hlen] at hg2
      have hk : k < ce_len z := by omega
      show W _ _ _ _ _ _ _ _ _ _ _ _ _ _ _ (F0 m pc ls (.int (nI k) :: ce_ev z 0 :: r.map (ce_v z ad)))
      rw [e0]
      refine va_sld hC.1 hC.2.1 e3 e2 (Nat.not_le.mpr e1) hv (vp_in_nI hk e5) d ?_
      rw [nI_clamp (by omega)]
      exact hS _ (List.mem_singleton.mpr rfl) ad ls H locs kc ks h1 h2 hl hI hv k1 k2
    · cases h
  · cases h
def ce_lald (nx : Nat) : ce_P := fun L G => match L.2 with
  | .inl (.inl (.ofNat k)) :: .inr (.inr (.inl (.inl a))) :: r => match ce_arr G a with
    | some x => match Nat.beq x.1 4 && Nat.blt x.2.length 60000 with
      | true => match ce_nth x.2 k with
        | some (.inr (.inl v)) => some [(nx, (L.1, .inr (.inl v) :: r), G)]
        | _ => none
      | false => none
    | none => none
  | _ => none
theorem ok_lald (d : decode cc pc = .ok (.laload, 1)) : ce_OK own nm cc nL ret ht pc (ce_lald (pc + 1)) := by
  intro z p l e R s m args below meth c Q ad0 n0 hC L G S h hS ad ls H locs kc ks h1 h2 hl hI hv k1 k2
  obtain ⟨lo, st⟩ := L
  simp only [ce_lald] at h
  split at h
  · rename_i k a r
    split at h
    · rename_i x hx
      split at h
      · rename_i hb
        split at h
        · rename_i v hv9
          cases h
          simp only [Bool.and_eq_true, Nat.beq_eq] at hb
          obtain ⟨y1, y2⟩ := x
          obtain ⟨hb1, hb2⟩ := hb
          dsimp only at hb1 hb2 hv9
          subst hb1
          have hat := (ce_arr_at (z := z) (ad := ad) hx).2
          dsimp only at hat
          have hlt := ce_nth_lt hv9
          have hlen : y2.length < 60000 := Nat.lt_of_succ_le (Nat.le_of_ble_eq_true hb2)
          show W _ _ _ _ _ _ _ _ _ _ _ _ _ _ _ (F0 m pc ls (.int (nI k) :: .ref (ad a) :: r.map (ce_v z ad)))
          refine va_lald (f := fun j => ce_lv (ce_v z ad (y2.getD j ce_0))) hC.1 hC.2.1 (ce_CXK hC).1 hI.1 a 4 hat rfl (vp_in_nI hlt (by omega)) d ?_
          rw [nI_clamp (by omega), ce_nth_D hv9]
          exact hS _ (List.mem_singleton.mpr rfl) ad ls H locs kc ks h1 h2 hl hI hv k1 k2
        · cases h
      · cases h
    · cases h
  · cases h
/-- is it a reference that was made, or null -/
def ce_isR : ce_SV → Bool
  | .inr (.inr (.inl (.inl _))) => true
  | .inr (.inr (.inr .null)) => true
  | _ => false
theorem ce_isR_ok {z : ce_U} {ad : Nat → Nat} {v : ce_SV} (h : ce_isR v = true) : va_rf (ce_rv (ce_v z ad v)) = ce_v z ad v := by
  unfold ce_isR at h
  split at h
  · rfl
  · rfl
  · cases h
def ce_aald (nx : Nat) : ce_P := fun L G => match L.2 with
  | .inl (.inl (.ofNat k)) :: .inr (.inr (.inl (.inl a))) :: r => match ce_arr G a with
    | some x => match Nat.blt 5 x.1 && (Nat.blt x.1 12 && Nat.blt x.2.length 60000) with
      | true => match ce_nth x.2 k with
        | some v => match ce_isR v with
          | true => some [(nx, (L.1, v :: r), G)]
          | false => none
        | none => none
      | false => none
    | none => none
  | _ => none
theorem ce_ty_ref {t : Nat} (h1 : 5 < t) (h2 : t < 12) (z : ce_U) : ∃ C, (ce_ty z)[t]? = some (ce_cA z t, .object C) := by
  rcases (by omega : t = 6 ∨ t = 7 ∨ t = 8 ∨ t = 9 ∨ t = 10 ∨ t = 11) with rfl | rfl | rfl | rfl | rfl | rfl <;> exact ⟨_, rfl⟩
theorem ce_ar_ref {t : Nat} (h1 : 5 < t) {z : ce_U} {ad : Nat → Nat} {es : List ce_SV} : ce_ar z ad t es = .inr (.inr (.inr (.inr (fun j => ce_rv (ce_v z ad (es.getD j ce_0)))))) := by
  unfold ce_ar
  rw [if_neg (by omega), if_neg (by omega), if_neg (by omega)]
theorem ok_aald (d : decode cc pc = .ok (.aaload, 1)) : ce_OK own nm cc nL ret ht pc (ce_aald (pc + 1)) := by
  intro z p l e R s m args below meth c Q ad0 n0 hC L G S h hS ad ls H locs kc ks h1 h2 hl hI hv k1 k2
  obtain ⟨lo, st⟩ := L
  simp only [ce_aald] at h
  split at h
  · rename_i k a r
    split at h
    · rename_i x hx
      split at h
      · rename_i hb
        split at h
        · rename_i v hv9
          split at h
          · rename_i hr
            cases h
            simp only [Bool.and_eq_true] at hb
            obtain ⟨y1, y2⟩ := x
            obtain ⟨hb1, hb2, hb3⟩ := hb
            have hb1 : 5 < y1 := Nat.lt_of_succ_le (Nat.le_of_ble_eq_true hb1)
            have hb2 : y1 < 12 := Nat.lt_of_succ_le (Nat.le_of_ble_eq_true hb2)
            have hlen : y2.length < 60000 := Nat.lt_of_succ_le (Nat.le_of_ble_eq_true hb3)
            dsimp only at hv9
            have hat := (ce_arr_at (z := z) (ad := ad) hx).2
            have hlt := ce_nth_lt hv9
            obtain ⟨C9, hty⟩ := ce_ty_ref hb1 hb2 z
            dsimp only at hat
            rw [ce_ar_ref hb1] at hat
            show W _ _ _ _ _ _ _ _ _ _ _ _ _ _ _ (F0 m pc ls (.int (nI k) :: .ref (ad a) :: r.map (ce_v z ad)))
            refine va_aldq hC.1 hC.2.1 (ce_CXK hC).1 hI.1 a y1 hat hty (vp_in_nI hlt (by omega)) d ?_
            rw [nI_clamp (by omega), ce_nth_D hv9, ce_isR_ok hr]
            exact hS _ (List.mem_singleton.mpr rfl) ad ls H locs kc ks h1 h2 hl hI hv k1 k2
          · cases h
        · cases h
      · cases h
    · cases h
  · cases h
def ce_ewns : List Int := [101, 119, 110, 115]
def ce_bald (nx : Nat) : ce_P := fun L G => match L.2 with
  | .inl (.inl (.ofNat k)) :: .inr (.inr (.inl (.inl a))) :: r => match ce_arr G a with
    | some x => match Nat.beq x.1 2 && Nat.blt x.2.length 60000 with
      | true => match ce_nth x.2 k with
        | some (.inl v) => some [(nx, (L.1, .inl v :: r), G)]
        | _ => none
      | false => none
    | none => none
  | .inl (.inl (.ofNat k)) :: .inr (.inr (.inl (.inr 5))) :: r => match ce_nth ce_ewns k with
    | some v => some [(nx, (L.1, .inl (.inl v) :: r), G)]
    | none => none
  | _ => none
theorem ok_bald (d : decode cc pc = .ok (.baload, 1)) : ce_OK own nm cc nL ret ht pc (ce_bald (pc + 1)) := by
  intro z p l e R s m args below meth c Q ad0 n0 hC L G S h hS ad ls H locs kc ks h1 h2 hl hI hv k1 k2
  obtain ⟨lo, st⟩ := L
  simp only [ce_bald] at h
  split at h
  · rename_i k a r
    split at h
    · rename_i x hx
      split at h
      · rename_i hb
        split at h
        · rename_i v hv9
          cases h
          simp only [Bool.and_eq_true, Nat.beq_eq] at hb
          obtain ⟨y1, y2⟩ := x
          obtain ⟨hb1, hb2⟩ := hb
          dsimp only at hb1 hb2 hv9
          subst hb1
          have hat := (ce_arr_at (z := z) (ad := ad) hx).2
          dsimp only at hat
          have hlt := ce_nth_lt hv9
          have hlen : y2.length < 60000 := Nat.lt_of_succ_le (Nat.le_of_ble_eq_true hb2)
          show W _ _ _ _ _ _ _ _ _ _ _ _ _ _ _ (F0 m pc ls (.int (nI k) :: .ref (ad a) :: r.map (ce_v z ad)))
          refine va_bald (f := fun j => ce_iv (ce_v z ad (y2.getD j ce_0))) hC.1 hC.2.1 (ce_CXK hC).1 hI.1 a 2 hat rfl (vp_in_nI hlt (by omega)) d ?_
          rw [nI_clamp (by omega), ce_nth_D hv9]
          exact hS _ (List.mem_singleton.mpr rfl) ad ls H locs kc ks h1 h2 hl hI hv k1 k2
        · cases h
      · cases h
    · cases h
  · rename_i k r
    split at h
    · rename_i v hv9
      cases h
      obtain ⟨aK, aV, e2, e3, e4, e5, hE, -, -⟩ := (ce_CXK hC).2.2.2.2.2.2.1
      have hlt : k < 4 := ce_nth_lt hv9
      show W _ _ _ _ _ _ _ _ _ _ _ _ _ _ _ (F0 m pc ls (.int (nI k) :: ce_ev z 5 :: r.map (ce_v z ad)))
      rw [e5]
      refine va_tb hC.1 hC.2.1 (hE.1 1 (by omega)).2.2.2 hv (vp_in_nI hlt (by decide)) (v := ce_v z ad (.inl (.inl v))) ?_ d ?_
      · rw [nI_clamp (by omega)]
        rcases (by omega : k = 0 ∨ k = 1 ∨ k = 2 ∨ k = 3) with rfl | rfl | rfl | rfl <;> (simp only [ce_ewns, ce_nth, Option.some.injEq] at hv9; subst hv9; rfl)
      · exact hS _ (List.mem_singleton.mpr rfl) ad ls H locs kc ks h1 h2 hl hI hv k1 k2
    · cases h
  · cases h
def ce_alen (nx : Nat) : ce_P := fun L G => match L.2 with
  | .inr (.inr (.inl (.inl a))) :: r => match ce_arr G a with
    | some x => match Nat.blt x.1 12 with
      | true => some [(nx, (L.1, .inl (.inl (.ofNat x.2.length)) :: r), G)]
      | false => none
    | none => none
  | .inr (.inr (.inl (.inr 0))) :: r => match ce_ix G.1 (.inr (.arg 99)) with
    | some (.inl k) => some [(nx, (L.1, .inl (.inl (.ofNat k)) :: r), G)]
    | _ => none
  | .inr (.inr (.inl (.inr 1))) :: r => some [(nx, (L.1, .inl (.inl 0) :: r), G)]
  | .inr (.inr (.inl (.inr 3))) :: r => some [(nx, (L.1, .inl (.inl 0) :: r), G)]
  | .inr (.inr (.inl (.inr 5))) :: r => some [(nx, (L.1, .inl (.inl 4) :: r), G)]
  | _ => none
theorem ce_ty_any {t : Nat} (h2 : t < 12) (z : ce_U) : ∃ ty, (ce_ty z)[t]? = some (ce_cA z t, ty) := by
  rcases (by omega : t = 0 ∨ t = 1 ∨ t = 2 ∨ t = 3 ∨ t = 4 ∨ t = 5 ∨ t = 6 ∨ t = 7 ∨ t = 8 ∨ t = 9 ∨ t = 10 ∨ t = 11) with rfl | rfl | rfl | rfl | rfl | rfl | rfl | rfl | rfl | rfl | rfl | rfl <;> exact ⟨_, rfl⟩
theorem ok_alen (d : decode cc pc = .ok (.arraylength, 1)) : ce_OK own nm cc nL ret ht pc (ce_alen (pc + 1)) := by
  intro z p l e R s m args below meth c Q ad0 n0 hC L G S h hS ad ls H locs kc ks h1 h2 hl hI hv k1 k2
  obtain ⟨lo, st⟩ := L
  simp only [ce_alen] at h
  split at h
  · rename_i a r
    split at h
    · rename_i x hx
      split at h
      · rename_i hb
        cases h
        obtain ⟨ty, hty⟩ := ce_ty_any (Nat.lt_of_succ_le (Nat.le_of_ble_eq_true hb)) z
        have hat := (ce_arr_at (z := z) (ad := ad) hx).2
        refine va_alen hC.1 hC.2.1 (ce_CXK hC).1 hI.1 a x.1 hat hty (v := ce_vi z (.inl (.ofNat x.2.length))) rfl d ?_
        exact hS _ (List.mem_singleton.mpr rfl) ad ls H locs kc ks h1 h2 hl hI hv k1 k2
      · cases h
    · cases h
  · rename_i r
    split at h
    · rename_i k hk
      cases h
      obtain ⟨b, e0, e1, e2, e3, e4, e5⟩ := (ce_CXK hC).2.2.2.2.1
      have hk2 : ce_xs z 99 = nI k := ce_ix_ok hk hI.2.2.2
      show W _ _ _ _ _ _ _ _ _ _ _ _ _ _ _ (F0 m pc ls (ce_ev z 0 :: r.map (ce_v z ad)))
      rw [e0]
      refine va_slen hC.1 hC.2.1 e3 e2 (Nat.not_le.mpr e1) hv d ?_
      rw [show Int32.ofNat (ce_len z) = nI k from e4.symm.trans hk2]
      exact hS _ (List.mem_singleton.mpr rfl) ad ls H locs kc ks h1 h2 hl hI hv k1 k2
    · cases h
  · rename_i r
    cases h
    obtain ⟨t, e0, e1, -⟩ := (ce_CXK hC).2.2.2.2.2.1
    show W _ _ _ _ _ _ _ _ _ _ _ _ _ _ _ (F0 m pc ls (ce_ev z 1 :: r.map (ce_v z ad)))
    rw [e0]
    refine va_tlen hC.1 hC.2.1 e1 hv (v := ce_vi z (.inl 0)) rfl d ?_
    exact hS _ (List.mem_singleton.mpr rfl) ad ls H locs kc ks h1 h2 hl hI hv k1 k2
  · rename_i r
    cases h
    obtain ⟨aK, aV, e2, e3, e4, e5, hE, -, -⟩ := (ce_CXK hC).2.2.2.2.2.2.1
    show W _ _ _ _ _ _ _ _ _ _ _ _ _ _ _ (F0 m pc ls (ce_ev z 3 :: r.map (ce_v z ad)))
    rw [e3]
    refine va_tlen hC.1 hC.2.1 (hE.1 0 (by omega)).2.2.2 hv (v := ce_vi z (.inl 0)) rfl d ?_
    exact hS _ (List.mem_singleton.mpr rfl) ad ls H locs kc ks h1 h2 hl hI hv k1 k2
  · rename_i r
    cases h
    obtain ⟨aK, aV, e2, e3, e4, e5, hE, -, -⟩ := (ce_CXK hC).2.2.2.2.2.2.1
    show W _ _ _ _ _ _ _ _ _ _ _ _ _ _ _ (F0 m pc ls (ce_ev z 5 :: r.map (ce_v z ad)))
    rw [e5]
    refine va_tlen hC.1 hC.2.1 (hE.1 1 (by omega)).2.2.2 hv (v := ce_vi z (.inl 4)) rfl d ?_
    exact hS _ (List.mem_singleton.mpr rfl) ad ls H locs kc ks h1 h2 hl hI hv k1 k2
  · cases h
/-- stores -/
theorem ce_set_fun {β : Type} {g : Value → β} {z : ce_U} {ad : Nat → Nat} {es : List ce_SV} {k : Nat} {v : ce_SV} (hk : k < es.length) : (fun j => if j = k then g (ce_v z ad v) else g (ce_v z ad (es.getD j ce_0))) = fun j => g (ce_v z ad ((es.set k v).getD j ce_0)) := by
  funext j
  by_cases hj : j = k
  · subst hj
    rw [if_pos rfl, List.getD_eq_getElem?_getD, List.getElem?_set_self hk]; rfl
  · rw [if_neg hj, List.getD_eq_getElem?_getD, List.getD_eq_getElem?_getD, List.getElem?_set_ne (Ne.symm hj)]
/-- what may stand in an array of this kind -/
def ce_fa2s (t : Nat) (v : ce_SI) : Bool := match t with
  | 0 => true
  | 1 => ce_fit .char (.inl v)
  | 2 => ce_fit .byte (.inl v)
  | _ => false
def ce_iast (t nx pc : Nat) : ce_P := fun L G => match L.2 with
  | .inl v :: .inl i :: .inr (.inr (.inl (.inl a))) :: r => match ce_ix G.1 i with
    | some (.inl k) => match ce_arr G a with
      | some x => match Nat.beq x.1 t && (Nat.blt x.2.length 60000 && (Nat.blt k x.2.length && ce_fa2s t v)) with
        | true => some [(nx, (L.1, r), (G.1, G.2.1.set a (.inr (x.1, x.2.set k (.inl v))), G.2.2))]
        | false => none
      | none => none
    | some (.inr (t9, lo)) => some (ce_sp pc t9 lo L G)
    | none => none
  | _ => none
theorem ok_iastore (d : decode cc pc = .ok (.iastore, 1)) : ce_OK own nm cc nL ret ht pc (ce_iast 0 (pc + 1) pc) := by
  intro z p l e R s m args below meth c Q ad0 n0 hC L G S h hS
  obtain ⟨lo, st⟩ := L
  simp only [ce_iast] at h
  split at h
  · rename_i v i a r
    split at h
    · rename_i k hk
      split at h
      · rename_i x hx
        split at h
        · rename_i hb
          cases h
          intro ad ls H locs kc ks h1 h2 hl hI hv k1 k2
          simp only [Bool.and_eq_true, Nat.beq_eq] at hb
          obtain ⟨y1, y2⟩ := x
          obtain ⟨hb1, hb2, hb3, hb4⟩ := hb
          dsimp only at hb1
          subst hb1
          obtain ⟨hat0, hat⟩ := ce_arr_at (z := z) (ad := ad) hx
          dsimp only at hat
          have hi := ce_ix_ok hk hI.2.2.2
          have hlen : y2.length < 60000 := Nat.lt_of_succ_le (Nat.le_of_ble_eq_true hb2)
          have hlt : k < y2.length := Nat.lt_of_succ_le (Nat.le_of_ble_eq_true hb3)
          show W _ _ _ _ _ _ _ _ _ _ _ _ _ _ _ (F0 m pc ls (.int (ce_vi z v) :: .int (ce_vi z i) :: .ref (ad a) :: r.map (ce_v z ad)))
          rw [hi]
          refine va_iast (f := fun j => ce_iv (ce_v z ad (y2.getD j ce_0))) hC.1 hC.2.1 (ce_CXK hC).1 hI.1 hI.2.1 hv a 0 hat rfl (vp_in_nI hlt (by omega)) d (fun H1 locs1 hP hD hS1 => ?_)
          · rw [nI_clamp (by omega)] at hP hD
            have hf : upd (fun j => ce_iv (ce_v z ad (y2.getD j ce_0))) k (ce_vi z v) = fun j => ce_iv (ce_v z ad ((y2.set k (.inl v)).getD j ce_0)) := ce_set_fun (g := ce_iv) (v := .inl v) hlt
            rw [hf] at hP hD
            have he : ce_e z ad (.inr (0, y2.set k (.inl v))) = .inl (ce_cA z 0, y2.length, .inl (fun j => ce_iv (ce_v z ad ((y2.set k (.inl v)).getD j ce_0)))) := by
              simp only [ce_e, List.length_set]; rfl
            rw [← he] at hP hD
            have hwe : ce_we G.2.1.length (.inr (0, y2)) = true := List.all_eq_true.mp hI.2.2.1 _ (List.mem_of_getElem? hat0)
            exact hS _ (List.mem_singleton.mpr rfl) ad ls H1 locs1 kc ks h1 (by simpa using h2) hl (ce_Inv_set (e := .inr (0, y2.set k (.inl v))) hI.2.2 hat0 (ce_all_set (l := y2) hwe rfl) hP hD) hS1 k1 k2
        · cases h
      · cases h
    · cases h
      exact ce_sp_ok hS
    · cases h
  · cases h
theorem ok_castore (d : decode cc pc = .ok (.castore, 1)) : ce_OK own nm cc nL ret ht pc (ce_iast 1 (pc + 1) pc) := by
  intro z p l e R s m args below meth c Q ad0 n0 hC L G S h hS
  obtain ⟨lo, st⟩ := L
  simp only [ce_iast] at h
  split at h
  · rename_i v i a r
    split at h
    · rename_i k hk
      split at h
      · rename_i x hx
        split at h
        · rename_i hb
          cases h
          intro ad ls H locs kc ks h1 h2 hl hI hv k1 k2
          simp only [Bool.and_eq_true, Nat.beq_eq] at hb
          obtain ⟨y1, y2⟩ := x
          obtain ⟨hb1, hb2, hb3, hb4⟩ := hb
          dsimp only at hb1
          subst hb1
          obtain ⟨hat0, hat⟩ := ce_arr_at (z := z) (ad := ad) hx
          dsimp only at hat
          have hi := ce_ix_ok hk hI.2.2.2
          have hlen : y2.length < 60000 := Nat.lt_of_succ_le (Nat.le_of_ble_eq_true hb2)
          have hlt : k < y2.length := Nat.lt_of_succ_le (Nat.le_of_ble_eq_true hb3)
          show W _ _ _ _ _ _ _ _ _ _ _ _ _ _ _ (F0 m pc ls (.int (ce_vi z v) :: .int (ce_vi z i) :: .ref (ad a) :: r.map (ce_v z ad)))
          rw [hi]
          refine va_cast (f := fun j => ce_iv (ce_v z ad (y2.getD j ce_0))) hC.1 hC.2.1 (ce_CXK hC).1 hI.1 hI.2.1 hv a 1 hat rfl (vp_in_nI hlt (by omega)) d (fun H1 locs1 hP hD hS1 => ?_)
          · rw [nI_clamp (by omega)] at hP hD
            have hnar : vp_nar .char (ce_vi z v) = ce_vi z v := by
              have e8 := (ce_fit_ok (ce_CXK hC) (ad := ad) (ty := .char) (v := .inl v) hb4).1
              simp only [ce_v] at e8
              unfold vp_nar
              rw [e8]
            rw [hnar] at hP hD
            have hf : upd (fun j => ce_iv (ce_v z ad (y2.getD j ce_0))) k (ce_vi z v) = fun j => ce_iv (ce_v z ad ((y2.set k (.inl v)).getD j ce_0)) := ce_set_fun (g := ce_iv) (v := .inl v) hlt
            rw [hf] at hP hD
            have he : ce_e z ad (.inr (1, y2.set k (.inl v))) = .inl (ce_cA z 1, y2.length, .inl (fun j => ce_iv (ce_v z ad ((y2.set k (.inl v)).getD j ce_0)))) := by
              simp only [ce_e, List.length_set]; rfl
            rw [← he] at hP hD
            have hwe : ce_we G.2.1.length (.inr (1, y2)) = true := List.all_eq_true.mp hI.2.2.1 _ (List.mem_of_getElem? hat0)
            exact hS _ (List.mem_singleton.mpr rfl) ad ls H1 locs1 kc ks h1 (by simpa using h2) hl (ce_Inv_set (e := .inr (1, y2.set k (.inl v))) hI.2.2 hat0 (ce_all_set (l := y2) hwe rfl) hP hD) hS1 k1 k2
        · cases h
      · cases h
    · cases h
      exact ce_sp_ok hS
    · cases h
  · cases h
theorem ok_bastore (d : decode cc pc = .ok (.bastore, 1)) : ce_OK own nm cc nL ret ht pc (ce_iast 2 (pc + 1) pc) := by
  intro z p l e R s m args below meth c Q ad0 n0 hC L G S h hS
  obtain ⟨lo, st⟩ := L
  simp only [ce_iast] at h
  split at h
  · rename_i v i a r
    split at h
    · rename_i k hk
      split at h
      · rename_i x hx
        split at h
        · rename_i hb
          cases h
          intro ad ls H locs kc ks h1 h2 hl hI hv k1 k2
          simp only [Bool.and_eq_true, Nat.beq_eq] at hb
          obtain ⟨y1, y2⟩ := x
          obtain ⟨hb1, hb2, hb3, hb4⟩ := hb
          dsimp only at hb1
          subst hb1
          obtain ⟨hat0, hat⟩ := ce_arr_at (z := z) (ad := ad) hx
          dsimp only at hat
          have hi := ce_ix_ok hk hI.2.2.2
          have hlen : y2.length < 60000 := Nat.lt_of_succ_le (Nat.le_of_ble_eq_true hb2)
          have hlt : k < y2.length := Nat.lt_of_succ_le (Nat.le_of_ble_eq_true hb3)
          show W _ _ _ _ _ _ _ _ _ _ _ _ _ _ _ (F0 m pc ls (.int (ce_vi z v) :: .int (ce_vi z i) :: .ref (ad a) :: r.map (ce_v z ad)))
          rw [hi]
          refine va_bast (f := fun j => ce_iv (ce_v z ad (y2.getD j ce_0))) hC.1 hC.2.1 (ce_CXK hC).1 hI.1 hI.2.1 hv a 2 hat rfl (vp_in_nI hlt (by omega)) d (fun H1 locs1 hP hD hS1 => ?_)
          · rw [nI_clamp (by omega)] at hP hD
            have hnar : vp_nar .byte (ce_vi z v) = ce_vi z v := by
              have e8 := (ce_fit_ok (ce_CXK hC) (ad := ad) (ty := .byte) (v := .inl v) hb4).1
              simp only [ce_v] at e8
              unfold vp_nar
              rw [e8]
            rw [hnar] at hP hD
            have hf : upd (fun j => ce_iv (ce_v z ad (y2.getD j ce_0))) k (ce_vi z v) = fun j => ce_iv (ce_v z ad ((y2.set k (.inl v)).getD j ce_0)) := ce_set_fun (g := ce_iv) (v := .inl v) hlt
            rw [hf] at hP hD
            have he : ce_e z ad (.inr (2, y2.set k (.inl v))) = .inl (ce_cA z 2, y2.length, .inl (fun j => ce_iv (ce_v z ad ((y2.set k (.inl v)).getD j ce_0)))) := by
              simp only [ce_e, List.length_set]; rfl
            rw [← he] at hP hD
            have hwe : ce_we G.2.1.length (.inr (2, y2)) = true := List.all_eq_true.mp hI.2.2.1 _ (List.mem_of_getElem? hat0)
            exact hS _ (List.mem_singleton.mpr rfl) ad ls H1 locs1 kc ks h1 (by simpa using h2) hl (ce_Inv_set (e := .inr (2, y2.set k (.inl v))) hI.2.2 hat0 (ce_all_set (l := y2) hwe rfl) hP hD) hS1 k1 k2
        · cases h
      · cases h
    · cases h
      exact ce_sp_ok hS
    · cases h
  · cases h
def ce_last (nx : Nat) : ce_P := fun L G => match L.2 with
  | .inr (.inl v) :: .inl (.inl (.ofNat k)) :: .inr (.inr (.inl (.inl a))) :: r => match ce_arr G a with
    | some x => match Nat.beq x.1 4 && (Nat.blt x.2.length 60000 && Nat.blt k x.2.length) with
      | true => some [(nx, (L.1, r), (G.1, G.2.1.set a (.inr (x.1, x.2.set k (.inr (.inl v)))), G.2.2))]
      | false => none
    | none => none
  | _ => none
theorem ok_last (d : decode cc pc = .ok (.lastore, 1)) : ce_OK own nm cc nL ret ht pc (ce_last (pc + 1)) := by
  intro z p l e R s m args below meth c Q ad0 n0 hC L G S h hS ad ls H locs kc ks h1 h2 hl hI hv k1 k2
  obtain ⟨lo, st⟩ := L
  simp only [ce_last] at h
  split at h
  · rename_i v k a r
    split at h
    · rename_i x hx
      split at h
      · rename_i hb
        cases h
        simp only [Bool.and_eq_true, Nat.beq_eq] at hb
        obtain ⟨y1, y2⟩ := x
        obtain ⟨hb1, hb2, hb3⟩ := hb
        dsimp only at hb1
        subst hb1
        obtain ⟨hat0, hat⟩ := ce_arr_at (z := z) (ad := ad) hx
        dsimp only at hat
        have hlen : y2.length < 60000 := Nat.lt_of_succ_le (Nat.le_of_ble_eq_true hb2)
        have hlt : k < y2.length := Nat.lt_of_succ_le (Nat.le_of_ble_eq_true hb3)
        show W _ _ _ _ _ _ _ _ _ _ _ _ _ _ _ (F0 m pc ls (.long (ce_vl z v) :: .int (nI k) :: .ref (ad a) :: r.map (ce_v z ad)))
        refine va_last (f := fun j => ce_lv (ce_v z ad (y2.getD j ce_0))) hC.1 hC.2.1 (ce_CXK hC).1 hI.1 hI.2.1 hv a 4 hat rfl (vp_in_nI hlt (by omega)) d (fun H1 locs1 hP hD hS1 => ?_)
        rw [nI_clamp (by omega)] at hP hD
        have hf : vp_updL (fun j => ce_lv (ce_v z ad (y2.getD j ce_0))) k (ce_vl z v) = fun j => ce_lv (ce_v z ad ((y2.set k (.inr (.inl v))).getD j ce_0)) := ce_set_fun (g := ce_lv) (v := .inr (.inl v)) hlt
        rw [hf] at hP hD
        have he : ce_e z ad (.inr (4, y2.set k (.inr (.inl v)))) = .inl (ce_cA z 4, y2.length, .inr (.inl (fun j => ce_lv (ce_v z ad ((y2.set k (.inr (.inl v))).getD j ce_0))))) := by
          simp only [ce_e, List.length_set]; rfl
        rw [← he] at hP hD
        have hwe : ce_we G.2.1.length (.inr (4, y2)) = true := List.all_eq_true.mp hI.2.2.1 _ (List.mem_of_getElem? hat0)
        exact hS _ (List.mem_singleton.mpr rfl) ad ls H1 locs1 kc ks h1 (by simpa using h2) hl (ce_Inv_set (e := .inr (4, y2.set k (.inr (.inl v)))) hI.2.2 hat0 (ce_all_set (l := y2) hwe rfl) hP hD) hS1 k1 k2
      · cases h
    · cases h
  · cases h
/-- which objects may stand in which arrays: kind of the array, class of the object -/
def ce_ao (t ci : Nat) : Bool := match t, ci with
  | 6, 19 => true
  | 6, 17 => true
  | 6, 16 => true
  | 7, 14 => true
  | 8, 7 => true
  | 9, 9 => true
  | 10, 6 => true
  | 11, 4 => true
  | _, _ => false
theorem ce_ao_ok {z : ce_U} {s : State} {t ci : Nat} (h : ce_ao t ci = true) (hK : ce_CK z s) : 5 < t ∧ ∃ (E : String) (r : vw_C), (ce_ty z)[t]? = some (ce_cA z t, .object E) ∧ ce_cl[ci]? = some r ∧ (va_Nw (.castable r.1 E) s ∨ r.1 = E) := by
  have hn := hK.2.2.2.1.1
  unfold ce_ao at h
  split at h
  · exact ⟨by omega, _, _, rfl, rfl, Or.inl (hn _ (by decide +kernel))⟩
  · exact ⟨by omega, _, _, rfl, rfl, Or.inl (hn _ (by decide +kernel))⟩
  · exact ⟨by omega, _, _, rfl, rfl, Or.inl (hn _ (by decide +kernel))⟩
  · exact ⟨by omega, _, _, rfl, rfl, Or.inr rfl⟩
  · exact ⟨by omega, _, _, rfl, rfl, Or.inr rfl⟩
  · exact ⟨by omega, _, _, rfl, rfl, Or.inr rfl⟩
  · exact ⟨by omega, _, _, rfl, rfl, Or.inr rfl⟩
  · exact ⟨by omega, _, _, rfl, rfl, Or.inr rfl⟩
  · cases h
/-- a made object into an array: ci its class, t the array's kind -/
def ce_aast (nx : Nat) : ce_P := fun L G => match L.2 with
  | .inr (.inr (.inl (.inl b))) :: .inl (.inl (.ofNat k)) :: .inr (.inr (.inl (.inl a))) :: r => match ce_arr G a, ce_obj G b with
    | some x, some y => match ce_ao x.1 y.1 && (Nat.blt x.2.length 60000 && (Nat.blt k x.2.length && Nat.blt b G.2.1.length)) with
      | true => some [(nx, (L.1, r), (G.1, G.2.1.set a (.inr (x.1, x.2.set k (.inr (.inr (.inl (.inl b)))))), G.2.2))]
      | false => none
    | _, _ => none
  | _ => none
theorem ok_aast (d : decode cc pc = .ok (.aastore, 1)) : ce_OK own nm cc nL ret ht pc (ce_aast (pc + 1)) := by
  intro z p l e R s m args below meth c Q ad0 n0 hC L G S h hS ad ls H locs kc ks h1 h2 hl hI hv k1 k2
  obtain ⟨lo, st⟩ := L
  simp only [ce_aast] at h
  split at h
  · rename_i b k a r
    split at h
    · rename_i x y hx hy
      split at h
      · rename_i hb
        cases h
        simp only [Bool.and_eq_true] at hb
        obtain ⟨y1, y2⟩ := x
        obtain ⟨o1, o2⟩ := y
        obtain ⟨hb1, hb2, hb3, hb4⟩ := hb
        dsimp only at hb1
        obtain ⟨hat0, hat⟩ := ce_arr_at (z := z) (ad := ad) hx
        obtain ⟨hbt0, hbt⟩ := ce_obj_at (z := z) (ad := ad) hy
        have hlen : y2.length < 60000 := Nat.lt_of_succ_le (Nat.le_of_ble_eq_true hb2)
        have hlt : k < y2.length := Nat.lt_of_succ_le (Nat.le_of_ble_eq_true hb3)
        obtain ⟨h5, E9, r9, hty, hcl, hca⟩ := ce_ao_ok (z := z) hb1 (ce_CXK hC)
        dsimp only at hat
        rw [ce_ar_ref h5] at hat
        show W _ _ _ _ _ _ _ _ _ _ _ _ _ _ _ (F0 m pc ls (.ref (ad b) :: .int (nI k) :: .ref (ad a) :: r.map (ce_v z ad)))
        have hkk : ∀ (H1 : Heap) (locs1 : List Loc), va_P (ce_D z) ce_cl ((ce_w z ad 0 G.2.1).set a (ad a, .inl (ce_cA z y1, y2.length, .inr (.inr (.inr (.inr (va_up (fun j => ce_rv (ce_v z ad (y2.getD j ce_0))) (nI k).toNatClampNeg (some (ad b))))))))) H1 → va_D (ce_A z) ((ce_w z ad 0 G.2.1).set a (ad a, .inl (ce_cA z y1, y2.length, .inr (.inr (.inr (.inr (va_up (fun j => ce_rv (ce_v z ad (y2.getD j ce_0))) (nI k).toNatClampNeg (some (ad b))))))))) → va_S (ce_A z) s.heap H1 locs1 → W p l e R s m args below meth c H1 locs1 kc ks Q (F0 m (pc + 1) ls (r.map (ce_v z ad))) := by
          intro H1 locs1 hP hD hS1
          rw [nI_clamp (by omega)] at hP hD
          have hf : va_up (fun j => ce_rv (ce_v z ad (y2.getD j ce_0))) k (some (ad b)) = fun j => ce_rv (ce_v z ad ((y2.set k (.inr (.inr (.inl (.inl b))))).getD j ce_0)) := ce_set_fun (g := ce_rv) (v := .inr (.inr (.inl (.inl b)))) hlt
          rw [hf] at hP hD
          have he : ce_e z ad (.inr (y1, y2.set k (.inr (.inr (.inl (.inl b)))))) = .inl (ce_cA z y1, y2.length, .inr (.inr (.inr (.inr (fun j => ce_rv (ce_v z ad ((y2.set k (.inr (.inr (.inl (.inl b))))).getD j ce_0))))))) := by
            simp only [ce_e, List.length_set, ce_ar_ref h5]
          rw [← he] at hP hD
          have hwe : ce_we G.2.1.length (.inr (y1, y2)) = true := List.all_eq_true.mp hI.2.2.1 _ (List.mem_of_getElem? hat0)
          exact hS _ (List.mem_singleton.mpr rfl) ad ls H1 locs1 kc ks h1 (by simpa using h2) hl (ce_Inv_set (e := .inr (y1, y2.set k (.inr (.inr (.inl (.inl b)))))) hI.2.2 hat0 (ce_all_set (l := y2) hwe hb4) hP hD) hS1 k1 k2
        rcases hca with hca | hca
        · exact va_astqO hC.1 hC.2.1 (ce_CXK hC).1 hI.1 hI.2.1 hv a y1 b o1 hat hty hca hbt hcl (vp_in_nI hlt (by omega)) d hkk
        · subst hca
          exact va_astq hC.1 hC.2.1 (ce_CXK hC).1 hI.1 hI.2.1 hv a y1 b o1 hat hty hbt hcl (vp_in_nI hlt (by omega)) d hkk
      · cases h
    · cases h
  · cases h
end Arr
end
section
/-! statics, constants, comparisons of references, switches, natives -/
section Misc
variable {own nm : String} {cc : ByteArray} {nL : Nat} {ret : Option FieldType} {ht pc : Nat}
theorem ok_gets {C n dd ref : String} {i : Nat} {sv : ce_SV} (hz : ∀ (z : ce_U) (s : State) (ad : Nat → Nat), ce_CK z s → va_Z C n dd (ce_v z ad sv) (ce_A z) s s.heap) (d : decode cc pc = .ok (.getstatic i, 3)) (hk : Cond.fieldLink own i ref n dd ∈ ce_GW) (hr : ref = C) : ce_OK own nm cc nL ret ht pc (ce_push sv (pc + 3)) := by
  intro z p l e R s m args below meth c Q ad0 n0 hC L G S h hS ad ls H locs kc ks h1 h2 hl hI hv k1 k2
  obtain ⟨lo, st⟩ := L
  cases h
  subst hr
  refine va_gets hC.1 hC.2.1 (hz z s ad (ce_CXK hC)) hv hC.2.2.2.1 (hC.2.2.2.2.1 _ hk) (fun _ h => h) d ?_
  exact hS _ (List.mem_singleton.mpr rfl) ad ls H locs kc ks h1 h2 hl hI hv k1 k2
theorem ce_z1 (z : ce_U) (s : State) (ad : Nat → Nat) (h : ce_CK z s) : va_Z "java/lang/String" "COMPACT_STRINGS" "Z" (ce_v z ad (.inl (.inl 1))) (ce_A z) s s.heap := h.2.2.2.2.2.2.2.2.2.1
theorem ce_z2 (z : ce_U) (s : State) (ad : Nat → Nat) (h : ce_CK z s) : va_Z "java/lang/StringUTF16" "$assertionsDisabled" "Z" (ce_v z ad (.inl (.inl 1))) (ce_A z) s s.heap := h.2.2.2.2.2.2.2.2.2.2.1
theorem ce_z3 (z : ce_U) (s : State) (ad : Nat → Nat) (h : ce_CK z s) : va_Z "java/lang/StringUTF16" "HI_BYTE_SHIFT" "I" (ce_v z ad (.inl (.inl 0))) (ce_A z) s s.heap := h.2.2.2.2.2.2.2.2.2.2.2.1
theorem ce_z4 (z : ce_U) (s : State) (ad : Nat → Nat) (h : ce_CK z s) : va_Z "java/lang/StringUTF16" "LO_BYTE_SHIFT" "I" (ce_v z ad (.inl (.inl 8))) (ce_A z) s s.heap := h.2.2.2.2.2.2.2.2.2.2.2.2
theorem ce_z5 (z : ce_U) (s : State) (ad : Nat → Nat) (h : ce_CK z s) : va_Z "jdk/internal/util/Preconditions" "SIOOBE_FORMATTER" "Ljava/util/function/BiFunction;" (ce_v z ad (.inr (.inr (.inl (.inr 7))))) (ce_A z) s s.heap := h.2.2.2.2.2.2.2.2.1.2
theorem ce_z6 (z : ce_U) (s : State) (ad : Nat → Nat) (h : ce_CK z s) : va_Z "java/util/ArrayList" "DEFAULTCAPACITY_EMPTY_ELEMENTDATA" "[Ljava/lang/Object;" (ce_v z ad (.inr (.inr (.inl (.inr 1))))) (ce_A z) s s.heap := by
  obtain ⟨t, e0, -, e2⟩ := h.2.2.2.2.2.1
  show va_Z _ _ _ (ce_ev z 1) _ _ _
  rw [e0]; exact e2
theorem ok_ldcS {i j : Nat} {tx : String} (hz : ∀ (z : ce_U) (s : State), ce_CK z s → ∃ a, ce_ev z j = .ref a ∧ vk_R own i tx a s) (d : decode cc pc = .ok (.ldc i, 2)) : ce_OK own nm cc nL ret ht pc (ce_push (.inr (.inr (.inl (.inr j)))) (pc + 2)) := by
  intro z p l e R s m args below meth c Q ad0 n0 hC L G S h hS ad ls H locs kc ks h1 h2 hl hI hv k1 k2
  obtain ⟨lo, st⟩ := L
  cases h
  obtain ⟨a, e0, e1⟩ := hz z s (ce_CXK hC)
  refine va_ldcS hC.1 hC.2.1 hC.2.2.2.1 e1 d ?_
  rw [← e0]
  exact hS _ (List.mem_singleton.mpr rfl) ad ls H locs kc ks h1 h2 hl hI hv k1 k2
theorem ce_s2 (z : ce_U) (s : State) (h : ce_CK z s) : ∃ a, ce_ev z 2 = .ref a ∧ vk_R "CarcasswrightModel" 19 "" a s := by
  obtain ⟨aK, aV, e2, e3, e4, e5, hE, h6, h7⟩ := h.2.2.2.2.2.2.1
  exact ⟨_, e2, h6⟩
theorem ce_s4 (z : ce_U) (s : State) (h : ce_CK z s) : ∃ a, ce_ev z 4 = .ref a ∧ vk_R "CarcasswrightModel" 57 "ewns" a s := by
  obtain ⟨aK, aV, e2, e3, e4, e5, hE, h6, h7⟩ := h.2.2.2.2.2.2.1
  exact ⟨_, e4, h7⟩
theorem ok_ldcM {i : Nat} (d : decode cc pc = .ok (.ldc i, 2)) (hk : Cond.classLink own i "[Ljava/lang/Object;" ∈ ce_GW) : ce_OK own nm cc nL ret ht pc (ce_push (.inr (.inr (.inl (.inr 6)))) (pc + 2)) := by
  intro z p l e R s m args below meth c Q ad0 n0 hC L G S h hS ad ls H locs kc ks h1 h2 hl hI hv k1 k2
  obtain ⟨lo, st⟩ := L
  cases h
  obtain ⟨mi, e0, e1⟩ := (ce_CXK hC).2.2.2.2.2.2.2.1
  refine va_ldcM hC.1 hC.2.1 hC.2.2.2.1 (hC.2.2.2.2.1 _ hk) e1 d ?_
  rw [← e0]
  exact hS _ (List.mem_singleton.mpr rfl) ad ls H locs kc ks h1 h2 hl hI hv k1 k2
/-- a row of ints is one: the cast stands -/
def ce_castI (nx : Nat) : ce_P := fun L G => match L.2 with
  | .inr (.inr (.inl (.inl a))) :: r => match ce_arr G a with
    | some x => match Nat.beq x.1 0 with
      | true => some [(nx, (L.1, .inr (.inr (.inl (.inl a))) :: r), G)]
      | false => none
    | none => none
  | _ => none
theorem ok_castI {i : Nat} (d : decode cc pc = .ok (.checkcast i, 3)) (hk : Cond.classLink own i "[I" ∈ ce_GW) : ce_OK own nm cc nL ret ht pc (ce_castI (pc + 3)) := by
  intro z p l e R s m args below meth c Q ad0 n0 hC L G S h hS ad ls H locs kc ks h1 h2 hl hI hv k1 k2
  obtain ⟨lo, st⟩ := L
  simp only [ce_castI] at h
  split at h
  · rename_i a r
    split at h
    · rename_i x hx
      split at h
      · rename_i hb
        cases h
        obtain ⟨y1, y2⟩ := x
        have hb1 := Nat.eq_of_beq_eq_true hb
        dsimp only at hb1
        subst hb1
        have hat := (ce_arr_at (z := z) (ad := ad) hx).2
        dsimp only at hat
        refine va_castA hC.1 hC.2.1 hC.2.2.2.1 (hC.2.2.2.2.1 _ hk) hI.1 a hat (va_nm_int ((ce_CXK hC).1.2 0 _ rfl).2) d ?_
        exact hS _ (List.mem_singleton.mpr rfl) ad ls H locs kc ks h1 h2 hl hI hv k1 k2
      · cases h
    · cases h
  · cases h
/-- are two references one? -/
def ce_same (n : Nat) (a b : ce_SV) : Option Bool := match a, b with
  | .inr (.inr (.inl (.inl i))), .inr (.inr (.inl (.inl j))) => match Nat.blt i n && Nat.blt j n with
    | true => some (Nat.beq i j)
    | false => none
  | .inr (.inr (.inl (.inr i))), .inr (.inr (.inl (.inr j))) => match Nat.beq i j && Nat.blt i 7 with
    | true => some true
    | false => none
  | .inr (.inr (.inl (.inl i))), .inr (.inr (.inl (.inr 1))) => match Nat.blt i n with
    | true => some false
    | false => none
  | .inr (.inr (.inl (.inr 1))), .inr (.inr (.inl (.inl i))) => match Nat.blt i n with
    | true => some false
    | false => none
  | _, _ => none
theorem ce_w_some {z : ce_U} {ad : Nat → Nat} {cs : List ce_SE} {i : Nat} (h : i < cs.length) : ∃ e, (ce_w z ad 0 cs)[i]? = some (ad i, e) := ⟨_, by rw [ce_w_get, List.getElem?_eq_getElem h, Nat.zero_add]; rfl⟩
theorem ce_same_ok {z : ce_U} {s : State} {ad : Nat → Nat} {G : ce_G} {H : Heap} (hK : ce_CK z s) (hI : ce_Inv z ad G H) {a b : ce_SV} {v : Bool} (h : ce_same G.2.1.length a b = some v) : ∃ ra rb : Option Nat, ce_v z ad a = va_rf ra ∧ ce_v z ad b = va_rf rb ∧ (v = true ↔ ra = rb) := by
  unfold ce_same at h
  split at h
  · rename_i i j
    split at h
    · rename_i hb
      simp only [Bool.and_eq_true] at hb
      cases h
      refine ⟨some (ad i), some (ad j), rfl, rfl, ?_⟩
      obtain ⟨e1, w1⟩ := ce_w_some (z := z) (ad := ad) (Nat.lt_of_succ_le (Nat.le_of_ble_eq_true hb.1))
      obtain ⟨e2, w2⟩ := ce_w_some (z := z) (ad := ad) (Nat.lt_of_succ_le (Nat.le_of_ble_eq_true hb.2))
      constructor
      · intro hh
        rw [Nat.eq_of_beq_eq_true hh]
      · intro hh
        have := hI.2.1.1 i j _ _ w1 w2 (Option.some.inj hh)
        rw [this, Nat.beq_refl]
    · cases h
  · rename_i i j
    split at h
    · rename_i hb
      simp only [Bool.and_eq_true] at hb
      cases h
      have hij := Nat.eq_of_beq_eq_true hb.1
      subst hij
      obtain ⟨a, ha⟩ := ce_ext hK i (Nat.lt_of_succ_le (Nat.le_of_ble_eq_true hb.2))
      exact ⟨some a, some a, ha, ha, by simp⟩
    · cases h
  · rename_i i
    split at h
    · rename_i hb
      cases h
      obtain ⟨t, e0, ⟨-, -, -, -, -, -, -, e1⟩, -⟩ := hK.2.2.2.2.2.1
      obtain ⟨e9, w1⟩ := ce_w_some (z := z) (ad := ad) (Nat.lt_of_succ_le (Nat.le_of_ble_eq_true hb))
      refine ⟨some (ad i), some t, rfl, e0, ?_⟩
      have hA := hI.2.1.2 i _ w1
      constructor
      · intro hh; cases hh
      · intro hh
        rw [Option.some.inj hh] at hA
        exact absurd hA e1
    · cases h
  · rename_i i
    split at h
    · rename_i hb
      cases h
      obtain ⟨t, e0, ⟨-, -, -, -, -, -, -, e1⟩, -⟩ := hK.2.2.2.2.2.1
      obtain ⟨e9, w1⟩ := ce_w_some (z := z) (ad := ad) (Nat.lt_of_succ_le (Nat.le_of_ble_eq_true hb))
      refine ⟨some t, some (ad i), e0, rfl, ?_⟩
      have hA := hI.2.1.2 i _ w1
      constructor
      · intro hh; cases hh
      · intro hh
        rw [← Option.some.inj hh] at hA
        exact absurd hA e1
    · cases h
  · cases h
def ce_acmp (ng : Bool) (tgt nx : Nat) : ce_P := fun L G => match L.2 with
  | b :: a :: r => match ce_same G.2.1.length a b with
    | some v => some [(if v == ng then nx else tgt, (L.1, r), G)]
    | none => none
  | _ => none
theorem ok_acmp_eq {off : Int} {tgt : Nat} (d : decode cc pc = .ok (.if_acmp .eq off, 3)) (htg : (pc : Int) + off = (tgt : Int)) : ce_OK own nm cc nL ret ht pc (ce_acmp false tgt (pc + 3)) := by
  intro z p l e R s m args below meth c Q ad0 n0 hC L G S h hS ad ls H locs kc ks h1 h2 hl hI hv k1 k2
  obtain ⟨lo, st⟩ := L
  simp only [ce_acmp] at h
  split at h
  · rename_i b a r
    split at h
    · rename_i v hv9
      cases h
      obtain ⟨ra, rb, ea, eb, hi⟩ := ce_same_ok (ce_CXK hC) hI hv9
      show W _ _ _ _ _ _ _ _ _ _ _ _ _ _ _ (F0 m pc ls (ce_v z ad b :: ce_v z ad a :: r.map (ce_v z ad)))
      rw [ea, eb]
      have hgo := hS _ (List.mem_singleton.mpr rfl) ad ls H locs kc ks h1 h2 hl hI hv k1 k2
      refine lv_acmp_eq hC.1 hC.2.1 d htg (fun c8 => ?_) (fun c8 => ?_)
      · have e9 : v = true := hi.mpr c8
        subst e9
        exact hgo
      · have e9 : v = false := (Bool.eq_false_iff.mpr fun q => c8 (hi.mp q))
        subst e9
        exact hgo
    · cases h
  · cases h
theorem ok_acmp_ne {off : Int} {tgt : Nat} (d : decode cc pc = .ok (.if_acmp .ne off, 3)) (htg : (pc : Int) + off = (tgt : Int)) : ce_OK own nm cc nL ret ht pc (ce_acmp true tgt (pc + 3)) := by
  intro z p l e R s m args below meth c Q ad0 n0 hC L G S h hS ad ls H locs kc ks h1 h2 hl hI hv k1 k2
  obtain ⟨lo, st⟩ := L
  simp only [ce_acmp] at h
  split at h
  · rename_i b a r
    split at h
    · rename_i v hv9
      cases h
      obtain ⟨ra, rb, ea, eb, hi⟩ := ce_same_ok (ce_CXK hC) hI hv9
      show W _ _ _ _ _ _ _ _ _ _ _ _ _ _ _ (F0 m pc ls (ce_v z ad b :: ce_v z ad a :: r.map (ce_v z ad)))
      rw [ea, eb]
      have hgo := hS _ (List.mem_singleton.mpr rfl) ad ls H locs kc ks h1 h2 hl hI hv k1 k2
      refine lv_acmp_ne hC.1 hC.2.1 d htg (fun c8 => ?_) (fun c8 => ?_)
      · have e9 : v = false := (Bool.eq_false_iff.mpr fun q => c8 (hi.mp q))
        subst e9
        exact hgo
      · have e9 : v = true := hi.mpr c8
        subst e9
        exact hgo
    · cases h
  · cases h
def ce_ifnn (tgt nx : Nat) : ce_P := fun L G => match L.2 with
  | .inr (.inr (.inl (.inl _))) :: r => some [(tgt, (L.1, r), G)]
  | .inr (.inr (.inl (.inr j))) :: r => match Nat.blt j 7 with
    | true => some [(tgt, (L.1, r), G)]
    | false => none
  | .inr (.inr (.inr .null)) :: r => some [(nx, (L.1, r), G)]
  | _ => none
theorem ok_ifnn {off : Int} {tgt : Nat} (d : decode cc pc = .ok (.ifnonnull off, 3)) (htg : (pc : Int) + off = (tgt : Int)) : ce_OK own nm cc nL ret ht pc (ce_ifnn tgt (pc + 3)) := by
  intro z p l e R s m args below meth c Q ad0 n0 hC L G S h hS ad ls H locs kc ks h1 h2 hl hI hv k1 k2
  obtain ⟨lo, st⟩ := L
  simp only [ce_ifnn] at h
  split at h
  · cases h
    refine lv_ifnonnull hC.1 hC.2.1 d htg ?_
    exact hS _ (List.mem_singleton.mpr rfl) ad ls H locs kc ks h1 h2 hl hI hv k1 k2
  · rename_i j r
    split at h
    · rename_i hj
      cases h
      obtain ⟨a, ha⟩ := ce_ext (ce_CXK hC) j (Nat.lt_of_succ_le (Nat.le_of_ble_eq_true hj))
      show W _ _ _ _ _ _ _ _ _ _ _ _ _ _ _ (F0 m pc ls (ce_ev z j :: r.map (ce_v z ad)))
      rw [ha]
      refine lv_ifnonnull hC.1 hC.2.1 d htg ?_
      exact hS _ (List.mem_singleton.mpr rfl) ad ls H locs kc ks h1 h2 hl hI hv k1 k2
    · cases h
  · cases h
    refine lv_ifnonnullN hC.1 hC.2.1 d ?_
    exact hS _ (List.mem_singleton.mpr rfl) ad ls H locs kc ks h1 h2 hl hI hv k1 k2
  · cases h
/-- a switch over a row of numbers from 0 on -/
def ce_tsw (dflt : Nat) (tg : List Nat) : ce_P := fun L G => match L.2 with
  | .inl i :: r => match ce_ix G.1 i with
    | some (.inl k) => match Nat.blt k 1000 with
      | true => match ce_nth tg k with
        | some t => some [(t, (L.1, r), G)]
        | none => some [(dflt, (L.1, r), G)]
      | false => none
    | _ => none
  | _ => none
theorem ok_tsw {da hi : Int} {offs : Array Int} {len dflt : Nat} {tg : List Nat} (d : decode cc pc = .ok (.tableswitch da 0 hi offs, len)) (hd : (pc : Int) + da = (dflt : Int)) (hh : hi + 1 = (tg.length : Int)) (ho : tg.map (fun t : Nat => (t : Int) - (pc : Int)) = offs.toList) : ce_OK own nm cc nL ret ht pc (ce_tsw dflt tg) := by
  intro z p l e R s m args below meth c Q ad0 n0 hC L G S h hS ad ls H locs kc ks h1 h2 hl hI hv k1 k2
  obtain ⟨lo, st⟩ := L
  simp only [ce_tsw] at h
  split at h
  · rename_i i r
    split at h
    · rename_i k hk
      have hi9 := ce_ix_ok hk hI.2.2.2
      split at h
      · rename_i hb
        have hb : k < 1000 := Nat.lt_of_succ_le (Nat.le_of_ble_eq_true hb)
        have hkt : (nI k).toInt = (k : Int) := nI_toInt (by omega)
        show W _ _ _ _ _ _ _ _ _ _ _ _ _ _ _ (F0 m pc ls (.int (ce_vi z i) :: r.map (ce_v z ad)))
        rw [hi9]
        split at h
        · rename_i t ht9
          cases h
          have hlt := ce_nth_lt ht9
          rw [ce_nth_eq] at ht9
          have ho2 : offs[((nI k).toInt - 0).toNat]? = some ((t : Int) - (pc : Int)) := by
            rw [hkt, ← Array.getElem?_toList, ← ho, List.getElem?_map]
            have : ((k : Int) - 0).toNat = k := by omega
            rw [this, ht9]; rfl
          refine lv_tableIn hC.1 hC.2.1 d (by omega) (by omega) ho2 (tgt := t) (by omega) ?_
          exact hS _ (List.mem_singleton.mpr rfl) ad ls H locs kc ks h1 h2 hl hI hv k1 k2
        · rename_i ht9
          cases h
          rw [ce_nth_eq] at ht9
          have hge := List.getElem?_eq_none_iff.mp ht9
          refine lv_tableOut hC.1 hC.2.1 d (Or.inr (by omega)) hd ?_
          exact hS _ (List.mem_singleton.mpr rfl) ad ls H locs kc ks h1 h2 hl hI hv k1 k2
      · cases h
    · cases h
  · cases h
/-- a switch over numbers that are named -/
def ce_ls (t : Term) (ks : List (Int × Nat)) (L : ce_L) (G : ce_G) : List (Nat × ce_L × ce_G) := (ks.filter fun k => !(ce_ne G.1 t k.1)).map fun k => (k.2, L, ((t, 0, k.1) :: (t, 1, k.1) :: G.1, G.2))
def ce_lsw (dflt : Nat) (ks : List (Int × Nat)) : ce_P := fun L G => match L.2 with
  | .inl (.inr t) :: r => match ks.any fun k => ce_ge G.1 t k.1 && ce_le G.1 t k.1 with
    | true => some (ce_ls t ks (L.1, r) G)
    | false => some ((dflt, (L.1, r), (ks.map (fun k => (t, 2, k.1)) ++ G.1, G.2)) :: ce_ls t ks (L.1, r) G)
  | _ => none
theorem ce_off_hit {l : List (Int × Int)} {da k o : Int} (hn : ∀ a b, (a, o) ∈ l → (a, b) ∈ l → b = o) (h : (k, o) ∈ l) : Op.lookupswitch.offset l da k = o := by
  induction l with
  | nil => cases h
  | cons q r ih =>
    obtain ⟨a, o1⟩ := q
    rw [Op.lookupswitch.offset_cons]
    split
    · rename_i ha
      subst ha
      exact hn _ _ h List.mem_cons_self
    · rename_i ha
      rcases List.mem_cons.mp h with h | h
      · cases h; exact absurd rfl ha
      · exact ih (fun a b x y => hn a b (List.mem_cons_of_mem _ x) (List.mem_cons_of_mem _ y)) h
theorem ce_off_miss {l : List (Int × Int)} {da k : Int} (h : ∀ q ∈ l, q.1 ≠ k) : Op.lookupswitch.offset l da k = da := by
  induction l with
  | nil => rfl
  | cons q r ih =>
    obtain ⟨a, o1⟩ := q
    rw [Op.lookupswitch.offset_cons, if_neg (h _ List.mem_cons_self)]
    exact ih fun q hq => h q (List.mem_cons_of_mem _ hq)
theorem ok_lsw {da : Int} {ps : Array (Int × Int)} {len dflt : Nat} {ks : List (Int × Nat)} (d : decode cc pc = .ok (.lookupswitch da ps, len)) (hd : (pc : Int) + da = (dflt : Int)) (hp : (ps.toList.zip (ps.toList.drop 1)).all (fun (a, next) => a.1 < next.1) = true) (ho : ks.map (fun k => (k.1, (k.2 : Int) - (pc : Int))) = ps.toList)
    (hu : ∀ a ∈ ks, ∀ b ∈ ks, a.1 = b.1 → a.2 = b.2) : ce_OK own nm cc nL ret ht pc (ce_lsw dflt ks) := by
  intro z p l e R s m args below meth c Q ad0 n0 hC L G S h hS ad ls H locs kc kS h1 h2 hl hI hv k1 k2
  obtain ⟨lo, st⟩ := L
  simp only [ce_lsw] at h
  split at h
  · rename_i t r
    show W _ _ _ _ _ _ _ _ _ _ _ _ _ _ _ (F0 m pc ls (.int (ce_I z t) :: r.map (ce_v z ad)))
    by_cases hm : ∃ k ∈ ks, (ce_I z t).toInt = k.1
    · obtain ⟨k, hk, hkt⟩ := hm
      have hin : (k.2, (lo, r), ((t, 0, k.1) :: (t, 1, k.1) :: G.1, G.2)) ∈ ce_ls t ks (lo, r) G := by
        refine List.mem_map.mpr ⟨k, List.mem_filter.mpr ⟨hk, ?_⟩, rfl⟩
        cases hq : ce_ne G.1 t k.1
        · rfl
        · exact absurd hkt (ce_ne_ok hI.2.2.2 hq)
      have hin2 : (k.2, (lo, r), ((t, 0, k.1) :: (t, 1, k.1) :: G.1, G.2)) ∈ S := by
        split at h
        · cases h; exact hin
        · cases h; exact List.mem_cons_of_mem _ hin
      have hoff : Op.lookupswitch.offset ps.toList da (ce_I z t).toInt = (k.2 : Int) - (pc : Int) := by
        rw [← ho]
        refine ce_off_hit (fun a b ha hb => ?_) (List.mem_map.mpr ⟨k, hk, by rw [hkt]⟩)
        obtain ⟨x, hx, ex⟩ := List.mem_map.mp ha
        obtain ⟨y, hy, ey⟩ := List.mem_map.mp hb
        simp only [Prod.mk.injEq] at ex ey
        have := hu x hx y hy (ex.1.trans ey.1.symm)
        omega
      refine lv_lookup hC.1 hC.2.1 d hp hoff (tgt := k.2) (by omega) ?_
      exact hS _ hin2 ad ls H locs kc kS h1 h2 hl ⟨hI.1, hI.2.1, hI.2.2.1, ce_sat_cons (ce_fa0 (by omega)) (ce_sat_cons (ce_fa1 (by omega)) hI.2.2.2)⟩ hv k1 k2
    · have hno : ∀ k ∈ ks, (ce_I z t).toInt ≠ k.1 := fun k hk he => hm ⟨k, hk, he⟩
      split at h
      · rename_i ha
        obtain ⟨k, hk, hb⟩ := List.any_eq_true.mp ha
        simp only [Bool.and_eq_true] at hb
        have a1 := ce_ge_ok hI.2.2.2 hb.1
        have a2 := ce_le_ok hI.2.2.2 hb.2
        exact absurd (by omega) (hno k hk)
      · cases h
        have hoff : Op.lookupswitch.offset ps.toList da (ce_I z t).toInt = da := by
          rw [← ho]
          refine ce_off_miss fun q hq => ?_
          obtain ⟨x, hx, rfl⟩ := List.mem_map.mp hq
          exact fun he => hno x hx he.symm
        refine lv_lookup hC.1 hC.2.1 d hp hoff hd ?_
        refine hS _ List.mem_cons_self ad ls H locs kc kS h1 h2 hl ⟨hI.1, hI.2.1, hI.2.2.1, fun f hf => ?_⟩ hv k1 k2
        rcases List.mem_append.mp hf with hf | hf
        · obtain ⟨x, hx, rfl⟩ := List.mem_map.mp hf
          exact ce_fa2 (hno x hx)
        · exact hI.2.2.2 f hf
  · cases h
end Misc
end
section
/-! calls: what a method gives for a state, what a call does with it, and the runner -/
abbrev ce_O : Type := Option ce_SV ⊕ Nat
abbrev ce_R : Type := List (ce_O × ce_G)
abbrev ce_C : Type := List ce_SV → ce_G → Option ce_R
abbrev ce_Y : Type := List (Nat × ce_L × ce_G)
abbrev ce_N : Type := ce_L → ce_G → Option (ce_R × ce_Y)
def ce_ex : Nat → String
  | 0 => "java/lang/IllegalArgumentException"
  | 1 => "java/lang/IndexOutOfBoundsException"
  | 2 => "java/util/NoSuchElementException"
  | _ => "java/lang/UnsupportedOperationException"
def ce_Pc (z : ce_U) (ad : Nat → Nat) (avs : List ce_SV) (G : ce_G) : Array Value → State → Prop := fun a U => a = (avs.map (ce_v z ad)).toArray ∧ ce_CK z U ∧ ce_Inv z ad G U.heap
def ce_B (z : ce_U) (ad : Nat → Nat) (n0 : Nat) (G : ce_G) (ad' : Nat → Nat) (H : Heap) : Prop := (∀ k, k < n0 → ad' k = ad k) ∧ n0 ≤ G.2.1.length ∧ ce_Inv z ad' G H
def ce_Qc (z : ce_U) (ad : Nat → Nat) (n0 : Nat) (S : ce_R) : Array Value → State → Outcome → State → Prop := fun _ st oc t => (∃ (o : Option ce_SV) (G : ce_G) (ad' : Nat → Nat), ((Sum.inl o : ce_O), G) ∈ S ∧ oc = .returned (o.map (ce_v z ad')) ∧ ce_B z ad n0 G ad' t.heap) ∧ va_F (ce_A z) st t
def ce_XC (z : ce_U) (ad : Nat → Nat) (n0 : Nat) (S : ce_R) : String → State → State → Prop := fun E st t => (∃ (k : Nat) (G : ce_G) (ad' : Nat → Nat), ((Sum.inr k : ce_O), G) ∈ S ∧ E = ce_ex k ∧ ce_B z ad n0 G ad' t.heap) ∧ va_F (ce_A z) st t
def ce_Qm (z : ce_U) (R : Room) (s : State) (args : Array Value) (below : List Frame) (ad0 : Nat → Nat) (n0 : Nat) (T : ce_R) : State → Prop := vx_MQ below (ce_Qc z ad0 n0 T) (ce_XC z ad0 n0 T) args s R.cells R.slots (ce_A z)
theorem ce_Pc_blind {z : ce_U} {ad : Nat → Nat} {avs : List ce_SV} {G : ce_G} : FrameBlind (ce_Pc z ad avs G) := fun _ _ _ _ h => ⟨h.1, ce_blind h.2.1, h.2.2⟩
theorem ce_gi2 {b : Cond} (h : b ∈ ce_GW) : GoodIn ce_GW (b :: ce_GW) := by
  intro w hw
  have h2 : w ∈ ce_GW := by
    rcases List.mem_cons.mp hw with e | e
    · rw [e]; exact h
    · exact e
  exact ⟨h2, good_of_word (ce_good h2)⟩
theorem ce_gia {a ws : List Cond} (ha : ∀ w ∈ a, w ∈ ce_GW) (h : GoodIn ce_GW ws) : GoodIn ce_GW (a ++ ws) := by
  intro w hw
  rcases List.mem_append.mp hw with e | e
  · exact ⟨ha w e, good_of_word (ce_good (ha w e))⟩
  · exact h w e
/-- pop n values, the first one told first -/
def ce_take : Nat → List ce_SV → List ce_SV → Option (List ce_SV × List ce_SV)
  | 0, st, acc => some (acc, st)
  | _ + 1, [], _ => none
  | n + 1, v :: st, acc => ce_take n st (v :: acc)
theorem ce_take_ok : ∀ (n : Nat) (st acc as r : List ce_SV), ce_take n st acc = some (as, r) → ∃ b, as = b.reverse ++ acc ∧ st = b ++ r ∧ b.length = n
  | 0, st, acc, as, r, h => by cases h; exact ⟨[], rfl, rfl, rfl⟩
  | n + 1, [], acc, as, r, h => by cases h
  | n + 1, v :: st, acc, as, r, h => by
    obtain ⟨b, h1, h2, h3⟩ := ce_take_ok n st (v :: acc) as r h
    exact ⟨v :: b, by rw [h1]; simp, by rw [h2]; rfl, by simp [h3]⟩
theorem ce_take_st {n : Nat} {st as r : List ce_SV} (h : ce_take n st [] = some (as, r)) : st = as.reverse ++ r ∧ as.length = n := by
  obtain ⟨b, h1, h2, h3⟩ := ce_take_ok n st [] as r h
  rw [List.append_nil] at h1
  exact ⟨by rw [h1, List.reverse_reverse]; exact h2, by rw [h1, List.length_reverse]; exact h3⟩
def ce_wt : List ce_SV → Nat
  | [] => 0
  | v :: r => (match ce_c2 v with | true => 2 | false => 1) + ce_wt r
theorem ce_cat2 (v : Value) : v.category ≤ 2 := by cases v <;> first | exact Nat.le_succ 1 | exact Nat.le_refl 2
theorem ce_wt_ok {z : ce_U} {s : State} (h : ce_CK z s) {ad : Nat → Nat} : ∀ r : List ce_SV, ((r.map (ce_v z ad)).map fun v => v.category).sum ≤ ce_wt r
  | [] => Nat.le_refl _
  | v :: r => by
    have ih := ce_wt_ok h (ad := ad) r
    simp only [List.map_cons, List.sum_cons, ce_wt]
    split
    · have := ce_cat2 (ce_v z ad v); omega
    · rename_i hb; have := ce_cat h (ad := ad) hb; omega
/-- a run of a callee, to the pc behind -/
def ce_Rn (nx : Nat) (p : Program) (l : Launch) (e : Env) (R : Room) (s : State) (m : MethodId) (args : Array Value) (below : List Frame) (meth : Method) (c : Code) (H : Heap) (locs : List Loc) (cells slots mc ms : Nat) (g : JFrame) (rest : List Value) (Qa : State → Outcome → State → Prop) (XC : String → State → State → Prop) (free : Addr → Prop) : Prop :=
  ∀ T : State, T.heap = H → Stand p l e R s m args below meth c T locs cells slots →
    (∃ (v : Option Value) (st₀ t T' : State) (L : List Loc), st₀.heap = H ∧ Stand p l e R s m args below meth c T' (locs ++ L) (cells + mc) (slots + ms) ∧ (∀ q ∈ L, free q.base) ∧ T'.heap = t.heap ∧ T'.vm = t.vm ∧ Qa st₀ (.returned v) t ∧
      Goes p e below T g T' { g with pc := nx, stack := v.toList ++ rest }) ∨
    (∃ (q : Addr) (st₀ t T' : State) (L : List Loc) (E : String) (ce : Cell), st₀.heap = H ∧ Stand p l e R s m args below meth c T' (locs ++ L) (cells + mc) (slots + ms) ∧ (∀ z ∈ L, free z.base) ∧ T'.heap = t.heap ∧ T'.vm = t.vm ∧ XC E st₀ t ∧ t.heap[q]? = some ce ∧ ce.vm = .none ∧ s.vm.findClass E = some ce.cls ∧
      Steps p.tables e below (T.setTop g) ((T'.setTop { g with stack := rest }).pushFrame (.throwing q)))
theorem ce_after {p : Program} {l : Launch} {e : Env} {R : Room} {s : State} {m : MethodId} {args : Array Value} {below : List Frame} {meth : Method} {c : Code} {H : Heap} {locs : List Loc} {cells slots : Nat} {Q : State → Prop} {mc ms pc nx n : Nat} {ls : Array Slot} {st0 rest : List Value} {z : ce_U} {ad : Nat → Nat} {S : ce_R} {aa : Array Value}
    (hr : ce_Rn nx p l e R s m args below meth c H locs cells slots mc ms (F0 m pc ls st0) rest (ce_Qc z ad n S aa) (ce_XC z ad n S) (ce_A z)) (hS : va_S (ce_A z) s.heap H locs)
    (kx : ∀ (k : Nat) (G : ce_G) (ad' : Nat → Nat) (H1 : Heap) (locs1 : List Loc) (ce : Cell) (q9 : Addr), ((Sum.inr k : ce_O), G) ∈ S → ce_B z ad n G ad' H1 → va_S (ce_A z) s.heap H1 locs1 → H1[q9]? = some ce → ce.vm = .none → s.vm.findClass (ce_ex k) = some ce.cls → vx_W p l e R s m args below meth c H1 locs1 (cells + mc) (slots + ms) Q (F0 m pc ls rest) q9)
    (kk : ∀ (o : Option ce_SV) (G : ce_G) (ad' : Nat → Nat) (H1 : Heap) (locs1 : List Loc), ((Sum.inl o : ce_O), G) ∈ S → ce_B z ad n G ad' H1 → va_S (ce_A z) s.heap H1 locs1 → W p l e R s m args below meth c H1 locs1 (cells + mc) (slots + ms) Q (F0 m nx ls ((o.map (ce_v z ad')).toList ++ rest))) : W p l e R s m args below meth c H locs cells slots Q (F0 m pc ls st0) := by
  intro T hT X
  rcases hr T hT X with ⟨v, st₀, t, T', L, h0, X', hL, e1, e2, ⟨⟨o, G, ad', hm, hv, hB⟩, hF⟩, st⟩ | ⟨q, st₀, t, T', L, E, ce, h0, X', hL, e1, e2, ⟨⟨k, G, ad', hm, hE, hB⟩, hF⟩, hce, hcv, hcl, st⟩
  · cases hv
    obtain ⟨k1, k2, k3⟩ := vx_keep h0 e1 hS (fun _ _ h => h) (fun _ h => h) hL hF
    obtain ⟨t2, a1, b1⟩ := kk o G ad' T'.heap (locs ++ L) hm (by rw [e1]; exact hB) k3 T' rfl X'
    exact ⟨t2, st t2 a1, b1⟩
  · subst hE
    obtain ⟨k1, k2, k3⟩ := vx_keep h0 e1 hS (fun _ _ h => h) (fun _ h => h) hL hF
    obtain ⟨t2, a1, b1⟩ := kx k G ad' T'.heap (locs ++ L) ce q hm (by rw [e1]; exact hB) k3 (by rw [e1]; exact hce) hcv hcl T' rfl X'
    exact ⟨t2, st.trans a1, b1⟩
section Call
variable {own nm : String} {cc : ByteArray} {nL : Nat} {ret : Option FieldType} {ht pc : Nat} {hh : Option (List (Nat × Nat × Nat × Nat))}
/-- what a step of any kind owes: outcomes of the method, and states that it goes on from -/
def ce_OKN (own nm : String) (cc : ByteArray) (nL : Nat) (ret : Option FieldType) (ht : Nat) (hh : Option (List (Nat × Nat × Nat × Nat))) (pc : Nat) (f : ce_N) : Prop :=
  ∀ {z : ce_U} {p : Program} {l : Launch} {e : Env} {R : Room} {s : State} {m : MethodId} {args : Array Value} {below : List Frame} {meth : Method} {c : Code} {ad0 : Nat → Nat} {n0 : Nat},
    ce_CX z p l R s m args meth c own nm cc nL ret ht → (∀ h, hh = some h → c.exceptionTable.toList = tableOf h) → ∀ (T : ce_R) (L : ce_L) (G : ce_G) (X : ce_R) (Y : ce_Y), f L G = some (X, Y) → (∀ x ∈ X, x ∈ T) →
      (∀ y ∈ Y, ce_WS z p l e R s m args below meth c (ce_Qm z R s args below ad0 n0 T) nL ad0 n0 y.1 y.2.1 y.2.2) → ce_WS z p l e R s m args below meth c (ce_Qm z R s args below ad0 n0 T) nL ad0 n0 pc L G
def ce_li (f : ce_P) : ce_N := fun L G => match f L G with
  | some S => some ([], S)
  | none => none
theorem ok_li {f : ce_P} (h : ce_OK own nm cc nL ret ht pc f) : ce_OKN own nm cc nL ret ht hh pc (ce_li f) := by
  intro z p l e R s m args below meth c ad0 n0 hC hT T L G X Y hf hX hY
  simp only [ce_li] at hf
  split at hf
  · rename_i S hS
    cases hf
    exact h hC L G _ hS hY
  · cases hf
/-- a return -/
def ce_ret0 : ce_N := fun L G => match L.2 with
  | [] => some ([(.inl none, G)], [])
  | _ => none
def ce_ret1 (ty : FieldType) : ce_N := fun L G => match L.2 with
  | [v] => match ce_fit ty v with
    | true => some ([(.inl (some v), G)], [])
    | false => none
  | _ => none
theorem ok_ret0 (d : decode cc pc = .ok (.return_, 1)) (hr : ret = none) : ce_OKN own nm cc nL ret ht hh pc ce_ret0 := by
  intro z p l e R s m args below meth c ad0 n0 hC hT T L G X Y hf hX hY ad ls H locs kc ks h1 h2 hl hI hv k1 k2
  obtain ⟨lo, st⟩ := L
  simp only [ce_ret0] at hf
  split at hf
  · cases hf
    refine W.widen (k := R.cells) (n := R.slots) (by omega) (by omega) (vx_ret ?_)
    exact W.vret hC.1 hC.2.1 (hC.2.2.2.2.2.2.1.trans hr) (fun t ht9 hW => ⟨⟨none, G, ad, hX _ (List.mem_singleton.mpr rfl), rfl, h1, h2, by rw [ht9]; exact hI⟩, hv.F ht9⟩) hv.2.2 d hC.2.2.2.2.2.2.2.1
  · cases hf
def ce_reti (ty : FieldType) : ce_N := fun L G => match L.2 with
  | .inl _ :: _ => ce_ret1 ty L G
  | _ => none
theorem ok_reti {ty : FieldType} (d : decode cc pc = .ok (.ireturn, 1)) (hr : ret = some ty) : ce_OKN own nm cc nL ret ht hh pc (ce_reti ty) := by
  intro z p l e R s m args below meth c ad0 n0 hC hT T L G X Y hf hX hY ad ls H locs kc ks h1 h2 hl hI hv k1 k2
  obtain ⟨lo, st⟩ := L
  simp only [ce_reti, ce_ret1] at hf
  split at hf
  · rename_i i r
    split at hf
    · rename_i v hst
      split at hf
      · rename_i hfit
        cases hf
        obtain ⟨rfl, rfl⟩ := List.cons.inj hst
        refine W.widen (k := R.cells) (n := R.slots) (by omega) (by omega) (vx_ret ?_)
        exact W.zret (v := ce_vi z i) hC.1 hC.2.1 (hC.2.2.2.2.2.2.1.trans hr) (ce_fit_ok (ce_CXK hC) (ad := ad) hfit).1 (fun t ht9 hW => ⟨⟨some (.inl i), G, ad, hX _ (List.mem_singleton.mpr rfl), rfl, h1, h2, by rw [ht9]; exact hI⟩, hv.F ht9⟩) hv.2.2 d hC.2.2.2.2.2.2.2.1
      · cases hf
    · cases hf
  · cases hf
def ce_retl : ce_N := fun L G => match L.2 with
  | .inr (.inl _) :: _ => ce_ret1 .long L G
  | _ => none
theorem ok_retl (d : decode cc pc = .ok (.lreturn, 1)) (hr : ret = some .long) : ce_OKN own nm cc nL ret ht hh pc ce_retl := by
  intro z p l e R s m args below meth c ad0 n0 hC hT T L G X Y hf hX hY ad ls H locs kc ks h1 h2 hl hI hv k1 k2
  obtain ⟨lo, st⟩ := L
  simp only [ce_retl, ce_ret1] at hf
  split at hf
  · rename_i i r
    split at hf
    · rename_i v hst
      split at hf
      · rename_i hfit
        cases hf
        obtain ⟨rfl, rfl⟩ := List.cons.inj hst
        refine W.widen (k := R.cells) (n := R.slots) (by omega) (by omega) (vx_ret ?_)
        exact W.lret (v := ce_vl z i) hC.1 hC.2.1 (hC.2.2.2.2.2.2.1.trans hr) (fun t ht9 hW => ⟨⟨some (.inr (.inl i)), G, ad, hX _ (List.mem_singleton.mpr rfl), rfl, h1, h2, by rw [ht9]; exact hI⟩, hv.F ht9⟩) hv.2.2 d hC.2.2.2.2.2.2.2.1
      · cases hf
    · cases hf
  · cases hf
def ce_isR2 : ce_SV → Bool
  | .inr (.inr (.inl (.inl _))) => true
  | .inr (.inr (.inl (.inr j))) => Nat.blt j 7
  | .inr (.inr (.inr .null)) => true
  | _ => false
theorem ce_isR2_ok {z : ce_U} {s : State} (hK : ce_CK z s) {ad : Nat → Nat} {v : ce_SV} (h : ce_isR2 v = true) : ce_v z ad v = .null ∨ ∃ a, ce_v z ad v = .ref a := by
  match v, h with
  | .inr (.inr (.inl (.inl k))), _ => exact Or.inr ⟨ad k, rfl⟩
  | .inr (.inr (.inl (.inr j))), h =>
    obtain ⟨a, ha⟩ := ce_ext hK j (Nat.lt_of_succ_le (Nat.le_of_ble_eq_true h))
    exact Or.inr ⟨a, ha⟩
  | .inr (.inr (.inr .null)), _ => exact Or.inl rfl
def ce_reta : ce_N := fun L G => match L.2 with
  | [v] => match ce_isR2 v with
    | true => some ([(.inl (some v), G)], [])
    | false => none
  | _ => none
theorem ok_reta {rt : FieldType} (d : decode cc pc = .ok (.areturn, 1)) (hr : ret = some rt) (hrt : (∃ n, rt = .object n) ∨ ∃ t, rt = .array t) : ce_OKN own nm cc nL ret ht hh pc ce_reta := by
  intro z p l e R s m args below meth c ad0 n0 hC hT T L G X Y hf hX hY ad ls H locs kc ks h1 h2 hl hI hv k1 k2
  obtain ⟨lo, st⟩ := L
  simp only [ce_reta] at hf
  split at hf
  · rename_i v0 v
    split at hf
    · rename_i hfit
      cases hf
      refine W.widen (k := R.cells) (n := R.slots) (by omega) (by omega) (vx_ret ?_)
      exact W.aret (v := ce_v z ad v) hC.1 hC.2.1 (hC.2.2.2.2.2.2.1.trans hr) hrt (ce_isR2_ok (ce_CXK hC) hfit) (fun t ht9 hW => ⟨⟨some v, G, ad, hX _ (List.mem_singleton.mpr rfl), rfl, h1, h2, by rw [ht9]; exact hI⟩, hv.F ht9⟩) hv.2.2 d hC.2.2.2.2.2.2.2.1
    · cases hf
  · cases hf
def ce_retc (k : Value) : ce_N := fun L G => match L.2 with
  | [.inr (.inr (.inr v))] => match decide (v = k) with
    | true => some ([(.inl (some (.inr (.inr (.inr v)))), G)], [])
    | false => none
  | _ => none
theorem ok_retf {x : UInt32} (d : decode cc pc = .ok (.freturn, 1)) (hr : ret = some .float) : ce_OKN own nm cc nL ret ht hh pc (ce_retc (.float x)) := by
  intro z p l e R s m args below meth c ad0 n0 hC hT T L G X Y hf hX hY ad ls H locs kc ks h1 h2 hl hI hv k1 k2
  obtain ⟨lo, st⟩ := L
  simp only [ce_retc] at hf
  split at hf
  · rename_i v0 v
    split at hf
    · rename_i hfit
      cases hf
      have hfit := of_decide_eq_true hfit
      subst hfit
      refine W.widen (k := R.cells) (n := R.slots) (by omega) (by omega) (vx_ret ?_)
      exact W.fret (v := x) hC.1 hC.2.1 (hC.2.2.2.2.2.2.1.trans hr) (fun t ht9 hW => ⟨⟨some (.inr (.inr (.inr (.float x)))), G, ad, hX _ (List.mem_singleton.mpr rfl), rfl, h1, h2, by rw [ht9]; exact hI⟩, hv.F ht9⟩) hv.2.2 d hC.2.2.2.2.2.2.2.1
    · cases hf
  · cases hf
theorem ok_retd {x : UInt64} (d : decode cc pc = .ok (.dreturn, 1)) (hr : ret = some .double) : ce_OKN own nm cc nL ret ht hh pc (ce_retc (.double x)) := by
  intro z p l e R s m args below meth c ad0 n0 hC hT T L G X Y hf hX hY ad ls H locs kc ks h1 h2 hl hI hv k1 k2
  obtain ⟨lo, st⟩ := L
  simp only [ce_retc] at hf
  split at hf
  · rename_i v0 v
    split at hf
    · rename_i hfit
      cases hf
      have hfit := of_decide_eq_true hfit
      subst hfit
      refine W.widen (k := R.cells) (n := R.slots) (by omega) (by omega) (vx_ret ?_)
      exact W.dret (v := x) hC.1 hC.2.1 (hC.2.2.2.2.2.2.1.trans hr) (fun t ht9 hW => ⟨⟨some (.inr (.inr (.inr (.double x)))), G, ad, hX _ (List.mem_singleton.mpr rfl), rfl, h1, h2, by rw [ht9]; exact hI⟩, hv.F ht9⟩) hv.2.2 d hC.2.2.2.2.2.2.2.1
    · cases hf
  · cases hf
def ce_drop (i : Nat) (L : List (Nat × ce_SV)) : List (Nat × ce_SV) := L.filter fun x => !(Nat.beq x.1 i) && !(Nat.beq (x.1 + 1) i && ce_c2 x.2)
/-- what a call goes on with -/
def ce_out (L : List (Nat × ce_SV)) (rest : List ce_SV) (r q nx : Nat) (ca : (Nat × Nat × Nat) ⊕ Bool) : ce_R → Option (ce_R × ce_Y)
  | [] => some ([], [])
  | (o, G) :: t => match ce_out L rest r q nx ca t with
    | none => none
    | some XY => match o with
      | .inl none => some (XY.1, (nx, (L, rest), (G.1, G.2.1, r, q)) :: XY.2)
      | .inl (some v) => some (XY.1, (nx, (L, v :: rest), (G.1, G.2.1, r, q)) :: XY.2)
      | .inr k => match ca with
        | .inr true => some ((.inr k, G) :: XY.1, XY.2)
        | .inr false => none
        | .inl h => match Nat.beq k h.1 with
          | true => some (XY.1, (h.2.1, (ce_drop h.2.2 L, []), (G.1, G.2.1, r, q)) :: XY.2)
          | false => none
theorem ce_out_ok {L : List (Nat × ce_SV)} {rest : List ce_SV} {r q nx : Nat} {ca : (Nat × Nat × Nat) ⊕ Bool} : ∀ (S : ce_R) (X : ce_R) (Y : ce_Y), ce_out L rest r q nx ca S = some (X, Y) →
    (∀ G, ((Sum.inl none : ce_O), G) ∈ S → (nx, (L, rest), (G.1, G.2.1, r, q)) ∈ Y) ∧ (∀ v G, ((Sum.inl (some v) : ce_O), G) ∈ S → (nx, (L, v :: rest), (G.1, G.2.1, r, q)) ∈ Y) ∧
    (∀ k G, ((Sum.inr k : ce_O), G) ∈ S → (ca = .inr true ∧ ((Sum.inr k : ce_O), G) ∈ X) ∨ ∃ h, ca = .inl h ∧ k = h.1 ∧ (h.2.1, (ce_drop h.2.2 L, []), (G.1, G.2.1, r, q)) ∈ Y)
  | [], X, Y, h => ⟨fun _ h => (nomatch h), fun _ _ h => (nomatch h), fun _ _ h => (nomatch h)⟩
  | (o, G0) :: t, X, Y, h => by
    simp only [ce_out] at h
    split at h
    · cases h
    · rename_i XY hXY
      obtain ⟨i1, i2, i3⟩ := ce_out_ok t XY.1 XY.2 hXY
      split at h
      · cases h
        refine ⟨fun G hG => ?_, fun v G hG => ?_, fun k G hG => ?_⟩
        · rcases List.mem_cons.mp hG with e | e
          · cases e; exact List.mem_cons_self
          · exact List.mem_cons_of_mem _ (i1 G e)
        · rcases List.mem_cons.mp hG with e | e
          · cases e
          · exact List.mem_cons_of_mem _ (i2 v G e)
        · rcases List.mem_cons.mp hG with e | e
          · cases e
          · rcases i3 k G e with a | ⟨h, a1, a2, a3⟩
            · exact Or.inl a
            · exact Or.inr ⟨h, a1, a2, List.mem_cons_of_mem _ a3⟩
      · cases h
        refine ⟨fun G hG => ?_, fun v G hG => ?_, fun k G hG => ?_⟩
        · rcases List.mem_cons.mp hG with e | e
          · cases e
          · exact List.mem_cons_of_mem _ (i1 G e)
        · rcases List.mem_cons.mp hG with e | e
          · cases e; exact List.mem_cons_self
          · exact List.mem_cons_of_mem _ (i2 v G e)
        · rcases List.mem_cons.mp hG with e | e
          · cases e
          · rcases i3 k G e with a | ⟨h, a1, a2, a3⟩
            · exact Or.inl a
            · exact Or.inr ⟨h, a1, a2, List.mem_cons_of_mem _ a3⟩
      · rename_i k0
        split at h
        · rename_i hca
          cases h
          refine ⟨fun G hG => ?_, fun v G hG => ?_, fun k G hG => ?_⟩
          · rcases List.mem_cons.mp hG with e | e
            · cases e
            · exact i1 G e
          · rcases List.mem_cons.mp hG with e | e
            · cases e
            · exact i2 v G e
          · rcases List.mem_cons.mp hG with e | e
            · cases e; exact Or.inl ⟨rfl, List.mem_cons_self⟩
            · rcases i3 k G e with a | ⟨h, a1, a2, a3⟩
              · exact Or.inl ⟨rfl, List.mem_cons_of_mem _ a.2⟩
              · cases a1
        · cases h
        · rename_i h9
          split at h
          · rename_i hb
            cases h
            refine ⟨fun G hG => ?_, fun v G hG => ?_, fun k G hG => ?_⟩
            · rcases List.mem_cons.mp hG with e | e
              · cases e
              · exact List.mem_cons_of_mem _ (i1 G e)
            · rcases List.mem_cons.mp hG with e | e
              · cases e
              · exact List.mem_cons_of_mem _ (i2 v G e)
            · rcases List.mem_cons.mp hG with e | e
              · cases e; exact Or.inr ⟨h9, rfl, Nat.eq_of_beq_eq_true hb, List.mem_cons_self⟩
              · rcases i3 k G e with a | ⟨h, a1, a2, a3⟩
                · cases a.1
                · exact Or.inr ⟨h, a1, a2, List.mem_cons_of_mem _ a3⟩
          · cases h
def ce_ck (L : List (Nat × ce_SV)) (rest : List ce_SV) (n mc ms r q : Nat) : Bool := Nat.ble (ce_wt rest) 8 && (Nat.ble mc r && (Nat.ble ms q && (L.all (fun x => ce_wv n x.2) && rest.all (ce_wv n))))
def ce_call (na mc ms nx : Nat) (ca : (Nat × Nat × Nat) ⊕ Bool) (F : ce_C) : ce_N := fun L G => match ce_take na L.2 [] with
  | none => none
  | some ar => match ce_ck L.1 ar.2 G.2.1.length mc ms G.2.2.1 G.2.2.2 with
    | false => none
    | true => match F ar.1 G with
      | none => none
      | some S => ce_out L.1 ar.2 (G.2.2.1 - mc) (G.2.2.2 - ms) nx ca S
/-- the call's run, whatever its kind -/
def ce_RU (own nm : String) (cc : ByteArray) (nL : Nat) (ret : Option FieldType) (ht pc na mc ms nx : Nat) (F : ce_C) : Prop :=
  ∀ {z : ce_U} {p : Program} {l : Launch} {e : Env} {R : Room} {s : State} {m : MethodId} {args : Array Value} {below : List Frame} {meth : Method} {c : Code}, ce_CX z p l R s m args meth c own nm cc nL ret ht →
    ∀ (ad : Nat → Nat) (as rest : List ce_SV) (G : ce_G) (S : ce_R) (ls : Array Slot) (H : Heap) (locs : List Loc) (kc ks : Nat), F as G = some S → as.length = na → ls.size = nL → ce_Inv z ad G H → va_S (ce_A z) s.heap H locs → ((rest.map (ce_v z ad)).map fun v => v.category).sum ≤ 8 → kc + mc ≤ R.cells → ks + ms ≤ R.slots →
      ∃ aa, ce_Rn nx p l e R s m args below meth c H locs kc ks mc ms (F0 m pc ls ((as.map (ce_v z ad)).reverse ++ rest.map (ce_v z ad))) (rest.map (ce_v z ad)) (ce_Qc z ad G.2.1.length S aa) (ce_XC z ad G.2.1.length S) (ce_A z)
/-- what catches at this pc, if anything does: the first row of the table, its handler's first step being a store -/
def ce_CA (own : String) (cc : ByteArray) (nL : Nat) (hh : Option (List (Nat × Nat × Nat × Nat))) (pc : Nat) : (Nat × Nat × Nat) ⊕ Bool → Prop
  | .inr true => hh = some []
  | .inr false => True
  | .inl h => ∃ (h0 : List (Nat × Nat × Nat × Nat)) (x : ExceptionTableEntry) (suf : List ExceptionTableEntry) (k : Fin 4), hh = some h0 ∧ tableOf h0 = x :: suf ∧ covers x pc = true ∧ x.catchType ≠ 0 ∧ Cond.classLink own x.catchType (ce_ex h.1) ∈ ce_GW ∧ Cond.castable (ce_ex h.1) (ce_ex h.1) ∈ ce_NG ∧ ((decode cc x.handlerPc = .ok (.astore_n k, 1) ∧ (k : Nat) = h.2.2 ∧ x.handlerPc + 1 = h.2.1) ∨ (decode cc x.handlerPc = .ok (.astore h.2.2, 2) ∧ x.handlerPc + 2 = h.2.1)) ∧ h.2.2 < nL
theorem ok_call {na mc ms nx : Nat} {ca : (Nat × Nat × Nat) ⊕ Bool} {F : ce_C} (hF : ce_RU own nm cc nL ret ht pc na mc ms nx F) (hca : ce_CA own cc nL hh pc ca) : ce_OKN own nm cc nL ret ht hh pc (ce_call na mc ms nx ca F) := by
  intro z p l e R s m args below meth c ad0 n0 hC hT T L G X Y hf hX hY ad ls H locs kc ks h1 h2 hl hI hv k1 k2
  obtain ⟨lo, st⟩ := L
  simp only [ce_call] at hf
  split at hf
  · cases hf
  · rename_i ar har
    obtain ⟨as, rest⟩ := ar
    dsimp only at hf
    split at hf
    · cases hf
    · rename_i hck
      simp only [ce_ck, Bool.and_eq_true] at hck
      obtain ⟨b1, b2, b3, b4, b5⟩ := hck
      have b1 := Nat.le_of_ble_eq_true b1
      have b2 := Nat.le_of_ble_eq_true b2
      have b3 := Nat.le_of_ble_eq_true b3
      split at hf
      · cases hf
      · rename_i S hS
        obtain ⟨o1, o2, o3⟩ := ce_out_ok S X Y hf
        obtain ⟨est, elen⟩ := ce_take_st har
        subst est
        obtain ⟨aa, hr⟩ := hF hC (e := e) (below := below) ad as rest G S ls H locs kc ks hS elen hl.1 hI hv (Nat.le_trans (ce_wt_ok (ce_CXK hC) rest) b1) (by omega) (by omega)
        show W _ _ _ _ _ _ _ _ _ _ _ _ _ _ _ (F0 m pc ls ((as.reverse ++ rest).map (ce_v z ad)))
        rw [List.map_append, List.map_reverse]
        have hlo : ∀ (G1 : ce_G) (ad1 : Nat → Nat) (H1 : Heap), ce_B z ad G.2.1.length G1 ad1 H1 → lo.map (fun x => (x.1, ce_v z ad1 x.2)) = lo.map (fun x => (x.1, ce_v z ad x.2)) := fun G1 ad1 H1 hB => ce_loc_congr hB.1 b4
        have hre : ∀ (G1 : ce_G) (ad1 : Nat → Nat) (H1 : Heap), ce_B z ad G.2.1.length G1 ad1 H1 → rest.map (ce_v z ad1) = rest.map (ce_v z ad) := fun G1 ad1 H1 hB => ce_map_congr hB.1 b5
        refine ce_after hr hv (fun k G1 ad1 H1 locs1 ce q9 hm hB hv1 hce hcv hcl => ?_) (fun o G1 ad1 H1 locs1 hm hB hv1 => ?_)
        · rcases o3 k G1 hm with ⟨hn, hx⟩ | ⟨h, hca9, hk, hy⟩
          · subst hn
            have hT0 : c.exceptionTable.toList = [] := by rw [hT [] hca]; rfl
            refine vx_widen (k := R.cells) (n := R.slots) (by omega) (by omega) ?_
            exact vx_out (by rw [hT0]; exact fun x hx => nomatch hx) hC.2.2.2.2.2.2.2.1 hce hcv hcl (fun t ht9 hW => ⟨⟨k, G1, ad1, hX _ hx, rfl, fun i hi => (hB.1 i (Nat.lt_of_lt_of_le hi h2)).trans (h1 i hi), Nat.le_trans h2 hB.2.1, by rw [ht9]; exact hB.2.2⟩, hv1.F ht9⟩) hv1.2.2 (Nat.le_refl _) (Nat.le_refl _)
          · subst hca9
            subst hk
            obtain ⟨hh0, x, suf, kk, t0, t1, t2, t3, t4, t5, t6, t10⟩ := hca
            refine vx_catch (name := ce_ex h.1) hC.2.2.2.1 [] x suf (by rw [hT hh0 t0, t1]; rfl) (fun z hz => nomatch hz) t2 t3 (hC.2.2.2.2.1 _ t4) (va_Nw.use rfl ((ce_CXK hC).2.2.2.1.1 _ t5)) hce hcv hcl ?_
            have hgo : ∀ ls' : Array Slot, lv_has ls' nL ((h.2.2, Value.ref q9) :: (lo.map (fun x => (x.1, ce_v z ad x.2))).filter (fun q => !(q.1 == h.2.2) && !(q.1 + 1 == h.2.2 && q.2.category == 2))) → W p l e R s m args below meth c H1 locs1 (kc + mc) (ks + ms) (ce_Qm z R s args below ad0 n0 T) (F0 m h.2.1 ls' []) := fun ls' hl' => by
              refine hY _ hy ad1 ls' H1 locs1 (kc + mc) (ks + ms) (fun i hi => (hB.1 i (Nat.lt_of_lt_of_le hi h2)).trans (h1 i hi)) (Nat.le_trans h2 hB.2.1) (ce_has_sub hl' (fun y hy9 => ?_)) hB.2.2 hv1 (by dsimp only; omega) (by dsimp only; omega)
              obtain ⟨w, hw, rfl⟩ := List.mem_map.mp hy9
              obtain ⟨w1, w2⟩ := List.mem_filter.mp hw
              have e9 : (w.1, ce_v z ad1 w.2) = (w.1, ce_v z ad w.2) := by rw [ce_v_congr hB.1 (List.all_eq_true.mp b4 w w1)]
              rw [e9]
              refine List.mem_cons_of_mem _ (List.mem_filter.mpr ⟨List.mem_map.mpr ⟨w, w1, rfl⟩, ?_⟩)
              simp only [Bool.and_eq_true, Bool.not_eq_true'] at w2
              refine ce_f1 w2.1 (fun hb => ce_cat (ce_CXK hC) ?_)
              have w3 := w2.2
              rw [hb] at w3
              simpa using w3
            rcases t6 with ⟨t7, t8, t9⟩ | ⟨t7, t9⟩
            · refine lv_astore_n (lv := lo.map (fun x => (x.1, ce_v z ad x.2))) hC.1 hC.2.1 t7 t8 hl t10 rfl (fun ls' hl' => ?_)
              rw [t9]
              exact hgo ls' hl'
            · refine lv_astore (lv := lo.map (fun x => (x.1, ce_v z ad x.2))) hC.1 hC.2.1 t7 hl t10 rfl (fun ls' hl' => ?_)
              rw [t9]
              exact hgo ls' hl'
        · cases o with
          | none =>
            have hgo := hY _ (o1 G1 hm) ad1 ls H1 locs1 (kc + mc) (ks + ms) (fun i hi => (hB.1 i (Nat.lt_of_lt_of_le hi h2)).trans (h1 i hi)) (Nat.le_trans h2 hB.2.1) (by rw [hlo G1 ad1 H1 hB]; exact hl) hB.2.2 hv1 (by dsimp only; omega) (by dsimp only; omega)
            rw [hre G1 ad1 H1 hB] at hgo
            exact hgo
          | some v =>
            have hgo := hY _ (o2 v G1 hm) ad1 ls H1 locs1 (kc + mc) (ks + ms) (fun i hi => (hB.1 i (Nat.lt_of_lt_of_le hi h2)).trans (h1 i hi)) (Nat.le_trans h2 hB.2.1) (by rw [hlo G1 ad1 H1 hB]; exact hl) hB.2.2 hv1 (by dsimp only; omega) (by dsimp only; omega)
            rw [List.map_cons, hre G1 ad1 H1 hB] at hgo
            exact hgo
end Call
end
section
/-! the runner: a method's run over its table of steps, and its contract -/
def ce_app (a : ce_R) (b : Option ce_R) : Option ce_R := match a with
  | [] => b
  | x :: t => match b with
    | some r => some ((x :: t) ++ r)
    | none => none
theorem ce_app_ok {a S : ce_R} {b : Option ce_R} (h : ce_app a b = some S) : ∃ r, b = some r ∧ (∀ x ∈ a, x ∈ S) ∧ ∀ x ∈ r, x ∈ S := by
  unfold ce_app at h
  split at h
  · exact ⟨S, h, fun _ h => (nomatch h), fun _ h => h⟩
  · split at h
    · rename_i r
      cases h
      exact ⟨r, rfl, fun x hx => List.mem_append_left _ hx, fun x hx => List.mem_append_right _ hx⟩
    · cases h
def ce_col (g : Nat → ce_L → ce_G → Option ce_R) : ce_Y → Option ce_R
  | [] => some []
  | y :: t => match t with
    | [] => g y.1 y.2.1 y.2.2
    | _ :: _ => match g y.1 y.2.1 y.2.2 with
      | none => none
      | some a => match ce_col g t with
        | none => none
        | some b => some (a ++ b)
theorem ce_col_ok {g : Nat → ce_L → ce_G → Option ce_R} : ∀ (Y : ce_Y) (S : ce_R), ce_col g Y = some S → ∀ y ∈ Y, ∃ Sy, g y.1 y.2.1 y.2.2 = some Sy ∧ ∀ x ∈ Sy, x ∈ S
  | [], S, h, y, hy => nomatch hy
  | y0 :: t, S, h, y, hy => by
    unfold ce_col at h
    split at h
    · have e : y = y0 := List.mem_singleton.mp hy
      rw [e]
      exact ⟨S, h, fun _ h => h⟩
    · split at h
      · cases h
      · rename_i a ha
        split at h
        · cases h
        · rename_i b hb
          cases h
          rcases List.mem_cons.mp hy with e | e
          · rw [e]
            exact ⟨a, ha, fun x hx => List.mem_append_left _ hx⟩
          · obtain ⟨Sy, i1, i2⟩ := ce_col_ok _ b hb y e
            exact ⟨Sy, i1, fun x hx => List.mem_append_right _ (i2 x hx)⟩
/-- a list's first cell is reckoned before it is handed on -/
def ce_fl {α β : Type} (l : List α) (k : List α → β) : β := match l with
  | [] => k []
  | x :: r => k (x :: r)
theorem ce_fl_eq {α β : Type} (l : List α) (k : List α → β) : ce_fl l k = k l := by cases l <;> rfl
def ce_nf {β : Type} (L : ce_L) (G : ce_G) (k : ce_L → ce_G → β) : β := match L, G with
  | (a, b), (x, c, r, q) => ce_fl a fun a => ce_fl b fun b => ce_fl x fun x => ce_fl c fun c => k (a, b) (x, c, r, q)
theorem ce_nf_eq {β : Type} (L : ce_L) (G : ce_G) (k : ce_L → ce_G → β) : ce_nf L G k = k L G := by
  obtain ⟨a, b⟩ := L
  obtain ⟨x, c, r, q⟩ := G
  simp only [ce_nf, ce_fl_eq]
noncomputable def ce_go (tab : Nat → Option ce_N) (n : Nat) : Nat → ce_L → ce_G → Option ce_R :=
  Nat.rec (motive := fun _ => Nat → ce_L → ce_G → Option ce_R) (fun _ _ _ => none)
    (fun _ ih pc L G => match tab pc with
      | none => none
      | some f => ce_nf L G fun L G => match f L G with
        | none => none
        | some (X, Y) => ce_app X (ce_col ih Y)) n
theorem ce_go_succ (tab : Nat → Option ce_N) (n pc : Nat) (L : ce_L) (G : ce_G) : ce_go tab (n + 1) pc L G = match tab pc with
      | none => none
      | some f => ce_nf L G fun L G => match f L G with
        | none => none
        | some (X, Y) => ce_app X (ce_col (ce_go tab n) Y) := rfl
theorem ce_go_ok {own nm : String} {cc : ByteArray} {nL : Nat} {ret : Option FieldType} {ht : Nat} {hh : Option (List (Nat × Nat × Nat × Nat))} {tab : Nat → Option ce_N} (htab : ∀ pc f, tab pc = some f → ce_OKN own nm cc nL ret ht hh pc f)
    {z : ce_U} {p : Program} {l : Launch} {e : Env} {R : Room} {s : State} {m : MethodId} {args : Array Value} {below : List Frame} {meth : Method} {c : Code} {ad0 : Nat → Nat} {n0 : Nat}
    (hC : ce_CX z p l R s m args meth c own nm cc nL ret ht) (hT : ∀ h, hh = some h → c.exceptionTable.toList = tableOf h) (T : ce_R) : ∀ (n pc : Nat) (L : ce_L) (G : ce_G) (S : ce_R), ce_go tab n pc L G = some S → (∀ x ∈ S, x ∈ T) → ce_WS z p l e R s m args below meth c (ce_Qm z R s args below ad0 n0 T) nL ad0 n0 pc L G
  | 0, pc, L, G, S, h, hS => by cases h
  | n + 1, pc, L, G, S, h, hS => by
    rw [ce_go_succ] at h
    split at h
    · cases h
    · rename_i f hf
      rw [ce_nf_eq] at h
      split at h
      · cases h
      · rename_i X Y hXY
        obtain ⟨r, h1, h2, h3⟩ := ce_app_ok h
        refine htab pc f hf hC hT T L G X Y hXY (fun x hx => hS x (h2 x hx)) (fun y hy => ?_)
        obtain ⟨Sy, i1, i2⟩ := ce_col_ok Y r h1 y hy
        exact ce_go_ok htab hC hT T n y.1 y.2.1 y.2.2 Sy i1 (fun x hx => hS x (h3 x (i2 x hx)))
/-- is it known how many places a value takes -/
def ce_ax : ce_SV → Bool
  | .inr (.inr (.inl (.inr j))) => Nat.blt j 8
  | _ => true
def ce_args : Nat → List ce_SV → List (Nat × ce_SV)
  | _, [] => []
  | i, v :: vs => (i, v) :: ce_args (match ce_c2 v with | true => i + 2 | false => i + 1) vs
theorem ce_c2_cat {z : ce_U} {ad : Nat → Nat} {v : ce_SV} (ha : ce_ax v = true) (h : ce_c2 v = true) : (ce_v z ad v).category = 2 := by
  match v, ha, h with
  | .inr (.inl _), _, _ => rfl
  | .inr (.inr (.inl (.inr j))), ha, h =>
    have h1 := Nat.le_of_ble_eq_true ha
    have h2 := Nat.le_of_ble_eq_true h
    omega
  | .inr (.inr (.inr v)), _, h => exact Nat.eq_of_beq_eq_true h
theorem ce_lv_args {z : ce_U} {s : State} (hK : ce_CK z s) {ad : Nat → Nat} : ∀ (vs : List ce_SV) (i : Nat), vs.all ce_ax = true → lv_args i (vs.map (ce_v z ad)) = (ce_args i vs).map fun q => (q.1, ce_v z ad q.2)
  | [], i, h => rfl
  | v :: vs, i, h => by
    simp only [List.all_cons, Bool.and_eq_true] at h
    simp only [List.map_cons, lv_args, ce_args]
    cases hc : ce_c2 v with
    | true =>
      rw [if_pos (ce_c2_cat h.1 hc)]
      exact congrArg _ (ce_lv_args hK vs _ h.2)
    | false =>
      rw [if_neg (by rw [ce_cat hK hc]; decide)]
      exact congrArg _ (ce_lv_args hK vs _ h.2)
theorem ce_sl_len {z : ce_U} {s : State} (hK : ce_CK z s) {ad : Nat → Nat} : ∀ (vs : List ce_SV), (lg_sl (vs.map (ce_v z ad))).length ≤ ce_wt vs
  | [] => Nat.le_refl _
  | v :: vs => by
    have ih := ce_sl_len hK (ad := ad) vs
    simp only [lg_sl] at ih
    simp only [lg_sl, List.map_cons, List.flatMap_cons, List.length_append, ce_wt]
    cases hc : ce_c2 v with
    | true =>
      have : (if (ce_v z ad v).category = 2 then [Slot.val (ce_v z ad v), Slot.second] else [Slot.val (ce_v z ad v)]).length ≤ 2 := by split <;> simp
      simp only []
      omega
    | false =>
      rw [if_neg (by rw [ce_cat hK hc]; decide)]
      simp only [List.length_cons, List.length_nil]
      omega
/-- a method's run from its arguments -/
noncomputable def ce_M (tab : Nat → Option ce_N) (nL mc ms fuel : Nat) : ce_C := fun avs G => match avs.all ce_ax && Nat.ble (ce_wt avs) nL with
  | true => ce_go tab fuel 0 (ce_args 0 avs, []) (G.1, G.2.1, mc, ms)
  | false => none
/-- a method's contract, for every state that the run answers for -/
def ce_MS (l : Launch) (y : MethodName) (hd : Cond) (ht mc ms : Nat) (F : ce_C) : Prop := ∀ (z : ce_U) (ad : Nat → Nat) (avs : List ce_SV) (G : ce_G) (S : ce_R), F avs G = some S →
  vx_Met l y (hd :: ce_GW) ({ frames := 8 + ht, cells := mc, slots := ms, locals := 100 * (ht + 2) } : Room) (ce_Pc z ad avs G) (ce_Qc z ad G.2.1.length S) (ce_XC z ad G.2.1.length S) mc ms (ce_A z)
theorem ce_enter {l : Launch} {y : MethodName} {cc : ByteArray} {nL : Nat} {ret : Option FieldType} {ht mc ms fuel : Nat} {hh : Option (List (Nat × Nat × Nat × Nat))} {tab : Nat → Option ce_N} {hd : Cond} (htab : ∀ pc f, tab pc = some f → ce_OKN y.cls y.name cc nL ret ht hh pc f) (hl : l.stackTraces = false)
    {z : ce_U} {ad : Nat → Nat} {avs : List ce_SV} {G : ce_G} {S : ce_R} (hF : ce_M tab nL mc ms fuel avs G = some S)
    {p : Program} {e : Env} {s : State} {m : MethodId} {args : Array Value} {below : List Frame} {meth : Method} {c : Code} {s₁ : State}
    (B : BodyLoose p l y (headSpec (hd :: ce_GW) ({ frames := 8 + ht, cells := mc, slots := ms, locals := 100 * (ht + 2) } : Room)) cc nL ret e s m args below meth c s₁) (hml : c.maxLocals = nL) (hT : ∀ h, hh = some h → c.exceptionTable.toList = tableOf h) (hP : ce_Pc z ad avs G args s) :
    W p l e (headSpec (hd :: ce_GW) ({ frames := 8 + ht, cells := mc, slots := ms, locals := 100 * (ht + 2) } : Room)).room s m args below meth c s.heap [] 0 0 (vx_MQ below (ce_Qc z ad G.2.1.length S) (ce_XC z ad G.2.1.length S) args s mc ms (ce_A z)) (entryFrame m args nL) := by
  obtain ⟨rfl, hK, hI⟩ := hP
  simp only [ce_M] at hF
  split at hF
  · rename_i hb
    simp only [Bool.and_eq_true] at hb
    have hts := atoms_spec (ws := hd :: ce_GW) B.pre
    have hC : ce_CX z p l ({ frames := 8 + ht, cells := mc, slots := ms, locals := 100 * (ht + 2) } : Room) s m ((avs.map (ce_v z ad)).toArray) meth c y.cls y.name cc nL ret ht :=
      ⟨B.exec, B.bytes, hml, findClass_of_methodNamed B.named, fun w hw => hts w (List.mem_cons_of_mem _ hw), (name_of_methodNamed B.named B.method).1, B.returns, B.notSynchronized, ⟨hl, Nat.le_refl _, Nat.le_refl _⟩, hK⟩
    have hlen : (lg_sl (avs.map (ce_v z ad))).length ≤ nL := Nat.le_trans (ce_sl_len hK avs) (Nat.le_of_ble_eq_true hb.2)
    have hl9 := lv_entry (avs.map (ce_v z ad)) hlen
    rw [ce_lv_args hK avs 0 hb.1] at hl9
    rw [lg_entry_eq]
    exact ce_go_ok htab hC hT S fuel 0 _ _ S hF (fun _ h => h) ad _ s.heap [] 0 0 (fun _ _ => rfl) (Nat.le_refl _) hl9 hI va_S.rf (by show 0 + mc ≤ mc; omega) (by show 0 + ms ≤ ms; omega)
  · cases hF
theorem ce_met {l : Launch} (hl : l.stackTraces = false) {y : MethodName} {cc : ByteArray} {nL : Nat} {ret : Option FieldType} {ht mc ms fuel : Nat} {tab : Nat → Option ce_N} (hy : plainName y.cls = true) (htab : ∀ pc f, tab pc = some f → ce_OKN y.cls y.name cc nL ret ht (some []) pc f) : ce_MS l y (.code y cc nL ret) ht mc ms (ce_M tab nL mc ms fuel) := by
  intro z ad avs G S hF
  refine vx_ofW (cc := cc) (maxL := nL) (ret := ret) hy rfl ?_
  intro p e s m args below meth c s₁ B hml hx0 hP
  exact ce_enter htab hl hF B hml (fun h hh => by cases hh; exact List.eq_nil_iff_forall_not_mem.mpr hx0) hP
theorem ce_metW {l : Launch} (hl : l.stackTraces = false) {y : MethodName} {cc : ByteArray} {nL : Nat} {ret : Option FieldType} {hh : List (Nat × Nat × Nat × Nat)} {ht mc ms fuel : Nat} {tab : Nat → Option ce_N} (hy : plainName y.cls = true) (htab : ∀ pc f, tab pc = some f → ce_OKN y.cls y.name cc nL ret ht (some hh) pc f) : ce_MS l y (.codeWith y cc nL ret hh) ht mc ms (ce_M tab nL mc ms fuel) := by
  intro z ad avs G S hF
  refine vx_ofWH (cc := cc) (maxL := nL) (ret := ret) (hh := hh) hy rfl ?_
  intro p e s m args below meth c s₁ B hml hP
  have hw := atoms_spec (ws := Cond.codeWith y cc nL ret hh :: ce_GW) B.pre _ List.mem_cons_self
  exact ce_enter htab hl hF B hml (fun h e9 => by cases e9; exact vx_table (x := y) B hw) hP
/-! tables of steps -/
def ce_fd : List (Nat × ce_N) → Nat → Option ce_N
  | [], _ => none
  | x :: r, pc => match Nat.beq x.1 pc with
    | true => some x.2
    | false => ce_fd r pc
def ce_tr (n : Nat) (a b : Nat → Option ce_N) : Nat → Option ce_N := fun pc => match Nat.blt pc n with
  | true => a pc
  | false => b pc
theorem ce_fd_ok {P : Nat → ce_N → Prop} : ∀ {t : List (Nat × ce_N)}, (∀ x ∈ t, P x.1 x.2) → ∀ pc f, ce_fd t pc = some f → P pc f
  | [], _, pc, f, e => by cases e
  | x :: r, h, pc, f, e => by
    unfold ce_fd at e
    split at e
    · rename_i hb
      cases e
      rw [← Nat.eq_of_beq_eq_true hb]
      exact h x List.mem_cons_self
    · exact ce_fd_ok (fun y hy => h y (List.mem_cons_of_mem _ hy)) pc f e
theorem ce_tr_ok {P : Nat → ce_N → Prop} {n : Nat} {a b : Nat → Option ce_N} (ha : ∀ pc f, a pc = some f → P pc f) (hb : ∀ pc f, b pc = some f → P pc f) : ∀ pc f, ce_tr n a b pc = some f → P pc f := by
  intro pc f h
  unfold ce_tr at h
  split at h
  · exact ha pc f h
  · exact hb pc f h
theorem ce_fc {P : Nat → ce_N → Prop} {pc : Nat} {f : ce_N} {t : List (Nat × ce_N)} (h : P pc f) (ht : ∀ x ∈ t, P x.1 x.2) : ∀ x ∈ (pc, f) :: t, P x.1 x.2 := fun x hx => by
  rcases List.mem_cons.mp hx with e | e
  · rw [e]; exact h
  · exact ht x e
theorem ce_fn {P : Nat → ce_N → Prop} : ∀ x ∈ ([] : List (Nat × ce_N)), P x.1 x.2 := fun _ h => nomatch h
theorem ca_t {own : String} {cc : ByteArray} {nL pc : Nat} : ce_CA own cc nL (some []) pc (.inr true) := rfl
theorem ca_f {own : String} {cc : ByteArray} {nL pc : Nat} {hh : Option (List (Nat × Nat × Nat × Nat))} : ce_CA own cc nL hh pc (.inr false) := trivial
end
section
/-! the kinds of calls -/
/-- a receiver whose class is known -/
def ce_rc (ci : Nat) (v : ce_SV) (G : ce_G) : Bool := match v with
  | .inr (.inr (.inl (.inl k))) => match ce_obj G k with
    | some x => Nat.beq x.1 ci
    | none => false
  | .inr (.inr (.inl (.inr j))) => Nat.beq ci 0 && (Nat.beq j 2 || Nat.beq j 4)
  | _ => false
theorem ce_rc_ok {z : ce_U} {s : State} {ad : Nat → Nat} {G : ce_G} {H : Heap} {locs : List Loc} (hK : ce_CK z s) (hI : ce_Inv z ad G H) (hv : va_S (ce_A z) s.heap H locs) {ci : Nat} {C : String} {T : u_T} {N : Nat} (hc : ce_cl[ci]? = some (C, T, N)) {v : ce_SV} (h : ce_rc ci v G = true) :
    ∃ b, ce_v z ad v = .ref b ∧ ∃ cell : Cell, H[b]? = some cell ∧ cell.vm.isStatics = false ∧ s.vm.findClass C = some cell.cls := by
  unfold ce_rc at h
  split at h
  · rename_i k
    split at h
    · rename_i x hx
      have hci := Nat.eq_of_beq_eq_true h
      obtain ⟨y1, y2⟩ := x
      dsimp only at hci
      subst hci
      exact ⟨ad k, rfl, va_recv hK.1 hI.1 hc (ce_obj_at (z := z) (ad := ad) hx).2⟩
    · cases h
  · rename_i j
    simp only [Bool.and_eq_true, Bool.or_eq_true] at h
    obtain ⟨h0, h1⟩ := h
    have h0 := Nat.eq_of_beq_eq_true h0
    subst h0
    cases hc
    obtain ⟨aK, aV, e2, e3, e4, e5, hE, -, -⟩ := hK.2.2.2.2.2.2.1
    have hE2 := hE.kept hv.2.1
    rcases h1 with h1 | h1
    · have h1 := Nat.eq_of_beq_eq_true h1
      subst h1
      obtain ⟨cell, c1, c2, c3, -⟩ := (hE2.1 0 (by omega)).1
      exact ⟨aK 0, e2, cell, c1, c2, c3⟩
    · have h1 := Nat.eq_of_beq_eq_true h1
      subst h1
      obtain ⟨cell, c1, c2, c3, -⟩ := (hE2.1 1 (by omega)).1
      exact ⟨aK 1, e4, cell, c1, c2, c3⟩
  · cases h
def ce_CV (ci : Nat) (F : ce_C) : ce_C := fun as G => match as with
  | v :: _ => match ce_rc ci v G with
    | true => F as G
    | false => none
  | [] => none
def ce_isC : ce_SV → Bool
  | .inr (.inr (.inl (.inl _))) => true
  | _ => false
def ce_CI (F : ce_C) : ce_C := fun as G => match as with
  | v :: _ => match ce_isC v with
    | true => F as G
    | false => none
  | [] => none
section Kinds
variable {own nm : String} {cc : ByteArray} {nL : Nat} {ret : Option FieldType} {ht pc : Nat}
abbrev ce_CXl {z : ce_U} {p : Program} {l : Launch} {R : Room} {s : State} {m : MethodId} {args : Array Value} {meth : Method} {c : Code} (hC : ce_CX z p l R s m args meth c own nm cc nL ret ht) : l.stackTraces = false ∧ 8 + ht ≤ R.frames ∧ 100 * (ht + 2) ≤ R.locals := hC.2.2.2.2.2.2.2.2.1
theorem ce_fix {z : ce_U} {p : Program} {l : Launch} {R : Room} {s : State} {m : MethodId} {args : Array Value} {meth : Method} {c : Code} (hC : ce_CX z p l R s m args meth c own nm cc nL ret ht) : CallFix p m c cc nL s args ce_GW own := ⟨hC.1, hC.2.1, hC.2.2.1, hC.2.2.2.1, hC.2.2.2.2.1⟩
theorem ce_PcU {z : ce_U} {s : State} {ad : Nat → Nat} {G : ce_G} {H : Heap} {locs : List Loc} {as : List ce_SV} (hK : ce_CK z s) (hI : ce_Inv z ad G H) (hv : va_S (ce_A z) s.heap H locs) : ∀ U : State, U.heap = H → s.WarmedH U.vm → ce_Pc z ad as G (as.map (ce_v z ad)).toArray U :=
  fun U hU hW => ⟨rfl, ce_next hK hU hW hv, by rw [hU]; exact hI⟩
theorem ru_V {ht2 mc ms n index maxL ci N : Nat} {C : String} {Tf : u_T} {y : MethodName} {bytes : ByteArray} {ret2 : Option FieldType} {F : ce_C} (hM : ∀ l : Launch, l.stackTraces = false → ce_MS l y (.code y bytes maxL ret2) ht2 mc ms F) (hh2 : ht2 + 1 ≤ ht) (hmx : maxL ≤ 81)
    (hc : ce_cl[ci]? = some (C, Tf, N)) (g0 : Cond.code y bytes maxL ret2 ∈ ce_GW) (g1 : Cond.methodLink own index y ∈ ce_GW) (g2 : Cond.instanceMethod y ∈ ce_GW) (g3 : Cond.selects C y y ∈ ce_GW) (g4 : Cond.initialized C ∈ ce_GW)
    (hd : y.cls = C ∧ y.cls ≠ "java/lang/invoke/MethodHandle" ∧ y.cls ≠ "java/lang/invoke/VarHandle" ∧ (parseMethodDescriptor y.desc).map (fun d => d.parameters.length) = some n) (d : decode cc pc = .ok (.invokevirtual index, 3)) : ce_RU own nm cc nL ret ht pc (n + 1) mc ms (pc + 3) (ce_CV ci F) := by
  intro z p l e R s m args below meth c hC ad as rest G S ls H locs kc ks hF hn hls hI hv hw kc1 ks1
  obtain ⟨hl, hfr, hlo⟩ := ce_CXl hC
  match as, hn, hF with
  | v :: as2, hn, hF =>
    simp only [ce_CV] at hF
    split at hF
    · rename_i hrc
      obtain ⟨b, hb, hcell⟩ := ce_rc_ok (ce_CXK hC) hI hv hc hrc
      have hPU := ce_PcU (as := v :: as2) (ce_CXK hC) hI hv
      have hMet := hM l hl z ad (v :: as2) G S hF
      have hGi : GoodIn ce_GW (wsV own index C y (.code y bytes maxL ret2 :: ce_GW)) := ce_gia (fun w hw => by
        simp only [List.mem_cons, List.not_mem_nil, or_false] at hw
        rcases hw with rfl | rfl | rfl | rfl
        · exact g1
        · exact g2
        · exact g3
        · exact g4) (ce_gi2 g0)
      rw [List.map_cons, hb] at hPU
      rw [List.map_cons, hb]
      refine ⟨(Value.ref b :: as2.map (ce_v z ad)).toArray, ?_⟩
      exact vx_runV (As := as2.map (ce_v z ad)) (C := C) (b := b) (ce_fix hC) hMet (cwV n hC.2.2.2.2.1 hGi rfl rfl rfl hd ⟨by show 8 + ht2 + 1 ≤ R.frames; omega, by show 8 + (maxL + 11) + 100 * (ht2 + 2) ≤ R.locals; omega⟩) ⟨ce_Pc_blind, hcell, hPU⟩ rfl (by rw [List.length_map]; exact Nat.succ.inj hn) hls (by simp) (lv_room hw) d ⟨kc1, ks1⟩
    · cases hF
theorem ce_selP {C : String} {y y0 : MethodName} {args : Array Value} {s : State} (hy : y.cls ≠ "java/lang/invoke/MethodHandle" ∧ y.cls ≠ "java/lang/invoke/VarHandle") (h0 : (Cond.selects C y0 y0).before args s = true) (hcls : y0.cls = y.cls) (hpriv : (Cond.privateMethod y).before args s = true) (hinst : (Cond.instanceMethod y).before args s = true) : (Cond.selects C y y).before args s = true := by
  obtain ⟨c2, r2, m2, q1, q2, q3, q4, kP, hkP, hkPi⟩ := Cond.selects_spec h0
  obtain ⟨mk, methM, hnamed, hmethM, -, -⟩ := Cond.instanceMethod_spec hinst
  have hfound : s.methodFound? y.cls y.name y.desc = some mk := State.methodFound?_of_named hnamed hy
  have hsel : selectMethod {} s.vm c2 mk = .method mk := selectMethod_private hmethM (Cond.privateMethod_at hpriv mk methM hnamed hmethM)
  have e1 := findClass_of_methodNamed hnamed
  have e2 := findClass_of_methodNamed q3
  rw [hcls] at e2
  have e3 : mk.cls = m2.cls := Option.some.inj (e1.symm.trans e2)
  simp only [Cond.before, Cond.holds, Cond.value, q1, hfound, hnamed, hsel, e3, hkP]
  simp [hkPi]
/-- a method of a class above, found by the receiver -/
theorem ru_U {ht2 mc ms n index maxL ci N : Nat} {C : String} {Tf : u_T} {y : MethodName} {bytes : ByteArray} {ret2 : Option FieldType} {F : ce_C} (hM : ∀ l : Launch, l.stackTraces = false → ce_MS l y (.code y bytes maxL ret2) ht2 mc ms F) (hh2 : ht2 + 1 ≤ ht) (hmx : maxL ≤ 81)
    (hc : ce_cl[ci]? = some (C, Tf, N)) (g0 : Cond.code y bytes maxL ret2 ∈ ce_GW) (g1 : Cond.methodLink own index y ∈ ce_GW) (g2 : Cond.instanceMethod y ∈ ce_GW) (g3 : Cond.selects C y y ∈ ce_GW) (g4 : Cond.initialized y.cls ∈ ce_GW) (g5 : Cond.sameMethod y.cls y.cls y.name y.desc ∈ ce_GW)
    (hd : y.cls ≠ "java/lang/invoke/MethodHandle" ∧ y.cls ≠ "java/lang/invoke/VarHandle" ∧ (parseMethodDescriptor y.desc).map (fun d => d.parameters.length) = some n) (d : decode cc pc = .ok (.invokevirtual index, 3)) : ce_RU own nm cc nL ret ht pc (n + 1) mc ms (pc + 3) (ce_CV ci F) := by
  intro z p l e R s m args below meth c hC ad as rest G S ls H locs kc ks hF hn hls hI hv hw kc1 ks1
  obtain ⟨hl, hfr, hlo⟩ := ce_CXl hC
  match as, hn, hF with
  | v :: as2, hn, hF =>
    simp only [ce_CV] at hF
    split at hF
    · rename_i hrc
      obtain ⟨b, hb, hcell⟩ := ce_rc_ok (ce_CXK hC) hI hv hc hrc
      have hPU := ce_PcU (as := v :: as2) (ce_CXK hC) hI hv
      have hMet := hM l hl z ad (v :: as2) G S hF
      have hGi : GoodIn ce_GW (va_wsU own index C y.cls y y (.code y bytes maxL ret2 :: ce_GW)) := ce_gia (fun w hw => by
        simp only [List.mem_cons, List.not_mem_nil, or_false] at hw
        rcases hw with rfl | rfl | rfl | rfl | rfl
        all_goals first | exact g1 | exact g2 | exact g3 | exact g4 | exact g5) (ce_gi2 g0)
      rw [List.map_cons, hb] at hPU
      rw [List.map_cons, hb]
      refine ⟨(Value.ref b :: as2.map (ce_v z ad)).toArray, ?_⟩
      exact vx_runU (owner := y.cls) (As := as2.map (ce_v z ad)) (C := C) (b := b) (ce_fix hC) hMet (va_cwU n hC.2.2.2.2.1 hGi rfl rfl rfl rfl hd ⟨by show 8 + ht2 + 1 ≤ R.frames; omega, by show 8 + (maxL + 11) + 100 * (ht2 + 2) ≤ R.locals; omega⟩) ⟨ce_Pc_blind, hcell, hPU⟩ rfl (by rw [List.length_map]; exact Nat.succ.inj hn) hls (by simp) (lv_room hw) d ⟨kc1, ks1⟩
    · cases hF
/-- a private method of a class above, called by a method of that class -/
theorem ru_P {ht2 mc ms n index maxL ci N : Nat} {C : String} {Tf : u_T} {y y0 : MethodName} {bytes : ByteArray} {ret2 : Option FieldType} {F : ce_C} (hM : ∀ l : Launch, l.stackTraces = false → ce_MS l y (.code y bytes maxL ret2) ht2 mc ms F) (hh2 : ht2 + 1 ≤ ht) (hmx : maxL ≤ 81)
    (hc : ce_cl[ci]? = some (C, Tf, N)) (g0 : Cond.code y bytes maxL ret2 ∈ ce_GW) (g1 : Cond.methodLink own index y ∈ ce_GW) (g2 : Cond.instanceMethod y ∈ ce_GW) (g3 : Cond.selects C y0 y0 ∈ ce_GW) (g6 : y0.cls = y.cls) (g7 : Cond.privateMethod y ∈ ce_GW) (g4 : Cond.initialized y.cls ∈ ce_GW) (g5 : Cond.sameMethod y.cls y.cls y.name y.desc ∈ ce_GW)
    (hd : y.cls ≠ "java/lang/invoke/MethodHandle" ∧ y.cls ≠ "java/lang/invoke/VarHandle" ∧ (parseMethodDescriptor y.desc).map (fun d => d.parameters.length) = some n) (d : decode cc pc = .ok (.invokevirtual index, 3)) : ce_RU own nm cc nL ret ht pc (n + 1) mc ms (pc + 3) (ce_CV ci F) := by
  intro z p l e R s m args below meth c hC ad as rest G S ls H locs kc ks hF hn hls hI hv hw kc1 ks1
  obtain ⟨hl, hfr, hlo⟩ := ce_CXl hC
  match as, hn, hF with
  | v :: as2, hn, hF =>
    simp only [ce_CV] at hF
    split at hF
    · rename_i hrc
      obtain ⟨b, hb, hcell⟩ := ce_rc_ok (ce_CXK hC) hI hv hc hrc
      have hPU := ce_PcU (as := v :: as2) (ce_CXK hC) hI hv
      have hMet := hM l hl z ad (v :: as2) G S hF
      have hsel : (Cond.selects C y y).before args s = true := ce_selP ⟨hd.1, hd.2.1⟩ (hC.2.2.2.2.1 _ g3) g6 (hC.2.2.2.2.1 _ g7) (hC.2.2.2.2.1 _ g2)
      have hts : ∀ w ∈ Cond.selects C y y :: ce_GW, w.before args s = true := fun w hw => by
        rcases List.mem_cons.mp hw with e9 | e9
        · rw [e9]; exact hsel
        · exact hC.2.2.2.2.1 w e9
      have hGi : GoodIn (Cond.selects C y y :: ce_GW) (va_wsU own index C y.cls y y (.code y bytes maxL ret2 :: ce_GW)) := fun w hw => by
        rcases List.mem_append.mp hw with hw | hw
        · simp only [List.mem_cons, List.not_mem_nil, or_false] at hw
          rcases hw with rfl | rfl | rfl | rfl | rfl
          · exact ⟨List.mem_cons_of_mem _ g1, good_of_word (ce_good g1)⟩
          · exact ⟨List.mem_cons_of_mem _ g5, good_of_word (ce_good g5)⟩
          · exact ⟨List.mem_cons_self, good_of_word rfl⟩
          · exact ⟨List.mem_cons_of_mem _ g2, good_of_word (ce_good g2)⟩
          · exact ⟨List.mem_cons_of_mem _ g4, good_of_word (ce_good g4)⟩
        · exact ⟨List.mem_cons_of_mem _ (ce_gi2 g0 w hw).1, (ce_gi2 g0 w hw).2⟩
      rw [List.map_cons, hb] at hPU
      rw [List.map_cons, hb]
      refine ⟨(Value.ref b :: as2.map (ce_v z ad)).toArray, ?_⟩
      exact vx_runU (owner := y.cls) (As := as2.map (ce_v z ad)) (C := C) (b := b) (Ts := Cond.selects C y y :: ce_GW) ⟨hC.1, hC.2.1, hC.2.2.1, hC.2.2.2.1, hts⟩ hMet (va_cwU n hts hGi rfl rfl rfl rfl hd ⟨by show 8 + ht2 + 1 ≤ R.frames; omega, by show 8 + (maxL + 11) + 100 * (ht2 + 2) ≤ R.locals; omega⟩) ⟨ce_Pc_blind, hcell, hPU⟩ rfl (by rw [List.length_map]; exact Nat.succ.inj hn) hls (by simp) (lv_room hw) d ⟨kc1, ks1⟩
    · cases hF
theorem ru_S {ht2 mc ms n index maxL : Nat} {y : MethodName} {bytes : ByteArray} {ret2 : Option FieldType} {F : ce_C} (hM : ∀ l : Launch, l.stackTraces = false → ce_MS l y (.code y bytes maxL ret2) ht2 mc ms F) (hh2 : ht2 + 1 ≤ ht) (hmx : maxL ≤ 81)
    (g0 : Cond.code y bytes maxL ret2 ∈ ce_GW) (g1 : Cond.methodLink own index y ∈ ce_GW) (g2 : Cond.static y ∈ ce_GW) (g5 : Cond.initialized y.cls ∈ ce_GW)
    (hd : y.cls ≠ "java/lang/invoke/MethodHandle" ∧ y.cls ≠ "java/lang/invoke/VarHandle" ∧ (parseMethodDescriptor y.desc).map (fun d => d.parameters.length) = some n) (d : decode cc pc = .ok (.invokestatic index, 3)) : ce_RU own nm cc nL ret ht pc n mc ms (pc + 3) F := by
  intro z p l e R s m args below meth c hC ad as rest G S ls H locs kc ks hF hn hls hI hv hw kc1 ks1
  obtain ⟨hl, hfr, hlo⟩ := ce_CXl hC
  have hMet := hM l hl z ad as G S hF
  have hGi : GoodIn ce_GW (va_wsS own index y (.code y bytes maxL ret2 :: ce_GW)) := ce_gia (fun w hw => by
        simp only [List.mem_cons, List.not_mem_nil, or_false] at hw
        rcases hw with rfl | rfl | rfl
        · exact g1
        · exact g2
        · exact g5) (ce_gi2 g0)
  exact ⟨_, vx_runS (As := as.map (ce_v z ad)) (ce_fix hC) hMet (va_cwS n hC.2.2.2.2.1 hGi rfl rfl rfl hd ⟨by show 8 + ht2 + 1 ≤ R.frames; omega, by show 8 + (maxL + 11) + 100 * (ht2 + 2) ≤ R.locals; omega⟩) ⟨ce_Pc_blind, ce_PcU (ce_CXK hC) hI hv⟩ rfl (by rw [List.length_map]; exact hn) hls rfl (lv_room hw) d ⟨kc1, ks1⟩⟩
theorem ru_SX {ht2 mc ms n index maxL : Nat} {y : MethodName} {bytes : ByteArray} {ret2 : Option FieldType} {h9 : List (Nat × Nat × Nat × Nat)} {F : ce_C} (hM : ∀ l : Launch, l.stackTraces = false → ce_MS l y (.codeWith y bytes maxL ret2 h9) ht2 mc ms F) (hh2 : ht2 + 1 ≤ ht) (hmx : maxL ≤ 81)
    (g0 : Cond.codeWith y bytes maxL ret2 h9 ∈ ce_GW) (g1 : Cond.methodLink own index y ∈ ce_GW) (g2 : Cond.static y ∈ ce_GW) (g5 : Cond.initialized y.cls ∈ ce_GW)
    (hd : y.cls ≠ "java/lang/invoke/MethodHandle" ∧ y.cls ≠ "java/lang/invoke/VarHandle" ∧ (parseMethodDescriptor y.desc).map (fun d => d.parameters.length) = some n) (d : decode cc pc = .ok (.invokestatic index, 3)) : ce_RU own nm cc nL ret ht pc n mc ms (pc + 3) F := by
  intro z p l e R s m args below meth c hC ad as rest G S ls H locs kc ks hF hn hls hI hv hw kc1 ks1
  obtain ⟨hl, hfr, hlo⟩ := ce_CXl hC
  have hMet := hM l hl z ad as G S hF
  have hGi : GoodIn ce_GW (va_wsS own index y (.codeWith y bytes maxL ret2 h9 :: ce_GW)) := ce_gia (fun w hw => by
        simp only [List.mem_cons, List.not_mem_nil, or_false] at hw
        rcases hw with rfl | rfl | rfl
        · exact g1
        · exact g2
        · exact g5) (ce_gi2 g0)
  exact ⟨_, vx_runSX (As := as.map (ce_v z ad)) (ce_fix hC) hMet (vx_cwSW n hC.2.2.2.2.1 hGi rfl rfl rfl hd ⟨by show 8 + ht2 + 1 ≤ R.frames; omega, by show 8 + (maxL + 11) + 100 * (ht2 + 2) ≤ R.locals; omega⟩) ⟨ce_Pc_blind, ce_PcU (ce_CXK hC) hI hv⟩ rfl (by rw [List.length_map]; exact hn) hls rfl (lv_room hw) d ⟨kc1, ks1⟩⟩
theorem ru_I {ht2 mc ms n index maxL : Nat} {y : MethodName} {bytes : ByteArray} {F : ce_C} (hM : ∀ l : Launch, l.stackTraces = false → ce_MS l y (.code y bytes maxL none) ht2 mc ms F) (hh2 : ht2 + 1 ≤ ht) (hmx : maxL ≤ 81)
    (g0 : Cond.code y bytes maxL none ∈ ce_GW) (g1 : Cond.methodLink own index y ∈ ce_GW) (g2 : Cond.instanceMethod y ∈ ce_GW) (g5 : Cond.initialized y.cls ∈ ce_GW) (hy1 : y.name = "<init>")
    (hd : y.cls ≠ "java/lang/invoke/MethodHandle" ∧ y.cls ≠ "java/lang/invoke/VarHandle" ∧ (parseMethodDescriptor y.desc).map (fun d => d.parameters.length) = some n) (d : decode cc pc = .ok (.invokespecial index, 3)) : ce_RU own nm cc nL ret ht pc (n + 1) mc ms (pc + 3) (ce_CI F) := by
  intro z p l e R s m args below meth c hC ad as rest G S ls H locs kc ks hF hn hls hI hv hw kc1 ks1
  obtain ⟨hl, hfr, hlo⟩ := ce_CXl hC
  match as, hn, hF with
  | .inr (.inr (.inl (.inl k))) :: as2, hn, hF =>
    have hPU := ce_PcU (as := .inr (.inr (.inl (.inl k))) :: as2) (ce_CXK hC) hI hv
    have hMet := hM l hl z ad (.inr (.inr (.inl (.inl k))) :: as2) G S hF
    refine ⟨(Value.ref (ad k) :: as2.map (ce_v z ad)).toArray, ?_⟩
    exact vx_runI (As := as2.map (ce_v z ad)) (b := ad k) (ce_fix hC) hMet (cwI n hC.2.2.2.2.1 (ce_gi2 g0) rfl rfl rfl (hC.2.2.2.2.1 _ g5) (hC.2.2.2.2.1 _ g1) (hC.2.2.2.2.1 _ g2) hy1 hd ⟨by show 8 + ht2 + 1 ≤ R.frames; omega, by show 8 + (maxL + 11) + 100 * (ht2 + 2) ≤ R.locals; omega⟩) ⟨ce_Pc_blind, hPU⟩ rfl (by rw [List.length_map]; exact Nat.succ.inj hn) hls (by show ((ce_v z ad _ :: as2.map (ce_v z ad)).reverse ++ _) = _; simp [ce_v]) (lv_room hw) d ⟨kc1, ks1⟩
theorem ru_IN {ht2 mc ms n index maxL : Nat} {host : String} {y : MethodName} {bytes : ByteArray} {F : ce_C} (hM : ∀ l : Launch, l.stackTraces = false → ce_MS l y (.code y bytes maxL none) ht2 mc ms F) (hh2 : ht2 + 1 ≤ ht) (hmx : maxL ≤ 81)
    (g0 : Cond.code y bytes maxL none ∈ ce_GW) (g1 : Cond.methodLinkNest own index y host ∈ ce_NG) (g2 : Cond.instanceMethod y ∈ ce_GW) (g5 : Cond.initialized y.cls ∈ ce_GW) (hy1 : y.name = "<init>")
    (hd : y.cls ≠ "java/lang/invoke/MethodHandle" ∧ y.cls ≠ "java/lang/invoke/VarHandle" ∧ (parseMethodDescriptor y.desc).map (fun d => d.parameters.length) = some n) (d : decode cc pc = .ok (.invokespecial index, 3)) : ce_RU own nm cc nL ret ht pc (n + 1) mc ms (pc + 3) (ce_CI F) := by
  intro z p l e R s m args below meth c hC ad as rest G S ls H locs kc ks hF hn hls hI hv hw kc1 ks1
  obtain ⟨hl, hfr, hlo⟩ := ce_CXl hC
  match as, hn, hF with
  | .inr (.inr (.inl (.inl k))) :: as2, hn, hF =>
    have hPU := ce_PcU (as := .inr (.inr (.inl (.inl k))) :: as2) (ce_CXK hC) hI hv
    have hMet := hM l hl z ad (.inr (.inr (.inl (.inl k))) :: as2) G S hF
    refine ⟨(Value.ref (ad k) :: as2.map (ce_v z ad)).toArray, ?_⟩
    exact vx_runIN (As := as2.map (ce_v z ad)) (b := ad k) (ce_fix hC) hMet ⟨va_cnB n hC.2.2.2.2.1 (ce_gi2 g0) rfl rfl rfl ((ce_CXK hC).2.2.2.1.1 _ g1) (hC.2.2.2.2.1 _ g5) hd ⟨by show 8 + ht2 + 1 ≤ R.frames; omega, by show 8 + (maxL + 11) + 100 * (ht2 + 2) ≤ R.locals; omega⟩, hy1, hC.2.2.2.2.1 _ g2⟩ ⟨ce_Pc_blind, hPU⟩ rfl (by rw [List.length_map]; exact Nat.succ.inj hn) hls (by show ((ce_v z ad _ :: as2.map (ce_v z ad)).reverse ++ _) = _; simp [ce_v]) (lv_room hw) d ⟨kc1, ks1⟩
/-- super.m(..) -/
theorem ru_SU {ht2 mc ms n index maxL ci N : Nat} {C : String} {Tf : u_T} {y : MethodName} {bytes : ByteArray} {ret2 : Option FieldType} {F : ce_C} (hM : ∀ l : Launch, l.stackTraces = false → ce_MS l y (.code y bytes maxL ret2) ht2 mc ms F) (hh2 : ht2 + 1 ≤ ht) (hmx : maxL ≤ 81)
    (hc : ce_cl[ci]? = some (C, Tf, N)) (g0 : Cond.code y bytes maxL ret2 ∈ ce_GW) (g1 : Cond.methodLink own index y ∈ ce_GW) (g2 : Cond.sameMethod y.cls y.cls y.name y.desc ∈ ce_GW) (g3 : Cond.superclass own y.cls ∈ ce_GW) (g4 : Cond.instanceMethod y ∈ ce_GW) (g5 : Cond.initialized y.cls ∈ ce_GW)
    (hd : y.name ≠ "<init>" ∧ (parseMethodDescriptor y.desc).map (fun d => d.parameters.length) = some n) (d : decode cc pc = .ok (.invokespecial index, 3)) : ce_RU own nm cc nL ret ht pc (n + 1) mc ms (pc + 3) (ce_CV ci F) := by
  intro z p l e R s m args below meth c hC ad as rest G S ls H locs kc ks hF hn hls hI hv hw kc1 ks1
  obtain ⟨hl, hfr, hlo⟩ := ce_CXl hC
  match as, hn, hF with
  | v :: as2, hn, hF =>
    simp only [ce_CV] at hF
    split at hF
    · rename_i hrc
      obtain ⟨b, hb, hcell⟩ := ce_rc_ok (ce_CXK hC) hI hv hc hrc
      have hPU := ce_PcU (as := v :: as2) (ce_CXK hC) hI hv
      have hMet := hM l hl z ad (v :: as2) G S hF
      have hGi : GoodIn ce_GW (va_wsSU own index y (.code y bytes maxL ret2 :: ce_GW)) := ce_gia (fun w hw => by
        simp only [List.mem_cons, List.not_mem_nil, or_false] at hw
        rcases hw with rfl | rfl | rfl | rfl | rfl
        · exact g1
        · exact g2
        · exact g3
        · exact g4
        · exact g5) (ce_gi2 g0)
      rw [List.map_cons, hb] at hPU
      rw [List.map_cons, hb]
      refine ⟨(Value.ref b :: as2.map (ce_v z ad)).toArray, ?_⟩
      exact vx_runSU (As := as2.map (ce_v z ad)) (C := C) (b := b) ((ce_CXK hC).1.1 ci _ hc).2 (ce_fix hC) hMet (va_cwSU n hC.2.2.2.2.1 hGi rfl rfl rfl hd ⟨by show 8 + ht2 + 1 ≤ R.frames; omega, by show 8 + (maxL + 11) + 100 * (ht2 + 2) ≤ R.locals; omega⟩) ⟨ce_Pc_blind, hcell, hPU⟩ rfl (by rw [List.length_map]; exact Nat.succ.inj hn) hls (by simp) (lv_room hw) d ⟨kc1, ks1⟩
    · cases hF
/-- an overriding method -/
theorem ru_O {ht2 mc ms n index maxL ci N : Nat} {C owner : String} {Tf : u_T} {x y : MethodName} {bytes : ByteArray} {ret2 : Option FieldType} {F : ce_C} (hM : ∀ l : Launch, l.stackTraces = false → ce_MS l y (.code y bytes maxL ret2) ht2 mc ms F) (hh2 : ht2 + 1 ≤ ht) (hmx : maxL ≤ 81)
    (hc : ce_cl[ci]? = some (C, Tf, N)) (g0 : Cond.code y bytes maxL ret2 ∈ ce_GW) (g1 : Cond.methodLink own index x ∈ ce_GW) (g2 : Cond.sameMethod x.cls owner x.name x.desc ∈ ce_GW) (g3 : Cond.instanceMethod ⟨owner, x.name, x.desc⟩ ∈ ce_GW) (g4 : Cond.selects C x y ∈ ce_GW) (g5 : Cond.instanceMethod y ∈ ce_GW) (g6 : Cond.initialized y.cls ∈ ce_GW)
    {b0 : ByteArray} {m0 : Nat} {r0 : Option FieldType} (h0 : Cond.code ⟨owner, x.name, x.desc⟩ b0 m0 r0 ∈ ce_GW) (hd : owner ≠ "java/lang/invoke/MethodHandle" ∧ owner ≠ "java/lang/invoke/VarHandle" ∧ (parseMethodDescriptor x.desc).map (fun d => d.parameters.length) = some n) (d : decode cc pc = .ok (.invokevirtual index, 3)) : ce_RU own nm cc nL ret ht pc (n + 1) mc ms (pc + 3) (ce_CV ci F) := by
  intro z p l e R s m args below meth c hC ad as rest G S ls H locs kc ks hF hn hls hI hv hw kc1 ks1
  obtain ⟨hl, hfr, hlo⟩ := ce_CXl hC
  match as, hn, hF with
  | v :: as2, hn, hF =>
    simp only [ce_CV] at hF
    split at hF
    · rename_i hrc
      obtain ⟨b, hb, hcell⟩ := ce_rc_ok (ce_CXK hC) hI hv hc hrc
      have hPU := ce_PcU (as := v :: as2) (ce_CXK hC) hI hv
      have hMet := hM l hl z ad (v :: as2) G S hF
      have hGi : GoodIn ce_GW (va_wsO own index C owner x y (.code y bytes maxL ret2 :: ce_GW)) := ce_gia (fun w hw => by
        simp only [List.mem_cons, List.not_mem_nil, or_false] at hw
        rcases hw with rfl | rfl | rfl | rfl | rfl | rfl
        · exact g1
        · exact g2
        · exact g3
        · exact g4
        · exact g5
        · exact g6) (ce_gi2 g0)
      rw [List.map_cons, hb] at hPU
      rw [List.map_cons, hb]
      refine ⟨(Value.ref b :: as2.map (ce_v z ad)).toArray, ?_⟩
      exact vx_runU (As := as2.map (ce_v z ad)) (C := C) (b := b) (ce_fix hC) hMet (va_cwO n hC.2.2.2.2.1 hGi rfl rfl rfl h0 hd ⟨by show 8 + ht2 + 1 ≤ R.frames; omega, by show 8 + (maxL + 11) + 100 * (ht2 + 2) ≤ R.locals; omega⟩) ⟨ce_Pc_blind, hcell, hPU⟩ rfl (by rw [List.length_map]; exact Nat.succ.inj hn) hls (by simp) (lv_room hw) d ⟨kc1, ks1⟩
    · cases hF
/-- the iterator's hasNext, by the interface -/
theorem ru_F {ht2 mc ms n index count maxL ci N : Nat} {Tf : u_T} {bytes : ByteArray} {ret2 : Option FieldType} {F : ce_C} (hM : ∀ l : Launch, l.stackTraces = false → ce_MS l ce_yI (.code ce_yI bytes maxL ret2) ht2 mc ms F) (hh2 : ht2 + 1 ≤ ht) (hmx : maxL ≤ 81)
    (hc : ce_cl[ci]? = some ("java/util/ArrayList$Itr", Tf, N)) (g0 : Cond.code ce_yI bytes maxL ret2 ∈ ce_GW) (g1 : Cond.methodLink own index ce_yN ∈ ce_GW) (g2 : Cond.selects "java/util/ArrayList$Itr" ce_yN ce_yI ∈ ce_GW) (g3 : Cond.instanceMethod ce_yI ∈ ce_GW) (g4 : Cond.initialized "java/util/ArrayList$Itr" ∈ ce_GW)
    (hd : (parseMethodDescriptor ce_yN.desc).map (fun d => d.parameters.length) = some n) (d : decode cc pc = .ok (.invokeinterface index count, 5)) : ce_RU own nm cc nL ret ht pc (n + 1) mc ms (pc + 5) (ce_CV ci F) := by
  intro z p l e R s m args below meth c hC ad as rest G S ls H locs kc ks hF hn hls hI hv hw kc1 ks1
  obtain ⟨hl, hfr, hlo⟩ := ce_CXl hC
  match as, hn, hF with
  | v :: as2, hn, hF =>
    simp only [ce_CV] at hF
    split at hF
    · rename_i hrc
      obtain ⟨b, hb, hcell⟩ := ce_rc_ok (ce_CXK hC) hI hv hc hrc
      have hPU := ce_PcU (as := v :: as2) (ce_CXK hC) hI hv
      have hMet := hM l hl z ad (v :: as2) G S hF
      have hGi : GoodIn ce_GW (va_wsF own index "java/util/ArrayList$Itr" ce_yN ce_yI (.code ce_yI bytes maxL ret2 :: ce_GW)) := ce_gia (fun w hw => by
        simp only [List.mem_cons, List.not_mem_nil, or_false] at hw
        rcases hw with rfl | rfl | rfl | rfl
        · exact g1
        · exact g2
        · exact g3
        · exact g4) (ce_gi2 g0)
      rw [List.map_cons, hb] at hPU
      rw [List.map_cons, hb]
      refine ⟨(Value.ref b :: as2.map (ce_v z ad)).toArray, ?_⟩
      exact vx_runF (As := as2.map (ce_v z ad)) (C := "java/util/ArrayList$Itr") (b := b) ((ce_CXK hC).1.1 ci _ hc).2 (ce_fix hC) hMet (va_cwF n hC.2.2.2.2.1 hGi rfl rfl rfl (ce_CXK hC).2.2.2.1.2.1 ⟨by decide +kernel, by decide +kernel, hd⟩ ⟨by show 8 + ht2 + 1 ≤ R.frames; omega, by show 8 + (maxL + 11) + 100 * (ht2 + 2) ≤ R.locals; omega⟩) ⟨ce_Pc_blind, hcell, hPU⟩ rfl (by rw [List.length_map]; exact Nat.succ.inj hn) hls (by simp) (lv_room hw) d ⟨kc1, ks1⟩
    · cases hF
/-- Object's constructor -/
def ce_oi (nx : Nat) : ce_P := fun L G => match L.2 with
  | .inr (.inr (.inl (.inl _))) :: r => match Nat.ble (ce_wt r) 80 with
    | true => some [(nx, (L.1, r), G)]
    | false => none
  | _ => none
theorem ok_oi {i : Nat} (d : decode cc pc = .ok (.invokespecial i, 3)) (g1 : Cond.methodLink own i Lib.objectInit ∈ ce_GW) (g2 : Cond.instanceMethod Lib.objectInit ∈ ce_GW) (g3 : Cond.code Lib.objectInit ⟨#[0xb1]⟩ 1 none ∈ ce_GW) : ce_OK own nm cc nL ret ht pc (ce_oi (pc + 3)) := by
  intro z p l e R s m args below meth c Q ad0 n0 hC L G S h hS ad ls H locs kc ks h1 h2 hl hI hv k1 k2
  obtain ⟨lo, st⟩ := L
  simp only [ce_oi] at h
  split at h
  · rename_i k r
    split at h
    · rename_i hw
      cases h
      obtain ⟨hl9, hfr, hlo⟩ := ce_CXl hC
      have hw2 := Nat.le_trans (ce_wt_ok (ce_CXK hC) (ad := ad) r) (Nat.le_of_ble_eq_true hw)
      refine W.objInit hC.1 hC.2.1 hC.2.2.2.1 (hC.2.2.2.2.1 _ g1) (hC.2.2.2.2.1 _ g2) (hC.2.2.2.2.1 _ g3) rfl (by rw [hC.2.2.1]; exact hl.1) rfl d (by omega) (by show 2 * 0 + _ + 12 ≤ R.locals; omega) ?_
      exact hS _ (List.mem_singleton.mpr rfl) ad ls H locs kc ks h1 h2 hl hI hv k1 k2
    · cases h
  · cases h
/-- 'throw new E()' -/
def ce_thr (k : Nat) : ce_N := fun L G => match Nat.ble (ce_wt L.2) 40 && (Nat.ble 1 G.2.2.1 && Nat.ble 6 G.2.2.2) with
  | true => some ([(.inr k, G)], [])
  | false => none
theorem ok_thr {hh : Option (List (Nat × Nat × Nat × Nat))} {k ik ic : Nat} {names : List String} (d0 : decode cc pc = .ok (.new ik, 3)) (d3 : decode cc (pc + 3) = .ok (.dup, 1)) (d4 : decode cc (pc + 4) = .ok (.invokespecial ic, 3)) (d7 : decode cc (pc + 7) = .ok (.athrow, 1)) (hh0 : hh = some [])
    (hcls : Bundle.fit (ce_ex k) = true) (hnames : ∀ n ∈ names, Bundle.fit n = true) (hlen : names.length ≤ 4) (g1 : Cond.classLink own ik (ce_ex k) ∈ ce_GW) (g2 : Cond.initialized (ce_ex k) ∈ ce_GW) (g3 : ∀ w ∈ vx_at0 own ic (ce_ex k) names, w ∈ ce_GW ∨ w ∈ ce_NG)
    (g4 : ∀ w ∈ Cond.classLink own ik (ce_ex k) :: Cond.initialized (ce_ex k) :: vx_at0 own ic (ce_ex k) names, vx_ot w = true) (g5 : ∀ w ∈ vx_at0 own ic (ce_ex k) names, w ∈ ce_NG → ce_ngk w = true) : ce_OKN own nm cc nL ret ht hh pc (ce_thr k) := by
  intro z p l e R s m args below meth c ad0 n0 hC hT T L G X Y hf hX hY ad ls H locs kc ks h1 h2 hl hI hv k1 k2
  obtain ⟨lo, st⟩ := L
  simp only [ce_thr] at hf
  split at hf
  · rename_i hb
    cases hf
    simp only [Bool.and_eq_true] at hb
    have b1 := Nat.le_of_ble_eq_true hb.1
    have b2 := Nat.le_of_ble_eq_true hb.2.1
    have b3 := Nat.le_of_ble_eq_true hb.2.2
    obtain ⟨hl9, hfr, hlo⟩ := ce_CXl hC
    have hw2 := Nat.le_trans (ce_wt_ok (ce_CXK hC) (ad := ad) st) b1
    have hT0 : c.exceptionTable.toList = [] := by rw [hT [] hh0]; rfl
    have hK := ce_CXK hC
    have hw3 : ((List.map (ce_v z ad) (lo, st).snd).map fun v => v.category).sum ≤ 40 := hw2
    refine vx_throw0 (A := ce_A z) hC.1 hC.2.1 hl9 hC.2.2.2.1 hcls hnames (hC.2.2.2.2.1 _ g1) (hC.2.2.2.2.1 _ g2) (fun w hw => ?_) g4 hK.2.2.1.1 hK.2.2.1.2 hv (by rw [hC.2.2.1]; exact hl.1) d0 d3 d4 d7 (by rw [hT0]; exact fun x hx => nomatch hx) (by omega) (by omega) (by omega) (by omega) hC.2.2.2.2.2.2.2.1 (fun t hvm hz hk => ?_) hv.2.2 (by omega) (by omega)
    · rcases g3 w hw with g | g
      · exact hC.2.2.2.2.1 _ g
      · have h9 := hK.2.2.2.1.1 _ g
        have h8 := g5 w hw g
        cases w <;> first | exact va_Nw.use rfl h9 | exact absurd h8 (by simp [ce_ngk])
    · refine ⟨⟨k, G, ad, hX _ (List.mem_singleton.mpr rfl), rfl, h1, h2, ?_⟩, ⟨Nat.le_trans hv.1 hz, fun q hq hnA => (hk q (Nat.lt_of_lt_of_le hq hv.1)).trans (hv.2.1 q hq hnA)⟩⟩
      refine ⟨hI.1.kept (fun k x hx => hk x.1 ((hI.1 k x hx).lt)), hI.2⟩
  · cases hf
end Kinds
end
section
/-! a byte of a sign, copies of rows, the class of a row, a row's copy -/
section Nat9
variable {own nm : String} {cc : ByteArray} {nL : Nat} {ret : Option FieldType} {ht pc : Nat}
def ce_i2bF (nx pc : Nat) : ce_P := fun L G => match L.2 with
  | .inl (.inr t) :: r => match ce_ge G.1 t 0 && ce_le G.1 t 127 with
    | true => some [(nx, (L.1, .inl (.inr t) :: r), G)]
    | false => match ce_ge G.1 t 128 && ce_le G.1 t 255 with
      | true => some [(nx, (L.1, .inl (.inr (.old t)) :: r), ((.old t, 1, -1) :: G.1, G.2))]
      | false => some (ce_sp pc t 127 L G)
  | _ => none
theorem ce_b7 {x : Int32} (h0 : 0 ≤ x.toInt) (h1 : x.toInt ≤ 127) : x.toInt8.toInt32 = x := by
  have h := ce_byte (n := x.toInt) (by omega) h1
  rwa [Int32.ofInt_toInt] at h
theorem ce_b8 {x : Int32} (h0 : 128 ≤ x.toInt) (h1 : x.toInt ≤ 255) : x.toInt8.toInt32.toInt ≤ -1 := by
  rw [Int8.toInt_toInt32]
  have e : x = Int32.ofInt x.toInt := (Int32.ofInt_toInt x).symm
  rw [e, Int32.toInt8_ofInt, Int8.toInt_ofInt]
  have : (Int8.size : Nat) = 256 := rfl
  rw [this]
  generalize x.toInt = n at h0 h1
  simp only [Int.bmod]
  omega
theorem ok_i2bF (d : decode cc pc = .ok (.i2b, 1)) : ce_OK own nm cc nL ret ht pc (ce_i2bF (pc + 1) pc) := by
  intro z p l e R s m args below meth c Q ad0 n0 hC L G S h hS
  obtain ⟨lo, st⟩ := L
  simp only [ce_i2bF] at h
  split at h
  · rename_i t r
    split at h
    · rename_i hb
      cases h
      simp only [Bool.and_eq_true] at hb
      intro ad ls H locs kc ks h1 h2 hl hI hv k1 k2
      have e9 := ce_b7 (ce_ge_ok hI.2.2.2 hb.1) (ce_le_ok hI.2.2.2 hb.2)
      show W _ _ _ _ _ _ _ _ _ _ _ _ _ _ _ (F0 m pc ls (.int (ce_I z t) :: r.map (ce_v z ad)))
      refine lv_i2b hC.1 hC.2.1 d e9 ?_
      exact hS _ (List.mem_singleton.mpr rfl) ad ls H locs kc ks h1 h2 hl hI hv k1 k2
    · split at h
      · rename_i hb
        cases h
        simp only [Bool.and_eq_true] at hb
        intro ad ls H locs kc ks h1 h2 hl hI hv k1 k2
        have e9 := ce_b8 (ce_ge_ok hI.2.2.2 hb.1) (ce_le_ok hI.2.2.2 hb.2)
        show W _ _ _ _ _ _ _ _ _ _ _ _ _ _ _ (F0 m pc ls (.int (ce_I z t) :: r.map (ce_v z ad)))
        refine lv_i2b hC.1 hC.2.1 d rfl ?_
        exact hS _ (List.mem_singleton.mpr rfl) ad ls H locs kc ks h1 h2 hl ⟨hI.1, hI.2.1, hI.2.2.1, ce_sat_cons (ce_fa1 e9) hI.2.2.2⟩ hv k1 k2
      · cases h
        exact ce_sp_ok hS
  · cases h
def ce_cp (x y : List ce_SV) (i j n : Nat) : List ce_SV := y.take j ++ ((x.drop i).take n ++ y.drop (j + n))
theorem ce_cp_get {x y : List ce_SV} {i j n : Nat} (hx : i + n ≤ x.length) (hy : j + n ≤ y.length) (k : Nat) : (ce_cp x y i j n)[k]? = if j ≤ k ∧ k < j + n then x[i + (k - j)]? else y[k]? := by
  unfold ce_cp
  have l1 : (y.take j).length = j := by rw [List.length_take]; omega
  have l2 : ((x.drop i).take n).length = n := by rw [List.length_take, List.length_drop]; omega
  by_cases h1 : k < j
  · rw [List.getElem?_append_left (by omega), List.getElem?_take, if_pos h1, if_neg (by omega)]
  · rw [List.getElem?_append_right (by omega), l1]
    by_cases h2 : k < j + n
    · rw [List.getElem?_append_left (by omega), List.getElem?_take, if_pos (by omega), List.getElem?_drop, if_pos (by omega)]
    · rw [List.getElem?_append_right (by omega), l2, List.getElem?_drop, if_neg (by omega)]
      congr 1
      omega
theorem ce_cp_fun {β : Type} {g : Value → β} {z : ce_U} {ad : Nat → Nat} {x y : List ce_SV} {i j n : Nat} (hx : i + n ≤ x.length) (hy : j + n ≤ y.length) :
    (fun k => g (ce_v z ad ((ce_cp x y i j n).getD k ce_0))) = va_cpy (fun k => g (ce_v z ad (x.getD k ce_0))) (fun k => g (ce_v z ad (y.getD k ce_0))) i j n := by
  funext k
  simp only [va_cpy, List.getD_eq_getElem?_getD, ce_cp_get hx hy]
  split <;> rfl
theorem ce_cp_len {x y : List ce_SV} {i j n : Nat} (hx : i + n ≤ x.length) (hy : j + n ≤ y.length) : (ce_cp x y i j n).length = y.length := by
  simp only [ce_cp, List.length_append, List.length_take, List.length_drop]
  omega
theorem ce_cp_all {x y : List ce_SV} {i j n : Nat} {f : ce_SV → Bool} (hx : x.all f = true) (hy : y.all f = true) : (ce_cp x y i j n).all f = true := by
  refine List.all_eq_true.mpr fun v hv => ?_
  unfold ce_cp at hv
  rcases List.mem_append.mp hv with h | h
  · exact List.all_eq_true.mp hy v (List.mem_of_mem_take h)
  · rcases List.mem_append.mp h with h | h
    · exact List.all_eq_true.mp hx v (List.mem_of_mem_drop (List.mem_of_mem_take h))
    · exact List.all_eq_true.mp hy v (List.mem_of_mem_drop h)
theorem ce_fit_iv {z : ce_U} {s : State} (hK : ce_CK z s) {ad : Nat → Nat} {v : ce_SV} (h : ce_fit .byte v = true) : fits .byte (.int (ce_iv (ce_v z ad v))) = true := by
  have h2 := (ce_fit_ok hK (ad := ad) h).2
  match v, h, h2 with
  | .inl i, _, h2 => exact h2
/-- bytes copied from a row to another, and from the constant empty row -/
def ce_cpb (nx : Nat) : ce_P := fun L G => match L.2 with
  | .inl (.inl (.ofNat n)) :: .inl (.inl (.ofNat j)) :: .inr (.inr (.inl (.inl b))) :: .inl (.inl (.ofNat i)) :: .inr (.inr (.inl (.inl a))) :: r => match ce_arr G a, ce_arr G b with
    | some x, some y => match Nat.beq x.1 2 && (Nat.beq y.1 2 && (Nat.ble (i + n) x.2.length && (Nat.ble (j + n) y.2.length && (Nat.blt x.2.length 60000 && (Nat.blt y.2.length 60000 && (x.2.all (ce_fit .byte) && Nat.ble (ce_wt r) 40)))))) with
      | true => some [(nx, (L.1, r), (G.1, G.2.1.set b (.inr (2, ce_cp x.2 y.2 i j n)), G.2.2))]
      | false => none
    | _, _ => none
  | .inl (.inl (.ofNat n)) :: .inl (.inl (.ofNat j)) :: .inr (.inr (.inl (.inl b))) :: .inl (.inl (.ofNat i)) :: .inr (.inr (.inl (.inr k))) :: r => match ce_arr G b with
    | some y => match Nat.beq k 3 && (Nat.beq n 0 && (Nat.beq i 0 && (Nat.beq y.1 2 && (Nat.ble j y.2.length && (Nat.blt y.2.length 60000 && Nat.ble (ce_wt r) 40))))) with
      | true => some [(nx, (L.1, r), G)]
      | false => none
    | none => none
  | _ => none
theorem ce_nfw : nativeFrameWords "java/lang/System" "arraycopy" 5 ≤ 60 := by decide
theorem ok_cpb {i9 : Nat} (d : decode cc pc = .ok (.invokestatic i9, 3)) (g1 : Cond.methodLink own i9 arraycopyName ∈ ce_GW) (g2 : Cond.native arraycopyName ∈ ce_GW) (g3 : Cond.static arraycopyName ∈ ce_GW) (g4 : Cond.initialized "java/lang/System" ∈ ce_GW) : ce_OK own nm cc nL ret ht pc (ce_cpb (pc + 3)) := by
  intro z p l e R s m args below meth c Q ad0 n0 hC L G S h hS ad ls H locs kc ks h1 h2 hl hI hv k1 k2
  obtain ⟨lo, st⟩ := L
  have hK := ce_CXK hC
  obtain ⟨hl9, hfr, hlo⟩ := ce_CXl hC
  have hnf := ce_nfw
  have ex : ∀ es : List ce_SV, ce_ar z ad 2 es = .inl (fun j => ce_iv (ce_v z ad (es.getD j ce_0))) := fun es => rfl
  simp only [ce_cpb] at h
  split at h
  · rename_i n j b i a r
    split at h
    · rename_i x y hx hy
      split at h
      · rename_i hb
        cases h
        obtain ⟨x1, x2⟩ := x
        obtain ⟨y1, y2⟩ := y
        simp only [Bool.and_eq_true] at hb
        obtain ⟨b1, b2, b3, b4, b5, b6, b7, b8⟩ := hb
        have b1 := Nat.eq_of_beq_eq_true b1
        have b2 := Nat.eq_of_beq_eq_true b2
        subst b1
        subst b2
        have b3 := Nat.le_of_ble_eq_true b3
        have b4 := Nat.le_of_ble_eq_true b4
        have b5 : x2.length < 60000 := Nat.lt_of_succ_le (Nat.le_of_ble_eq_true b5)
        have b6 : y2.length < 60000 := Nat.lt_of_succ_le (Nat.le_of_ble_eq_true b6)
        have b8 := Nat.le_trans (ce_wt_ok hK (ad := ad) r) (Nat.le_of_ble_eq_true b8)
        obtain ⟨hx0, hxw⟩ := ce_arr_at (z := z) (ad := ad) hx
        obtain ⟨hy0, hyw⟩ := ce_arr_at (z := z) (ad := ad) hy
        dsimp only at hxw hyw b3 b4
        rw [ex] at hxw hyw
        have cn : (nI n).toNatClampNeg = n := nI_clamp (by omega)
        have ci : (nI i).toNatClampNeg = i := nI_clamp (by omega)
        have cj : (nI j).toNatClampNeg = j := nI_clamp (by omega)
        show W _ _ _ _ _ _ _ _ _ _ _ _ _ _ _ (F0 m pc ls (.int (nI n) :: .int (nI j) :: .ref (ad b) :: .int (nI i) :: .ref (ad a) :: r.map (ce_v z ad)))
        refine va_copyi (ty := .byte) hC.1 hC.2.1 (hC.2.2.1.trans hl.1.symm) hC.2.2.2.1 (hC.2.2.2.2.1 _ g1) (hC.2.2.2.2.1 _ g2) (hC.2.2.2.2.1 _ g3) (hC.2.2.2.2.1 _ g4) hK.1 hI.1 hI.2.1 hv a b 2 2 hxw hyw rfl rfl rfl (nI_pos (by omega)) (nI_pos (by omega)) (nI_pos (by omega)) (by rw [cn, ci]; exact b3) (by rw [cn, cj]; exact b4) (fun k hk => ?_) (by omega) (by omega) d (fun H1 locs1 hP hD hS1 => ?_)
        · rw [cn] at hk
          rw [ci]
          have hm : x2.getD (i + k) ce_0 ∈ x2 := by
            rw [List.getD_eq_getElem?_getD, List.getElem?_eq_getElem (by omega)]
            exact List.getElem_mem _
          exact ce_fit_iv hK (List.all_eq_true.mp b7 _ hm)
        · rw [cn, ci, cj, ← ce_cp_fun (g := ce_iv) b3 b4] at hP hD
          have he : ce_e z ad (.inr (2, ce_cp x2 y2 i j n)) = .inl (ce_cA z 2, y2.length, .inl (fun k => ce_iv (ce_v z ad ((ce_cp x2 y2 i j n).getD k ce_0)))) := by
            simp only [ce_e, ce_cp_len b3 b4, ex]
          rw [← he] at hP hD
          have hwx : ce_we G.2.1.length (.inr (2, x2)) = true := List.all_eq_true.mp hI.2.2.1 _ (List.mem_of_getElem? hx0)
          have hwy : ce_we G.2.1.length (.inr (2, y2)) = true := List.all_eq_true.mp hI.2.2.1 _ (List.mem_of_getElem? hy0)
          exact hS _ (List.mem_singleton.mpr rfl) ad ls H1 locs1 kc ks h1 (by simpa using h2) hl (ce_Inv_set (e := .inr (2, ce_cp x2 y2 i j n)) hI.2.2 hy0 (ce_cp_all (f := ce_wv G.2.1.length) hwx hwy) hP hD) hS1 k1 k2
      · cases h
    · cases h
  · rename_i n j b i k r
    split at h
    · rename_i y hy
      split at h
      · rename_i hb
        cases h
        obtain ⟨y1, y2⟩ := y
        simp only [Bool.and_eq_true] at hb
        obtain ⟨b1, b2, b3, b4, b5, b6, b8⟩ := hb
        have b1 := Nat.eq_of_beq_eq_true b1
        have b2 := Nat.eq_of_beq_eq_true b2
        have b3 := Nat.eq_of_beq_eq_true b3
        have b4 := Nat.eq_of_beq_eq_true b4
        subst b1
        subst b2
        subst b3
        subst b4
        have b5 := Nat.le_of_ble_eq_true b5
        have b6 : y2.length < 60000 := Nat.lt_of_succ_le (Nat.le_of_ble_eq_true b6)
        have b8 := Nat.le_trans (ce_wt_ok hK (ad := ad) r) (Nat.le_of_ble_eq_true b8)
        obtain ⟨hy0, hyw⟩ := ce_arr_at (z := z) (ad := ad) hy
        dsimp only at hyw b5
        rw [ex] at hyw
        have cj : (nI j).toNatClampNeg = j := nI_clamp (by omega)
        obtain ⟨aK, aV, e2, e3, e4, e5, hE, -, -⟩ := hK.2.2.2.2.2.2.1
        obtain ⟨scr, hs1, hs2, hs3, -, -, -, hbA⟩ := (hE.kept hv.2.1).1 0 (by omega) |>.2.2.2
        show W _ _ _ _ _ _ _ _ _ _ _ _ _ _ _ (F0 m pc ls (.int (nI 0) :: .int (nI j) :: .ref (ad b) :: .int (nI 0) :: ce_ev z 3 :: r.map (ce_v z ad)))
        rw [e3]
        intro T hT X
        have hc1 : H[ad b]? = some (vp_cell (ce_cA z 2) (y2.length, .inl (fun j => ce_iv (ce_v z ad (y2.getD j ce_0))))) := hI.1 b _ hyw
        obtain ⟨hs6, k0, hk0, cm0, hkk0⟩ := hs2
        obtain ⟨-, k9, hk9, cm9, hkk9⟩ := (hK.1.2 2 (ce_cA z 2, .byte) rfl).1 y2.length (fun q => .int ((fun j => ce_iv (ce_v z ad (y2.getD j ce_0))) q))
        obtain ⟨vm', X', step⟩ := X.arraycopy hC.1 hC.2.2.2.1 (hC.2.2.2.2.1 _ g1) (hC.2.2.2.2.1 _ g2) (hC.2.2.2.2.1 _ g3) (hC.2.2.2.2.1 _ g4) (src := aV 0) (dst := ad b) (cs := scr) (cd := vp_cell (ce_cA z 2) (y2.length, .inl (fun j => ce_iv (ce_v z ad (y2.getD j ce_0))))) (srcPos := nI 0) (destPos := nI j) (n := nI 0) (by rw [hT]; exact hs1) (by rw [hT]; exact hc1)
          hs6 (fun _ h => by cases h) hs3 (fun h => by cases h) hk0 hk9 hkk0 hkk9 (by simp [refKind]) (nI_pos (by omega)) (nI_pos (by omega)) (nI_pos (by omega))
          (by rw [nI_toInt (by omega)]; omega)
          (by rw [nI_toInt (by omega), nI_toInt (by omega)]; show ¬ _ > ((arrV (ce_cA z 2) y2.length (fun q => .int ((fun j => ce_iv (ce_v z ad (y2.getD j ce_0))) q))).slots.size : Int); rw [arrV_size]; omega)
          (fun vm₁ _ i hi => absurd hi (by rw [show (nI 0).toNatClampNeg = 0 from nI_clamp (by omega)]; omega))
          (g := F0 m pc ls (.int (nI 0) :: .int (nI j) :: .ref (ad b) :: .int (nI 0) :: .ref (aV 0) :: r.map (ce_v z ad))) rfl (by rw [hC.2.2.1]; exact hl.1) (rest := r.map (ce_v z ad)) rfl (by rw [hC.2.1]; exact d) (by omega) (by show 2 * 0 + _ + _ ≤ _; omega)
        have e1 : copied scr (vp_cell (ce_cA z 2) (y2.length, .inl (fun j => ce_iv (ce_v z ad (y2.getD j ce_0))))) (nI 0) (nI j) (nI 0) = vp_cell (ce_cA z 2) (y2.length, .inl (va_cpy (fun _ => (0 : Int32)) (fun j => ce_iv (ce_v z ad (y2.getD j ce_0))) (nI 0).toNatClampNeg (nI j).toNatClampNeg (nI 0).toNatClampNeg)) := va_copiedX (fun z => .int z) scr (ce_cA z 2) (fun _ => (0 : Int32)) (fun j => ce_iv (ce_v z ad (y2.getD j ce_0))) (n0 := 0) (fun j hj => absurd hj (Nat.not_lt_zero j)) (by rw [show (nI 0).toNatClampNeg = 0 from nI_clamp (by omega)]; exact Nat.le_refl _)
        have e0 : va_cpy (fun _ => (0 : Int32)) (fun j => ce_iv (ce_v z ad (y2.getD j ce_0))) (nI 0).toNatClampNeg (nI j).toNatClampNeg (nI 0).toNatClampNeg = (fun j => ce_iv (ce_v z ad (y2.getD j ce_0))) := by
          funext q
          simp only [va_cpy, show (nI 0).toNatClampNeg = 0 from nI_clamp (by omega)]
          rw [if_neg (by omega)]
        rw [e1, e0] at X' step
        have hlt : ad b < H.size := (Array.getElem?_eq_some_iff.mp hc1).1
        have hheap : ((T.setVm vm').setCell (ad b) (vp_cell (ce_cA z 2) (y2.length, .inl (fun j => ce_iv (ce_v z ad (y2.getD j ce_0)))))).heap = H := by
          have : ((T.setVm vm').setCell (ad b) (vp_cell (ce_cA z 2) (y2.length, .inl (fun j => ce_iv (ce_v z ad (y2.getD j ce_0)))))).heap = H.setIfInBounds (ad b) (vp_cell (ce_cA z 2) (y2.length, .inl (fun j => ce_iv (ce_v z ad (y2.getD j ce_0))))) := by rw [← hT]; rfl
          rw [this]
          refine Array.ext_getElem? fun q => ?_
          by_cases hq : q = ad b
          · rw [hq, hc1]
            simp [Array.getElem?_setIfInBounds, hlt]
          · simp [Array.getElem?_setIfInBounds, Ne.symm hq]
        have hAb : ce_A z (ad b) := hI.2.1.2 b _ hyw
        obtain ⟨t9, a1, c1⟩ := hS _ (List.mem_singleton.mpr rfl) ad ls H _ kc ks h1 h2 hl hI ⟨hv.1, hv.2.1, fun q hq => by
          rcases List.mem_append.mp hq with h | h
          · exact hv.2.2 q h
          · obtain ⟨w, -, hw⟩ := List.mem_map.mp h
            rw [← hw]
            exact hAb⟩ k1 k2 _ hheap X'
        exact ⟨t9, step t9 a1, c1⟩
      · cases h
    · cases h
  · cases h
/-- references copied between rows of Object: objects of one class, or null -/
def ce_cq (G : ce_G) : ce_SV → Bool
  | .inr (.inr (.inl (.inl k))) => match ce_obj G k with
    | some x => Nat.beq x.1 16
    | none => false
  | .inr (.inr (.inr .null)) => true
  | _ => false
def ce_cpq (nx : Nat) : ce_P := fun L G => match L.2 with
  | .inl (.inl (.ofNat n)) :: .inl (.inl (.ofNat j)) :: .inr (.inr (.inl (.inl b))) :: .inl (.inl (.ofNat i)) :: .inr (.inr (.inl (.inl a))) :: r => match ce_arr G a, ce_arr G b with
    | some x, some y => match Nat.beq x.1 6 && (Nat.beq y.1 6 && (Nat.ble (i + n) x.2.length && (Nat.ble (j + n) y.2.length && (Nat.blt x.2.length 60000 && (Nat.blt y.2.length 60000 && (x.2.all (ce_cq G) && Nat.ble (ce_wt r) 40)))))) with
      | true => some [(nx, (L.1, r), (G.1, G.2.1.set b (.inr (6, ce_cp x.2 y.2 i j n)), G.2.2))]
      | false => none
    | _, _ => none
  | _ => none
theorem ok_cpq {i9 N16 : Nat} {T16 : u_T} (hc16 : ce_cl[16]? = some ("CarcasswrightModel$Board", T16, N16)) (hng : Cond.castable "CarcasswrightModel$Board" "java/lang/Object" ∈ ce_NG) (d : decode cc pc = .ok (.invokestatic i9, 3)) (g1 : Cond.methodLink own i9 arraycopyName ∈ ce_GW) (g2 : Cond.native arraycopyName ∈ ce_GW) (g3 : Cond.static arraycopyName ∈ ce_GW) (g4 : Cond.initialized "java/lang/System" ∈ ce_GW) : ce_OK own nm cc nL ret ht pc (ce_cpq (pc + 3)) := by
  intro z p l e R s m args below meth c Q ad0 n0 hC L G S h hS ad ls H locs kc ks h1 h2 hl hI hv k1 k2
  obtain ⟨lo, st⟩ := L
  have hK := ce_CXK hC
  obtain ⟨hl9, hfr, hlo⟩ := ce_CXl hC
  have hnf := ce_nfw
  have ex : ∀ es : List ce_SV, ce_ar z ad 6 es = .inr (.inr (.inr (.inr (fun j => ce_rv (ce_v z ad (es.getD j ce_0)))))) := fun es => rfl
  simp only [ce_cpq] at h
  split at h
  · rename_i n j b i a r
    split at h
    · rename_i x y hx hy
      split at h
      · rename_i hb
        cases h
        obtain ⟨x1, x2⟩ := x
        obtain ⟨y1, y2⟩ := y
        simp only [Bool.and_eq_true] at hb
        obtain ⟨b1, b2, b3, b4, b5, b6, b7, b8⟩ := hb
        have b1 := Nat.eq_of_beq_eq_true b1
        have b2 := Nat.eq_of_beq_eq_true b2
        subst b1
        subst b2
        have b3 := Nat.le_of_ble_eq_true b3
        have b4 := Nat.le_of_ble_eq_true b4
        have b5 : x2.length < 60000 := Nat.lt_of_succ_le (Nat.le_of_ble_eq_true b5)
        have b6 : y2.length < 60000 := Nat.lt_of_succ_le (Nat.le_of_ble_eq_true b6)
        have b8 := Nat.le_trans (ce_wt_ok hK (ad := ad) r) (Nat.le_of_ble_eq_true b8)
        obtain ⟨hx0, hxw⟩ := ce_arr_at (z := z) (ad := ad) hx
        obtain ⟨hy0, hyw⟩ := ce_arr_at (z := z) (ad := ad) hy
        dsimp only at hxw hyw b3 b4
        rw [ex] at hxw hyw
        have cn : (nI n).toNatClampNeg = n := nI_clamp (by omega)
        have ci : (nI i).toNatClampNeg = i := nI_clamp (by omega)
        have cj : (nI j).toNatClampNeg = j := nI_clamp (by omega)
        show W _ _ _ _ _ _ _ _ _ _ _ _ _ _ _ (F0 m pc ls (.int (nI n) :: .int (nI j) :: .ref (ad b) :: .int (nI i) :: .ref (ad a) :: r.map (ce_v z ad)))
        refine va_copyq (C := "CarcasswrightModel$Board") (E0 := "java/lang/Object") (E1 := "java/lang/Object") hC.1 hC.2.1 (hC.2.2.1.trans hl.1.symm) hC.2.2.2.1 (hC.2.2.2.2.1 _ g1) (hC.2.2.2.2.1 _ g2) (hC.2.2.2.2.1 _ g3) (hC.2.2.2.2.1 _ g4) hK.1 hI.1 hI.2.1 hv a b 6 6 hxw hyw rfl rfl (nI_pos (by omega)) (nI_pos (by omega)) (nI_pos (by omega)) (by rw [cn, ci]; exact b3) (by rw [cn, cj]; exact b4) (fun k hk q hq => ?_) (fun comp c0 hcomp hc0 => ?_) (by omega) (by omega) d (fun H1 locs1 hP hD hS1 => ?_)
        · rw [cn] at hk
          rw [ci] at hq
          have hm : x2.getD (i + k) ce_0 ∈ x2 := by
            rw [List.getD_eq_getElem?_getD, List.getElem?_eq_getElem (by omega)]
            exact List.getElem_mem _
          have h7 := List.all_eq_true.mp b7 _ hm
          generalize x2.getD (i + k) ce_0 = v at h7 hq
          unfold ce_cq at h7
          split at h7
          · rename_i k9
            split at h7
            · rename_i w hw
              obtain ⟨w1, w2⟩ := w
              have h7 := Nat.eq_of_beq_eq_true h7
              dsimp only at h7
              subst h7
              have e9 : q = ad k9 := (Option.some.inj hq).symm
              rw [e9]
              exact va_recv hK.1 hI.1 hc16 (ce_obj_at (z := z) (ad := ad) hw).2
            · cases h7
          · cases hq
          · cases h7
        · obtain ⟨c3, c4, hc3, hc4, hasg⟩ := Cond.castable_spec (va_Nw.use (A := args) rfl (hK.2.2.2.1.1 _ hng))
          cases Option.some.inj (hc3.symm.trans hc0)
          cases Option.some.inj (hc4.symm.trans hcomp)
          exact hasg
        · rw [cn, ci, cj, ← ce_cp_fun (g := ce_rv) b3 b4] at hP hD
          have he : ce_e z ad (.inr (6, ce_cp x2 y2 i j n)) = .inl (ce_cA z 6, y2.length, .inr (.inr (.inr (.inr (fun k => ce_rv (ce_v z ad ((ce_cp x2 y2 i j n).getD k ce_0))))))) := by
            simp only [ce_e, ce_cp_len b3 b4, ex]
          rw [← he] at hP hD
          have hwx : ce_we G.2.1.length (.inr (6, x2)) = true := List.all_eq_true.mp hI.2.2.1 _ (List.mem_of_getElem? hx0)
          have hwy : ce_we G.2.1.length (.inr (6, y2)) = true := List.all_eq_true.mp hI.2.2.1 _ (List.mem_of_getElem? hy0)
          exact hS _ (List.mem_singleton.mpr rfl) ad ls H1 locs1 kc ks h1 (by simpa using h2) hl (ce_Inv_set (e := .inr (6, ce_cp x2 y2 i j n)) hI.2.2 hy0 (ce_cp_all (f := ce_wv G.2.1.length) hwx hwy) hP hD) hS1 k1 k2
      · cases h
    · cases h
  · cases h
theorem ce_arrR {z : ce_U} {s : State} {ad : Nat → Nat} {G : ce_G} {H : Heap} (hI : ce_Inv z ad G H) {a : Nat} {x : Nat × List ce_SV} (hx : ce_arr G a = some x) : ∃ cell : Cell, H[ad a]? = some cell ∧ cell.vm.isStatics = false ∧ cell.cls = ce_cA z x.1 := by
  obtain ⟨hx0, hxw⟩ := ce_arr_at (z := z) (ad := ad) hx
  have h := hI.1 a _ hxw
  refine ⟨_, h, ?_, ?_⟩
  · generalize ce_ar z ad x.1 x.2 = q
    rcases q with f | f | f | f | f <;> rfl
  · generalize ce_ar z ad x.1 x.2 = q
    rcases q with f | f | f | f | f <;> rfl
def ce_yG : MethodName := ⟨"java/lang/Object", "getClass", "()Ljava/lang/Class;"⟩
def ce_getC (nx : Nat) : ce_P := fun L G => match L.2 with
  | .inr (.inr (.inl (.inl a))) :: r => match ce_arr G a with
    | some x => match Nat.beq x.1 6 && Nat.ble (ce_wt r) 40 with
      | true => some [(nx, (L.1, .inr (.inr (.inl (.inr 6))) :: r), G)]
      | false => none
    | none => none
  | _ => none
theorem ok_getC {i : Nat} (d : decode cc pc = .ok (.invokevirtual i, 3)) (g1 : Cond.methodLink own i ce_yG ∈ ce_GW) (g2 : Cond.selects "[Ljava/lang/Object;" ce_yG ce_yG ∈ ce_GW) (g3 : Cond.instanceMethod ce_yG ∈ ce_GW) (g4 : Cond.native ce_yG ∈ ce_GW) : ce_OK own nm cc nL ret ht pc (ce_getC (pc + 3)) := by
  intro z p l e R s m args below meth c Q ad0 n0 hC L G S h hS ad ls H locs kc ks h1 h2 hl hI hv k1 k2
  obtain ⟨lo, st⟩ := L
  have hK := ce_CXK hC
  obtain ⟨hl9, hfr, hlo⟩ := ce_CXl hC
  simp only [ce_getC] at h
  split at h
  · rename_i a r
    split at h
    · rename_i x hx
      split at h
      · rename_i hb
        cases h
        obtain ⟨x1, x2⟩ := x
        simp only [Bool.and_eq_true] at hb
        have b1 := Nat.eq_of_beq_eq_true hb.1
        subst b1
        have b8 := Nat.le_trans (ce_wt_ok hK (ad := ad) r) (Nat.le_of_ble_eq_true hb.2)
        obtain ⟨mi, e6, hM⟩ := hK.2.2.2.2.2.2.2.1
        obtain ⟨cell, c1, c2, c3⟩ := ce_arrR (s := s) hI hx
        obtain ⟨-, -, -, -, -, hfc⟩ := (hK.1.2 6 (ce_cA z 6, .object "java/lang/Object") rfl).2
        have hfc2 : s.vm.findClass "[Ljava/lang/Object;" = some cell.cls := by rw [c3]; exact hfc
        refine va_getC (mi := mi) hC.1 hC.2.1 (hC.2.2.1.trans hl.1.symm) hC.2.2.2.1 (hC.2.2.2.2.1 _ g1) (va_Dc.use hK.2.2.2.1.2.2.2) (hC.2.2.2.2.1 _ g2) (hC.2.2.2.2.1 _ g3) (hC.2.2.2.2.1 _ g4) hM ⟨cell, c1, c2, hfc2⟩ (by omega) (by omega) d ?_
        rw [← e6]
        exact hS _ (List.mem_singleton.mpr rfl) ad ls H locs kc ks h1 h2 hl hI hv k1 k2
      · cases h
    · cases h
  · cases h
def ce_yC (C : String) : MethodName := ⟨C, "clone", "()Ljava/lang/Object;"⟩
def ce_clo (nx : Nat) : ce_P := fun L G => match L.2 with
  | .inr (.inr (.inl (.inl a))) :: r => match ce_arr G a with
    | some x => match Nat.beq x.1 0 && (Nat.ble (ce_wt r) 40 && ce_ok (L.1, r) G x.2.length) with
      | true => some [(nx, (L.1, .inr (.inr (.inl (.inl G.2.1.length))) :: r), (G.1, G.2.1 ++ [.inr (0, x.2)], G.2.2.1 - 1, G.2.2.2 - x.2.length))]
      | false => none
    | none => none
  | _ => none
theorem ok_clo {i : Nat} (d : decode cc pc = .ok (.invokevirtual i, 3)) (g1 : Cond.methodLink own i (ce_yC "[I") ∈ ce_GW) (g2 : Cond.sameMethod "[I" "java/lang/Object" "clone" "()Ljava/lang/Object;" ∈ ce_GW) (g3 : Cond.native (ce_yC "java/lang/Object") ∈ ce_GW) (g4 : Cond.instanceMethod (ce_yC "java/lang/Object") ∈ ce_GW) (g5 : Cond.selects "[I" (ce_yC "[I") (ce_yC "java/lang/Object") ∈ ce_GW) (g6 : Cond.castable "[I" "java/lang/Cloneable" ∈ ce_NG) : ce_OK own nm cc nL ret ht pc (ce_clo (pc + 3)) := by
  intro z p l e R s m args below meth c Q ad0 n0 hC L G S h hS ad ls H locs kc ks h1 h2 hl hI hv k1 k2
  obtain ⟨lo, st⟩ := L
  have hK := ce_CXK hC
  obtain ⟨hl9, hfr, hlo⟩ := ce_CXl hC
  have ex : ∀ es : List ce_SV, ce_ar z ad 0 es = .inl (fun j => ce_iv (ce_v z ad (es.getD j ce_0))) := fun es => rfl
  simp only [ce_clo] at h
  split at h
  · rename_i a r
    split at h
    · rename_i x hx
      split at h
      · rename_i hb
        cases h
        obtain ⟨x1, x2⟩ := x
        simp only [Bool.and_eq_true, ce_ok] at hb
        obtain ⟨b1, b8, b2, b3, b4, b5⟩ := hb
        have b1 := Nat.eq_of_beq_eq_true b1
        subst b1
        have b2 := Nat.le_of_ble_eq_true b2
        have b3 := Nat.le_of_ble_eq_true b3
        have b8 := Nat.le_trans (ce_wt_ok hK (ad := ad) r) (Nat.le_of_ble_eq_true b8)
        obtain ⟨hx0, hxw⟩ := ce_arr_at (z := z) (ad := ad) hx
        dsimp only at hxw
        have hxw2 := hxw
        rw [ex] at hxw
        have hA : ∀ q, s.heap.size ≤ q → ce_A z q := fun q hq => Nat.le_trans hK.2.1 hq
        show W _ _ _ _ _ _ _ _ _ _ _ _ _ _ _ (F0 m pc ls (.ref (ad a) :: r.map (ce_v z ad)))
        refine va_clone (x := (x2.length, .inl (fun j => ce_iv (ce_v z ad (x2.getD j ce_0))))) (ty := .int) hC.1 hC.2.1 (hC.2.2.1.trans hl.1.symm) hC.2.2.2.1 (hC.2.2.2.2.1 _ g1) (hC.2.2.2.2.1 _ g2) (hC.2.2.2.2.1 _ g3) (hC.2.2.2.2.1 _ g4) (hC.2.2.2.2.1 _ g5) (hK.2.2.2.1.1 _ g6) hK.1 hI.1 hI.2.1 hv hA a 0 hxw rfl (va_nm_int (hK.1.2 0 _ rfl).2) (fun i v hv9 => ?_) (by omega) (by omega) (by omega) (by dsimp only; omega) d (fun q H1 hK9 hP hD hS1 => ?_)
        · obtain ⟨hi, hv8⟩ := Array.getElem?_eq_some_iff.mp hv9
          have : ∃ w, v = .int w := by
            rw [← hv8]
            show ∃ w, (arrV (ce_cA z 0) x2.length (fun j => .int (ce_iv (ce_v z ad (x2.getD j ce_0))))).slots[i] = .int w
            simp [arrV]
          obtain ⟨w, rfl⟩ := this
          rfl
        · have he : ce_e z ad (.inr (0, x2)) = .inl (ce_cA z 0, x2.length, .inl (fun j => ce_iv (ce_v z ad (x2.getD j ce_0)))) := by
            simp only [ce_e, ex]
          rw [← he] at hP hD
          have hwe : ce_we G.2.1.length (.inr (0, x2)) = true := List.all_eq_true.mp hI.2.2.1 _ (List.mem_of_getElem? hx0)
          have hgo := hS _ (List.mem_singleton.mpr rfl) (ce_ad ad G.2.1.length q) ls H1 locs (kc + 1) (ks + x2.length) (fun k hk9 => (ce_ad_lt k (Nat.lt_of_lt_of_le hk9 h2)).trans (h1 k hk9)) (by simp; omega) (by rw [ce_loc_congr ce_ad_lt b4]; exact hl)
            (ce_Inv_app (e := .inr (0, x2)) hI.2.2 hwe ce_ad_lt ce_ad_eq hP hD) hS1 (by dsimp only; omega) (by dsimp only; omega)
          rw [List.map_cons, ce_map_congr ce_ad_lt b5] at hgo
          have e9 : ce_v z (ce_ad ad G.2.1.length q) (.inr (.inr (.inl (.inl G.2.1.length)))) = .ref q := congrArg Value.ref ce_ad_eq
          rw [e9] at hgo
          exact hgo
      · cases h
    · cases h
  · cases h
end Nat9
end
section
-- codes and names of the methods that a run of one call reaches (rows of the claim's printed names), and the words that are used
abbrev cJ0_coder_7d493 : ByteArray := prog_42_method_152_code
def yJ0_coder_7d493 : MethodName := ⟨"java/lang/String", "coder", "()B"⟩
abbrev cJ0_isEmpty_aae02 : ByteArray := prog_42_method_55_code
def yJ0_isEmpty_aae02 : MethodName := ⟨"java/lang/String", "isEmpty", "()Z"⟩
abbrev cJ0_isLatin1_aae02 : ByteArray := prog_42_method_154_code
def yJ0_isLatin1_aae02 : MethodName := ⟨"java/lang/String", "isLatin1", "()Z"⟩
abbrev cJ1_canEncode_9a6ad : ByteArray := prog_44_method_4_code
def yJ1_canEncode_9a6ad : MethodName := ⟨"java/lang/StringLatin1", "canEncode", "(I)Z"⟩
abbrev cJ1_canEncode_fc78d : ByteArray := prog_44_method_3_code
def yJ1_canEncode_fc78d : MethodName := ⟨"java/lang/StringLatin1", "canEncode", "(C)Z"⟩
abbrev cJ1_indexOfChar_4cfef : ByteArray := prog_44_method_23_code
def yJ1_indexOfChar_4cfef : MethodName := ⟨"java/lang/StringLatin1", "indexOfChar", "([BIII)I"⟩
abbrev cJ2_length_9d52b : ByteArray := prog_45_method_6_code
def yJ2_length_9d52b : MethodName := ⟨"java/lang/StringUTF16", "length", "([B)I"⟩
abbrev cJ2_newBytesLength_0f7a4 : ByteArray := prog_45_method_3_code
def yJ2_newBytesLength_0f7a4 : MethodName := ⟨"java/lang/StringUTF16", "newBytesLength", "(I)I"⟩
abbrev cJ2_putChar_b72d1 : ByteArray := prog_45_method_4_code
def yJ2_putChar_b72d1 : MethodName := ⟨"java/lang/StringUTF16", "putChar", "([BII)V"⟩
abbrev cJ3_checkFromIndexSize_8c36e : ByteArray := prog_64_method_13_code
def yJ3_checkFromIndexSize_8c36e : MethodName := ⟨"jdk/internal/util/Preconditions", "checkFromIndexSize", "(IIILjava/util/function/BiFunction;)I"⟩
abbrev cJ3_checkIndex_8e157 : ByteArray := prog_64_method_11_code
def yJ3_checkIndex_8e157 : MethodName := ⟨"jdk/internal/util/Preconditions", "checkIndex", "(IILjava/util/function/BiFunction;)I"⟩
abbrev cJ5_ensureCapacityInternal_d00df : ByteArray := prog_25_method_9_code
def yJ5_ensureCapacityInternal_d00df : MethodName := ⟨"java/lang/AbstractStringBuilder", "ensureCapacityInternal", "(I)V"⟩
abbrev cJ5_getValue_6d5f1 : ByteArray := prog_25_method_64_code
def yJ5_getValue_6d5f1 : MethodName := ⟨"java/lang/AbstractStringBuilder", "getValue", "()[B"⟩
abbrev cJ5_init_d00df : ByteArray := prog_25_method_2_code
def yJ5_init_d00df : MethodName := ⟨"java/lang/AbstractStringBuilder", "<init>", "(I)V"⟩
abbrev cJ5_isLatin1_aae02 : ByteArray := prog_25_method_68_code
def yJ5_isLatin1_aae02 : MethodName := ⟨"java/lang/AbstractStringBuilder", "isLatin1", "()Z"⟩
abbrev cJ5_length_8abf5 : ByteArray := prog_25_method_6_code
def yJ5_length_8abf5 : MethodName := ⟨"java/lang/AbstractStringBuilder", "length", "()I"⟩
abbrev cJ7_checkLength_df160 : ByteArray := prog_55_method_131_code
def yJ7_checkLength_df160 : MethodName := ⟨"java/util/Arrays", "checkLength", "(II)V"⟩
abbrev cJ9_max_7cf53 : ByteArray := prog_39_method_65_code
def yJ9_max_7cf53 : MethodName := ⟨"java/lang/Math", "max", "(II)I"⟩
abbrev cJ9_min_7cf53 : ByteArray := prog_39_method_69_code
def yJ9_min_7cf53 : MethodName := ⟨"java/lang/Math", "min", "(II)I"⟩
abbrev cJx35411_hasNext_aae02 : ByteArray := prog_54_method_2_code
abbrev cJx35411_init_45d68 : ByteArray := prog_54_method_1_code
def yJx35411_init_45d68 : MethodName := ⟨"java/util/ArrayList$Itr", "<init>", "(Ljava/util/ArrayList;)V"⟩
abbrev cJx4a65c_isEmpty_aae02 : ByteArray := prog_53_method_9_code
def yJx4a65c_isEmpty_aae02 : MethodName := ⟨"java/util/ArrayList", "isEmpty", "()Z"⟩
abbrev cJx4a65c_size_8abf5 : ByteArray := prog_53_method_8_code
def yJx4a65c_size_8abf5 : MethodName := ⟨"java/util/ArrayList", "size", "()I"⟩
abbrev cJxa1e45_init_da8c8 : ByteArray := prog_51_method_1_code
def yJxa1e45_init_da8c8 : MethodName := ⟨"java/util/AbstractCollection", "<init>", "()V"⟩
abbrev cX0_become : ByteArray := prog_2_method_2_code
def yX0_become : MethodName := ⟨"Carcasswright$Board", "become", "(IIII)V"⟩
abbrev cX0_init : ByteArray := prog_2_method_1_code
def yX0_init : MethodName := ⟨"Carcasswright$Board", "<init>", "()V"⟩
abbrev cX10_init : ByteArray := prog_12_method_1_code
def yX10_init : MethodName := ⟨"Carcasswright$Wall", "<init>", "()V"⟩
abbrev cX11_boards : ByteArray := prog_1_method_32_code
def yX11_boards : MethodName := ⟨"Carcasswright", "boards", "()I"⟩
abbrev cX11_clash : ByteArray := prog_1_method_17_code
def yX11_clash : MethodName := ⟨"Carcasswright", "clash", "(I)C"⟩
abbrev cX11_clashNumber : ByteArray := prog_1_method_18_code
def yX11_clashNumber : MethodName := ⟨"Carcasswright", "clashNumber", "(I)I"⟩
abbrev cX11_close : ByteArray := prog_1_method_3_code
def yX11_close : MethodName := ⟨"Carcasswright", "close", "()I"⟩
abbrev cX11_cutShare : ByteArray := prog_1_method_50_code
def yX11_cutShare : MethodName := ⟨"Carcasswright", "cutShare", "()F"⟩
abbrev cX11_isClosedRoom : ByteArray := prog_1_method_5_code
def yX11_isClosedRoom : MethodName := ⟨"Carcasswright", "isClosedRoom", "()Z"⟩
abbrev cX11_isNoColour : ByteArray := prog_1_method_54_code
def yX11_isNoColour : MethodName := ⟨"Carcasswright", "isNoColour", "(I)Z"⟩
abbrev cX11_isOutside : ByteArray := prog_1_method_53_code
def yX11_isOutside : MethodName := ⟨"Carcasswright", "isOutside", "(III)Z"⟩
abbrev cX11_jobAt : ByteArray := prog_1_method_47_code
def yX11_jobAt : MethodName := ⟨"Carcasswright", "jobAt", "(I)I"⟩
abbrev cX11_meanWidth : ByteArray := prog_1_method_51_code
def yX11_meanWidth : MethodName := ⟨"Carcasswright", "meanWidth", "()D"⟩
abbrev cX11_modules : ByteArray := prog_1_method_48_code
def yX11_modules : MethodName := ⟨"Carcasswright", "modules", "()I"⟩
abbrev cX12_area : ByteArray := prog_15_method_2_code
def yX12_area : MethodName := ⟨"CarcasswrightModel$Board", "area", "()J"⟩
abbrev cX14_init : ByteArray := prog_17_method_1_code
def yX14_init : MethodName := ⟨"CarcasswrightModel$Job", "<init>", "(III)V"⟩
abbrev cX19_init : ByteArray := prog_22_method_1_code
def yX19_init : MethodName := ⟨"CarcasswrightModel$Type", "<init>", "()V"⟩
abbrev cX1_append : ByteArray := prog_3_method_2_code
def yX1_append : MethodName := ⟨"Carcasswright$Jobs", "append", "(III)I"⟩
abbrev cX1_init : ByteArray := prog_3_method_1_code
def yX1_init : MethodName := ⟨"Carcasswright$Jobs", "<init>", "()V"⟩
abbrev cX1_keepOrder : ByteArray := prog_3_method_4_code
def yX1_keepOrder : MethodName := ⟨"Carcasswright$Jobs", "keepOrder", "()V"⟩
abbrev cX1_lateInOrder : ByteArray := prog_3_method_5_code
def yX1_lateInOrder : MethodName := ⟨"Carcasswright$Jobs", "lateInOrder", "()I"⟩
abbrev cX20_init : ByteArray := prog_23_method_1_code
def yX20_init : MethodName := ⟨"CarcasswrightModel$Wall", "<init>", "(CI)V"⟩
abbrev cX21_faults : ByteArray := prog_14_method_20_code
def yX21_faults : MethodName := ⟨"CarcasswrightModel", "faults", "(CI)V"⟩
abbrev cX21_in : ByteArray := prog_14_method_1_code
def yX21_in : MethodName := ⟨"CarcasswrightModel", "in", "(III)Z"⟩
abbrev cX21_isSound : ByteArray := prog_14_method_82_code
def yX21_isSound : MethodName := ⟨"CarcasswrightModel", "isSound", "()Z"⟩
abbrev cX21_raises : ByteArray := prog_14_method_5_code
def yX21_raises : MethodName := ⟨"CarcasswrightModel", "raises", "(I)I"⟩
abbrev cX21_thrown : ByteArray := prog_14_method_4_code
def yX21_thrown : MethodName := ⟨"CarcasswrightModel", "thrown", "()I"⟩
abbrev cX21_tries : ByteArray := prog_14_method_72_code
def yX21_tries : MethodName := ⟨"CarcasswrightModel", "tries", "([IIIII)V"⟩
abbrev cX2_init : ByteArray := prog_4_method_1_code
def yX2_init : MethodName := ⟨"Carcasswright$ModuleType", "<init>", "()V"⟩
abbrev cX2_reset : ByteArray := prog_4_method_2_code
def yX2_reset : MethodName := ⟨"Carcasswright$ModuleType", "reset", "(C)V"⟩
abbrev cX3_init : ByteArray := prog_5_method_1_code
def yX3_init : MethodName := ⟨"Carcasswright$Obstacle", "<init>", "()V"⟩
abbrev cX4_init : ByteArray := prog_6_method_1_code
def yX4_init : MethodName := ⟨"Carcasswright$Packer", "<init>", "()V"⟩
abbrev cX5_init : ByteArray := prog_7_method_1_code
def yX5_init : MethodName := ⟨"Carcasswright$PlacedModule", "<init>", "(LCarcasswright$ModuleType;)V"⟩
abbrev cX6_cutSquares : ByteArray := prog_8_method_23_code
def yX6_cutSquares : MethodName := ⟨"Carcasswright$Room", "cutSquares", "()J"⟩
abbrev cX6_hasModulesInTheWay : ByteArray := prog_8_method_25_code
def yX6_hasModulesInTheWay : MethodName := ⟨"Carcasswright$Room", "hasModulesInTheWay", "()Z"⟩
abbrev cX6_hasOnlyOwnParts : ByteArray := prog_8_method_24_code
def yX6_hasOnlyOwnParts : MethodName := ⟨"Carcasswright$Room", "hasOnlyOwnParts", "()Z"⟩
abbrev cX6_moduleAt : ByteArray := prog_8_method_3_code
def yX6_moduleAt : MethodName := ⟨"Carcasswright$Room", "moduleAt", "(I)LCarcasswright$PlacedModule;"⟩
abbrev cX6_wallAt : ByteArray := prog_8_method_2_code
def yX6_wallAt : MethodName := ⟨"Carcasswright$Room", "wallAt", "(I)LCarcasswright$Wall;"⟩
abbrev cX8_boardAt : ByteArray := prog_10_method_2_code
def yX8_boardAt : MethodName := ⟨"Carcasswright$Stock", "boardAt", "(I)LCarcasswright$Board;"⟩
abbrev cX8_offcutCount : ByteArray := prog_10_method_4_code
def yX8_offcutCount : MethodName := ⟨"Carcasswright$Stock", "offcutCount", "()I"⟩
abbrev cX8_squares : ByteArray := prog_10_method_5_code
def yX8_squares : MethodName := ⟨"Carcasswright$Stock", "squares", "()J"⟩
abbrev cX9_append : ByteArray := prog_11_method_4_code
def yX9_append : MethodName := ⟨"Carcasswright$Types", "append", "(C)I"⟩
abbrev cX9_clearText : ByteArray := prog_11_method_5_code
def yX9_clearText : MethodName := ⟨"Carcasswright$Types", "clearText", "()I"⟩
abbrev cX9_fail : ByteArray := prog_11_method_9_code
def yX9_fail : MethodName := ⟨"Carcasswright$Types", "fail", "(IC)V"⟩
abbrev cX9_first : ByteArray := prog_11_method_2_code
def yX9_first : MethodName := ⟨"Carcasswright$Types", "first", "()LCarcasswright$ModuleType;"⟩
abbrev cX9_hasFault : ByteArray := prog_11_method_7_code
def yX9_hasFault : MethodName := ⟨"Carcasswright$Types", "hasFault", "()Z"⟩
abbrev cX9_typeAt : ByteArray := prog_11_method_3_code
def yX9_typeAt : MethodName := ⟨"Carcasswright$Types", "typeAt", "(I)LCarcasswright$ModuleType;"⟩
abbrev cJ0_checkBoundsOffCount_cabcc : ByteArray := prog_42_method_157_code
def yJ0_checkBoundsOffCount_cabcc : MethodName := ⟨"java/lang/String", "checkBoundsOffCount", "(III)I"⟩
abbrev cJ0_checkIndex_df160 : ByteArray := prog_42_method_155_code
def yJ0_checkIndex_df160 : MethodName := ⟨"java/lang/String", "checkIndex", "(II)V"⟩
abbrev cJ0_getBytes_840e7 : ByteArray := prog_42_method_147_code
def yJ0_getBytes_840e7 : MethodName := ⟨"java/lang/String", "getBytes", "([BIB)V"⟩
abbrev cJ0_length_8abf5 : ByteArray := prog_42_method_54_code
def yJ0_length_8abf5 : MethodName := ⟨"java/lang/String", "length", "()I"⟩
abbrev cJ1_indexOf_4cfef : ByteArray := prog_44_method_22_code
def yJ1_indexOf_4cfef : MethodName := ⟨"java/lang/StringLatin1", "indexOf", "([BIII)I"⟩
abbrev cJ2_newBytesFor_77867 : ByteArray := prog_45_method_2_code
def yJ2_newBytesFor_77867 : MethodName := ⟨"java/lang/StringUTF16", "newBytesFor", "(I)[B"⟩
abbrev cJ4_init_da8c8 : ByteArray := prog_43_method_1_code
def yJ4_init_da8c8 : MethodName := ⟨"java/lang/StringBuilder", "<init>", "()V"⟩
abbrev cJ4_length_8abf5 : ByteArray := prog_43_method_93_code
def yJ4_length_8abf5 : MethodName := ⟨"java/lang/StringBuilder", "length", "()I"⟩
abbrev cJ7_copyOfRangeByte_39247 : ByteArray := prog_55_method_133_code
def yJ7_copyOfRangeByte_39247 : MethodName := ⟨"java/util/Arrays", "copyOfRangeByte", "([BII)[B"⟩
abbrev cJ7_copyOf_6403c : ByteArray := prog_55_method_120_code
def yJ7_copyOf_6403c : MethodName := ⟨"java/util/Arrays", "copyOf", "([Ljava/lang/Object;ILjava/lang/Class;)[Ljava/lang/Object;"⟩
abbrev cJ8_newLength_cabcc : ByteArray := prog_63_method_27_code
def yJ8_newLength_cabcc : MethodName := ⟨"jdk/internal/util/ArraysSupport", "newLength", "(III)I"⟩
abbrev cJx4a65c_iterator_32c93 : ByteArray := prog_53_method_55_code
def yJx4a65c_iterator_32c93 : MethodName := ⟨"java/util/ArrayList", "iterator", "()Ljava/util/Iterator;"⟩
abbrev cJxc12de_init_da8c8 : ByteArray := prog_52_method_1_code
def yJxc12de_init_da8c8 : MethodName := ⟨"java/util/AbstractList", "<init>", "()V"⟩
abbrev cL_clash : ByteArray := method_16_code
def yL_clash : MethodName := ⟨"CarcasswrightLaw", "clash", "(LCarcasswright;I[J)I"⟩
abbrev cL_clashNumber : ByteArray := method_17_code
def yL_clashNumber : MethodName := ⟨"CarcasswrightLaw", "clashNumber", "(LCarcasswright;I[J)I"⟩
abbrev cL_close : ByteArray := method_4_code
def yL_close : MethodName := ⟨"CarcasswrightLaw", "close", "(LCarcasswright;[J)I"⟩
abbrev cL_cutShare : ByteArray := method_45_code
def yL_cutShare : MethodName := ⟨"CarcasswrightLaw", "cutShare", "(LCarcasswright;[D)I"⟩
abbrev cL_jobAt : ByteArray := method_43_code
def yL_jobAt : MethodName := ⟨"CarcasswrightLaw", "jobAt", "(LCarcasswright;I[J)I"⟩
abbrev cL_meanWidth : ByteArray := method_46_code
def yL_meanWidth : MethodName := ⟨"CarcasswrightLaw", "meanWidth", "(LCarcasswright;[D)I"⟩
abbrev cX11_area : ByteArray := prog_1_method_49_code
def yX11_area : MethodName := ⟨"Carcasswright", "area", "(C)J"⟩
abbrev cX11_board : ByteArray := prog_1_method_34_code
def yX11_board : MethodName := ⟨"Carcasswright", "board", "(IC)I"⟩
abbrev cX11_change : ByteArray := prog_1_method_16_code
def yX11_change : MethodName := ⟨"Carcasswright", "change", "(II)I"⟩
abbrev cX11_cut : ByteArray := prog_1_method_36_code
def yX11_cut : MethodName := ⟨"Carcasswright", "cut", "(I)I"⟩
abbrev cX11_edged : ByteArray := prog_1_method_38_code
def yX11_edged : MethodName := ⟨"Carcasswright", "edged", "(I)I"⟩
abbrev cX11_from : ByteArray := prog_1_method_19_code
def yX11_from : MethodName := ⟨"Carcasswright", "from", "(I)I"⟩
abbrev cX11_hinges : ByteArray := prog_1_method_26_code
def yX11_hinges : MethodName := ⟨"Carcasswright", "hinges", "(I)I"⟩
abbrev cX11_isSound : ByteArray := prog_1_method_52_code
def yX11_isSound : MethodName := ⟨"Carcasswright", "isSound", "()Z"⟩
abbrev cX11_job : ByteArray := prog_1_method_44_code
def yX11_job : MethodName := ⟨"Carcasswright", "job", "(III)I"⟩
abbrev cX11_lengthOf : ByteArray := prog_1_method_4_code
def yX11_lengthOf : MethodName := ⟨"Carcasswright", "lengthOf", "(I)I"⟩
abbrev cX11_moduleWithPart : ByteArray := prog_1_method_56_code
def yX11_moduleWithPart : MethodName := ⟨"Carcasswright", "moduleWithPart", "(II)LCarcasswright$PlacedModule;"⟩
abbrev cX11_obstacle : ByteArray := prog_1_method_7_code
def yX11_obstacle : MethodName := ⟨"Carcasswright", "obstacle", "(IIIII)I"⟩
abbrev cX11_offcuts : ByteArray := prog_1_method_33_code
def yX11_offcuts : MethodName := ⟨"Carcasswright", "offcuts", "()I"⟩
abbrev cX11_packs : ByteArray := prog_1_method_41_code
def yX11_packs : MethodName := ⟨"Carcasswright", "packs", "(II)I"⟩
abbrev cX11_parts : ByteArray := prog_1_method_22_code
def yX11_parts : MethodName := ⟨"Carcasswright", "parts", "(I)I"⟩
abbrev cX11_place : ByteArray := prog_1_method_14_code
def yX11_place : MethodName := ⟨"Carcasswright", "place", "(IIII)I"⟩
abbrev cX11_price : ByteArray := prog_1_method_40_code
def yX11_price : MethodName := ⟨"Carcasswright", "price", "(I)I"⟩
abbrev cX11_setOff : ByteArray := prog_1_method_6_code
def yX11_setOff : MethodName := ⟨"Carcasswright", "setOff", "(III)I"⟩
abbrev cX11_setRate : ByteArray := prog_1_method_39_code
def yX11_setRate : MethodName := ⟨"Carcasswright", "setRate", "(II)I"⟩
abbrev cX11_setSetup : ByteArray := prog_1_method_45_code
def yX11_setSetup : MethodName := ⟨"Carcasswright", "setSetup", "(I)I"⟩
abbrev cX11_shift : ByteArray := prog_1_method_15_code
def yX11_shift : MethodName := ⟨"Carcasswright", "shift", "(II)I"⟩
abbrev cX11_told : ByteArray := prog_1_method_13_code
def yX11_told : MethodName := ⟨"Carcasswright", "told", "(IC)I"⟩
abbrev cX11_type : ByteArray := prog_1_method_8_code
def yX11_type : MethodName := ⟨"Carcasswright", "type", "(C)I"⟩
abbrev cX11_uncut : ByteArray := prog_1_method_35_code
def yX11_uncut : MethodName := ⟨"Carcasswright", "uncut", "(I)I"⟩
abbrev cX11_wipe : ByteArray := prog_1_method_9_code
def yX11_wipe : MethodName := ⟨"Carcasswright", "wipe", "()I"⟩
abbrev cX1_goToNextOrder : ByteArray := prog_3_method_6_code
def yX1_goToNextOrder : MethodName := ⟨"Carcasswright$Jobs", "goToNextOrder", "()Z"⟩
abbrev cX21_board : ByteArray := prog_14_method_56_code
def yX21_board : MethodName := ⟨"CarcasswrightModel", "board", "(IC)I"⟩
abbrev cX21_boards : ByteArray := prog_14_method_54_code
def yX21_boards : MethodName := ⟨"CarcasswrightModel", "boards", "()I"⟩
abbrev cX21_close : ByteArray := prog_14_method_11_code
def yX21_close : MethodName := ⟨"CarcasswrightModel", "close", "()I"⟩
abbrev cX21_isClosedRoom : ByteArray := prog_14_method_14_code
def yX21_isClosedRoom : MethodName := ⟨"CarcasswrightModel", "isClosedRoom", "()Z"⟩
abbrev cX21_isType : ByteArray := prog_14_method_26_code
def yX21_isType : MethodName := ⟨"CarcasswrightModel", "isType", "(I)Z"⟩
abbrev cX21_modules : ByteArray := prog_14_method_76_code
def yX21_modules : MethodName := ⟨"CarcasswrightModel", "modules", "()I"⟩
abbrev cX21_noModule : ByteArray := prog_14_method_32_code
def yX21_noModule : MethodName := ⟨"CarcasswrightModel", "noModule", "(I)Z"⟩
abbrev cX21_noWall : ByteArray := prog_14_method_12_code
def yX21_noWall : MethodName := ⟨"CarcasswrightModel", "noWall", "(I)Z"⟩
abbrev cX21_orders : ByteArray := prog_14_method_73_code
def yX21_orders : MethodName := ⟨"CarcasswrightModel", "orders", "()V"⟩
abbrev cX21_reads : ByteArray := prog_14_method_21_code
def yX21_reads : MethodName := ⟨"CarcasswrightModel", "reads", "()V"⟩
abbrev cX21_setRate : ByteArray := prog_14_method_64_code
def yX21_setRate : MethodName := ⟨"CarcasswrightModel", "setRate", "(II)I"⟩
abbrev cX21_setSetup : ByteArray := prog_14_method_71_code
def yX21_setSetup : MethodName := ⟨"CarcasswrightModel", "setSetup", "(I)I"⟩
abbrev cX6_build : ByteArray := prog_8_method_4_code
def yX6_build : MethodName := ⟨"Carcasswright$Room", "build", "(CI)I"⟩
abbrev cX6_freeRows : ByteArray := prog_8_method_21_code
def yX6_freeRows : MethodName := ⟨"Carcasswright$Room", "freeRows", "(IZZ)I"⟩
abbrev cX6_init : ByteArray := prog_8_method_1_code
def yX6_init : MethodName := ⟨"Carcasswright$Room", "<init>", "(LCarcasswright$ModuleType;)V"⟩
abbrev cX7_init : ByteArray := prog_9_method_1_code
def yX7_init : MethodName := ⟨"Carcasswright$Saw", "<init>", "(LCarcasswright$Stock;)V"⟩
abbrev cX8_append : ByteArray := prog_10_method_3_code
def yX8_append : MethodName := ⟨"Carcasswright$Stock", "append", "(IIIIZ)Z"⟩
abbrev cX8_init : ByteArray := prog_10_method_1_code
def yX8_init : MethodName := ⟨"Carcasswright$Stock", "<init>", "()V"⟩
abbrev cX9_init : ByteArray := prog_11_method_1_code
def yX9_init : MethodName := ⟨"Carcasswright$Types", "<init>", "()V"⟩
abbrev cX9_read : ByteArray := prog_11_method_8_code
def yX9_read : MethodName := ⟨"Carcasswright$Types", "read", "()V"⟩
abbrev cJ0_indexOf_7cf53 : ByteArray := prog_42_method_80_code
def yJ0_indexOf_7cf53 : MethodName := ⟨"java/lang/String", "indexOf", "(II)I"⟩
abbrev cJ2_checkBoundsOffCount_d044e : ByteArray := prog_45_method_94_code
def yJ2_checkBoundsOffCount_d044e : MethodName := ⟨"java/lang/StringUTF16", "checkBoundsOffCount", "(II[B)V"⟩
abbrev cJ2_checkIndex_2214a : ByteArray := prog_45_method_91_code
def yJ2_checkIndex_2214a : MethodName := ⟨"java/lang/StringUTF16", "checkIndex", "(I[B)V"⟩
abbrev cJ7_copyOfRange_39247 : ByteArray := prog_55_method_132_code
def yJ7_copyOfRange_39247 : MethodName := ⟨"java/util/Arrays", "copyOfRange", "([BII)[B"⟩
abbrev cJ7_copyOf_1904c : ByteArray := prog_55_method_119_code
def yJ7_copyOf_1904c : MethodName := ⟨"java/util/Arrays", "copyOf", "([Ljava/lang/Object;I)[Ljava/lang/Object;"⟩
abbrev cJx4a65c_init_da8c8 : ByteArray := prog_53_method_2_code
def yJx4a65c_init_da8c8 : MethodName := ⟨"java/util/ArrayList", "<init>", "()V"⟩
abbrev cL_area : ByteArray := method_44_code
def yL_area : MethodName := ⟨"CarcasswrightLaw", "area", "(LCarcasswright;C[J)I"⟩
abbrev cL_board : ByteArray := method_31_code
def yL_board : MethodName := ⟨"CarcasswrightLaw", "board", "(LCarcasswright;IC[J)I"⟩
abbrev cL_change : ByteArray := method_15_code
def yL_change : MethodName := ⟨"CarcasswrightLaw", "change", "(LCarcasswright;II[J)I"⟩
abbrev cL_cut : ByteArray := method_33_code
def yL_cut : MethodName := ⟨"CarcasswrightLaw", "cut", "(LCarcasswright;I[J)I"⟩
abbrev cL_edged : ByteArray := method_35_code
def yL_edged : MethodName := ⟨"CarcasswrightLaw", "edged", "(LCarcasswright;I[J)I"⟩
abbrev cL_from : ByteArray := method_18_code
def yL_from : MethodName := ⟨"CarcasswrightLaw", "from", "(LCarcasswright;I[J)I"⟩
abbrev cL_hinges : ByteArray := method_25_code
def yL_hinges : MethodName := ⟨"CarcasswrightLaw", "hinges", "(LCarcasswright;I[J)I"⟩
abbrev cL_job : ByteArray := method_41_code
def yL_job : MethodName := ⟨"CarcasswrightLaw", "job", "(LCarcasswright;III[J)I"⟩
abbrev cL_lengthOf : ByteArray := method_5_code
def yL_lengthOf : MethodName := ⟨"CarcasswrightLaw", "lengthOf", "(LCarcasswright;I[J)I"⟩
abbrev cL_obstacle : ByteArray := method_7_code
def yL_obstacle : MethodName := ⟨"CarcasswrightLaw", "obstacle", "(LCarcasswright;IIIII[J)I"⟩
abbrev cL_packs : ByteArray := method_38_code
def yL_packs : MethodName := ⟨"CarcasswrightLaw", "packs", "(LCarcasswright;II[J)I"⟩
abbrev cL_parts : ByteArray := method_21_code
def yL_parts : MethodName := ⟨"CarcasswrightLaw", "parts", "(LCarcasswright;I[J)I"⟩
abbrev cL_place : ByteArray := method_13_code
def yL_place : MethodName := ⟨"CarcasswrightLaw", "place", "(LCarcasswright;IIII[J)I"⟩
abbrev cL_price : ByteArray := method_37_code
def yL_price : MethodName := ⟨"CarcasswrightLaw", "price", "(LCarcasswright;I[J)I"⟩
abbrev cL_setOff : ByteArray := method_6_code
def yL_setOff : MethodName := ⟨"CarcasswrightLaw", "setOff", "(LCarcasswright;III[J)I"⟩
abbrev cL_setRate : ByteArray := method_36_code
def yL_setRate : MethodName := ⟨"CarcasswrightLaw", "setRate", "(LCarcasswright;II[J)I"⟩
abbrev cL_setSetup : ByteArray := method_42_code
def yL_setSetup : MethodName := ⟨"CarcasswrightLaw", "setSetup", "(LCarcasswright;I[J)I"⟩
abbrev cL_shift : ByteArray := method_14_code
def yL_shift : MethodName := ⟨"CarcasswrightLaw", "shift", "(LCarcasswright;II[J)I"⟩
abbrev cL_told : ByteArray := method_12_code
def yL_told : MethodName := ⟨"CarcasswrightLaw", "told", "(LCarcasswright;IC[J)I"⟩
abbrev cL_type : ByteArray := method_8_code
def yL_type : MethodName := ⟨"CarcasswrightLaw", "type", "(LCarcasswright;C[J)I"⟩
abbrev cL_uncut : ByteArray := method_32_code
def yL_uncut : MethodName := ⟨"CarcasswrightLaw", "uncut", "(LCarcasswright;I[J)I"⟩
abbrev cX11_addBoards : ByteArray := prog_1_method_31_code
def yX11_addBoards : MethodName := ⟨"Carcasswright", "addBoards", "(IIIII)I"⟩
abbrev cX11_addType : ByteArray := prog_1_method_12_code
def yX11_addType : MethodName := ⟨"Carcasswright", "addType", "()I"⟩
abbrev cX11_addWall : ByteArray := prog_1_method_2_code
def yX11_addWall : MethodName := ⟨"Carcasswright", "addWall", "(CI)I"⟩
abbrev cX11_clamp : ByteArray := prog_1_method_30_code
def yX11_clamp : MethodName := ⟨"Carcasswright", "clamp", "(IIZ)I"⟩
abbrev cX11_drills : ByteArray := prog_1_method_29_code
def yX11_drills : MethodName := ⟨"Carcasswright", "drills", "(II)I"⟩
abbrev cX11_fault : ByteArray := prog_1_method_10_code
def yX11_fault : MethodName := ⟨"Carcasswright", "fault", "()I"⟩
abbrev cX11_faultKind : ByteArray := prog_1_method_11_code
def yX11_faultKind : MethodName := ⟨"Carcasswright", "faultKind", "()C"⟩
abbrev cX11_free : ByteArray := prog_1_method_20_code
def yX11_free : MethodName := ⟨"Carcasswright", "free", "(IZ)I"⟩
abbrev cX11_hole : ByteArray := prog_1_method_28_code
def yX11_hole : MethodName := ⟨"Carcasswright", "hole", "(IIIC)I"⟩
abbrev cX11_holes : ByteArray := prog_1_method_27_code
def yX11_holes : MethodName := ⟨"Carcasswright", "holes", "(II)I"⟩
abbrev cX11_init : ByteArray := prog_1_method_1_code
def yX11_init : MethodName := ⟨"Carcasswright", "<init>", "()V"⟩
abbrev cX11_kindOf : ByteArray := prog_1_method_23_code
def yX11_kindOf : MethodName := ⟨"Carcasswright", "kindOf", "(II)C"⟩
abbrev cX11_lose : ByteArray := prog_1_method_37_code
def yX11_lose : MethodName := ⟨"Carcasswright", "lose", "(II)I"⟩
abbrev cX11_packOf : ByteArray := prog_1_method_42_code
def yX11_packOf : MethodName := ⟨"Carcasswright", "packOf", "(III)I"⟩
abbrev cX11_size : ByteArray := prog_1_method_24_code
def yX11_size : MethodName := ⟨"Carcasswright", "size", "(IIC)I"⟩
abbrev cX11_stepAt : ByteArray := prog_1_method_43_code
def yX11_stepAt : MethodName := ⟨"Carcasswright", "stepAt", "(II)I"⟩
abbrev cX11_weight : ByteArray := prog_1_method_25_code
def yX11_weight : MethodName := ⟨"Carcasswright", "weight", "(II)I"⟩
abbrev cX11_widest : ByteArray := prog_1_method_21_code
def yX11_widest : MethodName := ⟨"Carcasswright", "widest", "(IZ)I"⟩
abbrev cX1_plan : ByteArray := prog_3_method_3_code
def yX1_plan : MethodName := ⟨"Carcasswright$Jobs", "plan", "()V"⟩
abbrev cX21_addType : ByteArray := prog_14_method_25_code
def yX21_addType : MethodName := ⟨"CarcasswrightModel", "addType", "()I"⟩
abbrev cX21_change : ByteArray := prog_14_method_34_code
def yX21_change : MethodName := ⟨"CarcasswrightModel", "change", "(II)I"⟩
abbrev cX21_clash : ByteArray := prog_14_method_35_code
def yX21_clash : MethodName := ⟨"CarcasswrightModel", "clash", "(I)C"⟩
abbrev cX21_clashNumber : ByteArray := prog_14_method_36_code
def yX21_clashNumber : MethodName := ⟨"CarcasswrightModel", "clashNumber", "(I)I"⟩
abbrev cX21_cut : ByteArray := prog_14_method_61_code
def yX21_cut : MethodName := ⟨"CarcasswrightModel", "cut", "(I)I"⟩
abbrev cX21_cutArea : ByteArray := prog_14_method_78_code
def yX21_cutArea : MethodName := ⟨"CarcasswrightModel", "cutArea", "()J"⟩
abbrev cX21_cutShare : ByteArray := prog_14_method_80_code
def yX21_cutShare : MethodName := ⟨"CarcasswrightModel", "cutShare", "()F"⟩
abbrev cX21_edged : ByteArray := prog_14_method_63_code
def yX21_edged : MethodName := ⟨"CarcasswrightModel", "edged", "(I)I"⟩
abbrev cX21_fault : ByteArray := prog_14_method_23_code
def yX21_fault : MethodName := ⟨"CarcasswrightModel", "fault", "()I"⟩
abbrev cX21_faultKind : ByteArray := prog_14_method_24_code
def yX21_faultKind : MethodName := ⟨"CarcasswrightModel", "faultKind", "()C"⟩
abbrev cX21_free_ : ByteArray := prog_14_method_39_code
def yX21_free_ : MethodName := ⟨"CarcasswrightModel", "free", "(IZ)I"⟩
abbrev cX21_from : ByteArray := prog_14_method_37_code
def yX21_from : MethodName := ⟨"CarcasswrightModel", "from", "(I)I"⟩
abbrev cX21_hinges : ByteArray := prog_14_method_47_code
def yX21_hinges : MethodName := ⟨"CarcasswrightModel", "hinges", "(I)I"⟩
abbrev cX21_jobAt : ByteArray := prog_14_method_75_code
def yX21_jobAt : MethodName := ⟨"CarcasswrightModel", "jobAt", "(I)I"⟩
abbrev cX21_lateness : ByteArray := prog_14_method_74_code
def yX21_lateness : MethodName := ⟨"CarcasswrightModel", "lateness", "()I"⟩
abbrev cX21_lengthOf : ByteArray := prog_14_method_13_code
def yX21_lengthOf : MethodName := ⟨"CarcasswrightModel", "lengthOf", "(I)I"⟩
abbrev cX21_meanWidth : ByteArray := prog_14_method_81_code
def yX21_meanWidth : MethodName := ⟨"CarcasswrightModel", "meanWidth", "()D"⟩
abbrev cX21_obstacle : ByteArray := prog_14_method_16_code
def yX21_obstacle : MethodName := ⟨"CarcasswrightModel", "obstacle", "(IIIII)I"⟩
abbrev cX21_offcuts : ByteArray := prog_14_method_55_code
def yX21_offcuts : MethodName := ⟨"CarcasswrightModel", "offcuts", "()I"⟩
abbrev cX21_packs : ByteArray := prog_14_method_67_code
def yX21_packs : MethodName := ⟨"CarcasswrightModel", "packs", "(II)I"⟩
abbrev cX21_part : ByteArray := prog_14_method_42_code
def yX21_part : MethodName := ⟨"CarcasswrightModel", "part", "(II)LCarcasswrightModel$Part;"⟩
abbrev cX21_parts : ByteArray := prog_14_method_41_code
def yX21_parts : MethodName := ⟨"CarcasswrightModel", "parts", "(I)I"⟩
abbrev cX21_place : ByteArray := prog_14_method_31_code
def yX21_place : MethodName := ⟨"CarcasswrightModel", "place", "(IIII)I"⟩
abbrev cX21_price : ByteArray := prog_14_method_65_code
def yX21_price : MethodName := ⟨"CarcasswrightModel", "price", "(I)I"⟩
abbrev cX21_setOff : ByteArray := prog_14_method_15_code
def yX21_setOff : MethodName := ⟨"CarcasswrightModel", "setOff", "(III)I"⟩
abbrev cX21_shift : ByteArray := prog_14_method_33_code
def yX21_shift : MethodName := ⟨"CarcasswrightModel", "shift", "(II)I"⟩
abbrev cX21_stocked : ByteArray := prog_14_method_77_code
def yX21_stocked : MethodName := ⟨"CarcasswrightModel", "stocked", "()J"⟩
abbrev cX21_told : ByteArray := prog_14_method_27_code
def yX21_told : MethodName := ⟨"CarcasswrightModel", "told", "(IC)I"⟩
abbrev cX21_uncut : ByteArray := prog_14_method_57_code
def yX21_uncut : MethodName := ⟨"CarcasswrightModel", "uncut", "(I)I"⟩
abbrev cX21_widest : ByteArray := prog_14_method_40_code
def yX21_widest : MethodName := ⟨"CarcasswrightModel", "widest", "(IZ)I"⟩
abbrev cX21_wipe : ByteArray := prog_14_method_18_code
def yX21_wipe : MethodName := ⟨"CarcasswrightModel", "wipe", "()I"⟩
abbrev cJ0_indexOf_0f7a4 : ByteArray := prog_42_method_79_code
def yJ0_indexOf_0f7a4 : MethodName := ⟨"java/lang/String", "indexOf", "(I)I"⟩
abbrev cJ0_init_db425 : ByteArray := prog_42_method_150_code
def yJ0_init_db425 : MethodName := ⟨"java/lang/String", "<init>", "(Ljava/lang/AbstractStringBuilder;Ljava/lang/Void;)V"⟩
abbrev cJ2_inflate_0e8fd : ByteArray := prog_45_method_86_code
def yJ2_inflate_0e8fd : MethodName := ⟨"java/lang/StringUTF16", "inflate", "([BI[BII)V"⟩
abbrev cJ2_putCharSB_b72d1 : ByteArray := prog_45_method_71_code
def yJ2_putCharSB_b72d1 : MethodName := ⟨"java/lang/StringUTF16", "putCharSB", "([BII)V"⟩
abbrev cJx4a65c_grow_92f84 : ByteArray := prog_53_method_6_code
def yJx4a65c_grow_92f84 : MethodName := ⟨"java/util/ArrayList", "grow", "(I)[Ljava/lang/Object;"⟩
abbrev cL_addBoards : ByteArray := method_30_code
def yL_addBoards : MethodName := ⟨"CarcasswrightLaw", "addBoards", "(LCarcasswright;IIIII[J)I"⟩
abbrev cL_addType : ByteArray := method_11_code
def yL_addType : MethodName := ⟨"CarcasswrightLaw", "addType", "(LCarcasswright;[J)I"⟩
abbrev cL_addWall : ByteArray := method_3_code
def yL_addWall : MethodName := ⟨"CarcasswrightLaw", "addWall", "(LCarcasswright;CI[J)I"⟩
abbrev cL_clamp : ByteArray := method_29_code
def yL_clamp : MethodName := ⟨"CarcasswrightLaw", "clamp", "(LCarcasswright;IIZ[J)I"⟩
abbrev cL_drills : ByteArray := method_28_code
def yL_drills : MethodName := ⟨"CarcasswrightLaw", "drills", "(LCarcasswright;II[J)I"⟩
abbrev cL_fault : ByteArray := method_9_code
def yL_fault : MethodName := ⟨"CarcasswrightLaw", "fault", "(LCarcasswright;[J)I"⟩
abbrev cL_faultKind : ByteArray := method_10_code
def yL_faultKind : MethodName := ⟨"CarcasswrightLaw", "faultKind", "(LCarcasswright;[J)I"⟩
abbrev cL_free : ByteArray := method_19_code
def yL_free : MethodName := ⟨"CarcasswrightLaw", "free", "(LCarcasswright;IZ[J)I"⟩
abbrev cL_hole : ByteArray := method_27_code
def yL_hole : MethodName := ⟨"CarcasswrightLaw", "hole", "(LCarcasswright;IIIC[J)I"⟩
abbrev cL_holes : ByteArray := method_26_code
def yL_holes : MethodName := ⟨"CarcasswrightLaw", "holes", "(LCarcasswright;II[J)I"⟩
abbrev cL_kindOf : ByteArray := method_22_code
def yL_kindOf : MethodName := ⟨"CarcasswrightLaw", "kindOf", "(LCarcasswright;II[J)I"⟩
abbrev cL_lose : ByteArray := method_34_code
def yL_lose : MethodName := ⟨"CarcasswrightLaw", "lose", "(LCarcasswright;II[J)I"⟩
abbrev cL_packOf : ByteArray := method_39_code
def yL_packOf : MethodName := ⟨"CarcasswrightLaw", "packOf", "(LCarcasswright;III[J)I"⟩
abbrev cL_size : ByteArray := method_23_code
def yL_size : MethodName := ⟨"CarcasswrightLaw", "size", "(LCarcasswright;IIC[J)I"⟩
abbrev cL_stepAt : ByteArray := method_40_code
def yL_stepAt : MethodName := ⟨"CarcasswrightLaw", "stepAt", "(LCarcasswright;II[J)I"⟩
abbrev cL_weight : ByteArray := method_24_code
def yL_weight : MethodName := ⟨"CarcasswrightLaw", "weight", "(LCarcasswright;II[J)I"⟩
abbrev cL_widest : ByteArray := method_20_code
def yL_widest : MethodName := ⟨"CarcasswrightLaw", "widest", "(LCarcasswright;IZ[J)I"⟩
abbrev cX11_lateness : ByteArray := prog_1_method_46_code
def yX11_lateness : MethodName := ⟨"Carcasswright", "lateness", "()I"⟩
abbrev cX12_init : ByteArray := prog_15_method_1_code
def yX12_init : MethodName := ⟨"CarcasswrightModel$Board", "<init>", "(IIIIZ)V"⟩
abbrev cX21_area : ByteArray := prog_14_method_79_code
def yX21_area : MethodName := ⟨"CarcasswrightModel", "area", "(C)J"⟩
abbrev cX21_clamp : ByteArray := prog_14_method_52_code
def yX21_clamp : MethodName := ⟨"CarcasswrightModel", "clamp", "(IIZ)I"⟩
abbrev cX21_drills : ByteArray := prog_14_method_50_code
def yX21_drills : MethodName := ⟨"CarcasswrightModel", "drills", "(II)I"⟩
abbrev cX21_hole : ByteArray := prog_14_method_49_code
def yX21_hole : MethodName := ⟨"CarcasswrightModel", "hole", "(IIIC)I"⟩
abbrev cX21_holes : ByteArray := prog_14_method_48_code
def yX21_holes : MethodName := ⟨"CarcasswrightModel", "holes", "(II)I"⟩
abbrev cX21_init : ByteArray := prog_14_method_3_code
def yX21_init : MethodName := ⟨"CarcasswrightModel", "<init>", "()V"⟩
abbrev cX21_kindOf : ByteArray := prog_14_method_43_code
def yX21_kindOf : MethodName := ⟨"CarcasswrightModel", "kindOf", "(II)C"⟩
abbrev cX21_lose : ByteArray := prog_14_method_62_code
def yX21_lose : MethodName := ⟨"CarcasswrightModel", "lose", "(II)I"⟩
abbrev cX21_packOf : ByteArray := prog_14_method_68_code
def yX21_packOf : MethodName := ⟨"CarcasswrightModel", "packOf", "(III)I"⟩
abbrev cX21_size : ByteArray := prog_14_method_44_code
def yX21_size : MethodName := ⟨"CarcasswrightModel", "size", "(IIC)I"⟩
abbrev cX21_stepAt : ByteArray := prog_14_method_69_code
def yX21_stepAt : MethodName := ⟨"CarcasswrightModel", "stepAt", "(II)I"⟩
abbrev cX21_weight : ByteArray := prog_14_method_45_code
def yX21_weight : MethodName := ⟨"CarcasswrightModel", "weight", "(II)I"⟩
abbrev cJ0_init_81219 : ByteArray := prog_42_method_53_code
def yJ0_init_81219 : MethodName := ⟨"java/lang/String", "<init>", "(Ljava/lang/StringBuilder;)V"⟩
abbrev cJ1_inflate_0e8fd : ByteArray := prog_44_method_50_code
def yJ1_inflate_0e8fd : MethodName := ⟨"java/lang/StringLatin1", "inflate", "([BI[BII)V"⟩
abbrev cJx4a65c_grow_d5877 : ByteArray := prog_53_method_7_code
def yJx4a65c_grow_d5877 : MethodName := ⟨"java/util/ArrayList", "grow", "()[Ljava/lang/Object;"⟩
abbrev cJ4_toString_0e30d : ByteArray := prog_43_method_42_code
def yJ4_toString_0e30d : MethodName := ⟨"java/lang/StringBuilder", "toString", "()Ljava/lang/String;"⟩
abbrev cJ5_inflate_da8c8 : ByteArray := prog_25_method_11_code
def yJ5_inflate_da8c8 : MethodName := ⟨"java/lang/AbstractStringBuilder", "inflate", "()V"⟩
abbrev cJx4a65c_add_72be8 : ByteArray := prog_53_method_24_code
def yJx4a65c_add_72be8 : MethodName := ⟨"java/util/ArrayList", "add", "(Ljava/lang/Object;[Ljava/lang/Object;I)V"⟩
abbrev cJ5_append_3fe6f : ByteArray := prog_25_method_31_code
def yJ5_append_3fe6f : MethodName := ⟨"java/lang/AbstractStringBuilder", "append", "(C)Ljava/lang/AbstractStringBuilder;"⟩
abbrev cJ5_inflateIfNeededFor_a7421 : ByteArray := prog_25_method_71_code
def yJ5_inflateIfNeededFor_a7421 : MethodName := ⟨"java/lang/AbstractStringBuilder", "inflateIfNeededFor", "(Ljava/lang/String;)V"⟩
abbrev cJx4a65c_add_9ea2d : ByteArray := prog_53_method_25_code
def yJx4a65c_add_9ea2d : MethodName := ⟨"java/util/ArrayList", "add", "(Ljava/lang/Object;)Z"⟩
abbrev cJ4_append_cf468 : ByteArray := prog_43_method_14_code
def yJ4_append_cf468 : MethodName := ⟨"java/lang/StringBuilder", "append", "(C)Ljava/lang/StringBuilder;"⟩
abbrev cJ5_putStringAt_47b60 : ByteArray := prog_25_method_73_code
def yJ5_putStringAt_47b60 : MethodName := ⟨"java/lang/AbstractStringBuilder", "putStringAt", "(ILjava/lang/String;)V"⟩
abbrev cX21_addBoards : ByteArray := prog_14_method_53_code
def yX21_addBoards : MethodName := ⟨"CarcasswrightModel", "addBoards", "(IIIII)I"⟩
abbrev cX21_addWall : ByteArray := prog_14_method_6_code
def yX21_addWall : MethodName := ⟨"CarcasswrightModel", "addWall", "(CI)I"⟩
abbrev cX21_job : ByteArray := prog_14_method_70_code
def yX21_job : MethodName := ⟨"CarcasswrightModel", "job", "(III)I"⟩
abbrev cJ5_append_cf1ce : ByteArray := prog_25_method_22_code
def yJ5_append_cf1ce : MethodName := ⟨"java/lang/AbstractStringBuilder", "append", "(Ljava/lang/String;)Ljava/lang/AbstractStringBuilder;"⟩
abbrev cJ4_append_15ec4 : ByteArray := prog_43_method_7_code
def yJ4_append_15ec4 : MethodName := ⟨"java/lang/StringBuilder", "append", "(Ljava/lang/String;)Ljava/lang/StringBuilder;"⟩
abbrev cX21_type : ByteArray := prog_14_method_17_code
def yX21_type : MethodName := ⟨"CarcasswrightModel", "type", "(C)I"⟩
abbrev cL_law : ByteArray := code
def yL_law : MethodName := ⟨"CarcasswrightLaw", "law", "([I)Z"⟩
def dl_J0 : List ce_SV := [.inr (.inr (.inr .null)), .inl (.inl (0)), .inl (.inl (0)), .inl (.inl (0))]
theorem dv_J0 (z : ce_U) (ad : Nat → Nat) : ∀ j : Nat, j < 4 → defaultValue (tyJ0 j) = vp_V (dl_J0.map (ce_v z ad)) j
  | 0, _ => rfl
  | 1, _ => rfl
  | 2, _ => rfl
  | 3, _ => rfl
  | n + 4, h => absurd h (by omega)
def dl_J4 : List ce_SV := [.inr (.inr (.inr .null)), .inl (.inl (0)), .inl (.inl (0)), .inl (.inl (0))]
theorem dv_J4 (z : ce_U) (ad : Nat → Nat) : ∀ j : Nat, j < 4 → defaultValue (tyJ4 j) = vp_V (dl_J4.map (ce_v z ad)) j
  | 0, _ => rfl
  | 1, _ => rfl
  | 2, _ => rfl
  | 3, _ => rfl
  | n + 4, h => absurd h (by omega)
def dl_Jx35411 : List ce_SV := [.inl (.inl (0)), .inl (.inl (0)), .inl (.inl (0)), .inr (.inr (.inr .null))]
theorem dv_Jx35411 (z : ce_U) (ad : Nat → Nat) : ∀ j : Nat, j < 4 → defaultValue (tyJx35411 j) = vp_V (dl_Jx35411.map (ce_v z ad)) j
  | 0, _ => rfl
  | 1, _ => rfl
  | 2, _ => rfl
  | 3, _ => rfl
  | n + 4, h => absurd h (by omega)
def dl_Jx4a65c : List ce_SV := [.inl (.inl (0)), .inr (.inr (.inr .null)), .inl (.inl (0))]
theorem dv_Jx4a65c (z : ce_U) (ad : Nat → Nat) : ∀ j : Nat, j < 3 → defaultValue (tyJx4a65c j) = vp_V (dl_Jx4a65c.map (ce_v z ad)) j
  | 0, _ => rfl
  | 1, _ => rfl
  | 2, _ => rfl
  | n + 3, h => absurd h (by omega)
def dl_X0 : List ce_SV := [.inl (.inl (0)), .inl (.inl (0)), .inl (.inl (0)), .inl (.inl (0)), .inl (.inl (0)), .inl (.inl (0)), .inl (.inl (0))]
theorem dv_X0 (z : ce_U) (ad : Nat → Nat) : ∀ j : Nat, j < 7 → defaultValue (tyX0 j) = vp_V (dl_X0.map (ce_v z ad)) j
  | 0, _ => rfl
  | 1, _ => rfl
  | 2, _ => rfl
  | 3, _ => rfl
  | 4, _ => rfl
  | 5, _ => rfl
  | 6, _ => rfl
  | n + 7, h => absurd h (by omega)
def dl_X1 : List ce_SV := [.inr (.inr (.inr .null)), .inr (.inr (.inr .null)), .inr (.inr (.inr .null)), .inr (.inr (.inr .null)), .inr (.inr (.inr .null)), .inl (.inl (0)), .inl (.inl (0)), .inl (.inl (0))]
theorem dv_X1 (z : ce_U) (ad : Nat → Nat) : ∀ j : Nat, j < 8 → defaultValue (tyX1 j) = vp_V (dl_X1.map (ce_v z ad)) j
  | 0, _ => rfl
  | 1, _ => rfl
  | 2, _ => rfl
  | 3, _ => rfl
  | 4, _ => rfl
  | 5, _ => rfl
  | 6, _ => rfl
  | 7, _ => rfl
  | n + 8, h => absurd h (by omega)
def dl_X2 : List ce_SV := [.inl (.inl (0)), .inl (.inl (0)), .inl (.inl (0)), .inl (.inl (0)), .inl (.inl (0)), .inl (.inl (0)), .inl (.inl (0)), .inl (.inl (0)), .inl (.inl (0))]
theorem dv_X2 (z : ce_U) (ad : Nat → Nat) : ∀ j : Nat, j < 9 → defaultValue (tyX2 j) = vp_V (dl_X2.map (ce_v z ad)) j
  | 0, _ => rfl
  | 1, _ => rfl
  | 2, _ => rfl
  | 3, _ => rfl
  | 4, _ => rfl
  | 5, _ => rfl
  | 6, _ => rfl
  | 7, _ => rfl
  | 8, _ => rfl
  | n + 9, h => absurd h (by omega)
def dl_X3 : List ce_SV := [.inl (.inl (0)), .inl (.inl (0)), .inl (.inl (0)), .inl (.inl (0)), .inl (.inl (0))]
theorem dv_X3 (z : ce_U) (ad : Nat → Nat) : ∀ j : Nat, j < 5 → defaultValue (tyX3 j) = vp_V (dl_X3.map (ce_v z ad)) j
  | 0, _ => rfl
  | 1, _ => rfl
  | 2, _ => rfl
  | 3, _ => rfl
  | 4, _ => rfl
  | n + 5, h => absurd h (by omega)
def dl_X4 : List ce_SV := [.inr (.inr (.inr .null)), .inr (.inr (.inr .null)), .inr (.inr (.inr .null)), .inl (.inl (0))]
theorem dv_X4 (z : ce_U) (ad : Nat → Nat) : ∀ j : Nat, j < 4 → defaultValue (tyX4 j) = vp_V (dl_X4.map (ce_v z ad)) j
  | 0, _ => rfl
  | 1, _ => rfl
  | 2, _ => rfl
  | 3, _ => rfl
  | n + 4, h => absurd h (by omega)
def dl_X5 : List ce_SV := [.inr (.inr (.inr .null)), .inl (.inl (0)), .inl (.inl (0)), .inl (.inl (0)), .inl (.inl (0))]
theorem dv_X5 (z : ce_U) (ad : Nat → Nat) : ∀ j : Nat, j < 5 → defaultValue (tyX5 j) = vp_V (dl_X5.map (ce_v z ad)) j
  | 0, _ => rfl
  | 1, _ => rfl
  | 2, _ => rfl
  | 3, _ => rfl
  | 4, _ => rfl
  | n + 5, h => absurd h (by omega)
def dl_X6 : List ce_SV := [.inr (.inr (.inr .null)), .inr (.inr (.inr .null)), .inr (.inr (.inr .null)), .inr (.inr (.inr .null)), .inr (.inr (.inr .null)), .inr (.inr (.inr .null)), .inl (.inl (0)), .inl (.inl (0)), .inl (.inl (0)), .inl (.inl (0))]
theorem dv_X6 (z : ce_U) (ad : Nat → Nat) : ∀ j : Nat, j < 10 → defaultValue (tyX6 j) = vp_V (dl_X6.map (ce_v z ad)) j
  | 0, _ => rfl
  | 1, _ => rfl
  | 2, _ => rfl
  | 3, _ => rfl
  | 4, _ => rfl
  | 5, _ => rfl
  | 6, _ => rfl
  | 7, _ => rfl
  | 8, _ => rfl
  | 9, _ => rfl
  | n + 10, h => absurd h (by omega)
def dl_X7 : List ce_SV := [.inr (.inr (.inr .null)), .inr (.inr (.inr .null)), .inr (.inr (.inr .null)), .inl (.inl (0)), .inr (.inr (.inr .null)), .inl (.inl (0)), .inl (.inl (0)), .inr (.inr (.inr .null)), .inr (.inr (.inr .null)), .inr (.inr (.inr .null)), .inl (.inl (0)), .inr (.inr (.inr .null)), .inl (.inl (0))]
theorem dv_X7 (z : ce_U) (ad : Nat → Nat) : ∀ j : Nat, j < 13 → defaultValue (tyX7 j) = vp_V (dl_X7.map (ce_v z ad)) j
  | 0, _ => rfl
  | 1, _ => rfl
  | 2, _ => rfl
  | 3, _ => rfl
  | 4, _ => rfl
  | 5, _ => rfl
  | 6, _ => rfl
  | 7, _ => rfl
  | 8, _ => rfl
  | 9, _ => rfl
  | 10, _ => rfl
  | 11, _ => rfl
  | 12, _ => rfl
  | n + 13, h => absurd h (by omega)
def dl_X8 : List ce_SV := [.inr (.inr (.inr .null)), .inl (.inl (0)), .inr (.inl (.inl (0))), .inr (.inl (.inl (0))), .inr (.inl (.inl (0)))]
theorem dv_X8 (z : ce_U) (ad : Nat → Nat) : ∀ j : Nat, j < 5 → defaultValue (tyX8 j) = vp_V (dl_X8.map (ce_v z ad)) j
  | 0, _ => rfl
  | 1, _ => rfl
  | 2, _ => rfl
  | 3, _ => rfl
  | 4, _ => rfl
  | n + 5, h => absurd h (by omega)
def dl_X9 : List ce_SV := [.inr (.inr (.inr .null)), .inr (.inr (.inr .null)), .inr (.inr (.inr .null)), .inl (.inl (0)), .inl (.inl (0)), .inl (.inl (0)), .inl (.inl (0)), .inl (.inl (0)), .inl (.inl (0)), .inl (.inl (0))]
theorem dv_X9 (z : ce_U) (ad : Nat → Nat) : ∀ j : Nat, j < 10 → defaultValue (tyX9 j) = vp_V (dl_X9.map (ce_v z ad)) j
  | 0, _ => rfl
  | 1, _ => rfl
  | 2, _ => rfl
  | 3, _ => rfl
  | 4, _ => rfl
  | 5, _ => rfl
  | 6, _ => rfl
  | 7, _ => rfl
  | 8, _ => rfl
  | 9, _ => rfl
  | n + 10, h => absurd h (by omega)
def dl_X10 : List ce_SV := [.inl (.inl (0)), .inl (.inl (0)), .inl (.inl (0)), .inl (.inl (0)), .inl (.inl (0)), .inl (.inl (0))]
theorem dv_X10 (z : ce_U) (ad : Nat → Nat) : ∀ j : Nat, j < 6 → defaultValue (tyX10 j) = vp_V (dl_X10.map (ce_v z ad)) j
  | 0, _ => rfl
  | 1, _ => rfl
  | 2, _ => rfl
  | 3, _ => rfl
  | 4, _ => rfl
  | 5, _ => rfl
  | n + 6, h => absurd h (by omega)
def dl_X11 : List ce_SV := [.inr (.inr (.inr .null)), .inr (.inr (.inr .null)), .inr (.inr (.inr .null)), .inr (.inr (.inr .null)), .inr (.inr (.inr .null)), .inr (.inr (.inr .null)), .inr (.inr (.inr .null))]
theorem dv_X11 (z : ce_U) (ad : Nat → Nat) : ∀ j : Nat, j < 7 → defaultValue (tyX11 j) = vp_V (dl_X11.map (ce_v z ad)) j
  | 0, _ => rfl
  | 1, _ => rfl
  | 2, _ => rfl
  | 3, _ => rfl
  | 4, _ => rfl
  | 5, _ => rfl
  | 6, _ => rfl
  | n + 7, h => absurd h (by omega)
def dl_X12 : List ce_SV := [.inl (.inl (0)), .inl (.inl (0)), .inl (.inl (0)), .inl (.inl (0)), .inl (.inl (0)), .inr (.inr (.inr .null)), .inr (.inr (.inr .null))]
theorem dv_X12 (z : ce_U) (ad : Nat → Nat) : ∀ j : Nat, j < 7 → defaultValue (tyX12 j) = vp_V (dl_X12.map (ce_v z ad)) j
  | 0, _ => rfl
  | 1, _ => rfl
  | 2, _ => rfl
  | 3, _ => rfl
  | 4, _ => rfl
  | 5, _ => rfl
  | 6, _ => rfl
  | n + 7, h => absurd h (by omega)
def dl_X14 : List ce_SV := [.inl (.inl (0)), .inl (.inl (0)), .inl (.inl (0))]
theorem dv_X14 (z : ce_U) (ad : Nat → Nat) : ∀ j : Nat, j < 3 → defaultValue (tyX14 j) = vp_V (dl_X14.map (ce_v z ad)) j
  | 0, _ => rfl
  | 1, _ => rfl
  | 2, _ => rfl
  | n + 3, h => absurd h (by omega)
def dl_X19 : List ce_SV := [.inl (.inl (0)), .inl (.inl (0)), .inl (.inl (0)), .inl (.inl (0)), .inl (.inl (0))]
theorem dv_X19 (z : ce_U) (ad : Nat → Nat) : ∀ j : Nat, j < 5 → defaultValue (tyX19 j) = vp_V (dl_X19.map (ce_v z ad)) j
  | 0, _ => rfl
  | 1, _ => rfl
  | 2, _ => rfl
  | 3, _ => rfl
  | 4, _ => rfl
  | n + 5, h => absurd h (by omega)
def dl_X20 : List ce_SV := [.inl (.inl (0)), .inl (.inl (0)), .inl (.inl (0)), .inl (.inl (0)), .inl (.inl (0))]
theorem dv_X20 (z : ce_U) (ad : Nat → Nat) : ∀ j : Nat, j < 5 → defaultValue (tyX20 j) = vp_V (dl_X20.map (ce_v z ad)) j
  | 0, _ => rfl
  | 1, _ => rfl
  | 2, _ => rfl
  | 3, _ => rfl
  | 4, _ => rfl
  | n + 5, h => absurd h (by omega)
def dl_X21 : List ce_SV := [.inl (.inl (0)), .inr (.inr (.inr .null)), .inr (.inr (.inr .null)), .inr (.inr (.inr .null)), .inr (.inr (.inr .null)), .inr (.inr (.inr .null)), .inr (.inr (.inr .null)), .inr (.inr (.inr .null)), .inr (.inr (.inr .null)), .inl (.inl (0)), .inr (.inl (.inl (0))), .inr (.inl (.inl (0))), .inr (.inl (.inl (0))), .inr (.inr (.inr .null)), .inr (.inr (.inr .null)), .inr (.inr (.inr .null)), .inl (.inl (0)), .inl (.inl (0)), .inl (.inl (0)), .inr (.inr (.inr .null))]
theorem dv_X21 (z : ce_U) (ad : Nat → Nat) : ∀ j : Nat, j < 20 → defaultValue (tyX21 j) = vp_V (dl_X21.map (ce_v z ad)) j
  | 0, _ => rfl
  | 1, _ => rfl
  | 2, _ => rfl
  | 3, _ => rfl
  | 4, _ => rfl
  | 5, _ => rfl
  | 6, _ => rfl
  | 7, _ => rfl
  | 8, _ => rfl
  | 9, _ => rfl
  | 10, _ => rfl
  | 11, _ => rfl
  | 12, _ => rfl
  | 13, _ => rfl
  | 14, _ => rfl
  | 15, _ => rfl
  | 16, _ => rfl
  | 17, _ => rfl
  | 18, _ => rfl
  | 19, _ => rfl
  | n + 20, h => absurd h (by omega)
theorem gT_P : ∀ w ∈ k2_sels lw_privs, goodWord w = true → w ∈ ce_GW := fun w h g => ce_inF (List.mem_filter.mpr ⟨List.mem_append_left _ h, g⟩)
theorem gT_1 : ∀ w ∈ tables_1_1, goodWord w = true → w ∈ ce_GW := fun w h g => ce_inF (List.mem_filter.mpr ⟨List.mem_append_right _ (List.mem_append_left _ h), g⟩)
theorem gT_2 : ∀ w ∈ tables_1_2, goodWord w = true → w ∈ ce_GW := fun w h g => ce_inF (List.mem_filter.mpr ⟨List.mem_append_right _ (List.mem_append_right _ (List.mem_append_left _ h)), g⟩)
theorem gT_3 : ∀ w ∈ tables_1_3, goodWord w = true → w ∈ ce_GW := fun w h g => ce_inF (List.mem_filter.mpr ⟨List.mem_append_right _ (List.mem_append_right _ (List.mem_append_right _ (List.mem_append_left _ h))), g⟩)
theorem gT_4 : ∀ w ∈ tables_1_4, goodWord w = true → w ∈ ce_GW := fun w h g => ce_inF (List.mem_filter.mpr ⟨List.mem_append_right _ (List.mem_append_right _ (List.mem_append_right _ (List.mem_append_right _ (List.mem_append_left _ h)))), g⟩)
theorem gT_5 : ∀ w ∈ tables_1_5, goodWord w = true → w ∈ ce_GW := fun w h g => ce_inF (List.mem_filter.mpr ⟨List.mem_append_right _ (List.mem_append_right _ (List.mem_append_right _ (List.mem_append_right _ (List.mem_append_right _ (List.mem_append_left _ h))))), g⟩)
theorem gT_6 : ∀ w ∈ tables_1_6, goodWord w = true → w ∈ ce_GW := fun w h g => ce_inF (List.mem_filter.mpr ⟨List.mem_append_right _ (List.mem_append_right _ (List.mem_append_right _ (List.mem_append_right _ (List.mem_append_right _ (List.mem_append_right _ (List.mem_append_left _ h)))))), g⟩)
theorem gT_7 : ∀ w ∈ tables_1_7, goodWord w = true → w ∈ ce_GW := fun w h g => ce_inF (List.mem_filter.mpr ⟨List.mem_append_right _ (List.mem_append_right _ (List.mem_append_right _ (List.mem_append_right _ (List.mem_append_right _ (List.mem_append_right _ (List.mem_append_right _ (List.mem_append_left _ h))))))), g⟩)
theorem gT_8 : ∀ w ∈ tables_1_8, goodWord w = true → w ∈ ce_GW := fun w h g => ce_inF (List.mem_filter.mpr ⟨List.mem_append_right _ (List.mem_append_right _ (List.mem_append_right _ (List.mem_append_right _ (List.mem_append_right _ (List.mem_append_right _ (List.mem_append_right _ (List.mem_append_right _ (List.mem_append_left _ h)))))))), g⟩)
theorem gT_9 : ∀ w ∈ tables_1_9, goodWord w = true → w ∈ ce_GW := fun w h g => ce_inF (List.mem_filter.mpr ⟨List.mem_append_right _ (List.mem_append_right _ (List.mem_append_right _ (List.mem_append_right _ (List.mem_append_right _ (List.mem_append_right _ (List.mem_append_right _ (List.mem_append_right _ (List.mem_append_right _ (List.mem_append_left _ h))))))))), g⟩)
theorem gT_10 : ∀ w ∈ tables_1_10, goodWord w = true → w ∈ ce_GW := fun w h g => ce_inF (List.mem_filter.mpr ⟨List.mem_append_right _ (List.mem_append_right _ (List.mem_append_right _ (List.mem_append_right _ (List.mem_append_right _ (List.mem_append_right _ (List.mem_append_right _ (List.mem_append_right _ (List.mem_append_right _ (List.mem_append_right _ (List.mem_append_left _ h)))))))))), g⟩)
theorem gT_11 : ∀ w ∈ tables_1_11, goodWord w = true → w ∈ ce_GW := fun w h g => ce_inF (List.mem_filter.mpr ⟨List.mem_append_right _ (List.mem_append_right _ (List.mem_append_right _ (List.mem_append_right _ (List.mem_append_right _ (List.mem_append_right _ (List.mem_append_right _ (List.mem_append_right _ (List.mem_append_right _ (List.mem_append_right _ (List.mem_append_right _ (List.mem_append_left _ h))))))))))), g⟩)
theorem gT_12 : ∀ w ∈ tables_1_12, goodWord w = true → w ∈ ce_GW := fun w h g => ce_inF (List.mem_filter.mpr ⟨List.mem_append_right _ (List.mem_append_right _ (List.mem_append_right _ (List.mem_append_right _ (List.mem_append_right _ (List.mem_append_right _ (List.mem_append_right _ (List.mem_append_right _ (List.mem_append_right _ (List.mem_append_right _ (List.mem_append_right _ (List.mem_append_right _ (List.mem_append_left _ h)))))))))))), g⟩)
theorem gT_13 : ∀ w ∈ tables_1_13, goodWord w = true → w ∈ ce_GW := fun w h g => ce_inF (List.mem_filter.mpr ⟨List.mem_append_right _ (List.mem_append_right _ (List.mem_append_right _ (List.mem_append_right _ (List.mem_append_right _ (List.mem_append_right _ (List.mem_append_right _ (List.mem_append_right _ (List.mem_append_right _ (List.mem_append_right _ (List.mem_append_right _ (List.mem_append_right _ (List.mem_append_right _ (h))))))))))))), g⟩)
theorem gp_1 : Cond.selects "Carcasswright" ⟨"Carcasswright", "moduleWithPart", "(II)LCarcasswright$PlacedModule;"⟩ ⟨"Carcasswright", "moduleWithPart", "(II)LCarcasswright$PlacedModule;"⟩ ∈ ce_GW := gT_P _ (List.mem_of_getElem? (i := 1) rfl) rfl
theorem gp_4 : Cond.selects "java/util/ArrayList" ⟨"java/util/ArrayList", "add", "(Ljava/lang/Object;[Ljava/lang/Object;I)V"⟩ ⟨"java/util/ArrayList", "add", "(Ljava/lang/Object;[Ljava/lang/Object;I)V"⟩ ∈ ce_GW := gT_P _ (List.mem_of_getElem? (i := 4) rfl) rfl
theorem gp_5 : Cond.selects "java/util/ArrayList" ⟨"java/util/ArrayList", "grow", "()[Ljava/lang/Object;"⟩ ⟨"java/util/ArrayList", "grow", "()[Ljava/lang/Object;"⟩ ∈ ce_GW := gT_P _ (List.mem_of_getElem? (i := 5) rfl) rfl
theorem gp_6 : Cond.selects "java/util/ArrayList" ⟨"java/util/ArrayList", "grow", "(I)[Ljava/lang/Object;"⟩ ⟨"java/util/ArrayList", "grow", "(I)[Ljava/lang/Object;"⟩ ∈ ce_GW := gT_P _ (List.mem_of_getElem? (i := 6) rfl) rfl
theorem gp_9 : Cond.selects "CarcasswrightModel" ⟨"CarcasswrightModel", "raises", "(I)I"⟩ ⟨"CarcasswrightModel", "raises", "(I)I"⟩ ∈ ce_GW := gT_P _ (List.mem_of_getElem? (i := 9) rfl) rfl
theorem gp_11 : Cond.selects "CarcasswrightModel" ⟨"CarcasswrightModel", "noWall", "(I)Z"⟩ ⟨"CarcasswrightModel", "noWall", "(I)Z"⟩ ∈ ce_GW := gT_P _ (List.mem_of_getElem? (i := 11) rfl) rfl
theorem gp_13 : Cond.selects "CarcasswrightModel" ⟨"CarcasswrightModel", "reads", "()V"⟩ ⟨"CarcasswrightModel", "reads", "()V"⟩ ∈ ce_GW := gT_P _ (List.mem_of_getElem? (i := 13) rfl) rfl
theorem gp_15 : Cond.selects "CarcasswrightModel" ⟨"CarcasswrightModel", "faults", "(CI)V"⟩ ⟨"CarcasswrightModel", "faults", "(CI)V"⟩ ∈ ce_GW := gT_P _ (List.mem_of_getElem? (i := 15) rfl) rfl
theorem gp_17 : Cond.selects "CarcasswrightModel" ⟨"CarcasswrightModel", "isType", "(I)Z"⟩ ⟨"CarcasswrightModel", "isType", "(I)Z"⟩ ∈ ce_GW := gT_P _ (List.mem_of_getElem? (i := 17) rfl) rfl
theorem gp_21 : Cond.selects "CarcasswrightModel" ⟨"CarcasswrightModel", "noModule", "(I)Z"⟩ ⟨"CarcasswrightModel", "noModule", "(I)Z"⟩ ∈ ce_GW := gT_P _ (List.mem_of_getElem? (i := 21) rfl) rfl
theorem gp_24 : Cond.selects "CarcasswrightModel" ⟨"CarcasswrightModel", "part", "(II)LCarcasswrightModel$Part;"⟩ ⟨"CarcasswrightModel", "part", "(II)LCarcasswrightModel$Part;"⟩ ∈ ce_GW := gT_P _ (List.mem_of_getElem? (i := 24) rfl) rfl
theorem gp_29 : Cond.selects "CarcasswrightModel" ⟨"CarcasswrightModel", "orders", "()V"⟩ ⟨"CarcasswrightModel", "orders", "()V"⟩ ∈ ce_GW := gT_P _ (List.mem_of_getElem? (i := 29) rfl) rfl
theorem gp_30 : Cond.selects "CarcasswrightModel" ⟨"CarcasswrightModel", "tries", "([IIIII)V"⟩ ⟨"CarcasswrightModel", "tries", "([IIIII)V"⟩ ∈ ce_GW := gT_P _ (List.mem_of_getElem? (i := 30) rfl) rfl
theorem gp_31 : Cond.selects "CarcasswrightModel" ⟨"CarcasswrightModel", "stocked", "()J"⟩ ⟨"CarcasswrightModel", "stocked", "()J"⟩ ∈ ce_GW := gT_P _ (List.mem_of_getElem? (i := 31) rfl) rfl
theorem gp_32 : Cond.selects "CarcasswrightModel" ⟨"CarcasswrightModel", "cutArea", "()J"⟩ ⟨"CarcasswrightModel", "cutArea", "()J"⟩ ∈ ce_GW := gT_P _ (List.mem_of_getElem? (i := 32) rfl) rfl
theorem gw_0 : Cond.initialized "CarcasswrightLaw" ∈ ce_GW := gT_1 _ (List.mem_of_getElem? (i := 0) rfl) rfl
theorem gw_1 : Cond.initialized "Carcasswright" ∈ ce_GW := gT_1 _ (List.mem_of_getElem? (i := 1) rfl) rfl
theorem gw_2 : Cond.initialized "Carcasswright$Types" ∈ ce_GW := gT_1 _ (List.mem_of_getElem? (i := 2) rfl) rfl
theorem gw_3 : Cond.initialized "Carcasswright$ModuleType" ∈ ce_GW := gT_1 _ (List.mem_of_getElem? (i := 3) rfl) rfl
theorem gw_4 : Cond.initialized "Carcasswright$Room" ∈ ce_GW := gT_1 _ (List.mem_of_getElem? (i := 4) rfl) rfl
theorem gw_5 : Cond.initialized "Carcasswright$Wall" ∈ ce_GW := gT_1 _ (List.mem_of_getElem? (i := 5) rfl) rfl
theorem gw_6 : Cond.initialized "Carcasswright$Obstacle" ∈ ce_GW := gT_1 _ (List.mem_of_getElem? (i := 6) rfl) rfl
theorem gw_7 : Cond.initialized "Carcasswright$PlacedModule" ∈ ce_GW := gT_1 _ (List.mem_of_getElem? (i := 7) rfl) rfl
theorem gw_8 : Cond.initialized "Carcasswright$Stock" ∈ ce_GW := gT_1 _ (List.mem_of_getElem? (i := 8) rfl) rfl
theorem gw_9 : Cond.initialized "Carcasswright$Board" ∈ ce_GW := gT_1 _ (List.mem_of_getElem? (i := 9) rfl) rfl
theorem gw_10 : Cond.initialized "Carcasswright$Saw" ∈ ce_GW := gT_1 _ (List.mem_of_getElem? (i := 10) rfl) rfl
theorem gw_11 : Cond.initialized "Carcasswright$Packer" ∈ ce_GW := gT_1 _ (List.mem_of_getElem? (i := 11) rfl) rfl
theorem gw_12 : Cond.initialized "Carcasswright$Jobs" ∈ ce_GW := gT_1 _ (List.mem_of_getElem? (i := 12) rfl) rfl
theorem gw_13 : Cond.initialized "CarcasswrightModel" ∈ ce_GW := gT_1 _ (List.mem_of_getElem? (i := 13) rfl) rfl
theorem gw_14 : Cond.initialized "java/util/AbstractCollection" ∈ ce_GW := gT_1 _ (List.mem_of_getElem? (i := 14) rfl) rfl
theorem gw_15 : Cond.initialized "java/util/AbstractList" ∈ ce_GW := gT_1 _ (List.mem_of_getElem? (i := 15) rfl) rfl
theorem gw_16 : Cond.initialized "java/util/ArrayList" ∈ ce_GW := gT_1 _ (List.mem_of_getElem? (i := 16) rfl) rfl
theorem gw_20 : Cond.initialized "java/lang/IllegalArgumentException" ∈ ce_GW := gT_1 _ (List.mem_of_getElem? (i := 20) rfl) rfl
theorem gw_22 : Cond.initialized "java/lang/IndexOutOfBoundsException" ∈ ce_GW := gT_1 _ (List.mem_of_getElem? (i := 22) rfl) rfl
theorem gw_23 : Cond.initialized "java/lang/String" ∈ ce_GW := gT_1 _ (List.mem_of_getElem? (i := 23) rfl) rfl
theorem gw_24 : Cond.initialized "java/lang/StringLatin1" ∈ ce_GW := gT_1 _ (List.mem_of_getElem? (i := 24) rfl) rfl
theorem gw_25 : Cond.initialized "java/lang/Math" ∈ ce_GW := gT_1 _ (List.mem_of_getElem? (i := 25) rfl) rfl
theorem gw_26 : Cond.initialized "java/lang/StringUTF16" ∈ ce_GW := gT_1 _ (List.mem_of_getElem? (i := 26) rfl) rfl
theorem gw_27 : Cond.initialized "jdk/internal/util/Preconditions" ∈ ce_GW := gT_1 _ (List.mem_of_getElem? (i := 27) rfl) rfl
theorem gw_29 : Cond.initialized "CarcasswrightModel$Wall" ∈ ce_GW := gT_1 _ (List.mem_of_getElem? (i := 29) rfl) rfl
theorem gw_30 : Cond.initialized "jdk/internal/util/ArraysSupport" ∈ ce_GW := gT_1 _ (List.mem_of_getElem? (i := 30) rfl) rfl
theorem gw_31 : Cond.initialized "java/util/Arrays" ∈ ce_GW := gT_1 _ (List.mem_of_getElem? (i := 31) rfl) rfl
theorem gw_32 : Cond.initialized "java/lang/System" ∈ ce_GW := gT_1 _ (List.mem_of_getElem? (i := 32) rfl) rfl
theorem gw_33 : Cond.initialized "java/lang/UnsupportedOperationException" ∈ ce_GW := gT_1 _ (List.mem_of_getElem? (i := 33) rfl) rfl
theorem gw_34 : Cond.initialized "java/util/ArrayList$Itr" ∈ ce_GW := gT_1 _ (List.mem_of_getElem? (i := 34) rfl) rfl
theorem gw_35 : Cond.initialized "java/util/NoSuchElementException" ∈ ce_GW := gT_1 _ (List.mem_of_getElem? (i := 35) rfl) rfl
theorem gw_38 : Cond.initialized "java/lang/AbstractStringBuilder" ∈ ce_GW := gT_1 _ (List.mem_of_getElem? (i := 38) rfl) rfl
theorem gw_39 : Cond.initialized "java/lang/StringBuilder" ∈ ce_GW := gT_1 _ (List.mem_of_getElem? (i := 39) rfl) rfl
theorem gw_42 : Cond.initialized "CarcasswrightModel$Type" ∈ ce_GW := gT_1 _ (List.mem_of_getElem? (i := 42) rfl) rfl
theorem gw_47 : Cond.initialized "CarcasswrightModel$Board" ∈ ce_GW := gT_1 _ (List.mem_of_getElem? (i := 47) rfl) rfl
theorem gw_50 : Cond.initialized "CarcasswrightModel$Job" ∈ ce_GW := gT_1 _ (List.mem_of_getElem? (i := 50) rfl) rfl
theorem gw_51 : Cond.classLink "CarcasswrightLaw" 8 "Carcasswright" ∈ ce_GW := gT_1 _ (List.mem_of_getElem? (i := 51) rfl) rfl
theorem gw_52 : Cond.instantiable "Carcasswright" 7 ∈ ce_GW := gT_1 _ (List.mem_of_getElem? (i := 52) rfl) rfl
theorem gw_53 : Cond.methodLink "CarcasswrightLaw" 170 ⟨"Carcasswright", "<init>", "()V"⟩ ∈ ce_GW := gT_1 _ (List.mem_of_getElem? (i := 53) rfl) rfl
theorem gw_54 : Cond.instanceMethod ⟨"Carcasswright", "<init>", "()V"⟩ ∈ ce_GW := gT_1 _ (List.mem_of_getElem? (i := 54) rfl) rfl
theorem gw_55 : Cond.code ⟨"Carcasswright", "<init>", "()V"⟩ prog_1_method_1_code 1 Option.none ∈ ce_GW := gT_1 _ (List.mem_of_getElem? (i := 55) rfl) rfl
theorem gw_56 : Cond.methodLink "Carcasswright" 1 ⟨"java/lang/Object", "<init>", "()V"⟩ ∈ ce_GW := gT_1 _ (List.mem_of_getElem? (i := 56) rfl) rfl
theorem gw_57 : Cond.instanceMethod ⟨"java/lang/Object", "<init>", "()V"⟩ ∈ ce_GW := gT_1 _ (List.mem_of_getElem? (i := 57) rfl) rfl
theorem gw_58 : Cond.code ⟨"java/lang/Object", "<init>", "()V"⟩ object_method_1_code 1 Option.none ∈ ce_GW := gT_1 _ (List.mem_of_getElem? (i := 58) rfl) rfl
theorem gw_59 : Cond.classLink "Carcasswright" 7 "Carcasswright$Types" ∈ ce_GW := gT_1 _ (List.mem_of_getElem? (i := 59) rfl) rfl
theorem gw_60 : Cond.instantiable "Carcasswright$Types" 10 ∈ ce_GW := gT_1 _ (List.mem_of_getElem? (i := 60) rfl) rfl
theorem gw_61 : Cond.methodLink "Carcasswright" 9 ⟨"Carcasswright$Types", "<init>", "()V"⟩ ∈ ce_GW := gT_1 _ (List.mem_of_getElem? (i := 61) rfl) rfl
theorem gw_62 : Cond.instanceMethod ⟨"Carcasswright$Types", "<init>", "()V"⟩ ∈ ce_GW := gT_1 _ (List.mem_of_getElem? (i := 62) rfl) rfl
theorem gw_63 : Cond.code ⟨"Carcasswright$Types", "<init>", "()V"⟩ prog_11_method_1_code 2 Option.none ∈ ce_GW := gT_1 _ (List.mem_of_getElem? (i := 63) rfl) rfl
theorem gw_64 : Cond.methodLink "Carcasswright$Types" 1 ⟨"java/lang/Object", "<init>", "()V"⟩ ∈ ce_GW := gT_1 _ (List.mem_of_getElem? (i := 64) rfl) rfl
theorem gw_65 : Cond.classLink "Carcasswright$Types" 13 "Carcasswright$ModuleType" ∈ ce_GW := gT_1 _ (List.mem_of_getElem? (i := 65) rfl) rfl
theorem gw_67 : Cond.instantiable "Carcasswright$ModuleType" 9 ∈ ce_GW := gT_1 _ (List.mem_of_getElem? (i := 67) rfl) rfl
theorem gw_69 : Cond.instanceMethod ⟨"Carcasswright$ModuleType", "<init>", "()V"⟩ ∈ ce_GW := gT_1 _ (List.mem_of_getElem? (i := 69) rfl) rfl
theorem gw_70 : Cond.code ⟨"Carcasswright$ModuleType", "<init>", "()V"⟩ prog_4_method_1_code 1 Option.none ∈ ce_GW := gT_1 _ (List.mem_of_getElem? (i := 70) rfl) rfl
theorem gw_71 : Cond.methodLink "Carcasswright$ModuleType" 1 ⟨"java/lang/Object", "<init>", "()V"⟩ ∈ ce_GW := gT_1 _ (List.mem_of_getElem? (i := 71) rfl) rfl
theorem gw_72 : Cond.fieldLink "Carcasswright$ModuleType" 7 "Carcasswright$ModuleType" "body" "C" ∈ ce_GW := gT_1 _ (List.mem_of_getElem? (i := 72) rfl) rfl
theorem gw_74 : Cond.fieldLink "Carcasswright$ModuleType" 13 "Carcasswright$ModuleType" "high" "I" ∈ ce_GW := gT_1 _ (List.mem_of_getElem? (i := 74) rfl) rfl
theorem gw_76 : Cond.fieldLink "Carcasswright$ModuleType" 17 "Carcasswright$ModuleType" "deep" "I" ∈ ce_GW := gT_1 _ (List.mem_of_getElem? (i := 76) rfl) rfl
theorem gw_78 : Cond.fieldLink "Carcasswright$ModuleType" 20 "Carcasswright$ModuleType" "lowest" "I" ∈ ce_GW := gT_1 _ (List.mem_of_getElem? (i := 78) rfl) rfl
theorem gw_81 : Cond.fieldLink "Carcasswright$ModuleType" 23 "Carcasswright$ModuleType" "highest" "I" ∈ ce_GW := gT_1 _ (List.mem_of_getElem? (i := 81) rfl) rfl
theorem gw_83 : Cond.fieldLink "Carcasswright$ModuleType" 26 "Carcasswright$ModuleType" "width" "I" ∈ ce_GW := gT_1 _ (List.mem_of_getElem? (i := 83) rfl) rfl
theorem gw_87 : Cond.fieldLink "Carcasswright$ModuleType" 29 "Carcasswright$ModuleType" "doors" "I" ∈ ce_GW := gT_1 _ (List.mem_of_getElem? (i := 87) rfl) rfl
theorem gw_90 : Cond.fieldLink "Carcasswright$ModuleType" 32 "Carcasswright$ModuleType" "shelves" "I" ∈ ce_GW := gT_1 _ (List.mem_of_getElem? (i := 90) rfl) rfl
theorem gw_92 : Cond.fieldLink "Carcasswright$ModuleType" 35 "Carcasswright$ModuleType" "drawers" "I" ∈ ce_GW := gT_1 _ (List.mem_of_getElem? (i := 92) rfl) rfl
theorem gw_113 : Cond.arrayClass Jvm.ClassFile.FieldType.char ∈ ce_GW := gT_1 _ (List.mem_of_getElem? (i := 113) rfl) rfl
theorem gw_114 : Cond.fieldLink "Carcasswright$Types" 9 "Carcasswright$Types" "signs" "[C" ∈ ce_GW := gT_1 _ (List.mem_of_getElem? (i := 114) rfl) rfl
theorem gw_115 : Cond.fieldLink "Carcasswright$Types" 15 "Carcasswright$Types" "types" "[LCarcasswright$ModuleType;" ∈ ce_GW := gT_1 _ (List.mem_of_getElem? (i := 115) rfl) rfl
theorem gw_116 : Cond.fieldLink "Carcasswright$Types" 20 "Carcasswright$Types" "draft" "LCarcasswright$ModuleType;" ∈ ce_GW := gT_1 _ (List.mem_of_getElem? (i := 116) rfl) rfl
theorem gw_117 : Cond.fieldLink "Carcasswright$Types" 31 "Carcasswright$Types" "signCount" "I" ∈ ce_GW := gT_1 _ (List.mem_of_getElem? (i := 117) rfl) rfl
theorem gw_118 : Cond.fieldLink "Carcasswright" 132 "Carcasswright$Types" "signCount" "I" ∈ ce_GW := gT_1 _ (List.mem_of_getElem? (i := 118) rfl) rfl
theorem gw_119 : Cond.fieldLink "Carcasswright$Types" 24 "Carcasswright$Types" "typeCount" "I" ∈ ce_GW := gT_1 _ (List.mem_of_getElem? (i := 119) rfl) rfl
theorem gw_121 : Cond.fieldLink "Carcasswright$Types" 75 "Carcasswright$Types" "faultPlace" "I" ∈ ce_GW := gT_1 _ (List.mem_of_getElem? (i := 121) rfl) rfl
theorem gw_122 : Cond.fieldLink "Carcasswright" 152 "Carcasswright$Types" "faultPlace" "I" ∈ ce_GW := gT_1 _ (List.mem_of_getElem? (i := 122) rfl) rfl
theorem gw_123 : Cond.fieldLink "Carcasswright$Types" 78 "Carcasswright$Types" "faultLetter" "C" ∈ ce_GW := gT_1 _ (List.mem_of_getElem? (i := 123) rfl) rfl
theorem gw_124 : Cond.fieldLink "Carcasswright" 155 "Carcasswright$Types" "faultLetter" "C" ∈ ce_GW := gT_1 _ (List.mem_of_getElem? (i := 124) rfl) rfl
theorem gw_125 : Cond.fieldLink "Carcasswright$Types" 46 "Carcasswright$Types" "awaited" "C" ∈ ce_GW := gT_1 _ (List.mem_of_getElem? (i := 125) rfl) rfl
theorem gw_126 : Cond.fieldLink "Carcasswright$Types" 54 "Carcasswright$Types" "item" "C" ∈ ce_GW := gT_1 _ (List.mem_of_getElem? (i := 126) rfl) rfl
theorem gw_127 : Cond.fieldLink "Carcasswright$Types" 57 "Carcasswright$Types" "digits" "I" ∈ ce_GW := gT_1 _ (List.mem_of_getElem? (i := 127) rfl) rfl
theorem gw_149 : Cond.classLink "Carcasswright" 16 "Carcasswright$Room" ∈ ce_GW := gT_1 _ (List.mem_of_getElem? (i := 149) rfl) rfl
theorem gw_150 : Cond.instantiable "Carcasswright$Room" 10 ∈ ce_GW := gT_1 _ (List.mem_of_getElem? (i := 150) rfl) rfl
theorem gw_151 : Cond.methodLink "Carcasswright" 18 ⟨"Carcasswright$Types", "first", "()LCarcasswright$ModuleType;"⟩ ∈ ce_GW := gT_1 _ (List.mem_of_getElem? (i := 151) rfl) rfl
theorem gw_152 : Cond.instanceMethod ⟨"Carcasswright$Types", "first", "()LCarcasswright$ModuleType;"⟩ ∈ ce_GW := gT_1 _ (List.mem_of_getElem? (i := 152) rfl) rfl
theorem gw_153 : Cond.selects "Carcasswright$Types" ⟨"Carcasswright$Types", "first", "()LCarcasswright$ModuleType;"⟩ ⟨"Carcasswright$Types", "first", "()LCarcasswright$ModuleType;"⟩ ∈ ce_GW := gT_1 _ (List.mem_of_getElem? (i := 153) rfl) rfl
theorem gw_154 : Cond.code ⟨"Carcasswright$Types", "first", "()LCarcasswright$ModuleType;"⟩ prog_11_method_2_code 1 (Option.some (Jvm.ClassFile.FieldType.object "Carcasswright$ModuleType")) ∈ ce_GW := gT_1 _ (List.mem_of_getElem? (i := 154) rfl) rfl
theorem gw_155 : Cond.methodLink "Carcasswright" 22 ⟨"Carcasswright$Room", "<init>", "(LCarcasswright$ModuleType;)V"⟩ ∈ ce_GW := gT_1 _ (List.mem_of_getElem? (i := 155) rfl) rfl
theorem gw_156 : Cond.instanceMethod ⟨"Carcasswright$Room", "<init>", "(LCarcasswright$ModuleType;)V"⟩ ∈ ce_GW := gT_1 _ (List.mem_of_getElem? (i := 156) rfl) rfl
theorem gw_157 : Cond.code ⟨"Carcasswright$Room", "<init>", "(LCarcasswright$ModuleType;)V"⟩ prog_8_method_1_code 3 Option.none ∈ ce_GW := gT_1 _ (List.mem_of_getElem? (i := 157) rfl) rfl
theorem gw_158 : Cond.methodLink "Carcasswright$Room" 1 ⟨"java/lang/Object", "<init>", "()V"⟩ ∈ ce_GW := gT_1 _ (List.mem_of_getElem? (i := 158) rfl) rfl
theorem gw_159 : Cond.classLink "Carcasswright$Room" 9 "Carcasswright$Wall" ∈ ce_GW := gT_1 _ (List.mem_of_getElem? (i := 159) rfl) rfl
theorem gw_161 : Cond.classLink "Carcasswright$Room" 15 "Carcasswright$Obstacle" ∈ ce_GW := gT_1 _ (List.mem_of_getElem? (i := 161) rfl) rfl
theorem gw_163 : Cond.classLink "Carcasswright$Room" 21 "Carcasswright$PlacedModule" ∈ ce_GW := gT_1 _ (List.mem_of_getElem? (i := 163) rfl) rfl
theorem gw_165 : Cond.instantiable "Carcasswright$Wall" 6 ∈ ce_GW := gT_1 _ (List.mem_of_getElem? (i := 165) rfl) rfl
theorem gw_167 : Cond.instanceMethod ⟨"Carcasswright$Wall", "<init>", "()V"⟩ ∈ ce_GW := gT_1 _ (List.mem_of_getElem? (i := 167) rfl) rfl
theorem gw_168 : Cond.code ⟨"Carcasswright$Wall", "<init>", "()V"⟩ prog_12_method_1_code 1 Option.none ∈ ce_GW := gT_1 _ (List.mem_of_getElem? (i := 168) rfl) rfl
theorem gw_169 : Cond.methodLink "Carcasswright$Wall" 1 ⟨"java/lang/Object", "<init>", "()V"⟩ ∈ ce_GW := gT_1 _ (List.mem_of_getElem? (i := 169) rfl) rfl
theorem gw_170 : Cond.fieldLink "Carcasswright$Wall" 7 "Carcasswright$Wall" "way" "C" ∈ ce_GW := gT_1 _ (List.mem_of_getElem? (i := 170) rfl) rfl
theorem gw_171 : Cond.fieldLink "Carcasswright$Room" 58 "Carcasswright$Wall" "way" "C" ∈ ce_GW := gT_1 _ (List.mem_of_getElem? (i := 171) rfl) rfl
theorem gw_172 : Cond.fieldLink "Carcasswright$Room" 62 "Carcasswright$Wall" "measured" "I" ∈ ce_GW := gT_1 _ (List.mem_of_getElem? (i := 172) rfl) rfl
theorem gw_174 : Cond.fieldLink "Carcasswright$Room" 65 "Carcasswright$Wall" "length" "I" ∈ ce_GW := gT_1 _ (List.mem_of_getElem? (i := 174) rfl) rfl
theorem gw_193 : Cond.arrayClass Jvm.ClassFile.FieldType.int ∈ ce_GW := gT_1 _ (List.mem_of_getElem? (i := 193) rfl) rfl
theorem gw_194 : Cond.instantiable "Carcasswright$Obstacle" 5 ∈ ce_GW := gT_1 _ (List.mem_of_getElem? (i := 194) rfl) rfl
theorem gw_196 : Cond.instanceMethod ⟨"Carcasswright$Obstacle", "<init>", "()V"⟩ ∈ ce_GW := gT_1 _ (List.mem_of_getElem? (i := 196) rfl) rfl
theorem gw_197 : Cond.code ⟨"Carcasswright$Obstacle", "<init>", "()V"⟩ prog_5_method_1_code 1 Option.none ∈ ce_GW := gT_1 _ (List.mem_of_getElem? (i := 197) rfl) rfl
theorem gw_198 : Cond.methodLink "Carcasswright$Obstacle" 1 ⟨"java/lang/Object", "<init>", "()V"⟩ ∈ ce_GW := gT_1 _ (List.mem_of_getElem? (i := 198) rfl) rfl
theorem gw_215 : Cond.instantiable "Carcasswright$PlacedModule" 5 ∈ ce_GW := gT_1 _ (List.mem_of_getElem? (i := 215) rfl) rfl
theorem gw_216 : Cond.methodLink "Carcasswright$Room" 37 ⟨"Carcasswright$PlacedModule", "<init>", "(LCarcasswright$ModuleType;)V"⟩ ∈ ce_GW := gT_1 _ (List.mem_of_getElem? (i := 216) rfl) rfl
theorem gw_217 : Cond.instanceMethod ⟨"Carcasswright$PlacedModule", "<init>", "(LCarcasswright$ModuleType;)V"⟩ ∈ ce_GW := gT_1 _ (List.mem_of_getElem? (i := 217) rfl) rfl
theorem gw_218 : Cond.code ⟨"Carcasswright$PlacedModule", "<init>", "(LCarcasswright$ModuleType;)V"⟩ prog_7_method_1_code 2 Option.none ∈ ce_GW := gT_1 _ (List.mem_of_getElem? (i := 218) rfl) rfl
theorem gw_219 : Cond.methodLink "Carcasswright$PlacedModule" 1 ⟨"java/lang/Object", "<init>", "()V"⟩ ∈ ce_GW := gT_1 _ (List.mem_of_getElem? (i := 219) rfl) rfl
theorem gw_220 : Cond.fieldLink "Carcasswright$PlacedModule" 7 "Carcasswright$PlacedModule" "type" "LCarcasswright$ModuleType;" ∈ ce_GW := gT_1 _ (List.mem_of_getElem? (i := 220) rfl) rfl
theorem gw_247 : Cond.fieldLink "Carcasswright$Room" 11 "Carcasswright$Room" "walls" "[LCarcasswright$Wall;" ∈ ce_GW := gT_2 _ (List.mem_of_getElem? (i := 7) rfl) rfl
theorem gw_248 : Cond.fieldLink "Carcasswright$Room" 17 "Carcasswright$Room" "obstacles" "[LCarcasswright$Obstacle;" ∈ ce_GW := gT_2 _ (List.mem_of_getElem? (i := 8) rfl) rfl
theorem gw_249 : Cond.fieldLink "Carcasswright$Room" 23 "Carcasswright$Room" "modules" "[LCarcasswright$PlacedModule;" ∈ ce_GW := gT_2 _ (List.mem_of_getElem? (i := 9) rfl) rfl
theorem gw_250 : Cond.fieldLink "Carcasswright$Room" 40 "Carcasswright$Room" "trial" "LCarcasswright$PlacedModule;" ∈ ce_GW := gT_2 _ (List.mem_of_getElem? (i := 10) rfl) rfl
theorem gw_251 : Cond.fieldLink "Carcasswright$Room" 27 "Carcasswright$Room" "causes" "[C" ∈ ce_GW := gT_2 _ (List.mem_of_getElem? (i := 11) rfl) rfl
theorem gw_253 : Cond.fieldLink "Carcasswright$Room" 31 "Carcasswright$Room" "causeNumbers" "[I" ∈ ce_GW := gT_2 _ (List.mem_of_getElem? (i := 13) rfl) rfl
theorem gw_255 : Cond.fieldLink "Carcasswright$Room" 44 "Carcasswright$Room" "wallCount" "I" ∈ ce_GW := gT_2 _ (List.mem_of_getElem? (i := 15) rfl) rfl
theorem gw_256 : Cond.fieldLink "Carcasswright" 70 "Carcasswright$Room" "wallCount" "I" ∈ ce_GW := gT_2 _ (List.mem_of_getElem? (i := 16) rfl) rfl
theorem gw_259 : Cond.fieldLink "Carcasswright" 74 "Carcasswright$Room" "moduleCount" "I" ∈ ce_GW := gT_2 _ (List.mem_of_getElem? (i := 19) rfl) rfl
theorem gw_260 : Cond.fieldLink "Carcasswright$Room" 51 "Carcasswright$Room" "moduleCount" "I" ∈ ce_GW := gT_2 _ (List.mem_of_getElem? (i := 20) rfl) rfl
theorem gw_262 : Cond.fieldLink "Carcasswright" 235 "Carcasswright$Room" "causeCount" "I" ∈ ce_GW := gT_2 _ (List.mem_of_getElem? (i := 22) rfl) rfl
theorem gw_284 : Cond.classLink "Carcasswright" 29 "Carcasswright$Stock" ∈ ce_GW := gT_2 _ (List.mem_of_getElem? (i := 44) rfl) rfl
theorem gw_285 : Cond.instantiable "Carcasswright$Stock" 5 ∈ ce_GW := gT_2 _ (List.mem_of_getElem? (i := 45) rfl) rfl
theorem gw_286 : Cond.methodLink "Carcasswright" 31 ⟨"Carcasswright$Stock", "<init>", "()V"⟩ ∈ ce_GW := gT_2 _ (List.mem_of_getElem? (i := 46) rfl) rfl
theorem gw_287 : Cond.instanceMethod ⟨"Carcasswright$Stock", "<init>", "()V"⟩ ∈ ce_GW := gT_2 _ (List.mem_of_getElem? (i := 47) rfl) rfl
theorem gw_288 : Cond.code ⟨"Carcasswright$Stock", "<init>", "()V"⟩ prog_10_method_1_code 2 Option.none ∈ ce_GW := gT_2 _ (List.mem_of_getElem? (i := 48) rfl) rfl
theorem gw_289 : Cond.methodLink "Carcasswright$Stock" 1 ⟨"java/lang/Object", "<init>", "()V"⟩ ∈ ce_GW := gT_2 _ (List.mem_of_getElem? (i := 49) rfl) rfl
theorem gw_290 : Cond.classLink "Carcasswright$Stock" 9 "Carcasswright$Board" ∈ ce_GW := gT_2 _ (List.mem_of_getElem? (i := 50) rfl) rfl
theorem gw_292 : Cond.instantiable "Carcasswright$Board" 7 ∈ ce_GW := gT_2 _ (List.mem_of_getElem? (i := 52) rfl) rfl
theorem gw_294 : Cond.instanceMethod ⟨"Carcasswright$Board", "<init>", "()V"⟩ ∈ ce_GW := gT_2 _ (List.mem_of_getElem? (i := 54) rfl) rfl
theorem gw_295 : Cond.code ⟨"Carcasswright$Board", "<init>", "()V"⟩ prog_2_method_1_code 1 Option.none ∈ ce_GW := gT_2 _ (List.mem_of_getElem? (i := 55) rfl) rfl
theorem gw_296 : Cond.methodLink "Carcasswright$Board" 3 ⟨"java/lang/Object", "<init>", "()V"⟩ ∈ ce_GW := gT_2 _ (List.mem_of_getElem? (i := 56) rfl) rfl
theorem gw_297 : Cond.fieldLink "Carcasswright$Board" 9 "Carcasswright$Board" "colour" "I" ∈ ce_GW := gT_2 _ (List.mem_of_getElem? (i := 57) rfl) rfl
theorem gw_300 : Cond.fieldLink "Carcasswright$Board" 15 "Carcasswright$Board" "thick" "I" ∈ ce_GW := gT_2 _ (List.mem_of_getElem? (i := 60) rfl) rfl
theorem gw_303 : Cond.fieldLink "Carcasswright$Board" 18 "Carcasswright$Board" "length" "I" ∈ ce_GW := gT_2 _ (List.mem_of_getElem? (i := 63) rfl) rfl
theorem gw_307 : Cond.fieldLink "Carcasswright$Board" 21 "Carcasswright$Board" "width" "I" ∈ ce_GW := gT_2 _ (List.mem_of_getElem? (i := 67) rfl) rfl
theorem gw_311 : Cond.fieldLink "Carcasswright$Stock" 27 "Carcasswright$Board" "isOffcut" "Z" ∈ ce_GW := gT_2 _ (List.mem_of_getElem? (i := 71) rfl) rfl
theorem gw_312 : Cond.fieldLink "Carcasswright$Stock" 31 "Carcasswright$Board" "isOpened" "Z" ∈ ce_GW := gT_2 _ (List.mem_of_getElem? (i := 72) rfl) rfl
theorem gw_314 : Cond.fieldLink "Carcasswright$Stock" 34 "Carcasswright$Board" "stripsEnd" "I" ∈ ce_GW := gT_2 _ (List.mem_of_getElem? (i := 74) rfl) rfl
theorem gw_332 : Cond.fieldLink "Carcasswright$Stock" 11 "Carcasswright$Stock" "boards" "[LCarcasswright$Board;" ∈ ce_GW := gT_2 _ (List.mem_of_getElem? (i := 92) rfl) rfl
theorem gw_333 : Cond.fieldLink "Carcasswright$Stock" 16 "Carcasswright$Stock" "count" "I" ∈ ce_GW := gT_2 _ (List.mem_of_getElem? (i := 93) rfl) rfl
theorem gw_334 : Cond.fieldLink "Carcasswright" 299 "Carcasswright$Stock" "count" "I" ∈ ce_GW := gT_2 _ (List.mem_of_getElem? (i := 94) rfl) rfl
theorem gw_335 : Cond.fieldLink "Carcasswright" 305 "Carcasswright$Stock" "came" "J" ∈ ce_GW := gT_2 _ (List.mem_of_getElem? (i := 95) rfl) rfl
theorem gw_337 : Cond.fieldLink "Carcasswright" 391 "Carcasswright$Stock" "dust" "J" ∈ ce_GW := gT_2 _ (List.mem_of_getElem? (i := 97) rfl) rfl
theorem gw_338 : Cond.fieldLink "Carcasswright" 224 "Carcasswright$Stock" "scrap" "J" ∈ ce_GW := gT_2 _ (List.mem_of_getElem? (i := 98) rfl) rfl
theorem gw_350 : Cond.classLink "Carcasswright" 36 "Carcasswright$Saw" ∈ ce_GW := gT_2 _ (List.mem_of_getElem? (i := 110) rfl) rfl
theorem gw_351 : Cond.instantiable "Carcasswright$Saw" 13 ∈ ce_GW := gT_2 _ (List.mem_of_getElem? (i := 111) rfl) rfl
theorem gw_352 : Cond.methodLink "Carcasswright" 38 ⟨"Carcasswright$Saw", "<init>", "(LCarcasswright$Stock;)V"⟩ ∈ ce_GW := gT_2 _ (List.mem_of_getElem? (i := 112) rfl) rfl
theorem gw_353 : Cond.instanceMethod ⟨"Carcasswright$Saw", "<init>", "(LCarcasswright$Stock;)V"⟩ ∈ ce_GW := gT_2 _ (List.mem_of_getElem? (i := 113) rfl) rfl
theorem gw_354 : Cond.code ⟨"Carcasswright$Saw", "<init>", "(LCarcasswright$Stock;)V"⟩ prog_9_method_1_code 3 Option.none ∈ ce_GW := gT_2 _ (List.mem_of_getElem? (i := 114) rfl) rfl
theorem gw_355 : Cond.methodLink "Carcasswright$Saw" 3 ⟨"java/lang/Object", "<init>", "()V"⟩ ∈ ce_GW := gT_2 _ (List.mem_of_getElem? (i := 115) rfl) rfl
theorem gw_356 : Cond.classLink "Carcasswright$Saw" 30 "Carcasswright$Board" ∈ ce_GW := gT_2 _ (List.mem_of_getElem? (i := 116) rfl) rfl
theorem gw_358 : Cond.fieldLink "Carcasswright$Saw" 36 "Carcasswright$Saw" "stock" "LCarcasswright$Stock;" ∈ ce_GW := gT_2 _ (List.mem_of_getElem? (i := 118) rfl) rfl
theorem gw_359 : Cond.fieldLink "Carcasswright$Saw" 9 "Carcasswright$Saw" "lengths" "[I" ∈ ce_GW := gT_2 _ (List.mem_of_getElem? (i := 119) rfl) rfl
theorem gw_360 : Cond.fieldLink "Carcasswright$Saw" 15 "Carcasswright$Saw" "widths" "[I" ∈ ce_GW := gT_2 _ (List.mem_of_getElem? (i := 120) rfl) rfl
theorem gw_362 : Cond.fieldLink "Carcasswright$Saw" 18 "Carcasswright$Saw" "opened" "[I" ∈ ce_GW := gT_2 _ (List.mem_of_getElem? (i := 122) rfl) rfl
theorem gw_366 : Cond.fieldLink "Carcasswright$Saw" 21 "Carcasswright$Saw" "stripBoards" "[I" ∈ ce_GW := gT_2 _ (List.mem_of_getElem? (i := 126) rfl) rfl
theorem gw_367 : Cond.fieldLink "Carcasswright$Saw" 24 "Carcasswright$Saw" "stripWidths" "[I" ∈ ce_GW := gT_2 _ (List.mem_of_getElem? (i := 127) rfl) rfl
theorem gw_368 : Cond.fieldLink "Carcasswright$Saw" 27 "Carcasswright$Saw" "stripEnds" "[I" ∈ ce_GW := gT_2 _ (List.mem_of_getElem? (i := 128) rfl) rfl
theorem gw_370 : Cond.fieldLink "Carcasswright$Saw" 32 "Carcasswright$Saw" "left" "[LCarcasswright$Board;" ∈ ce_GW := gT_2 _ (List.mem_of_getElem? (i := 130) rfl) rfl
theorem gw_399 : Cond.classLink "Carcasswright" 45 "Carcasswright$Packer" ∈ ce_GW := gT_2 _ (List.mem_of_getElem? (i := 159) rfl) rfl
theorem gw_400 : Cond.instantiable "Carcasswright$Packer" 4 ∈ ce_GW := gT_2 _ (List.mem_of_getElem? (i := 160) rfl) rfl
theorem gw_402 : Cond.instanceMethod ⟨"Carcasswright$Packer", "<init>", "()V"⟩ ∈ ce_GW := gT_2 _ (List.mem_of_getElem? (i := 162) rfl) rfl
theorem gw_403 : Cond.code ⟨"Carcasswright$Packer", "<init>", "()V"⟩ prog_6_method_1_code 1 Option.none ∈ ce_GW := gT_2 _ (List.mem_of_getElem? (i := 163) rfl) rfl
theorem gw_404 : Cond.methodLink "Carcasswright$Packer" 3 ⟨"java/lang/Object", "<init>", "()V"⟩ ∈ ce_GW := gT_2 _ (List.mem_of_getElem? (i := 164) rfl) rfl
theorem gw_405 : Cond.fieldLink "Carcasswright$Packer" 9 "Carcasswright$Packer" "weights" "[I" ∈ ce_GW := gT_2 _ (List.mem_of_getElem? (i := 165) rfl) rfl
theorem gw_406 : Cond.fieldLink "Carcasswright$Packer" 15 "Carcasswright$Packer" "packs" "[I" ∈ ce_GW := gT_2 _ (List.mem_of_getElem? (i := 166) rfl) rfl
theorem gw_407 : Cond.fieldLink "Carcasswright$Packer" 18 "Carcasswright$Packer" "loads" "[I" ∈ ce_GW := gT_2 _ (List.mem_of_getElem? (i := 167) rfl) rfl
theorem gw_419 : Cond.classLink "Carcasswright" 52 "Carcasswright$Jobs" ∈ ce_GW := gT_2 _ (List.mem_of_getElem? (i := 179) rfl) rfl
theorem gw_420 : Cond.instantiable "Carcasswright$Jobs" 8 ∈ ce_GW := gT_2 _ (List.mem_of_getElem? (i := 180) rfl) rfl
theorem gw_422 : Cond.instanceMethod ⟨"Carcasswright$Jobs", "<init>", "()V"⟩ ∈ ce_GW := gT_2 _ (List.mem_of_getElem? (i := 182) rfl) rfl
theorem gw_423 : Cond.code ⟨"Carcasswright$Jobs", "<init>", "()V"⟩ prog_3_method_1_code 1 Option.none ∈ ce_GW := gT_2 _ (List.mem_of_getElem? (i := 183) rfl) rfl
theorem gw_424 : Cond.methodLink "Carcasswright$Jobs" 1 ⟨"java/lang/Object", "<init>", "()V"⟩ ∈ ce_GW := gT_2 _ (List.mem_of_getElem? (i := 184) rfl) rfl
theorem gw_425 : Cond.fieldLink "Carcasswright$Jobs" 9 "Carcasswright$Jobs" "colours" "[I" ∈ ce_GW := gT_2 _ (List.mem_of_getElem? (i := 185) rfl) rfl
theorem gw_426 : Cond.fieldLink "Carcasswright$Jobs" 13 "Carcasswright$Jobs" "hours" "[I" ∈ ce_GW := gT_2 _ (List.mem_of_getElem? (i := 186) rfl) rfl
theorem gw_427 : Cond.fieldLink "Carcasswright$Jobs" 16 "Carcasswright$Jobs" "dues" "[I" ∈ ce_GW := gT_2 _ (List.mem_of_getElem? (i := 187) rfl) rfl
theorem gw_428 : Cond.fieldLink "Carcasswright$Jobs" 19 "Carcasswright$Jobs" "order" "[I" ∈ ce_GW := gT_2 _ (List.mem_of_getElem? (i := 188) rfl) rfl
theorem gw_429 : Cond.fieldLink "Carcasswright$Jobs" 22 "Carcasswright$Jobs" "best" "[I" ∈ ce_GW := gT_2 _ (List.mem_of_getElem? (i := 189) rfl) rfl
theorem gw_431 : Cond.fieldLink "Carcasswright$Jobs" 29 "Carcasswright$Jobs" "count" "I" ∈ ce_GW := gT_2 _ (List.mem_of_getElem? (i := 191) rfl) rfl
theorem gw_432 : Cond.fieldLink "Carcasswright" 369 "Carcasswright$Jobs" "count" "I" ∈ ce_GW := gT_2 _ (List.mem_of_getElem? (i := 192) rfl) rfl
theorem gw_433 : Cond.fieldLink "Carcasswright$Jobs" 25 "Carcasswright$Jobs" "setup" "I" ∈ ce_GW := gT_2 _ (List.mem_of_getElem? (i := 193) rfl) rfl
theorem gw_434 : Cond.fieldLink "Carcasswright" 373 "Carcasswright$Jobs" "setup" "I" ∈ ce_GW := gT_2 _ (List.mem_of_getElem? (i := 194) rfl) rfl
theorem gw_435 : Cond.fieldLink "Carcasswright$Jobs" 36 "Carcasswright$Jobs" "leastLate" "I" ∈ ce_GW := gT_2 _ (List.mem_of_getElem? (i := 195) rfl) rfl
theorem gw_436 : Cond.fieldLink "Carcasswright" 379 "Carcasswright$Jobs" "leastLate" "I" ∈ ce_GW := gT_2 _ (List.mem_of_getElem? (i := 196) rfl) rfl
theorem gw_454 : Cond.fieldLink "Carcasswright" 10 "Carcasswright" "types" "LCarcasswright$Types;" ∈ ce_GW := gT_2 _ (List.mem_of_getElem? (i := 214) rfl) rfl
theorem gw_455 : Cond.fieldLink "Carcasswright" 25 "Carcasswright" "room" "LCarcasswright$Room;" ∈ ce_GW := gT_2 _ (List.mem_of_getElem? (i := 215) rfl) rfl
theorem gw_456 : Cond.fieldLink "Carcasswright" 32 "Carcasswright" "stock" "LCarcasswright$Stock;" ∈ ce_GW := gT_2 _ (List.mem_of_getElem? (i := 216) rfl) rfl
theorem gw_457 : Cond.fieldLink "Carcasswright" 41 "Carcasswright" "saw" "LCarcasswright$Saw;" ∈ ce_GW := gT_2 _ (List.mem_of_getElem? (i := 217) rfl) rfl
theorem gw_458 : Cond.fieldLink "Carcasswright" 48 "Carcasswright" "packer" "LCarcasswright$Packer;" ∈ ce_GW := gT_2 _ (List.mem_of_getElem? (i := 218) rfl) rfl
theorem gw_459 : Cond.fieldLink "Carcasswright" 55 "Carcasswright" "jobs" "LCarcasswright$Jobs;" ∈ ce_GW := gT_2 _ (List.mem_of_getElem? (i := 219) rfl) rfl
theorem gw_460 : Cond.fieldLink "Carcasswright" 59 "Carcasswright" "rates" "[I" ∈ ce_GW := gT_2 _ (List.mem_of_getElem? (i := 220) rfl) rfl
theorem gw_476 : Cond.methodLink "CarcasswrightLaw" 191 ⟨"Carcasswright", "isClosedRoom", "()Z"⟩ ∈ ce_GW := gT_2 _ (List.mem_of_getElem? (i := 236) rfl) rfl
theorem gw_477 : Cond.instanceMethod ⟨"Carcasswright", "isClosedRoom", "()Z"⟩ ∈ ce_GW := gT_2 _ (List.mem_of_getElem? (i := 237) rfl) rfl
theorem gw_478 : Cond.selects "Carcasswright" ⟨"Carcasswright", "isClosedRoom", "()Z"⟩ ⟨"Carcasswright", "isClosedRoom", "()Z"⟩ ∈ ce_GW := gT_2 _ (List.mem_of_getElem? (i := 238) rfl) rfl
theorem gw_479 : Cond.code ⟨"Carcasswright", "isClosedRoom", "()Z"⟩ prog_1_method_5_code 1 (Option.some Jvm.ClassFile.FieldType.boolean) ∈ ce_GW := gT_2 _ (List.mem_of_getElem? (i := 239) rfl) rfl
theorem gw_484 : Cond.methodLink "Carcasswright$Room" 54 ⟨"Carcasswright$Room", "wallAt", "(I)LCarcasswright$Wall;"⟩ ∈ ce_GW := gT_3 _ (List.mem_of_getElem? (i := 4) rfl) rfl
theorem gw_485 : Cond.instanceMethod ⟨"Carcasswright$Room", "wallAt", "(I)LCarcasswright$Wall;"⟩ ∈ ce_GW := gT_3 _ (List.mem_of_getElem? (i := 5) rfl) rfl
theorem gw_486 : Cond.selects "Carcasswright$Room" ⟨"Carcasswright$Room", "wallAt", "(I)LCarcasswright$Wall;"⟩ ⟨"Carcasswright$Room", "wallAt", "(I)LCarcasswright$Wall;"⟩ ∈ ce_GW := gT_3 _ (List.mem_of_getElem? (i := 6) rfl) rfl
theorem gw_487 : Cond.code ⟨"Carcasswright$Room", "wallAt", "(I)LCarcasswright$Wall;"⟩ prog_8_method_2_code 2 (Option.some (Jvm.ClassFile.FieldType.object "Carcasswright$Wall")) ∈ ce_GW := gT_3 _ (List.mem_of_getElem? (i := 7) rfl) rfl
theorem gw_488 : Cond.classLink "Carcasswright$Room" 48 "java/lang/IndexOutOfBoundsException" ∈ ce_GW := gT_3 _ (List.mem_of_getElem? (i := 8) rfl) rfl
theorem gw_531 : Cond.methodLink "Carcasswright$Room" 50 ⟨"java/lang/IndexOutOfBoundsException", "<init>", "()V"⟩ ∈ ce_GW := gT_3 _ (List.mem_of_getElem? (i := 51) rfl) rfl
theorem gw_554 : Cond.methodLink "CarcasswrightLaw" 208 ⟨"Carcasswright", "wipe", "()I"⟩ ∈ ce_GW := gT_3 _ (List.mem_of_getElem? (i := 74) rfl) rfl
theorem gw_555 : Cond.instanceMethod ⟨"Carcasswright", "wipe", "()I"⟩ ∈ ce_GW := gT_3 _ (List.mem_of_getElem? (i := 75) rfl) rfl
theorem gw_556 : Cond.selects "Carcasswright" ⟨"Carcasswright", "wipe", "()I"⟩ ⟨"Carcasswright", "wipe", "()I"⟩ ∈ ce_GW := gT_3 _ (List.mem_of_getElem? (i := 76) rfl) rfl
theorem gw_557 : Cond.code ⟨"Carcasswright", "wipe", "()I"⟩ prog_1_method_9_code 1 (Option.some Jvm.ClassFile.FieldType.int) ∈ ce_GW := gT_3 _ (List.mem_of_getElem? (i := 77) rfl) rfl
theorem gw_558 : Cond.methodLink "Carcasswright" 139 ⟨"Carcasswright$Types", "clearText", "()I"⟩ ∈ ce_GW := gT_3 _ (List.mem_of_getElem? (i := 78) rfl) rfl
theorem gw_559 : Cond.instanceMethod ⟨"Carcasswright$Types", "clearText", "()I"⟩ ∈ ce_GW := gT_3 _ (List.mem_of_getElem? (i := 79) rfl) rfl
theorem gw_560 : Cond.selects "Carcasswright$Types" ⟨"Carcasswright$Types", "clearText", "()I"⟩ ⟨"Carcasswright$Types", "clearText", "()I"⟩ ∈ ce_GW := gT_3 _ (List.mem_of_getElem? (i := 80) rfl) rfl
theorem gw_561 : Cond.code ⟨"Carcasswright$Types", "clearText", "()I"⟩ prog_11_method_5_code 2 (Option.some Jvm.ClassFile.FieldType.int) ∈ ce_GW := gT_3 _ (List.mem_of_getElem? (i := 81) rfl) rfl
theorem gw_562 : Cond.methodLink "CarcasswrightLaw" 285 ⟨"Carcasswright", "boards", "()I"⟩ ∈ ce_GW := gT_3 _ (List.mem_of_getElem? (i := 82) rfl) rfl
theorem gw_563 : Cond.instanceMethod ⟨"Carcasswright", "boards", "()I"⟩ ∈ ce_GW := gT_3 _ (List.mem_of_getElem? (i := 83) rfl) rfl
theorem gw_564 : Cond.selects "Carcasswright" ⟨"Carcasswright", "boards", "()I"⟩ ⟨"Carcasswright", "boards", "()I"⟩ ∈ ce_GW := gT_3 _ (List.mem_of_getElem? (i := 84) rfl) rfl
theorem gw_565 : Cond.code ⟨"Carcasswright", "boards", "()I"⟩ prog_1_method_32_code 1 (Option.some Jvm.ClassFile.FieldType.int) ∈ ce_GW := gT_3 _ (List.mem_of_getElem? (i := 85) rfl) rfl
theorem gw_566 : Cond.methodLink "CarcasswrightLaw" 289 ⟨"Carcasswright", "offcuts", "()I"⟩ ∈ ce_GW := gT_3 _ (List.mem_of_getElem? (i := 86) rfl) rfl
theorem gw_567 : Cond.instanceMethod ⟨"Carcasswright", "offcuts", "()I"⟩ ∈ ce_GW := gT_3 _ (List.mem_of_getElem? (i := 87) rfl) rfl
theorem gw_568 : Cond.selects "Carcasswright" ⟨"Carcasswright", "offcuts", "()I"⟩ ⟨"Carcasswright", "offcuts", "()I"⟩ ∈ ce_GW := gT_3 _ (List.mem_of_getElem? (i := 88) rfl) rfl
theorem gw_569 : Cond.code ⟨"Carcasswright", "offcuts", "()I"⟩ prog_1_method_33_code 1 (Option.some Jvm.ClassFile.FieldType.int) ∈ ce_GW := gT_3 _ (List.mem_of_getElem? (i := 89) rfl) rfl
theorem gw_570 : Cond.methodLink "Carcasswright" 308 ⟨"Carcasswright$Stock", "offcutCount", "()I"⟩ ∈ ce_GW := gT_3 _ (List.mem_of_getElem? (i := 90) rfl) rfl
theorem gw_571 : Cond.instanceMethod ⟨"Carcasswright$Stock", "offcutCount", "()I"⟩ ∈ ce_GW := gT_3 _ (List.mem_of_getElem? (i := 91) rfl) rfl
theorem gw_572 : Cond.selects "Carcasswright$Stock" ⟨"Carcasswright$Stock", "offcutCount", "()I"⟩ ⟨"Carcasswright$Stock", "offcutCount", "()I"⟩ ∈ ce_GW := gT_3 _ (List.mem_of_getElem? (i := 92) rfl) rfl
theorem gw_573 : Cond.code ⟨"Carcasswright$Stock", "offcutCount", "()I"⟩ prog_10_method_4_code 3 (Option.some Jvm.ClassFile.FieldType.int) ∈ ce_GW := gT_3 _ (List.mem_of_getElem? (i := 93) rfl) rfl
theorem gw_575 : Cond.instanceMethod ⟨"Carcasswright$Stock", "boardAt", "(I)LCarcasswright$Board;"⟩ ∈ ce_GW := gT_3 _ (List.mem_of_getElem? (i := 95) rfl) rfl
theorem gw_576 : Cond.selects "Carcasswright$Stock" ⟨"Carcasswright$Stock", "boardAt", "(I)LCarcasswright$Board;"⟩ ⟨"Carcasswright$Stock", "boardAt", "(I)LCarcasswright$Board;"⟩ ∈ ce_GW := gT_3 _ (List.mem_of_getElem? (i := 96) rfl) rfl
theorem gw_577 : Cond.code ⟨"Carcasswright$Stock", "boardAt", "(I)LCarcasswright$Board;"⟩ prog_10_method_2_code 2 (Option.some (Jvm.ClassFile.FieldType.object "Carcasswright$Board")) ∈ ce_GW := gT_3 _ (List.mem_of_getElem? (i := 97) rfl) rfl
theorem gw_578 : Cond.classLink "Carcasswright$Stock" 20 "java/lang/IndexOutOfBoundsException" ∈ ce_GW := gT_3 _ (List.mem_of_getElem? (i := 98) rfl) rfl
theorem gw_579 : Cond.methodLink "Carcasswright$Stock" 22 ⟨"java/lang/IndexOutOfBoundsException", "<init>", "()V"⟩ ∈ ce_GW := gT_3 _ (List.mem_of_getElem? (i := 99) rfl) rfl
theorem gw_580 : Cond.methodLink "CarcasswrightLaw" 329 ⟨"Carcasswright", "lateness", "()I"⟩ ∈ ce_GW := gT_3 _ (List.mem_of_getElem? (i := 100) rfl) rfl
theorem gw_581 : Cond.instanceMethod ⟨"Carcasswright", "lateness", "()I"⟩ ∈ ce_GW := gT_3 _ (List.mem_of_getElem? (i := 101) rfl) rfl
theorem gw_582 : Cond.selects "Carcasswright" ⟨"Carcasswright", "lateness", "()I"⟩ ⟨"Carcasswright", "lateness", "()I"⟩ ∈ ce_GW := gT_3 _ (List.mem_of_getElem? (i := 102) rfl) rfl
theorem gw_583 : Cond.code ⟨"Carcasswright", "lateness", "()I"⟩ prog_1_method_46_code 1 (Option.some Jvm.ClassFile.FieldType.int) ∈ ce_GW := gT_3 _ (List.mem_of_getElem? (i := 103) rfl) rfl
theorem gw_584 : Cond.methodLink "Carcasswright" 376 ⟨"Carcasswright$Jobs", "plan", "()V"⟩ ∈ ce_GW := gT_3 _ (List.mem_of_getElem? (i := 104) rfl) rfl
theorem gw_585 : Cond.instanceMethod ⟨"Carcasswright$Jobs", "plan", "()V"⟩ ∈ ce_GW := gT_3 _ (List.mem_of_getElem? (i := 105) rfl) rfl
theorem gw_586 : Cond.selects "Carcasswright$Jobs" ⟨"Carcasswright$Jobs", "plan", "()V"⟩ ⟨"Carcasswright$Jobs", "plan", "()V"⟩ ∈ ce_GW := gT_3 _ (List.mem_of_getElem? (i := 106) rfl) rfl
theorem gw_587 : Cond.code ⟨"Carcasswright$Jobs", "plan", "()V"⟩ prog_3_method_3_code 3 Option.none ∈ ce_GW := gT_3 _ (List.mem_of_getElem? (i := 107) rfl) rfl
theorem gw_588 : Cond.methodLink "Carcasswright$Jobs" 32 ⟨"Carcasswright$Jobs", "lateInOrder", "()I"⟩ ∈ ce_GW := gT_3 _ (List.mem_of_getElem? (i := 108) rfl) rfl
theorem gw_589 : Cond.instanceMethod ⟨"Carcasswright$Jobs", "lateInOrder", "()I"⟩ ∈ ce_GW := gT_3 _ (List.mem_of_getElem? (i := 109) rfl) rfl
theorem gw_590 : Cond.selects "Carcasswright$Jobs" ⟨"Carcasswright$Jobs", "lateInOrder", "()I"⟩ ⟨"Carcasswright$Jobs", "lateInOrder", "()I"⟩ ∈ ce_GW := gT_3 _ (List.mem_of_getElem? (i := 110) rfl) rfl
theorem gw_591 : Cond.code ⟨"Carcasswright$Jobs", "lateInOrder", "()I"⟩ prog_3_method_5_code 6 (Option.some Jvm.ClassFile.FieldType.int) ∈ ce_GW := gT_3 _ (List.mem_of_getElem? (i := 111) rfl) rfl
theorem gw_593 : Cond.static ⟨"java/lang/Math", "max", "(II)I"⟩ ∈ ce_GW := gT_3 _ (List.mem_of_getElem? (i := 113) rfl) rfl
theorem gw_594 : Cond.code ⟨"java/lang/Math", "max", "(II)I"⟩ prog_39_method_65_code 2 (Option.some Jvm.ClassFile.FieldType.int) ∈ ce_GW := gT_3 _ (List.mem_of_getElem? (i := 114) rfl) rfl
theorem gw_595 : Cond.methodLink "Carcasswright$Jobs" 39 ⟨"Carcasswright$Jobs", "keepOrder", "()V"⟩ ∈ ce_GW := gT_3 _ (List.mem_of_getElem? (i := 115) rfl) rfl
theorem gw_596 : Cond.instanceMethod ⟨"Carcasswright$Jobs", "keepOrder", "()V"⟩ ∈ ce_GW := gT_3 _ (List.mem_of_getElem? (i := 116) rfl) rfl
theorem gw_597 : Cond.selects "Carcasswright$Jobs" ⟨"Carcasswright$Jobs", "keepOrder", "()V"⟩ ⟨"Carcasswright$Jobs", "keepOrder", "()V"⟩ ∈ ce_GW := gT_3 _ (List.mem_of_getElem? (i := 117) rfl) rfl
theorem gw_598 : Cond.code ⟨"Carcasswright$Jobs", "keepOrder", "()V"⟩ prog_3_method_4_code 2 Option.none ∈ ce_GW := gT_3 _ (List.mem_of_getElem? (i := 118) rfl) rfl
theorem gw_599 : Cond.methodLink "Carcasswright$Jobs" 42 ⟨"Carcasswright$Jobs", "goToNextOrder", "()Z"⟩ ∈ ce_GW := gT_3 _ (List.mem_of_getElem? (i := 119) rfl) rfl
theorem gw_600 : Cond.instanceMethod ⟨"Carcasswright$Jobs", "goToNextOrder", "()Z"⟩ ∈ ce_GW := gT_3 _ (List.mem_of_getElem? (i := 120) rfl) rfl
theorem gw_601 : Cond.selects "Carcasswright$Jobs" ⟨"Carcasswright$Jobs", "goToNextOrder", "()Z"⟩ ⟨"Carcasswright$Jobs", "goToNextOrder", "()Z"⟩ ∈ ce_GW := gT_3 _ (List.mem_of_getElem? (i := 121) rfl) rfl
theorem gw_602 : Cond.code ⟨"Carcasswright$Jobs", "goToNextOrder", "()Z"⟩ prog_3_method_6_code 3 (Option.some Jvm.ClassFile.FieldType.boolean) ∈ ce_GW := gT_3 _ (List.mem_of_getElem? (i := 122) rfl) rfl
theorem gw_603 : Cond.methodLink "Carcasswright$Jobs" 52 ⟨"java/lang/Math", "min", "(II)I"⟩ ∈ ce_GW := gT_3 _ (List.mem_of_getElem? (i := 123) rfl) rfl
theorem gw_604 : Cond.static ⟨"java/lang/Math", "min", "(II)I"⟩ ∈ ce_GW := gT_3 _ (List.mem_of_getElem? (i := 124) rfl) rfl
theorem gw_605 : Cond.code ⟨"java/lang/Math", "min", "(II)I"⟩ prog_39_method_69_code 2 (Option.some Jvm.ClassFile.FieldType.int) ∈ ce_GW := gT_3 _ (List.mem_of_getElem? (i := 125) rfl) rfl
theorem gw_618 : Cond.methodLink "CarcasswrightLaw" 336 ⟨"Carcasswright", "modules", "()I"⟩ ∈ ce_GW := gT_3 _ (List.mem_of_getElem? (i := 138) rfl) rfl
theorem gw_619 : Cond.instanceMethod ⟨"Carcasswright", "modules", "()I"⟩ ∈ ce_GW := gT_3 _ (List.mem_of_getElem? (i := 139) rfl) rfl
theorem gw_620 : Cond.selects "Carcasswright" ⟨"Carcasswright", "modules", "()I"⟩ ⟨"Carcasswright", "modules", "()I"⟩ ∈ ce_GW := gT_3 _ (List.mem_of_getElem? (i := 140) rfl) rfl
theorem gw_621 : Cond.code ⟨"Carcasswright", "modules", "()I"⟩ prog_1_method_48_code 1 (Option.some Jvm.ClassFile.FieldType.int) ∈ ce_GW := gT_3 _ (List.mem_of_getElem? (i := 141) rfl) rfl
theorem gw_622 : Cond.methodLink "CarcasswrightLaw" 350 ⟨"Carcasswright", "isSound", "()Z"⟩ ∈ ce_GW := gT_3 _ (List.mem_of_getElem? (i := 142) rfl) rfl
theorem gw_623 : Cond.instanceMethod ⟨"Carcasswright", "isSound", "()Z"⟩ ∈ ce_GW := gT_3 _ (List.mem_of_getElem? (i := 143) rfl) rfl
theorem gw_624 : Cond.selects "Carcasswright" ⟨"Carcasswright", "isSound", "()Z"⟩ ⟨"Carcasswright", "isSound", "()Z"⟩ ∈ ce_GW := gT_3 _ (List.mem_of_getElem? (i := 144) rfl) rfl
theorem gw_625 : Cond.code ⟨"Carcasswright", "isSound", "()Z"⟩ prog_1_method_52_code 3 (Option.some Jvm.ClassFile.FieldType.boolean) ∈ ce_GW := gT_3 _ (List.mem_of_getElem? (i := 145) rfl) rfl
theorem gw_626 : Cond.methodLink "Carcasswright" 385 ⟨"Carcasswright$Stock", "squares", "()J"⟩ ∈ ce_GW := gT_3 _ (List.mem_of_getElem? (i := 146) rfl) rfl
theorem gw_627 : Cond.instanceMethod ⟨"Carcasswright$Stock", "squares", "()J"⟩ ∈ ce_GW := gT_3 _ (List.mem_of_getElem? (i := 147) rfl) rfl
theorem gw_628 : Cond.selects "Carcasswright$Stock" ⟨"Carcasswright$Stock", "squares", "()J"⟩ ⟨"Carcasswright$Stock", "squares", "()J"⟩ ∈ ce_GW := gT_3 _ (List.mem_of_getElem? (i := 148) rfl) rfl
theorem gw_629 : Cond.code ⟨"Carcasswright$Stock", "squares", "()J"⟩ prog_10_method_5_code 4 (Option.some Jvm.ClassFile.FieldType.long) ∈ ce_GW := gT_3 _ (List.mem_of_getElem? (i := 149) rfl) rfl
theorem gw_634 : Cond.methodLink "Carcasswright" 388 ⟨"Carcasswright$Room", "cutSquares", "()J"⟩ ∈ ce_GW := gT_3 _ (List.mem_of_getElem? (i := 154) rfl) rfl
theorem gw_635 : Cond.instanceMethod ⟨"Carcasswright$Room", "cutSquares", "()J"⟩ ∈ ce_GW := gT_3 _ (List.mem_of_getElem? (i := 155) rfl) rfl
theorem gw_636 : Cond.selects "Carcasswright$Room" ⟨"Carcasswright$Room", "cutSquares", "()J"⟩ ⟨"Carcasswright$Room", "cutSquares", "()J"⟩ ∈ ce_GW := gT_3 _ (List.mem_of_getElem? (i := 156) rfl) rfl
theorem gw_637 : Cond.code ⟨"Carcasswright$Room", "cutSquares", "()J"⟩ prog_8_method_23_code 5 (Option.some Jvm.ClassFile.FieldType.long) ∈ ce_GW := gT_3 _ (List.mem_of_getElem? (i := 157) rfl) rfl
theorem gw_639 : Cond.instanceMethod ⟨"Carcasswright$Room", "moduleAt", "(I)LCarcasswright$PlacedModule;"⟩ ∈ ce_GW := gT_3 _ (List.mem_of_getElem? (i := 159) rfl) rfl
theorem gw_640 : Cond.selects "Carcasswright$Room" ⟨"Carcasswright$Room", "moduleAt", "(I)LCarcasswright$PlacedModule;"⟩ ⟨"Carcasswright$Room", "moduleAt", "(I)LCarcasswright$PlacedModule;"⟩ ∈ ce_GW := gT_3 _ (List.mem_of_getElem? (i := 160) rfl) rfl
theorem gw_641 : Cond.code ⟨"Carcasswright$Room", "moduleAt", "(I)LCarcasswright$PlacedModule;"⟩ prog_8_method_3_code 2 (Option.some (Jvm.ClassFile.FieldType.object "Carcasswright$PlacedModule")) ∈ ce_GW := gT_3 _ (List.mem_of_getElem? (i := 161) rfl) rfl
theorem gw_674 : Cond.methodLink "Carcasswright" 394 ⟨"Carcasswright$Room", "hasOnlyOwnParts", "()Z"⟩ ∈ ce_GW := gT_3 _ (List.mem_of_getElem? (i := 194) rfl) rfl
theorem gw_675 : Cond.instanceMethod ⟨"Carcasswright$Room", "hasOnlyOwnParts", "()Z"⟩ ∈ ce_GW := gT_3 _ (List.mem_of_getElem? (i := 195) rfl) rfl
theorem gw_676 : Cond.selects "Carcasswright$Room" ⟨"Carcasswright$Room", "hasOnlyOwnParts", "()Z"⟩ ⟨"Carcasswright$Room", "hasOnlyOwnParts", "()Z"⟩ ∈ ce_GW := gT_3 _ (List.mem_of_getElem? (i := 196) rfl) rfl
theorem gw_677 : Cond.code ⟨"Carcasswright$Room", "hasOnlyOwnParts", "()Z"⟩ prog_8_method_24_code 3 (Option.some Jvm.ClassFile.FieldType.boolean) ∈ ce_GW := gT_3 _ (List.mem_of_getElem? (i := 197) rfl) rfl
theorem gw_683 : Cond.methodLink "Carcasswright" 397 ⟨"Carcasswright$Room", "hasModulesInTheWay", "()Z"⟩ ∈ ce_GW := gT_3 _ (List.mem_of_getElem? (i := 203) rfl) rfl
theorem gw_684 : Cond.instanceMethod ⟨"Carcasswright$Room", "hasModulesInTheWay", "()Z"⟩ ∈ ce_GW := gT_3 _ (List.mem_of_getElem? (i := 204) rfl) rfl
theorem gw_685 : Cond.selects "Carcasswright$Room" ⟨"Carcasswright$Room", "hasModulesInTheWay", "()Z"⟩ ⟨"Carcasswright$Room", "hasModulesInTheWay", "()Z"⟩ ∈ ce_GW := gT_3 _ (List.mem_of_getElem? (i := 205) rfl) rfl
theorem gw_686 : Cond.code ⟨"Carcasswright$Room", "hasModulesInTheWay", "()Z"⟩ prog_8_method_25_code 5 (Option.some Jvm.ClassFile.FieldType.boolean) ∈ ce_GW := gT_3 _ (List.mem_of_getElem? (i := 206) rfl) rfl
theorem gw_713 : Cond.methodLink "CarcasswrightLaw" 174 ⟨"CarcasswrightLaw", "addWall", "(LCarcasswright;CI[J)I"⟩ ∈ ce_GW := gT_3 _ (List.mem_of_getElem? (i := 233) rfl) rfl
theorem gw_714 : Cond.static ⟨"CarcasswrightLaw", "addWall", "(LCarcasswright;CI[J)I"⟩ ∈ ce_GW := gT_3 _ (List.mem_of_getElem? (i := 234) rfl) rfl
theorem gw_715 : Cond.codeWith ⟨"CarcasswrightLaw", "addWall", "(LCarcasswright;CI[J)I"⟩ method_3_code 5 (Option.some Jvm.ClassFile.FieldType.int) [(0, 10, 13, 13), (0, 10, 17, 15)] ∈ ce_GW := gT_3 _ (List.mem_of_getElem? (i := 235) rfl) rfl
theorem gw_716 : Cond.classLink "CarcasswrightLaw" 13 "java/lang/IllegalArgumentException" ∈ ce_GW := gT_3 _ (List.mem_of_getElem? (i := 236) rfl) rfl
theorem gw_718 : Cond.methodLink "CarcasswrightLaw" 7 ⟨"Carcasswright", "addWall", "(CI)I"⟩ ∈ ce_GW := gT_3 _ (List.mem_of_getElem? (i := 238) rfl) rfl
theorem gw_719 : Cond.instanceMethod ⟨"Carcasswright", "addWall", "(CI)I"⟩ ∈ ce_GW := gT_3 _ (List.mem_of_getElem? (i := 239) rfl) rfl
theorem gw_720 : Cond.selects "Carcasswright" ⟨"Carcasswright", "addWall", "(CI)I"⟩ ⟨"Carcasswright", "addWall", "(CI)I"⟩ ∈ ce_GW := gT_4 _ (List.mem_of_getElem? (i := 0) rfl) rfl
theorem gw_721 : Cond.code ⟨"Carcasswright", "addWall", "(CI)I"⟩ prog_1_method_2_code 4 (Option.some Jvm.ClassFile.FieldType.int) ∈ ce_GW := gT_4 _ (List.mem_of_getElem? (i := 1) rfl) rfl
theorem gw_722 : Cond.methodLink "Carcasswright" 63 ⟨"Carcasswright", "isOutside", "(III)Z"⟩ ∈ ce_GW := gT_4 _ (List.mem_of_getElem? (i := 2) rfl) rfl
theorem gw_723 : Cond.static ⟨"Carcasswright", "isOutside", "(III)Z"⟩ ∈ ce_GW := gT_4 _ (List.mem_of_getElem? (i := 3) rfl) rfl
theorem gw_724 : Cond.code ⟨"Carcasswright", "isOutside", "(III)Z"⟩ prog_1_method_53_code 3 (Option.some Jvm.ClassFile.FieldType.boolean) ∈ ce_GW := gT_4 _ (List.mem_of_getElem? (i := 4) rfl) rfl
theorem gw_725 : Cond.classLink "Carcasswright" 67 "java/lang/IllegalArgumentException" ∈ ce_GW := gT_4 _ (List.mem_of_getElem? (i := 5) rfl) rfl
theorem gw_734 : Cond.methodLink "Carcasswright" 69 ⟨"java/lang/IllegalArgumentException", "<init>", "()V"⟩ ∈ ce_GW := gT_4 _ (List.mem_of_getElem? (i := 14) rfl) rfl
theorem gw_755 : Cond.methodLink "Carcasswright" 80 ⟨"Carcasswright$Room", "build", "(CI)I"⟩ ∈ ce_GW := gT_4 _ (List.mem_of_getElem? (i := 35) rfl) rfl
theorem gw_756 : Cond.instanceMethod ⟨"Carcasswright$Room", "build", "(CI)I"⟩ ∈ ce_GW := gT_4 _ (List.mem_of_getElem? (i := 36) rfl) rfl
theorem gw_757 : Cond.selects "Carcasswright$Room" ⟨"Carcasswright$Room", "build", "(CI)I"⟩ ⟨"Carcasswright$Room", "build", "(CI)I"⟩ ∈ ce_GW := gT_4 _ (List.mem_of_getElem? (i := 37) rfl) rfl
theorem gw_758 : Cond.code ⟨"Carcasswright$Room", "build", "(CI)I"⟩ prog_8_method_4_code 5 (Option.some Jvm.ClassFile.FieldType.int) ∈ ce_GW := gT_4 _ (List.mem_of_getElem? (i := 38) rfl) rfl
theorem gw_759 : Cond.methodLink "CarcasswrightLaw" 183 ⟨"CarcasswrightLaw", "close", "(LCarcasswright;[J)I"⟩ ∈ ce_GW := gT_4 _ (List.mem_of_getElem? (i := 39) rfl) rfl
theorem gw_760 : Cond.static ⟨"CarcasswrightLaw", "close", "(LCarcasswright;[J)I"⟩ ∈ ce_GW := gT_4 _ (List.mem_of_getElem? (i := 40) rfl) rfl
theorem gw_761 : Cond.codeWith ⟨"CarcasswrightLaw", "close", "(LCarcasswright;[J)I"⟩ method_4_code 3 (Option.some Jvm.ClassFile.FieldType.int) [(0, 8, 11, 21)] ∈ ce_GW := gT_4 _ (List.mem_of_getElem? (i := 41) rfl) rfl
theorem gw_762 : Cond.classLink "CarcasswrightLaw" 21 "java/lang/UnsupportedOperationException" ∈ ce_GW := gT_4 _ (List.mem_of_getElem? (i := 42) rfl) rfl
theorem gw_763 : Cond.methodLink "CarcasswrightLaw" 17 ⟨"Carcasswright", "close", "()I"⟩ ∈ ce_GW := gT_4 _ (List.mem_of_getElem? (i := 43) rfl) rfl
theorem gw_764 : Cond.instanceMethod ⟨"Carcasswright", "close", "()I"⟩ ∈ ce_GW := gT_4 _ (List.mem_of_getElem? (i := 44) rfl) rfl
theorem gw_765 : Cond.selects "Carcasswright" ⟨"Carcasswright", "close", "()I"⟩ ⟨"Carcasswright", "close", "()I"⟩ ∈ ce_GW := gT_4 _ (List.mem_of_getElem? (i := 45) rfl) rfl
theorem gw_766 : Cond.code ⟨"Carcasswright", "close", "()I"⟩ prog_1_method_3_code 2 (Option.some Jvm.ClassFile.FieldType.int) ∈ ce_GW := gT_4 _ (List.mem_of_getElem? (i := 46) rfl) rfl
theorem gw_775 : Cond.classLink "Carcasswright" 88 "java/lang/UnsupportedOperationException" ∈ ce_GW := gT_4 _ (List.mem_of_getElem? (i := 55) rfl) rfl
theorem gw_784 : Cond.methodLink "Carcasswright" 90 ⟨"java/lang/UnsupportedOperationException", "<init>", "()V"⟩ ∈ ce_GW := gT_4 _ (List.mem_of_getElem? (i := 64) rfl) rfl
theorem gw_807 : Cond.methodLink "CarcasswrightLaw" 187 ⟨"CarcasswrightLaw", "lengthOf", "(LCarcasswright;I[J)I"⟩ ∈ ce_GW := gT_4 _ (List.mem_of_getElem? (i := 87) rfl) rfl
theorem gw_808 : Cond.static ⟨"CarcasswrightLaw", "lengthOf", "(LCarcasswright;I[J)I"⟩ ∈ ce_GW := gT_4 _ (List.mem_of_getElem? (i := 88) rfl) rfl
theorem gw_809 : Cond.codeWith ⟨"CarcasswrightLaw", "lengthOf", "(LCarcasswright;I[J)I"⟩ method_5_code 4 (Option.some Jvm.ClassFile.FieldType.int) [(0, 9, 12, 27)] ∈ ce_GW := gT_4 _ (List.mem_of_getElem? (i := 89) rfl) rfl
theorem gw_810 : Cond.classLink "CarcasswrightLaw" 27 "java/lang/IndexOutOfBoundsException" ∈ ce_GW := gT_4 _ (List.mem_of_getElem? (i := 90) rfl) rfl
theorem gw_811 : Cond.methodLink "CarcasswrightLaw" 23 ⟨"Carcasswright", "lengthOf", "(I)I"⟩ ∈ ce_GW := gT_4 _ (List.mem_of_getElem? (i := 91) rfl) rfl
theorem gw_812 : Cond.instanceMethod ⟨"Carcasswright", "lengthOf", "(I)I"⟩ ∈ ce_GW := gT_4 _ (List.mem_of_getElem? (i := 92) rfl) rfl
theorem gw_813 : Cond.selects "Carcasswright" ⟨"Carcasswright", "lengthOf", "(I)I"⟩ ⟨"Carcasswright", "lengthOf", "(I)I"⟩ ∈ ce_GW := gT_4 _ (List.mem_of_getElem? (i := 93) rfl) rfl
theorem gw_814 : Cond.code ⟨"Carcasswright", "lengthOf", "(I)I"⟩ prog_1_method_4_code 2 (Option.some Jvm.ClassFile.FieldType.int) ∈ ce_GW := gT_4 _ (List.mem_of_getElem? (i := 94) rfl) rfl
theorem gw_815 : Cond.methodLink "Carcasswright" 107 ⟨"Carcasswright$Room", "wallAt", "(I)LCarcasswright$Wall;"⟩ ∈ ce_GW := gT_4 _ (List.mem_of_getElem? (i := 95) rfl) rfl
theorem gw_816 : Cond.methodLink "CarcasswrightLaw" 196 ⟨"CarcasswrightLaw", "setOff", "(LCarcasswright;III[J)I"⟩ ∈ ce_GW := gT_4 _ (List.mem_of_getElem? (i := 96) rfl) rfl
theorem gw_817 : Cond.static ⟨"CarcasswrightLaw", "setOff", "(LCarcasswright;III[J)I"⟩ ∈ ce_GW := gT_4 _ (List.mem_of_getElem? (i := 97) rfl) rfl
theorem gw_818 : Cond.codeWith ⟨"CarcasswrightLaw", "setOff", "(LCarcasswright;III[J)I"⟩ method_6_code 6 (Option.some Jvm.ClassFile.FieldType.int) [(0, 12, 15, 27), (0, 12, 19, 13)] ∈ ce_GW := gT_4 _ (List.mem_of_getElem? (i := 98) rfl) rfl
theorem gw_819 : Cond.methodLink "CarcasswrightLaw" 29 ⟨"Carcasswright", "setOff", "(III)I"⟩ ∈ ce_GW := gT_4 _ (List.mem_of_getElem? (i := 99) rfl) rfl
theorem gw_820 : Cond.instanceMethod ⟨"Carcasswright", "setOff", "(III)I"⟩ ∈ ce_GW := gT_4 _ (List.mem_of_getElem? (i := 100) rfl) rfl
theorem gw_821 : Cond.selects "Carcasswright" ⟨"Carcasswright", "setOff", "(III)I"⟩ ⟨"Carcasswright", "setOff", "(III)I"⟩ ∈ ce_GW := gT_4 _ (List.mem_of_getElem? (i := 101) rfl) rfl
theorem gw_822 : Cond.code ⟨"Carcasswright", "setOff", "(III)I"⟩ prog_1_method_6_code 6 (Option.some Jvm.ClassFile.FieldType.int) ∈ ce_GW := gT_4 _ (List.mem_of_getElem? (i := 102) rfl) rfl
theorem gw_823 : Cond.methodLink "CarcasswrightLaw" 200 ⟨"CarcasswrightLaw", "obstacle", "(LCarcasswright;IIIII[J)I"⟩ ∈ ce_GW := gT_4 _ (List.mem_of_getElem? (i := 103) rfl) rfl
theorem gw_824 : Cond.static ⟨"CarcasswrightLaw", "obstacle", "(LCarcasswright;IIIII[J)I"⟩ ∈ ce_GW := gT_4 _ (List.mem_of_getElem? (i := 104) rfl) rfl
theorem gw_825 : Cond.codeWith ⟨"CarcasswrightLaw", "obstacle", "(LCarcasswright;IIIII[J)I"⟩ method_7_code 8 (Option.some Jvm.ClassFile.FieldType.int) [(0, 16, 19, 27), (0, 16, 23, 13), (0, 16, 27, 15)] ∈ ce_GW := gT_4 _ (List.mem_of_getElem? (i := 105) rfl) rfl
theorem gw_826 : Cond.methodLink "CarcasswrightLaw" 33 ⟨"Carcasswright", "obstacle", "(IIIII)I"⟩ ∈ ce_GW := gT_4 _ (List.mem_of_getElem? (i := 106) rfl) rfl
theorem gw_827 : Cond.instanceMethod ⟨"Carcasswright", "obstacle", "(IIIII)I"⟩ ∈ ce_GW := gT_4 _ (List.mem_of_getElem? (i := 107) rfl) rfl
theorem gw_828 : Cond.selects "Carcasswright" ⟨"Carcasswright", "obstacle", "(IIIII)I"⟩ ⟨"Carcasswright", "obstacle", "(IIIII)I"⟩ ∈ ce_GW := gT_4 _ (List.mem_of_getElem? (i := 108) rfl) rfl
theorem gw_829 : Cond.code ⟨"Carcasswright", "obstacle", "(IIIII)I"⟩ prog_1_method_7_code 6 (Option.some Jvm.ClassFile.FieldType.int) ∈ ce_GW := gT_4 _ (List.mem_of_getElem? (i := 109) rfl) rfl
theorem gw_834 : Cond.methodLink "CarcasswrightLaw" 204 ⟨"CarcasswrightLaw", "type", "(LCarcasswright;C[J)I"⟩ ∈ ce_GW := gT_4 _ (List.mem_of_getElem? (i := 114) rfl) rfl
theorem gw_835 : Cond.static ⟨"CarcasswrightLaw", "type", "(LCarcasswright;C[J)I"⟩ ∈ ce_GW := gT_4 _ (List.mem_of_getElem? (i := 115) rfl) rfl
theorem gw_836 : Cond.codeWith ⟨"CarcasswrightLaw", "type", "(LCarcasswright;C[J)I"⟩ method_8_code 4 (Option.some Jvm.ClassFile.FieldType.int) [(0, 9, 12, 15)] ∈ ce_GW := gT_4 _ (List.mem_of_getElem? (i := 116) rfl) rfl
theorem gw_837 : Cond.methodLink "CarcasswrightLaw" 37 ⟨"Carcasswright", "type", "(C)I"⟩ ∈ ce_GW := gT_4 _ (List.mem_of_getElem? (i := 117) rfl) rfl
theorem gw_838 : Cond.instanceMethod ⟨"Carcasswright", "type", "(C)I"⟩ ∈ ce_GW := gT_4 _ (List.mem_of_getElem? (i := 118) rfl) rfl
theorem gw_839 : Cond.selects "Carcasswright" ⟨"Carcasswright", "type", "(C)I"⟩ ⟨"Carcasswright", "type", "(C)I"⟩ ∈ ce_GW := gT_4 _ (List.mem_of_getElem? (i := 119) rfl) rfl
theorem gw_840 : Cond.code ⟨"Carcasswright", "type", "(C)I"⟩ prog_1_method_8_code 2 (Option.some Jvm.ClassFile.FieldType.int) ∈ ce_GW := gT_4 _ (List.mem_of_getElem? (i := 120) rfl) rfl
theorem gw_841 : Cond.methodLink "Carcasswright" 135 ⟨"Carcasswright$Types", "append", "(C)I"⟩ ∈ ce_GW := gT_4 _ (List.mem_of_getElem? (i := 121) rfl) rfl
theorem gw_842 : Cond.instanceMethod ⟨"Carcasswright$Types", "append", "(C)I"⟩ ∈ ce_GW := gT_4 _ (List.mem_of_getElem? (i := 122) rfl) rfl
theorem gw_843 : Cond.selects "Carcasswright$Types" ⟨"Carcasswright$Types", "append", "(C)I"⟩ ⟨"Carcasswright$Types", "append", "(C)I"⟩ ∈ ce_GW := gT_4 _ (List.mem_of_getElem? (i := 123) rfl) rfl
theorem gw_844 : Cond.code ⟨"Carcasswright$Types", "append", "(C)I"⟩ prog_11_method_4_code 2 (Option.some Jvm.ClassFile.FieldType.int) ∈ ce_GW := gT_4 _ (List.mem_of_getElem? (i := 124) rfl) rfl
theorem gw_845 : Cond.methodLink "CarcasswrightLaw" 212 ⟨"CarcasswrightLaw", "fault", "(LCarcasswright;[J)I"⟩ ∈ ce_GW := gT_4 _ (List.mem_of_getElem? (i := 125) rfl) rfl
theorem gw_846 : Cond.static ⟨"CarcasswrightLaw", "fault", "(LCarcasswright;[J)I"⟩ ∈ ce_GW := gT_4 _ (List.mem_of_getElem? (i := 126) rfl) rfl
theorem gw_847 : Cond.codeWith ⟨"CarcasswrightLaw", "fault", "(LCarcasswright;[J)I"⟩ method_9_code 3 (Option.some Jvm.ClassFile.FieldType.int) [(0, 8, 11, 44)] ∈ ce_GW := gT_4 _ (List.mem_of_getElem? (i := 127) rfl) rfl
theorem gw_848 : Cond.classLink "CarcasswrightLaw" 44 "java/util/NoSuchElementException" ∈ ce_GW := gT_4 _ (List.mem_of_getElem? (i := 128) rfl) rfl
theorem gw_849 : Cond.methodLink "CarcasswrightLaw" 41 ⟨"Carcasswright", "fault", "()I"⟩ ∈ ce_GW := gT_4 _ (List.mem_of_getElem? (i := 129) rfl) rfl
theorem gw_850 : Cond.instanceMethod ⟨"Carcasswright", "fault", "()I"⟩ ∈ ce_GW := gT_4 _ (List.mem_of_getElem? (i := 130) rfl) rfl
theorem gw_851 : Cond.selects "Carcasswright" ⟨"Carcasswright", "fault", "()I"⟩ ⟨"Carcasswright", "fault", "()I"⟩ ∈ ce_GW := gT_4 _ (List.mem_of_getElem? (i := 131) rfl) rfl
theorem gw_852 : Cond.code ⟨"Carcasswright", "fault", "()I"⟩ prog_1_method_10_code 1 (Option.some Jvm.ClassFile.FieldType.int) ∈ ce_GW := gT_4 _ (List.mem_of_getElem? (i := 132) rfl) rfl
theorem gw_853 : Cond.methodLink "Carcasswright" 143 ⟨"Carcasswright$Types", "read", "()V"⟩ ∈ ce_GW := gT_4 _ (List.mem_of_getElem? (i := 133) rfl) rfl
theorem gw_854 : Cond.instanceMethod ⟨"Carcasswright$Types", "read", "()V"⟩ ∈ ce_GW := gT_4 _ (List.mem_of_getElem? (i := 134) rfl) rfl
theorem gw_855 : Cond.selects "Carcasswright$Types" ⟨"Carcasswright$Types", "read", "()V"⟩ ⟨"Carcasswright$Types", "read", "()V"⟩ ∈ ce_GW := gT_4 _ (List.mem_of_getElem? (i := 135) rfl) rfl
theorem gw_856 : Cond.code ⟨"Carcasswright$Types", "read", "()V"⟩ prog_11_method_8_code 2 Option.none ∈ ce_GW := gT_4 _ (List.mem_of_getElem? (i := 136) rfl) rfl
theorem gw_857 : Cond.methodLink "Carcasswright$Types" 50 ⟨"Carcasswright$ModuleType", "reset", "(C)V"⟩ ∈ ce_GW := gT_4 _ (List.mem_of_getElem? (i := 137) rfl) rfl
theorem gw_858 : Cond.instanceMethod ⟨"Carcasswright$ModuleType", "reset", "(C)V"⟩ ∈ ce_GW := gT_4 _ (List.mem_of_getElem? (i := 138) rfl) rfl
theorem gw_859 : Cond.selects "Carcasswright$ModuleType" ⟨"Carcasswright$ModuleType", "reset", "(C)V"⟩ ⟨"Carcasswright$ModuleType", "reset", "(C)V"⟩ ∈ ce_GW := gT_4 _ (List.mem_of_getElem? (i := 139) rfl) rfl
theorem gw_860 : Cond.code ⟨"Carcasswright$ModuleType", "reset", "(C)V"⟩ prog_4_method_2_code 2 Option.none ∈ ce_GW := gT_4 _ (List.mem_of_getElem? (i := 140) rfl) rfl
theorem gw_861 : Cond.methodLink "Carcasswright$Types" 60 ⟨"Carcasswright$Types", "hasFault", "()Z"⟩ ∈ ce_GW := gT_4 _ (List.mem_of_getElem? (i := 141) rfl) rfl
theorem gw_862 : Cond.instanceMethod ⟨"Carcasswright$Types", "hasFault", "()Z"⟩ ∈ ce_GW := gT_4 _ (List.mem_of_getElem? (i := 142) rfl) rfl
theorem gw_863 : Cond.selects "Carcasswright$Types" ⟨"Carcasswright$Types", "hasFault", "()Z"⟩ ⟨"Carcasswright$Types", "hasFault", "()Z"⟩ ∈ ce_GW := gT_4 _ (List.mem_of_getElem? (i := 143) rfl) rfl
theorem gw_864 : Cond.code ⟨"Carcasswright$Types", "hasFault", "()Z"⟩ prog_11_method_7_code 1 (Option.some Jvm.ClassFile.FieldType.boolean) ∈ ce_GW := gT_4 _ (List.mem_of_getElem? (i := 144) rfl) rfl
theorem gw_878 : Cond.instanceMethod ⟨"Carcasswright$Types", "typeAt", "(I)LCarcasswright$ModuleType;"⟩ ∈ ce_GW := gT_4 _ (List.mem_of_getElem? (i := 158) rfl) rfl
theorem gw_879 : Cond.selects "Carcasswright$Types" ⟨"Carcasswright$Types", "typeAt", "(I)LCarcasswright$ModuleType;"⟩ ⟨"Carcasswright$Types", "typeAt", "(I)LCarcasswright$ModuleType;"⟩ ∈ ce_GW := gT_4 _ (List.mem_of_getElem? (i := 159) rfl) rfl
theorem gw_880 : Cond.code ⟨"Carcasswright$Types", "typeAt", "(I)LCarcasswright$ModuleType;"⟩ prog_11_method_3_code 2 (Option.some (Jvm.ClassFile.FieldType.object "Carcasswright$ModuleType")) ∈ ce_GW := gT_4 _ (List.mem_of_getElem? (i := 160) rfl) rfl
theorem gw_881 : Cond.classLink "Carcasswright$Types" 28 "java/lang/IndexOutOfBoundsException" ∈ ce_GW := gT_4 _ (List.mem_of_getElem? (i := 161) rfl) rfl
theorem gw_882 : Cond.methodLink "Carcasswright$Types" 30 ⟨"java/lang/IndexOutOfBoundsException", "<init>", "()V"⟩ ∈ ce_GW := gT_4 _ (List.mem_of_getElem? (i := 162) rfl) rfl
theorem gw_903 : Cond.methodLink "Carcasswright$Types" 68 ⟨"Carcasswright$Types", "fail", "(IC)V"⟩ ∈ ce_GW := gT_4 _ (List.mem_of_getElem? (i := 183) rfl) rfl
theorem gw_904 : Cond.instanceMethod ⟨"Carcasswright$Types", "fail", "(IC)V"⟩ ∈ ce_GW := gT_4 _ (List.mem_of_getElem? (i := 184) rfl) rfl
theorem gw_905 : Cond.selects "Carcasswright$Types" ⟨"Carcasswright$Types", "fail", "(IC)V"⟩ ⟨"Carcasswright$Types", "fail", "(IC)V"⟩ ∈ ce_GW := gT_4 _ (List.mem_of_getElem? (i := 185) rfl) rfl
theorem gw_906 : Cond.code ⟨"Carcasswright$Types", "fail", "(IC)V"⟩ prog_11_method_9_code 3 Option.none ∈ ce_GW := gT_4 _ (List.mem_of_getElem? (i := 186) rfl) rfl
theorem gw_911 : Cond.methodLink "Carcasswright" 146 ⟨"Carcasswright$Types", "hasFault", "()Z"⟩ ∈ ce_GW := gT_4 _ (List.mem_of_getElem? (i := 191) rfl) rfl
theorem gw_912 : Cond.classLink "Carcasswright" 149 "java/util/NoSuchElementException" ∈ ce_GW := gT_4 _ (List.mem_of_getElem? (i := 192) rfl) rfl
theorem gw_921 : Cond.methodLink "Carcasswright" 151 ⟨"java/util/NoSuchElementException", "<init>", "()V"⟩ ∈ ce_GW := gT_4 _ (List.mem_of_getElem? (i := 201) rfl) rfl
theorem gw_927 : Cond.methodLink "CarcasswrightLaw" 215 ⟨"CarcasswrightLaw", "faultKind", "(LCarcasswright;[J)I"⟩ ∈ ce_GW := gT_4 _ (List.mem_of_getElem? (i := 207) rfl) rfl
theorem gw_928 : Cond.static ⟨"CarcasswrightLaw", "faultKind", "(LCarcasswright;[J)I"⟩ ∈ ce_GW := gT_4 _ (List.mem_of_getElem? (i := 208) rfl) rfl
theorem gw_929 : Cond.codeWith ⟨"CarcasswrightLaw", "faultKind", "(LCarcasswright;[J)I"⟩ method_10_code 3 (Option.some Jvm.ClassFile.FieldType.int) [(0, 8, 11, 44)] ∈ ce_GW := gT_4 _ (List.mem_of_getElem? (i := 209) rfl) rfl
theorem gw_930 : Cond.methodLink "CarcasswrightLaw" 46 ⟨"Carcasswright", "faultKind", "()C"⟩ ∈ ce_GW := gT_4 _ (List.mem_of_getElem? (i := 210) rfl) rfl
theorem gw_931 : Cond.instanceMethod ⟨"Carcasswright", "faultKind", "()C"⟩ ∈ ce_GW := gT_4 _ (List.mem_of_getElem? (i := 211) rfl) rfl
theorem gw_932 : Cond.selects "Carcasswright" ⟨"Carcasswright", "faultKind", "()C"⟩ ⟨"Carcasswright", "faultKind", "()C"⟩ ∈ ce_GW := gT_4 _ (List.mem_of_getElem? (i := 212) rfl) rfl
theorem gw_933 : Cond.code ⟨"Carcasswright", "faultKind", "()C"⟩ prog_1_method_11_code 1 (Option.some Jvm.ClassFile.FieldType.char) ∈ ce_GW := gT_4 _ (List.mem_of_getElem? (i := 213) rfl) rfl
theorem gw_934 : Cond.methodLink "CarcasswrightLaw" 218 ⟨"CarcasswrightLaw", "addType", "(LCarcasswright;[J)I"⟩ ∈ ce_GW := gT_4 _ (List.mem_of_getElem? (i := 214) rfl) rfl
theorem gw_935 : Cond.static ⟨"CarcasswrightLaw", "addType", "(LCarcasswright;[J)I"⟩ ∈ ce_GW := gT_4 _ (List.mem_of_getElem? (i := 215) rfl) rfl
theorem gw_936 : Cond.codeWith ⟨"CarcasswrightLaw", "addType", "(LCarcasswright;[J)I"⟩ method_11_code 3 (Option.some Jvm.ClassFile.FieldType.int) [(0, 8, 11, 13), (0, 8, 14, 15)] ∈ ce_GW := gT_4 _ (List.mem_of_getElem? (i := 216) rfl) rfl
theorem gw_937 : Cond.methodLink "CarcasswrightLaw" 50 ⟨"Carcasswright", "addType", "()I"⟩ ∈ ce_GW := gT_4 _ (List.mem_of_getElem? (i := 217) rfl) rfl
theorem gw_938 : Cond.instanceMethod ⟨"Carcasswright", "addType", "()I"⟩ ∈ ce_GW := gT_4 _ (List.mem_of_getElem? (i := 218) rfl) rfl
theorem gw_939 : Cond.selects "Carcasswright" ⟨"Carcasswright", "addType", "()I"⟩ ⟨"Carcasswright", "addType", "()I"⟩ ∈ ce_GW := gT_4 _ (List.mem_of_getElem? (i := 219) rfl) rfl
theorem gw_940 : Cond.code ⟨"Carcasswright", "addType", "()I"⟩ prog_1_method_12_code 1 (Option.some Jvm.ClassFile.FieldType.int) ∈ ce_GW := gT_4 _ (List.mem_of_getElem? (i := 220) rfl) rfl
theorem gw_946 : Cond.methodLink "CarcasswrightLaw" 221 ⟨"CarcasswrightLaw", "told", "(LCarcasswright;IC[J)I"⟩ ∈ ce_GW := gT_4 _ (List.mem_of_getElem? (i := 226) rfl) rfl
theorem gw_947 : Cond.static ⟨"CarcasswrightLaw", "told", "(LCarcasswright;IC[J)I"⟩ ∈ ce_GW := gT_4 _ (List.mem_of_getElem? (i := 227) rfl) rfl
theorem gw_948 : Cond.codeWith ⟨"CarcasswrightLaw", "told", "(LCarcasswright;IC[J)I"⟩ method_12_code 5 (Option.some Jvm.ClassFile.FieldType.int) [(0, 10, 13, 27), (0, 10, 17, 13)] ∈ ce_GW := gT_4 _ (List.mem_of_getElem? (i := 228) rfl) rfl
theorem gw_949 : Cond.methodLink "CarcasswrightLaw" 53 ⟨"Carcasswright", "told", "(IC)I"⟩ ∈ ce_GW := gT_4 _ (List.mem_of_getElem? (i := 229) rfl) rfl
theorem gw_950 : Cond.instanceMethod ⟨"Carcasswright", "told", "(IC)I"⟩ ∈ ce_GW := gT_4 _ (List.mem_of_getElem? (i := 230) rfl) rfl
theorem gw_951 : Cond.selects "Carcasswright" ⟨"Carcasswright", "told", "(IC)I"⟩ ⟨"Carcasswright", "told", "(IC)I"⟩ ∈ ce_GW := gT_4 _ (List.mem_of_getElem? (i := 231) rfl) rfl
theorem gw_952 : Cond.code ⟨"Carcasswright", "told", "(IC)I"⟩ prog_1_method_13_code 4 (Option.some Jvm.ClassFile.FieldType.int) ∈ ce_GW := gT_4 _ (List.mem_of_getElem? (i := 232) rfl) rfl
theorem gw_953 : Cond.methodLink "Carcasswright" 165 ⟨"Carcasswright$Types", "typeAt", "(I)LCarcasswright$ModuleType;"⟩ ∈ ce_GW := gT_4 _ (List.mem_of_getElem? (i := 233) rfl) rfl
theorem gw_954 : Cond.methodLink "CarcasswrightLaw" 225 ⟨"CarcasswrightLaw", "place", "(LCarcasswright;IIII[J)I"⟩ ∈ ce_GW := gT_4 _ (List.mem_of_getElem? (i := 234) rfl) rfl
theorem gw_955 : Cond.static ⟨"CarcasswrightLaw", "place", "(LCarcasswright;IIII[J)I"⟩ ∈ ce_GW := gT_4 _ (List.mem_of_getElem? (i := 235) rfl) rfl
theorem gw_956 : Cond.codeWith ⟨"CarcasswrightLaw", "place", "(LCarcasswright;IIII[J)I"⟩ method_13_code 7 (Option.some Jvm.ClassFile.FieldType.int) [(0, 14, 17, 27), (0, 14, 21, 13), (0, 14, 25, 15), (0, 14, 29, 21)] ∈ ce_GW := gT_4 _ (List.mem_of_getElem? (i := 236) rfl) rfl
theorem gw_957 : Cond.methodLink "CarcasswrightLaw" 57 ⟨"Carcasswright", "place", "(IIII)I"⟩ ∈ ce_GW := gT_4 _ (List.mem_of_getElem? (i := 237) rfl) rfl
theorem gw_958 : Cond.instanceMethod ⟨"Carcasswright", "place", "(IIII)I"⟩ ∈ ce_GW := gT_4 _ (List.mem_of_getElem? (i := 238) rfl) rfl
theorem gw_959 : Cond.selects "Carcasswright" ⟨"Carcasswright", "place", "(IIII)I"⟩ ⟨"Carcasswright", "place", "(IIII)I"⟩ ∈ ce_GW := gT_4 _ (List.mem_of_getElem? (i := 239) rfl) rfl
theorem gw_960 : Cond.code ⟨"Carcasswright", "place", "(IIII)I"⟩ prog_1_method_14_code 6 (Option.some Jvm.ClassFile.FieldType.int) ∈ ce_GW := gT_5 _ (List.mem_of_getElem? (i := 0) rfl) rfl
theorem gw_961 : Cond.methodLink "Carcasswright" 186 ⟨"Carcasswright", "isNoColour", "(I)Z"⟩ ∈ ce_GW := gT_5 _ (List.mem_of_getElem? (i := 1) rfl) rfl
theorem gw_962 : Cond.static ⟨"Carcasswright", "isNoColour", "(I)Z"⟩ ∈ ce_GW := gT_5 _ (List.mem_of_getElem? (i := 2) rfl) rfl
theorem gw_963 : Cond.code ⟨"Carcasswright", "isNoColour", "(I)Z"⟩ prog_1_method_54_code 1 (Option.some Jvm.ClassFile.FieldType.boolean) ∈ ce_GW := gT_5 _ (List.mem_of_getElem? (i := 3) rfl) rfl
theorem gw_997 : Cond.methodLink "CarcasswrightLaw" 229 ⟨"CarcasswrightLaw", "shift", "(LCarcasswright;II[J)I"⟩ ∈ ce_GW := gT_5 _ (List.mem_of_getElem? (i := 37) rfl) rfl
theorem gw_998 : Cond.static ⟨"CarcasswrightLaw", "shift", "(LCarcasswright;II[J)I"⟩ ∈ ce_GW := gT_5 _ (List.mem_of_getElem? (i := 38) rfl) rfl
theorem gw_999 : Cond.codeWith ⟨"CarcasswrightLaw", "shift", "(LCarcasswright;II[J)I"⟩ method_14_code 5 (Option.some Jvm.ClassFile.FieldType.int) [(0, 10, 13, 27), (0, 10, 17, 13), (0, 10, 21, 21)] ∈ ce_GW := gT_5 _ (List.mem_of_getElem? (i := 39) rfl) rfl
theorem gw_1000 : Cond.methodLink "CarcasswrightLaw" 61 ⟨"Carcasswright", "shift", "(II)I"⟩ ∈ ce_GW := gT_5 _ (List.mem_of_getElem? (i := 40) rfl) rfl
theorem gw_1001 : Cond.instanceMethod ⟨"Carcasswright", "shift", "(II)I"⟩ ∈ ce_GW := gT_5 _ (List.mem_of_getElem? (i := 41) rfl) rfl
theorem gw_1002 : Cond.selects "Carcasswright" ⟨"Carcasswright", "shift", "(II)I"⟩ ⟨"Carcasswright", "shift", "(II)I"⟩ ∈ ce_GW := gT_5 _ (List.mem_of_getElem? (i := 42) rfl) rfl
theorem gw_1003 : Cond.code ⟨"Carcasswright", "shift", "(II)I"⟩ prog_1_method_15_code 5 (Option.some Jvm.ClassFile.FieldType.int) ∈ ce_GW := gT_5 _ (List.mem_of_getElem? (i := 43) rfl) rfl
theorem gw_1004 : Cond.methodLink "Carcasswright" 198 ⟨"Carcasswright$Room", "moduleAt", "(I)LCarcasswright$PlacedModule;"⟩ ∈ ce_GW := gT_5 _ (List.mem_of_getElem? (i := 44) rfl) rfl
theorem gw_1005 : Cond.methodLink "CarcasswrightLaw" 233 ⟨"CarcasswrightLaw", "change", "(LCarcasswright;II[J)I"⟩ ∈ ce_GW := gT_5 _ (List.mem_of_getElem? (i := 45) rfl) rfl
theorem gw_1006 : Cond.static ⟨"CarcasswrightLaw", "change", "(LCarcasswright;II[J)I"⟩ ∈ ce_GW := gT_5 _ (List.mem_of_getElem? (i := 46) rfl) rfl
theorem gw_1007 : Cond.codeWith ⟨"CarcasswrightLaw", "change", "(LCarcasswright;II[J)I"⟩ method_15_code 5 (Option.some Jvm.ClassFile.FieldType.int) [(0, 10, 13, 27), (0, 10, 17, 21)] ∈ ce_GW := gT_5 _ (List.mem_of_getElem? (i := 47) rfl) rfl
theorem gw_1008 : Cond.methodLink "CarcasswrightLaw" 65 ⟨"Carcasswright", "change", "(II)I"⟩ ∈ ce_GW := gT_5 _ (List.mem_of_getElem? (i := 48) rfl) rfl
theorem gw_1009 : Cond.instanceMethod ⟨"Carcasswright", "change", "(II)I"⟩ ∈ ce_GW := gT_5 _ (List.mem_of_getElem? (i := 49) rfl) rfl
theorem gw_1010 : Cond.selects "Carcasswright" ⟨"Carcasswright", "change", "(II)I"⟩ ⟨"Carcasswright", "change", "(II)I"⟩ ∈ ce_GW := gT_5 _ (List.mem_of_getElem? (i := 50) rfl) rfl
theorem gw_1011 : Cond.code ⟨"Carcasswright", "change", "(II)I"⟩ prog_1_method_16_code 9 (Option.some Jvm.ClassFile.FieldType.int) ∈ ce_GW := gT_5 _ (List.mem_of_getElem? (i := 51) rfl) rfl
theorem gw_1025 : Cond.methodLink "CarcasswrightLaw" 236 ⟨"CarcasswrightLaw", "clash", "(LCarcasswright;I[J)I"⟩ ∈ ce_GW := gT_5 _ (List.mem_of_getElem? (i := 65) rfl) rfl
theorem gw_1026 : Cond.static ⟨"CarcasswrightLaw", "clash", "(LCarcasswright;I[J)I"⟩ ∈ ce_GW := gT_5 _ (List.mem_of_getElem? (i := 66) rfl) rfl
theorem gw_1027 : Cond.codeWith ⟨"CarcasswrightLaw", "clash", "(LCarcasswright;I[J)I"⟩ method_16_code 4 (Option.some Jvm.ClassFile.FieldType.int) [(0, 9, 12, 44)] ∈ ce_GW := gT_5 _ (List.mem_of_getElem? (i := 67) rfl) rfl
theorem gw_1028 : Cond.methodLink "CarcasswrightLaw" 68 ⟨"Carcasswright", "clash", "(I)C"⟩ ∈ ce_GW := gT_5 _ (List.mem_of_getElem? (i := 68) rfl) rfl
theorem gw_1029 : Cond.instanceMethod ⟨"Carcasswright", "clash", "(I)C"⟩ ∈ ce_GW := gT_5 _ (List.mem_of_getElem? (i := 69) rfl) rfl
theorem gw_1030 : Cond.selects "Carcasswright" ⟨"Carcasswright", "clash", "(I)C"⟩ ⟨"Carcasswright", "clash", "(I)C"⟩ ∈ ce_GW := gT_5 _ (List.mem_of_getElem? (i := 70) rfl) rfl
theorem gw_1031 : Cond.code ⟨"Carcasswright", "clash", "(I)C"⟩ prog_1_method_17_code 2 (Option.some Jvm.ClassFile.FieldType.char) ∈ ce_GW := gT_5 _ (List.mem_of_getElem? (i := 71) rfl) rfl
theorem gw_1032 : Cond.methodLink "CarcasswrightLaw" 239 ⟨"CarcasswrightLaw", "clashNumber", "(LCarcasswright;I[J)I"⟩ ∈ ce_GW := gT_5 _ (List.mem_of_getElem? (i := 72) rfl) rfl
theorem gw_1033 : Cond.static ⟨"CarcasswrightLaw", "clashNumber", "(LCarcasswright;I[J)I"⟩ ∈ ce_GW := gT_5 _ (List.mem_of_getElem? (i := 73) rfl) rfl
theorem gw_1034 : Cond.codeWith ⟨"CarcasswrightLaw", "clashNumber", "(LCarcasswright;I[J)I"⟩ method_17_code 4 (Option.some Jvm.ClassFile.FieldType.int) [(0, 9, 12, 44)] ∈ ce_GW := gT_5 _ (List.mem_of_getElem? (i := 74) rfl) rfl
theorem gw_1035 : Cond.methodLink "CarcasswrightLaw" 72 ⟨"Carcasswright", "clashNumber", "(I)I"⟩ ∈ ce_GW := gT_5 _ (List.mem_of_getElem? (i := 75) rfl) rfl
theorem gw_1036 : Cond.instanceMethod ⟨"Carcasswright", "clashNumber", "(I)I"⟩ ∈ ce_GW := gT_5 _ (List.mem_of_getElem? (i := 76) rfl) rfl
theorem gw_1037 : Cond.selects "Carcasswright" ⟨"Carcasswright", "clashNumber", "(I)I"⟩ ⟨"Carcasswright", "clashNumber", "(I)I"⟩ ∈ ce_GW := gT_5 _ (List.mem_of_getElem? (i := 77) rfl) rfl
theorem gw_1038 : Cond.code ⟨"Carcasswright", "clashNumber", "(I)I"⟩ prog_1_method_18_code 2 (Option.some Jvm.ClassFile.FieldType.int) ∈ ce_GW := gT_5 _ (List.mem_of_getElem? (i := 78) rfl) rfl
theorem gw_1039 : Cond.methodLink "CarcasswrightLaw" 242 ⟨"CarcasswrightLaw", "from", "(LCarcasswright;I[J)I"⟩ ∈ ce_GW := gT_5 _ (List.mem_of_getElem? (i := 79) rfl) rfl
theorem gw_1040 : Cond.static ⟨"CarcasswrightLaw", "from", "(LCarcasswright;I[J)I"⟩ ∈ ce_GW := gT_5 _ (List.mem_of_getElem? (i := 80) rfl) rfl
theorem gw_1041 : Cond.codeWith ⟨"CarcasswrightLaw", "from", "(LCarcasswright;I[J)I"⟩ method_18_code 4 (Option.some Jvm.ClassFile.FieldType.int) [(0, 9, 12, 27)] ∈ ce_GW := gT_5 _ (List.mem_of_getElem? (i := 81) rfl) rfl
theorem gw_1042 : Cond.methodLink "CarcasswrightLaw" 75 ⟨"Carcasswright", "from", "(I)I"⟩ ∈ ce_GW := gT_5 _ (List.mem_of_getElem? (i := 82) rfl) rfl
theorem gw_1043 : Cond.instanceMethod ⟨"Carcasswright", "from", "(I)I"⟩ ∈ ce_GW := gT_5 _ (List.mem_of_getElem? (i := 83) rfl) rfl
theorem gw_1044 : Cond.selects "Carcasswright" ⟨"Carcasswright", "from", "(I)I"⟩ ⟨"Carcasswright", "from", "(I)I"⟩ ∈ ce_GW := gT_5 _ (List.mem_of_getElem? (i := 84) rfl) rfl
theorem gw_1045 : Cond.code ⟨"Carcasswright", "from", "(I)I"⟩ prog_1_method_19_code 2 (Option.some Jvm.ClassFile.FieldType.int) ∈ ce_GW := gT_5 _ (List.mem_of_getElem? (i := 85) rfl) rfl
theorem gw_1046 : Cond.methodLink "CarcasswrightLaw" 245 ⟨"CarcasswrightLaw", "free", "(LCarcasswright;IZ[J)I"⟩ ∈ ce_GW := gT_5 _ (List.mem_of_getElem? (i := 86) rfl) rfl
theorem gw_1047 : Cond.static ⟨"CarcasswrightLaw", "free", "(LCarcasswright;IZ[J)I"⟩ ∈ ce_GW := gT_5 _ (List.mem_of_getElem? (i := 87) rfl) rfl
theorem gw_1048 : Cond.codeWith ⟨"CarcasswrightLaw", "free", "(LCarcasswright;IZ[J)I"⟩ method_19_code 5 (Option.some Jvm.ClassFile.FieldType.int) [(0, 10, 13, 27)] ∈ ce_GW := gT_5 _ (List.mem_of_getElem? (i := 88) rfl) rfl
theorem gw_1049 : Cond.methodLink "CarcasswrightLaw" 78 ⟨"Carcasswright", "free", "(IZ)I"⟩ ∈ ce_GW := gT_5 _ (List.mem_of_getElem? (i := 89) rfl) rfl
theorem gw_1050 : Cond.instanceMethod ⟨"Carcasswright", "free", "(IZ)I"⟩ ∈ ce_GW := gT_5 _ (List.mem_of_getElem? (i := 90) rfl) rfl
theorem gw_1051 : Cond.selects "Carcasswright" ⟨"Carcasswright", "free", "(IZ)I"⟩ ⟨"Carcasswright", "free", "(IZ)I"⟩ ∈ ce_GW := gT_5 _ (List.mem_of_getElem? (i := 91) rfl) rfl
theorem gw_1052 : Cond.code ⟨"Carcasswright", "free", "(IZ)I"⟩ prog_1_method_20_code 3 (Option.some Jvm.ClassFile.FieldType.int) ∈ ce_GW := gT_5 _ (List.mem_of_getElem? (i := 92) rfl) rfl
theorem gw_1053 : Cond.methodLink "Carcasswright" 245 ⟨"Carcasswright$Room", "freeRows", "(IZZ)I"⟩ ∈ ce_GW := gT_5 _ (List.mem_of_getElem? (i := 93) rfl) rfl
theorem gw_1054 : Cond.instanceMethod ⟨"Carcasswright$Room", "freeRows", "(IZZ)I"⟩ ∈ ce_GW := gT_5 _ (List.mem_of_getElem? (i := 94) rfl) rfl
theorem gw_1055 : Cond.selects "Carcasswright$Room" ⟨"Carcasswright$Room", "freeRows", "(IZZ)I"⟩ ⟨"Carcasswright$Room", "freeRows", "(IZZ)I"⟩ ∈ ce_GW := gT_5 _ (List.mem_of_getElem? (i := 95) rfl) rfl
theorem gw_1056 : Cond.code ⟨"Carcasswright$Room", "freeRows", "(IZZ)I"⟩ prog_8_method_21_code 11 (Option.some Jvm.ClassFile.FieldType.int) ∈ ce_GW := gT_5 _ (List.mem_of_getElem? (i := 96) rfl) rfl
theorem gw_1061 : Cond.methodLink "CarcasswrightLaw" 249 ⟨"CarcasswrightLaw", "widest", "(LCarcasswright;IZ[J)I"⟩ ∈ ce_GW := gT_5 _ (List.mem_of_getElem? (i := 101) rfl) rfl
theorem gw_1062 : Cond.static ⟨"CarcasswrightLaw", "widest", "(LCarcasswright;IZ[J)I"⟩ ∈ ce_GW := gT_5 _ (List.mem_of_getElem? (i := 102) rfl) rfl
theorem gw_1063 : Cond.codeWith ⟨"CarcasswrightLaw", "widest", "(LCarcasswright;IZ[J)I"⟩ method_20_code 5 (Option.some Jvm.ClassFile.FieldType.int) [(0, 10, 13, 27)] ∈ ce_GW := gT_5 _ (List.mem_of_getElem? (i := 103) rfl) rfl
theorem gw_1064 : Cond.methodLink "CarcasswrightLaw" 82 ⟨"Carcasswright", "widest", "(IZ)I"⟩ ∈ ce_GW := gT_5 _ (List.mem_of_getElem? (i := 104) rfl) rfl
theorem gw_1065 : Cond.instanceMethod ⟨"Carcasswright", "widest", "(IZ)I"⟩ ∈ ce_GW := gT_5 _ (List.mem_of_getElem? (i := 105) rfl) rfl
theorem gw_1066 : Cond.selects "Carcasswright" ⟨"Carcasswright", "widest", "(IZ)I"⟩ ⟨"Carcasswright", "widest", "(IZ)I"⟩ ∈ ce_GW := gT_5 _ (List.mem_of_getElem? (i := 106) rfl) rfl
theorem gw_1067 : Cond.code ⟨"Carcasswright", "widest", "(IZ)I"⟩ prog_1_method_21_code 3 (Option.some Jvm.ClassFile.FieldType.int) ∈ ce_GW := gT_5 _ (List.mem_of_getElem? (i := 107) rfl) rfl
theorem gw_1068 : Cond.methodLink "CarcasswrightLaw" 252 ⟨"CarcasswrightLaw", "parts", "(LCarcasswright;I[J)I"⟩ ∈ ce_GW := gT_5 _ (List.mem_of_getElem? (i := 108) rfl) rfl
theorem gw_1069 : Cond.static ⟨"CarcasswrightLaw", "parts", "(LCarcasswright;I[J)I"⟩ ∈ ce_GW := gT_5 _ (List.mem_of_getElem? (i := 109) rfl) rfl
theorem gw_1070 : Cond.codeWith ⟨"CarcasswrightLaw", "parts", "(LCarcasswright;I[J)I"⟩ method_21_code 4 (Option.some Jvm.ClassFile.FieldType.int) [(0, 9, 12, 27)] ∈ ce_GW := gT_5 _ (List.mem_of_getElem? (i := 110) rfl) rfl
theorem gw_1071 : Cond.methodLink "CarcasswrightLaw" 85 ⟨"Carcasswright", "parts", "(I)I"⟩ ∈ ce_GW := gT_5 _ (List.mem_of_getElem? (i := 111) rfl) rfl
theorem gw_1072 : Cond.instanceMethod ⟨"Carcasswright", "parts", "(I)I"⟩ ∈ ce_GW := gT_5 _ (List.mem_of_getElem? (i := 112) rfl) rfl
theorem gw_1073 : Cond.selects "Carcasswright" ⟨"Carcasswright", "parts", "(I)I"⟩ ⟨"Carcasswright", "parts", "(I)I"⟩ ∈ ce_GW := gT_5 _ (List.mem_of_getElem? (i := 113) rfl) rfl
theorem gw_1074 : Cond.code ⟨"Carcasswright", "parts", "(I)I"⟩ prog_1_method_22_code 2 (Option.some Jvm.ClassFile.FieldType.int) ∈ ce_GW := gT_5 _ (List.mem_of_getElem? (i := 114) rfl) rfl
theorem gw_1075 : Cond.methodLink "CarcasswrightLaw" 255 ⟨"CarcasswrightLaw", "kindOf", "(LCarcasswright;II[J)I"⟩ ∈ ce_GW := gT_5 _ (List.mem_of_getElem? (i := 115) rfl) rfl
theorem gw_1076 : Cond.static ⟨"CarcasswrightLaw", "kindOf", "(LCarcasswright;II[J)I"⟩ ∈ ce_GW := gT_5 _ (List.mem_of_getElem? (i := 116) rfl) rfl
theorem gw_1077 : Cond.codeWith ⟨"CarcasswrightLaw", "kindOf", "(LCarcasswright;II[J)I"⟩ method_22_code 5 (Option.some Jvm.ClassFile.FieldType.int) [(0, 10, 13, 27)] ∈ ce_GW := gT_5 _ (List.mem_of_getElem? (i := 117) rfl) rfl
theorem gw_1078 : Cond.methodLink "CarcasswrightLaw" 88 ⟨"Carcasswright", "kindOf", "(II)C"⟩ ∈ ce_GW := gT_5 _ (List.mem_of_getElem? (i := 118) rfl) rfl
theorem gw_1079 : Cond.instanceMethod ⟨"Carcasswright", "kindOf", "(II)C"⟩ ∈ ce_GW := gT_5 _ (List.mem_of_getElem? (i := 119) rfl) rfl
theorem gw_1080 : Cond.selects "Carcasswright" ⟨"Carcasswright", "kindOf", "(II)C"⟩ ⟨"Carcasswright", "kindOf", "(II)C"⟩ ∈ ce_GW := gT_5 _ (List.mem_of_getElem? (i := 120) rfl) rfl
theorem gw_1081 : Cond.code ⟨"Carcasswright", "kindOf", "(II)C"⟩ prog_1_method_23_code 3 (Option.some Jvm.ClassFile.FieldType.char) ∈ ce_GW := gT_5 _ (List.mem_of_getElem? (i := 121) rfl) rfl
theorem gw_1082 : Cond.methodLink "Carcasswright" 249 ⟨"Carcasswright", "moduleWithPart", "(II)LCarcasswright$PlacedModule;"⟩ ∈ ce_GW := gT_5 _ (List.mem_of_getElem? (i := 122) rfl) rfl
theorem gw_1084 : Cond.instanceMethod ⟨"Carcasswright", "moduleWithPart", "(II)LCarcasswright$PlacedModule;"⟩ ∈ ce_GW := gT_5 _ (List.mem_of_getElem? (i := 124) rfl) rfl
theorem gw_1085 : Cond.code ⟨"Carcasswright", "moduleWithPart", "(II)LCarcasswright$PlacedModule;"⟩ prog_1_method_56_code 4 (Option.some (Jvm.ClassFile.FieldType.object "Carcasswright$PlacedModule")) ∈ ce_GW := gT_5 _ (List.mem_of_getElem? (i := 125) rfl) rfl
theorem gw_1086 : Cond.classLink "Carcasswright" 278 "java/lang/IndexOutOfBoundsException" ∈ ce_GW := gT_5 _ (List.mem_of_getElem? (i := 126) rfl) rfl
theorem gw_1087 : Cond.methodLink "Carcasswright" 280 ⟨"java/lang/IndexOutOfBoundsException", "<init>", "()V"⟩ ∈ ce_GW := gT_5 _ (List.mem_of_getElem? (i := 127) rfl) rfl
theorem gw_1089 : Cond.methodLink "CarcasswrightLaw" 258 ⟨"CarcasswrightLaw", "size", "(LCarcasswright;IIC[J)I"⟩ ∈ ce_GW := gT_5 _ (List.mem_of_getElem? (i := 129) rfl) rfl
theorem gw_1090 : Cond.static ⟨"CarcasswrightLaw", "size", "(LCarcasswright;IIC[J)I"⟩ ∈ ce_GW := gT_5 _ (List.mem_of_getElem? (i := 130) rfl) rfl
theorem gw_1091 : Cond.codeWith ⟨"CarcasswrightLaw", "size", "(LCarcasswright;IIC[J)I"⟩ method_23_code 6 (Option.some Jvm.ClassFile.FieldType.int) [(0, 12, 15, 27), (0, 12, 19, 13)] ∈ ce_GW := gT_5 _ (List.mem_of_getElem? (i := 131) rfl) rfl
theorem gw_1092 : Cond.methodLink "CarcasswrightLaw" 92 ⟨"Carcasswright", "size", "(IIC)I"⟩ ∈ ce_GW := gT_5 _ (List.mem_of_getElem? (i := 132) rfl) rfl
theorem gw_1093 : Cond.instanceMethod ⟨"Carcasswright", "size", "(IIC)I"⟩ ∈ ce_GW := gT_5 _ (List.mem_of_getElem? (i := 133) rfl) rfl
theorem gw_1094 : Cond.selects "Carcasswright" ⟨"Carcasswright", "size", "(IIC)I"⟩ ⟨"Carcasswright", "size", "(IIC)I"⟩ ∈ ce_GW := gT_5 _ (List.mem_of_getElem? (i := 134) rfl) rfl
theorem gw_1095 : Cond.code ⟨"Carcasswright", "size", "(IIC)I"⟩ prog_1_method_24_code 6 (Option.some Jvm.ClassFile.FieldType.int) ∈ ce_GW := gT_5 _ (List.mem_of_getElem? (i := 135) rfl) rfl
theorem gw_1107 : Cond.methodLink "CarcasswrightLaw" 262 ⟨"CarcasswrightLaw", "weight", "(LCarcasswright;II[J)I"⟩ ∈ ce_GW := gT_5 _ (List.mem_of_getElem? (i := 147) rfl) rfl
theorem gw_1108 : Cond.static ⟨"CarcasswrightLaw", "weight", "(LCarcasswright;II[J)I"⟩ ∈ ce_GW := gT_5 _ (List.mem_of_getElem? (i := 148) rfl) rfl
theorem gw_1109 : Cond.codeWith ⟨"CarcasswrightLaw", "weight", "(LCarcasswright;II[J)I"⟩ method_24_code 5 (Option.some Jvm.ClassFile.FieldType.int) [(0, 10, 13, 27)] ∈ ce_GW := gT_5 _ (List.mem_of_getElem? (i := 149) rfl) rfl
theorem gw_1110 : Cond.methodLink "CarcasswrightLaw" 96 ⟨"Carcasswright", "weight", "(II)I"⟩ ∈ ce_GW := gT_5 _ (List.mem_of_getElem? (i := 150) rfl) rfl
theorem gw_1111 : Cond.instanceMethod ⟨"Carcasswright", "weight", "(II)I"⟩ ∈ ce_GW := gT_5 _ (List.mem_of_getElem? (i := 151) rfl) rfl
theorem gw_1112 : Cond.selects "Carcasswright" ⟨"Carcasswright", "weight", "(II)I"⟩ ⟨"Carcasswright", "weight", "(II)I"⟩ ∈ ce_GW := gT_5 _ (List.mem_of_getElem? (i := 152) rfl) rfl
theorem gw_1113 : Cond.code ⟨"Carcasswright", "weight", "(II)I"⟩ prog_1_method_25_code 3 (Option.some Jvm.ClassFile.FieldType.int) ∈ ce_GW := gT_5 _ (List.mem_of_getElem? (i := 153) rfl) rfl
theorem gw_1123 : Cond.methodLink "CarcasswrightLaw" 265 ⟨"CarcasswrightLaw", "hinges", "(LCarcasswright;I[J)I"⟩ ∈ ce_GW := gT_5 _ (List.mem_of_getElem? (i := 163) rfl) rfl
theorem gw_1124 : Cond.static ⟨"CarcasswrightLaw", "hinges", "(LCarcasswright;I[J)I"⟩ ∈ ce_GW := gT_5 _ (List.mem_of_getElem? (i := 164) rfl) rfl
theorem gw_1125 : Cond.codeWith ⟨"CarcasswrightLaw", "hinges", "(LCarcasswright;I[J)I"⟩ method_25_code 4 (Option.some Jvm.ClassFile.FieldType.int) [(0, 9, 12, 27)] ∈ ce_GW := gT_5 _ (List.mem_of_getElem? (i := 165) rfl) rfl
theorem gw_1126 : Cond.methodLink "CarcasswrightLaw" 99 ⟨"Carcasswright", "hinges", "(I)I"⟩ ∈ ce_GW := gT_5 _ (List.mem_of_getElem? (i := 166) rfl) rfl
theorem gw_1127 : Cond.instanceMethod ⟨"Carcasswright", "hinges", "(I)I"⟩ ∈ ce_GW := gT_5 _ (List.mem_of_getElem? (i := 167) rfl) rfl
theorem gw_1128 : Cond.selects "Carcasswright" ⟨"Carcasswright", "hinges", "(I)I"⟩ ⟨"Carcasswright", "hinges", "(I)I"⟩ ∈ ce_GW := gT_5 _ (List.mem_of_getElem? (i := 168) rfl) rfl
theorem gw_1129 : Cond.code ⟨"Carcasswright", "hinges", "(I)I"⟩ prog_1_method_26_code 2 (Option.some Jvm.ClassFile.FieldType.int) ∈ ce_GW := gT_5 _ (List.mem_of_getElem? (i := 169) rfl) rfl
theorem gw_1138 : Cond.methodLink "CarcasswrightLaw" 268 ⟨"CarcasswrightLaw", "holes", "(LCarcasswright;II[J)I"⟩ ∈ ce_GW := gT_5 _ (List.mem_of_getElem? (i := 178) rfl) rfl
theorem gw_1139 : Cond.static ⟨"CarcasswrightLaw", "holes", "(LCarcasswright;II[J)I"⟩ ∈ ce_GW := gT_5 _ (List.mem_of_getElem? (i := 179) rfl) rfl
theorem gw_1140 : Cond.codeWith ⟨"CarcasswrightLaw", "holes", "(LCarcasswright;II[J)I"⟩ method_26_code 5 (Option.some Jvm.ClassFile.FieldType.int) [(0, 10, 13, 27)] ∈ ce_GW := gT_5 _ (List.mem_of_getElem? (i := 180) rfl) rfl
theorem gw_1141 : Cond.methodLink "CarcasswrightLaw" 102 ⟨"Carcasswright", "holes", "(II)I"⟩ ∈ ce_GW := gT_5 _ (List.mem_of_getElem? (i := 181) rfl) rfl
theorem gw_1142 : Cond.instanceMethod ⟨"Carcasswright", "holes", "(II)I"⟩ ∈ ce_GW := gT_5 _ (List.mem_of_getElem? (i := 182) rfl) rfl
theorem gw_1143 : Cond.selects "Carcasswright" ⟨"Carcasswright", "holes", "(II)I"⟩ ⟨"Carcasswright", "holes", "(II)I"⟩ ∈ ce_GW := gT_5 _ (List.mem_of_getElem? (i := 183) rfl) rfl
theorem gw_1144 : Cond.code ⟨"Carcasswright", "holes", "(II)I"⟩ prog_1_method_27_code 3 (Option.some Jvm.ClassFile.FieldType.int) ∈ ce_GW := gT_5 _ (List.mem_of_getElem? (i := 184) rfl) rfl
theorem gw_1153 : Cond.methodLink "CarcasswrightLaw" 271 ⟨"CarcasswrightLaw", "hole", "(LCarcasswright;IIIC[J)I"⟩ ∈ ce_GW := gT_5 _ (List.mem_of_getElem? (i := 193) rfl) rfl
theorem gw_1154 : Cond.static ⟨"CarcasswrightLaw", "hole", "(LCarcasswright;IIIC[J)I"⟩ ∈ ce_GW := gT_5 _ (List.mem_of_getElem? (i := 194) rfl) rfl
theorem gw_1155 : Cond.codeWith ⟨"CarcasswrightLaw", "hole", "(LCarcasswright;IIIC[J)I"⟩ method_27_code 7 (Option.some Jvm.ClassFile.FieldType.int) [(0, 14, 17, 27), (0, 14, 21, 13)] ∈ ce_GW := gT_5 _ (List.mem_of_getElem? (i := 195) rfl) rfl
theorem gw_1156 : Cond.methodLink "CarcasswrightLaw" 105 ⟨"Carcasswright", "hole", "(IIIC)I"⟩ ∈ ce_GW := gT_5 _ (List.mem_of_getElem? (i := 196) rfl) rfl
theorem gw_1157 : Cond.instanceMethod ⟨"Carcasswright", "hole", "(IIIC)I"⟩ ∈ ce_GW := gT_5 _ (List.mem_of_getElem? (i := 197) rfl) rfl
theorem gw_1158 : Cond.selects "Carcasswright" ⟨"Carcasswright", "hole", "(IIIC)I"⟩ ⟨"Carcasswright", "hole", "(IIIC)I"⟩ ∈ ce_GW := gT_5 _ (List.mem_of_getElem? (i := 198) rfl) rfl
theorem gw_1159 : Cond.code ⟨"Carcasswright", "hole", "(IIIC)I"⟩ prog_1_method_28_code 6 (Option.some Jvm.ClassFile.FieldType.int) ∈ ce_GW := gT_5 _ (List.mem_of_getElem? (i := 199) rfl) rfl
theorem gw_1176 : Cond.methodLink "CarcasswrightLaw" 275 ⟨"CarcasswrightLaw", "drills", "(LCarcasswright;II[J)I"⟩ ∈ ce_GW := gT_5 _ (List.mem_of_getElem? (i := 216) rfl) rfl
theorem gw_1177 : Cond.static ⟨"CarcasswrightLaw", "drills", "(LCarcasswright;II[J)I"⟩ ∈ ce_GW := gT_5 _ (List.mem_of_getElem? (i := 217) rfl) rfl
theorem gw_1178 : Cond.codeWith ⟨"CarcasswrightLaw", "drills", "(LCarcasswright;II[J)I"⟩ method_28_code 5 (Option.some Jvm.ClassFile.FieldType.int) [(0, 10, 13, 27)] ∈ ce_GW := gT_5 _ (List.mem_of_getElem? (i := 218) rfl) rfl
theorem gw_1179 : Cond.methodLink "CarcasswrightLaw" 109 ⟨"Carcasswright", "drills", "(II)I"⟩ ∈ ce_GW := gT_5 _ (List.mem_of_getElem? (i := 219) rfl) rfl
theorem gw_1180 : Cond.instanceMethod ⟨"Carcasswright", "drills", "(II)I"⟩ ∈ ce_GW := gT_5 _ (List.mem_of_getElem? (i := 220) rfl) rfl
theorem gw_1181 : Cond.selects "Carcasswright" ⟨"Carcasswright", "drills", "(II)I"⟩ ⟨"Carcasswright", "drills", "(II)I"⟩ ∈ ce_GW := gT_5 _ (List.mem_of_getElem? (i := 221) rfl) rfl
theorem gw_1182 : Cond.code ⟨"Carcasswright", "drills", "(II)I"⟩ prog_1_method_29_code 7 (Option.some Jvm.ClassFile.FieldType.int) ∈ ce_GW := gT_5 _ (List.mem_of_getElem? (i := 222) rfl) rfl
theorem gw_1189 : Cond.methodLink "CarcasswrightLaw" 278 ⟨"CarcasswrightLaw", "clamp", "(LCarcasswright;IIZ[J)I"⟩ ∈ ce_GW := gT_5 _ (List.mem_of_getElem? (i := 229) rfl) rfl
theorem gw_1190 : Cond.static ⟨"CarcasswrightLaw", "clamp", "(LCarcasswright;IIZ[J)I"⟩ ∈ ce_GW := gT_5 _ (List.mem_of_getElem? (i := 230) rfl) rfl
theorem gw_1191 : Cond.codeWith ⟨"CarcasswrightLaw", "clamp", "(LCarcasswright;IIZ[J)I"⟩ method_29_code 6 (Option.some Jvm.ClassFile.FieldType.int) [(0, 12, 15, 27), (0, 12, 19, 44)] ∈ ce_GW := gT_5 _ (List.mem_of_getElem? (i := 231) rfl) rfl
theorem gw_1192 : Cond.methodLink "CarcasswrightLaw" 112 ⟨"Carcasswright", "clamp", "(IIZ)I"⟩ ∈ ce_GW := gT_5 _ (List.mem_of_getElem? (i := 232) rfl) rfl
theorem gw_1193 : Cond.instanceMethod ⟨"Carcasswright", "clamp", "(IIZ)I"⟩ ∈ ce_GW := gT_5 _ (List.mem_of_getElem? (i := 233) rfl) rfl
theorem gw_1194 : Cond.selects "Carcasswright" ⟨"Carcasswright", "clamp", "(IIZ)I"⟩ ⟨"Carcasswright", "clamp", "(IIZ)I"⟩ ∈ ce_GW := gT_5 _ (List.mem_of_getElem? (i := 234) rfl) rfl
theorem gw_1195 : Cond.code ⟨"Carcasswright", "clamp", "(IIZ)I"⟩ prog_1_method_30_code 7 (Option.some Jvm.ClassFile.FieldType.int) ∈ ce_GW := gT_5 _ (List.mem_of_getElem? (i := 235) rfl) rfl
theorem gw_1209 : Cond.methodLink "CarcasswrightLaw" 282 ⟨"CarcasswrightLaw", "addBoards", "(LCarcasswright;IIIII[J)I"⟩ ∈ ce_GW := gT_6 _ (List.mem_of_getElem? (i := 9) rfl) rfl
theorem gw_1210 : Cond.static ⟨"CarcasswrightLaw", "addBoards", "(LCarcasswright;IIIII[J)I"⟩ ∈ ce_GW := gT_6 _ (List.mem_of_getElem? (i := 10) rfl) rfl
theorem gw_1211 : Cond.codeWith ⟨"CarcasswrightLaw", "addBoards", "(LCarcasswright;IIIII[J)I"⟩ method_30_code 8 (Option.some Jvm.ClassFile.FieldType.int) [(0, 16, 19, 13), (0, 16, 23, 15)] ∈ ce_GW := gT_6 _ (List.mem_of_getElem? (i := 11) rfl) rfl
theorem gw_1212 : Cond.methodLink "CarcasswrightLaw" 116 ⟨"Carcasswright", "addBoards", "(IIIII)I"⟩ ∈ ce_GW := gT_6 _ (List.mem_of_getElem? (i := 12) rfl) rfl
theorem gw_1213 : Cond.instanceMethod ⟨"Carcasswright", "addBoards", "(IIIII)I"⟩ ∈ ce_GW := gT_6 _ (List.mem_of_getElem? (i := 13) rfl) rfl
theorem gw_1214 : Cond.selects "Carcasswright" ⟨"Carcasswright", "addBoards", "(IIIII)I"⟩ ⟨"Carcasswright", "addBoards", "(IIIII)I"⟩ ∈ ce_GW := gT_6 _ (List.mem_of_getElem? (i := 14) rfl) rfl
theorem gw_1215 : Cond.code ⟨"Carcasswright", "addBoards", "(IIIII)I"⟩ prog_1_method_31_code 7 (Option.some Jvm.ClassFile.FieldType.int) ∈ ce_GW := gT_6 _ (List.mem_of_getElem? (i := 15) rfl) rfl
theorem gw_1216 : Cond.methodLink "Carcasswright" 302 ⟨"Carcasswright$Stock", "append", "(IIIIZ)Z"⟩ ∈ ce_GW := gT_6 _ (List.mem_of_getElem? (i := 16) rfl) rfl
theorem gw_1217 : Cond.instanceMethod ⟨"Carcasswright$Stock", "append", "(IIIIZ)Z"⟩ ∈ ce_GW := gT_6 _ (List.mem_of_getElem? (i := 17) rfl) rfl
theorem gw_1218 : Cond.selects "Carcasswright$Stock" ⟨"Carcasswright$Stock", "append", "(IIIIZ)Z"⟩ ⟨"Carcasswright$Stock", "append", "(IIIIZ)Z"⟩ ∈ ce_GW := gT_6 _ (List.mem_of_getElem? (i := 18) rfl) rfl
theorem gw_1219 : Cond.code ⟨"Carcasswright$Stock", "append", "(IIIIZ)Z"⟩ prog_10_method_3_code 7 (Option.some Jvm.ClassFile.FieldType.boolean) ∈ ce_GW := gT_6 _ (List.mem_of_getElem? (i := 19) rfl) rfl
theorem gw_1220 : Cond.methodLink "Carcasswright$Stock" 23 ⟨"Carcasswright$Board", "become", "(IIII)V"⟩ ∈ ce_GW := gT_6 _ (List.mem_of_getElem? (i := 20) rfl) rfl
theorem gw_1221 : Cond.instanceMethod ⟨"Carcasswright$Board", "become", "(IIII)V"⟩ ∈ ce_GW := gT_6 _ (List.mem_of_getElem? (i := 21) rfl) rfl
theorem gw_1222 : Cond.selects "Carcasswright$Board" ⟨"Carcasswright$Board", "become", "(IIII)V"⟩ ⟨"Carcasswright$Board", "become", "(IIII)V"⟩ ∈ ce_GW := gT_6 _ (List.mem_of_getElem? (i := 22) rfl) rfl
theorem gw_1223 : Cond.code ⟨"Carcasswright$Board", "become", "(IIII)V"⟩ prog_2_method_2_code 5 Option.none ∈ ce_GW := gT_6 _ (List.mem_of_getElem? (i := 23) rfl) rfl
theorem gw_1224 : Cond.methodLink "CarcasswrightLaw" 293 ⟨"CarcasswrightLaw", "board", "(LCarcasswright;IC[J)I"⟩ ∈ ce_GW := gT_6 _ (List.mem_of_getElem? (i := 24) rfl) rfl
theorem gw_1225 : Cond.static ⟨"CarcasswrightLaw", "board", "(LCarcasswright;IC[J)I"⟩ ∈ ce_GW := gT_6 _ (List.mem_of_getElem? (i := 25) rfl) rfl
theorem gw_1226 : Cond.codeWith ⟨"CarcasswrightLaw", "board", "(LCarcasswright;IC[J)I"⟩ method_31_code 5 (Option.some Jvm.ClassFile.FieldType.int) [(0, 10, 13, 27), (0, 10, 17, 13)] ∈ ce_GW := gT_6 _ (List.mem_of_getElem? (i := 26) rfl) rfl
theorem gw_1227 : Cond.methodLink "CarcasswrightLaw" 119 ⟨"Carcasswright", "board", "(IC)I"⟩ ∈ ce_GW := gT_6 _ (List.mem_of_getElem? (i := 27) rfl) rfl
theorem gw_1228 : Cond.instanceMethod ⟨"Carcasswright", "board", "(IC)I"⟩ ∈ ce_GW := gT_6 _ (List.mem_of_getElem? (i := 28) rfl) rfl
theorem gw_1229 : Cond.selects "Carcasswright" ⟨"Carcasswright", "board", "(IC)I"⟩ ⟨"Carcasswright", "board", "(IC)I"⟩ ∈ ce_GW := gT_6 _ (List.mem_of_getElem? (i := 29) rfl) rfl
theorem gw_1230 : Cond.code ⟨"Carcasswright", "board", "(IC)I"⟩ prog_1_method_34_code 4 (Option.some Jvm.ClassFile.FieldType.int) ∈ ce_GW := gT_6 _ (List.mem_of_getElem? (i := 30) rfl) rfl
theorem gw_1231 : Cond.methodLink "Carcasswright" 311 ⟨"Carcasswright$Stock", "boardAt", "(I)LCarcasswright$Board;"⟩ ∈ ce_GW := gT_6 _ (List.mem_of_getElem? (i := 31) rfl) rfl
theorem gw_1232 : Cond.methodLink "CarcasswrightLaw" 296 ⟨"CarcasswrightLaw", "uncut", "(LCarcasswright;I[J)I"⟩ ∈ ce_GW := gT_6 _ (List.mem_of_getElem? (i := 32) rfl) rfl
theorem gw_1233 : Cond.static ⟨"CarcasswrightLaw", "uncut", "(LCarcasswright;I[J)I"⟩ ∈ ce_GW := gT_6 _ (List.mem_of_getElem? (i := 33) rfl) rfl
theorem gw_1234 : Cond.codeWith ⟨"CarcasswrightLaw", "uncut", "(LCarcasswright;I[J)I"⟩ method_32_code 4 (Option.some Jvm.ClassFile.FieldType.int) [(0, 9, 12, 27)] ∈ ce_GW := gT_6 _ (List.mem_of_getElem? (i := 34) rfl) rfl
theorem gw_1235 : Cond.methodLink "CarcasswrightLaw" 122 ⟨"Carcasswright", "uncut", "(I)I"⟩ ∈ ce_GW := gT_6 _ (List.mem_of_getElem? (i := 35) rfl) rfl
theorem gw_1236 : Cond.instanceMethod ⟨"Carcasswright", "uncut", "(I)I"⟩ ∈ ce_GW := gT_6 _ (List.mem_of_getElem? (i := 36) rfl) rfl
theorem gw_1237 : Cond.selects "Carcasswright" ⟨"Carcasswright", "uncut", "(I)I"⟩ ⟨"Carcasswright", "uncut", "(I)I"⟩ ∈ ce_GW := gT_6 _ (List.mem_of_getElem? (i := 37) rfl) rfl
theorem gw_1238 : Cond.code ⟨"Carcasswright", "uncut", "(I)I"⟩ prog_1_method_35_code 2 (Option.some Jvm.ClassFile.FieldType.int) ∈ ce_GW := gT_6 _ (List.mem_of_getElem? (i := 38) rfl) rfl
theorem gw_1250 : Cond.methodLink "CarcasswrightLaw" 299 ⟨"CarcasswrightLaw", "cut", "(LCarcasswright;I[J)I"⟩ ∈ ce_GW := gT_6 _ (List.mem_of_getElem? (i := 50) rfl) rfl
theorem gw_1251 : Cond.static ⟨"CarcasswrightLaw", "cut", "(LCarcasswright;I[J)I"⟩ ∈ ce_GW := gT_6 _ (List.mem_of_getElem? (i := 51) rfl) rfl
theorem gw_1252 : Cond.codeWith ⟨"CarcasswrightLaw", "cut", "(LCarcasswright;I[J)I"⟩ method_33_code 4 (Option.some Jvm.ClassFile.FieldType.int) [(0, 9, 12, 27), (0, 9, 15, 44), (0, 9, 18, 21)] ∈ ce_GW := gT_6 _ (List.mem_of_getElem? (i := 52) rfl) rfl
theorem gw_1253 : Cond.methodLink "CarcasswrightLaw" 125 ⟨"Carcasswright", "cut", "(I)I"⟩ ∈ ce_GW := gT_6 _ (List.mem_of_getElem? (i := 53) rfl) rfl
theorem gw_1254 : Cond.instanceMethod ⟨"Carcasswright", "cut", "(I)I"⟩ ∈ ce_GW := gT_6 _ (List.mem_of_getElem? (i := 54) rfl) rfl
theorem gw_1255 : Cond.selects "Carcasswright" ⟨"Carcasswright", "cut", "(I)I"⟩ ⟨"Carcasswright", "cut", "(I)I"⟩ ∈ ce_GW := gT_6 _ (List.mem_of_getElem? (i := 55) rfl) rfl
theorem gw_1256 : Cond.code ⟨"Carcasswright", "cut", "(I)I"⟩ prog_1_method_36_code 3 (Option.some Jvm.ClassFile.FieldType.int) ∈ ce_GW := gT_6 _ (List.mem_of_getElem? (i := 56) rfl) rfl
theorem gw_1349 : Cond.methodLink "CarcasswrightLaw" 302 ⟨"CarcasswrightLaw", "lose", "(LCarcasswright;II[J)I"⟩ ∈ ce_GW := gT_6 _ (List.mem_of_getElem? (i := 149) rfl) rfl
theorem gw_1350 : Cond.static ⟨"CarcasswrightLaw", "lose", "(LCarcasswright;II[J)I"⟩ ∈ ce_GW := gT_6 _ (List.mem_of_getElem? (i := 150) rfl) rfl
theorem gw_1351 : Cond.codeWith ⟨"CarcasswrightLaw", "lose", "(LCarcasswright;II[J)I"⟩ method_34_code 5 (Option.some Jvm.ClassFile.FieldType.int) [(0, 10, 13, 27), (0, 10, 17, 21)] ∈ ce_GW := gT_6 _ (List.mem_of_getElem? (i := 151) rfl) rfl
theorem gw_1352 : Cond.methodLink "CarcasswrightLaw" 128 ⟨"Carcasswright", "lose", "(II)I"⟩ ∈ ce_GW := gT_6 _ (List.mem_of_getElem? (i := 152) rfl) rfl
theorem gw_1353 : Cond.instanceMethod ⟨"Carcasswright", "lose", "(II)I"⟩ ∈ ce_GW := gT_6 _ (List.mem_of_getElem? (i := 153) rfl) rfl
theorem gw_1354 : Cond.selects "Carcasswright" ⟨"Carcasswright", "lose", "(II)I"⟩ ⟨"Carcasswright", "lose", "(II)I"⟩ ∈ ce_GW := gT_6 _ (List.mem_of_getElem? (i := 154) rfl) rfl
theorem gw_1355 : Cond.code ⟨"Carcasswright", "lose", "(II)I"⟩ prog_1_method_37_code 5 (Option.some Jvm.ClassFile.FieldType.int) ∈ ce_GW := gT_6 _ (List.mem_of_getElem? (i := 155) rfl) rfl
theorem gw_1356 : Cond.methodLink "CarcasswrightLaw" 305 ⟨"CarcasswrightLaw", "edged", "(LCarcasswright;I[J)I"⟩ ∈ ce_GW := gT_6 _ (List.mem_of_getElem? (i := 156) rfl) rfl
theorem gw_1357 : Cond.static ⟨"CarcasswrightLaw", "edged", "(LCarcasswright;I[J)I"⟩ ∈ ce_GW := gT_6 _ (List.mem_of_getElem? (i := 157) rfl) rfl
theorem gw_1358 : Cond.codeWith ⟨"CarcasswrightLaw", "edged", "(LCarcasswright;I[J)I"⟩ method_35_code 4 (Option.some Jvm.ClassFile.FieldType.int) [(0, 9, 12, 13)] ∈ ce_GW := gT_6 _ (List.mem_of_getElem? (i := 158) rfl) rfl
theorem gw_1359 : Cond.methodLink "CarcasswrightLaw" 131 ⟨"Carcasswright", "edged", "(I)I"⟩ ∈ ce_GW := gT_6 _ (List.mem_of_getElem? (i := 159) rfl) rfl
theorem gw_1360 : Cond.instanceMethod ⟨"Carcasswright", "edged", "(I)I"⟩ ∈ ce_GW := gT_6 _ (List.mem_of_getElem? (i := 160) rfl) rfl
theorem gw_1361 : Cond.selects "Carcasswright" ⟨"Carcasswright", "edged", "(I)I"⟩ ⟨"Carcasswright", "edged", "(I)I"⟩ ∈ ce_GW := gT_6 _ (List.mem_of_getElem? (i := 161) rfl) rfl
theorem gw_1362 : Cond.code ⟨"Carcasswright", "edged", "(I)I"⟩ prog_1_method_38_code 4 (Option.some Jvm.ClassFile.FieldType.int) ∈ ce_GW := gT_6 _ (List.mem_of_getElem? (i := 162) rfl) rfl
theorem gw_1374 : Cond.methodLink "CarcasswrightLaw" 308 ⟨"CarcasswrightLaw", "setRate", "(LCarcasswright;II[J)I"⟩ ∈ ce_GW := gT_6 _ (List.mem_of_getElem? (i := 174) rfl) rfl
theorem gw_1375 : Cond.static ⟨"CarcasswrightLaw", "setRate", "(LCarcasswright;II[J)I"⟩ ∈ ce_GW := gT_6 _ (List.mem_of_getElem? (i := 175) rfl) rfl
theorem gw_1376 : Cond.codeWith ⟨"CarcasswrightLaw", "setRate", "(LCarcasswright;II[J)I"⟩ method_36_code 5 (Option.some Jvm.ClassFile.FieldType.int) [(0, 10, 13, 13)] ∈ ce_GW := gT_6 _ (List.mem_of_getElem? (i := 176) rfl) rfl
theorem gw_1377 : Cond.methodLink "CarcasswrightLaw" 134 ⟨"Carcasswright", "setRate", "(II)I"⟩ ∈ ce_GW := gT_6 _ (List.mem_of_getElem? (i := 177) rfl) rfl
theorem gw_1378 : Cond.instanceMethod ⟨"Carcasswright", "setRate", "(II)I"⟩ ∈ ce_GW := gT_6 _ (List.mem_of_getElem? (i := 178) rfl) rfl
theorem gw_1379 : Cond.selects "Carcasswright" ⟨"Carcasswright", "setRate", "(II)I"⟩ ⟨"Carcasswright", "setRate", "(II)I"⟩ ∈ ce_GW := gT_6 _ (List.mem_of_getElem? (i := 179) rfl) rfl
theorem gw_1380 : Cond.code ⟨"Carcasswright", "setRate", "(II)I"⟩ prog_1_method_39_code 4 (Option.some Jvm.ClassFile.FieldType.int) ∈ ce_GW := gT_6 _ (List.mem_of_getElem? (i := 180) rfl) rfl
theorem gw_1381 : Cond.methodLink "CarcasswrightLaw" 311 ⟨"CarcasswrightLaw", "price", "(LCarcasswright;I[J)I"⟩ ∈ ce_GW := gT_6 _ (List.mem_of_getElem? (i := 181) rfl) rfl
theorem gw_1382 : Cond.static ⟨"CarcasswrightLaw", "price", "(LCarcasswright;I[J)I"⟩ ∈ ce_GW := gT_6 _ (List.mem_of_getElem? (i := 182) rfl) rfl
theorem gw_1383 : Cond.codeWith ⟨"CarcasswrightLaw", "price", "(LCarcasswright;I[J)I"⟩ method_37_code 4 (Option.some Jvm.ClassFile.FieldType.int) [(0, 9, 12, 27)] ∈ ce_GW := gT_6 _ (List.mem_of_getElem? (i := 183) rfl) rfl
theorem gw_1384 : Cond.methodLink "CarcasswrightLaw" 137 ⟨"Carcasswright", "price", "(I)I"⟩ ∈ ce_GW := gT_6 _ (List.mem_of_getElem? (i := 184) rfl) rfl
theorem gw_1385 : Cond.instanceMethod ⟨"Carcasswright", "price", "(I)I"⟩ ∈ ce_GW := gT_6 _ (List.mem_of_getElem? (i := 185) rfl) rfl
theorem gw_1386 : Cond.selects "Carcasswright" ⟨"Carcasswright", "price", "(I)I"⟩ ⟨"Carcasswright", "price", "(I)I"⟩ ∈ ce_GW := gT_6 _ (List.mem_of_getElem? (i := 186) rfl) rfl
theorem gw_1387 : Cond.code ⟨"Carcasswright", "price", "(I)I"⟩ prog_1_method_40_code 7 (Option.some Jvm.ClassFile.FieldType.int) ∈ ce_GW := gT_6 _ (List.mem_of_getElem? (i := 187) rfl) rfl
theorem gw_1394 : Cond.methodLink "CarcasswrightLaw" 314 ⟨"CarcasswrightLaw", "packs", "(LCarcasswright;II[J)I"⟩ ∈ ce_GW := gT_6 _ (List.mem_of_getElem? (i := 194) rfl) rfl
theorem gw_1395 : Cond.static ⟨"CarcasswrightLaw", "packs", "(LCarcasswright;II[J)I"⟩ ∈ ce_GW := gT_6 _ (List.mem_of_getElem? (i := 195) rfl) rfl
theorem gw_1396 : Cond.codeWith ⟨"CarcasswrightLaw", "packs", "(LCarcasswright;II[J)I"⟩ method_38_code 5 (Option.some Jvm.ClassFile.FieldType.int) [(0, 10, 13, 27), (0, 10, 17, 13), (0, 10, 21, 21)] ∈ ce_GW := gT_6 _ (List.mem_of_getElem? (i := 196) rfl) rfl
theorem gw_1397 : Cond.methodLink "CarcasswrightLaw" 140 ⟨"Carcasswright", "packs", "(II)I"⟩ ∈ ce_GW := gT_6 _ (List.mem_of_getElem? (i := 197) rfl) rfl
theorem gw_1398 : Cond.instanceMethod ⟨"Carcasswright", "packs", "(II)I"⟩ ∈ ce_GW := gT_6 _ (List.mem_of_getElem? (i := 198) rfl) rfl
theorem gw_1399 : Cond.selects "Carcasswright" ⟨"Carcasswright", "packs", "(II)I"⟩ ⟨"Carcasswright", "packs", "(II)I"⟩ ∈ ce_GW := gT_6 _ (List.mem_of_getElem? (i := 199) rfl) rfl
theorem gw_1400 : Cond.code ⟨"Carcasswright", "packs", "(II)I"⟩ prog_1_method_41_code 3 (Option.some Jvm.ClassFile.FieldType.int) ∈ ce_GW := gT_6 _ (List.mem_of_getElem? (i := 200) rfl) rfl
theorem gw_1421 : Cond.methodLink "CarcasswrightLaw" 317 ⟨"CarcasswrightLaw", "packOf", "(LCarcasswright;III[J)I"⟩ ∈ ce_GW := gT_6 _ (List.mem_of_getElem? (i := 221) rfl) rfl
theorem gw_1422 : Cond.static ⟨"CarcasswrightLaw", "packOf", "(LCarcasswright;III[J)I"⟩ ∈ ce_GW := gT_6 _ (List.mem_of_getElem? (i := 222) rfl) rfl
theorem gw_1423 : Cond.codeWith ⟨"CarcasswrightLaw", "packOf", "(LCarcasswright;III[J)I"⟩ method_39_code 6 (Option.some Jvm.ClassFile.FieldType.int) [(0, 12, 15, 27), (0, 12, 19, 13), (0, 12, 23, 21)] ∈ ce_GW := gT_6 _ (List.mem_of_getElem? (i := 223) rfl) rfl
theorem gw_1424 : Cond.methodLink "CarcasswrightLaw" 143 ⟨"Carcasswright", "packOf", "(III)I"⟩ ∈ ce_GW := gT_6 _ (List.mem_of_getElem? (i := 224) rfl) rfl
theorem gw_1425 : Cond.instanceMethod ⟨"Carcasswright", "packOf", "(III)I"⟩ ∈ ce_GW := gT_6 _ (List.mem_of_getElem? (i := 225) rfl) rfl
theorem gw_1426 : Cond.selects "Carcasswright" ⟨"Carcasswright", "packOf", "(III)I"⟩ ⟨"Carcasswright", "packOf", "(III)I"⟩ ∈ ce_GW := gT_6 _ (List.mem_of_getElem? (i := 226) rfl) rfl
theorem gw_1427 : Cond.code ⟨"Carcasswright", "packOf", "(III)I"⟩ prog_1_method_42_code 4 (Option.some Jvm.ClassFile.FieldType.int) ∈ ce_GW := gT_6 _ (List.mem_of_getElem? (i := 227) rfl) rfl
theorem gw_1432 : Cond.methodLink "CarcasswrightLaw" 320 ⟨"CarcasswrightLaw", "stepAt", "(LCarcasswright;II[J)I"⟩ ∈ ce_GW := gT_6 _ (List.mem_of_getElem? (i := 232) rfl) rfl
theorem gw_1433 : Cond.static ⟨"CarcasswrightLaw", "stepAt", "(LCarcasswright;II[J)I"⟩ ∈ ce_GW := gT_6 _ (List.mem_of_getElem? (i := 233) rfl) rfl
theorem gw_1434 : Cond.codeWith ⟨"CarcasswrightLaw", "stepAt", "(LCarcasswright;II[J)I"⟩ method_40_code 5 (Option.some Jvm.ClassFile.FieldType.int) [(0, 10, 13, 27)] ∈ ce_GW := gT_6 _ (List.mem_of_getElem? (i := 234) rfl) rfl
theorem gw_1435 : Cond.methodLink "CarcasswrightLaw" 146 ⟨"Carcasswright", "stepAt", "(II)I"⟩ ∈ ce_GW := gT_6 _ (List.mem_of_getElem? (i := 235) rfl) rfl
theorem gw_1436 : Cond.instanceMethod ⟨"Carcasswright", "stepAt", "(II)I"⟩ ∈ ce_GW := gT_6 _ (List.mem_of_getElem? (i := 236) rfl) rfl
theorem gw_1437 : Cond.selects "Carcasswright" ⟨"Carcasswright", "stepAt", "(II)I"⟩ ⟨"Carcasswright", "stepAt", "(II)I"⟩ ∈ ce_GW := gT_6 _ (List.mem_of_getElem? (i := 237) rfl) rfl
theorem gw_1438 : Cond.code ⟨"Carcasswright", "stepAt", "(II)I"⟩ prog_1_method_43_code 3 (Option.some Jvm.ClassFile.FieldType.int) ∈ ce_GW := gT_6 _ (List.mem_of_getElem? (i := 238) rfl) rfl
theorem gw_1439 : Cond.methodLink "CarcasswrightLaw" 323 ⟨"CarcasswrightLaw", "job", "(LCarcasswright;III[J)I"⟩ ∈ ce_GW := gT_6 _ (List.mem_of_getElem? (i := 239) rfl) rfl
theorem gw_1440 : Cond.static ⟨"CarcasswrightLaw", "job", "(LCarcasswright;III[J)I"⟩ ∈ ce_GW := gT_7 _ (List.mem_of_getElem? (i := 0) rfl) rfl
theorem gw_1441 : Cond.codeWith ⟨"CarcasswrightLaw", "job", "(LCarcasswright;III[J)I"⟩ method_41_code 6 (Option.some Jvm.ClassFile.FieldType.int) [(0, 12, 15, 13), (0, 12, 19, 15)] ∈ ce_GW := gT_7 _ (List.mem_of_getElem? (i := 1) rfl) rfl
theorem gw_1442 : Cond.methodLink "CarcasswrightLaw" 149 ⟨"Carcasswright", "job", "(III)I"⟩ ∈ ce_GW := gT_7 _ (List.mem_of_getElem? (i := 2) rfl) rfl
theorem gw_1443 : Cond.instanceMethod ⟨"Carcasswright", "job", "(III)I"⟩ ∈ ce_GW := gT_7 _ (List.mem_of_getElem? (i := 3) rfl) rfl
theorem gw_1444 : Cond.selects "Carcasswright" ⟨"Carcasswright", "job", "(III)I"⟩ ⟨"Carcasswright", "job", "(III)I"⟩ ∈ ce_GW := gT_7 _ (List.mem_of_getElem? (i := 4) rfl) rfl
theorem gw_1445 : Cond.code ⟨"Carcasswright", "job", "(III)I"⟩ prog_1_method_44_code 4 (Option.some Jvm.ClassFile.FieldType.int) ∈ ce_GW := gT_7 _ (List.mem_of_getElem? (i := 5) rfl) rfl
theorem gw_1446 : Cond.methodLink "Carcasswright" 370 ⟨"Carcasswright$Jobs", "append", "(III)I"⟩ ∈ ce_GW := gT_7 _ (List.mem_of_getElem? (i := 6) rfl) rfl
theorem gw_1447 : Cond.instanceMethod ⟨"Carcasswright$Jobs", "append", "(III)I"⟩ ∈ ce_GW := gT_7 _ (List.mem_of_getElem? (i := 7) rfl) rfl
theorem gw_1448 : Cond.selects "Carcasswright$Jobs" ⟨"Carcasswright$Jobs", "append", "(III)I"⟩ ⟨"Carcasswright$Jobs", "append", "(III)I"⟩ ∈ ce_GW := gT_7 _ (List.mem_of_getElem? (i := 8) rfl) rfl
theorem gw_1449 : Cond.code ⟨"Carcasswright$Jobs", "append", "(III)I"⟩ prog_3_method_2_code 5 (Option.some Jvm.ClassFile.FieldType.int) ∈ ce_GW := gT_7 _ (List.mem_of_getElem? (i := 9) rfl) rfl
theorem gw_1450 : Cond.methodLink "CarcasswrightLaw" 326 ⟨"CarcasswrightLaw", "setSetup", "(LCarcasswright;I[J)I"⟩ ∈ ce_GW := gT_7 _ (List.mem_of_getElem? (i := 10) rfl) rfl
theorem gw_1451 : Cond.static ⟨"CarcasswrightLaw", "setSetup", "(LCarcasswright;I[J)I"⟩ ∈ ce_GW := gT_7 _ (List.mem_of_getElem? (i := 11) rfl) rfl
theorem gw_1452 : Cond.codeWith ⟨"CarcasswrightLaw", "setSetup", "(LCarcasswright;I[J)I"⟩ method_42_code 4 (Option.some Jvm.ClassFile.FieldType.int) [(0, 9, 12, 13)] ∈ ce_GW := gT_7 _ (List.mem_of_getElem? (i := 12) rfl) rfl
theorem gw_1453 : Cond.methodLink "CarcasswrightLaw" 152 ⟨"Carcasswright", "setSetup", "(I)I"⟩ ∈ ce_GW := gT_7 _ (List.mem_of_getElem? (i := 13) rfl) rfl
theorem gw_1454 : Cond.instanceMethod ⟨"Carcasswright", "setSetup", "(I)I"⟩ ∈ ce_GW := gT_7 _ (List.mem_of_getElem? (i := 14) rfl) rfl
theorem gw_1455 : Cond.selects "Carcasswright" ⟨"Carcasswright", "setSetup", "(I)I"⟩ ⟨"Carcasswright", "setSetup", "(I)I"⟩ ∈ ce_GW := gT_7 _ (List.mem_of_getElem? (i := 15) rfl) rfl
theorem gw_1456 : Cond.code ⟨"Carcasswright", "setSetup", "(I)I"⟩ prog_1_method_45_code 3 (Option.some Jvm.ClassFile.FieldType.int) ∈ ce_GW := gT_7 _ (List.mem_of_getElem? (i := 16) rfl) rfl
theorem gw_1457 : Cond.methodLink "CarcasswrightLaw" 333 ⟨"CarcasswrightLaw", "jobAt", "(LCarcasswright;I[J)I"⟩ ∈ ce_GW := gT_7 _ (List.mem_of_getElem? (i := 17) rfl) rfl
theorem gw_1458 : Cond.static ⟨"CarcasswrightLaw", "jobAt", "(LCarcasswright;I[J)I"⟩ ∈ ce_GW := gT_7 _ (List.mem_of_getElem? (i := 18) rfl) rfl
theorem gw_1459 : Cond.codeWith ⟨"CarcasswrightLaw", "jobAt", "(LCarcasswright;I[J)I"⟩ method_43_code 4 (Option.some Jvm.ClassFile.FieldType.int) [(0, 9, 12, 27)] ∈ ce_GW := gT_7 _ (List.mem_of_getElem? (i := 19) rfl) rfl
theorem gw_1460 : Cond.methodLink "CarcasswrightLaw" 155 ⟨"Carcasswright", "jobAt", "(I)I"⟩ ∈ ce_GW := gT_7 _ (List.mem_of_getElem? (i := 20) rfl) rfl
theorem gw_1461 : Cond.instanceMethod ⟨"Carcasswright", "jobAt", "(I)I"⟩ ∈ ce_GW := gT_7 _ (List.mem_of_getElem? (i := 21) rfl) rfl
theorem gw_1462 : Cond.selects "Carcasswright" ⟨"Carcasswright", "jobAt", "(I)I"⟩ ⟨"Carcasswright", "jobAt", "(I)I"⟩ ∈ ce_GW := gT_7 _ (List.mem_of_getElem? (i := 22) rfl) rfl
theorem gw_1463 : Cond.code ⟨"Carcasswright", "jobAt", "(I)I"⟩ prog_1_method_47_code 2 (Option.some Jvm.ClassFile.FieldType.int) ∈ ce_GW := gT_7 _ (List.mem_of_getElem? (i := 23) rfl) rfl
theorem gw_1464 : Cond.methodLink "CarcasswrightLaw" 340 ⟨"CarcasswrightLaw", "area", "(LCarcasswright;C[J)I"⟩ ∈ ce_GW := gT_7 _ (List.mem_of_getElem? (i := 24) rfl) rfl
theorem gw_1465 : Cond.static ⟨"CarcasswrightLaw", "area", "(LCarcasswright;C[J)I"⟩ ∈ ce_GW := gT_7 _ (List.mem_of_getElem? (i := 25) rfl) rfl
theorem gw_1466 : Cond.codeWith ⟨"CarcasswrightLaw", "area", "(LCarcasswright;C[J)I"⟩ method_44_code 4 (Option.some Jvm.ClassFile.FieldType.int) [(0, 8, 11, 13)] ∈ ce_GW := gT_7 _ (List.mem_of_getElem? (i := 26) rfl) rfl
theorem gw_1467 : Cond.methodLink "CarcasswrightLaw" 158 ⟨"Carcasswright", "area", "(C)J"⟩ ∈ ce_GW := gT_7 _ (List.mem_of_getElem? (i := 27) rfl) rfl
theorem gw_1468 : Cond.instanceMethod ⟨"Carcasswright", "area", "(C)J"⟩ ∈ ce_GW := gT_7 _ (List.mem_of_getElem? (i := 28) rfl) rfl
theorem gw_1469 : Cond.selects "Carcasswright" ⟨"Carcasswright", "area", "(C)J"⟩ ⟨"Carcasswright", "area", "(C)J"⟩ ∈ ce_GW := gT_7 _ (List.mem_of_getElem? (i := 29) rfl) rfl
theorem gw_1470 : Cond.code ⟨"Carcasswright", "area", "(C)J"⟩ prog_1_method_49_code 2 (Option.some Jvm.ClassFile.FieldType.long) ∈ ce_GW := gT_7 _ (List.mem_of_getElem? (i := 30) rfl) rfl
theorem gw_1471 : Cond.methodLink "CarcasswrightLaw" 343 ⟨"CarcasswrightLaw", "cutShare", "(LCarcasswright;[D)I"⟩ ∈ ce_GW := gT_7 _ (List.mem_of_getElem? (i := 31) rfl) rfl
theorem gw_1472 : Cond.static ⟨"CarcasswrightLaw", "cutShare", "(LCarcasswright;[D)I"⟩ ∈ ce_GW := gT_7 _ (List.mem_of_getElem? (i := 32) rfl) rfl
theorem gw_1473 : Cond.codeWith ⟨"CarcasswrightLaw", "cutShare", "(LCarcasswright;[D)I"⟩ method_45_code 3 (Option.some Jvm.ClassFile.FieldType.int) [(0, 8, 11, 44)] ∈ ce_GW := gT_7 _ (List.mem_of_getElem? (i := 33) rfl) rfl
theorem gw_1474 : Cond.methodLink "CarcasswrightLaw" 162 ⟨"Carcasswright", "cutShare", "()F"⟩ ∈ ce_GW := gT_7 _ (List.mem_of_getElem? (i := 34) rfl) rfl
theorem gw_1475 : Cond.instanceMethod ⟨"Carcasswright", "cutShare", "()F"⟩ ∈ ce_GW := gT_7 _ (List.mem_of_getElem? (i := 35) rfl) rfl
theorem gw_1476 : Cond.selects "Carcasswright" ⟨"Carcasswright", "cutShare", "()F"⟩ ⟨"Carcasswright", "cutShare", "()F"⟩ ∈ ce_GW := gT_7 _ (List.mem_of_getElem? (i := 36) rfl) rfl
theorem gw_1477 : Cond.code ⟨"Carcasswright", "cutShare", "()F"⟩ prog_1_method_50_code 5 (Option.some Jvm.ClassFile.FieldType.float) ∈ ce_GW := gT_7 _ (List.mem_of_getElem? (i := 37) rfl) rfl
theorem gw_1478 : Cond.methodLink "CarcasswrightLaw" 347 ⟨"CarcasswrightLaw", "meanWidth", "(LCarcasswright;[D)I"⟩ ∈ ce_GW := gT_7 _ (List.mem_of_getElem? (i := 38) rfl) rfl
theorem gw_1479 : Cond.static ⟨"CarcasswrightLaw", "meanWidth", "(LCarcasswright;[D)I"⟩ ∈ ce_GW := gT_7 _ (List.mem_of_getElem? (i := 39) rfl) rfl
theorem gw_1480 : Cond.codeWith ⟨"CarcasswrightLaw", "meanWidth", "(LCarcasswright;[D)I"⟩ method_46_code 3 (Option.some Jvm.ClassFile.FieldType.int) [(0, 7, 10, 44)] ∈ ce_GW := gT_7 _ (List.mem_of_getElem? (i := 40) rfl) rfl
theorem gw_1481 : Cond.methodLink "CarcasswrightLaw" 166 ⟨"Carcasswright", "meanWidth", "()D"⟩ ∈ ce_GW := gT_7 _ (List.mem_of_getElem? (i := 41) rfl) rfl
theorem gw_1482 : Cond.instanceMethod ⟨"Carcasswright", "meanWidth", "()D"⟩ ∈ ce_GW := gT_7 _ (List.mem_of_getElem? (i := 42) rfl) rfl
theorem gw_1483 : Cond.selects "Carcasswright" ⟨"Carcasswright", "meanWidth", "()D"⟩ ⟨"Carcasswright", "meanWidth", "()D"⟩ ∈ ce_GW := gT_7 _ (List.mem_of_getElem? (i := 43) rfl) rfl
theorem gw_1484 : Cond.code ⟨"Carcasswright", "meanWidth", "()D"⟩ prog_1_method_51_code 3 (Option.some Jvm.ClassFile.FieldType.double) ∈ ce_GW := gT_7 _ (List.mem_of_getElem? (i := 44) rfl) rfl
theorem gw_1485 : Cond.classLink "CarcasswrightLaw" 171 "CarcasswrightModel" ∈ ce_GW := gT_7 _ (List.mem_of_getElem? (i := 45) rfl) rfl
theorem gw_1486 : Cond.instantiable "CarcasswrightModel" 20 ∈ ce_GW := gT_7 _ (List.mem_of_getElem? (i := 46) rfl) rfl
theorem gw_1487 : Cond.methodLink "CarcasswrightLaw" 173 ⟨"CarcasswrightModel", "<init>", "()V"⟩ ∈ ce_GW := gT_7 _ (List.mem_of_getElem? (i := 47) rfl) rfl
theorem gw_1488 : Cond.instanceMethod ⟨"CarcasswrightModel", "<init>", "()V"⟩ ∈ ce_GW := gT_7 _ (List.mem_of_getElem? (i := 48) rfl) rfl
theorem gw_1489 : Cond.code ⟨"CarcasswrightModel", "<init>", "()V"⟩ prog_14_method_3_code 1 Option.none ∈ ce_GW := gT_7 _ (List.mem_of_getElem? (i := 49) rfl) rfl
theorem gw_1490 : Cond.methodLink "CarcasswrightModel" 1 ⟨"java/lang/Object", "<init>", "()V"⟩ ∈ ce_GW := gT_7 _ (List.mem_of_getElem? (i := 50) rfl) rfl
theorem gw_1491 : Cond.classLink "CarcasswrightModel" 7 "java/util/ArrayList" ∈ ce_GW := gT_7 _ (List.mem_of_getElem? (i := 51) rfl) rfl
theorem gw_1492 : Cond.instantiable "java/util/ArrayList" 3 ∈ ce_GW := gT_7 _ (List.mem_of_getElem? (i := 52) rfl) rfl
theorem gw_1493 : Cond.methodLink "CarcasswrightModel" 9 ⟨"java/util/ArrayList", "<init>", "()V"⟩ ∈ ce_GW := gT_7 _ (List.mem_of_getElem? (i := 53) rfl) rfl
theorem gw_1494 : Cond.instanceMethod ⟨"java/util/ArrayList", "<init>", "()V"⟩ ∈ ce_GW := gT_7 _ (List.mem_of_getElem? (i := 54) rfl) rfl
theorem gw_1495 : Cond.code ⟨"java/util/ArrayList", "<init>", "()V"⟩ prog_53_method_2_code 1 Option.none ∈ ce_GW := gT_7 _ (List.mem_of_getElem? (i := 55) rfl) rfl
theorem gw_1496 : Cond.methodLink "java/util/ArrayList" 1 ⟨"java/util/AbstractList", "<init>", "()V"⟩ ∈ ce_GW := gT_7 _ (List.mem_of_getElem? (i := 56) rfl) rfl
theorem gw_1497 : Cond.instanceMethod ⟨"java/util/AbstractList", "<init>", "()V"⟩ ∈ ce_GW := gT_7 _ (List.mem_of_getElem? (i := 57) rfl) rfl
theorem gw_1498 : Cond.code ⟨"java/util/AbstractList", "<init>", "()V"⟩ prog_52_method_1_code 1 Option.none ∈ ce_GW := gT_7 _ (List.mem_of_getElem? (i := 58) rfl) rfl
theorem gw_1499 : Cond.methodLink "java/util/AbstractList" 1 ⟨"java/util/AbstractCollection", "<init>", "()V"⟩ ∈ ce_GW := gT_7 _ (List.mem_of_getElem? (i := 59) rfl) rfl
theorem gw_1500 : Cond.instanceMethod ⟨"java/util/AbstractCollection", "<init>", "()V"⟩ ∈ ce_GW := gT_7 _ (List.mem_of_getElem? (i := 60) rfl) rfl
theorem gw_1501 : Cond.code ⟨"java/util/AbstractCollection", "<init>", "()V"⟩ prog_51_method_1_code 1 Option.none ∈ ce_GW := gT_7 _ (List.mem_of_getElem? (i := 61) rfl) rfl
theorem gw_1502 : Cond.methodLink "java/util/AbstractCollection" 1 ⟨"java/lang/Object", "<init>", "()V"⟩ ∈ ce_GW := gT_7 _ (List.mem_of_getElem? (i := 62) rfl) rfl
theorem gw_1503 : Cond.fieldLink "java/util/ArrayList" 39 "java/util/ArrayList" "DEFAULTCAPACITY_EMPTY_ELEMENTDATA" "[Ljava/lang/Object;" ∈ ce_GW := gT_7 _ (List.mem_of_getElem? (i := 63) rfl) rfl
theorem gw_1505 : Cond.fieldLink "java/util/ArrayList" 9 "java/util/ArrayList" "elementData" "[Ljava/lang/Object;" ∈ ce_GW := gT_7 _ (List.mem_of_getElem? (i := 65) rfl) rfl
theorem gw_1508 : Cond.fieldLink "java/util/ArrayList" 48 "java/util/ArrayList" "size" "I" ∈ ce_GW := gT_7 _ (List.mem_of_getElem? (i := 68) rfl) rfl
theorem gw_1509 : Cond.fieldLink "java/util/AbstractList" 7 "java/util/AbstractList" "modCount" "I" ∈ ce_GW := gT_7 _ (List.mem_of_getElem? (i := 69) rfl) rfl
theorem gw_1510 : Cond.fieldLink "java/util/ArrayList$Itr" 17 "java/util/ArrayList" "modCount" "I" ∈ ce_GW := gT_7 _ (List.mem_of_getElem? (i := 70) rfl) rfl
theorem gw_1511 : Cond.sameField "java/util/ArrayList" "java/util/AbstractList" "modCount" "I" ∈ ce_GW := gT_7 _ (List.mem_of_getElem? (i := 71) rfl) rfl
theorem gw_1512 : Cond.fieldLink "java/util/ArrayList" 63 "java/util/ArrayList" "modCount" "I" ∈ ce_GW := gT_7 _ (List.mem_of_getElem? (i := 72) rfl) rfl
theorem gw_1521 : Cond.fieldLink "CarcasswrightModel" 54 "CarcasswrightModel" "thrown" "I" ∈ ce_GW := gT_7 _ (List.mem_of_getElem? (i := 81) rfl) rfl
theorem gw_1522 : Cond.fieldLink "CarcasswrightModel" 10 "CarcasswrightModel" "walls" "Ljava/util/ArrayList;" ∈ ce_GW := gT_7 _ (List.mem_of_getElem? (i := 82) rfl) rfl
theorem gw_1523 : Cond.fieldLink "CarcasswrightModel" 16 "CarcasswrightModel" "obstacles" "Ljava/util/ArrayList;" ∈ ce_GW := gT_7 _ (List.mem_of_getElem? (i := 83) rfl) rfl
theorem gw_1524 : Cond.fieldLink "CarcasswrightModel" 21 "CarcasswrightModel" "text" "Ljava/lang/String;" ∈ ce_GW := gT_7 _ (List.mem_of_getElem? (i := 84) rfl) rfl
theorem gw_1525 : Cond.fieldLink "CarcasswrightModel" 25 "CarcasswrightModel" "types" "Ljava/util/ArrayList;" ∈ ce_GW := gT_7 _ (List.mem_of_getElem? (i := 85) rfl) rfl
theorem gw_1526 : Cond.fieldLink "CarcasswrightModel" 28 "CarcasswrightModel" "modules" "Ljava/util/ArrayList;" ∈ ce_GW := gT_7 _ (List.mem_of_getElem? (i := 86) rfl) rfl
theorem gw_1527 : Cond.fieldLink "CarcasswrightModel" 31 "CarcasswrightModel" "stock" "Ljava/util/ArrayList;" ∈ ce_GW := gT_7 _ (List.mem_of_getElem? (i := 87) rfl) rfl
theorem gw_1528 : Cond.fieldLink "CarcasswrightModel" 34 "CarcasswrightModel" "jobs" "Ljava/util/ArrayList;" ∈ ce_GW := gT_7 _ (List.mem_of_getElem? (i := 88) rfl) rfl
theorem gw_1529 : Cond.fieldLink "CarcasswrightModel" 37 "CarcasswrightModel" "rates" "[I" ∈ ce_GW := gT_7 _ (List.mem_of_getElem? (i := 89) rfl) rfl
theorem gw_1530 : Cond.fieldLink "CarcasswrightModel" 41 "CarcasswrightModel" "setup" "I" ∈ ce_GW := gT_7 _ (List.mem_of_getElem? (i := 90) rfl) rfl
theorem gw_1531 : Cond.fieldLink "CarcasswrightModel" 383 "CarcasswrightModel" "came" "J" ∈ ce_GW := gT_7 _ (List.mem_of_getElem? (i := 91) rfl) rfl
theorem gw_1532 : Cond.fieldLink "CarcasswrightModel" 440 "CarcasswrightModel" "dust" "J" ∈ ce_GW := gT_7 _ (List.mem_of_getElem? (i := 92) rfl) rfl
theorem gw_1533 : Cond.fieldLink "CarcasswrightModel" 320 "CarcasswrightModel" "scrap" "J" ∈ ce_GW := gT_7 _ (List.mem_of_getElem? (i := 93) rfl) rfl
theorem gw_1534 : Cond.fieldLink "CarcasswrightModel" 45 "CarcasswrightModel" "clashes" "Ljava/lang/String;" ∈ ce_GW := gT_7 _ (List.mem_of_getElem? (i := 94) rfl) rfl
theorem gw_1535 : Cond.fieldLink "CarcasswrightModel" 48 "CarcasswrightModel" "clashNumbers" "[I" ∈ ce_GW := gT_7 _ (List.mem_of_getElem? (i := 95) rfl) rfl
theorem gw_1536 : Cond.fieldLink "CarcasswrightModel" 185 "CarcasswrightModel" "read" "LCarcasswrightModel$Type;" ∈ ce_GW := gT_7 _ (List.mem_of_getElem? (i := 96) rfl) rfl
theorem gw_1537 : Cond.fieldLink "CarcasswrightModel" 176 "CarcasswrightModel" "fault" "C" ∈ ce_GW := gT_7 _ (List.mem_of_getElem? (i := 97) rfl) rfl
theorem gw_1538 : Cond.fieldLink "CarcasswrightModel" 179 "CarcasswrightModel" "faultAt" "I" ∈ ce_GW := gT_7 _ (List.mem_of_getElem? (i := 98) rfl) rfl
theorem gw_1539 : Cond.fieldLink "CarcasswrightModel" 460 "CarcasswrightModel" "least" "I" ∈ ce_GW := gT_7 _ (List.mem_of_getElem? (i := 99) rfl) rfl
theorem gw_1540 : Cond.fieldLink "CarcasswrightModel" 51 "CarcasswrightModel" "order" "[I" ∈ ce_GW := gT_7 _ (List.mem_of_getElem? (i := 100) rfl) rfl
theorem gw_1582 : Cond.arrayClass Jvm.ClassFile.FieldType.byte ∈ ce_GW := gT_7 _ (List.mem_of_getElem? (i := 142) rfl) rfl
theorem gw_1583 : Cond.methodLink "CarcasswrightLaw" 180 ⟨"CarcasswrightModel", "thrown", "()I"⟩ ∈ ce_GW := gT_7 _ (List.mem_of_getElem? (i := 143) rfl) rfl
theorem gw_1584 : Cond.instanceMethod ⟨"CarcasswrightModel", "thrown", "()I"⟩ ∈ ce_GW := gT_7 _ (List.mem_of_getElem? (i := 144) rfl) rfl
theorem gw_1585 : Cond.selects "CarcasswrightModel" ⟨"CarcasswrightModel", "thrown", "()I"⟩ ⟨"CarcasswrightModel", "thrown", "()I"⟩ ∈ ce_GW := gT_7 _ (List.mem_of_getElem? (i := 145) rfl) rfl
theorem gw_1586 : Cond.code ⟨"CarcasswrightModel", "thrown", "()I"⟩ prog_14_method_4_code 1 (Option.some Jvm.ClassFile.FieldType.int) ∈ ce_GW := gT_7 _ (List.mem_of_getElem? (i := 146) rfl) rfl
theorem gw_1587 : Cond.methodLink "CarcasswrightLaw" 179 ⟨"CarcasswrightModel", "addWall", "(CI)I"⟩ ∈ ce_GW := gT_7 _ (List.mem_of_getElem? (i := 147) rfl) rfl
theorem gw_1588 : Cond.instanceMethod ⟨"CarcasswrightModel", "addWall", "(CI)I"⟩ ∈ ce_GW := gT_7 _ (List.mem_of_getElem? (i := 148) rfl) rfl
theorem gw_1589 : Cond.selects "CarcasswrightModel" ⟨"CarcasswrightModel", "addWall", "(CI)I"⟩ ⟨"CarcasswrightModel", "addWall", "(CI)I"⟩ ∈ ce_GW := gT_7 _ (List.mem_of_getElem? (i := 149) rfl) rfl
theorem gw_1590 : Cond.code ⟨"CarcasswrightModel", "addWall", "(CI)I"⟩ prog_14_method_6_code 3 (Option.some Jvm.ClassFile.FieldType.int) ∈ ce_GW := gT_7 _ (List.mem_of_getElem? (i := 150) rfl) rfl
theorem gw_1592 : Cond.methodLink "CarcasswrightModel" 59 ⟨"java/lang/String", "indexOf", "(I)I"⟩ ∈ ce_GW := gT_7 _ (List.mem_of_getElem? (i := 152) rfl) rfl
theorem gw_1593 : Cond.instanceMethod ⟨"java/lang/String", "indexOf", "(I)I"⟩ ∈ ce_GW := gT_7 _ (List.mem_of_getElem? (i := 153) rfl) rfl
theorem gw_1594 : Cond.selects "java/lang/String" ⟨"java/lang/String", "indexOf", "(I)I"⟩ ⟨"java/lang/String", "indexOf", "(I)I"⟩ ∈ ce_GW := gT_7 _ (List.mem_of_getElem? (i := 154) rfl) rfl
theorem gw_1595 : Cond.code ⟨"java/lang/String", "indexOf", "(I)I"⟩ prog_42_method_79_code 2 (Option.some Jvm.ClassFile.FieldType.int) ∈ ce_GW := gT_7 _ (List.mem_of_getElem? (i := 155) rfl) rfl
theorem gw_1596 : Cond.methodLink "java/lang/String" 633 ⟨"java/lang/String", "indexOf", "(II)I"⟩ ∈ ce_GW := gT_7 _ (List.mem_of_getElem? (i := 156) rfl) rfl
theorem gw_1597 : Cond.instanceMethod ⟨"java/lang/String", "indexOf", "(II)I"⟩ ∈ ce_GW := gT_7 _ (List.mem_of_getElem? (i := 157) rfl) rfl
theorem gw_1598 : Cond.selects "java/lang/String" ⟨"java/lang/String", "indexOf", "(II)I"⟩ ⟨"java/lang/String", "indexOf", "(II)I"⟩ ∈ ce_GW := gT_7 _ (List.mem_of_getElem? (i := 158) rfl) rfl
theorem gw_1599 : Cond.code ⟨"java/lang/String", "indexOf", "(II)I"⟩ prog_42_method_80_code 3 (Option.some Jvm.ClassFile.FieldType.int) ∈ ce_GW := gT_7 _ (List.mem_of_getElem? (i := 159) rfl) rfl
theorem gw_1600 : Cond.methodLink "java/lang/String" 492 ⟨"java/lang/String", "isLatin1", "()Z"⟩ ∈ ce_GW := gT_7 _ (List.mem_of_getElem? (i := 160) rfl) rfl
theorem gw_1601 : Cond.instanceMethod ⟨"java/lang/String", "isLatin1", "()Z"⟩ ∈ ce_GW := gT_7 _ (List.mem_of_getElem? (i := 161) rfl) rfl
theorem gw_1602 : Cond.selects "java/lang/String" ⟨"java/lang/String", "isLatin1", "()Z"⟩ ⟨"java/lang/String", "isLatin1", "()Z"⟩ ∈ ce_GW := gT_7 _ (List.mem_of_getElem? (i := 162) rfl) rfl
theorem gw_1603 : Cond.code ⟨"java/lang/String", "isLatin1", "()Z"⟩ prog_42_method_154_code 1 (Option.some Jvm.ClassFile.FieldType.boolean) ∈ ce_GW := gT_7 _ (List.mem_of_getElem? (i := 163) rfl) rfl
theorem gw_1604 : Cond.fieldLink "java/lang/String" 38 "java/lang/String" "COMPACT_STRINGS" "Z" ∈ ce_GW := gT_7 _ (List.mem_of_getElem? (i := 164) rfl) rfl
theorem gw_1606 : Cond.methodLink "java/lang/String" 505 ⟨"java/lang/String", "length", "()I"⟩ ∈ ce_GW := gT_7 _ (List.mem_of_getElem? (i := 166) rfl) rfl
theorem gw_1607 : Cond.instanceMethod ⟨"java/lang/String", "length", "()I"⟩ ∈ ce_GW := gT_7 _ (List.mem_of_getElem? (i := 167) rfl) rfl
theorem gw_1608 : Cond.selects "java/lang/String" ⟨"java/lang/String", "length", "()I"⟩ ⟨"java/lang/String", "length", "()I"⟩ ∈ ce_GW := gT_7 _ (List.mem_of_getElem? (i := 168) rfl) rfl
theorem gw_1609 : Cond.code ⟨"java/lang/String", "length", "()I"⟩ prog_42_method_54_code 1 (Option.some Jvm.ClassFile.FieldType.int) ∈ ce_GW := gT_7 _ (List.mem_of_getElem? (i := 169) rfl) rfl
theorem gw_1610 : Cond.methodLink "java/lang/String" 335 ⟨"java/lang/String", "coder", "()B"⟩ ∈ ce_GW := gT_7 _ (List.mem_of_getElem? (i := 170) rfl) rfl
theorem gw_1611 : Cond.instanceMethod ⟨"java/lang/String", "coder", "()B"⟩ ∈ ce_GW := gT_7 _ (List.mem_of_getElem? (i := 171) rfl) rfl
theorem gw_1612 : Cond.selects "java/lang/String" ⟨"java/lang/String", "coder", "()B"⟩ ⟨"java/lang/String", "coder", "()B"⟩ ∈ ce_GW := gT_7 _ (List.mem_of_getElem? (i := 172) rfl) rfl
theorem gw_1613 : Cond.code ⟨"java/lang/String", "coder", "()B"⟩ prog_42_method_152_code 1 (Option.some Jvm.ClassFile.FieldType.byte) ∈ ce_GW := gT_7 _ (List.mem_of_getElem? (i := 173) rfl) rfl
theorem gw_1614 : Cond.methodLink "java/lang/String" 637 ⟨"java/lang/StringLatin1", "indexOf", "([BIII)I"⟩ ∈ ce_GW := gT_7 _ (List.mem_of_getElem? (i := 174) rfl) rfl
theorem gw_1615 : Cond.static ⟨"java/lang/StringLatin1", "indexOf", "([BIII)I"⟩ ∈ ce_GW := gT_7 _ (List.mem_of_getElem? (i := 175) rfl) rfl
theorem gw_1616 : Cond.code ⟨"java/lang/StringLatin1", "indexOf", "([BIII)I"⟩ prog_44_method_22_code 4 (Option.some Jvm.ClassFile.FieldType.int) ∈ ce_GW := gT_7 _ (List.mem_of_getElem? (i := 176) rfl) rfl
theorem gw_1617 : Cond.methodLink "java/lang/StringLatin1" 88 ⟨"java/lang/StringLatin1", "canEncode", "(I)Z"⟩ ∈ ce_GW := gT_7 _ (List.mem_of_getElem? (i := 177) rfl) rfl
theorem gw_1618 : Cond.static ⟨"java/lang/StringLatin1", "canEncode", "(I)Z"⟩ ∈ ce_GW := gT_7 _ (List.mem_of_getElem? (i := 178) rfl) rfl
theorem gw_1619 : Cond.code ⟨"java/lang/StringLatin1", "canEncode", "(I)Z"⟩ prog_44_method_4_code 1 (Option.some Jvm.ClassFile.FieldType.boolean) ∈ ce_GW := gT_7 _ (List.mem_of_getElem? (i := 179) rfl) rfl
theorem gw_1620 : Cond.methodLink "java/lang/StringLatin1" 92 ⟨"java/lang/Math", "max", "(II)I"⟩ ∈ ce_GW := gT_7 _ (List.mem_of_getElem? (i := 180) rfl) rfl
theorem gw_1621 : Cond.methodLink "java/lang/StringLatin1" 38 ⟨"java/lang/Math", "min", "(II)I"⟩ ∈ ce_GW := gT_7 _ (List.mem_of_getElem? (i := 181) rfl) rfl
theorem gw_1622 : Cond.methodLink "java/lang/StringLatin1" 95 ⟨"java/lang/StringLatin1", "indexOfChar", "([BIII)I"⟩ ∈ ce_GW := gT_7 _ (List.mem_of_getElem? (i := 182) rfl) rfl
theorem gw_1623 : Cond.static ⟨"java/lang/StringLatin1", "indexOfChar", "([BIII)I"⟩ ∈ ce_GW := gT_7 _ (List.mem_of_getElem? (i := 183) rfl) rfl
theorem gw_1624 : Cond.code ⟨"java/lang/StringLatin1", "indexOfChar", "([BIII)I"⟩ prog_44_method_23_code 6 (Option.some Jvm.ClassFile.FieldType.int) ∈ ce_GW := gT_7 _ (List.mem_of_getElem? (i := 184) rfl) rfl
theorem gw_1637 : Cond.methodLink "java/lang/StringUTF16" 48 ⟨"java/lang/StringUTF16", "length", "([B)I"⟩ ∈ ce_GW := gT_7 _ (List.mem_of_getElem? (i := 197) rfl) rfl
theorem gw_1638 : Cond.static ⟨"java/lang/StringUTF16", "length", "([B)I"⟩ ∈ ce_GW := gT_7 _ (List.mem_of_getElem? (i := 198) rfl) rfl
theorem gw_1639 : Cond.code ⟨"java/lang/StringUTF16", "length", "([B)I"⟩ prog_45_method_6_code 1 (Option.some Jvm.ClassFile.FieldType.int) ∈ ce_GW := gT_7 _ (List.mem_of_getElem? (i := 199) rfl) rfl
theorem gw_1643 : Cond.fieldLink "java/lang/String" 1053 "jdk/internal/util/Preconditions" "SIOOBE_FORMATTER" "Ljava/util/function/BiFunction;" ∈ ce_GW := gT_7 _ (List.mem_of_getElem? (i := 203) rfl) rfl
theorem gw_1654 : Cond.fieldLink "java/lang/StringUTF16" 44 "java/lang/StringUTF16" "$assertionsDisabled" "Z" ∈ ce_GW := gT_7 _ (List.mem_of_getElem? (i := 214) rfl) rfl
theorem gw_1656 : Cond.fieldLink "java/lang/StringUTF16" 59 "java/lang/StringUTF16" "HI_BYTE_SHIFT" "I" ∈ ce_GW := gT_7 _ (List.mem_of_getElem? (i := 216) rfl) rfl
theorem gw_1658 : Cond.fieldLink "java/lang/StringUTF16" 63 "java/lang/StringUTF16" "LO_BYTE_SHIFT" "I" ∈ ce_GW := gT_7 _ (List.mem_of_getElem? (i := 218) rfl) rfl
theorem gw_1674 : Cond.methodLink "CarcasswrightModel" 65 ⟨"CarcasswrightModel", "in", "(III)Z"⟩ ∈ ce_GW := gT_7 _ (List.mem_of_getElem? (i := 234) rfl) rfl
theorem gw_1675 : Cond.static ⟨"CarcasswrightModel", "in", "(III)Z"⟩ ∈ ce_GW := gT_7 _ (List.mem_of_getElem? (i := 235) rfl) rfl
theorem gw_1676 : Cond.code ⟨"CarcasswrightModel", "in", "(III)Z"⟩ prog_14_method_1_code 3 (Option.some Jvm.ClassFile.FieldType.boolean) ∈ ce_GW := gT_7 _ (List.mem_of_getElem? (i := 236) rfl) rfl
theorem gw_1677 : Cond.methodLink "CarcasswrightModel" 69 ⟨"java/util/ArrayList", "size", "()I"⟩ ∈ ce_GW := gT_7 _ (List.mem_of_getElem? (i := 237) rfl) rfl
theorem gw_1678 : Cond.instanceMethod ⟨"java/util/ArrayList", "size", "()I"⟩ ∈ ce_GW := gT_7 _ (List.mem_of_getElem? (i := 238) rfl) rfl
theorem gw_1679 : Cond.selects "java/util/ArrayList" ⟨"java/util/ArrayList", "size", "()I"⟩ ⟨"java/util/ArrayList", "size", "()I"⟩ ∈ ce_GW := gT_7 _ (List.mem_of_getElem? (i := 239) rfl) rfl
theorem gw_1680 : Cond.code ⟨"java/util/ArrayList", "size", "()I"⟩ prog_53_method_8_code 1 (Option.some Jvm.ClassFile.FieldType.int) ∈ ce_GW := gT_8 _ (List.mem_of_getElem? (i := 0) rfl) rfl
theorem gw_1681 : Cond.methodLink "CarcasswrightModel" 73 ⟨"java/util/ArrayList", "isEmpty", "()Z"⟩ ∈ ce_GW := gT_8 _ (List.mem_of_getElem? (i := 1) rfl) rfl
theorem gw_1682 : Cond.instanceMethod ⟨"java/util/ArrayList", "isEmpty", "()Z"⟩ ∈ ce_GW := gT_8 _ (List.mem_of_getElem? (i := 2) rfl) rfl
theorem gw_1683 : Cond.selects "java/util/ArrayList" ⟨"java/util/ArrayList", "isEmpty", "()Z"⟩ ⟨"java/util/ArrayList", "isEmpty", "()Z"⟩ ∈ ce_GW := gT_8 _ (List.mem_of_getElem? (i := 3) rfl) rfl
theorem gw_1684 : Cond.code ⟨"java/util/ArrayList", "isEmpty", "()Z"⟩ prog_53_method_9_code 1 (Option.some Jvm.ClassFile.FieldType.boolean) ∈ ce_GW := gT_8 _ (List.mem_of_getElem? (i := 4) rfl) rfl
theorem gw_1685 : Cond.classLink "CarcasswrightModel" 77 "CarcasswrightModel$Wall" ∈ ce_GW := gT_8 _ (List.mem_of_getElem? (i := 5) rfl) rfl
theorem gw_1686 : Cond.instantiable "CarcasswrightModel$Wall" 5 ∈ ce_GW := gT_8 _ (List.mem_of_getElem? (i := 6) rfl) rfl
theorem gw_1687 : Cond.methodLink "CarcasswrightModel" 79 ⟨"CarcasswrightModel$Wall", "<init>", "(CI)V"⟩ ∈ ce_GW := gT_8 _ (List.mem_of_getElem? (i := 7) rfl) rfl
theorem gw_1688 : Cond.instanceMethod ⟨"CarcasswrightModel$Wall", "<init>", "(CI)V"⟩ ∈ ce_GW := gT_8 _ (List.mem_of_getElem? (i := 8) rfl) rfl
theorem gw_1689 : Cond.code ⟨"CarcasswrightModel$Wall", "<init>", "(CI)V"⟩ prog_23_method_1_code 3 Option.none ∈ ce_GW := gT_8 _ (List.mem_of_getElem? (i := 9) rfl) rfl
theorem gw_1690 : Cond.methodLink "CarcasswrightModel$Wall" 1 ⟨"java/lang/Object", "<init>", "()V"⟩ ∈ ce_GW := gT_8 _ (List.mem_of_getElem? (i := 10) rfl) rfl
theorem gw_1691 : Cond.fieldLink "CarcasswrightModel$Wall" 7 "CarcasswrightModel$Wall" "way" "C" ∈ ce_GW := gT_8 _ (List.mem_of_getElem? (i := 11) rfl) rfl
theorem gw_1693 : Cond.fieldLink "CarcasswrightModel$Wall" 13 "CarcasswrightModel$Wall" "measured" "I" ∈ ce_GW := gT_8 _ (List.mem_of_getElem? (i := 13) rfl) rfl
theorem gw_1695 : Cond.fieldLink "CarcasswrightModel$Wall" 17 "CarcasswrightModel$Wall" "length" "I" ∈ ce_GW := gT_8 _ (List.mem_of_getElem? (i := 15) rfl) rfl
theorem gw_1710 : Cond.methodLink "CarcasswrightModel" 82 ⟨"java/util/ArrayList", "add", "(Ljava/lang/Object;)Z"⟩ ∈ ce_GW := gT_8 _ (List.mem_of_getElem? (i := 30) rfl) rfl
theorem gw_1711 : Cond.instanceMethod ⟨"java/util/ArrayList", "add", "(Ljava/lang/Object;)Z"⟩ ∈ ce_GW := gT_8 _ (List.mem_of_getElem? (i := 31) rfl) rfl
theorem gw_1712 : Cond.selects "java/util/ArrayList" ⟨"java/util/ArrayList", "add", "(Ljava/lang/Object;)Z"⟩ ⟨"java/util/ArrayList", "add", "(Ljava/lang/Object;)Z"⟩ ∈ ce_GW := gT_8 _ (List.mem_of_getElem? (i := 32) rfl) rfl
theorem gw_1713 : Cond.code ⟨"java/util/ArrayList", "add", "(Ljava/lang/Object;)Z"⟩ prog_53_method_25_code 2 (Option.some Jvm.ClassFile.FieldType.boolean) ∈ ce_GW := gT_8 _ (List.mem_of_getElem? (i := 33) rfl) rfl
theorem gw_1714 : Cond.methodLink "java/util/ArrayList" 131 ⟨"java/util/ArrayList", "add", "(Ljava/lang/Object;[Ljava/lang/Object;I)V"⟩ ∈ ce_GW := gT_8 _ (List.mem_of_getElem? (i := 34) rfl) rfl
theorem gw_1716 : Cond.instanceMethod ⟨"java/util/ArrayList", "add", "(Ljava/lang/Object;[Ljava/lang/Object;I)V"⟩ ∈ ce_GW := gT_8 _ (List.mem_of_getElem? (i := 36) rfl) rfl
theorem gw_1717 : Cond.code ⟨"java/util/ArrayList", "add", "(Ljava/lang/Object;[Ljava/lang/Object;I)V"⟩ prog_53_method_24_code 4 Option.none ∈ ce_GW := gT_8 _ (List.mem_of_getElem? (i := 37) rfl) rfl
theorem gw_1718 : Cond.methodLink "java/util/ArrayList" 129 ⟨"java/util/ArrayList", "grow", "()[Ljava/lang/Object;"⟩ ∈ ce_GW := gT_8 _ (List.mem_of_getElem? (i := 38) rfl) rfl
theorem gw_1720 : Cond.instanceMethod ⟨"java/util/ArrayList", "grow", "()[Ljava/lang/Object;"⟩ ∈ ce_GW := gT_8 _ (List.mem_of_getElem? (i := 40) rfl) rfl
theorem gw_1721 : Cond.code ⟨"java/util/ArrayList", "grow", "()[Ljava/lang/Object;"⟩ prog_53_method_7_code 1 (Option.some (Jvm.ClassFile.FieldType.array (Jvm.ClassFile.FieldType.object "java/lang/Object"))) ∈ ce_GW := gT_8 _ (List.mem_of_getElem? (i := 41) rfl) rfl
theorem gw_1722 : Cond.methodLink "java/util/ArrayList" 69 ⟨"java/util/ArrayList", "grow", "(I)[Ljava/lang/Object;"⟩ ∈ ce_GW := gT_8 _ (List.mem_of_getElem? (i := 42) rfl) rfl
theorem gw_1724 : Cond.instanceMethod ⟨"java/util/ArrayList", "grow", "(I)[Ljava/lang/Object;"⟩ ∈ ce_GW := gT_8 _ (List.mem_of_getElem? (i := 44) rfl) rfl
theorem gw_1725 : Cond.code ⟨"java/util/ArrayList", "grow", "(I)[Ljava/lang/Object;"⟩ prog_53_method_6_code 4 (Option.some (Jvm.ClassFile.FieldType.array (Jvm.ClassFile.FieldType.object "java/lang/Object"))) ∈ ce_GW := gT_8 _ (List.mem_of_getElem? (i := 45) rfl) rfl
theorem gw_1726 : Cond.methodLink "java/util/ArrayList" 73 ⟨"jdk/internal/util/ArraysSupport", "newLength", "(III)I"⟩ ∈ ce_GW := gT_8 _ (List.mem_of_getElem? (i := 46) rfl) rfl
theorem gw_1727 : Cond.static ⟨"jdk/internal/util/ArraysSupport", "newLength", "(III)I"⟩ ∈ ce_GW := gT_8 _ (List.mem_of_getElem? (i := 47) rfl) rfl
theorem gw_1728 : Cond.code ⟨"jdk/internal/util/ArraysSupport", "newLength", "(III)I"⟩ prog_63_method_27_code 4 (Option.some Jvm.ClassFile.FieldType.int) ∈ ce_GW := gT_8 _ (List.mem_of_getElem? (i := 48) rfl) rfl
theorem gw_1729 : Cond.methodLink "jdk/internal/util/ArraysSupport" 194 ⟨"java/lang/Math", "max", "(II)I"⟩ ∈ ce_GW := gT_8 _ (List.mem_of_getElem? (i := 49) rfl) rfl
theorem gw_1730 : Cond.constant "jdk/internal/util/ArraysSupport" 200 (Int32.ofInt 2147483639) ∈ ce_GW := gT_8 _ (List.mem_of_getElem? (i := 50) rfl) rfl
theorem gw_1734 : Cond.methodLink "java/util/ArrayList" 66 ⟨"java/util/Arrays", "copyOf", "([Ljava/lang/Object;I)[Ljava/lang/Object;"⟩ ∈ ce_GW := gT_8 _ (List.mem_of_getElem? (i := 54) rfl) rfl
theorem gw_1735 : Cond.static ⟨"java/util/Arrays", "copyOf", "([Ljava/lang/Object;I)[Ljava/lang/Object;"⟩ ∈ ce_GW := gT_8 _ (List.mem_of_getElem? (i := 55) rfl) rfl
theorem gw_1736 : Cond.code ⟨"java/util/Arrays", "copyOf", "([Ljava/lang/Object;I)[Ljava/lang/Object;"⟩ prog_55_method_119_code 2 (Option.some (Jvm.ClassFile.FieldType.array (Jvm.ClassFile.FieldType.object "java/lang/Object"))) ∈ ce_GW := gT_8 _ (List.mem_of_getElem? (i := 56) rfl) rfl
theorem gw_1737 : Cond.methodLink "java/util/Arrays" 86 ⟨"java/lang/Object", "getClass", "()Ljava/lang/Class;"⟩ ∈ ce_GW := gT_8 _ (List.mem_of_getElem? (i := 57) rfl) rfl
theorem gw_1738 : Cond.instanceMethod ⟨"java/lang/Object", "getClass", "()Ljava/lang/Class;"⟩ ∈ ce_GW := gT_8 _ (List.mem_of_getElem? (i := 58) rfl) rfl
theorem gw_1772 : Cond.native ⟨"java/lang/Object", "getClass", "()Ljava/lang/Class;"⟩ ∈ ce_GW := gT_8 _ (List.mem_of_getElem? (i := 92) rfl) rfl
theorem gw_1773 : Cond.methodLink "java/util/Arrays" 300 ⟨"java/util/Arrays", "copyOf", "([Ljava/lang/Object;ILjava/lang/Class;)[Ljava/lang/Object;"⟩ ∈ ce_GW := gT_8 _ (List.mem_of_getElem? (i := 93) rfl) rfl
theorem gw_1774 : Cond.static ⟨"java/util/Arrays", "copyOf", "([Ljava/lang/Object;ILjava/lang/Class;)[Ljava/lang/Object;"⟩ ∈ ce_GW := gT_8 _ (List.mem_of_getElem? (i := 94) rfl) rfl
theorem gw_1775 : Cond.code ⟨"java/util/Arrays", "copyOf", "([Ljava/lang/Object;ILjava/lang/Class;)[Ljava/lang/Object;"⟩ prog_55_method_120_code 4 (Option.some (Jvm.ClassFile.FieldType.array (Jvm.ClassFile.FieldType.object "java/lang/Object"))) ∈ ce_GW := gT_8 _ (List.mem_of_getElem? (i := 95) rfl) rfl
theorem gw_1776 : Cond.classLink "java/util/Arrays" 110 "[Ljava/lang/Object;" ∈ ce_GW := gT_8 _ (List.mem_of_getElem? (i := 96) rfl) rfl
theorem gw_1778 : Cond.classLink "java/util/Arrays" 2 "java/lang/Object" ∈ ce_GW := gT_8 _ (List.mem_of_getElem? (i := 98) rfl) rfl
theorem gw_1779 : Cond.methodLink "java/util/Arrays" 304 ⟨"java/lang/Math", "min", "(II)I"⟩ ∈ ce_GW := gT_8 _ (List.mem_of_getElem? (i := 99) rfl) rfl
theorem gw_1780 : Cond.methodLink "java/util/Arrays" 150 ⟨"java/lang/System", "arraycopy", "(Ljava/lang/Object;ILjava/lang/Object;II)V"⟩ ∈ ce_GW := gT_8 _ (List.mem_of_getElem? (i := 100) rfl) rfl
theorem gw_1781 : Cond.static ⟨"java/lang/System", "arraycopy", "(Ljava/lang/Object;ILjava/lang/Object;II)V"⟩ ∈ ce_GW := gT_8 _ (List.mem_of_getElem? (i := 101) rfl) rfl
theorem gw_1782 : Cond.native ⟨"java/lang/System", "arraycopy", "(Ljava/lang/Object;ILjava/lang/Object;II)V"⟩ ∈ ce_GW := gT_8 _ (List.mem_of_getElem? (i := 102) rfl) rfl
theorem gw_1783 : Cond.methodLink "java/util/ArrayList" 79 ⟨"java/lang/Math", "max", "(II)I"⟩ ∈ ce_GW := gT_8 _ (List.mem_of_getElem? (i := 103) rfl) rfl
theorem gw_1784 : Cond.classLink "java/util/ArrayList" 7 "java/lang/Object" ∈ ce_GW := gT_8 _ (List.mem_of_getElem? (i := 104) rfl) rfl
theorem gw_1785 : Cond.methodLink "CarcasswrightLaw" 186 ⟨"CarcasswrightModel", "close", "()I"⟩ ∈ ce_GW := gT_8 _ (List.mem_of_getElem? (i := 105) rfl) rfl
theorem gw_1786 : Cond.instanceMethod ⟨"CarcasswrightModel", "close", "()I"⟩ ∈ ce_GW := gT_8 _ (List.mem_of_getElem? (i := 106) rfl) rfl
theorem gw_1787 : Cond.selects "CarcasswrightModel" ⟨"CarcasswrightModel", "close", "()I"⟩ ⟨"CarcasswrightModel", "close", "()I"⟩ ∈ ce_GW := gT_8 _ (List.mem_of_getElem? (i := 107) rfl) rfl
theorem gw_1788 : Cond.code ⟨"CarcasswrightModel", "close", "()I"⟩ prog_14_method_11_code 6 (Option.some Jvm.ClassFile.FieldType.int) ∈ ce_GW := gT_8 _ (List.mem_of_getElem? (i := 108) rfl) rfl
theorem gw_1797 : Cond.methodLink "CarcasswrightModel" 86 ⟨"java/util/ArrayList", "iterator", "()Ljava/util/Iterator;"⟩ ∈ ce_GW := gT_8 _ (List.mem_of_getElem? (i := 117) rfl) rfl
theorem gw_1798 : Cond.instanceMethod ⟨"java/util/ArrayList", "iterator", "()Ljava/util/Iterator;"⟩ ∈ ce_GW := gT_8 _ (List.mem_of_getElem? (i := 118) rfl) rfl
theorem gw_1799 : Cond.selects "java/util/ArrayList" ⟨"java/util/ArrayList", "iterator", "()Ljava/util/Iterator;"⟩ ⟨"java/util/ArrayList", "iterator", "()Ljava/util/Iterator;"⟩ ∈ ce_GW := gT_8 _ (List.mem_of_getElem? (i := 119) rfl) rfl
theorem gw_1800 : Cond.code ⟨"java/util/ArrayList", "iterator", "()Ljava/util/Iterator;"⟩ prog_53_method_55_code 1 (Option.some (Jvm.ClassFile.FieldType.object "java/util/Iterator")) ∈ ce_GW := gT_8 _ (List.mem_of_getElem? (i := 120) rfl) rfl
theorem gw_1801 : Cond.classLink "java/util/ArrayList" 267 "java/util/ArrayList$Itr" ∈ ce_GW := gT_8 _ (List.mem_of_getElem? (i := 121) rfl) rfl
theorem gw_1802 : Cond.instantiable "java/util/ArrayList$Itr" 4 ∈ ce_GW := gT_8 _ (List.mem_of_getElem? (i := 122) rfl) rfl
theorem gw_1803 : Cond.methodLink "java/util/ArrayList" 269 ⟨"java/util/ArrayList$Itr", "<init>", "(Ljava/util/ArrayList;)V"⟩ ∈ ce_GW := gT_8 _ (List.mem_of_getElem? (i := 123) rfl) rfl
theorem gw_1804 : Cond.instanceMethod ⟨"java/util/ArrayList$Itr", "<init>", "(Ljava/util/ArrayList;)V"⟩ ∈ ce_GW := gT_8 _ (List.mem_of_getElem? (i := 124) rfl) rfl
theorem gw_1805 : Cond.code ⟨"java/util/ArrayList$Itr", "<init>", "(Ljava/util/ArrayList;)V"⟩ prog_54_method_1_code 2 Option.none ∈ ce_GW := gT_8 _ (List.mem_of_getElem? (i := 125) rfl) rfl
theorem gw_1806 : Cond.methodLink "java/util/ArrayList$Itr" 7 ⟨"java/lang/Object", "<init>", "()V"⟩ ∈ ce_GW := gT_8 _ (List.mem_of_getElem? (i := 126) rfl) rfl
theorem gw_1807 : Cond.fieldLink "java/util/ArrayList$Itr" 25 "java/util/ArrayList$Itr" "cursor" "I" ∈ ce_GW := gT_8 _ (List.mem_of_getElem? (i := 127) rfl) rfl
theorem gw_1808 : Cond.fieldLink "java/util/ArrayList$Itr" 13 "java/util/ArrayList$Itr" "lastRet" "I" ∈ ce_GW := gT_8 _ (List.mem_of_getElem? (i := 128) rfl) rfl
theorem gw_1809 : Cond.fieldLink "java/util/ArrayList$Itr" 22 "java/util/ArrayList$Itr" "expectedModCount" "I" ∈ ce_GW := gT_8 _ (List.mem_of_getElem? (i := 129) rfl) rfl
theorem gw_1810 : Cond.fieldLink "java/util/ArrayList$Itr" 1 "java/util/ArrayList$Itr" "this$0" "Ljava/util/ArrayList;" ∈ ce_GW := gT_8 _ (List.mem_of_getElem? (i := 130) rfl) rfl
theorem gw_1821 : Cond.methodLink "CarcasswrightModel" 90 ⟨"java/util/Iterator", "hasNext", "()Z"⟩ ∈ ce_GW := gT_8 _ (List.mem_of_getElem? (i := 141) rfl) rfl
theorem gw_1825 : Cond.selects "java/util/ArrayList$Itr" ⟨"java/util/Iterator", "hasNext", "()Z"⟩ ⟨"java/util/ArrayList$Itr", "hasNext", "()Z"⟩ ∈ ce_GW := gT_8 _ (List.mem_of_getElem? (i := 145) rfl) rfl
theorem gw_1827 : Cond.instanceMethod ⟨"java/util/ArrayList$Itr", "hasNext", "()Z"⟩ ∈ ce_GW := gT_8 _ (List.mem_of_getElem? (i := 147) rfl) rfl
theorem gw_1829 : Cond.code ⟨"java/util/ArrayList$Itr", "hasNext", "()Z"⟩ prog_54_method_2_code 1 (Option.some Jvm.ClassFile.FieldType.boolean) ∈ ce_GW := gT_8 _ (List.mem_of_getElem? (i := 149) rfl) rfl
theorem gw_1845 : Cond.methodLink "CarcasswrightModel" 125 ⟨"CarcasswrightModel", "raises", "(I)I"⟩ ∈ ce_GW := gT_8 _ (List.mem_of_getElem? (i := 165) rfl) rfl
theorem gw_1847 : Cond.instanceMethod ⟨"CarcasswrightModel", "raises", "(I)I"⟩ ∈ ce_GW := gT_8 _ (List.mem_of_getElem? (i := 167) rfl) rfl
theorem gw_1848 : Cond.code ⟨"CarcasswrightModel", "raises", "(I)I"⟩ prog_14_method_5_code 2 (Option.some Jvm.ClassFile.FieldType.int) ∈ ce_GW := gT_8 _ (List.mem_of_getElem? (i := 168) rfl) rfl
theorem gw_1862 : Cond.static ⟨"jdk/internal/util/Preconditions", "checkIndex", "(IILjava/util/function/BiFunction;)I"⟩ ∈ ce_GW := gT_8 _ (List.mem_of_getElem? (i := 182) rfl) rfl
theorem gw_1863 : Cond.code ⟨"jdk/internal/util/Preconditions", "checkIndex", "(IILjava/util/function/BiFunction;)I"⟩ prog_64_method_11_code 3 (Option.some Jvm.ClassFile.FieldType.int) ∈ ce_GW := gT_8 _ (List.mem_of_getElem? (i := 183) rfl) rfl
theorem gw_1869 : Cond.methodLink "CarcasswrightLaw" 190 ⟨"CarcasswrightModel", "lengthOf", "(I)I"⟩ ∈ ce_GW := gT_8 _ (List.mem_of_getElem? (i := 189) rfl) rfl
theorem gw_1870 : Cond.instanceMethod ⟨"CarcasswrightModel", "lengthOf", "(I)I"⟩ ∈ ce_GW := gT_8 _ (List.mem_of_getElem? (i := 190) rfl) rfl
theorem gw_1871 : Cond.selects "CarcasswrightModel" ⟨"CarcasswrightModel", "lengthOf", "(I)I"⟩ ⟨"CarcasswrightModel", "lengthOf", "(I)I"⟩ ∈ ce_GW := gT_8 _ (List.mem_of_getElem? (i := 191) rfl) rfl
theorem gw_1872 : Cond.code ⟨"CarcasswrightModel", "lengthOf", "(I)I"⟩ prog_14_method_13_code 2 (Option.some Jvm.ClassFile.FieldType.int) ∈ ce_GW := gT_8 _ (List.mem_of_getElem? (i := 192) rfl) rfl
theorem gw_1873 : Cond.methodLink "CarcasswrightModel" 136 ⟨"CarcasswrightModel", "noWall", "(I)Z"⟩ ∈ ce_GW := gT_8 _ (List.mem_of_getElem? (i := 193) rfl) rfl
theorem gw_1875 : Cond.instanceMethod ⟨"CarcasswrightModel", "noWall", "(I)Z"⟩ ∈ ce_GW := gT_8 _ (List.mem_of_getElem? (i := 195) rfl) rfl
theorem gw_1876 : Cond.code ⟨"CarcasswrightModel", "noWall", "(I)Z"⟩ prog_14_method_12_code 2 (Option.some Jvm.ClassFile.FieldType.boolean) ∈ ce_GW := gT_8 _ (List.mem_of_getElem? (i := 196) rfl) rfl
theorem gw_1877 : Cond.methodLink "CarcasswrightLaw" 195 ⟨"CarcasswrightModel", "isClosedRoom", "()Z"⟩ ∈ ce_GW := gT_8 _ (List.mem_of_getElem? (i := 197) rfl) rfl
theorem gw_1878 : Cond.instanceMethod ⟨"CarcasswrightModel", "isClosedRoom", "()Z"⟩ ∈ ce_GW := gT_8 _ (List.mem_of_getElem? (i := 198) rfl) rfl
theorem gw_1879 : Cond.selects "CarcasswrightModel" ⟨"CarcasswrightModel", "isClosedRoom", "()Z"⟩ ⟨"CarcasswrightModel", "isClosedRoom", "()Z"⟩ ∈ ce_GW := gT_8 _ (List.mem_of_getElem? (i := 199) rfl) rfl
theorem gw_1880 : Cond.code ⟨"CarcasswrightModel", "isClosedRoom", "()Z"⟩ prog_14_method_14_code 1 (Option.some Jvm.ClassFile.FieldType.boolean) ∈ ce_GW := gT_8 _ (List.mem_of_getElem? (i := 200) rfl) rfl
theorem gw_1885 : Cond.methodLink "CarcasswrightLaw" 199 ⟨"CarcasswrightModel", "setOff", "(III)I"⟩ ∈ ce_GW := gT_8 _ (List.mem_of_getElem? (i := 205) rfl) rfl
theorem gw_1886 : Cond.instanceMethod ⟨"CarcasswrightModel", "setOff", "(III)I"⟩ ∈ ce_GW := gT_8 _ (List.mem_of_getElem? (i := 206) rfl) rfl
theorem gw_1887 : Cond.selects "CarcasswrightModel" ⟨"CarcasswrightModel", "setOff", "(III)I"⟩ ⟨"CarcasswrightModel", "setOff", "(III)I"⟩ ∈ ce_GW := gT_8 _ (List.mem_of_getElem? (i := 207) rfl) rfl
theorem gw_1888 : Cond.code ⟨"CarcasswrightModel", "setOff", "(III)I"⟩ prog_14_method_15_code 6 (Option.some Jvm.ClassFile.FieldType.int) ∈ ce_GW := gT_8 _ (List.mem_of_getElem? (i := 208) rfl) rfl
theorem gw_1889 : Cond.methodLink "CarcasswrightLaw" 203 ⟨"CarcasswrightModel", "obstacle", "(IIIII)I"⟩ ∈ ce_GW := gT_8 _ (List.mem_of_getElem? (i := 209) rfl) rfl
theorem gw_1890 : Cond.instanceMethod ⟨"CarcasswrightModel", "obstacle", "(IIIII)I"⟩ ∈ ce_GW := gT_8 _ (List.mem_of_getElem? (i := 210) rfl) rfl
theorem gw_1891 : Cond.selects "CarcasswrightModel" ⟨"CarcasswrightModel", "obstacle", "(IIIII)I"⟩ ⟨"CarcasswrightModel", "obstacle", "(IIIII)I"⟩ ∈ ce_GW := gT_8 _ (List.mem_of_getElem? (i := 211) rfl) rfl
theorem gw_1892 : Cond.code ⟨"CarcasswrightModel", "obstacle", "(IIIII)I"⟩ prog_14_method_16_code 7 (Option.some Jvm.ClassFile.FieldType.int) ∈ ce_GW := gT_8 _ (List.mem_of_getElem? (i := 212) rfl) rfl
theorem gw_1920 : Cond.methodLink "CarcasswrightLaw" 207 ⟨"CarcasswrightModel", "type", "(C)I"⟩ ∈ ce_GW := gT_9 _ (List.mem_of_getElem? (i := 0) rfl) rfl
theorem gw_1921 : Cond.instanceMethod ⟨"CarcasswrightModel", "type", "(C)I"⟩ ∈ ce_GW := gT_9 _ (List.mem_of_getElem? (i := 1) rfl) rfl
theorem gw_1922 : Cond.selects "CarcasswrightModel" ⟨"CarcasswrightModel", "type", "(C)I"⟩ ⟨"CarcasswrightModel", "type", "(C)I"⟩ ∈ ce_GW := gT_9 _ (List.mem_of_getElem? (i := 2) rfl) rfl
theorem gw_1923 : Cond.code ⟨"CarcasswrightModel", "type", "(C)I"⟩ prog_14_method_17_code 2 (Option.some Jvm.ClassFile.FieldType.int) ∈ ce_GW := gT_9 _ (List.mem_of_getElem? (i := 3) rfl) rfl
theorem gw_1924 : Cond.methodLink "CarcasswrightModel" 154 ⟨"java/lang/String", "length", "()I"⟩ ∈ ce_GW := gT_9 _ (List.mem_of_getElem? (i := 4) rfl) rfl
theorem gw_1925 : Cond.classLink "CarcasswrightModel" 156 "java/lang/StringBuilder" ∈ ce_GW := gT_9 _ (List.mem_of_getElem? (i := 5) rfl) rfl
theorem gw_1926 : Cond.instantiable "java/lang/StringBuilder" 4 ∈ ce_GW := gT_9 _ (List.mem_of_getElem? (i := 6) rfl) rfl
theorem gw_1927 : Cond.methodLink "CarcasswrightModel" 158 ⟨"java/lang/StringBuilder", "<init>", "()V"⟩ ∈ ce_GW := gT_9 _ (List.mem_of_getElem? (i := 7) rfl) rfl
theorem gw_1928 : Cond.instanceMethod ⟨"java/lang/StringBuilder", "<init>", "()V"⟩ ∈ ce_GW := gT_9 _ (List.mem_of_getElem? (i := 8) rfl) rfl
theorem gw_1929 : Cond.code ⟨"java/lang/StringBuilder", "<init>", "()V"⟩ prog_43_method_1_code 1 Option.none ∈ ce_GW := gT_9 _ (List.mem_of_getElem? (i := 9) rfl) rfl
theorem gw_1930 : Cond.methodLink "java/lang/StringBuilder" 1 ⟨"java/lang/AbstractStringBuilder", "<init>", "(I)V"⟩ ∈ ce_GW := gT_9 _ (List.mem_of_getElem? (i := 10) rfl) rfl
theorem gw_1931 : Cond.instanceMethod ⟨"java/lang/AbstractStringBuilder", "<init>", "(I)V"⟩ ∈ ce_GW := gT_9 _ (List.mem_of_getElem? (i := 11) rfl) rfl
theorem gw_1932 : Cond.code ⟨"java/lang/AbstractStringBuilder", "<init>", "(I)V"⟩ prog_25_method_2_code 2 Option.none ∈ ce_GW := gT_9 _ (List.mem_of_getElem? (i := 12) rfl) rfl
theorem gw_1933 : Cond.methodLink "java/lang/AbstractStringBuilder" 3 ⟨"java/lang/Object", "<init>", "()V"⟩ ∈ ce_GW := gT_9 _ (List.mem_of_getElem? (i := 13) rfl) rfl
theorem gw_1934 : Cond.fieldLink "java/lang/AbstractStringBuilder" 18 "java/lang/String" "COMPACT_STRINGS" "Z" ∈ ce_GW := gT_9 _ (List.mem_of_getElem? (i := 14) rfl) rfl
theorem gw_1935 : Cond.methodLink "java/lang/AbstractStringBuilder" 26 ⟨"java/lang/StringUTF16", "newBytesFor", "(I)[B"⟩ ∈ ce_GW := gT_9 _ (List.mem_of_getElem? (i := 15) rfl) rfl
theorem gw_1936 : Cond.static ⟨"java/lang/StringUTF16", "newBytesFor", "(I)[B"⟩ ∈ ce_GW := gT_9 _ (List.mem_of_getElem? (i := 16) rfl) rfl
theorem gw_1937 : Cond.code ⟨"java/lang/StringUTF16", "newBytesFor", "(I)[B"⟩ prog_45_method_2_code 1 (Option.some (Jvm.ClassFile.FieldType.array Jvm.ClassFile.FieldType.byte)) ∈ ce_GW := gT_9 _ (List.mem_of_getElem? (i := 17) rfl) rfl
theorem gw_1938 : Cond.methodLink "java/lang/StringUTF16" 11 ⟨"java/lang/StringUTF16", "newBytesLength", "(I)I"⟩ ∈ ce_GW := gT_9 _ (List.mem_of_getElem? (i := 18) rfl) rfl
theorem gw_1939 : Cond.static ⟨"java/lang/StringUTF16", "newBytesLength", "(I)I"⟩ ∈ ce_GW := gT_9 _ (List.mem_of_getElem? (i := 19) rfl) rfl
theorem gw_1940 : Cond.code ⟨"java/lang/StringUTF16", "newBytesLength", "(I)I"⟩ prog_45_method_3_code 1 (Option.some Jvm.ClassFile.FieldType.int) ∈ ce_GW := gT_9 _ (List.mem_of_getElem? (i := 20) rfl) rfl
theorem gw_1941 : Cond.constant "java/lang/StringUTF16" 20 (Int32.ofInt 1073741823) ∈ ce_GW := gT_9 _ (List.mem_of_getElem? (i := 21) rfl) rfl
theorem gw_1942 : Cond.fieldLink "java/lang/AbstractStringBuilder" 15 "java/lang/AbstractStringBuilder" "value" "[B" ∈ ce_GW := gT_9 _ (List.mem_of_getElem? (i := 22) rfl) rfl
theorem gw_1943 : Cond.fieldLink "java/lang/AbstractStringBuilder" 22 "java/lang/AbstractStringBuilder" "coder" "B" ∈ ce_GW := gT_9 _ (List.mem_of_getElem? (i := 23) rfl) rfl
theorem gw_1944 : Cond.fieldLink "java/lang/String" 1048 "java/lang/AbstractStringBuilder" "maybeLatin1" "Z" ∈ ce_GW := gT_9 _ (List.mem_of_getElem? (i := 24) rfl) rfl
theorem gw_1945 : Cond.fieldLink "java/lang/AbstractStringBuilder" 79 "java/lang/AbstractStringBuilder" "count" "I" ∈ ce_GW := gT_9 _ (List.mem_of_getElem? (i := 25) rfl) rfl
theorem gw_1954 : Cond.superclass "java/lang/StringBuilder" "java/lang/AbstractStringBuilder" ∈ ce_GW := gT_9 _ (List.mem_of_getElem? (i := 34) rfl) rfl
theorem gw_1955 : Cond.methodLink "CarcasswrightModel" 159 ⟨"java/lang/StringBuilder", "append", "(Ljava/lang/String;)Ljava/lang/StringBuilder;"⟩ ∈ ce_GW := gT_9 _ (List.mem_of_getElem? (i := 35) rfl) rfl
theorem gw_1956 : Cond.instanceMethod ⟨"java/lang/StringBuilder", "append", "(Ljava/lang/String;)Ljava/lang/StringBuilder;"⟩ ∈ ce_GW := gT_9 _ (List.mem_of_getElem? (i := 36) rfl) rfl
theorem gw_1957 : Cond.selects "java/lang/StringBuilder" ⟨"java/lang/StringBuilder", "append", "(Ljava/lang/String;)Ljava/lang/StringBuilder;"⟩ ⟨"java/lang/StringBuilder", "append", "(Ljava/lang/String;)Ljava/lang/StringBuilder;"⟩ ∈ ce_GW := gT_9 _ (List.mem_of_getElem? (i := 37) rfl) rfl
theorem gw_1958 : Cond.code ⟨"java/lang/StringBuilder", "append", "(Ljava/lang/String;)Ljava/lang/StringBuilder;"⟩ prog_43_method_7_code 2 (Option.some (Jvm.ClassFile.FieldType.object "java/lang/StringBuilder")) ∈ ce_GW := gT_9 _ (List.mem_of_getElem? (i := 38) rfl) rfl
theorem gw_1959 : Cond.methodLink "java/lang/StringBuilder" 29 ⟨"java/lang/AbstractStringBuilder", "append", "(Ljava/lang/String;)Ljava/lang/AbstractStringBuilder;"⟩ ∈ ce_GW := gT_9 _ (List.mem_of_getElem? (i := 39) rfl) rfl
theorem gw_1960 : Cond.instanceMethod ⟨"java/lang/AbstractStringBuilder", "append", "(Ljava/lang/String;)Ljava/lang/AbstractStringBuilder;"⟩ ∈ ce_GW := gT_9 _ (List.mem_of_getElem? (i := 40) rfl) rfl
theorem gw_1961 : Cond.code ⟨"java/lang/AbstractStringBuilder", "append", "(Ljava/lang/String;)Ljava/lang/AbstractStringBuilder;"⟩ prog_25_method_22_code 3 (Option.some (Jvm.ClassFile.FieldType.object "java/lang/AbstractStringBuilder")) ∈ ce_GW := gT_9 _ (List.mem_of_getElem? (i := 41) rfl) rfl
theorem gw_1966 : Cond.methodLink "java/lang/AbstractStringBuilder" 100 ⟨"java/lang/AbstractStringBuilder", "ensureCapacityInternal", "(I)V"⟩ ∈ ce_GW := gT_9 _ (List.mem_of_getElem? (i := 46) rfl) rfl
theorem gw_1968 : Cond.instanceMethod ⟨"java/lang/AbstractStringBuilder", "ensureCapacityInternal", "(I)V"⟩ ∈ ce_GW := gT_9 _ (List.mem_of_getElem? (i := 48) rfl) rfl
theorem gw_1969 : Cond.code ⟨"java/lang/AbstractStringBuilder", "ensureCapacityInternal", "(I)V"⟩ prog_25_method_9_code 3 Option.none ∈ ce_GW := gT_9 _ (List.mem_of_getElem? (i := 49) rfl) rfl
theorem gw_1981 : Cond.native ⟨"java/lang/Object", "clone", "()Ljava/lang/Object;"⟩ ∈ ce_GW := gT_9 _ (List.mem_of_getElem? (i := 61) rfl) rfl
theorem gw_1982 : Cond.instanceMethod ⟨"java/lang/Object", "clone", "()Ljava/lang/Object;"⟩ ∈ ce_GW := gT_9 _ (List.mem_of_getElem? (i := 62) rfl) rfl
theorem gw_1986 : Cond.methodLink "java/lang/AbstractStringBuilder" 83 ⟨"java/lang/AbstractStringBuilder", "isLatin1", "()Z"⟩ ∈ ce_GW := gT_9 _ (List.mem_of_getElem? (i := 66) rfl) rfl
theorem gw_1987 : Cond.instanceMethod ⟨"java/lang/AbstractStringBuilder", "isLatin1", "()Z"⟩ ∈ ce_GW := gT_9 _ (List.mem_of_getElem? (i := 67) rfl) rfl
theorem gw_1988 : Cond.sameMethod "java/lang/AbstractStringBuilder" "java/lang/AbstractStringBuilder" "isLatin1" "()Z" ∈ ce_GW := gT_9 _ (List.mem_of_getElem? (i := 68) rfl) rfl
theorem gw_1989 : Cond.selects "java/lang/StringBuilder" ⟨"java/lang/AbstractStringBuilder", "isLatin1", "()Z"⟩ ⟨"java/lang/AbstractStringBuilder", "isLatin1", "()Z"⟩ ∈ ce_GW := gT_9 _ (List.mem_of_getElem? (i := 69) rfl) rfl
theorem gw_1990 : Cond.code ⟨"java/lang/AbstractStringBuilder", "isLatin1", "()Z"⟩ prog_25_method_68_code 1 (Option.some Jvm.ClassFile.FieldType.boolean) ∈ ce_GW := gT_9 _ (List.mem_of_getElem? (i := 70) rfl) rfl
theorem gw_1994 : Cond.methodLink "java/lang/StringUTF16" 111 ⟨"java/lang/StringUTF16", "putChar", "([BII)V"⟩ ∈ ce_GW := gT_9 _ (List.mem_of_getElem? (i := 74) rfl) rfl
theorem gw_1995 : Cond.static ⟨"java/lang/StringUTF16", "putChar", "([BII)V"⟩ ∈ ce_GW := gT_9 _ (List.mem_of_getElem? (i := 75) rfl) rfl
theorem gw_1996 : Cond.code ⟨"java/lang/StringUTF16", "putChar", "([BII)V"⟩ prog_45_method_4_code 3 Option.none ∈ ce_GW := gT_9 _ (List.mem_of_getElem? (i := 76) rfl) rfl
theorem gw_1997 : Cond.methodLink "java/lang/AbstractStringBuilder" 32 ⟨"java/lang/String", "length", "()I"⟩ ∈ ce_GW := gT_9 _ (List.mem_of_getElem? (i := 77) rfl) rfl
theorem gw_1998 : Cond.methodLink "java/lang/AbstractStringBuilder" 208 ⟨"java/lang/AbstractStringBuilder", "putStringAt", "(ILjava/lang/String;)V"⟩ ∈ ce_GW := gT_9 _ (List.mem_of_getElem? (i := 78) rfl) rfl
theorem gw_2000 : Cond.instanceMethod ⟨"java/lang/AbstractStringBuilder", "putStringAt", "(ILjava/lang/String;)V"⟩ ∈ ce_GW := gT_9 _ (List.mem_of_getElem? (i := 80) rfl) rfl
theorem gw_2001 : Cond.code ⟨"java/lang/AbstractStringBuilder", "putStringAt", "(ILjava/lang/String;)V"⟩ prog_25_method_73_code 3 Option.none ∈ ce_GW := gT_9 _ (List.mem_of_getElem? (i := 81) rfl) rfl
theorem gw_2002 : Cond.methodLink "java/lang/AbstractStringBuilder" 397 ⟨"java/lang/AbstractStringBuilder", "inflateIfNeededFor", "(Ljava/lang/String;)V"⟩ ∈ ce_GW := gT_9 _ (List.mem_of_getElem? (i := 82) rfl) rfl
theorem gw_2004 : Cond.instanceMethod ⟨"java/lang/AbstractStringBuilder", "inflateIfNeededFor", "(Ljava/lang/String;)V"⟩ ∈ ce_GW := gT_9 _ (List.mem_of_getElem? (i := 84) rfl) rfl
theorem gw_2005 : Cond.code ⟨"java/lang/AbstractStringBuilder", "inflateIfNeededFor", "(Ljava/lang/String;)V"⟩ prog_25_method_71_code 2 Option.none ∈ ce_GW := gT_9 _ (List.mem_of_getElem? (i := 85) rfl) rfl
theorem gw_2006 : Cond.methodLink "java/lang/AbstractStringBuilder" 40 ⟨"java/lang/String", "coder", "()B"⟩ ∈ ce_GW := gT_9 _ (List.mem_of_getElem? (i := 86) rfl) rfl
theorem gw_2007 : Cond.methodLink "java/lang/AbstractStringBuilder" 195 ⟨"java/lang/AbstractStringBuilder", "inflate", "()V"⟩ ∈ ce_GW := gT_9 _ (List.mem_of_getElem? (i := 87) rfl) rfl
theorem gw_2009 : Cond.instanceMethod ⟨"java/lang/AbstractStringBuilder", "inflate", "()V"⟩ ∈ ce_GW := gT_9 _ (List.mem_of_getElem? (i := 89) rfl) rfl
theorem gw_2010 : Cond.code ⟨"java/lang/AbstractStringBuilder", "inflate", "()V"⟩ prog_25_method_11_code 2 Option.none ∈ ce_GW := gT_9 _ (List.mem_of_getElem? (i := 90) rfl) rfl
theorem gw_2011 : Cond.methodLink "java/lang/AbstractStringBuilder" 125 ⟨"java/lang/StringLatin1", "inflate", "([BI[BII)V"⟩ ∈ ce_GW := gT_9 _ (List.mem_of_getElem? (i := 91) rfl) rfl
theorem gw_2012 : Cond.static ⟨"java/lang/StringLatin1", "inflate", "([BI[BII)V"⟩ ∈ ce_GW := gT_9 _ (List.mem_of_getElem? (i := 92) rfl) rfl
theorem gw_2013 : Cond.code ⟨"java/lang/StringLatin1", "inflate", "([BI[BII)V"⟩ prog_44_method_50_code 5 Option.none ∈ ce_GW := gT_9 _ (List.mem_of_getElem? (i := 93) rfl) rfl
theorem gw_2014 : Cond.methodLink "java/lang/StringLatin1" 240 ⟨"java/lang/StringUTF16", "inflate", "([BI[BII)V"⟩ ∈ ce_GW := gT_9 _ (List.mem_of_getElem? (i := 94) rfl) rfl
theorem gw_2015 : Cond.static ⟨"java/lang/StringUTF16", "inflate", "([BI[BII)V"⟩ ∈ ce_GW := gT_9 _ (List.mem_of_getElem? (i := 95) rfl) rfl
theorem gw_2016 : Cond.code ⟨"java/lang/StringUTF16", "inflate", "([BI[BII)V"⟩ prog_45_method_86_code 6 Option.none ∈ ce_GW := gT_9 _ (List.mem_of_getElem? (i := 96) rfl) rfl
theorem gw_2017 : Cond.methodLink "java/lang/StringUTF16" 173 ⟨"java/lang/StringUTF16", "checkBoundsOffCount", "(II[B)V"⟩ ∈ ce_GW := gT_9 _ (List.mem_of_getElem? (i := 97) rfl) rfl
theorem gw_2018 : Cond.static ⟨"java/lang/StringUTF16", "checkBoundsOffCount", "(II[B)V"⟩ ∈ ce_GW := gT_9 _ (List.mem_of_getElem? (i := 98) rfl) rfl
theorem gw_2019 : Cond.code ⟨"java/lang/StringUTF16", "checkBoundsOffCount", "(II[B)V"⟩ prog_45_method_94_code 3 Option.none ∈ ce_GW := gT_9 _ (List.mem_of_getElem? (i := 99) rfl) rfl
theorem gw_2020 : Cond.methodLink "java/lang/StringUTF16" 419 ⟨"java/lang/String", "checkBoundsOffCount", "(III)I"⟩ ∈ ce_GW := gT_9 _ (List.mem_of_getElem? (i := 100) rfl) rfl
theorem gw_2021 : Cond.static ⟨"java/lang/String", "checkBoundsOffCount", "(III)I"⟩ ∈ ce_GW := gT_9 _ (List.mem_of_getElem? (i := 101) rfl) rfl
theorem gw_2022 : Cond.code ⟨"java/lang/String", "checkBoundsOffCount", "(III)I"⟩ prog_42_method_157_code 3 (Option.some Jvm.ClassFile.FieldType.int) ∈ ce_GW := gT_9 _ (List.mem_of_getElem? (i := 102) rfl) rfl
theorem gw_2023 : Cond.methodLink "java/lang/String" 1065 ⟨"jdk/internal/util/Preconditions", "checkFromIndexSize", "(IIILjava/util/function/BiFunction;)I"⟩ ∈ ce_GW := gT_9 _ (List.mem_of_getElem? (i := 103) rfl) rfl
theorem gw_2024 : Cond.static ⟨"jdk/internal/util/Preconditions", "checkFromIndexSize", "(IIILjava/util/function/BiFunction;)I"⟩ ∈ ce_GW := gT_9 _ (List.mem_of_getElem? (i := 104) rfl) rfl
theorem gw_2025 : Cond.code ⟨"jdk/internal/util/Preconditions", "checkFromIndexSize", "(IIILjava/util/function/BiFunction;)I"⟩ prog_64_method_13_code 4 (Option.some Jvm.ClassFile.FieldType.int) ∈ ce_GW := gT_9 _ (List.mem_of_getElem? (i := 105) rfl) rfl
theorem gw_2026 : Cond.methodLink "java/lang/AbstractStringBuilder" 399 ⟨"java/lang/String", "getBytes", "([BIB)V"⟩ ∈ ce_GW := gT_9 _ (List.mem_of_getElem? (i := 106) rfl) rfl
theorem gw_2027 : Cond.instanceMethod ⟨"java/lang/String", "getBytes", "([BIB)V"⟩ ∈ ce_GW := gT_9 _ (List.mem_of_getElem? (i := 107) rfl) rfl
theorem gw_2028 : Cond.selects "java/lang/String" ⟨"java/lang/String", "getBytes", "([BIB)V"⟩ ⟨"java/lang/String", "getBytes", "([BIB)V"⟩ ∈ ce_GW := gT_9 _ (List.mem_of_getElem? (i := 108) rfl) rfl
theorem gw_2029 : Cond.code ⟨"java/lang/String", "getBytes", "([BIB)V"⟩ prog_42_method_147_code 4 Option.none ∈ ce_GW := gT_9 _ (List.mem_of_getElem? (i := 109) rfl) rfl
theorem gw_2030 : Cond.methodLink "java/lang/String" 212 ⟨"java/lang/System", "arraycopy", "(Ljava/lang/Object;ILjava/lang/Object;II)V"⟩ ∈ ce_GW := gT_9 _ (List.mem_of_getElem? (i := 110) rfl) rfl
theorem gw_2032 : Cond.methodLink "CarcasswrightModel" 163 ⟨"java/lang/StringBuilder", "append", "(C)Ljava/lang/StringBuilder;"⟩ ∈ ce_GW := gT_9 _ (List.mem_of_getElem? (i := 112) rfl) rfl
theorem gw_2033 : Cond.instanceMethod ⟨"java/lang/StringBuilder", "append", "(C)Ljava/lang/StringBuilder;"⟩ ∈ ce_GW := gT_9 _ (List.mem_of_getElem? (i := 113) rfl) rfl
theorem gw_2034 : Cond.selects "java/lang/StringBuilder" ⟨"java/lang/StringBuilder", "append", "(C)Ljava/lang/StringBuilder;"⟩ ⟨"java/lang/StringBuilder", "append", "(C)Ljava/lang/StringBuilder;"⟩ ∈ ce_GW := gT_9 _ (List.mem_of_getElem? (i := 114) rfl) rfl
theorem gw_2035 : Cond.code ⟨"java/lang/StringBuilder", "append", "(C)Ljava/lang/StringBuilder;"⟩ prog_43_method_14_code 2 (Option.some (Jvm.ClassFile.FieldType.object "java/lang/StringBuilder")) ∈ ce_GW := gT_9 _ (List.mem_of_getElem? (i := 115) rfl) rfl
theorem gw_2036 : Cond.methodLink "java/lang/StringBuilder" 50 ⟨"java/lang/AbstractStringBuilder", "append", "(C)Ljava/lang/AbstractStringBuilder;"⟩ ∈ ce_GW := gT_9 _ (List.mem_of_getElem? (i := 116) rfl) rfl
theorem gw_2037 : Cond.instanceMethod ⟨"java/lang/AbstractStringBuilder", "append", "(C)Ljava/lang/AbstractStringBuilder;"⟩ ∈ ce_GW := gT_9 _ (List.mem_of_getElem? (i := 117) rfl) rfl
theorem gw_2038 : Cond.code ⟨"java/lang/AbstractStringBuilder", "append", "(C)Ljava/lang/AbstractStringBuilder;"⟩ prog_25_method_31_code 2 (Option.some (Jvm.ClassFile.FieldType.object "java/lang/AbstractStringBuilder")) ∈ ce_GW := gT_9 _ (List.mem_of_getElem? (i := 118) rfl) rfl
theorem gw_2039 : Cond.methodLink "java/lang/AbstractStringBuilder" 191 ⟨"java/lang/StringLatin1", "canEncode", "(C)Z"⟩ ∈ ce_GW := gT_9 _ (List.mem_of_getElem? (i := 119) rfl) rfl
theorem gw_2040 : Cond.static ⟨"java/lang/StringLatin1", "canEncode", "(C)Z"⟩ ∈ ce_GW := gT_9 _ (List.mem_of_getElem? (i := 120) rfl) rfl
theorem gw_2041 : Cond.code ⟨"java/lang/StringLatin1", "canEncode", "(C)Z"⟩ prog_44_method_3_code 1 (Option.some Jvm.ClassFile.FieldType.boolean) ∈ ce_GW := gT_9 _ (List.mem_of_getElem? (i := 121) rfl) rfl
theorem gw_2042 : Cond.methodLink "java/lang/AbstractStringBuilder" 197 ⟨"java/lang/StringUTF16", "putCharSB", "([BII)V"⟩ ∈ ce_GW := gT_9 _ (List.mem_of_getElem? (i := 122) rfl) rfl
theorem gw_2043 : Cond.static ⟨"java/lang/StringUTF16", "putCharSB", "([BII)V"⟩ ∈ ce_GW := gT_9 _ (List.mem_of_getElem? (i := 123) rfl) rfl
theorem gw_2044 : Cond.code ⟨"java/lang/StringUTF16", "putCharSB", "([BII)V"⟩ prog_45_method_71_code 3 Option.none ∈ ce_GW := gT_9 _ (List.mem_of_getElem? (i := 124) rfl) rfl
theorem gw_2045 : Cond.methodLink "java/lang/StringUTF16" 67 ⟨"java/lang/StringUTF16", "checkIndex", "(I[B)V"⟩ ∈ ce_GW := gT_9 _ (List.mem_of_getElem? (i := 125) rfl) rfl
theorem gw_2046 : Cond.static ⟨"java/lang/StringUTF16", "checkIndex", "(I[B)V"⟩ ∈ ce_GW := gT_9 _ (List.mem_of_getElem? (i := 126) rfl) rfl
theorem gw_2047 : Cond.code ⟨"java/lang/StringUTF16", "checkIndex", "(I[B)V"⟩ prog_45_method_91_code 2 Option.none ∈ ce_GW := gT_9 _ (List.mem_of_getElem? (i := 127) rfl) rfl
theorem gw_2048 : Cond.methodLink "java/lang/StringUTF16" 414 ⟨"java/lang/String", "checkIndex", "(II)V"⟩ ∈ ce_GW := gT_9 _ (List.mem_of_getElem? (i := 128) rfl) rfl
theorem gw_2049 : Cond.static ⟨"java/lang/String", "checkIndex", "(II)V"⟩ ∈ ce_GW := gT_9 _ (List.mem_of_getElem? (i := 129) rfl) rfl
theorem gw_2050 : Cond.code ⟨"java/lang/String", "checkIndex", "(II)V"⟩ prog_42_method_155_code 2 Option.none ∈ ce_GW := gT_9 _ (List.mem_of_getElem? (i := 130) rfl) rfl
theorem gw_2051 : Cond.methodLink "java/lang/String" 1059 ⟨"jdk/internal/util/Preconditions", "checkIndex", "(IILjava/util/function/BiFunction;)I"⟩ ∈ ce_GW := gT_9 _ (List.mem_of_getElem? (i := 131) rfl) rfl
theorem gw_2052 : Cond.methodLink "CarcasswrightModel" 166 ⟨"java/lang/StringBuilder", "toString", "()Ljava/lang/String;"⟩ ∈ ce_GW := gT_9 _ (List.mem_of_getElem? (i := 132) rfl) rfl
theorem gw_2053 : Cond.instanceMethod ⟨"java/lang/StringBuilder", "toString", "()Ljava/lang/String;"⟩ ∈ ce_GW := gT_9 _ (List.mem_of_getElem? (i := 133) rfl) rfl
theorem gw_2054 : Cond.selects "java/lang/StringBuilder" ⟨"java/lang/StringBuilder", "toString", "()Ljava/lang/String;"⟩ ⟨"java/lang/StringBuilder", "toString", "()Ljava/lang/String;"⟩ ∈ ce_GW := gT_9 _ (List.mem_of_getElem? (i := 134) rfl) rfl
theorem gw_2055 : Cond.code ⟨"java/lang/StringBuilder", "toString", "()Ljava/lang/String;"⟩ prog_43_method_42_code 1 (Option.some (Jvm.ClassFile.FieldType.object "java/lang/String")) ∈ ce_GW := gT_9 _ (List.mem_of_getElem? (i := 135) rfl) rfl
theorem gw_2056 : Cond.classLink "java/lang/StringBuilder" 18 "java/lang/String" ∈ ce_GW := gT_9 _ (List.mem_of_getElem? (i := 136) rfl) rfl
theorem gw_2057 : Cond.instantiable "java/lang/String" 4 ∈ ce_GW := gT_9 _ (List.mem_of_getElem? (i := 137) rfl) rfl
theorem gw_2058 : Cond.methodLink "java/lang/StringBuilder" 137 ⟨"java/lang/String", "<init>", "(Ljava/lang/StringBuilder;)V"⟩ ∈ ce_GW := gT_9 _ (List.mem_of_getElem? (i := 138) rfl) rfl
theorem gw_2059 : Cond.instanceMethod ⟨"java/lang/String", "<init>", "(Ljava/lang/StringBuilder;)V"⟩ ∈ ce_GW := gT_9 _ (List.mem_of_getElem? (i := 139) rfl) rfl
theorem gw_2060 : Cond.code ⟨"java/lang/String", "<init>", "(Ljava/lang/StringBuilder;)V"⟩ prog_42_method_53_code 2 Option.none ∈ ce_GW := gT_9 _ (List.mem_of_getElem? (i := 140) rfl) rfl
theorem gw_2061 : Cond.methodLink "java/lang/String" 489 ⟨"java/lang/String", "<init>", "(Ljava/lang/AbstractStringBuilder;Ljava/lang/Void;)V"⟩ ∈ ce_GW := gT_9 _ (List.mem_of_getElem? (i := 141) rfl) rfl
theorem gw_2062 : Cond.instanceMethod ⟨"java/lang/String", "<init>", "(Ljava/lang/AbstractStringBuilder;Ljava/lang/Void;)V"⟩ ∈ ce_GW := gT_9 _ (List.mem_of_getElem? (i := 142) rfl) rfl
theorem gw_2063 : Cond.code ⟨"java/lang/String", "<init>", "(Ljava/lang/AbstractStringBuilder;Ljava/lang/Void;)V"⟩ prog_42_method_150_code 5 Option.none ∈ ce_GW := gT_9 _ (List.mem_of_getElem? (i := 143) rfl) rfl
theorem gw_2064 : Cond.methodLink "java/lang/String" 1 ⟨"java/lang/Object", "<init>", "()V"⟩ ∈ ce_GW := gT_9 _ (List.mem_of_getElem? (i := 144) rfl) rfl
theorem gw_2065 : Cond.methodLink "java/lang/String" 552 ⟨"java/lang/AbstractStringBuilder", "getValue", "()[B"⟩ ∈ ce_GW := gT_9 _ (List.mem_of_getElem? (i := 145) rfl) rfl
theorem gw_2066 : Cond.instanceMethod ⟨"java/lang/AbstractStringBuilder", "getValue", "()[B"⟩ ∈ ce_GW := gT_9 _ (List.mem_of_getElem? (i := 146) rfl) rfl
theorem gw_2067 : Cond.sameMethod "java/lang/AbstractStringBuilder" "java/lang/AbstractStringBuilder" "getValue" "()[B" ∈ ce_GW := gT_9 _ (List.mem_of_getElem? (i := 147) rfl) rfl
theorem gw_2068 : Cond.selects "java/lang/StringBuilder" ⟨"java/lang/AbstractStringBuilder", "getValue", "()[B"⟩ ⟨"java/lang/AbstractStringBuilder", "getValue", "()[B"⟩ ∈ ce_GW := gT_9 _ (List.mem_of_getElem? (i := 148) rfl) rfl
theorem gw_2069 : Cond.code ⟨"java/lang/AbstractStringBuilder", "getValue", "()[B"⟩ prog_25_method_64_code 1 (Option.some (Jvm.ClassFile.FieldType.array Jvm.ClassFile.FieldType.byte)) ∈ ce_GW := gT_9 _ (List.mem_of_getElem? (i := 149) rfl) rfl
theorem gw_2070 : Cond.methodLink "java/lang/String" 549 ⟨"java/lang/AbstractStringBuilder", "length", "()I"⟩ ∈ ce_GW := gT_9 _ (List.mem_of_getElem? (i := 150) rfl) rfl
theorem gw_2071 : Cond.instanceMethod ⟨"java/lang/AbstractStringBuilder", "length", "()I"⟩ ∈ ce_GW := gT_9 _ (List.mem_of_getElem? (i := 151) rfl) rfl
theorem gw_2072 : Cond.sameMethod "java/lang/AbstractStringBuilder" "java/lang/AbstractStringBuilder" "length" "()I" ∈ ce_GW := gT_9 _ (List.mem_of_getElem? (i := 152) rfl) rfl
theorem gw_2073 : Cond.selects "java/lang/StringBuilder" ⟨"java/lang/AbstractStringBuilder", "length", "()I"⟩ ⟨"java/lang/StringBuilder", "length", "()I"⟩ ∈ ce_GW := gT_9 _ (List.mem_of_getElem? (i := 153) rfl) rfl
theorem gw_2074 : Cond.instanceMethod ⟨"java/lang/StringBuilder", "length", "()I"⟩ ∈ ce_GW := gT_9 _ (List.mem_of_getElem? (i := 154) rfl) rfl
theorem gw_2075 : Cond.code ⟨"java/lang/StringBuilder", "length", "()I"⟩ prog_43_method_93_code 1 (Option.some Jvm.ClassFile.FieldType.int) ∈ ce_GW := gT_9 _ (List.mem_of_getElem? (i := 155) rfl) rfl
theorem gw_2076 : Cond.methodLink "java/lang/StringBuilder" 343 ⟨"java/lang/AbstractStringBuilder", "length", "()I"⟩ ∈ ce_GW := gT_9 _ (List.mem_of_getElem? (i := 156) rfl) rfl
theorem gw_2077 : Cond.code ⟨"java/lang/AbstractStringBuilder", "length", "()I"⟩ prog_25_method_6_code 1 (Option.some Jvm.ClassFile.FieldType.int) ∈ ce_GW := gT_9 _ (List.mem_of_getElem? (i := 157) rfl) rfl
theorem gw_2078 : Cond.methodLink "java/lang/String" 1047 ⟨"java/lang/AbstractStringBuilder", "isLatin1", "()Z"⟩ ∈ ce_GW := gT_9 _ (List.mem_of_getElem? (i := 158) rfl) rfl
theorem gw_2079 : Cond.methodLink "java/lang/String" 54 ⟨"java/util/Arrays", "copyOfRange", "([BII)[B"⟩ ∈ ce_GW := gT_9 _ (List.mem_of_getElem? (i := 159) rfl) rfl
theorem gw_2080 : Cond.static ⟨"java/util/Arrays", "copyOfRange", "([BII)[B"⟩ ∈ ce_GW := gT_9 _ (List.mem_of_getElem? (i := 160) rfl) rfl
theorem gw_2081 : Cond.code ⟨"java/util/Arrays", "copyOfRange", "([BII)[B"⟩ prog_55_method_132_code 3 (Option.some (Jvm.ClassFile.FieldType.array Jvm.ClassFile.FieldType.byte)) ∈ ce_GW := gT_9 _ (List.mem_of_getElem? (i := 161) rfl) rfl
theorem gw_2082 : Cond.methodLink "java/util/Arrays" 339 ⟨"java/util/Arrays", "copyOfRangeByte", "([BII)[B"⟩ ∈ ce_GW := gT_9 _ (List.mem_of_getElem? (i := 162) rfl) rfl
theorem gw_2083 : Cond.static ⟨"java/util/Arrays", "copyOfRangeByte", "([BII)[B"⟩ ∈ ce_GW := gT_9 _ (List.mem_of_getElem? (i := 163) rfl) rfl
theorem gw_2084 : Cond.code ⟨"java/util/Arrays", "copyOfRangeByte", "([BII)[B"⟩ prog_55_method_133_code 5 (Option.some (Jvm.ClassFile.FieldType.array Jvm.ClassFile.FieldType.byte)) ∈ ce_GW := gT_9 _ (List.mem_of_getElem? (i := 164) rfl) rfl
theorem gw_2085 : Cond.methodLink "java/util/Arrays" 343 ⟨"java/util/Arrays", "checkLength", "(II)V"⟩ ∈ ce_GW := gT_9 _ (List.mem_of_getElem? (i := 165) rfl) rfl
theorem gw_2086 : Cond.static ⟨"java/util/Arrays", "checkLength", "(II)V"⟩ ∈ ce_GW := gT_9 _ (List.mem_of_getElem? (i := 166) rfl) rfl
theorem gw_2087 : Cond.code ⟨"java/util/Arrays", "checkLength", "(II)V"⟩ prog_55_method_131_code 2 Option.none ∈ ce_GW := gT_9 _ (List.mem_of_getElem? (i := 167) rfl) rfl
theorem gw_2141 : Cond.fieldLink "java/lang/String" 9 "java/lang/String" "value" "[B" ∈ ce_GW := gT_9 _ (List.mem_of_getElem? (i := 221) rfl) rfl
theorem gw_2142 : Cond.fieldLink "java/lang/String" 15 "java/lang/String" "coder" "B" ∈ ce_GW := gT_9 _ (List.mem_of_getElem? (i := 222) rfl) rfl
theorem gw_2152 : Cond.methodLink "CarcasswrightLaw" 211 ⟨"CarcasswrightModel", "wipe", "()I"⟩ ∈ ce_GW := gT_9 _ (List.mem_of_getElem? (i := 232) rfl) rfl
theorem gw_2153 : Cond.instanceMethod ⟨"CarcasswrightModel", "wipe", "()I"⟩ ∈ ce_GW := gT_9 _ (List.mem_of_getElem? (i := 233) rfl) rfl
theorem gw_2154 : Cond.selects "CarcasswrightModel" ⟨"CarcasswrightModel", "wipe", "()I"⟩ ⟨"CarcasswrightModel", "wipe", "()I"⟩ ∈ ce_GW := gT_9 _ (List.mem_of_getElem? (i := 234) rfl) rfl
theorem gw_2155 : Cond.code ⟨"CarcasswrightModel", "wipe", "()I"⟩ prog_14_method_18_code 2 (Option.some Jvm.ClassFile.FieldType.int) ∈ ce_GW := gT_9 _ (List.mem_of_getElem? (i := 235) rfl) rfl
theorem gw_2156 : Cond.methodLink "CarcasswrightLaw" 214 ⟨"CarcasswrightModel", "fault", "()I"⟩ ∈ ce_GW := gT_9 _ (List.mem_of_getElem? (i := 236) rfl) rfl
theorem gw_2157 : Cond.instanceMethod ⟨"CarcasswrightModel", "fault", "()I"⟩ ∈ ce_GW := gT_9 _ (List.mem_of_getElem? (i := 237) rfl) rfl
theorem gw_2158 : Cond.selects "CarcasswrightModel" ⟨"CarcasswrightModel", "fault", "()I"⟩ ⟨"CarcasswrightModel", "fault", "()I"⟩ ∈ ce_GW := gT_9 _ (List.mem_of_getElem? (i := 238) rfl) rfl
theorem gw_2159 : Cond.code ⟨"CarcasswrightModel", "fault", "()I"⟩ prog_14_method_23_code 1 (Option.some Jvm.ClassFile.FieldType.int) ∈ ce_GW := gT_9 _ (List.mem_of_getElem? (i := 239) rfl) rfl
theorem gw_2160 : Cond.methodLink "CarcasswrightModel" 223 ⟨"CarcasswrightModel", "reads", "()V"⟩ ∈ ce_GW := gT_10 _ (List.mem_of_getElem? (i := 0) rfl) rfl
theorem gw_2162 : Cond.instanceMethod ⟨"CarcasswrightModel", "reads", "()V"⟩ ∈ ce_GW := gT_10 _ (List.mem_of_getElem? (i := 2) rfl) rfl
theorem gw_2163 : Cond.code ⟨"CarcasswrightModel", "reads", "()V"⟩ prog_14_method_21_code 4 Option.none ∈ ce_GW := gT_10 _ (List.mem_of_getElem? (i := 3) rfl) rfl
theorem gw_2164 : Cond.classLink "CarcasswrightModel" 182 "CarcasswrightModel$Type" ∈ ce_GW := gT_10 _ (List.mem_of_getElem? (i := 4) rfl) rfl
theorem gw_2165 : Cond.instantiable "CarcasswrightModel$Type" 5 ∈ ce_GW := gT_10 _ (List.mem_of_getElem? (i := 5) rfl) rfl
theorem gw_2167 : Cond.instanceMethod ⟨"CarcasswrightModel$Type", "<init>", "()V"⟩ ∈ ce_GW := gT_10 _ (List.mem_of_getElem? (i := 7) rfl) rfl
theorem gw_2168 : Cond.code ⟨"CarcasswrightModel$Type", "<init>", "()V"⟩ prog_22_method_1_code 1 Option.none ∈ ce_GW := gT_10 _ (List.mem_of_getElem? (i := 8) rfl) rfl
theorem gw_2169 : Cond.methodLink "CarcasswrightModel$Type" 1 ⟨"java/lang/Object", "<init>", "()V"⟩ ∈ ce_GW := gT_10 _ (List.mem_of_getElem? (i := 9) rfl) rfl
theorem gw_2173 : Cond.fieldLink "CarcasswrightModel$Type" 7 "CarcasswrightModel$Type" "width" "I" ∈ ce_GW := gT_10 _ (List.mem_of_getElem? (i := 13) rfl) rfl
theorem gw_2196 : Cond.methodLink "CarcasswrightModel" 189 ⟨"java/lang/String", "isEmpty", "()Z"⟩ ∈ ce_GW := gT_10 _ (List.mem_of_getElem? (i := 36) rfl) rfl
theorem gw_2197 : Cond.instanceMethod ⟨"java/lang/String", "isEmpty", "()Z"⟩ ∈ ce_GW := gT_10 _ (List.mem_of_getElem? (i := 37) rfl) rfl
theorem gw_2198 : Cond.selects "java/lang/String" ⟨"java/lang/String", "isEmpty", "()Z"⟩ ⟨"java/lang/String", "isEmpty", "()Z"⟩ ∈ ce_GW := gT_10 _ (List.mem_of_getElem? (i := 38) rfl) rfl
theorem gw_2199 : Cond.code ⟨"java/lang/String", "isEmpty", "()Z"⟩ prog_42_method_55_code 1 (Option.some Jvm.ClassFile.FieldType.boolean) ∈ ce_GW := gT_10 _ (List.mem_of_getElem? (i := 39) rfl) rfl
theorem gw_2216 : Cond.methodLink "CarcasswrightModel" 193 ⟨"CarcasswrightModel", "faults", "(CI)V"⟩ ∈ ce_GW := gT_10 _ (List.mem_of_getElem? (i := 56) rfl) rfl
theorem gw_2218 : Cond.instanceMethod ⟨"CarcasswrightModel", "faults", "(CI)V"⟩ ∈ ce_GW := gT_10 _ (List.mem_of_getElem? (i := 58) rfl) rfl
theorem gw_2219 : Cond.code ⟨"CarcasswrightModel", "faults", "(CI)V"⟩ prog_14_method_20_code 3 Option.none ∈ ce_GW := gT_10 _ (List.mem_of_getElem? (i := 59) rfl) rfl
theorem gw_2244 : Cond.methodLink "CarcasswrightLaw" 217 ⟨"CarcasswrightModel", "faultKind", "()C"⟩ ∈ ce_GW := gT_10 _ (List.mem_of_getElem? (i := 84) rfl) rfl
theorem gw_2245 : Cond.instanceMethod ⟨"CarcasswrightModel", "faultKind", "()C"⟩ ∈ ce_GW := gT_10 _ (List.mem_of_getElem? (i := 85) rfl) rfl
theorem gw_2246 : Cond.selects "CarcasswrightModel" ⟨"CarcasswrightModel", "faultKind", "()C"⟩ ⟨"CarcasswrightModel", "faultKind", "()C"⟩ ∈ ce_GW := gT_10 _ (List.mem_of_getElem? (i := 86) rfl) rfl
theorem gw_2247 : Cond.code ⟨"CarcasswrightModel", "faultKind", "()C"⟩ prog_14_method_24_code 1 (Option.some Jvm.ClassFile.FieldType.char) ∈ ce_GW := gT_10 _ (List.mem_of_getElem? (i := 87) rfl) rfl
theorem gw_2248 : Cond.methodLink "CarcasswrightLaw" 220 ⟨"CarcasswrightModel", "addType", "()I"⟩ ∈ ce_GW := gT_10 _ (List.mem_of_getElem? (i := 88) rfl) rfl
theorem gw_2249 : Cond.instanceMethod ⟨"CarcasswrightModel", "addType", "()I"⟩ ∈ ce_GW := gT_10 _ (List.mem_of_getElem? (i := 89) rfl) rfl
theorem gw_2250 : Cond.selects "CarcasswrightModel" ⟨"CarcasswrightModel", "addType", "()I"⟩ ⟨"CarcasswrightModel", "addType", "()I"⟩ ∈ ce_GW := gT_10 _ (List.mem_of_getElem? (i := 90) rfl) rfl
theorem gw_2251 : Cond.code ⟨"CarcasswrightModel", "addType", "()I"⟩ prog_14_method_25_code 1 (Option.some Jvm.ClassFile.FieldType.int) ∈ ce_GW := gT_10 _ (List.mem_of_getElem? (i := 91) rfl) rfl
theorem gw_2252 : Cond.methodLink "CarcasswrightLaw" 224 ⟨"CarcasswrightModel", "told", "(IC)I"⟩ ∈ ce_GW := gT_10 _ (List.mem_of_getElem? (i := 92) rfl) rfl
theorem gw_2253 : Cond.instanceMethod ⟨"CarcasswrightModel", "told", "(IC)I"⟩ ∈ ce_GW := gT_10 _ (List.mem_of_getElem? (i := 93) rfl) rfl
theorem gw_2254 : Cond.selects "CarcasswrightModel" ⟨"CarcasswrightModel", "told", "(IC)I"⟩ ⟨"CarcasswrightModel", "told", "(IC)I"⟩ ∈ ce_GW := gT_10 _ (List.mem_of_getElem? (i := 94) rfl) rfl
theorem gw_2255 : Cond.code ⟨"CarcasswrightModel", "told", "(IC)I"⟩ prog_14_method_27_code 4 (Option.some Jvm.ClassFile.FieldType.int) ∈ ce_GW := gT_10 _ (List.mem_of_getElem? (i := 95) rfl) rfl
theorem gw_2256 : Cond.methodLink "CarcasswrightModel" 226 ⟨"CarcasswrightModel", "isType", "(I)Z"⟩ ∈ ce_GW := gT_10 _ (List.mem_of_getElem? (i := 96) rfl) rfl
theorem gw_2258 : Cond.instanceMethod ⟨"CarcasswrightModel", "isType", "(I)Z"⟩ ∈ ce_GW := gT_10 _ (List.mem_of_getElem? (i := 98) rfl) rfl
theorem gw_2259 : Cond.code ⟨"CarcasswrightModel", "isType", "(I)Z"⟩ prog_14_method_26_code 2 (Option.some Jvm.ClassFile.FieldType.boolean) ∈ ce_GW := gT_10 _ (List.mem_of_getElem? (i := 99) rfl) rfl
theorem gw_2262 : Cond.methodLink "CarcasswrightLaw" 228 ⟨"CarcasswrightModel", "place", "(IIII)I"⟩ ∈ ce_GW := gT_10 _ (List.mem_of_getElem? (i := 102) rfl) rfl
theorem gw_2263 : Cond.instanceMethod ⟨"CarcasswrightModel", "place", "(IIII)I"⟩ ∈ ce_GW := gT_10 _ (List.mem_of_getElem? (i := 103) rfl) rfl
theorem gw_2264 : Cond.selects "CarcasswrightModel" ⟨"CarcasswrightModel", "place", "(IIII)I"⟩ ⟨"CarcasswrightModel", "place", "(IIII)I"⟩ ∈ ce_GW := gT_10 _ (List.mem_of_getElem? (i := 104) rfl) rfl
theorem gw_2265 : Cond.code ⟨"CarcasswrightModel", "place", "(IIII)I"⟩ prog_14_method_31_code 6 (Option.some Jvm.ClassFile.FieldType.int) ∈ ce_GW := gT_10 _ (List.mem_of_getElem? (i := 105) rfl) rfl
theorem gw_2330 : Cond.methodLink "CarcasswrightLaw" 232 ⟨"CarcasswrightModel", "shift", "(II)I"⟩ ∈ ce_GW := gT_10 _ (List.mem_of_getElem? (i := 170) rfl) rfl
theorem gw_2331 : Cond.instanceMethod ⟨"CarcasswrightModel", "shift", "(II)I"⟩ ∈ ce_GW := gT_10 _ (List.mem_of_getElem? (i := 171) rfl) rfl
theorem gw_2332 : Cond.selects "CarcasswrightModel" ⟨"CarcasswrightModel", "shift", "(II)I"⟩ ⟨"CarcasswrightModel", "shift", "(II)I"⟩ ∈ ce_GW := gT_10 _ (List.mem_of_getElem? (i := 172) rfl) rfl
theorem gw_2333 : Cond.code ⟨"CarcasswrightModel", "shift", "(II)I"⟩ prog_14_method_33_code 5 (Option.some Jvm.ClassFile.FieldType.int) ∈ ce_GW := gT_10 _ (List.mem_of_getElem? (i := 173) rfl) rfl
theorem gw_2334 : Cond.methodLink "CarcasswrightModel" 292 ⟨"CarcasswrightModel", "noModule", "(I)Z"⟩ ∈ ce_GW := gT_10 _ (List.mem_of_getElem? (i := 174) rfl) rfl
theorem gw_2336 : Cond.instanceMethod ⟨"CarcasswrightModel", "noModule", "(I)Z"⟩ ∈ ce_GW := gT_10 _ (List.mem_of_getElem? (i := 176) rfl) rfl
theorem gw_2337 : Cond.code ⟨"CarcasswrightModel", "noModule", "(I)Z"⟩ prog_14_method_32_code 2 (Option.some Jvm.ClassFile.FieldType.boolean) ∈ ce_GW := gT_10 _ (List.mem_of_getElem? (i := 177) rfl) rfl
theorem gw_2338 : Cond.methodLink "CarcasswrightLaw" 235 ⟨"CarcasswrightModel", "change", "(II)I"⟩ ∈ ce_GW := gT_10 _ (List.mem_of_getElem? (i := 178) rfl) rfl
theorem gw_2339 : Cond.instanceMethod ⟨"CarcasswrightModel", "change", "(II)I"⟩ ∈ ce_GW := gT_10 _ (List.mem_of_getElem? (i := 179) rfl) rfl
theorem gw_2340 : Cond.selects "CarcasswrightModel" ⟨"CarcasswrightModel", "change", "(II)I"⟩ ⟨"CarcasswrightModel", "change", "(II)I"⟩ ∈ ce_GW := gT_10 _ (List.mem_of_getElem? (i := 180) rfl) rfl
theorem gw_2341 : Cond.code ⟨"CarcasswrightModel", "change", "(II)I"⟩ prog_14_method_34_code 9 (Option.some Jvm.ClassFile.FieldType.int) ∈ ce_GW := gT_10 _ (List.mem_of_getElem? (i := 181) rfl) rfl
theorem gw_2434 : Cond.methodLink "CarcasswrightLaw" 238 ⟨"CarcasswrightModel", "clash", "(I)C"⟩ ∈ ce_GW := gT_11 _ (List.mem_of_getElem? (i := 34) rfl) rfl
theorem gw_2435 : Cond.instanceMethod ⟨"CarcasswrightModel", "clash", "(I)C"⟩ ∈ ce_GW := gT_11 _ (List.mem_of_getElem? (i := 35) rfl) rfl
theorem gw_2436 : Cond.selects "CarcasswrightModel" ⟨"CarcasswrightModel", "clash", "(I)C"⟩ ⟨"CarcasswrightModel", "clash", "(I)C"⟩ ∈ ce_GW := gT_11 _ (List.mem_of_getElem? (i := 36) rfl) rfl
theorem gw_2437 : Cond.code ⟨"CarcasswrightModel", "clash", "(I)C"⟩ prog_14_method_35_code 2 (Option.some Jvm.ClassFile.FieldType.char) ∈ ce_GW := gT_11 _ (List.mem_of_getElem? (i := 37) rfl) rfl
theorem gw_2438 : Cond.methodLink "CarcasswrightLaw" 241 ⟨"CarcasswrightModel", "clashNumber", "(I)I"⟩ ∈ ce_GW := gT_11 _ (List.mem_of_getElem? (i := 38) rfl) rfl
theorem gw_2439 : Cond.instanceMethod ⟨"CarcasswrightModel", "clashNumber", "(I)I"⟩ ∈ ce_GW := gT_11 _ (List.mem_of_getElem? (i := 39) rfl) rfl
theorem gw_2440 : Cond.selects "CarcasswrightModel" ⟨"CarcasswrightModel", "clashNumber", "(I)I"⟩ ⟨"CarcasswrightModel", "clashNumber", "(I)I"⟩ ∈ ce_GW := gT_11 _ (List.mem_of_getElem? (i := 40) rfl) rfl
theorem gw_2441 : Cond.code ⟨"CarcasswrightModel", "clashNumber", "(I)I"⟩ prog_14_method_36_code 2 (Option.some Jvm.ClassFile.FieldType.int) ∈ ce_GW := gT_11 _ (List.mem_of_getElem? (i := 41) rfl) rfl
theorem gw_2442 : Cond.methodLink "CarcasswrightLaw" 244 ⟨"CarcasswrightModel", "from", "(I)I"⟩ ∈ ce_GW := gT_11 _ (List.mem_of_getElem? (i := 42) rfl) rfl
theorem gw_2443 : Cond.instanceMethod ⟨"CarcasswrightModel", "from", "(I)I"⟩ ∈ ce_GW := gT_11 _ (List.mem_of_getElem? (i := 43) rfl) rfl
theorem gw_2444 : Cond.selects "CarcasswrightModel" ⟨"CarcasswrightModel", "from", "(I)I"⟩ ⟨"CarcasswrightModel", "from", "(I)I"⟩ ∈ ce_GW := gT_11 _ (List.mem_of_getElem? (i := 44) rfl) rfl
theorem gw_2445 : Cond.code ⟨"CarcasswrightModel", "from", "(I)I"⟩ prog_14_method_37_code 2 (Option.some Jvm.ClassFile.FieldType.int) ∈ ce_GW := gT_11 _ (List.mem_of_getElem? (i := 45) rfl) rfl
theorem gw_2446 : Cond.methodLink "CarcasswrightLaw" 248 ⟨"CarcasswrightModel", "free", "(IZ)I"⟩ ∈ ce_GW := gT_11 _ (List.mem_of_getElem? (i := 46) rfl) rfl
theorem gw_2447 : Cond.instanceMethod ⟨"CarcasswrightModel", "free", "(IZ)I"⟩ ∈ ce_GW := gT_11 _ (List.mem_of_getElem? (i := 47) rfl) rfl
theorem gw_2448 : Cond.selects "CarcasswrightModel" ⟨"CarcasswrightModel", "free", "(IZ)I"⟩ ⟨"CarcasswrightModel", "free", "(IZ)I"⟩ ∈ ce_GW := gT_11 _ (List.mem_of_getElem? (i := 48) rfl) rfl
theorem gw_2449 : Cond.code ⟨"CarcasswrightModel", "free", "(IZ)I"⟩ prog_14_method_39_code 3 (Option.some Jvm.ClassFile.FieldType.int) ∈ ce_GW := gT_11 _ (List.mem_of_getElem? (i := 49) rfl) rfl
theorem gw_2454 : Cond.methodLink "CarcasswrightLaw" 251 ⟨"CarcasswrightModel", "widest", "(IZ)I"⟩ ∈ ce_GW := gT_11 _ (List.mem_of_getElem? (i := 54) rfl) rfl
theorem gw_2455 : Cond.instanceMethod ⟨"CarcasswrightModel", "widest", "(IZ)I"⟩ ∈ ce_GW := gT_11 _ (List.mem_of_getElem? (i := 55) rfl) rfl
theorem gw_2456 : Cond.selects "CarcasswrightModel" ⟨"CarcasswrightModel", "widest", "(IZ)I"⟩ ⟨"CarcasswrightModel", "widest", "(IZ)I"⟩ ∈ ce_GW := gT_11 _ (List.mem_of_getElem? (i := 56) rfl) rfl
theorem gw_2457 : Cond.code ⟨"CarcasswrightModel", "widest", "(IZ)I"⟩ prog_14_method_40_code 3 (Option.some Jvm.ClassFile.FieldType.int) ∈ ce_GW := gT_11 _ (List.mem_of_getElem? (i := 57) rfl) rfl
theorem gw_2458 : Cond.methodLink "CarcasswrightLaw" 254 ⟨"CarcasswrightModel", "parts", "(I)I"⟩ ∈ ce_GW := gT_11 _ (List.mem_of_getElem? (i := 58) rfl) rfl
theorem gw_2459 : Cond.instanceMethod ⟨"CarcasswrightModel", "parts", "(I)I"⟩ ∈ ce_GW := gT_11 _ (List.mem_of_getElem? (i := 59) rfl) rfl
theorem gw_2460 : Cond.selects "CarcasswrightModel" ⟨"CarcasswrightModel", "parts", "(I)I"⟩ ⟨"CarcasswrightModel", "parts", "(I)I"⟩ ∈ ce_GW := gT_11 _ (List.mem_of_getElem? (i := 60) rfl) rfl
theorem gw_2461 : Cond.code ⟨"CarcasswrightModel", "parts", "(I)I"⟩ prog_14_method_41_code 2 (Option.some Jvm.ClassFile.FieldType.int) ∈ ce_GW := gT_11 _ (List.mem_of_getElem? (i := 61) rfl) rfl
theorem gw_2462 : Cond.methodLink "CarcasswrightLaw" 257 ⟨"CarcasswrightModel", "kindOf", "(II)C"⟩ ∈ ce_GW := gT_11 _ (List.mem_of_getElem? (i := 62) rfl) rfl
theorem gw_2463 : Cond.instanceMethod ⟨"CarcasswrightModel", "kindOf", "(II)C"⟩ ∈ ce_GW := gT_11 _ (List.mem_of_getElem? (i := 63) rfl) rfl
theorem gw_2464 : Cond.selects "CarcasswrightModel" ⟨"CarcasswrightModel", "kindOf", "(II)C"⟩ ⟨"CarcasswrightModel", "kindOf", "(II)C"⟩ ∈ ce_GW := gT_11 _ (List.mem_of_getElem? (i := 64) rfl) rfl
theorem gw_2465 : Cond.code ⟨"CarcasswrightModel", "kindOf", "(II)C"⟩ prog_14_method_43_code 4 (Option.some Jvm.ClassFile.FieldType.char) ∈ ce_GW := gT_11 _ (List.mem_of_getElem? (i := 65) rfl) rfl
theorem gw_2466 : Cond.methodLink "CarcasswrightModel" 332 ⟨"CarcasswrightModel", "part", "(II)LCarcasswrightModel$Part;"⟩ ∈ ce_GW := gT_11 _ (List.mem_of_getElem? (i := 66) rfl) rfl
theorem gw_2468 : Cond.instanceMethod ⟨"CarcasswrightModel", "part", "(II)LCarcasswrightModel$Part;"⟩ ∈ ce_GW := gT_11 _ (List.mem_of_getElem? (i := 68) rfl) rfl
theorem gw_2469 : Cond.code ⟨"CarcasswrightModel", "part", "(II)LCarcasswrightModel$Part;"⟩ prog_14_method_42_code 4 (Option.some (Jvm.ClassFile.FieldType.object "CarcasswrightModel$Part")) ∈ ce_GW := gT_11 _ (List.mem_of_getElem? (i := 69) rfl) rfl
theorem gw_2470 : Cond.methodLink "CarcasswrightLaw" 261 ⟨"CarcasswrightModel", "size", "(IIC)I"⟩ ∈ ce_GW := gT_11 _ (List.mem_of_getElem? (i := 70) rfl) rfl
theorem gw_2471 : Cond.instanceMethod ⟨"CarcasswrightModel", "size", "(IIC)I"⟩ ∈ ce_GW := gT_11 _ (List.mem_of_getElem? (i := 71) rfl) rfl
theorem gw_2472 : Cond.selects "CarcasswrightModel" ⟨"CarcasswrightModel", "size", "(IIC)I"⟩ ⟨"CarcasswrightModel", "size", "(IIC)I"⟩ ∈ ce_GW := gT_11 _ (List.mem_of_getElem? (i := 72) rfl) rfl
theorem gw_2473 : Cond.code ⟨"CarcasswrightModel", "size", "(IIC)I"⟩ prog_14_method_44_code 5 (Option.some Jvm.ClassFile.FieldType.int) ∈ ce_GW := gT_11 _ (List.mem_of_getElem? (i := 73) rfl) rfl
theorem gw_2475 : Cond.methodLink "CarcasswrightLaw" 264 ⟨"CarcasswrightModel", "weight", "(II)I"⟩ ∈ ce_GW := gT_11 _ (List.mem_of_getElem? (i := 75) rfl) rfl
theorem gw_2476 : Cond.instanceMethod ⟨"CarcasswrightModel", "weight", "(II)I"⟩ ∈ ce_GW := gT_11 _ (List.mem_of_getElem? (i := 76) rfl) rfl
theorem gw_2477 : Cond.selects "CarcasswrightModel" ⟨"CarcasswrightModel", "weight", "(II)I"⟩ ⟨"CarcasswrightModel", "weight", "(II)I"⟩ ∈ ce_GW := gT_11 _ (List.mem_of_getElem? (i := 77) rfl) rfl
theorem gw_2478 : Cond.code ⟨"CarcasswrightModel", "weight", "(II)I"⟩ prog_14_method_45_code 4 (Option.some Jvm.ClassFile.FieldType.int) ∈ ce_GW := gT_11 _ (List.mem_of_getElem? (i := 78) rfl) rfl
theorem gw_2486 : Cond.methodLink "CarcasswrightLaw" 267 ⟨"CarcasswrightModel", "hinges", "(I)I"⟩ ∈ ce_GW := gT_11 _ (List.mem_of_getElem? (i := 86) rfl) rfl
theorem gw_2487 : Cond.instanceMethod ⟨"CarcasswrightModel", "hinges", "(I)I"⟩ ∈ ce_GW := gT_11 _ (List.mem_of_getElem? (i := 87) rfl) rfl
theorem gw_2488 : Cond.selects "CarcasswrightModel" ⟨"CarcasswrightModel", "hinges", "(I)I"⟩ ⟨"CarcasswrightModel", "hinges", "(I)I"⟩ ∈ ce_GW := gT_11 _ (List.mem_of_getElem? (i := 88) rfl) rfl
theorem gw_2489 : Cond.code ⟨"CarcasswrightModel", "hinges", "(I)I"⟩ prog_14_method_47_code 2 (Option.some Jvm.ClassFile.FieldType.int) ∈ ce_GW := gT_11 _ (List.mem_of_getElem? (i := 89) rfl) rfl
theorem gw_2497 : Cond.methodLink "CarcasswrightLaw" 270 ⟨"CarcasswrightModel", "holes", "(II)I"⟩ ∈ ce_GW := gT_11 _ (List.mem_of_getElem? (i := 97) rfl) rfl
theorem gw_2498 : Cond.instanceMethod ⟨"CarcasswrightModel", "holes", "(II)I"⟩ ∈ ce_GW := gT_11 _ (List.mem_of_getElem? (i := 98) rfl) rfl
theorem gw_2499 : Cond.selects "CarcasswrightModel" ⟨"CarcasswrightModel", "holes", "(II)I"⟩ ⟨"CarcasswrightModel", "holes", "(II)I"⟩ ∈ ce_GW := gT_11 _ (List.mem_of_getElem? (i := 99) rfl) rfl
theorem gw_2500 : Cond.code ⟨"CarcasswrightModel", "holes", "(II)I"⟩ prog_14_method_48_code 3 (Option.some Jvm.ClassFile.FieldType.int) ∈ ce_GW := gT_11 _ (List.mem_of_getElem? (i := 100) rfl) rfl
theorem gw_2531 : Cond.methodLink "CarcasswrightLaw" 274 ⟨"CarcasswrightModel", "hole", "(IIIC)I"⟩ ∈ ce_GW := gT_11 _ (List.mem_of_getElem? (i := 131) rfl) rfl
theorem gw_2532 : Cond.instanceMethod ⟨"CarcasswrightModel", "hole", "(IIIC)I"⟩ ∈ ce_GW := gT_11 _ (List.mem_of_getElem? (i := 132) rfl) rfl
theorem gw_2533 : Cond.selects "CarcasswrightModel" ⟨"CarcasswrightModel", "hole", "(IIIC)I"⟩ ⟨"CarcasswrightModel", "hole", "(IIIC)I"⟩ ∈ ce_GW := gT_11 _ (List.mem_of_getElem? (i := 133) rfl) rfl
theorem gw_2534 : Cond.code ⟨"CarcasswrightModel", "hole", "(IIIC)I"⟩ prog_14_method_49_code 7 (Option.some Jvm.ClassFile.FieldType.int) ∈ ce_GW := gT_11 _ (List.mem_of_getElem? (i := 134) rfl) rfl
theorem gw_2537 : Cond.methodLink "CarcasswrightLaw" 277 ⟨"CarcasswrightModel", "drills", "(II)I"⟩ ∈ ce_GW := gT_11 _ (List.mem_of_getElem? (i := 137) rfl) rfl
theorem gw_2538 : Cond.instanceMethod ⟨"CarcasswrightModel", "drills", "(II)I"⟩ ∈ ce_GW := gT_11 _ (List.mem_of_getElem? (i := 138) rfl) rfl
theorem gw_2539 : Cond.selects "CarcasswrightModel" ⟨"CarcasswrightModel", "drills", "(II)I"⟩ ⟨"CarcasswrightModel", "drills", "(II)I"⟩ ∈ ce_GW := gT_11 _ (List.mem_of_getElem? (i := 139) rfl) rfl
theorem gw_2540 : Cond.code ⟨"CarcasswrightModel", "drills", "(II)I"⟩ prog_14_method_50_code 7 (Option.some Jvm.ClassFile.FieldType.int) ∈ ce_GW := gT_11 _ (List.mem_of_getElem? (i := 140) rfl) rfl
theorem gw_2542 : Cond.methodLink "CarcasswrightLaw" 281 ⟨"CarcasswrightModel", "clamp", "(IIZ)I"⟩ ∈ ce_GW := gT_11 _ (List.mem_of_getElem? (i := 142) rfl) rfl
theorem gw_2543 : Cond.instanceMethod ⟨"CarcasswrightModel", "clamp", "(IIZ)I"⟩ ∈ ce_GW := gT_11 _ (List.mem_of_getElem? (i := 143) rfl) rfl
theorem gw_2544 : Cond.selects "CarcasswrightModel" ⟨"CarcasswrightModel", "clamp", "(IIZ)I"⟩ ⟨"CarcasswrightModel", "clamp", "(IIZ)I"⟩ ∈ ce_GW := gT_11 _ (List.mem_of_getElem? (i := 144) rfl) rfl
theorem gw_2545 : Cond.code ⟨"CarcasswrightModel", "clamp", "(IIZ)I"⟩ prog_14_method_52_code 8 (Option.some Jvm.ClassFile.FieldType.int) ∈ ce_GW := gT_11 _ (List.mem_of_getElem? (i := 145) rfl) rfl
theorem gw_2549 : Cond.methodLink "CarcasswrightLaw" 284 ⟨"CarcasswrightModel", "addBoards", "(IIIII)I"⟩ ∈ ce_GW := gT_11 _ (List.mem_of_getElem? (i := 149) rfl) rfl
theorem gw_2550 : Cond.instanceMethod ⟨"CarcasswrightModel", "addBoards", "(IIIII)I"⟩ ∈ ce_GW := gT_11 _ (List.mem_of_getElem? (i := 150) rfl) rfl
theorem gw_2551 : Cond.selects "CarcasswrightModel" ⟨"CarcasswrightModel", "addBoards", "(IIIII)I"⟩ ⟨"CarcasswrightModel", "addBoards", "(IIIII)I"⟩ ∈ ce_GW := gT_11 _ (List.mem_of_getElem? (i := 151) rfl) rfl
theorem gw_2552 : Cond.code ⟨"CarcasswrightModel", "addBoards", "(IIIII)I"⟩ prog_14_method_53_code 9 (Option.some Jvm.ClassFile.FieldType.int) ∈ ce_GW := gT_11 _ (List.mem_of_getElem? (i := 152) rfl) rfl
theorem gw_2553 : Cond.classLink "CarcasswrightModel" 378 "CarcasswrightModel$Board" ∈ ce_GW := gT_11 _ (List.mem_of_getElem? (i := 153) rfl) rfl
theorem gw_2554 : Cond.instantiable "CarcasswrightModel$Board" 7 ∈ ce_GW := gT_11 _ (List.mem_of_getElem? (i := 154) rfl) rfl
theorem gw_2555 : Cond.methodLink "CarcasswrightModel" 380 ⟨"CarcasswrightModel$Board", "<init>", "(IIIIZ)V"⟩ ∈ ce_GW := gT_11 _ (List.mem_of_getElem? (i := 155) rfl) rfl
theorem gw_2556 : Cond.instanceMethod ⟨"CarcasswrightModel$Board", "<init>", "(IIIIZ)V"⟩ ∈ ce_GW := gT_11 _ (List.mem_of_getElem? (i := 156) rfl) rfl
theorem gw_2557 : Cond.code ⟨"CarcasswrightModel$Board", "<init>", "(IIIIZ)V"⟩ prog_15_method_1_code 6 Option.none ∈ ce_GW := gT_11 _ (List.mem_of_getElem? (i := 157) rfl) rfl
theorem gw_2558 : Cond.methodLink "CarcasswrightModel$Board" 3 ⟨"java/lang/Object", "<init>", "()V"⟩ ∈ ce_GW := gT_11 _ (List.mem_of_getElem? (i := 158) rfl) rfl
theorem gw_2559 : Cond.classLink "CarcasswrightModel$Board" 9 "java/util/ArrayList" ∈ ce_GW := gT_11 _ (List.mem_of_getElem? (i := 159) rfl) rfl
theorem gw_2560 : Cond.methodLink "CarcasswrightModel$Board" 11 ⟨"java/util/ArrayList", "<init>", "()V"⟩ ∈ ce_GW := gT_11 _ (List.mem_of_getElem? (i := 160) rfl) rfl
theorem gw_2561 : Cond.fieldLink "CarcasswrightModel$Board" 21 "CarcasswrightModel$Board" "colour" "I" ∈ ce_GW := gT_11 _ (List.mem_of_getElem? (i := 161) rfl) rfl
theorem gw_2563 : Cond.fieldLink "CarcasswrightModel$Board" 25 "CarcasswrightModel$Board" "thick" "I" ∈ ce_GW := gT_11 _ (List.mem_of_getElem? (i := 163) rfl) rfl
theorem gw_2565 : Cond.fieldLink "CarcasswrightModel$Board" 28 "CarcasswrightModel$Board" "length" "I" ∈ ce_GW := gT_11 _ (List.mem_of_getElem? (i := 165) rfl) rfl
theorem gw_2567 : Cond.fieldLink "CarcasswrightModel$Board" 31 "CarcasswrightModel$Board" "width" "I" ∈ ce_GW := gT_11 _ (List.mem_of_getElem? (i := 167) rfl) rfl
theorem gw_2569 : Cond.fieldLink "CarcasswrightModel$Board" 34 "CarcasswrightModel$Board" "isOffcut" "Z" ∈ ce_GW := gT_11 _ (List.mem_of_getElem? (i := 169) rfl) rfl
theorem gw_2571 : Cond.fieldLink "CarcasswrightModel$Board" 12 "CarcasswrightModel$Board" "wide" "Ljava/util/ArrayList;" ∈ ce_GW := gT_11 _ (List.mem_of_getElem? (i := 171) rfl) rfl
theorem gw_2572 : Cond.fieldLink "CarcasswrightModel$Board" 18 "CarcasswrightModel$Board" "used" "Ljava/util/ArrayList;" ∈ ce_GW := gT_11 _ (List.mem_of_getElem? (i := 172) rfl) rfl
theorem gw_2588 : Cond.methodLink "CarcasswrightModel" 386 ⟨"CarcasswrightModel$Board", "area", "()J"⟩ ∈ ce_GW := gT_11 _ (List.mem_of_getElem? (i := 188) rfl) rfl
theorem gw_2589 : Cond.instanceMethod ⟨"CarcasswrightModel$Board", "area", "()J"⟩ ∈ ce_GW := gT_11 _ (List.mem_of_getElem? (i := 189) rfl) rfl
theorem gw_2590 : Cond.selects "CarcasswrightModel$Board" ⟨"CarcasswrightModel$Board", "area", "()J"⟩ ⟨"CarcasswrightModel$Board", "area", "()J"⟩ ∈ ce_GW := gT_11 _ (List.mem_of_getElem? (i := 190) rfl) rfl
theorem gw_2591 : Cond.code ⟨"CarcasswrightModel$Board", "area", "()J"⟩ prog_15_method_2_code 1 (Option.some Jvm.ClassFile.FieldType.long) ∈ ce_GW := gT_11 _ (List.mem_of_getElem? (i := 191) rfl) rfl
theorem gw_2592 : Cond.methodLink "CarcasswrightLaw" 288 ⟨"CarcasswrightModel", "boards", "()I"⟩ ∈ ce_GW := gT_11 _ (List.mem_of_getElem? (i := 192) rfl) rfl
theorem gw_2593 : Cond.instanceMethod ⟨"CarcasswrightModel", "boards", "()I"⟩ ∈ ce_GW := gT_11 _ (List.mem_of_getElem? (i := 193) rfl) rfl
theorem gw_2594 : Cond.selects "CarcasswrightModel" ⟨"CarcasswrightModel", "boards", "()I"⟩ ⟨"CarcasswrightModel", "boards", "()I"⟩ ∈ ce_GW := gT_11 _ (List.mem_of_getElem? (i := 194) rfl) rfl
theorem gw_2595 : Cond.code ⟨"CarcasswrightModel", "boards", "()I"⟩ prog_14_method_54_code 1 (Option.some Jvm.ClassFile.FieldType.int) ∈ ce_GW := gT_11 _ (List.mem_of_getElem? (i := 195) rfl) rfl
theorem gw_2596 : Cond.methodLink "CarcasswrightLaw" 292 ⟨"CarcasswrightModel", "offcuts", "()I"⟩ ∈ ce_GW := gT_11 _ (List.mem_of_getElem? (i := 196) rfl) rfl
theorem gw_2597 : Cond.instanceMethod ⟨"CarcasswrightModel", "offcuts", "()I"⟩ ∈ ce_GW := gT_11 _ (List.mem_of_getElem? (i := 197) rfl) rfl
theorem gw_2598 : Cond.selects "CarcasswrightModel" ⟨"CarcasswrightModel", "offcuts", "()I"⟩ ⟨"CarcasswrightModel", "offcuts", "()I"⟩ ∈ ce_GW := gT_11 _ (List.mem_of_getElem? (i := 198) rfl) rfl
theorem gw_2599 : Cond.code ⟨"CarcasswrightModel", "offcuts", "()I"⟩ prog_14_method_55_code 4 (Option.some Jvm.ClassFile.FieldType.int) ∈ ce_GW := gT_11 _ (List.mem_of_getElem? (i := 199) rfl) rfl
theorem gw_2600 : Cond.methodLink "CarcasswrightLaw" 295 ⟨"CarcasswrightModel", "board", "(IC)I"⟩ ∈ ce_GW := gT_11 _ (List.mem_of_getElem? (i := 200) rfl) rfl
theorem gw_2601 : Cond.instanceMethod ⟨"CarcasswrightModel", "board", "(IC)I"⟩ ∈ ce_GW := gT_11 _ (List.mem_of_getElem? (i := 201) rfl) rfl
theorem gw_2602 : Cond.selects "CarcasswrightModel" ⟨"CarcasswrightModel", "board", "(IC)I"⟩ ⟨"CarcasswrightModel", "board", "(IC)I"⟩ ∈ ce_GW := gT_11 _ (List.mem_of_getElem? (i := 202) rfl) rfl
theorem gw_2603 : Cond.code ⟨"CarcasswrightModel", "board", "(IC)I"⟩ prog_14_method_56_code 4 (Option.some Jvm.ClassFile.FieldType.int) ∈ ce_GW := gT_11 _ (List.mem_of_getElem? (i := 203) rfl) rfl
theorem gw_2605 : Cond.methodLink "CarcasswrightLaw" 298 ⟨"CarcasswrightModel", "uncut", "(I)I"⟩ ∈ ce_GW := gT_11 _ (List.mem_of_getElem? (i := 205) rfl) rfl
theorem gw_2606 : Cond.instanceMethod ⟨"CarcasswrightModel", "uncut", "(I)I"⟩ ∈ ce_GW := gT_11 _ (List.mem_of_getElem? (i := 206) rfl) rfl
theorem gw_2607 : Cond.selects "CarcasswrightModel" ⟨"CarcasswrightModel", "uncut", "(I)I"⟩ ⟨"CarcasswrightModel", "uncut", "(I)I"⟩ ∈ ce_GW := gT_11 _ (List.mem_of_getElem? (i := 207) rfl) rfl
theorem gw_2608 : Cond.code ⟨"CarcasswrightModel", "uncut", "(I)I"⟩ prog_14_method_57_code 2 (Option.some Jvm.ClassFile.FieldType.int) ∈ ce_GW := gT_11 _ (List.mem_of_getElem? (i := 208) rfl) rfl
theorem gw_2621 : Cond.methodLink "CarcasswrightLaw" 301 ⟨"CarcasswrightModel", "cut", "(I)I"⟩ ∈ ce_GW := gT_11 _ (List.mem_of_getElem? (i := 221) rfl) rfl
theorem gw_2622 : Cond.instanceMethod ⟨"CarcasswrightModel", "cut", "(I)I"⟩ ∈ ce_GW := gT_11 _ (List.mem_of_getElem? (i := 222) rfl) rfl
theorem gw_2623 : Cond.selects "CarcasswrightModel" ⟨"CarcasswrightModel", "cut", "(I)I"⟩ ⟨"CarcasswrightModel", "cut", "(I)I"⟩ ∈ ce_GW := gT_11 _ (List.mem_of_getElem? (i := 223) rfl) rfl
theorem gw_2624 : Cond.code ⟨"CarcasswrightModel", "cut", "(I)I"⟩ prog_14_method_61_code 13 (Option.some Jvm.ClassFile.FieldType.int) ∈ ce_GW := gT_11 _ (List.mem_of_getElem? (i := 224) rfl) rfl
theorem gw_2739 : Cond.methodLink "CarcasswrightLaw" 304 ⟨"CarcasswrightModel", "lose", "(II)I"⟩ ∈ ce_GW := gT_12 _ (List.mem_of_getElem? (i := 99) rfl) rfl
theorem gw_2740 : Cond.instanceMethod ⟨"CarcasswrightModel", "lose", "(II)I"⟩ ∈ ce_GW := gT_12 _ (List.mem_of_getElem? (i := 100) rfl) rfl
theorem gw_2741 : Cond.selects "CarcasswrightModel" ⟨"CarcasswrightModel", "lose", "(II)I"⟩ ⟨"CarcasswrightModel", "lose", "(II)I"⟩ ∈ ce_GW := gT_12 _ (List.mem_of_getElem? (i := 101) rfl) rfl
theorem gw_2742 : Cond.code ⟨"CarcasswrightModel", "lose", "(II)I"⟩ prog_14_method_62_code 6 (Option.some Jvm.ClassFile.FieldType.int) ∈ ce_GW := gT_12 _ (List.mem_of_getElem? (i := 102) rfl) rfl
theorem gw_2743 : Cond.methodLink "CarcasswrightLaw" 307 ⟨"CarcasswrightModel", "edged", "(I)I"⟩ ∈ ce_GW := gT_12 _ (List.mem_of_getElem? (i := 103) rfl) rfl
theorem gw_2744 : Cond.instanceMethod ⟨"CarcasswrightModel", "edged", "(I)I"⟩ ∈ ce_GW := gT_12 _ (List.mem_of_getElem? (i := 104) rfl) rfl
theorem gw_2745 : Cond.selects "CarcasswrightModel" ⟨"CarcasswrightModel", "edged", "(I)I"⟩ ⟨"CarcasswrightModel", "edged", "(I)I"⟩ ∈ ce_GW := gT_12 _ (List.mem_of_getElem? (i := 105) rfl) rfl
theorem gw_2746 : Cond.code ⟨"CarcasswrightModel", "edged", "(I)I"⟩ prog_14_method_63_code 7 (Option.some Jvm.ClassFile.FieldType.int) ∈ ce_GW := gT_12 _ (List.mem_of_getElem? (i := 106) rfl) rfl
theorem gw_2751 : Cond.methodLink "CarcasswrightLaw" 310 ⟨"CarcasswrightModel", "setRate", "(II)I"⟩ ∈ ce_GW := gT_12 _ (List.mem_of_getElem? (i := 111) rfl) rfl
theorem gw_2752 : Cond.instanceMethod ⟨"CarcasswrightModel", "setRate", "(II)I"⟩ ∈ ce_GW := gT_12 _ (List.mem_of_getElem? (i := 112) rfl) rfl
theorem gw_2753 : Cond.selects "CarcasswrightModel" ⟨"CarcasswrightModel", "setRate", "(II)I"⟩ ⟨"CarcasswrightModel", "setRate", "(II)I"⟩ ∈ ce_GW := gT_12 _ (List.mem_of_getElem? (i := 113) rfl) rfl
theorem gw_2754 : Cond.code ⟨"CarcasswrightModel", "setRate", "(II)I"⟩ prog_14_method_64_code 4 (Option.some Jvm.ClassFile.FieldType.int) ∈ ce_GW := gT_12 _ (List.mem_of_getElem? (i := 114) rfl) rfl
theorem gw_2755 : Cond.methodLink "CarcasswrightLaw" 313 ⟨"CarcasswrightModel", "price", "(I)I"⟩ ∈ ce_GW := gT_12 _ (List.mem_of_getElem? (i := 115) rfl) rfl
theorem gw_2756 : Cond.instanceMethod ⟨"CarcasswrightModel", "price", "(I)I"⟩ ∈ ce_GW := gT_12 _ (List.mem_of_getElem? (i := 116) rfl) rfl
theorem gw_2757 : Cond.selects "CarcasswrightModel" ⟨"CarcasswrightModel", "price", "(I)I"⟩ ⟨"CarcasswrightModel", "price", "(I)I"⟩ ∈ ce_GW := gT_12 _ (List.mem_of_getElem? (i := 117) rfl) rfl
theorem gw_2758 : Cond.code ⟨"CarcasswrightModel", "price", "(I)I"⟩ prog_14_method_65_code 6 (Option.some Jvm.ClassFile.FieldType.int) ∈ ce_GW := gT_12 _ (List.mem_of_getElem? (i := 118) rfl) rfl
theorem gw_2761 : Cond.methodLink "CarcasswrightLaw" 316 ⟨"CarcasswrightModel", "packs", "(II)I"⟩ ∈ ce_GW := gT_12 _ (List.mem_of_getElem? (i := 121) rfl) rfl
theorem gw_2762 : Cond.instanceMethod ⟨"CarcasswrightModel", "packs", "(II)I"⟩ ∈ ce_GW := gT_12 _ (List.mem_of_getElem? (i := 122) rfl) rfl
theorem gw_2763 : Cond.selects "CarcasswrightModel" ⟨"CarcasswrightModel", "packs", "(II)I"⟩ ⟨"CarcasswrightModel", "packs", "(II)I"⟩ ∈ ce_GW := gT_12 _ (List.mem_of_getElem? (i := 123) rfl) rfl
theorem gw_2764 : Cond.code ⟨"CarcasswrightModel", "packs", "(II)I"⟩ prog_14_method_67_code 6 (Option.some Jvm.ClassFile.FieldType.int) ∈ ce_GW := gT_12 _ (List.mem_of_getElem? (i := 124) rfl) rfl
theorem gw_2769 : Cond.methodLink "CarcasswrightLaw" 319 ⟨"CarcasswrightModel", "packOf", "(III)I"⟩ ∈ ce_GW := gT_12 _ (List.mem_of_getElem? (i := 129) rfl) rfl
theorem gw_2770 : Cond.instanceMethod ⟨"CarcasswrightModel", "packOf", "(III)I"⟩ ∈ ce_GW := gT_12 _ (List.mem_of_getElem? (i := 130) rfl) rfl
theorem gw_2771 : Cond.selects "CarcasswrightModel" ⟨"CarcasswrightModel", "packOf", "(III)I"⟩ ⟨"CarcasswrightModel", "packOf", "(III)I"⟩ ∈ ce_GW := gT_12 _ (List.mem_of_getElem? (i := 131) rfl) rfl
theorem gw_2772 : Cond.code ⟨"CarcasswrightModel", "packOf", "(III)I"⟩ prog_14_method_68_code 5 (Option.some Jvm.ClassFile.FieldType.int) ∈ ce_GW := gT_12 _ (List.mem_of_getElem? (i := 132) rfl) rfl
theorem gw_2773 : Cond.methodLink "CarcasswrightLaw" 322 ⟨"CarcasswrightModel", "stepAt", "(II)I"⟩ ∈ ce_GW := gT_12 _ (List.mem_of_getElem? (i := 133) rfl) rfl
theorem gw_2774 : Cond.instanceMethod ⟨"CarcasswrightModel", "stepAt", "(II)I"⟩ ∈ ce_GW := gT_12 _ (List.mem_of_getElem? (i := 134) rfl) rfl
theorem gw_2775 : Cond.selects "CarcasswrightModel" ⟨"CarcasswrightModel", "stepAt", "(II)I"⟩ ⟨"CarcasswrightModel", "stepAt", "(II)I"⟩ ∈ ce_GW := gT_12 _ (List.mem_of_getElem? (i := 135) rfl) rfl
theorem gw_2776 : Cond.code ⟨"CarcasswrightModel", "stepAt", "(II)I"⟩ prog_14_method_69_code 3 (Option.some Jvm.ClassFile.FieldType.int) ∈ ce_GW := gT_12 _ (List.mem_of_getElem? (i := 136) rfl) rfl
theorem gw_2777 : Cond.methodLink "CarcasswrightLaw" 325 ⟨"CarcasswrightModel", "job", "(III)I"⟩ ∈ ce_GW := gT_12 _ (List.mem_of_getElem? (i := 137) rfl) rfl
theorem gw_2778 : Cond.instanceMethod ⟨"CarcasswrightModel", "job", "(III)I"⟩ ∈ ce_GW := gT_12 _ (List.mem_of_getElem? (i := 138) rfl) rfl
theorem gw_2779 : Cond.selects "CarcasswrightModel" ⟨"CarcasswrightModel", "job", "(III)I"⟩ ⟨"CarcasswrightModel", "job", "(III)I"⟩ ∈ ce_GW := gT_12 _ (List.mem_of_getElem? (i := 139) rfl) rfl
theorem gw_2780 : Cond.code ⟨"CarcasswrightModel", "job", "(III)I"⟩ prog_14_method_70_code 4 (Option.some Jvm.ClassFile.FieldType.int) ∈ ce_GW := gT_12 _ (List.mem_of_getElem? (i := 140) rfl) rfl
theorem gw_2781 : Cond.classLink "CarcasswrightModel" 455 "CarcasswrightModel$Job" ∈ ce_GW := gT_12 _ (List.mem_of_getElem? (i := 141) rfl) rfl
theorem gw_2782 : Cond.instantiable "CarcasswrightModel$Job" 3 ∈ ce_GW := gT_12 _ (List.mem_of_getElem? (i := 142) rfl) rfl
theorem gw_2783 : Cond.methodLink "CarcasswrightModel" 457 ⟨"CarcasswrightModel$Job", "<init>", "(III)V"⟩ ∈ ce_GW := gT_12 _ (List.mem_of_getElem? (i := 143) rfl) rfl
theorem gw_2784 : Cond.instanceMethod ⟨"CarcasswrightModel$Job", "<init>", "(III)V"⟩ ∈ ce_GW := gT_12 _ (List.mem_of_getElem? (i := 144) rfl) rfl
theorem gw_2785 : Cond.code ⟨"CarcasswrightModel$Job", "<init>", "(III)V"⟩ prog_17_method_1_code 4 Option.none ∈ ce_GW := gT_12 _ (List.mem_of_getElem? (i := 145) rfl) rfl
theorem gw_2786 : Cond.methodLink "CarcasswrightModel$Job" 1 ⟨"java/lang/Object", "<init>", "()V"⟩ ∈ ce_GW := gT_12 _ (List.mem_of_getElem? (i := 146) rfl) rfl
theorem gw_2787 : Cond.fieldLink "CarcasswrightModel$Job" 7 "CarcasswrightModel$Job" "colour" "I" ∈ ce_GW := gT_12 _ (List.mem_of_getElem? (i := 147) rfl) rfl
theorem gw_2789 : Cond.fieldLink "CarcasswrightModel$Job" 13 "CarcasswrightModel$Job" "hours" "I" ∈ ce_GW := gT_12 _ (List.mem_of_getElem? (i := 149) rfl) rfl
theorem gw_2791 : Cond.fieldLink "CarcasswrightModel$Job" 16 "CarcasswrightModel$Job" "due" "I" ∈ ce_GW := gT_12 _ (List.mem_of_getElem? (i := 151) rfl) rfl
theorem gw_2800 : Cond.methodLink "CarcasswrightLaw" 328 ⟨"CarcasswrightModel", "setSetup", "(I)I"⟩ ∈ ce_GW := gT_12 _ (List.mem_of_getElem? (i := 160) rfl) rfl
theorem gw_2801 : Cond.instanceMethod ⟨"CarcasswrightModel", "setSetup", "(I)I"⟩ ∈ ce_GW := gT_12 _ (List.mem_of_getElem? (i := 161) rfl) rfl
theorem gw_2802 : Cond.selects "CarcasswrightModel" ⟨"CarcasswrightModel", "setSetup", "(I)I"⟩ ⟨"CarcasswrightModel", "setSetup", "(I)I"⟩ ∈ ce_GW := gT_12 _ (List.mem_of_getElem? (i := 162) rfl) rfl
theorem gw_2803 : Cond.code ⟨"CarcasswrightModel", "setSetup", "(I)I"⟩ prog_14_method_71_code 3 (Option.some Jvm.ClassFile.FieldType.int) ∈ ce_GW := gT_12 _ (List.mem_of_getElem? (i := 163) rfl) rfl
theorem gw_2804 : Cond.methodLink "CarcasswrightLaw" 332 ⟨"CarcasswrightModel", "lateness", "()I"⟩ ∈ ce_GW := gT_12 _ (List.mem_of_getElem? (i := 164) rfl) rfl
theorem gw_2805 : Cond.instanceMethod ⟨"CarcasswrightModel", "lateness", "()I"⟩ ∈ ce_GW := gT_12 _ (List.mem_of_getElem? (i := 165) rfl) rfl
theorem gw_2806 : Cond.selects "CarcasswrightModel" ⟨"CarcasswrightModel", "lateness", "()I"⟩ ⟨"CarcasswrightModel", "lateness", "()I"⟩ ∈ ce_GW := gT_12 _ (List.mem_of_getElem? (i := 166) rfl) rfl
theorem gw_2807 : Cond.code ⟨"CarcasswrightModel", "lateness", "()I"⟩ prog_14_method_74_code 1 (Option.some Jvm.ClassFile.FieldType.int) ∈ ce_GW := gT_12 _ (List.mem_of_getElem? (i := 167) rfl) rfl
theorem gw_2808 : Cond.methodLink "CarcasswrightModel" 481 ⟨"CarcasswrightModel", "orders", "()V"⟩ ∈ ce_GW := gT_12 _ (List.mem_of_getElem? (i := 168) rfl) rfl
theorem gw_2810 : Cond.instanceMethod ⟨"CarcasswrightModel", "orders", "()V"⟩ ∈ ce_GW := gT_12 _ (List.mem_of_getElem? (i := 170) rfl) rfl
theorem gw_2811 : Cond.code ⟨"CarcasswrightModel", "orders", "()V"⟩ prog_14_method_73_code 1 Option.none ∈ ce_GW := gT_12 _ (List.mem_of_getElem? (i := 171) rfl) rfl
theorem gw_2812 : Cond.constant "CarcasswrightModel" 480 (Int32.ofInt 2147483647) ∈ ce_GW := gT_12 _ (List.mem_of_getElem? (i := 172) rfl) rfl
theorem gw_2813 : Cond.methodLink "CarcasswrightModel" 474 ⟨"CarcasswrightModel", "tries", "([IIIII)V"⟩ ∈ ce_GW := gT_12 _ (List.mem_of_getElem? (i := 173) rfl) rfl
theorem gw_2815 : Cond.instanceMethod ⟨"CarcasswrightModel", "tries", "([IIIII)V"⟩ ∈ ce_GW := gT_12 _ (List.mem_of_getElem? (i := 175) rfl) rfl
theorem gw_2816 : Cond.code ⟨"CarcasswrightModel", "tries", "([IIIII)V"⟩ prog_14_method_72_code 10 Option.none ∈ ce_GW := gT_12 _ (List.mem_of_getElem? (i := 176) rfl) rfl
theorem gw_2817 : Cond.methodLink "CarcasswrightModel" 463 ⟨"[I", "clone", "()Ljava/lang/Object;"⟩ ∈ ce_GW := gT_12 _ (List.mem_of_getElem? (i := 177) rfl) rfl
theorem gw_2818 : Cond.sameMethod "[I" "java/lang/Object" "clone" "()Ljava/lang/Object;" ∈ ce_GW := gT_12 _ (List.mem_of_getElem? (i := 178) rfl) rfl
theorem gw_2819 : Cond.selects "[I" ⟨"[I", "clone", "()Ljava/lang/Object;"⟩ ⟨"java/lang/Object", "clone", "()Ljava/lang/Object;"⟩ ∈ ce_GW := gT_12 _ (List.mem_of_getElem? (i := 179) rfl) rfl
theorem gw_2821 : Cond.classLink "CarcasswrightModel" 464 "[I" ∈ ce_GW := gT_12 _ (List.mem_of_getElem? (i := 181) rfl) rfl
theorem gw_2822 : Cond.methodLink "CarcasswrightLaw" 335 ⟨"CarcasswrightModel", "jobAt", "(I)I"⟩ ∈ ce_GW := gT_12 _ (List.mem_of_getElem? (i := 182) rfl) rfl
theorem gw_2823 : Cond.instanceMethod ⟨"CarcasswrightModel", "jobAt", "(I)I"⟩ ∈ ce_GW := gT_12 _ (List.mem_of_getElem? (i := 183) rfl) rfl
theorem gw_2824 : Cond.selects "CarcasswrightModel" ⟨"CarcasswrightModel", "jobAt", "(I)I"⟩ ⟨"CarcasswrightModel", "jobAt", "(I)I"⟩ ∈ ce_GW := gT_12 _ (List.mem_of_getElem? (i := 184) rfl) rfl
theorem gw_2825 : Cond.code ⟨"CarcasswrightModel", "jobAt", "(I)I"⟩ prog_14_method_75_code 2 (Option.some Jvm.ClassFile.FieldType.int) ∈ ce_GW := gT_12 _ (List.mem_of_getElem? (i := 185) rfl) rfl
theorem gw_2826 : Cond.methodLink "CarcasswrightLaw" 339 ⟨"CarcasswrightModel", "modules", "()I"⟩ ∈ ce_GW := gT_12 _ (List.mem_of_getElem? (i := 186) rfl) rfl
theorem gw_2827 : Cond.instanceMethod ⟨"CarcasswrightModel", "modules", "()I"⟩ ∈ ce_GW := gT_12 _ (List.mem_of_getElem? (i := 187) rfl) rfl
theorem gw_2828 : Cond.selects "CarcasswrightModel" ⟨"CarcasswrightModel", "modules", "()I"⟩ ⟨"CarcasswrightModel", "modules", "()I"⟩ ∈ ce_GW := gT_12 _ (List.mem_of_getElem? (i := 188) rfl) rfl
theorem gw_2829 : Cond.code ⟨"CarcasswrightModel", "modules", "()I"⟩ prog_14_method_76_code 1 (Option.some Jvm.ClassFile.FieldType.int) ∈ ce_GW := gT_12 _ (List.mem_of_getElem? (i := 189) rfl) rfl
theorem gw_2830 : Cond.methodLink "CarcasswrightLaw" 342 ⟨"CarcasswrightModel", "area", "(C)J"⟩ ∈ ce_GW := gT_12 _ (List.mem_of_getElem? (i := 190) rfl) rfl
theorem gw_2831 : Cond.instanceMethod ⟨"CarcasswrightModel", "area", "(C)J"⟩ ∈ ce_GW := gT_12 _ (List.mem_of_getElem? (i := 191) rfl) rfl
theorem gw_2832 : Cond.selects "CarcasswrightModel" ⟨"CarcasswrightModel", "area", "(C)J"⟩ ⟨"CarcasswrightModel", "area", "(C)J"⟩ ∈ ce_GW := gT_12 _ (List.mem_of_getElem? (i := 192) rfl) rfl
theorem gw_2833 : Cond.code ⟨"CarcasswrightModel", "area", "(C)J"⟩ prog_14_method_79_code 2 (Option.some Jvm.ClassFile.FieldType.long) ∈ ce_GW := gT_12 _ (List.mem_of_getElem? (i := 193) rfl) rfl
theorem gw_2834 : Cond.methodLink "CarcasswrightModel" 484 ⟨"CarcasswrightModel", "stocked", "()J"⟩ ∈ ce_GW := gT_12 _ (List.mem_of_getElem? (i := 194) rfl) rfl
theorem gw_2836 : Cond.instanceMethod ⟨"CarcasswrightModel", "stocked", "()J"⟩ ∈ ce_GW := gT_12 _ (List.mem_of_getElem? (i := 196) rfl) rfl
theorem gw_2837 : Cond.code ⟨"CarcasswrightModel", "stocked", "()J"⟩ prog_14_method_77_code 5 (Option.some Jvm.ClassFile.FieldType.long) ∈ ce_GW := gT_12 _ (List.mem_of_getElem? (i := 197) rfl) rfl
theorem gw_2838 : Cond.methodLink "CarcasswrightModel" 487 ⟨"CarcasswrightModel", "cutArea", "()J"⟩ ∈ ce_GW := gT_12 _ (List.mem_of_getElem? (i := 198) rfl) rfl
theorem gw_2840 : Cond.instanceMethod ⟨"CarcasswrightModel", "cutArea", "()J"⟩ ∈ ce_GW := gT_12 _ (List.mem_of_getElem? (i := 200) rfl) rfl
theorem gw_2841 : Cond.code ⟨"CarcasswrightModel", "cutArea", "()J"⟩ prog_14_method_78_code 7 (Option.some Jvm.ClassFile.FieldType.long) ∈ ce_GW := gT_12 _ (List.mem_of_getElem? (i := 201) rfl) rfl
theorem gw_2842 : Cond.methodLink "CarcasswrightLaw" 346 ⟨"CarcasswrightModel", "cutShare", "()F"⟩ ∈ ce_GW := gT_12 _ (List.mem_of_getElem? (i := 202) rfl) rfl
theorem gw_2843 : Cond.instanceMethod ⟨"CarcasswrightModel", "cutShare", "()F"⟩ ∈ ce_GW := gT_12 _ (List.mem_of_getElem? (i := 203) rfl) rfl
theorem gw_2844 : Cond.selects "CarcasswrightModel" ⟨"CarcasswrightModel", "cutShare", "()F"⟩ ⟨"CarcasswrightModel", "cutShare", "()F"⟩ ∈ ce_GW := gT_12 _ (List.mem_of_getElem? (i := 204) rfl) rfl
theorem gw_2845 : Cond.code ⟨"CarcasswrightModel", "cutShare", "()F"⟩ prog_14_method_80_code 5 (Option.some Jvm.ClassFile.FieldType.float) ∈ ce_GW := gT_12 _ (List.mem_of_getElem? (i := 205) rfl) rfl
theorem gw_2846 : Cond.methodLink "CarcasswrightLaw" 349 ⟨"CarcasswrightModel", "meanWidth", "()D"⟩ ∈ ce_GW := gT_12 _ (List.mem_of_getElem? (i := 206) rfl) rfl
theorem gw_2847 : Cond.instanceMethod ⟨"CarcasswrightModel", "meanWidth", "()D"⟩ ∈ ce_GW := gT_12 _ (List.mem_of_getElem? (i := 207) rfl) rfl
theorem gw_2848 : Cond.selects "CarcasswrightModel" ⟨"CarcasswrightModel", "meanWidth", "()D"⟩ ⟨"CarcasswrightModel", "meanWidth", "()D"⟩ ∈ ce_GW := gT_12 _ (List.mem_of_getElem? (i := 208) rfl) rfl
theorem gw_2849 : Cond.code ⟨"CarcasswrightModel", "meanWidth", "()D"⟩ prog_14_method_81_code 5 (Option.some Jvm.ClassFile.FieldType.double) ∈ ce_GW := gT_12 _ (List.mem_of_getElem? (i := 209) rfl) rfl
theorem gw_2850 : Cond.methodLink "CarcasswrightLaw" 353 ⟨"CarcasswrightModel", "isSound", "()Z"⟩ ∈ ce_GW := gT_12 _ (List.mem_of_getElem? (i := 210) rfl) rfl
theorem gw_2851 : Cond.instanceMethod ⟨"CarcasswrightModel", "isSound", "()Z"⟩ ∈ ce_GW := gT_12 _ (List.mem_of_getElem? (i := 211) rfl) rfl
theorem gw_2852 : Cond.selects "CarcasswrightModel" ⟨"CarcasswrightModel", "isSound", "()Z"⟩ ⟨"CarcasswrightModel", "isSound", "()Z"⟩ ∈ ce_GW := gT_12 _ (List.mem_of_getElem? (i := 212) rfl) rfl
theorem gw_2853 : Cond.code ⟨"CarcasswrightModel", "isSound", "()Z"⟩ prog_14_method_82_code 1 (Option.some Jvm.ClassFile.FieldType.boolean) ∈ ce_GW := gT_12 _ (List.mem_of_getElem? (i := 213) rfl) rfl
theorem gw_2854 : Cond.arrayClass Jvm.ClassFile.FieldType.long ∈ ce_GW := gT_12 _ (List.mem_of_getElem? (i := 214) rfl) rfl
theorem gw_2855 : Cond.arrayClass Jvm.ClassFile.FieldType.double ∈ ce_GW := gT_12 _ (List.mem_of_getElem? (i := 215) rfl) rfl
theorem gw_2857 : Cond.sameMethod "java/lang/AbstractStringBuilder" "java/lang/AbstractStringBuilder" "append" "(Ljava/lang/String;)Ljava/lang/AbstractStringBuilder;" ∈ ce_GW := gT_12 _ (List.mem_of_getElem? (i := 217) rfl) rfl
theorem gw_2859 : Cond.sameMethod "java/lang/AbstractStringBuilder" "java/lang/AbstractStringBuilder" "ensureCapacityInternal" "(I)V" ∈ ce_GW := gT_12 _ (List.mem_of_getElem? (i := 219) rfl) rfl
theorem gw_2861 : Cond.sameMethod "java/lang/AbstractStringBuilder" "java/lang/AbstractStringBuilder" "putStringAt" "(ILjava/lang/String;)V" ∈ ce_GW := gT_12 _ (List.mem_of_getElem? (i := 221) rfl) rfl
theorem gw_2862 : Cond.sameMethod "java/lang/AbstractStringBuilder" "java/lang/AbstractStringBuilder" "inflateIfNeededFor" "(Ljava/lang/String;)V" ∈ ce_GW := gT_12 _ (List.mem_of_getElem? (i := 222) rfl) rfl
theorem gw_2863 : Cond.sameMethod "java/lang/AbstractStringBuilder" "java/lang/AbstractStringBuilder" "inflate" "()V" ∈ ce_GW := gT_12 _ (List.mem_of_getElem? (i := 223) rfl) rfl
theorem gw_2864 : Cond.sameMethod "java/lang/AbstractStringBuilder" "java/lang/AbstractStringBuilder" "append" "(C)Ljava/lang/AbstractStringBuilder;" ∈ ce_GW := gT_12 _ (List.mem_of_getElem? (i := 224) rfl) rfl
theorem gw_2900 : Cond.selects "[Ljava/lang/Object;" ⟨"java/lang/Object", "getClass", "()Ljava/lang/Class;"⟩ ⟨"java/lang/Object", "getClass", "()Ljava/lang/Class;"⟩ ∈ ce_GW := gT_13 _ (List.mem_of_getElem? (i := 20) rfl) rfl
theorem gx_0 : ce_XS[0] ∈ ce_GW := List.mem_append_left _ (List.mem_of_getElem? (i := 0) rfl)
theorem gx_1 : ce_XS[1] ∈ ce_GW := List.mem_append_left _ (List.mem_of_getElem? (i := 1) rfl)
theorem gx_2 : ce_XS[2] ∈ ce_GW := List.mem_append_left _ (List.mem_of_getElem? (i := 2) rfl)
theorem gx_3 : ce_XS[3] ∈ ce_GW := List.mem_append_left _ (List.mem_of_getElem? (i := 3) rfl)
theorem gx_4 : ce_XS[4] ∈ ce_GW := List.mem_append_left _ (List.mem_of_getElem? (i := 4) rfl)
theorem gx_5 : ce_XS[5] ∈ ce_GW := List.mem_append_left _ (List.mem_of_getElem? (i := 5) rfl)
theorem gn_0 : Cond.castable "java/lang/IllegalArgumentException" "java/lang/IllegalArgumentException" ∈ ce_NG := List.mem_of_getElem? (i := 0) rfl
theorem gn_1 : Cond.castable "java/lang/IndexOutOfBoundsException" "java/lang/IndexOutOfBoundsException" ∈ ce_NG := List.mem_of_getElem? (i := 1) rfl
theorem gn_2 : Cond.castable "java/util/NoSuchElementException" "java/util/NoSuchElementException" ∈ ce_NG := List.mem_of_getElem? (i := 2) rfl
theorem gn_3 : Cond.castable "java/lang/UnsupportedOperationException" "java/lang/UnsupportedOperationException" ∈ ce_NG := List.mem_of_getElem? (i := 3) rfl
theorem gn_6 : Cond.castable "CarcasswrightModel$Board" "java/lang/Object" ∈ ce_NG := List.mem_of_getElem? (i := 6) rfl
theorem gn_7 : Cond.castable "[I" "java/lang/Cloneable" ∈ ce_NG := List.mem_of_getElem? (i := 7) rfl
theorem gn_8 : Cond.methodLinkNest "Carcasswright$Types" 19 ⟨"Carcasswright$ModuleType", "<init>", "()V"⟩ "Carcasswright" ∈ ce_NG := List.mem_of_getElem? (i := 8) rfl
theorem gn_9 : Cond.methodLinkNest "Carcasswright$Room" 35 ⟨"Carcasswright$Wall", "<init>", "()V"⟩ "Carcasswright" ∈ ce_NG := List.mem_of_getElem? (i := 9) rfl
theorem gn_10 : Cond.methodLinkNest "Carcasswright$Room" 36 ⟨"Carcasswright$Obstacle", "<init>", "()V"⟩ "Carcasswright" ∈ ce_NG := List.mem_of_getElem? (i := 10) rfl
theorem gn_11 : Cond.methodLinkNest "Carcasswright$Stock" 15 ⟨"Carcasswright$Board", "<init>", "()V"⟩ "Carcasswright" ∈ ce_NG := List.mem_of_getElem? (i := 11) rfl
theorem gn_12 : Cond.methodLinkNest "Carcasswright$Saw" 40 ⟨"Carcasswright$Board", "<init>", "()V"⟩ "Carcasswright" ∈ ce_NG := List.mem_of_getElem? (i := 12) rfl
theorem gn_13 : Cond.methodLinkNest "Carcasswright" 47 ⟨"Carcasswright$Packer", "<init>", "()V"⟩ "Carcasswright" ∈ ce_NG := List.mem_of_getElem? (i := 13) rfl
theorem gn_14 : Cond.methodLinkNest "Carcasswright" 54 ⟨"Carcasswright$Jobs", "<init>", "()V"⟩ "Carcasswright" ∈ ce_NG := List.mem_of_getElem? (i := 14) rfl
theorem gn_21 : Cond.fieldLinkNest "java/util/ArrayList$Itr" 28 "java/util/ArrayList" "size" "I" "java/util/ArrayList" ∈ ce_NG := List.mem_of_getElem? (i := 21) rfl
theorem gn_24 : Cond.methodLinkNest "CarcasswrightModel" 184 ⟨"CarcasswrightModel$Type", "<init>", "()V"⟩ "CarcasswrightModel" ∈ ce_NG := List.mem_of_getElem? (i := 24) rfl
end
