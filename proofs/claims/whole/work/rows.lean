section
-- ===== PART A: goes FIRST, ahead of the names: the tables' words, and 'selects' of the private methods out of them =====
/-- a private method of a class that the tables say can be made, by its rows of tables_1 -/
def lw_okq (q : MethodName × Nat) : Prop := (q.1.cls ≠ "java/lang/invoke/MethodHandle" ∧ q.1.cls ≠ "java/lang/invoke/VarHandle") ∧ Cond.instantiable q.1.cls q.2 ∈ tables_1 ∧ Cond.privateMethod q.1 ∈ tables_1 ∧ Cond.instanceMethod q.1 ∈ tables_1
theorem lw_p0 : lw_okq (⟨"java/lang/Throwable", "fillInStackTrace", "(I)Ljava/lang/Throwable;"⟩, 6) := ⟨⟨by decide +kernel, by decide +kernel⟩, List.mem_of_getElem? (i := 529) (by decide +kernel), List.mem_of_getElem? (i := 527) (by decide +kernel), List.mem_of_getElem? (i := 528) (by decide +kernel)⟩
theorem lw_p1 : lw_okq (⟨"Carcasswright", "moduleWithPart", "(II)LCarcasswright$PlacedModule;"⟩, 7) := ⟨⟨by decide +kernel, by decide +kernel⟩, List.mem_of_getElem? (i := 52) (by decide +kernel), List.mem_of_getElem? (i := 1083) (by decide +kernel), List.mem_of_getElem? (i := 1084) (by decide +kernel)⟩
theorem lw_p2 : lw_okq (⟨"Carcasswright", "rateOf", "(I)I"⟩, 7) := ⟨⟨by decide +kernel, by decide +kernel⟩, List.mem_of_getElem? (i := 52) (by decide +kernel), List.mem_of_getElem? (i := 1391) (by decide +kernel), List.mem_of_getElem? (i := 1392) (by decide +kernel)⟩
theorem lw_p3 : lw_okq (⟨"Carcasswright", "packAll", "(LCarcasswright$PlacedModule;I)V"⟩, 7) := ⟨⟨by decide +kernel, by decide +kernel⟩, List.mem_of_getElem? (i := 52) (by decide +kernel), List.mem_of_getElem? (i := 1402) (by decide +kernel), List.mem_of_getElem? (i := 1403) (by decide +kernel)⟩
theorem lw_p4 : lw_okq (⟨"java/util/ArrayList", "add", "(Ljava/lang/Object;[Ljava/lang/Object;I)V"⟩, 3) := ⟨⟨by decide +kernel, by decide +kernel⟩, List.mem_of_getElem? (i := 1492) (by decide +kernel), List.mem_of_getElem? (i := 1715) (by decide +kernel), List.mem_of_getElem? (i := 1716) (by decide +kernel)⟩
theorem lw_p5 : lw_okq (⟨"java/util/ArrayList", "grow", "()[Ljava/lang/Object;"⟩, 3) := ⟨⟨by decide +kernel, by decide +kernel⟩, List.mem_of_getElem? (i := 1492) (by decide +kernel), List.mem_of_getElem? (i := 1719) (by decide +kernel), List.mem_of_getElem? (i := 1720) (by decide +kernel)⟩
theorem lw_p6 : lw_okq (⟨"java/util/ArrayList", "grow", "(I)[Ljava/lang/Object;"⟩, 3) := ⟨⟨by decide +kernel, by decide +kernel⟩, List.mem_of_getElem? (i := 1492) (by decide +kernel), List.mem_of_getElem? (i := 1723) (by decide +kernel), List.mem_of_getElem? (i := 1724) (by decide +kernel)⟩
theorem lw_p7 : lw_okq (⟨"CarcasswrightModel", "has", "(C)Z"⟩, 20) := ⟨⟨by decide +kernel, by decide +kernel⟩, List.mem_of_getElem? (i := 1486) (by decide +kernel), List.mem_of_getElem? (i := 1790) (by decide +kernel), List.mem_of_getElem? (i := 1791) (by decide +kernel)⟩
theorem lw_p8 : lw_okq (⟨"CarcasswrightModel", "measured", "(C)I"⟩, 20) := ⟨⟨by decide +kernel, by decide +kernel⟩, List.mem_of_getElem? (i := 1486) (by decide +kernel), List.mem_of_getElem? (i := 1794) (by decide +kernel), List.mem_of_getElem? (i := 1795) (by decide +kernel)⟩
theorem lw_p9 : lw_okq (⟨"CarcasswrightModel", "raises", "(I)I"⟩, 20) := ⟨⟨by decide +kernel, by decide +kernel⟩, List.mem_of_getElem? (i := 1486) (by decide +kernel), List.mem_of_getElem? (i := 1846) (by decide +kernel), List.mem_of_getElem? (i := 1847) (by decide +kernel)⟩
theorem lw_p10 : lw_okq (⟨"CarcasswrightModel", "shares", "(CC)[I"⟩, 20) := ⟨⟨by decide +kernel, by decide +kernel⟩, List.mem_of_getElem? (i := 1486) (by decide +kernel), List.mem_of_getElem? (i := 1850) (by decide +kernel), List.mem_of_getElem? (i := 1851) (by decide +kernel)⟩
theorem lw_p11 : lw_okq (⟨"CarcasswrightModel", "noWall", "(I)Z"⟩, 20) := ⟨⟨by decide +kernel, by decide +kernel⟩, List.mem_of_getElem? (i := 1486) (by decide +kernel), List.mem_of_getElem? (i := 1874) (by decide +kernel), List.mem_of_getElem? (i := 1875) (by decide +kernel)⟩
theorem lw_p12 : lw_okq (⟨"CarcasswrightModel", "sum", "(C)I"⟩, 20) := ⟨⟨by decide +kernel, by decide +kernel⟩, List.mem_of_getElem? (i := 1486) (by decide +kernel), List.mem_of_getElem? (i := 1882) (by decide +kernel), List.mem_of_getElem? (i := 1883) (by decide +kernel)⟩
theorem lw_p13 : lw_okq (⟨"CarcasswrightModel", "reads", "()V"⟩, 20) := ⟨⟨by decide +kernel, by decide +kernel⟩, List.mem_of_getElem? (i := 1486) (by decide +kernel), List.mem_of_getElem? (i := 2161) (by decide +kernel), List.mem_of_getElem? (i := 2162) (by decide +kernel)⟩
theorem lw_p14 : lw_okq (⟨"CarcasswrightModel", "digitAt", "(I)I"⟩, 20) := ⟨⟨by decide +kernel, by decide +kernel⟩, List.mem_of_getElem? (i := 1486) (by decide +kernel), List.mem_of_getElem? (i := 2212) (by decide +kernel), List.mem_of_getElem? (i := 2213) (by decide +kernel)⟩
theorem lw_p15 : lw_okq (⟨"CarcasswrightModel", "faults", "(CI)V"⟩, 20) := ⟨⟨by decide +kernel, by decide +kernel⟩, List.mem_of_getElem? (i := 1486) (by decide +kernel), List.mem_of_getElem? (i := 2217) (by decide +kernel), List.mem_of_getElem? (i := 2218) (by decide +kernel)⟩
def lw_privs_1 : List (MethodName × Nat) := [(⟨"java/lang/Throwable", "fillInStackTrace", "(I)Ljava/lang/Throwable;"⟩, 6), (⟨"Carcasswright", "moduleWithPart", "(II)LCarcasswright$PlacedModule;"⟩, 7), (⟨"Carcasswright", "rateOf", "(I)I"⟩, 7), (⟨"Carcasswright", "packAll", "(LCarcasswright$PlacedModule;I)V"⟩, 7), (⟨"java/util/ArrayList", "add", "(Ljava/lang/Object;[Ljava/lang/Object;I)V"⟩, 3), (⟨"java/util/ArrayList", "grow", "()[Ljava/lang/Object;"⟩, 3), (⟨"java/util/ArrayList", "grow", "(I)[Ljava/lang/Object;"⟩, 3), (⟨"CarcasswrightModel", "has", "(C)Z"⟩, 20), (⟨"CarcasswrightModel", "measured", "(C)I"⟩, 20), (⟨"CarcasswrightModel", "raises", "(I)I"⟩, 20), (⟨"CarcasswrightModel", "shares", "(CC)[I"⟩, 20), (⟨"CarcasswrightModel", "noWall", "(I)Z"⟩, 20), (⟨"CarcasswrightModel", "sum", "(C)I"⟩, 20), (⟨"CarcasswrightModel", "reads", "()V"⟩, 20), (⟨"CarcasswrightModel", "digitAt", "(I)I"⟩, 20), (⟨"CarcasswrightModel", "faults", "(CI)V"⟩, 20)]
theorem lw_r1 : ∀ q ∈ lw_privs_1, lw_okq q := List.forall_mem_cons.mpr ⟨lw_p0, List.forall_mem_cons.mpr ⟨lw_p1, List.forall_mem_cons.mpr ⟨lw_p2, List.forall_mem_cons.mpr ⟨lw_p3, List.forall_mem_cons.mpr ⟨lw_p4, List.forall_mem_cons.mpr ⟨lw_p5, List.forall_mem_cons.mpr ⟨lw_p6, List.forall_mem_cons.mpr ⟨lw_p7, List.forall_mem_cons.mpr ⟨lw_p8, List.forall_mem_cons.mpr ⟨lw_p9, List.forall_mem_cons.mpr ⟨lw_p10, List.forall_mem_cons.mpr ⟨lw_p11, List.forall_mem_cons.mpr ⟨lw_p12, List.forall_mem_cons.mpr ⟨lw_p13, List.forall_mem_cons.mpr ⟨lw_p14, List.forall_mem_cons.mpr ⟨lw_p15, fun _ h => absurd h List.not_mem_nil⟩⟩⟩⟩⟩⟩⟩⟩⟩⟩⟩⟩⟩⟩⟩⟩
theorem lw_p16 : lw_okq (⟨"CarcasswrightModel", "item", "(I)I"⟩, 20) := ⟨⟨by decide +kernel, by decide +kernel⟩, List.mem_of_getElem? (i := 1486) (by decide +kernel), List.mem_of_getElem? (i := 2227) (by decide +kernel), List.mem_of_getElem? (i := 2228) (by decide +kernel)⟩
theorem lw_p17 : lw_okq (⟨"CarcasswrightModel", "isType", "(I)Z"⟩, 20) := ⟨⟨by decide +kernel, by decide +kernel⟩, List.mem_of_getElem? (i := 1486) (by decide +kernel), List.mem_of_getElem? (i := 2257) (by decide +kernel), List.mem_of_getElem? (i := 2258) (by decide +kernel)⟩
theorem lw_p18 : lw_okq (⟨"CarcasswrightModel", "isRefused", "(LCarcasswrightModel$Module;LCarcasswrightModel$Module;)Z"⟩, 20) := ⟨⟨by decide +kernel, by decide +kernel⟩, List.mem_of_getElem? (i := 1486) (by decide +kernel), List.mem_of_getElem? (i := 2296) (by decide +kernel), List.mem_of_getElem? (i := 2297) (by decide +kernel)⟩
theorem lw_p19 : lw_okq (⟨"CarcasswrightModel", "refuses", "(Ljava/lang/String;II)Z"⟩, 20) := ⟨⟨by decide +kernel, by decide +kernel⟩, List.mem_of_getElem? (i := 1486) (by decide +kernel), List.mem_of_getElem? (i := 2301) (by decide +kernel), List.mem_of_getElem? (i := 2302) (by decide +kernel)⟩
theorem lw_p20 : lw_okq (⟨"CarcasswrightModel", "areCornered", "(LCarcasswrightModel$Module;LCarcasswrightModel$Module;)Z"⟩, 20) := ⟨⟨by decide +kernel, by decide +kernel⟩, List.mem_of_getElem? (i := 1486) (by decide +kernel), List.mem_of_getElem? (i := 2318) (by decide +kernel), List.mem_of_getElem? (i := 2319) (by decide +kernel)⟩
theorem lw_p21 : lw_okq (⟨"CarcasswrightModel", "noModule", "(I)Z"⟩, 20) := ⟨⟨by decide +kernel, by decide +kernel⟩, List.mem_of_getElem? (i := 1486) (by decide +kernel), List.mem_of_getElem? (i := 2335) (by decide +kernel), List.mem_of_getElem? (i := 2336) (by decide +kernel)⟩
theorem lw_p22 : lw_okq (⟨"java/util/ArrayList", "fastRemove", "([Ljava/lang/Object;I)V"⟩, 3) := ⟨⟨by decide +kernel, by decide +kernel⟩, List.mem_of_getElem? (i := 1492) (by decide +kernel), List.mem_of_getElem? (i := 2426) (by decide +kernel), List.mem_of_getElem? (i := 2427) (by decide +kernel)⟩
theorem lw_p23 : lw_okq (⟨"CarcasswrightModel", "free", "(IZZ)I"⟩, 20) := ⟨⟨by decide +kernel, by decide +kernel⟩, List.mem_of_getElem? (i := 1486) (by decide +kernel), List.mem_of_getElem? (i := 2451) (by decide +kernel), List.mem_of_getElem? (i := 2452) (by decide +kernel)⟩
theorem lw_p24 : lw_okq (⟨"CarcasswrightModel", "part", "(II)LCarcasswrightModel$Part;"⟩, 20) := ⟨⟨by decide +kernel, by decide +kernel⟩, List.mem_of_getElem? (i := 1486) (by decide +kernel), List.mem_of_getElem? (i := 2467) (by decide +kernel), List.mem_of_getElem? (i := 2468) (by decide +kernel)⟩
theorem lw_p25 : lw_okq (⟨"java/util/ArrayList", "rangeCheckForAdd", "(I)V"⟩, 3) := ⟨⟨by decide +kernel, by decide +kernel⟩, List.mem_of_getElem? (i := 1492) (by decide +kernel), List.mem_of_getElem? (i := 2659) (by decide +kernel), List.mem_of_getElem? (i := 2660) (by decide +kernel)⟩
theorem lw_p26 : lw_okq (⟨"java/util/ArrayList", "outOfBoundsMsg", "(I)Ljava/lang/String;"⟩, 3) := ⟨⟨by decide +kernel, by decide +kernel⟩, List.mem_of_getElem? (i := 1492) (by decide +kernel), List.mem_of_getElem? (i := 2664) (by decide +kernel), List.mem_of_getElem? (i := 2665) (by decide +kernel)⟩
theorem lw_p27 : lw_okq (⟨"CarcasswrightModel$Board", "down", "()I"⟩, 7) := ⟨⟨by decide +kernel, by decide +kernel⟩, List.mem_of_getElem? (i := 2554) (by decide +kernel), List.mem_of_getElem? (i := 2717) (by decide +kernel), List.mem_of_getElem? (i := 2718) (by decide +kernel)⟩
theorem lw_p28 : lw_okq (⟨"CarcasswrightModel$Board", "adds", "(Ljava/util/ArrayList;II)V"⟩, 7) := ⟨⟨by decide +kernel, by decide +kernel⟩, List.mem_of_getElem? (i := 2554) (by decide +kernel), List.mem_of_getElem? (i := 2734) (by decide +kernel), List.mem_of_getElem? (i := 2735) (by decide +kernel)⟩
theorem lw_p29 : lw_okq (⟨"CarcasswrightModel", "orders", "()V"⟩, 20) := ⟨⟨by decide +kernel, by decide +kernel⟩, List.mem_of_getElem? (i := 1486) (by decide +kernel), List.mem_of_getElem? (i := 2809) (by decide +kernel), List.mem_of_getElem? (i := 2810) (by decide +kernel)⟩
theorem lw_p30 : lw_okq (⟨"CarcasswrightModel", "tries", "([IIIII)V"⟩, 20) := ⟨⟨by decide +kernel, by decide +kernel⟩, List.mem_of_getElem? (i := 1486) (by decide +kernel), List.mem_of_getElem? (i := 2814) (by decide +kernel), List.mem_of_getElem? (i := 2815) (by decide +kernel)⟩
theorem lw_p31 : lw_okq (⟨"CarcasswrightModel", "stocked", "()J"⟩, 20) := ⟨⟨by decide +kernel, by decide +kernel⟩, List.mem_of_getElem? (i := 1486) (by decide +kernel), List.mem_of_getElem? (i := 2835) (by decide +kernel), List.mem_of_getElem? (i := 2836) (by decide +kernel)⟩
def lw_privs_2 : List (MethodName × Nat) := [(⟨"CarcasswrightModel", "item", "(I)I"⟩, 20), (⟨"CarcasswrightModel", "isType", "(I)Z"⟩, 20), (⟨"CarcasswrightModel", "isRefused", "(LCarcasswrightModel$Module;LCarcasswrightModel$Module;)Z"⟩, 20), (⟨"CarcasswrightModel", "refuses", "(Ljava/lang/String;II)Z"⟩, 20), (⟨"CarcasswrightModel", "areCornered", "(LCarcasswrightModel$Module;LCarcasswrightModel$Module;)Z"⟩, 20), (⟨"CarcasswrightModel", "noModule", "(I)Z"⟩, 20), (⟨"java/util/ArrayList", "fastRemove", "([Ljava/lang/Object;I)V"⟩, 3), (⟨"CarcasswrightModel", "free", "(IZZ)I"⟩, 20), (⟨"CarcasswrightModel", "part", "(II)LCarcasswrightModel$Part;"⟩, 20), (⟨"java/util/ArrayList", "rangeCheckForAdd", "(I)V"⟩, 3), (⟨"java/util/ArrayList", "outOfBoundsMsg", "(I)Ljava/lang/String;"⟩, 3), (⟨"CarcasswrightModel$Board", "down", "()I"⟩, 7), (⟨"CarcasswrightModel$Board", "adds", "(Ljava/util/ArrayList;II)V"⟩, 7), (⟨"CarcasswrightModel", "orders", "()V"⟩, 20), (⟨"CarcasswrightModel", "tries", "([IIIII)V"⟩, 20), (⟨"CarcasswrightModel", "stocked", "()J"⟩, 20)]
theorem lw_r2 : ∀ q ∈ lw_privs_2, lw_okq q := List.forall_mem_cons.mpr ⟨lw_p16, List.forall_mem_cons.mpr ⟨lw_p17, List.forall_mem_cons.mpr ⟨lw_p18, List.forall_mem_cons.mpr ⟨lw_p19, List.forall_mem_cons.mpr ⟨lw_p20, List.forall_mem_cons.mpr ⟨lw_p21, List.forall_mem_cons.mpr ⟨lw_p22, List.forall_mem_cons.mpr ⟨lw_p23, List.forall_mem_cons.mpr ⟨lw_p24, List.forall_mem_cons.mpr ⟨lw_p25, List.forall_mem_cons.mpr ⟨lw_p26, List.forall_mem_cons.mpr ⟨lw_p27, List.forall_mem_cons.mpr ⟨lw_p28, List.forall_mem_cons.mpr ⟨lw_p29, List.forall_mem_cons.mpr ⟨lw_p30, List.forall_mem_cons.mpr ⟨lw_p31, fun _ h => absurd h List.not_mem_nil⟩⟩⟩⟩⟩⟩⟩⟩⟩⟩⟩⟩⟩⟩⟩⟩
theorem lw_p32 : lw_okq (⟨"CarcasswrightModel", "cutArea", "()J"⟩, 20) := ⟨⟨by decide +kernel, by decide +kernel⟩, List.mem_of_getElem? (i := 1486) (by decide +kernel), List.mem_of_getElem? (i := 2839) (by decide +kernel), List.mem_of_getElem? (i := 2840) (by decide +kernel)⟩
def lw_privs_3 : List (MethodName × Nat) := [(⟨"CarcasswrightModel", "cutArea", "()J"⟩, 20)]
theorem lw_r3 : ∀ q ∈ lw_privs_3, lw_okq q := List.forall_mem_cons.mpr ⟨lw_p32, fun _ h => absurd h List.not_mem_nil⟩
def lw_privs : List (MethodName × Nat) := lw_privs_1 ++ (lw_privs_2 ++ (lw_privs_3))
def lw_tbl : List Cond := k2_sels lw_privs ++ tables_1
theorem lw_privs_ok : ∀ q ∈ lw_privs, lw_okq q := by
  show ∀ q ∈ lw_privs_1 ++ (lw_privs_2 ++ (lw_privs_3)), lw_okq q
  exact List.forall_mem_append.mpr ⟨lw_r1, List.forall_mem_append.mpr ⟨lw_r2, lw_r3⟩⟩
/-- the streams that the claim lets the run draw from -/
abbrev lw_cs : List Choice := [Jvm.Choice.named "NaN.bits"]
theorem lw_bits : nanBits ∈ lw_cs := by first | decide | exact List.mem_cons_self | simp [lw_cs, nanBits]

/-! ===== BEGIN words of one list among another's, by their places ===== -/
theorem goodIn_r {big : List Cond} (ws : List Cond) (ps : List Nat) (hp : ws = ps.filterMap (fun i => big[i]?)) (h : ws.all goodWord = true) : GoodIn big ws := by
  intro w hw
  have h1 := List.all_eq_true.mp h w hw
  rw [hp] at hw
  obtain ⟨i, -, hi⟩ := List.mem_filterMap.mp hw
  have hm : w ∈ big := by first | exact List.mem_of_getElem? hi | exact List.getElem?_mem hi
  exact ⟨hm, good_of_word h1⟩
theorem goodIn_app {big a b : List Cond} (ha : GoodIn big a) (hb : GoodIn big b) : GoodIn big (a ++ b) := fun w h => (List.mem_append.mp h).elim (ha w) (hb w)
theorem goodIn_ca {big a b : List Cond} {c : Cond} (ha : GoodIn big (c :: a)) (hb : GoodIn big b) : GoodIn big (c :: (a ++ b)) := fun w h => (List.mem_cons.mp h).elim (fun e => ha w (List.mem_cons.mpr (Or.inl e))) (fun h => (List.mem_append.mp h).elim (fun h => ha w (List.mem_cons.mpr (Or.inr h))) (hb w))
theorem goodIn_sub {big ws : List Cond} (hm : ∀ w ∈ ws, w ∈ big) (h : ws.all goodWord = true) : GoodIn big ws := fun w hw => ⟨hm w hw, good_of_word (List.all_eq_true.mp h w hw)⟩
/-! ===== END ===== -/
/-! ===== BEGIN exceptions that leave a method, and their catching by the caller (launches without stack traces) ===== -/
section VXA
/-! The laws vx_back, vx_callV, vx_callS, vx_callSW, vx_throw0, vx_throwS follow proofs of the library, with one case more: JvmDerived/Free/Laws.lean (Back.of_free), Shelf42/LK1.lean (callV, callS), Shelf/KitTraced.lean (throwNew0V, throwNewS). -/
/-- where a method has thrown q: the class by its name, the cell, what was written, the world -/
def vx_T (XC : String → State → State → Prop) (st : State) (q : Addr) (t : State) (mc ms : Nat) (free : Addr → Prop) : Prop :=
  ∃ (E : String) (ce : Cell) (L : List Loc), XC E st t ∧ t.heap[q]? = some ce ∧ ce.vm = .none ∧ st.vm.findClass E = some ce.cls ∧ st.WarmedH t.vm ∧ st.sameButNew ({ t with vm := st.vm } : State) L mc ms ∧ ∀ z ∈ L, free z.base
def vx_Q (Qc : Array Value → State → Outcome → State → Prop) (XC : String → State → State → Prop) (mc ms : Nat) (free : Addr → Prop) : Array Value → State → Outcome → State → Prop := fun a st o t =>
  (Qc a st o t ∧ ∃ L, FrameEnd st o t L mc ms ∧ ∀ q ∈ L, free q.base) ∨ ∃ q, o = .threw q ∧ vx_T XC st q t mc ms free
/-- a callee that returns or throws -/
def vx_Met (l : Launch) (y : MethodName) (ws : List Cond) (rm : Room) (Pc : Array Value → State → Prop) (Qc : Array Value → State → Outcome → State → Prop) (XC : String → State → State → Prop) (mc ms : Nat) (free : Addr → Prop) : Prop :=
  MetFree l y (headSpec ws rm) Pc (fun _ _ _ _ _ => True) (vx_Q Qc XC mc ms free)
def vx_Post (XC : String → State → State → Prop) (mc ms : Nat) (free : Addr → Prop) : Pt → Array Value → Addr → Pt → Prop := fun A a q B =>
  ∃ (g : JFrame) (mk : MethodId) (t : State) (L : List Loc) (E : String) (ce : Cell), B.U.heap = t.heap ∧ B.U.vm = t.vm ∧ XC E (A.U.calling g mk a) t ∧ t.heap[q]? = some ce ∧ ce.vm = .none ∧ A.U.vm.findClass E = some ce.cls ∧ B.locs = A.locs ++ L ∧ (∀ z ∈ L, free z.base) ∧ B.cells = A.cells + mc ∧ B.slots = A.slots + ms
def vx_Back (l : Launch) (R : Room) (p : Program) (e : Env) (below : List Frame) (s : State) (sargs : Array Value) (y : MethodName) (len W9 : Nat)
    (Pre : Pt → Array Value → Prop) (Post : Pt → Array Value → Option Value → Pt → Prop) (PostX : Pt → Array Value → Addr → Pt → Prop) : Prop :=
  ∀ (m : MethodId) (meth : Method) (c : Code) (A : Pt) (g : JFrame) (ig : Instr) (mk : MethodId) (a : Array Value),
    Stand p l e R s m sargs below meth c A.U A.locs A.cells A.slots → g.method = m → g.locals.size = c.maxLocals → decode c.code g.pc = .ok (ig, len) →
    2 * g.monitorRoom + (g.stack.map fun v => v.category).sum ≤ W9 → A.U.methodNamed? y = some mk → Pre A a →
    (∃ (v : Option Value) (B : Pt), Stand p l e R s m sargs below meth c B.U B.locs B.cells B.slots ∧ Post A a v B ∧
      Steps p.tables e below (doInvoke e (A.U.setTop g) [] mk a).1 (B.U.setTop { g with pc := g.pc + len, stack := v.toList ++ g.stack })) ∨
    (∃ (q : Addr) (B : Pt), Stand p l e R s m sargs below meth c B.U B.locs B.cells B.slots ∧ PostX A a q B ∧
      Steps p.tables e below (doInvoke e (A.U.setTop g) [] mk a).1 ((B.U.setTop g).pushFrame (.throwing q)))
section Payer
variable {l : Launch} {R : Room} {p : Program} {e : Env} {below : List Frame} {s : State} {sargs : Array Value} {y : MethodName} {len W9 : Nat}
theorem vx_back {ws : List Cond} {rm : Room} {Pc : Array Value → State → Prop} {Qc : Array Value → State → Outcome → State → Prop} {XC : String → State → State → Prop} {mc ms : Nat} {free : Addr → Prop} {bytes : ByteArray} {maxL : Nat} {ret : Option FieldType}
    (hM : vx_Met l y ws rm Pc Qc XC mc ms free) (hblind : FrameBlind Pc) (hrc : rm.cells = mc) (hrs : rm.slots = ms)
    (hframes : rm.frames + 1 ≤ R.frames) (hlocals : W9 + (maxL + 11) + rm.locals ≤ R.locals)
    (hws : ∀ w ∈ ws, ∀ a' U, s.WarmedH U.vm → w.before a' U = true) (hcode : Cond.code y bytes maxL ret ∈ ws) (hinit : ∀ a' U, s.WarmedH U.vm → (Cond.initialized y.cls).before a' U = true) :
    vx_Back l R p e below s sargs y len W9 (PreOf R mc ms Pc) (PostOf Qc mc ms free) (vx_Post XC mc ms free) := by
  intro m meth c A g ig mk a X hg hsize hdg hW hn hp
  have h1 : (headSpec ws rm).pre.before a A.U = true := atoms_intro fun w hw => hws w hw _ _ X.warmed
  have h2 : (Cond.code y bytes maxL ret).before a A.U = true := hws _ hcode _ _ X.warmed
  have h3 : (Cond.initialized y.cls).before a A.U = true := hinit _ _ X.warmed
  have h4 : A.cells + (headSpec ws rm).room.cells ≤ R.cells := by rw [show (headSpec ws rm).room.cells = mc from hrc]; exact hp.1
  have h5 : A.slots + (headSpec ws rm).room.slots ≤ R.slots := by rw [show (headSpec ws rm).room.slots = ms from hrs]; exact hp.2.1
  have hPc : Pc a (A.U.calling g mk a) := hblind _ _ _ _ hp.2.2
  obtain ⟨U, Ls, c0, s0⟩ := A
  dsimp only [Pt.U, Pt.locs, Pt.cells, Pt.slots] at h1 h2 h3 h4 h5 X hn hPc ⊢
  obtain ⟨methY, cY, hmY, hcY, -, hlY, -, -, -, -⟩ := Cond.code_spec hn h2
  obtain ⟨kY, hkY, -⟩ := className_of_methodNamed hn
  have hinitY : kY.init = .initialized := Cond.initialized_spec (findClass_of_methodNamed hn) hkY h3
  have h : At U g.method c below := by rw [hg]; exact X.here
  have hlocals9 : W9 + (maxL + 11) + (headSpec ws rm).room.locals ≤ R.locals := hlocals
  have happ : (headSpec ws rm).appliesLoose y e.platform (U.calling g mk a) = true :=
    Spec.appliesLoose_calling (g := g) h hdg hn hkY hinitY
      (X.room_calling (g := g) (R' := (headSpec ws rm).room) hsize hmY hcY hframes (by rw [hlY]; omega) h4 h5) h1
  obtain ⟨mid, hmid⟩ := h.above
  have hfr : (U.setTop g).frames = (.java g :: mid) ++ below := by rw [State.frames_setTop' g h.top, hmid]; rfl
  obtain ⟨o, s₂, hsteps, -, hend, hq⟩ := Steps.callFree hM p X.admits X.cas X.clock (acts := []) hfr happ hPc trivial
  have hq' : vx_Q Qc XC mc ms free a (U.calling g mk a) o s₂ := hq
  rw [State.frames_setTop' g h.top] at hend
  obtain ⟨g₀, hg0⟩ := Option.isSome_iff_exists.mp h.top
  obtain ⟨r, hr⟩ := State.topJava?_eq_some.mp hg0
  have hr' : (({ U with heap := s₂.heap, slotsUsed := s₂.slotsUsed } : State).setVm s₂.vm).frames = .java g₀ :: r := hr
  rcases hq' with ⟨hqc, L, hfe, hL⟩ | ⟨q, rfl, E, ce, L, hx, hce, hcv, hcl, hW₂, hsm, hL⟩
  · obtain ⟨⟨v, rfl⟩, hW₂, e2, q2, q3, q4, q5, q6⟩ := id hfe
    have e3 : s₂ = ({ (U.calling g mk a).setFrames s₂.frames with heap := s₂.heap, slotsUsed := s₂.slotsUsed } : State).setVm s₂.vm := by
      have : s₂ = ({ s₂ with vm := (U.calling g mk a).vm } : State).setVm s₂.vm := rfl
      rw [e2] at this
      exact this
    obtain ⟨c₂, i₂, len₂, hc₂, hd₂, hf₂⟩ := hend
    have hW' : U.WarmedH s₂.vm := hW₂
    have hcc : c₂ = c := by
      have h1 : s₂.code? g.method = U.code? g.method := by
        rw [State.code?_eq, State.code?_eq, hW'.alike.method?]
      exact Option.some.inj (hc₂.symm.trans (h1.trans h.code))
    subst hcc
    have hlen : len₂ = len := by rw [hdg] at hd₂; cases hd₂; rfl
    subst hlen
    have hs₂ : s₂ = (({ U with heap := s₂.heap, slotsUsed := s₂.slotsUsed } : State).setVm s₂.vm).setTop { g with pc := g.pc + len₂, stack := v.toList ++ g.stack } := by
      refine e3.trans ?_
      rw [hf₂, State.calling_eq h.top, State.setFrames_setFrames, State.setTop_of_frames _ hr', hr]
      rfl
    have hsame : U.sameButNew ({ U with heap := s₂.heap, slotsUsed := s₂.slotsUsed } : State) L mc ms := by
      refine ⟨?_, q2, q3, q4, q5, q6⟩
      obtain ⟨t, ht, -⟩ := State.frames_cons hr
      show ({ U with heap := s₂.heap, slotsUsed := s₂.slotsUsed } : State) = { U.setFrames U.frames with heap := s₂.heap, slotsUsed := s₂.slotsUsed }
      rw [State.setFrames_self ht]
    subst hg
    refine Or.inl ⟨v, ⟨(({ U with heap := s₂.heap, slotsUsed := s₂.slotsUsed } : State).setVm s₂.vm), Ls ++ L, c0 + mc, s0 + ms⟩,
      ⟨X.admits, X.cas, X.clock, X.frames, X.room, X.hears, X.method, X.code, (X.here.setHeapUsed s₂.heap s₂.slotsUsed).setVm hW'.alike, X.tail, State.WarmedH.trans X.warmed hW', X.limits, X.bytes, X.same.trans (hsame.setVm s.vm)⟩,
      ⟨g, mk, s₂, L, rfl, rfl, hqc, rfl, hL, rfl, rfl⟩, ?_⟩
    show Steps p.tables e below _ ((({ U with heap := s₂.heap, slotsUsed := s₂.slotsUsed } : State).setVm s₂.vm).setTop { g with pc := g.pc + len₂, stack := v.toList ++ g.stack })
    rw [← hs₂]
    exact hsteps
  · obtain ⟨e2, q2, q3, q4, q5, q6⟩ := id hsm
    have e3 : s₂ = ({ (U.calling g mk a).setFrames s₂.frames with heap := s₂.heap, slotsUsed := s₂.slotsUsed } : State).setVm s₂.vm := by
      have : s₂ = ({ s₂ with vm := (U.calling g mk a).vm } : State).setVm s₂.vm := rfl
      rw [e2] at this
      exact this
    have hf₂ : s₂.frames = .throwing q :: .java g :: U.frames.tail := hend
    have hW' : U.WarmedH s₂.vm := hW₂
    have hs₂ : s₂ = ((({ U with heap := s₂.heap, slotsUsed := s₂.slotsUsed } : State).setVm s₂.vm).setTop g).pushFrame (.throwing q) := by
      refine e3.trans ?_
      rw [hf₂, State.calling_eq h.top, State.setFrames_setFrames, State.pushFrame, State.frames_setTop _ hr', State.setTop_of_frames _ hr', State.setFrames_setFrames, hr]
      rfl
    have hsame : U.sameButNew ({ U with heap := s₂.heap, slotsUsed := s₂.slotsUsed } : State) L mc ms := by
      refine ⟨?_, q2, q3, q4, q5, q6⟩
      obtain ⟨t, ht, -⟩ := State.frames_cons hr
      show ({ U with heap := s₂.heap, slotsUsed := s₂.slotsUsed } : State) = { U.setFrames U.frames with heap := s₂.heap, slotsUsed := s₂.slotsUsed }
      rw [State.setFrames_self ht]
    subst hg
    refine Or.inr ⟨q, ⟨(({ U with heap := s₂.heap, slotsUsed := s₂.slotsUsed } : State).setVm s₂.vm), Ls ++ L, c0 + mc, s0 + ms⟩,
      ⟨X.admits, X.cas, X.clock, X.frames, X.room, X.hears, X.method, X.code, (X.here.setHeapUsed s₂.heap s₂.slotsUsed).setVm hW'.alike, X.tail, State.WarmedH.trans X.warmed hW', X.limits, X.bytes, X.same.trans (hsame.setVm s.vm)⟩,
      ⟨g, mk, s₂, L, E, ce, rfl, rfl, hx, hce, hcv, hcl, rfl, hL, rfl, rfl⟩, ?_⟩
    show Steps p.tables e below _ (((({ U with heap := s₂.heap, slotsUsed := s₂.slotsUsed } : State).setVm s₂.vm).setTop g).pushFrame (.throwing q))
    rw [← hs₂]
    exact hsteps
end Payer
section Calls
variable {p : Program} {l : Launch} {e : Env} {R : Room} {s : State} {m : MethodId} {args : Array Value} {below : List Frame} {meth : Method} {c : Code} {T : State} {locs : List Loc} {cells slots : Nat}
theorem vx_callV (X : Stand p l e R s m args below meth c T locs cells slots) (hexec : p.tables.exec = Jvm.exec) {own C : String} {index : Nat} {y : MethodName} {bytes : ByteArray} {maxL : Nat} {ret : Option FieldType}
    (hown : s.vm.findClass own = some m.cls) (hlink : (Cond.methodLink own index y).before args s = true) (hinst : (Cond.instanceMethod y).before args s = true) (hsel : (Cond.selects C y y).before args s = true)
    (hcode : (Cond.code y bytes maxL ret).before args s = true) (hy : y.cls ≠ "java/lang/invoke/MethodHandle" ∧ y.cls ≠ "java/lang/invoke/VarHandle")
    {W9 : Nat} {Pre : Pt → Array Value → Prop} {Post : Pt → Array Value → Option Value → Pt → Prop} {PostX : Pt → Array Value → Addr → Pt → Prop} (hK : vx_Back l R p e below s args y 3 W9 Pre Post PostX)
    {b : Addr} {cellB : Cell} (hcell : T.heap[b]? = some cellB) (hobj : cellB.vm.isStatics = false) (hcls : s.vm.findClass C = some cellB.cls)
    {g : JFrame} (hg : g.method = m) (hsize : g.locals.size = c.maxLocals) {argsL rest : List Value} (hlen : ∀ sig, parseMethodDescriptor y.desc = some sig → argsL.length = sig.parameters.length)
    (hstack : g.stack = argsL.reverse ++ .ref b :: rest) (hW : 2 * g.monitorRoom + (rest.map fun v => v.category).sum ≤ W9) (hdg : decode c.code g.pc = .ok (.invokevirtual index, 3))
    (hpre : ∀ vm₁, s.WarmedH vm₁ → Pre ⟨T.setVm vm₁, locs, cells, slots⟩ (Value.ref b :: argsL).toArray) :
    (∃ (v : Option Value) (vm₁ : Vm) (B : Pt), s.WarmedH vm₁ ∧ Stand p l e R s m args below meth c B.U B.locs B.cells B.slots ∧ Post ⟨T.setVm vm₁, locs, cells, slots⟩ (Value.ref b :: argsL).toArray v B ∧
      ∀ target, Steps p.tables e below (B.U.setTop { g with pc := g.pc + 3, stack := v.toList ++ rest }) target → Steps p.tables e below (T.setTop g) target) ∨
    (∃ (q : Addr) (vm₁ : Vm) (B : Pt), s.WarmedH vm₁ ∧ Stand p l e R s m args below meth c B.U B.locs B.cells B.slots ∧ PostX ⟨T.setVm vm₁, locs, cells, slots⟩ (Value.ref b :: argsL).toArray q B ∧
      Steps p.tables e below (T.setTop g) ((B.U.setTop { g with stack := rest }).pushFrame (.throwing q))) := by
  obtain ⟨mk, methM, hnamed, hmethM, hstM, habM⟩ := Cond.instanceMethod_spec hinst
  obtain ⟨methM', cM, hmethM', -, -, -, -, -, -, hsigM⟩ := Cond.code_spec hnamed hcode
  cases hmethM.symm.trans hmethM'
  obtain ⟨c2, r2, m2, q1, q2, q3, q4, kP, hkP, hkPi⟩ := Cond.selects_spec hsel
  cases hcls.symm.trans q1
  cases (State.methodFound?_of_named hnamed hy).symm.trans q2
  cases hnamed.symm.trans q3
  have hselP : selectMethod e.platform s.vm cellB.cls mk = .method mk := by rw [Launch.admits_selectMethod X.admits]; exact q4
  obtain ⟨vm₁, X₁, hstep₁⟩ := X.invokevirtual hexec hown hlink hnamed hmethM hstM hkP hkPi hy (a := b) (cell := cellB) hcell
    (fun z h => by rw [h] at hobj; cases hobj) hselP hmethM habM hkP hkPi (g := g) hg (argsL := argsL) (rest := rest) (hlen _ hsigM) hstack hdg
  rcases hK m meth c ⟨T.setVm vm₁, locs, cells, slots⟩ { g with stack := rest } (.invokevirtual index) mk (Value.ref b :: argsL).toArray X₁ hg hsize hdg hW (X₁.named hnamed) (hpre vm₁ X₁.warmed) with ⟨v, B, X', hpost, hsteps⟩ | ⟨q, B, X', hpost, hsteps⟩
  · exact Or.inl ⟨v, vm₁, B, X₁.warmed, X', hpost, fun target h => hstep₁ _ fun acts => by rw [doInvoke_state]; exact hsteps.trans h⟩
  · exact Or.inr ⟨q, vm₁, B, X₁.warmed, X', hpost, hstep₁ _ fun acts => by rw [doInvoke_state]; exact hsteps⟩
theorem vx_callS (X : Stand p l e R s m args below meth c T locs cells slots) (hexec : p.tables.exec = Jvm.exec) {own : String} {index : Nat} {y : MethodName} {bytes : ByteArray} {maxL : Nat} {ret : Option FieldType}
    (hown : s.vm.findClass own = some m.cls) (hlink : (Cond.methodLink own index y).before args s = true) (hstat : (Cond.static y).before args s = true) (hinit : (Cond.initialized y.cls).before args s = true)
    (hcode : (Cond.code y bytes maxL ret).before args s = true) (hy : y.cls ≠ "java/lang/invoke/MethodHandle" ∧ y.cls ≠ "java/lang/invoke/VarHandle")
    {W9 : Nat} {Pre : Pt → Array Value → Prop} {Post : Pt → Array Value → Option Value → Pt → Prop} {PostX : Pt → Array Value → Addr → Pt → Prop} (hK : vx_Back l R p e below s args y 3 W9 Pre Post PostX)
    {g : JFrame} (hg : g.method = m) (hsize : g.locals.size = c.maxLocals) {argsL rest : List Value} (hlen : ∀ sig, parseMethodDescriptor y.desc = some sig → argsL.length = sig.parameters.length)
    (hstack : g.stack = argsL.reverse ++ rest) (hW : 2 * g.monitorRoom + (rest.map fun v => v.category).sum ≤ W9) (hdg : decode c.code g.pc = .ok (.invokestatic index, 3))
    (hpre : ∀ vm₁, s.WarmedH vm₁ → Pre ⟨T.setVm vm₁, locs, cells, slots⟩ argsL.toArray) :
    (∃ (v : Option Value) (vm₁ : Vm) (B : Pt), s.WarmedH vm₁ ∧ Stand p l e R s m args below meth c B.U B.locs B.cells B.slots ∧ Post ⟨T.setVm vm₁, locs, cells, slots⟩ argsL.toArray v B ∧
      ∀ target, Steps p.tables e below (B.U.setTop { g with pc := g.pc + 3, stack := v.toList ++ rest }) target → Steps p.tables e below (T.setTop g) target) ∨
    (∃ (q : Addr) (vm₁ : Vm) (B : Pt), s.WarmedH vm₁ ∧ Stand p l e R s m args below meth c B.U B.locs B.cells B.slots ∧ PostX ⟨T.setVm vm₁, locs, cells, slots⟩ argsL.toArray q B ∧
      Steps p.tables e below (T.setTop g) ((B.U.setTop { g with stack := rest }).pushFrame (.throwing q))) := by
  obtain ⟨mk, hnamed⟩ := Cond.code_named hcode
  obtain ⟨methM, cM, hmethM, -, -, -, -, -, -, hsigM⟩ := Cond.code_spec hnamed hcode
  have hstatic : methM.isStatic = true := Cond.static_spec hnamed hmethM hstat
  obtain ⟨kP, hkP, -⟩ := className_of_methodNamed hnamed
  have hinitP : kP.init = .initialized := Cond.initialized_spec (findClass_of_methodNamed hnamed) hkP hinit
  obtain ⟨vm₁, X₁, hstep₁⟩ := X.invokestatic hexec hown hlink hnamed hmethM hstatic hkP hinitP hy (g := g) hg (argsL := argsL) (rest := rest) (hlen _ hsigM) hstack hdg
  rcases hK m meth c ⟨T.setVm vm₁, locs, cells, slots⟩ { g with stack := rest } (.invokestatic index) mk argsL.toArray X₁ hg hsize hdg hW (X₁.named hnamed) (hpre vm₁ X₁.warmed) with ⟨v, B, X', hpost, hsteps⟩ | ⟨q, B, X', hpost, hsteps⟩
  · exact Or.inl ⟨v, vm₁, B, X₁.warmed, X', hpost, fun target h => hstep₁ _ fun acts => by rw [doInvoke_state]; exact hsteps.trans h⟩
  · exact Or.inr ⟨q, vm₁, B, X₁.warmed, X', hpost, hstep₁ _ fun acts => by rw [doInvoke_state]; exact hsteps⟩
end Calls
theorem vx_cls {s : State} {T : State} {vm₁ : Vm} {E : String} {k : ClassId} (hW : s.WarmedH vm₁) (h : (T.setVm vm₁).vm.findClass E = some k) : s.vm.findClass E = some k := by
  have h1 : vm₁.findClass E = some k := h
  rw [hW.alike.findClass] at h1
  exact h1
/-- the method's frame g, with q thrown over it -/
def vx_W (p : Program) (l : Launch) (e : Env) (R : Room) (s : State) (m : MethodId) (args : Array Value) (below : List Frame) (meth : Method) (c : Code) (H : Heap) (locs : List Loc) (cells slots : Nat) (Q : State → Prop) (g : JFrame) (q : Addr) : Prop :=
  ∀ T : State, T.heap = H → Stand p l e R s m args below meth c T locs cells slots → ∃ t, Steps p.tables e below ((T.setTop g).pushFrame (.throwing q)) t ∧ Q t
def vx_Run (p : Program) (l : Launch) (e : Env) (R : Room) (s : State) (m : MethodId) (args : Array Value) (below : List Frame) (meth : Method) (c : Code) (H : Heap) (locs : List Loc) (cells slots mc ms : Nat) (g : JFrame) (rest : List Value) (Qa : State → Outcome → State → Prop) (XC : String → State → State → Prop) (free : Addr → Prop) : Prop :=
  ∀ T : State, T.heap = H → Stand p l e R s m args below meth c T locs cells slots →
    (∃ (v : Option Value) (st₀ t T' : State) (L : List Loc), st₀.heap = H ∧ Stand p l e R s m args below meth c T' (locs ++ L) (cells + mc) (slots + ms) ∧ (∀ q ∈ L, free q.base) ∧ T'.heap = t.heap ∧ T'.vm = t.vm ∧ Qa st₀ (.returned v) t ∧
      Goes p e below T g T' { g with pc := g.pc + 3, stack := v.toList ++ rest }) ∨
    (∃ (q : Addr) (st₀ t T' : State) (L : List Loc) (E : String) (ce : Cell), st₀.heap = H ∧ Stand p l e R s m args below meth c T' (locs ++ L) (cells + mc) (slots + ms) ∧ (∀ z ∈ L, free z.base) ∧ T'.heap = t.heap ∧ T'.vm = t.vm ∧ XC E st₀ t ∧ t.heap[q]? = some ce ∧ ce.vm = .none ∧ s.vm.findClass E = some ce.cls ∧
      Steps p.tables e below (T.setTop g) ((T'.setTop { g with stack := rest }).pushFrame (.throwing q)))
def vx_X {S : Type} (px : S → Prop) (B : String → S → State → Prop) (A : Nat → Prop) : String → State → State → Prop := fun E st t => ∃ u : S, px u ∧ B E u t ∧ va_F A st t
section Runs
variable {p : Program} {l : Launch} {e : Env} {R : Room} {s : State} {m : MethodId} {args : Array Value} {below : List Frame} {meth : Method} {c : Code} {H : Heap} {locs : List Loc} {cells slots : Nat}
variable {y : MethodName} {bytes cc : ByteArray} {maxL nL mc ms n index : Nat} {ret : Option FieldType} {ws : List Cond} {rm : Room} {Pc : Array Value → State → Prop} {Qc : Array Value → State → Outcome → State → Prop} {XC : String → State → State → Prop} {free : Addr → Prop} {Ts : List Cond} {own C : String} {b : Addr} {As rest : List Value} {g : JFrame}
theorem vx_callBack (cb : CallB R s args own index y bytes maxL ret ws rm mc ms n) (hM : vx_Met l y ws rm Pc Qc XC mc ms free) (hbl : FrameBlind Pc) : vx_Back l R p e below s args y 3 8 (PreOf R mc ms Pc) (PostOf Qc mc ms free) (vx_Post XC mc ms free) := by
  obtain ⟨hrc, hrs, hfr, hlo, hws, hcw, -, hini, -⟩ := cb
  exact vx_back (bytes := bytes) (maxL := maxL) (ret := ret) hM hbl hrc hrs hfr hlo hws hcw (fun a' U hW => word_at hW (Or.inl (by first | rfl | simp [Cond.onTables, Cond.keeps, Cond.steady])) hini)
theorem vx_runV (S : CallFix p m c cc nL s args Ts own) (hM : vx_Met l y ws rm Pc Qc XC mc ms free) (cw : CallW R s args own C index y bytes maxL ret ws rm mc ms n) (hp : PreV s H C b Pc As)
    (hg : g.method = m) (hn : As.length = n) (hsize : g.locals.size = nL) (hstack : g.stack = As.reverse ++ .ref b :: rest) (hW : 2 * g.monitorRoom + (rest.map fun v => v.category).sum ≤ 8) (hdg : decode cc g.pc = .ok (.invokevirtual index, 3)) (hf : cells + mc ≤ R.cells ∧ slots + ms ≤ R.slots) :
    vx_Run p l e R s m args below meth c H locs cells slots mc ms g rest (Qc (Value.ref b :: As).toArray) XC free := by
  have hK : vx_Back l R p e below s args y 3 8 (PreOf R mc ms Pc) (PostOf Qc mc ms free) (vx_Post XC mc ms free) := vx_callBack cw.1 hM hp.1
  obtain ⟨⟨-, -, -, -, -, -, hcode, -, hy, hlen, hl⟩, hin, hse⟩ := cw
  obtain ⟨hx, hb, hml, ho, -⟩ := S
  obtain ⟨-, ⟨cellB, hcB, hoB, hclB⟩, hPc⟩ := hp
  intro T hT X
  rcases vx_callV X hx (C := C) (bytes := bytes) (maxL := maxL) (ret := ret) ho hl hin hse hcode hy hK (by rw [hT]; exact hcB) hoB hclB hg (hsize.trans hml.symm) (argsL := As) (rest := rest) (fun sig h => hn.trans (hlen sig h)) hstack hW (by rw [hb]; exact hdg)
    (fun vm₁ hW₁ => ⟨hf.1, hf.2, hPc (T.setVm vm₁) hT hW₁⟩) with ⟨v, vm₁, ⟨U', l2, c2, s2⟩, hW₁, X', ⟨g', mk, t, L, e1, e2, hq, h1, hL, h2, h3⟩, st⟩ | ⟨q, vm₁, ⟨U', l2, c2, s2⟩, hW₁, X', ⟨g', mk, t, L, E, ce, e1, e2, hq, hce, hcv, hcl, h1, hL, h2, h3⟩, st⟩
  · dsimp only [Pt.U, Pt.locs, Pt.cells, Pt.slots] at X' e1 e2 h1 h2 h3 st
    subst h1; subst h2; subst h3
    exact Or.inl ⟨v, (T.setVm vm₁).calling g' mk (Value.ref b :: As).toArray, t, U', L, hT, X', hL, e1, e2, hq, st⟩
  · dsimp only [Pt.U, Pt.locs, Pt.cells, Pt.slots] at X' e1 e2 h1 h2 h3 st hcl
    subst h1; subst h2; subst h3
    exact Or.inr ⟨q, (T.setVm vm₁).calling g' mk (Value.ref b :: As).toArray, t, U', L, E, ce, hT, X', hL, e1, e2, hq, hce, hcv, vx_cls hW₁ hcl, st⟩
theorem vx_runS (S : CallFix p m c cc nL s args Ts own) (hM : vx_Met l y ws rm Pc Qc XC mc ms free) (cw : CallB R s args own index y bytes maxL ret ws rm mc ms n ∧ (Cond.static y).before args s = true) (hp : PreS s H Pc As)
    (hg : g.method = m) (hn : As.length = n) (hsize : g.locals.size = nL) (hstack : g.stack = As.reverse ++ rest) (hW : 2 * g.monitorRoom + (rest.map fun v => v.category).sum ≤ 8) (hdg : decode cc g.pc = .ok (.invokestatic index, 3)) (hf : cells + mc ≤ R.cells ∧ slots + ms ≤ R.slots) :
    vx_Run p l e R s m args below meth c H locs cells slots mc ms g rest (Qc As.toArray) XC free := by
  have hK : vx_Back l R p e below s args y 3 8 (PreOf R mc ms Pc) (PostOf Qc mc ms free) (vx_Post XC mc ms free) := vx_callBack cw.1 hM hp.1
  obtain ⟨⟨-, -, -, -, -, -, hcode, hini, hy, hlen, hl⟩, hstt⟩ := cw
  obtain ⟨hx, hb, hml, ho, -⟩ := S
  intro T hT X
  rcases vx_callS X hx (bytes := bytes) (maxL := maxL) (ret := ret) ho hl hstt hini hcode hy hK hg (hsize.trans hml.symm) (argsL := As) (rest := rest) (fun sig h => hn.trans (hlen sig h)) hstack hW (by rw [hb]; exact hdg)
    (fun vm₁ hW₁ => ⟨hf.1, hf.2, hp.2 (T.setVm vm₁) hT hW₁⟩) with ⟨v, vm₁, ⟨U', l2, c2, s2⟩, hW₁, X', ⟨g', mk, t, L, e1, e2, hq, h1, hL, h2, h3⟩, st⟩ | ⟨q, vm₁, ⟨U', l2, c2, s2⟩, hW₁, X', ⟨g', mk, t, L, E, ce, e1, e2, hq, hce, hcv, hcl, h1, hL, h2, h3⟩, st⟩
  · dsimp only [Pt.U, Pt.locs, Pt.cells, Pt.slots] at X' e1 e2 h1 h2 h3 st
    subst h1; subst h2; subst h3
    exact Or.inl ⟨v, (T.setVm vm₁).calling g' mk As.toArray, t, U', L, hT, X', hL, e1, e2, hq, st⟩
  · dsimp only [Pt.U, Pt.locs, Pt.cells, Pt.slots] at X' e1 e2 h1 h2 h3 st hcl
    subst h1; subst h2; subst h3
    exact Or.inr ⟨q, (T.setVm vm₁).calling g' mk As.toArray, t, U', L, E, ce, hT, X', hL, e1, e2, hq, hce, hcv, vx_cls hW₁ hcl, st⟩
end Runs
section Rows
variable {p : Program} {l : Launch} {e : Env} {R : Room} {s : State} {m : MethodId} {args : Array Value} {below : List Frame} {meth : Method} {c : Code} {H : Heap} {locs : List Loc} {cells slots : Nat} {Q : State → Prop}
variable {mc ms : Nat} {free : Addr → Prop} {A0 A1 : Nat → Prop} {H0 : Heap} {a : Array Value} {pc : Nat} {ls : Array Slot} {st0 rest : List Value}
theorem vx_keep {st₀ t T' : State} {L : List Loc} (h0 : st₀.heap = H) (e1 : T'.heap = t.heap) (hS : va_S A0 H0 H locs) (hA : ∀ q, q < H.size → A1 q → A0 q) (hf : ∀ q, free q → A0 q) (hL : ∀ q ∈ L, free q.base) (hF : va_F A1 st₀ t) :
    H.size ≤ T'.heap.size ∧ (∀ q : Nat, q < H.size → ¬ A1 q → T'.heap[q]? = H[q]?) ∧ va_S A0 H0 T'.heap (locs ++ L) := by
  obtain ⟨hz, hk⟩ := hF
  rw [h0] at hz hk
  exact ⟨by rw [e1]; exact hz, fun q h1 h2 => by rw [e1]; exact hk q h1 h2,
    ⟨Nat.le_trans hS.1 (by rw [e1]; exact hz), fun q h1 h2 => by rw [e1, hk q (Nat.lt_of_lt_of_le h1 hS.1) (fun z => h2 (hA q (Nat.lt_of_lt_of_le h1 hS.1) z))]; exact hS.2.1 q h1 h2, fun q hq => by
      rcases List.mem_append.mp hq with h | h
      · exact hS.2.2 q h
      · exact hf _ (hL q h)⟩⟩
theorem vx_calli {S SX : Type} {post : Int32 → S → Prop} {px : SX → Prop} {B : S → State → Prop} {BX : String → SX → State → Prop} {AX : Nat → Prop} (hr : vx_Run p l e R s m args below meth c H locs cells slots mc ms (F0 m pc ls st0) rest (va_Qi post B A1 a) (vx_X px BX AX) free) (hS : va_S A0 H0 H locs) (hA : ∀ q, q < H.size → A1 q → A0 q) (hf : ∀ q, free q → A0 q) (hAX : ∀ q, q < H.size → AX q → A0 q)
    (kx : ∀ (E : String) (ce : Cell) (q9 : Addr) (u : SX) (t : State) (H1 : Heap) (locs1 : List Loc), t.heap = H1 → s.vm.Alike t.vm → px u → BX E u t → H.size ≤ H1.size → (∀ q : Nat, q < H.size → ¬ AX q → H1[q]? = H[q]?) → va_S A0 H0 H1 locs1 → H1[q9]? = some ce → ce.vm = .none → s.vm.findClass E = some ce.cls → vx_W p l e R s m args below meth c H1 locs1 (cells + mc) (slots + ms) Q (F0 m pc ls rest) q9)
    (kk : ∀ (r : Int32) (u : S) (t : State) (H1 : Heap) (locs1 : List Loc), t.heap = H1 → s.vm.Alike t.vm → post r u → B u t → H.size ≤ H1.size → (∀ q : Nat, q < H.size → ¬ A1 q → H1[q]? = H[q]?) → va_S A0 H0 H1 locs1 → W p l e R s m args below meth c H1 locs1 (cells + mc) (slots + ms) Q (F0 m (pc + 3) ls (.int r :: rest))) : W p l e R s m args below meth c H locs cells slots Q (F0 m pc ls st0) := by
  intro T hT X
  rcases hr T hT X with ⟨v, st₀, t, T', L, h0, X', hL, e1, e2, ⟨⟨r, u, hv, hp, hb⟩, hF⟩, st⟩ | ⟨q, st₀, t, T', L, E, ce, h0, X', hL, e1, e2, ⟨u, hp, hb, hF⟩, hce, hcv, hcl, st⟩
  · cases hv
    obtain ⟨k1, k2, k3⟩ := vx_keep h0 e1 hS hA hf hL hF
    obtain ⟨t2, a1, b1⟩ := kk r u t T'.heap (locs ++ L) e1.symm (by rw [← e2]; exact X'.warmed.alike) hp hb k1 k2 k3 T' rfl X'
    exact ⟨t2, st t2 a1, b1⟩
  · obtain ⟨k1, k2, k3⟩ := vx_keep h0 e1 hS hAX hf hL hF
    obtain ⟨t2, a1, b1⟩ := kx E ce q u t T'.heap (locs ++ L) e1.symm (by rw [← e2]; exact X'.warmed.alike) hp hb k1 k2 k3 (by rw [e1]; exact hce) hcv hcl T' rfl X'
    exact ⟨t2, st.trans a1, b1⟩
theorem vx_calll {S SX : Type} {post : Int64 → S → Prop} {px : SX → Prop} {B : S → State → Prop} {BX : String → SX → State → Prop} {AX : Nat → Prop} (hr : vx_Run p l e R s m args below meth c H locs cells slots mc ms (F0 m pc ls st0) rest (va_Ql post B A1 a) (vx_X px BX AX) free) (hS : va_S A0 H0 H locs) (hA : ∀ q, q < H.size → A1 q → A0 q) (hf : ∀ q, free q → A0 q) (hAX : ∀ q, q < H.size → AX q → A0 q)
    (kx : ∀ (E : String) (ce : Cell) (q9 : Addr) (u : SX) (t : State) (H1 : Heap) (locs1 : List Loc), t.heap = H1 → s.vm.Alike t.vm → px u → BX E u t → H.size ≤ H1.size → (∀ q : Nat, q < H.size → ¬ AX q → H1[q]? = H[q]?) → va_S A0 H0 H1 locs1 → H1[q9]? = some ce → ce.vm = .none → s.vm.findClass E = some ce.cls → vx_W p l e R s m args below meth c H1 locs1 (cells + mc) (slots + ms) Q (F0 m pc ls rest) q9)
    (kk : ∀ (r : Int64) (u : S) (t : State) (H1 : Heap) (locs1 : List Loc), t.heap = H1 → s.vm.Alike t.vm → post r u → B u t → H.size ≤ H1.size → (∀ q : Nat, q < H.size → ¬ A1 q → H1[q]? = H[q]?) → va_S A0 H0 H1 locs1 → W p l e R s m args below meth c H1 locs1 (cells + mc) (slots + ms) Q (F0 m (pc + 3) ls (.long r :: rest))) : W p l e R s m args below meth c H locs cells slots Q (F0 m pc ls st0) := by
  intro T hT X
  rcases hr T hT X with ⟨v, st₀, t, T', L, h0, X', hL, e1, e2, ⟨⟨r, u, hv, hp, hb⟩, hF⟩, st⟩ | ⟨q, st₀, t, T', L, E, ce, h0, X', hL, e1, e2, ⟨u, hp, hb, hF⟩, hce, hcv, hcl, st⟩
  · cases hv
    obtain ⟨k1, k2, k3⟩ := vx_keep h0 e1 hS hA hf hL hF
    obtain ⟨t2, a1, b1⟩ := kk r u t T'.heap (locs ++ L) e1.symm (by rw [← e2]; exact X'.warmed.alike) hp hb k1 k2 k3 T' rfl X'
    exact ⟨t2, st t2 a1, b1⟩
  · obtain ⟨k1, k2, k3⟩ := vx_keep h0 e1 hS hAX hf hL hF
    obtain ⟨t2, a1, b1⟩ := kx E ce q u t T'.heap (locs ++ L) e1.symm (by rw [← e2]; exact X'.warmed.alike) hp hb k1 k2 k3 (by rw [e1]; exact hce) hcv hcl T' rfl X'
    exact ⟨t2, st.trans a1, b1⟩
theorem vx_callf {S SX : Type} {post : UInt32 → S → Prop} {px : SX → Prop} {B : S → State → Prop} {BX : String → SX → State → Prop} {AX : Nat → Prop} (hr : vx_Run p l e R s m args below meth c H locs cells slots mc ms (F0 m pc ls st0) rest (va_Qf post B A1 a) (vx_X px BX AX) free) (hS : va_S A0 H0 H locs) (hA : ∀ q, q < H.size → A1 q → A0 q) (hf : ∀ q, free q → A0 q) (hAX : ∀ q, q < H.size → AX q → A0 q)
    (kx : ∀ (E : String) (ce : Cell) (q9 : Addr) (u : SX) (t : State) (H1 : Heap) (locs1 : List Loc), t.heap = H1 → s.vm.Alike t.vm → px u → BX E u t → H.size ≤ H1.size → (∀ q : Nat, q < H.size → ¬ AX q → H1[q]? = H[q]?) → va_S A0 H0 H1 locs1 → H1[q9]? = some ce → ce.vm = .none → s.vm.findClass E = some ce.cls → vx_W p l e R s m args below meth c H1 locs1 (cells + mc) (slots + ms) Q (F0 m pc ls rest) q9)
    (kk : ∀ (r : UInt32) (u : S) (t : State) (H1 : Heap) (locs1 : List Loc), t.heap = H1 → s.vm.Alike t.vm → post r u → B u t → H.size ≤ H1.size → (∀ q : Nat, q < H.size → ¬ A1 q → H1[q]? = H[q]?) → va_S A0 H0 H1 locs1 → W p l e R s m args below meth c H1 locs1 (cells + mc) (slots + ms) Q (F0 m (pc + 3) ls (.float r :: rest))) : W p l e R s m args below meth c H locs cells slots Q (F0 m pc ls st0) := by
  intro T hT X
  rcases hr T hT X with ⟨v, st₀, t, T', L, h0, X', hL, e1, e2, ⟨⟨r, u, hv, hp, hb⟩, hF⟩, st⟩ | ⟨q, st₀, t, T', L, E, ce, h0, X', hL, e1, e2, ⟨u, hp, hb, hF⟩, hce, hcv, hcl, st⟩
  · cases hv
    obtain ⟨k1, k2, k3⟩ := vx_keep h0 e1 hS hA hf hL hF
    obtain ⟨t2, a1, b1⟩ := kk r u t T'.heap (locs ++ L) e1.symm (by rw [← e2]; exact X'.warmed.alike) hp hb k1 k2 k3 T' rfl X'
    exact ⟨t2, st t2 a1, b1⟩
  · obtain ⟨k1, k2, k3⟩ := vx_keep h0 e1 hS hAX hf hL hF
    obtain ⟨t2, a1, b1⟩ := kx E ce q u t T'.heap (locs ++ L) e1.symm (by rw [← e2]; exact X'.warmed.alike) hp hb k1 k2 k3 (by rw [e1]; exact hce) hcv hcl T' rfl X'
    exact ⟨t2, st.trans a1, b1⟩
theorem vx_calld {S SX : Type} {post : UInt64 → S → Prop} {px : SX → Prop} {B : S → State → Prop} {BX : String → SX → State → Prop} {AX : Nat → Prop} (hr : vx_Run p l e R s m args below meth c H locs cells slots mc ms (F0 m pc ls st0) rest (va_Qd post B A1 a) (vx_X px BX AX) free) (hS : va_S A0 H0 H locs) (hA : ∀ q, q < H.size → A1 q → A0 q) (hf : ∀ q, free q → A0 q) (hAX : ∀ q, q < H.size → AX q → A0 q)
    (kx : ∀ (E : String) (ce : Cell) (q9 : Addr) (u : SX) (t : State) (H1 : Heap) (locs1 : List Loc), t.heap = H1 → s.vm.Alike t.vm → px u → BX E u t → H.size ≤ H1.size → (∀ q : Nat, q < H.size → ¬ AX q → H1[q]? = H[q]?) → va_S A0 H0 H1 locs1 → H1[q9]? = some ce → ce.vm = .none → s.vm.findClass E = some ce.cls → vx_W p l e R s m args below meth c H1 locs1 (cells + mc) (slots + ms) Q (F0 m pc ls rest) q9)
    (kk : ∀ (r : UInt64) (u : S) (t : State) (H1 : Heap) (locs1 : List Loc), t.heap = H1 → s.vm.Alike t.vm → post r u → B u t → H.size ≤ H1.size → (∀ q : Nat, q < H.size → ¬ A1 q → H1[q]? = H[q]?) → va_S A0 H0 H1 locs1 → W p l e R s m args below meth c H1 locs1 (cells + mc) (slots + ms) Q (F0 m (pc + 3) ls (.double r :: rest))) : W p l e R s m args below meth c H locs cells slots Q (F0 m pc ls st0) := by
  intro T hT X
  rcases hr T hT X with ⟨v, st₀, t, T', L, h0, X', hL, e1, e2, ⟨⟨r, u, hv, hp, hb⟩, hF⟩, st⟩ | ⟨q, st₀, t, T', L, E, ce, h0, X', hL, e1, e2, ⟨u, hp, hb, hF⟩, hce, hcv, hcl, st⟩
  · cases hv
    obtain ⟨k1, k2, k3⟩ := vx_keep h0 e1 hS hA hf hL hF
    obtain ⟨t2, a1, b1⟩ := kk r u t T'.heap (locs ++ L) e1.symm (by rw [← e2]; exact X'.warmed.alike) hp hb k1 k2 k3 T' rfl X'
    exact ⟨t2, st t2 a1, b1⟩
  · obtain ⟨k1, k2, k3⟩ := vx_keep h0 e1 hS hAX hf hL hF
    obtain ⟨t2, a1, b1⟩ := kx E ce q u t T'.heap (locs ++ L) e1.symm (by rw [← e2]; exact X'.warmed.alike) hp hb k1 k2 k3 (by rw [e1]; exact hce) hcv hcl T' rfl X'
    exact ⟨t2, st.trans a1, b1⟩
theorem vx_callv {S SX : Type} {post : S → Prop} {px : SX → Prop} {B : S → State → Prop} {BX : String → SX → State → Prop} {AX : Nat → Prop} (hr : vx_Run p l e R s m args below meth c H locs cells slots mc ms (F0 m pc ls st0) rest (va_Qv post B A1 a) (vx_X px BX AX) free) (hS : va_S A0 H0 H locs) (hA : ∀ q, q < H.size → A1 q → A0 q) (hf : ∀ q, free q → A0 q) (hAX : ∀ q, q < H.size → AX q → A0 q)
    (kx : ∀ (E : String) (ce : Cell) (q9 : Addr) (u : SX) (t : State) (H1 : Heap) (locs1 : List Loc), t.heap = H1 → s.vm.Alike t.vm → px u → BX E u t → H.size ≤ H1.size → (∀ q : Nat, q < H.size → ¬ AX q → H1[q]? = H[q]?) → va_S A0 H0 H1 locs1 → H1[q9]? = some ce → ce.vm = .none → s.vm.findClass E = some ce.cls → vx_W p l e R s m args below meth c H1 locs1 (cells + mc) (slots + ms) Q (F0 m pc ls rest) q9)
    (kk : ∀ (u : S) (t : State) (H1 : Heap) (locs1 : List Loc), t.heap = H1 → s.vm.Alike t.vm → post u → B u t → H.size ≤ H1.size → (∀ q : Nat, q < H.size → ¬ A1 q → H1[q]? = H[q]?) → va_S A0 H0 H1 locs1 → W p l e R s m args below meth c H1 locs1 (cells + mc) (slots + ms) Q (F0 m (pc + 3) ls (rest))) : W p l e R s m args below meth c H locs cells slots Q (F0 m pc ls st0) := by
  intro T hT X
  rcases hr T hT X with ⟨v, st₀, t, T', L, h0, X', hL, e1, e2, ⟨⟨u, hv, hp, hb⟩, hF⟩, st⟩ | ⟨q, st₀, t, T', L, E, ce, h0, X', hL, e1, e2, ⟨u, hp, hb, hF⟩, hce, hcv, hcl, st⟩
  · cases hv
    obtain ⟨k1, k2, k3⟩ := vx_keep h0 e1 hS hA hf hL hF
    obtain ⟨t2, a1, b1⟩ := kk u t T'.heap (locs ++ L) e1.symm (by rw [← e2]; exact X'.warmed.alike) hp hb k1 k2 k3 T' rfl X'
    exact ⟨t2, st t2 a1, b1⟩
  · obtain ⟨k1, k2, k3⟩ := vx_keep h0 e1 hS hAX hf hL hF
    obtain ⟨t2, a1, b1⟩ := kx E ce q u t T'.heap (locs ++ L) e1.symm (by rw [← e2]; exact X'.warmed.alike) hp hb k1 k2 k3 (by rw [e1]; exact hce) hcv hcl T' rfl X'
    exact ⟨t2, st.trans a1, b1⟩
/-- caught by the row x of this method's table; the rows ahead don't take it -/
theorem vx_catch {own name : String} {E : String} {ce : Cell} {q : Addr} (hown : s.vm.findClass own = some m.cls) (pre : List ExceptionTableEntry) (x : ExceptionTableEntry) (suf : List ExceptionTableEntry) (hsplit : c.exceptionTable.toList = pre ++ x :: suf)
    (hpass : ∀ z ∈ pre, covers z pc = false ∨ (z.catchType ≠ 0 ∧ ∃ nm : String, (Cond.classLink own z.catchType nm).before args s = true ∧ va_Nc E nm s)) (hx : covers x pc = true) (h0 : x.catchType ≠ 0)
    (hlink : (Cond.classLink own x.catchType name).before args s = true) (hcast : (Cond.castable E name).before args s = true) (hcell : H[q]? = some ce) (hv : ce.vm = .none) (hcl : s.vm.findClass E = some ce.cls)
    (kk : W p l e R s m args below meth c H locs cells slots Q (F0 m x.handlerPc ls [.ref q])) : vx_W p l e R s m args below meth c H locs cells slots Q (F0 m pc ls rest) q := by
  intro T hT X
  have hpl : e.platform.magicAccessors = ({} : Platform).magicAccessors := by rw [X.admits.platform]
  obtain ⟨c3, c4, hc3, hc4, hasg⟩ := Cond.castable_spec hcast
  cases Option.some.inj (hc3.symm.trans hcl)
  obtain ⟨c5, hc5, hcl5⟩ := Cond.classLink_spec hown hlink e.platform hpl
  cases Option.some.inj (hc4.symm.trans hc5)
  obtain ⟨vm', X', st⟩ := X.thenCaughtThrough q (g := F0 m pc ls rest) rfl (Steps.refl _) (by rw [hT]; exact hcell) (by rw [hv]; rfl) (by obtain ⟨k9, h9, -⟩ := Vm.findClass_spec hcl; exact ⟨k9, h9⟩) pre x suf hsplit
    (fun z hz => by
      rcases hpass z hz with h | ⟨hz0, nm, hl1, hn1⟩
      · exact Or.inl h
      · obtain ⟨c6, hc6, hcl6⟩ := Cond.classLink_spec hown hl1 e.platform hpl
        obtain ⟨a8, b8, h1, h2, h3⟩ := hn1
        cases Option.some.inj (h1.symm.trans hcl)
        cases Option.some.inj (h2.symm.trans hc6)
        exact Or.inr ⟨hz0, _, hcl6, h3⟩) hx (Or.inr ⟨h0, c4, hcl5, hasg⟩)
  obtain ⟨t, a1, b1⟩ := kk (T.setVm vm') hT X'
  exact ⟨t, st.trans a1, b1⟩
end Rows
section Ends
variable {p : Program} {l : Launch} {e : Env} {R : Room} {s : State} {m : MethodId} {args : Array Value} {below : List Frame} {meth : Method} {c : Code} {H : Heap} {locs : List Loc} {cells slots : Nat} {Q : State → Prop}
variable {mc ms : Nat} {free : Addr → Prop} {A0 A1 : Nat → Prop} {H0 : Heap} {a : Array Value} {ls : Array Slot} {st0 rest : List Value}
variable {Qc : Array Value → State → Outcome → State → Prop} {XC : String → State → State → Prop}
/-- what a body that may throw owes at its end -/
def vx_MQ (below : List Frame) (Qc : Array Value → State → Outcome → State → Prop) (XC : String → State → State → Prop) (a : Array Value) (s : State) (mc ms : Nat) (free : Addr → Prop) : State → Prop := fun t =>
  ∃ o, t.status = .running ∧ Ended t below o ∧ vx_Q Qc XC mc ms free a s o t
theorem vx_ret {g : JFrame} {mc ms : Nat} (k : W p l e R s m args below meth c H locs cells slots (MQ below Qc args s mc ms free) g) : W p l e R s m args below meth c H locs cells slots (vx_MQ below Qc XC args s mc ms free) g := by
  intro T hT X
  obtain ⟨t, a1, o, b1, b2, b3, b4⟩ := k T hT X
  exact ⟨t, a1, o, b1, b2, Or.inl ⟨b3, b4⟩⟩
/-- not caught here: it goes on to the caller -/
theorem vx_widen {g : JFrame} {q : Addr} {k n : Nat} (h1 : cells ≤ k) (h2 : slots ≤ n) (kk : vx_W p l e R s m args below meth c H locs k n Q g q) : vx_W p l e R s m args below meth c H locs cells slots Q g q := fun T hT X => kk T hT (stand_widen X h1 h2)
theorem vx_out {pc : Nat} {E : String} {ce : Cell} {q : Addr} {mc ms : Nat} (hout : ∀ x ∈ c.exceptionTable.toList, covers x pc = false) (hlocks : meth.locks = false) (hcell : H[q]? = some ce) (hv : ce.vm = .none) (hcl : s.vm.findClass E = some ce.cls)
    (hx : ∀ t : State, t.heap = H → s.vm.Alike t.vm → XC E s t) (hf : ∀ z ∈ locs, free z.base) (hc : cells ≤ mc) (hs : slots ≤ ms) :
    vx_W p l e R s m args below meth c H locs cells slots (vx_MQ below Qc XC args s mc ms free) (F0 m pc ls rest) q := by
  intro T hT X
  obtain ⟨st1, hrun, hend, hW, hsm⟩ := X.leaveThrown q (g := F0 m pc ls rest) rfl rfl rfl hout hlocks
  have hcell9 : (T.setFrames (.throwing q :: below)).heap[q]? = some ce := by
    show T.heap[q]? = some ce
    rw [hT]; exact hcell
  exact ⟨_, st1, .threw q, hrun, hend, Or.inr ⟨q, rfl, E, ce, locs, hx _ hT hW.alike, hcell9, hv, hcl, hW, hsm.mono hc hs, hf⟩⟩
theorem vx_frame {U : State} {k n : Nat} (h : s.sameButNew ({ U with vm := s.vm } : State) locs k n) : s.heap.size ≤ U.heap.size ∧ ∀ q : Nat, q < s.heap.size → (∀ z ∈ locs, z.base ≠ q) → U.heap[q]? = s.heap[q]? := by
  obtain ⟨-, h2, -, -, -, h6⟩ := h
  refine ⟨h2, fun q hq hz => ?_⟩
  obtain ⟨c9, e1, e2, e3, e4⟩ := h6 q _ (Array.getElem?_eq_getElem hq)
  have hs : c9.slots = (s.heap[q]).slots := Array.ext_getElem? fun i => e4 i fun hm => hz _ hm rfl
  have h9 : c9 = s.heap[q] := by
    rw [hs] at e2
    exact e2
  have e5 : U.heap[q]? = some c9 := e1
  rw [e5, h9, Array.getElem?_eq_getElem hq]
/-- the words of a throw but the four that speak of the heap -/
def vx_no (w : Cond) : Bool := decide (w ≠ .isRef (.static Bundle.tN "UNASSIGNED_STACK" Bundle.steD)) && decide (w ≠ .isRef (.static Bundle.tN "SUPPRESSED_SENTINEL" Bundle.listD)) && decide (w ≠ .laysStatic Bundle.tN "UNASSIGNED_STACK" Bundle.steD) && decide (w ≠ .laysStatic Bundle.tN "SUPPRESSED_SENTINEL" Bundle.listD)
def vx_at0 (own : String) (ic : Nat) (X : String) (names : List String) : List Cond := (Bundle.ownAtoms0 own ic X names).filter vx_no
def vx_atS (own : String) (ic : Nat) (X : String) (names : List String) : List Cond := (Bundle.ownAtoms own ic X names).filter vx_no
/-- a word that the tables alone decide, or a good one -/
def vx_ot (w : Cond) : Bool := w.onTables || goodWord w
theorem vx_ot_at {args a' : Array Value} {s U : State} {w : Cond} (hW : s.WarmedH U.vm) (hvm : s.vm = U.vm) (hg : vx_ot w = true) (h : w.before args s = true) : w.before a' U = true := by
  simp only [vx_ot, Bool.or_eq_true] at hg
  rcases hg with hg | hg
  · exact va_tabs hg hvm h
  · exact word_at hW (good_of_word hg) h
/-- a list's words: the good ones out of the method's own list, the others by premises of their own -/
theorem vx_hat {args : Array Value} {s : State} {L B : List Cond} (h1 : ∀ w ∈ L.filter goodWord, w.before args s = true) (h2 : ∀ w ∈ L.filter (fun w => !goodWord w), w ∈ B) (h3 : ∀ w ∈ B, w.before args s = true) : ∀ w ∈ L, w.before args s = true := by
  intro w hw
  by_cases g : goodWord w = true
  · exact h1 w (List.mem_filter.mpr ⟨hw, g⟩)
  · refine h3 w (h2 w (List.mem_filter.mpr ⟨hw, ?_⟩))
    show (!goodWord w) = true
    cases hgw : goodWord w
    · rfl
    · exact absurd hgw g
theorem vx_c {args : Array Value} {s : State} {w : Cond} {B : List Cond} (h : w.before args s = true) (t : ∀ w ∈ B, w.before args s = true) : ∀ w' ∈ w :: B, w'.before args s = true := fun w' h' => (List.mem_cons.mp h').elim (fun e => by rw [e]; exact h) (t w')
theorem vx_n {args : Array Value} {s : State} : ∀ w ∈ ([] : List Cond), w.before args s = true := fun _ h => nomatch h
theorem vx_own {args : Array Value} {s : State} {L : List Cond} (h1 : ∀ w ∈ L.filter vx_no, w.before args s = true)
    (hU : (Cond.isRef (.static Bundle.tN "UNASSIGNED_STACK" Bundle.steD)).before args s = true) (hN : (Cond.isRef (.static Bundle.tN "SUPPRESSED_SENTINEL" Bundle.listD)).before args s = true)
    (lU : (Cond.laysStatic Bundle.tN "UNASSIGNED_STACK" Bundle.steD).before args s = true) (lN : (Cond.laysStatic Bundle.tN "SUPPRESSED_SENTINEL" Bundle.listD).before args s = true) : ∀ w ∈ L, w.before args s = true := by
  intro w hw
  by_cases e1 : w = .isRef (.static Bundle.tN "UNASSIGNED_STACK" Bundle.steD)
  · rw [e1]; exact hU
  · by_cases e2 : w = .isRef (.static Bundle.tN "SUPPRESSED_SENTINEL" Bundle.listD)
    · rw [e2]; exact hN
    · by_cases e3 : w = .laysStatic Bundle.tN "UNASSIGNED_STACK" Bundle.steD
      · rw [e3]; exact lU
      · by_cases e4 : w = .laysStatic Bundle.tN "SUPPRESSED_SENTINEL" Bundle.listD
        · rw [e4]; exact lN
        · exact h1 w (List.mem_filter.mpr ⟨hw, by unfold vx_no; rw [decide_eq_true e1, decide_eq_true e2, decide_eq_true e3, decide_eq_true e4]; rfl⟩)
/-- where a static field lies, its class's statics cell in H -/
def vx_L (C n d : String) (A : Nat → Prop) (U : State) (H : Heap) : Prop := ∃ (c : ClassId) (k : Class) (i : Nat) (f : Field) (a : Nat) (cell : Cell), U.vm.findClass C = some c ∧ U.fieldFound? C n d = some (c, k, i, f) ∧ f.isStatic = true ∧ k.statics = some a ∧ H[a]? = some cell ∧ cell.vm.isStatics = true ∧ cell.cls = c ∧ f.slot < cell.slots.size ∧ k.staticTypes[f.slot]? = some f.type ∧ ¬ A a
theorem vx_L.moved {C n d : String} {A : Nat → Prop} {u U : State} {H : Heap} (hvm : u.vm.Alike U.vm) (h : vx_L C n d A u H) : vx_L C n d A U H := by
  obtain ⟨c, k, i, f, a, cell, h1, h2, h3, h4, h5, h6, h7, h8, h9, h10⟩ := h
  obtain ⟨k', hi', he⟩ := State.fieldFound?_setVm hvm h2
  exact ⟨c, k', i, f, a, cell, by rw [hvm.findClass]; exact h1, hi', h3, by rw [he]; exact h4, h5, h6, h7, h8, by rw [he]; exact h9, h10⟩
theorem vx_L.kept {C n d : String} {A : Nat → Prop} {U : State} {H H1 : Heap} (h : vx_L C n d A U H) (hq : ∀ a : Nat, a < H.size → ¬ A a → H1[a]? = H[a]?) : vx_L C n d A U H1 := by
  obtain ⟨c, k, i, f, a, cell, h1, h2, h3, h4, h5, h6, h7, h8, h9, h10⟩ := h
  exact ⟨c, k, i, f, a, cell, h1, h2, h3, h4, by rw [hq a (Array.getElem?_eq_some_iff.mp h5).1 h10]; exact h5, h6, h7, h8, h9, h10⟩
theorem vx_L.narrow {C n d : String} {A B : Nat → Prop} {U : State} {H : Heap} (h : vx_L C n d A U H) (hAB : ∀ q, B q → A q) : vx_L C n d B U H := by
  obtain ⟨c, k, i, f, a, cell, h1, h2, h3, h4, h5, h6, h7, h8, h9, h10⟩ := h
  exact ⟨c, k, i, f, a, cell, h1, h2, h3, h4, h5, h6, h7, h8, h9, fun z => h10 (hAB _ z)⟩
theorem vx_L.word {C n d : String} {A : Nat → Prop} {s : State} {args : Array Value} (h : vx_L C n d A s s.heap) : (Cond.laysStatic C n d).before args s = true := by
  obtain ⟨c, k, i, f, a, cell, h1, h2, h3, h4, h5, h6, h7, h8, h9, -⟩ := h
  show (Cond.laysStatic C n d).holds args s none s [] = true
  exact Cond.laysStatic_of h1 h2 h3 h4 h5 h6 h7 h8 h9
/-- .. and what it holds: null or some reference -/
def vx_Zq (C n d : String) (A : Nat → Prop) (U : State) (H : Heap) : Prop := va_Zq C n d A U H ∧ vx_L C n d A U H
theorem vx_Zq.moved {C n d : String} {A : Nat → Prop} {u U : State} {H : Heap} (hvm : u.vm.Alike U.vm) (h : vx_Zq C n d A u H) : vx_Zq C n d A U H := ⟨va_Zq.moved hvm h.1, vx_L.moved hvm h.2⟩
theorem vx_Zq.kept {C n d : String} {A : Nat → Prop} {U : State} {H H1 : Heap} (h : vx_Zq C n d A U H) (hq : ∀ a : Nat, a < H.size → ¬ A a → H1[a]? = H[a]?) : vx_Zq C n d A U H1 := ⟨va_Zq.kept h.1 hq, vx_L.kept h.2 hq⟩
theorem vx_Zq.narrow {C n d : String} {A B : Nat → Prop} {U : State} {H : Heap} (h : vx_Zq C n d A U H) (hAB : ∀ q, B q → A q) : vx_Zq C n d B U H := ⟨va_Zq.narrow h.1 hAB, vx_L.narrow h.2 hAB⟩
theorem vx_Zqof {args : Array Value} {s : State} {C n d : String} {A : Nat → Prop} (hl : (Cond.laysStatic C n d).before args s = true) (hini : (Cond.initialized C).before args s = true) (h : (Cond.isRef (.static C n d)).before args s = true) (hA : ∀ a : Nat, a < s.heap.size → ¬ A a) : vx_Zq C n d A s s.heap := by
  refine ⟨va_Zqof hl hini h hA, ?_⟩
  obtain ⟨c, k, i, f, a, cell, h1, h2, h3, h4, h5, h6, h7, h8, h9⟩ := Cond.laysStatic_spec hl
  exact ⟨c, k, i, f, a, cell, h1, h2, h3, h4, h5, h6, h7, h8, h9, hA a (Array.getElem?_eq_some_iff.mp h5).1⟩
theorem vx_isRef {C n d : String} {v : Value} {A : Nat → Prop} {s : State} {args : Array Value} (h : va_Z C n d v A s s.heap) (hv : v.isRef = true) : (Cond.isRef (.static C n d)).before args s = true := by
  obtain ⟨cf, kf, fi, f, a, cell, h1, h2, h3, h4, h5, h6, h7, -⟩ := h
  have he : (Term.static C n d).eval args s none [] s = some v := by
    simp [Term.eval, State.fieldNamed?, h1, h2, h4, h5, h6, h7]
  simp only [Cond.before, Cond.holds, Cond.value, he]
  cases v <;> simp_all [Value.isRef]
theorem vx_isRefq {C n d : String} {A : Nat → Prop} {s : State} {args : Array Value} (h : va_Zq C n d A s s.heap) : (Cond.isRef (.static C n d)).before args s = true := by
  rcases h with h | ⟨t, h⟩
  · exact vx_isRef h rfl
  · exact vx_isRef h rfl
/-- the same frame, seen from here: as if the method were called anew in this heap -/
theorem vx_rebase {T : State} (X : Stand p l e R s m args below meth c T locs cells slots) {R' : Room} (hf : R'.frames ≤ R.frames) (hl : R'.locals ≤ R.locals) (hc : cells + R'.cells ≤ R.cells) (hs : slots + R'.slots ≤ R.slots) :
    Stand p l e R' ((T.setVm s.vm).setFrames (.invoking m args :: below)) m args below meth c T [] 0 0 := by
  have htop : (T.setVm s.vm).topJava?.isSome := X.here.top
  have hF : ((T.setVm s.vm).setFrames (.invoking m args :: below)).frames = .invoking m args :: below := State.frames_setFrames _ (State.cur_lt_of_top htop)
  obtain ⟨g₀, hg0⟩ := Option.isSome_iff_exists.mp htop
  obtain ⟨r, hr⟩ := State.topJava?_eq_some.mp hg0
  have hl9 : e.platform.stackLimits (T.setVm s.vm).me = e.platform.stackLimits s.me := X.limits
  have hb9 : (T.setVm s.vm).me.stackBytes = s.me.stackBytes := X.bytes
  refine ⟨X.admits, X.cas, X.clock, hF, ?_, X.hears, X.method, X.code, X.here, X.tail, X.warmed, ?_, ?_, ?_⟩
  · have h := X.room
    have hU : ((T.setVm s.vm).setFrames (.invoking m args :: below)).localsInUse = s.localsInUse := by
      rw [State.localsInUse_invoking hF (meth := meth) (c := c) X.method X.code, State.localsInUse_invoking X.frames X.method X.code]
    simp only [State.hasRoom, Bool.and_eq_true, decide_eq_true_eq] at h ⊢
    obtain ⟨⟨⟨⟨h1, h2, h3, h4, h5, h6⟩, h7⟩, h8⟩, h9⟩ := h
    rw [X.frames, List.length_cons] at h2 h3
    have q1 := X.heapSize
    have q2 := X.used
    simp only [hF, hU, List.length_cons, State.stackLimits_setFrames, State.stackBytes_setFrames, hl9, hb9]
    refine ⟨⟨⟨⟨by omega, by omega, by omega, by omega, by omega, h6⟩, ?_⟩, ?_⟩, X.book⟩
    · show T.heap.size + R'.cells ≤ e.platform.maxCells
      omega
    · show T.slotsUsed + R'.slots ≤ e.platform.maxSlots
      omega
  · rw [State.stackLimits_setFrames]; rfl
  · rw [State.stackBytes_setFrames]; rfl
  · refine ⟨?_, Nat.le_refl _, Nat.le_refl _, ?_, ?_, fun a c9 h9 => ⟨c9, h9, rfl, rfl, fun _ _ => rfl⟩⟩
    · obtain ⟨t, ht, -⟩ := State.frames_cons hr
      show T.setVm s.vm = { ((T.setVm s.vm).setFrames (.invoking m args :: below)).setFrames (T.setVm s.vm).frames with heap := T.heap, slotsUsed := T.slotsUsed }
      rw [State.setFrames_setFrames, State.setFrames_self ht]
      rfl
    · show T.slotsUsed = T.slotsUsed + ((T.heap.toList.drop T.heap.size).map (·.slots.size)).sum
      rw [List.drop_eq_nil_of_le (Nat.le_of_eq Array.length_toList)]
      rfl
    · show ((T.heap.toList.drop T.heap.size).map (·.slots.size)).sum ≤ 0
      rw [List.drop_eq_nil_of_le (Nat.le_of_eq Array.length_toList)]
      exact Nat.le_refl _
/-- 'throw new E()': new; dup; invokespecial; athrow -/
theorem vx_throw0 {cc : ByteArray} {pc : Nat} (hexec : p.tables.exec = Jvm.exec) (hb : c.code = cc) (hl : l.stackTraces = false) {own cls : String} {names : List String} {ik ic mc ms : Nat} {A : Nat → Prop}
    (hown : s.vm.findClass own = some m.cls) (hcls : Bundle.fit cls = true) (hnames : ∀ n ∈ names, Bundle.fit n = true)
    (hk : (Cond.classLink own ik cls).before args s = true) (hini : (Cond.initialized cls).before args s = true) (hat : ∀ w ∈ vx_at0 own ic cls names, w.before args s = true)
    (hgood : ∀ w ∈ Cond.classLink own ik cls :: Cond.initialized cls :: vx_at0 own ic cls names, vx_ot w = true)
    (hU : vx_Zq Bundle.tN "UNASSIGNED_STACK" Bundle.steD A s s.heap) (hN : vx_Zq Bundle.tN "SUPPRESSED_SENTINEL" Bundle.listD A s s.heap) (hS : va_S A s.heap H locs) (hsize : ls.size = c.maxLocals)
    (d0 : decode cc pc = .ok (.new ik, 3)) (d3 : decode cc (pc + 3) = .ok (.dup, 1)) (d4 : decode cc (pc + 4) = .ok (.invokespecial ic, 3)) (d7 : decode cc (pc + 7) = .ok (.athrow, 1))
    (hout : ∀ x ∈ c.exceptionTable.toList, covers x (pc + 7) = false)
    (hRframes : names.length + 3 < R.frames) (hRlocals : (rest.map fun v => v.category).sum + (13 * (names.length + 1) + 42) ≤ R.locals) (hRcells : cells + 1 ≤ R.cells) (hRslots : slots + 6 ≤ R.slots) (hlocks : meth.locks = false)
    (hx : ∀ t : State, s.vm.Alike t.vm → H.size ≤ t.heap.size → (∀ q : Nat, q < H.size → t.heap[q]? = H[q]?) → XC cls s t)
    (hf : ∀ z ∈ locs, free z.base) (hc : cells + 1 ≤ mc) (hs : slots + 6 ≤ ms) :
    W p l e R s m args below meth c H locs cells slots (vx_MQ below Qc XC args s mc ms free) (F0 m pc ls rest) := by
  intro T hT X
  have htr : e.platform.stackTraces = false := (show e.platform.stackTraces = l.stackTraces by rw [X.admits.platform]).trans hl
  have Y := vx_rebase X (R' := { frames := R.frames, locals := R.locals, cells := 1, slots := 6 }) (Nat.le_refl _) (Nat.le_refl _) hRcells hRslots
  obtain ⟨s', hA⟩ : ∃ z, z = (T.setVm s.vm).setFrames (.invoking m args :: below) := ⟨_, rfl⟩
  rw [← hA] at Y
  have hvm : s'.vm = s.vm := by rw [hA]; rfl
  have hhp : s'.heap = H := by rw [hA]; exact hT
  have hW0 : s.WarmedH s'.vm := by rw [hvm]; exact State.WarmedH.refl s
  have hat' : ∀ w ∈ vx_at0 own ic cls names, w.before args s' = true := fun w hw => vx_ot_at hW0 hvm.symm (hgood w (List.mem_cons_of_mem _ (List.mem_cons_of_mem _ hw))) (hat w hw)
  have hk' : (Cond.classLink own ik cls).before args s' = true := vx_ot_at hW0 hvm.symm (hgood _ List.mem_cons_self) hk
  have hini' : (Cond.initialized cls).before args s' = true := vx_ot_at hW0 hvm.symm (hgood _ (List.mem_cons_of_mem _ List.mem_cons_self)) hini
  have hU' : vx_Zq Bundle.tN "UNASSIGNED_STACK" Bundle.steD A s' s'.heap := by rw [hhp]; exact vx_Zq.moved hW0.alike (hU.kept hS.2.1)
  have hN' : vx_Zq Bundle.tN "SUPPRESSED_SENTINEL" Bundle.listD A s' s'.heap := by rw [hhp]; exact vx_Zq.moved hW0.alike (hN.kept hS.2.1)
  have h : ∀ w ∈ Bundle.ownAtoms0 own ic cls names, w.before args s' = true := vx_own hat' (vx_isRefq hU'.1) (vx_isRefq hN'.1) hU'.2.word hN'.2.word
  have hown' : s'.vm.findClass own = some m.cls := by rw [hvm]; exact hown
  have hins : (Cond.instantiable cls 6).before args s' = true := h _ (by simp [Bundle.ownAtoms0])
  obtain ⟨vm₁, cX, kX, hfX, hkX, -, -, X₁, st1⟩ := Y.newCold hexec (own := own) (C := cls) (index := ik) (n := 6) hown' hk' hins hini'
    (g := F0 m pc ls rest) rfl (by rw [hb]; exact d0) (Nat.le_refl _) (Nat.le_refl _)
  generalize hT1 : (T.setVm vm₁).pushCell { cls := cX, slots := kX.instanceTypes.map defaultValue, vm := .none } = T1 at X₁ st1
  have hcat : (Value.ref T.heap.size).category = 1 := rfl
  have hcellA : T1.heap[T.heap.size]? = some (freshCell cX kX) := by rw [← hT1]; exact State.heap_pushCell_size _ _
  have d3' : decode c.code (pc + 3) = .ok (.dup, 1) := by rw [hb]; exact d3
  obtain ⟨U, hsteps, hrun, hend, hW, hsame, ce, hce, hO⟩ := X₁.ctorThrow0 hexec htr (own := own) (cls := cls) (names := names) (ic := ic) hown' hcls hnames h (fun x hx => nomatch hx) hfX hkX hcellA (by rw [hhp, hT]; exact Nat.le_refl _)
    (g := { method := m, pc := pc + 4, locals := ls, stack := .ref T.heap.size :: .ref T.heap.size :: rest, locked := none }) rfl hsize rfl rfl (rest := rest) rfl
    (by rw [hb]; exact d4) (by rw [hb]; exact d7) hout hRframes (by simp only [List.map_cons, List.sum_cons, hcat]; omega) hlocks
  obtain ⟨f1, f2⟩ := vx_frame hsame
  rw [hhp] at f1 f2
  have hWs : s.WarmedH U.vm := State.WarmedH.trans hW0 hW
  have hcl : s.vm.findClass cls = some ce.cls := by
    have h9 := hO.cls
    rw [hvm] at h9
    exact h9
  have hall : s.sameButNew ({ U with vm := s.vm } : State) locs mc ms := by
    subst hA
    obtain ⟨e1, e2⟩ := hsame
    rw [State.setFrames_setFrames] at e1
    have h2 : (T.setVm s.vm).sameButNew ({ U with vm := s.vm } : State) [] (0 + 1) (0 + 6) := ⟨e1, e2⟩
    have h3 := X.same.trans h2
    rw [List.append_nil] at h3
    exact h3.mono hc hs
  refine ⟨U, ?_, .threw T.heap.size, hrun, hend, Or.inr ⟨T.heap.size, rfl, cls, ce, locs, hx U hWs.alike f1 (fun q hq => f2 q hq (fun z hz => nomatch hz)), hce, hO.vm, hcl, hWs, hall, hf⟩⟩
  refine st1 _ ?_
  show Steps p.tables e below (T1.setTop { method := m, pc := pc + 3, locals := ls, stack := .ref T.heap.size :: rest, locked := none }) _
  jvm_step X₁.here [X₁.here.top, hexec, d3', Value.category]
  exact hsteps
/-- 'throw new E("text")': new; dup; ldc; invokespecial; athrow -/
theorem vx_throwS {cc : ByteArray} {pc : Nat} (hexec : p.tables.exec = Jvm.exec) (hb : c.code = cc) (hl : l.stackTraces = false) {own cls text : String} {names : List String} {ik is ic mc ms sa : Nat} {A : Nat → Prop}
    (hown : s.vm.findClass own = some m.cls) (hcls : Bundle.fit cls = true) (hnames : ∀ n ∈ names, Bundle.fit n = true)
    (hk : (Cond.classLink own ik cls).before args s = true) (hini : (Cond.initialized cls).before args s = true) (hstr : vk_R own is text sa s) (hat : ∀ w ∈ vx_atS own ic cls names, w.before args s = true)
    (hgood : ∀ w ∈ Cond.classLink own ik cls :: Cond.initialized cls :: vx_atS own ic cls names, vx_ot w = true)
    (hU : vx_Zq Bundle.tN "UNASSIGNED_STACK" Bundle.steD A s s.heap) (hN : vx_Zq Bundle.tN "SUPPRESSED_SENTINEL" Bundle.listD A s s.heap) (hS : va_S A s.heap H locs) (hsize : ls.size = c.maxLocals)
    (d0 : decode cc pc = .ok (.new ik, 3)) (d3 : decode cc (pc + 3) = .ok (.dup, 1)) (d4 : decode cc (pc + 4) = .ok (.ldc is, 2)) (d6 : decode cc (pc + 6) = .ok (.invokespecial ic, 3)) (d9 : decode cc (pc + 9) = .ok (.athrow, 1))
    (hout : ∀ x ∈ c.exceptionTable.toList, covers x (pc + 9) = false)
    (hRframes : names.length + 3 < R.frames) (hRlocals : (rest.map fun v => v.category).sum + (13 * (names.length + 1) + 43) ≤ R.locals) (hRcells : cells + 1 ≤ R.cells) (hRslots : slots + 6 ≤ R.slots) (hlocks : meth.locks = false)
    (hx : ∀ t : State, s.vm.Alike t.vm → H.size ≤ t.heap.size → (∀ q : Nat, q < H.size → t.heap[q]? = H[q]?) → XC cls s t)
    (hf : ∀ z ∈ locs, free z.base) (hc : cells + 1 ≤ mc) (hs : slots + 6 ≤ ms) :
    W p l e R s m args below meth c H locs cells slots (vx_MQ below Qc XC args s mc ms free) (F0 m pc ls rest) := by
  intro T hT X
  have htr : e.platform.stackTraces = false := (show e.platform.stackTraces = l.stackTraces by rw [X.admits.platform]).trans hl
  have Y := vx_rebase X (R' := { frames := R.frames, locals := R.locals, cells := 1, slots := 6 }) (Nat.le_refl _) (Nat.le_refl _) hRcells hRslots
  obtain ⟨s', hA⟩ : ∃ z, z = (T.setVm s.vm).setFrames (.invoking m args :: below) := ⟨_, rfl⟩
  rw [← hA] at Y
  have hvm : s'.vm = s.vm := by rw [hA]; rfl
  have hhp : s'.heap = H := by rw [hA]; exact hT
  have hW0 : s.WarmedH s'.vm := by rw [hvm]; exact State.WarmedH.refl s
  have hat' : ∀ w ∈ vx_atS own ic cls names, w.before args s' = true := fun w hw => vx_ot_at hW0 hvm.symm (hgood w (List.mem_cons_of_mem _ (List.mem_cons_of_mem _ hw))) (hat w hw)
  have hk' : (Cond.classLink own ik cls).before args s' = true := vx_ot_at hW0 hvm.symm (hgood _ List.mem_cons_self) hk
  have hini' : (Cond.initialized cls).before args s' = true := vx_ot_at hW0 hvm.symm (hgood _ (List.mem_cons_of_mem _ List.mem_cons_self)) hini
  have hU' : vx_Zq Bundle.tN "UNASSIGNED_STACK" Bundle.steD A s' s'.heap := by rw [hhp]; exact vx_Zq.moved hW0.alike (hU.kept hS.2.1)
  have hN' : vx_Zq Bundle.tN "SUPPRESSED_SENTINEL" Bundle.listD A s' s'.heap := by rw [hhp]; exact vx_Zq.moved hW0.alike (hN.kept hS.2.1)
  have h : ∀ w ∈ Bundle.ownAtoms own ic cls names, w.before args s' = true := vx_own hat' (vx_isRefq hU'.1) (vx_isRefq hN'.1) hU'.2.word hN'.2.word
  have hown' : s'.vm.findClass own = some m.cls := by rw [hvm]; exact hown
  have hins : (Cond.instantiable cls 6).before args s' = true := h _ (by simp [Bundle.ownAtoms])
  obtain ⟨vm₁, cX, kX, hfX, hkX, -, -, X₁, st1⟩ := Y.newCold hexec (own := own) (C := cls) (index := ik) (n := 6) hown' hk' hins hini'
    (g := F0 m pc ls rest) rfl (by rw [hb]; exact d0) (Nat.le_refl _) (Nat.le_refl _)
  generalize hT1 : (T.setVm vm₁).pushCell { cls := cX, slots := kX.instanceTypes.map defaultValue, vm := .none } = T1 at X₁ st1
  have hcat : (Value.ref T.heap.size).category = 1 := rfl
  have hcellA : T1.heap[T.heap.size]? = some (freshCell cX kX) := by rw [← hT1]; exact State.heap_pushCell_size _ _
  have d3' : decode c.code (pc + 3) = .ok (.dup, 1) := by rw [hb]; exact d3
  have d4' : decode c.code (pc + 4) = .ok (.ldc is, 2) := by rw [hb]; exact d4
  have hstr' : vk_R own is text sa s' := vk_R.warm hW0 hstr
  obtain ⟨U, hsteps, hrun, hend, hW, hsame, ce, hce, hO⟩ := X₁.ctorThrowS hexec htr (own := own) (cls := cls) (names := names) (ic := ic) hown' hcls hnames h (fun x hx => nomatch hx) hfX hkX hcellA (by rw [hhp, hT]; exact Nat.le_refl _) (msg := .ref sa) rfl
    (g := { method := m, pc := pc + 6, locals := ls, stack := .ref sa :: .ref T.heap.size :: .ref T.heap.size :: rest, locked := none }) rfl hsize rfl rfl (rest := rest) rfl
    (by rw [hb]; exact d6) (by rw [hb]; exact d9) hout hRframes (by simp only [List.map_cons, List.sum_cons, hcat]; omega) hlocks
  obtain ⟨f1, f2⟩ := vx_frame hsame
  rw [hhp] at f1 f2
  have hWs : s.WarmedH U.vm := State.WarmedH.trans hW0 hW
  have hcl : s.vm.findClass cls = some ce.cls := by
    have h9 := hO.cls
    rw [hvm] at h9
    exact h9
  have hall : s.sameButNew ({ U with vm := s.vm } : State) locs mc ms := by
    subst hA
    obtain ⟨e1, e2⟩ := hsame
    rw [State.setFrames_setFrames] at e1
    have h2 : (T.setVm s.vm).sameButNew ({ U with vm := s.vm } : State) [] (0 + 1) (0 + 6) := ⟨e1, e2⟩
    have h3 := X.same.trans h2
    rw [List.append_nil] at h3
    exact h3.mono hc hs
  refine ⟨U, ?_, .threw T.heap.size, hrun, hend, Or.inr ⟨T.heap.size, rfl, cls, ce, locs, hx U hWs.alike f1 (fun q hq => f2 q hq (fun z hz => nomatch hz)), hce, hO.vm, hcl, hWs, hall, hf⟩⟩
  refine st1 _ ?_
  show Steps p.tables e below (T1.setTop { method := m, pc := pc + 3, locals := ls, stack := .ref T.heap.size :: rest, locked := none }) _
  jvm_step X₁.here [X₁.here.top, hexec, d3', Value.category]
  exact X₁.ldcString hexec (own := own) (text := text) (index := is) (a := sa) hown' hstr'.1 hstr'.2
    (g := { method := m, pc := pc + 4, locals := ls, stack := .ref T.heap.size :: .ref T.heap.size :: rest, locked := none }) rfl d4' _ hsteps
/-- 'throw new E("text")', the text by a wide index -/
theorem vx_throwSW {cc : ByteArray} {pc : Nat} (hexec : p.tables.exec = Jvm.exec) (hb : c.code = cc) (hl : l.stackTraces = false) {own cls text : String} {names : List String} {ik is ic mc ms sa : Nat} {A : Nat → Prop}
    (hown : s.vm.findClass own = some m.cls) (hcls : Bundle.fit cls = true) (hnames : ∀ n ∈ names, Bundle.fit n = true)
    (hk : (Cond.classLink own ik cls).before args s = true) (hini : (Cond.initialized cls).before args s = true) (hstr : vk_R own is text sa s) (hat : ∀ w ∈ vx_atS own ic cls names, w.before args s = true)
    (hgood : ∀ w ∈ Cond.classLink own ik cls :: Cond.initialized cls :: vx_atS own ic cls names, vx_ot w = true)
    (hU : vx_Zq Bundle.tN "UNASSIGNED_STACK" Bundle.steD A s s.heap) (hN : vx_Zq Bundle.tN "SUPPRESSED_SENTINEL" Bundle.listD A s s.heap) (hS : va_S A s.heap H locs) (hsize : ls.size = c.maxLocals)
    (d0 : decode cc pc = .ok (.new ik, 3)) (d3 : decode cc (pc + 3) = .ok (.dup, 1)) (d4 : decode cc (pc + 4) = .ok (.ldc_w is, 3)) (d7 : decode cc (pc + 7) = .ok (.invokespecial ic, 3)) (d10 : decode cc (pc + 10) = .ok (.athrow, 1))
    (hout : ∀ x ∈ c.exceptionTable.toList, covers x (pc + 10) = false)
    (hRframes : names.length + 3 < R.frames) (hRlocals : (rest.map fun v => v.category).sum + (13 * (names.length + 1) + 43) ≤ R.locals) (hRcells : cells + 1 ≤ R.cells) (hRslots : slots + 6 ≤ R.slots) (hlocks : meth.locks = false)
    (hx : ∀ t : State, s.vm.Alike t.vm → H.size ≤ t.heap.size → (∀ q : Nat, q < H.size → t.heap[q]? = H[q]?) → XC cls s t)
    (hf : ∀ z ∈ locs, free z.base) (hc : cells + 1 ≤ mc) (hs : slots + 6 ≤ ms) :
    W p l e R s m args below meth c H locs cells slots (vx_MQ below Qc XC args s mc ms free) (F0 m pc ls rest) := by
  intro T hT X
  have htr : e.platform.stackTraces = false := (show e.platform.stackTraces = l.stackTraces by rw [X.admits.platform]).trans hl
  have Y := vx_rebase X (R' := { frames := R.frames, locals := R.locals, cells := 1, slots := 6 }) (Nat.le_refl _) (Nat.le_refl _) hRcells hRslots
  obtain ⟨s', hA⟩ : ∃ z, z = (T.setVm s.vm).setFrames (.invoking m args :: below) := ⟨_, rfl⟩
  rw [← hA] at Y
  have hvm : s'.vm = s.vm := by rw [hA]; rfl
  have hhp : s'.heap = H := by rw [hA]; exact hT
  have hW0 : s.WarmedH s'.vm := by rw [hvm]; exact State.WarmedH.refl s
  have hat' : ∀ w ∈ vx_atS own ic cls names, w.before args s' = true := fun w hw => vx_ot_at hW0 hvm.symm (hgood w (List.mem_cons_of_mem _ (List.mem_cons_of_mem _ hw))) (hat w hw)
  have hk' : (Cond.classLink own ik cls).before args s' = true := vx_ot_at hW0 hvm.symm (hgood _ List.mem_cons_self) hk
  have hini' : (Cond.initialized cls).before args s' = true := vx_ot_at hW0 hvm.symm (hgood _ (List.mem_cons_of_mem _ List.mem_cons_self)) hini
  have hU' : vx_Zq Bundle.tN "UNASSIGNED_STACK" Bundle.steD A s' s'.heap := by rw [hhp]; exact vx_Zq.moved hW0.alike (hU.kept hS.2.1)
  have hN' : vx_Zq Bundle.tN "SUPPRESSED_SENTINEL" Bundle.listD A s' s'.heap := by rw [hhp]; exact vx_Zq.moved hW0.alike (hN.kept hS.2.1)
  have h : ∀ w ∈ Bundle.ownAtoms own ic cls names, w.before args s' = true := vx_own hat' (vx_isRefq hU'.1) (vx_isRefq hN'.1) hU'.2.word hN'.2.word
  have hown' : s'.vm.findClass own = some m.cls := by rw [hvm]; exact hown
  have hins : (Cond.instantiable cls 6).before args s' = true := h _ (by simp [Bundle.ownAtoms])
  obtain ⟨vm₁, cX, kX, hfX, hkX, -, -, X₁, st1⟩ := Y.newCold hexec (own := own) (C := cls) (index := ik) (n := 6) hown' hk' hins hini'
    (g := F0 m pc ls rest) rfl (by rw [hb]; exact d0) (Nat.le_refl _) (Nat.le_refl _)
  generalize hT1 : (T.setVm vm₁).pushCell { cls := cX, slots := kX.instanceTypes.map defaultValue, vm := .none } = T1 at X₁ st1
  have hcat : (Value.ref T.heap.size).category = 1 := rfl
  have hcellA : T1.heap[T.heap.size]? = some (freshCell cX kX) := by rw [← hT1]; exact State.heap_pushCell_size _ _
  have d3' : decode c.code (pc + 3) = .ok (.dup, 1) := by rw [hb]; exact d3
  have d4' : decode c.code (pc + 4) = .ok (.ldc_w is, 3) := by rw [hb]; exact d4
  have hstr' : vk_R own is text sa s' := vk_R.warm hW0 hstr
  obtain ⟨U, hsteps, hrun, hend, hW, hsame, ce, hce, hO⟩ := X₁.ctorThrowS hexec htr (own := own) (cls := cls) (names := names) (ic := ic) hown' hcls hnames h (fun x hx => nomatch hx) hfX hkX hcellA (by rw [hhp, hT]; exact Nat.le_refl _) (msg := .ref sa) rfl
    (g := { method := m, pc := pc + 7, locals := ls, stack := .ref sa :: .ref T.heap.size :: .ref T.heap.size :: rest, locked := none }) rfl hsize rfl rfl (rest := rest) rfl
    (by rw [hb]; exact d7) (by rw [hb]; exact d10) hout hRframes (by simp only [List.map_cons, List.sum_cons, hcat]; omega) hlocks
  obtain ⟨f1, f2⟩ := vx_frame hsame
  rw [hhp] at f1 f2
  have hWs : s.WarmedH U.vm := State.WarmedH.trans hW0 hW
  have hcl : s.vm.findClass cls = some ce.cls := by
    have h9 := hO.cls
    rw [hvm] at h9
    exact h9
  have hall : s.sameButNew ({ U with vm := s.vm } : State) locs mc ms := by
    subst hA
    obtain ⟨e1, e2⟩ := hsame
    rw [State.setFrames_setFrames] at e1
    have h2 : (T.setVm s.vm).sameButNew ({ U with vm := s.vm } : State) [] (0 + 1) (0 + 6) := ⟨e1, e2⟩
    have h3 := X.same.trans h2
    rw [List.append_nil] at h3
    exact h3.mono hc hs
  refine ⟨U, ?_, .threw T.heap.size, hrun, hend, Or.inr ⟨T.heap.size, rfl, cls, ce, locs, hx U hWs.alike f1 (fun q hq => f2 q hq (fun z hz => nomatch hz)), hce, hO.vm, hcl, hWs, hall, hf⟩⟩
  refine st1 _ ?_
  show Steps p.tables e below (T1.setTop { method := m, pc := pc + 3, locals := ls, stack := .ref T.heap.size :: rest, locked := none }) _
  jvm_step X₁.here [X₁.here.top, hexec, d3', Value.category]
  exact X₁.ldcStringW hexec (own := own) (text := text) (index := is) (a := sa) hown' hstr'.1 hstr'.2
    (g := { method := m, pc := pc + 4, locals := ls, stack := .ref T.heap.size :: .ref T.heap.size :: rest, locked := none }) rfl d4' _ hsteps
end Ends
section Bodies
variable {l : Launch}
theorem vx_ofW {y : MethodName} {ws ws' : List Cond} {rm : Room} {Pc : Array Value → State → Prop} {Qc : Array Value → State → Outcome → State → Prop} {XC : String → State → State → Prop} {mc ms : Nat} {free : Addr → Prop} {cc : ByteArray} {maxL : Nat} {ret : Option FieldType}
    (hy : plainName y.cls = true) (hw : ws = Cond.code y cc maxL ret :: ws')
    (body : ∀ p e s m args below meth c s₁, BodyLoose p l y (headSpec ws rm) cc maxL ret e s m args below meth c s₁ → c.maxLocals = maxL → (∀ x ∈ c.exceptionTable.toList, False) → Pc args s →
      W p l e (headSpec ws rm).room s m args below meth c s.heap [] 0 0 (vx_MQ below Qc XC args s mc ms free) (entryFrame m args maxL)) : vx_Met l y ws rm Pc Qc XC mc ms free := by
  refine MetFree.of_bodyS (code := cc) (maxLocals := maxL) (ret := ret) hy ?_ ?_
  · intro args s m h hn
    obtain ⟨meth, c, h1, h2, h3, h4, h5, h6, -, -⟩ := Cond.code_spec hn (atoms_spec (ws := ws) h _ (by rw [hw]; exact List.mem_cons_self))
    exact ⟨meth, c, h1, h2, h3, h4, h5, h6⟩
  · intro p e s m args below meth c s₁ B hml hP _
    have hh0 : s₁.heap = s.heap := by rw [B.state]; rfl
    have ht : ∀ x ∈ c.exceptionTable.toList, False := by
      obtain ⟨meth9, c9, h1, h2, -, -, -, -, h7, -⟩ := Cond.code_spec B.named (atoms_spec (ws := ws) B.pre _ (by rw [hw]; exact List.mem_cons_self))
      cases Option.some.inj (h1.symm.trans B.method)
      cases Option.some.inj (h2.symm.trans (Stand.of_body B).code)
      intro x hx
      rw [Array.isEmpty_iff.mp h7] at hx
      cases hx
    obtain ⟨t, a1, o, b1, b2, b3⟩ := body p e s m args below meth c s₁ B hml ht hP s₁ hh0 (Stand.of_body B)
    exact ⟨t, o, a1, b1, b2, b3⟩
/-- the table of a body with handlers -/
theorem vx_table {p : Program} {x y : MethodName} {S : Spec} {cc bytes : ByteArray} {maxL maxL' : Nat} {ret ret' : Option FieldType} {e : Env} {s s₁ : State} {m : MethodId} {args : Array Value} {below : List Frame} {meth : Method} {c : Code} {hh : List (Nat × Nat × Nat × Nat)}
    (B : BodyLoose p l y S cc maxL ret e s m args below meth c s₁) (h : (Cond.codeWith y bytes maxL' ret' hh).before args s = true) : c.exceptionTable.toList = tableOf hh := by
  obtain ⟨m9, meth9, c9, hn9, h1, h2, -, -, h6, -⟩ := Cond.codeWith_spec h
  cases Option.some.inj (hn9.symm.trans B.named)
  cases Option.some.inj (h1.symm.trans B.method)
  cases Option.some.inj (h2.symm.trans (Stand.of_body B).code)
  rw [← h6, table_eq]
end Bodies
end VXA
/-! ===== END ===== -/
/-! ===== BEGIN a static call of a method with an exception table ===== -/
section VXS
variable {p : Program} {l : Launch} {e : Env} {R : Room} {s : State} {m : MethodId} {args : Array Value} {below : List Frame} {meth : Method} {c : Code} {T : State} {H : Heap} {locs : List Loc} {cells slots : Nat}
abbrev vx_CSW (R : Room) (s : State) (args : Array Value) (own : String) (index : Nat) (y : MethodName) (bytes : ByteArray) (maxL : Nat) (ret : Option FieldType) (hh : List (Nat × Nat × Nat × Nat)) (ws : List Cond) (rm : Room) (mc ms n : Nat) : Prop :=
  (rm.cells = mc ∧ rm.slots = ms ∧ rm.frames + 1 ≤ R.frames ∧ 8 + (maxL + 11) + rm.locals ≤ R.locals ∧ (∀ w ∈ ws, ∀ (a' : Array Value) (U : State), s.WarmedH U.vm → w.before a' U = true) ∧ Cond.codeWith y bytes maxL ret hh ∈ ws) ∧
  (Cond.codeWith y bytes maxL ret hh).before args s = true ∧ (Cond.initialized y.cls).before args s = true ∧ (y.cls ≠ "java/lang/invoke/MethodHandle" ∧ y.cls ≠ "java/lang/invoke/VarHandle") ∧
  (∀ sig, parseMethodDescriptor y.desc = some sig → n = sig.parameters.length) ∧ (Cond.methodLink own index y).before args s = true ∧ (Cond.static y).before args s = true
theorem vx_cwSW {own : String} {index maxL mc ms : Nat} {y : MethodName} {bytes : ByteArray} {ret : Option FieldType} {hh : List (Nat × Nat × Nat × Nat)} {Ts ws ws' : List Cond} {rm : Room} (n : Nat) (ht : ∀ w ∈ Ts, w.before args s = true) (hT : GoodIn Ts (va_wsS own index y ws)) (hw : ws = Cond.codeWith y bytes maxL ret hh :: ws') (hrc : rm.cells = mc) (hrs : rm.slots = ms)
    (hd : y.cls ≠ "java/lang/invoke/MethodHandle" ∧ y.cls ≠ "java/lang/invoke/VarHandle" ∧ (parseMethodDescriptor y.desc).map (fun d => d.parameters.length) = some n) (hR : rm.frames + 1 ≤ R.frames ∧ 8 + (maxL + 11) + rm.locals ≤ R.locals) :
    vx_CSW R s args own index y bytes maxL ret hh ws rm mc ms n := by
  have ok : ∀ w ∈ va_wsS own index y ws, w.before args s = true := fun w h => ht w (hT w h).1
  have hG : GoodIn Ts ws := fun w h => hT w (by unfold va_wsS; exact List.mem_append_right _ h)
  have hc : Cond.codeWith y bytes maxL ret hh ∈ ws := by rw [hw]; exact List.mem_cons_self
  refine ⟨⟨hrc, hrs, hR.1, hR.2, pay_in ht hG, hc⟩, ht _ (hG _ hc).1, ok _ (by simp [va_wsS]), ⟨hd.1, hd.2.1⟩, fun sig h => ?_, ok _ (by simp [va_wsS]), ok _ (by simp [va_wsS])⟩
  have h2 := hd.2.2
  rw [h] at h2
  exact (Option.some.inj h2).symm
theorem vx_callSW (X : Stand p l e R s m args below meth c T locs cells slots) (hexec : p.tables.exec = Jvm.exec) {own : String} {index : Nat} {y : MethodName} {bytes : ByteArray} {maxL : Nat} {ret : Option FieldType} {hh : List (Nat × Nat × Nat × Nat)}
    (hown : s.vm.findClass own = some m.cls) (hlink : (Cond.methodLink own index y).before args s = true) (hstat : (Cond.static y).before args s = true) (hinit : (Cond.initialized y.cls).before args s = true)
    (hcode : (Cond.codeWith y bytes maxL ret hh).before args s = true) (hy : y.cls ≠ "java/lang/invoke/MethodHandle" ∧ y.cls ≠ "java/lang/invoke/VarHandle")
    {W9 : Nat} {Pre : Pt → Array Value → Prop} {Post : Pt → Array Value → Option Value → Pt → Prop} (hK : Back l R p e below s args y 3 W9 Pre Post)
    {g : JFrame} (hg : g.method = m) (hsize : g.locals.size = c.maxLocals) {argsL rest : List Value} (hlen : ∀ sig, parseMethodDescriptor y.desc = some sig → argsL.length = sig.parameters.length)
    (hstack : g.stack = argsL.reverse ++ rest) (hW : 2 * g.monitorRoom + (rest.map fun v => v.category).sum ≤ W9) (hdg : decode c.code g.pc = .ok (.invokestatic index, 3))
    (hpre : ∀ vm₁, s.WarmedH vm₁ → Pre ⟨T.setVm vm₁, locs, cells, slots⟩ argsL.toArray) :
    ∃ (v : Option Value) (vm₁ : Vm) (B : Pt), s.WarmedH vm₁ ∧ Stand p l e R s m args below meth c B.U B.locs B.cells B.slots ∧ Post ⟨T.setVm vm₁, locs, cells, slots⟩ argsL.toArray v B ∧
      ∀ target, Steps p.tables e below (B.U.setTop { g with pc := g.pc + 3, stack := v.toList ++ rest }) target → Steps p.tables e below (T.setTop g) target := by
  obtain ⟨mk, methM, cM, hnamed, hmethM, -, -, -, -, -, -, hsigM⟩ := Cond.codeWith_spec hcode
  have hstatic : methM.isStatic = true := Cond.static_spec hnamed hmethM hstat
  obtain ⟨kP, hkP, -⟩ := className_of_methodNamed hnamed
  have hinitP : kP.init = .initialized := Cond.initialized_spec (findClass_of_methodNamed hnamed) hkP hinit
  obtain ⟨vm₁, X₁, hstep₁⟩ := X.invokestatic hexec hown hlink hnamed hmethM hstatic hkP hinitP hy (g := g) hg (argsL := argsL) (rest := rest) (hlen _ hsigM) hstack hdg
  obtain ⟨v, B, X', hpost, hsteps⟩ := hK m meth c ⟨T.setVm vm₁, locs, cells, slots⟩ { g with stack := rest } (.invokestatic index) mk argsL.toArray X₁ hg hsize hdg hW (X₁.named hnamed) (hpre vm₁ X₁.warmed)
  exact ⟨v, vm₁, B, X₁.warmed, X', hpost, fun target h => hstep₁ _ fun acts => by rw [doInvoke_state]; exact hsteps.trans h⟩
theorem vx_runSW {y : MethodName} {bytes cc : ByteArray} {maxL nL mc ms n index : Nat} {ret : Option FieldType} {hh : List (Nat × Nat × Nat × Nat)} {ws : List Cond} {rm : Room} {Pc : Array Value → State → Prop} {Qc : Array Value → State → Outcome → State → Prop} {free : Addr → Prop} {Ts : List Cond} {own : String} {As rest : List Value} {g : JFrame}
    (S : CallFix p m c cc nL s args Ts own) (hM : Met l y ws rm Pc Qc mc ms free) (cw : vx_CSW R s args own index y bytes maxL ret hh ws rm mc ms n) (hp : PreS s H Pc As)
    (hg : g.method = m) (hn : As.length = n) (hsize : g.locals.size = nL) (hstack : g.stack = As.reverse ++ rest) (hW : 2 * g.monitorRoom + (rest.map fun v => v.category).sum ≤ 8) (hdg : decode cc g.pc = .ok (.invokestatic index, 3)) (hf : cells + mc ≤ R.cells ∧ slots + ms ≤ R.slots) :
    va_Run p l e R s m args below meth c H locs cells slots mc ms g rest (Qc As.toArray) (free) := by
  obtain ⟨⟨hrc, hrs, hfr, hlo, hws, hcw⟩, hcode, hini, hy, hlen, hl, hstt⟩ := cw
  have hK : Back l R p e below s args y 3 8 (PreOf R mc ms Pc) (PostOf Qc mc ms free) := va_backW (hh := hh) (bytes := bytes) (maxL := maxL) (ret := ret) hM hp.1 hrc hrs hfr hlo hws hcw (fun a' U hW => word_at hW (Or.inl (by first | rfl | simp [Cond.onTables, Cond.keeps, Cond.steady])) hini)
  obtain ⟨hx, hb, hml, ho, -⟩ := S
  intro T hT X
  obtain ⟨v, vm₁, ⟨U', l2, c2, s2⟩, hW₁, X', ⟨g', mk, t, L, e1, e2, hq, h1, hL, h2, h3⟩, st⟩ := vx_callSW X hx (hh := hh) (bytes := bytes) (maxL := maxL) (ret := ret) ho hl hstt hini hcode hy hK hg (hsize.trans hml.symm) (argsL := As) (rest := rest) (fun sig h => hn.trans (hlen sig h)) hstack hW (by rw [hb]; exact hdg)
    (fun vm₁ hW₁ => ⟨hf.1, hf.2, hp.2 (T.setVm vm₁) hT hW₁⟩)
  dsimp only [Pt.U, Pt.locs, Pt.cells, Pt.slots] at X' e1 e2 h1 h2 h3 st
  subst h1; subst h2; subst h3
  exact ⟨v, (T.setVm vm₁).calling g' mk As.toArray, t, U', L, hT, X', hL, e1, e2, hq, st⟩
/-- not caught here, past rows that name other classes: it goes on to the caller -/
theorem vx_outP {p : Program} {l : Launch} {e : Env} {R : Room} {s : State} {m : MethodId} {args : Array Value} {below : List Frame} {meth : Method} {c : Code} {H : Heap} {locs : List Loc} {cells slots : Nat} {free : Addr → Prop} {ls : Array Slot} {rest : List Value} {Qc : Array Value → State → Outcome → State → Prop} {XC : String → State → State → Prop}
    {pc : Nat} {own E : String} {ce : Cell} {q : Addr} {mc ms : Nat} (hown : s.vm.findClass own = some m.cls) (hlocks : meth.locks = false)
    (hpass : ∀ z ∈ c.exceptionTable.toList, covers z pc = false ∨ (z.catchType ≠ 0 ∧ ∃ nm : String, (Cond.classLink own z.catchType nm).before args s = true ∧ va_Nc E nm s)) (hcell : H[q]? = some ce) (hv : ce.vm = .none) (hcl : s.vm.findClass E = some ce.cls)
    (hx : ∀ t : State, t.heap = H → s.vm.Alike t.vm → XC E s t) (hf : ∀ z ∈ locs, free z.base) (hc : cells ≤ mc) (hs : slots ≤ ms) :
    vx_W p l e R s m args below meth c H locs cells slots (vx_MQ below Qc XC args s mc ms free) (F0 m pc ls rest) q := by
  intro T hT X
  have hpl : e.platform.magicAccessors = ({} : Platform).magicAccessors := by rw [X.admits.platform]
  obtain ⟨vm', hW', X', st⟩ := X.outThrough hlocks q (g := F0 m pc ls rest) rfl rfl rfl (cell := ce) (by rw [hT]; exact hcell) (by rw [hv]; rfl)
    (by obtain ⟨k9, h9, -⟩ := Vm.findClass_spec hcl; exact ⟨k9, h9⟩) (fun z hz => by
      rcases hpass z hz with h | ⟨hz0, nm, hl1, hn1⟩
      · exact Or.inl h
      · obtain ⟨c6, hc6, hcl6⟩ := Cond.classLink_spec hown hl1 e.platform hpl
        obtain ⟨a8, b8, h1, h2, h3⟩ := hn1
        cases Option.some.inj (h1.symm.trans hcl)
        cases Option.some.inj (h2.symm.trans hc6)
        exact Or.inr ⟨hz0, _, hcl6, h3⟩)
  obtain ⟨g₀, hfr⟩ := X'.frames_eq
  have hcell9 : ((T.setVm vm').setFrames (.throwing q :: below)).heap[q]? = some ce := by
    show T.heap[q]? = some ce
    rw [hT]; exact hcell
  have hend : Ended ((T.setVm vm').setFrames (.throwing q :: below)) below (.threw q) := State.frames_setFrames _ (State.cur_lt_of_frames hfr)
  refine ⟨(T.setVm vm').setFrames (.throwing q :: below), ?_, .threw q, X'.here.running, hend, Or.inr ⟨q, rfl, E, ce, locs, hx _ hT (X'.ends _).1.alike, hcell9, hv, hcl, (X'.ends _).1, (X'.ends _).2.mono hc hs, hf⟩⟩
  rw [X.pushThrowing_eq]
  exact st
/-- a thing of a world lies in the heap -/
theorem vx_lt {D : va_G} {cl : List vw_C} {ws : va_W} {H1 : Heap} (h : va_P D cl ws H1) {k : Nat} {q : Nat × va_E} (hk : ws[k]? = some q) : q.1 < H1.size := (h k q hk).lt
end VXS
/-! ===== END ===== -/
/-! ===== BEGIN methods with a table of their own: called by a name, returning or throwing ===== -/
section VXH
/-! vx_backW, vx_callVX, vx_callSX, vx_callVW, vx_runVW, vx_runVX, vx_runSX, vx_ofWH follow the same proofs as their sisters above (Free/Laws.lean, Shelf42/LK1.lean); vx_outP calls Shelf42/NT130.lean (outThrough). -/
section
variable {l : Launch} {R : Room} {p : Program} {e : Env} {below : List Frame} {s : State} {sargs : Array Value} {y : MethodName} {len W9 : Nat}
theorem vx_backW {ws : List Cond} {rm : Room} {Pc : Array Value → State → Prop} {Qc : Array Value → State → Outcome → State → Prop} {XC : String → State → State → Prop} {mc ms : Nat} {free : Addr → Prop} {bytes : ByteArray} {maxL : Nat} {ret : Option FieldType} {hh : List (Nat × Nat × Nat × Nat)}
    (hM : vx_Met l y ws rm Pc Qc XC mc ms free) (hblind : FrameBlind Pc) (hrc : rm.cells = mc) (hrs : rm.slots = ms)
    (hframes : rm.frames + 1 ≤ R.frames) (hlocals : W9 + (maxL + 11) + rm.locals ≤ R.locals)
    (hws : ∀ w ∈ ws, ∀ a' U, s.WarmedH U.vm → w.before a' U = true) (hcode : Cond.codeWith y bytes maxL ret hh ∈ ws) (hinit : ∀ a' U, s.WarmedH U.vm → (Cond.initialized y.cls).before a' U = true) :
    vx_Back l R p e below s sargs y len W9 (PreOf R mc ms Pc) (PostOf Qc mc ms free) (vx_Post XC mc ms free) := by
  intro m meth c A g ig mk a X hg hsize hdg hW hn hp
  have h1 : (headSpec ws rm).pre.before a A.U = true := atoms_intro fun w hw => hws w hw _ _ X.warmed
  have h2 : (Cond.codeWith y bytes maxL ret hh).before a A.U = true := hws _ hcode _ _ X.warmed
  have h3 : (Cond.initialized y.cls).before a A.U = true := hinit _ _ X.warmed
  have h4 : A.cells + (headSpec ws rm).room.cells ≤ R.cells := by rw [show (headSpec ws rm).room.cells = mc from hrc]; exact hp.1
  have h5 : A.slots + (headSpec ws rm).room.slots ≤ R.slots := by rw [show (headSpec ws rm).room.slots = ms from hrs]; exact hp.2.1
  have hPc : Pc a (A.U.calling g mk a) := hblind _ _ _ _ hp.2.2
  obtain ⟨U, Ls, c0, s0⟩ := A
  dsimp only [Pt.U, Pt.locs, Pt.cells, Pt.slots] at h1 h2 h3 h4 h5 X hn hPc ⊢
  obtain ⟨m9, methY, cY, hn9, hmY, hcY, -, hlY, -⟩ := Cond.codeWith_spec h2
  cases Option.some.inj (hn9.symm.trans hn)
  obtain ⟨kY, hkY, -⟩ := className_of_methodNamed hn
  have hinitY : kY.init = .initialized := Cond.initialized_spec (findClass_of_methodNamed hn) hkY h3
  have h : At U g.method c below := by rw [hg]; exact X.here
  have hlocals9 : W9 + (maxL + 11) + (headSpec ws rm).room.locals ≤ R.locals := hlocals
  have happ : (headSpec ws rm).appliesLoose y e.platform (U.calling g mk a) = true :=
    Spec.appliesLoose_calling (g := g) h hdg hn hkY hinitY
      (X.room_calling (g := g) (R' := (headSpec ws rm).room) hsize hmY hcY hframes (by rw [hlY]; omega) h4 h5) h1
  obtain ⟨mid, hmid⟩ := h.above
  have hfr : (U.setTop g).frames = (.java g :: mid) ++ below := by rw [State.frames_setTop' g h.top, hmid]; rfl
  obtain ⟨o, s₂, hsteps, -, hend, hq⟩ := Steps.callFree hM p X.admits X.cas X.clock (acts := []) hfr happ hPc trivial
  have hq' : vx_Q Qc XC mc ms free a (U.calling g mk a) o s₂ := hq
  rw [State.frames_setTop' g h.top] at hend
  obtain ⟨g₀, hg0⟩ := Option.isSome_iff_exists.mp h.top
  obtain ⟨r, hr⟩ := State.topJava?_eq_some.mp hg0
  have hr' : (({ U with heap := s₂.heap, slotsUsed := s₂.slotsUsed } : State).setVm s₂.vm).frames = .java g₀ :: r := hr
  rcases hq' with ⟨hqc, L, hfe, hL⟩ | ⟨q, rfl, E, ce, L, hx, hce, hcv, hcl, hW₂, hsm, hL⟩
  · obtain ⟨⟨v, rfl⟩, hW₂, e2, q2, q3, q4, q5, q6⟩ := id hfe
    have e3 : s₂ = ({ (U.calling g mk a).setFrames s₂.frames with heap := s₂.heap, slotsUsed := s₂.slotsUsed } : State).setVm s₂.vm := by
      have : s₂ = ({ s₂ with vm := (U.calling g mk a).vm } : State).setVm s₂.vm := rfl
      rw [e2] at this
      exact this
    obtain ⟨c₂, i₂, len₂, hc₂, hd₂, hf₂⟩ := hend
    have hW' : U.WarmedH s₂.vm := hW₂
    have hcc : c₂ = c := by
      have h1 : s₂.code? g.method = U.code? g.method := by
        rw [State.code?_eq, State.code?_eq, hW'.alike.method?]
      exact Option.some.inj (hc₂.symm.trans (h1.trans h.code))
    subst hcc
    have hlen : len₂ = len := by rw [hdg] at hd₂; cases hd₂; rfl
    subst hlen
    have hs₂ : s₂ = (({ U with heap := s₂.heap, slotsUsed := s₂.slotsUsed } : State).setVm s₂.vm).setTop { g with pc := g.pc + len₂, stack := v.toList ++ g.stack } := by
      refine e3.trans ?_
      rw [hf₂, State.calling_eq h.top, State.setFrames_setFrames, State.setTop_of_frames _ hr', hr]
      rfl
    have hsame : U.sameButNew ({ U with heap := s₂.heap, slotsUsed := s₂.slotsUsed } : State) L mc ms := by
      refine ⟨?_, q2, q3, q4, q5, q6⟩
      obtain ⟨t, ht, -⟩ := State.frames_cons hr
      show ({ U with heap := s₂.heap, slotsUsed := s₂.slotsUsed } : State) = { U.setFrames U.frames with heap := s₂.heap, slotsUsed := s₂.slotsUsed }
      rw [State.setFrames_self ht]
    subst hg
    refine Or.inl ⟨v, ⟨(({ U with heap := s₂.heap, slotsUsed := s₂.slotsUsed } : State).setVm s₂.vm), Ls ++ L, c0 + mc, s0 + ms⟩,
      ⟨X.admits, X.cas, X.clock, X.frames, X.room, X.hears, X.method, X.code, (X.here.setHeapUsed s₂.heap s₂.slotsUsed).setVm hW'.alike, X.tail, State.WarmedH.trans X.warmed hW', X.limits, X.bytes, X.same.trans (hsame.setVm s.vm)⟩,
      ⟨g, mk, s₂, L, rfl, rfl, hqc, rfl, hL, rfl, rfl⟩, ?_⟩
    show Steps p.tables e below _ ((({ U with heap := s₂.heap, slotsUsed := s₂.slotsUsed } : State).setVm s₂.vm).setTop { g with pc := g.pc + len₂, stack := v.toList ++ g.stack })
    rw [← hs₂]
    exact hsteps
  · obtain ⟨e2, q2, q3, q4, q5, q6⟩ := id hsm
    have e3 : s₂ = ({ (U.calling g mk a).setFrames s₂.frames with heap := s₂.heap, slotsUsed := s₂.slotsUsed } : State).setVm s₂.vm := by
      have : s₂ = ({ s₂ with vm := (U.calling g mk a).vm } : State).setVm s₂.vm := rfl
      rw [e2] at this
      exact this
    have hf₂ : s₂.frames = .throwing q :: .java g :: U.frames.tail := hend
    have hW' : U.WarmedH s₂.vm := hW₂
    have hs₂ : s₂ = ((({ U with heap := s₂.heap, slotsUsed := s₂.slotsUsed } : State).setVm s₂.vm).setTop g).pushFrame (.throwing q) := by
      refine e3.trans ?_
      rw [hf₂, State.calling_eq h.top, State.setFrames_setFrames, State.pushFrame, State.frames_setTop _ hr', State.setTop_of_frames _ hr', State.setFrames_setFrames, hr]
      rfl
    have hsame : U.sameButNew ({ U with heap := s₂.heap, slotsUsed := s₂.slotsUsed } : State) L mc ms := by
      refine ⟨?_, q2, q3, q4, q5, q6⟩
      obtain ⟨t, ht, -⟩ := State.frames_cons hr
      show ({ U with heap := s₂.heap, slotsUsed := s₂.slotsUsed } : State) = { U.setFrames U.frames with heap := s₂.heap, slotsUsed := s₂.slotsUsed }
      rw [State.setFrames_self ht]
    subst hg
    refine Or.inr ⟨q, ⟨(({ U with heap := s₂.heap, slotsUsed := s₂.slotsUsed } : State).setVm s₂.vm), Ls ++ L, c0 + mc, s0 + ms⟩,
      ⟨X.admits, X.cas, X.clock, X.frames, X.room, X.hears, X.method, X.code, (X.here.setHeapUsed s₂.heap s₂.slotsUsed).setVm hW'.alike, X.tail, State.WarmedH.trans X.warmed hW', X.limits, X.bytes, X.same.trans (hsame.setVm s.vm)⟩,
      ⟨g, mk, s₂, L, E, ce, rfl, rfl, hx, hce, hcv, hcl, rfl, hL, rfl, rfl⟩, ?_⟩
    show Steps p.tables e below _ (((({ U with heap := s₂.heap, slotsUsed := s₂.slotsUsed } : State).setVm s₂.vm).setTop g).pushFrame (.throwing q))
    rw [← hs₂]
    exact hsteps
end
variable {p : Program} {l : Launch} {e : Env} {R : Room} {s : State} {m : MethodId} {args : Array Value} {below : List Frame} {meth : Method} {c : Code} {T : State} {H : Heap} {locs : List Loc} {cells slots : Nat}
theorem vx_callVX (X : Stand p l e R s m args below meth c T locs cells slots) (hexec : p.tables.exec = Jvm.exec) {own C : String} {index : Nat} {y : MethodName} {bytes : ByteArray} {maxL : Nat} {ret : Option FieldType} {hh : List (Nat × Nat × Nat × Nat)}
    (hown : s.vm.findClass own = some m.cls) (hlink : (Cond.methodLink own index y).before args s = true) (hinst : (Cond.instanceMethod y).before args s = true) (hsel : (Cond.selects C y y).before args s = true)
    (hcode : (Cond.codeWith y bytes maxL ret hh).before args s = true) (hy : y.cls ≠ "java/lang/invoke/MethodHandle" ∧ y.cls ≠ "java/lang/invoke/VarHandle")
    {W9 : Nat} {Pre : Pt → Array Value → Prop} {Post : Pt → Array Value → Option Value → Pt → Prop} {PostX : Pt → Array Value → Addr → Pt → Prop} (hK : vx_Back l R p e below s args y 3 W9 Pre Post PostX)
    {b : Addr} {cellB : Cell} (hcell : T.heap[b]? = some cellB) (hobj : cellB.vm.isStatics = false) (hcls : s.vm.findClass C = some cellB.cls)
    {g : JFrame} (hg : g.method = m) (hsize : g.locals.size = c.maxLocals) {argsL rest : List Value} (hlen : ∀ sig, parseMethodDescriptor y.desc = some sig → argsL.length = sig.parameters.length)
    (hstack : g.stack = argsL.reverse ++ .ref b :: rest) (hW : 2 * g.monitorRoom + (rest.map fun v => v.category).sum ≤ W9) (hdg : decode c.code g.pc = .ok (.invokevirtual index, 3))
    (hpre : ∀ vm₁, s.WarmedH vm₁ → Pre ⟨T.setVm vm₁, locs, cells, slots⟩ (Value.ref b :: argsL).toArray) :
    (∃ (v : Option Value) (vm₁ : Vm) (B : Pt), s.WarmedH vm₁ ∧ Stand p l e R s m args below meth c B.U B.locs B.cells B.slots ∧ Post ⟨T.setVm vm₁, locs, cells, slots⟩ (Value.ref b :: argsL).toArray v B ∧
      ∀ target, Steps p.tables e below (B.U.setTop { g with pc := g.pc + 3, stack := v.toList ++ rest }) target → Steps p.tables e below (T.setTop g) target) ∨
    (∃ (q : Addr) (vm₁ : Vm) (B : Pt), s.WarmedH vm₁ ∧ Stand p l e R s m args below meth c B.U B.locs B.cells B.slots ∧ PostX ⟨T.setVm vm₁, locs, cells, slots⟩ (Value.ref b :: argsL).toArray q B ∧
      Steps p.tables e below (T.setTop g) ((B.U.setTop { g with stack := rest }).pushFrame (.throwing q))) := by
  obtain ⟨mk, methM, hnamed, hmethM, hstM, habM⟩ := Cond.instanceMethod_spec hinst
  obtain ⟨m8, methM', cM, hn8, hmethM', -, -, -, -, -, -, hsigM⟩ := Cond.codeWith_spec hcode
  cases Option.some.inj (hn8.symm.trans hnamed)
  cases hmethM.symm.trans hmethM'
  obtain ⟨c2, r2, m2, q1, q2, q3, q4, kP, hkP, hkPi⟩ := Cond.selects_spec hsel
  cases hcls.symm.trans q1
  cases (State.methodFound?_of_named hnamed hy).symm.trans q2
  cases hnamed.symm.trans q3
  have hselP : selectMethod e.platform s.vm cellB.cls mk = .method mk := by rw [Launch.admits_selectMethod X.admits]; exact q4
  obtain ⟨vm₁, X₁, hstep₁⟩ := X.invokevirtual hexec hown hlink hnamed hmethM hstM hkP hkPi hy (a := b) (cell := cellB) hcell
    (fun z h => by rw [h] at hobj; cases hobj) hselP hmethM habM hkP hkPi (g := g) hg (argsL := argsL) (rest := rest) (hlen _ hsigM) hstack hdg
  rcases hK m meth c ⟨T.setVm vm₁, locs, cells, slots⟩ { g with stack := rest } (.invokevirtual index) mk (Value.ref b :: argsL).toArray X₁ hg hsize hdg hW (X₁.named hnamed) (hpre vm₁ X₁.warmed) with ⟨v, B, X', hpost, hsteps⟩ | ⟨q, B, X', hpost, hsteps⟩
  · exact Or.inl ⟨v, vm₁, B, X₁.warmed, X', hpost, fun target h => hstep₁ _ fun acts => by rw [doInvoke_state]; exact hsteps.trans h⟩
  · exact Or.inr ⟨q, vm₁, B, X₁.warmed, X', hpost, hstep₁ _ fun acts => by rw [doInvoke_state]; exact hsteps⟩
theorem vx_callSX (X : Stand p l e R s m args below meth c T locs cells slots) (hexec : p.tables.exec = Jvm.exec) {own : String} {index : Nat} {y : MethodName} {bytes : ByteArray} {maxL : Nat} {ret : Option FieldType} {hh : List (Nat × Nat × Nat × Nat)}
    (hown : s.vm.findClass own = some m.cls) (hlink : (Cond.methodLink own index y).before args s = true) (hstat : (Cond.static y).before args s = true) (hinit : (Cond.initialized y.cls).before args s = true)
    (hcode : (Cond.codeWith y bytes maxL ret hh).before args s = true) (hy : y.cls ≠ "java/lang/invoke/MethodHandle" ∧ y.cls ≠ "java/lang/invoke/VarHandle")
    {W9 : Nat} {Pre : Pt → Array Value → Prop} {Post : Pt → Array Value → Option Value → Pt → Prop} {PostX : Pt → Array Value → Addr → Pt → Prop} (hK : vx_Back l R p e below s args y 3 W9 Pre Post PostX)
    {g : JFrame} (hg : g.method = m) (hsize : g.locals.size = c.maxLocals) {argsL rest : List Value} (hlen : ∀ sig, parseMethodDescriptor y.desc = some sig → argsL.length = sig.parameters.length)
    (hstack : g.stack = argsL.reverse ++ rest) (hW : 2 * g.monitorRoom + (rest.map fun v => v.category).sum ≤ W9) (hdg : decode c.code g.pc = .ok (.invokestatic index, 3))
    (hpre : ∀ vm₁, s.WarmedH vm₁ → Pre ⟨T.setVm vm₁, locs, cells, slots⟩ argsL.toArray) :
    (∃ (v : Option Value) (vm₁ : Vm) (B : Pt), s.WarmedH vm₁ ∧ Stand p l e R s m args below meth c B.U B.locs B.cells B.slots ∧ Post ⟨T.setVm vm₁, locs, cells, slots⟩ argsL.toArray v B ∧
      ∀ target, Steps p.tables e below (B.U.setTop { g with pc := g.pc + 3, stack := v.toList ++ rest }) target → Steps p.tables e below (T.setTop g) target) ∨
    (∃ (q : Addr) (vm₁ : Vm) (B : Pt), s.WarmedH vm₁ ∧ Stand p l e R s m args below meth c B.U B.locs B.cells B.slots ∧ PostX ⟨T.setVm vm₁, locs, cells, slots⟩ argsL.toArray q B ∧
      Steps p.tables e below (T.setTop g) ((B.U.setTop { g with stack := rest }).pushFrame (.throwing q))) := by
  obtain ⟨mk, methM, cM, hnamed, hmethM, -, -, -, -, -, -, hsigM⟩ := Cond.codeWith_spec hcode
  have hstatic : methM.isStatic = true := Cond.static_spec hnamed hmethM hstat
  obtain ⟨kP, hkP, -⟩ := className_of_methodNamed hnamed
  have hinitP : kP.init = .initialized := Cond.initialized_spec (findClass_of_methodNamed hnamed) hkP hinit
  obtain ⟨vm₁, X₁, hstep₁⟩ := X.invokestatic hexec hown hlink hnamed hmethM hstatic hkP hinitP hy (g := g) hg (argsL := argsL) (rest := rest) (hlen _ hsigM) hstack hdg
  rcases hK m meth c ⟨T.setVm vm₁, locs, cells, slots⟩ { g with stack := rest } (.invokestatic index) mk argsL.toArray X₁ hg hsize hdg hW (X₁.named hnamed) (hpre vm₁ X₁.warmed) with ⟨v, B, X', hpost, hsteps⟩ | ⟨q, B, X', hpost, hsteps⟩
  · exact Or.inl ⟨v, vm₁, B, X₁.warmed, X', hpost, fun target h => hstep₁ _ fun acts => by rw [doInvoke_state]; exact hsteps.trans h⟩
  · exact Or.inr ⟨q, vm₁, B, X₁.warmed, X', hpost, hstep₁ _ fun acts => by rw [doInvoke_state]; exact hsteps⟩
theorem vx_callVW (X : Stand p l e R s m args below meth c T locs cells slots) (hexec : p.tables.exec = Jvm.exec) {own C : String} {index : Nat} {y : MethodName} {bytes : ByteArray} {maxL : Nat} {ret : Option FieldType} {hh : List (Nat × Nat × Nat × Nat)}
    (hown : s.vm.findClass own = some m.cls) (hlink : (Cond.methodLink own index y).before args s = true) (hinst : (Cond.instanceMethod y).before args s = true) (hsel : (Cond.selects C y y).before args s = true)
    (hcode : (Cond.codeWith y bytes maxL ret hh).before args s = true) (hy : y.cls ≠ "java/lang/invoke/MethodHandle" ∧ y.cls ≠ "java/lang/invoke/VarHandle")
    {W9 : Nat} {Pre : Pt → Array Value → Prop} {Post : Pt → Array Value → Option Value → Pt → Prop} (hK : Back l R p e below s args y 3 W9 Pre Post)
    {b : Addr} {cellB : Cell} (hcell : T.heap[b]? = some cellB) (hobj : cellB.vm.isStatics = false) (hcls : s.vm.findClass C = some cellB.cls)
    {g : JFrame} (hg : g.method = m) (hsize : g.locals.size = c.maxLocals) {argsL rest : List Value} (hlen : ∀ sig, parseMethodDescriptor y.desc = some sig → argsL.length = sig.parameters.length)
    (hstack : g.stack = argsL.reverse ++ .ref b :: rest) (hW : 2 * g.monitorRoom + (rest.map fun v => v.category).sum ≤ W9) (hdg : decode c.code g.pc = .ok (.invokevirtual index, 3))
    (hpre : ∀ vm₁, s.WarmedH vm₁ → Pre ⟨T.setVm vm₁, locs, cells, slots⟩ (Value.ref b :: argsL).toArray) :
    ∃ (v : Option Value) (vm₁ : Vm) (B : Pt), s.WarmedH vm₁ ∧ Stand p l e R s m args below meth c B.U B.locs B.cells B.slots ∧ Post ⟨T.setVm vm₁, locs, cells, slots⟩ (Value.ref b :: argsL).toArray v B ∧
      ∀ target, Steps p.tables e below (B.U.setTop { g with pc := g.pc + 3, stack := v.toList ++ rest }) target → Steps p.tables e below (T.setTop g) target := by
  obtain ⟨mk, methM, hnamed, hmethM, hstM, habM⟩ := Cond.instanceMethod_spec hinst
  obtain ⟨m8, methM', cM, hn8, hmethM', -, -, -, -, -, -, hsigM⟩ := Cond.codeWith_spec hcode
  cases Option.some.inj (hn8.symm.trans hnamed)
  cases hmethM.symm.trans hmethM'
  obtain ⟨c2, r2, m2, q1, q2, q3, q4, kP, hkP, hkPi⟩ := Cond.selects_spec hsel
  cases hcls.symm.trans q1
  cases (State.methodFound?_of_named hnamed hy).symm.trans q2
  cases hnamed.symm.trans q3
  have hselP : selectMethod e.platform s.vm cellB.cls mk = .method mk := by rw [Launch.admits_selectMethod X.admits]; exact q4
  obtain ⟨vm₁, X₁, hstep₁⟩ := X.invokevirtual hexec hown hlink hnamed hmethM hstM hkP hkPi hy (a := b) (cell := cellB) hcell
    (fun z h => by rw [h] at hobj; cases hobj) hselP hmethM habM hkP hkPi (g := g) hg (argsL := argsL) (rest := rest) (hlen _ hsigM) hstack hdg
  obtain ⟨v, B, X', hpost, hsteps⟩ := hK m meth c ⟨T.setVm vm₁, locs, cells, slots⟩ { g with stack := rest } (.invokevirtual index) mk (Value.ref b :: argsL).toArray X₁ hg hsize hdg hW (X₁.named hnamed) (hpre vm₁ X₁.warmed)
  exact ⟨v, vm₁, B, X₁.warmed, X', hpost, fun target h => hstep₁ _ fun acts => by rw [doInvoke_state]; exact hsteps.trans h⟩
abbrev vx_CVW (R : Room) (s : State) (args : Array Value) (own C : String) (index : Nat) (y : MethodName) (bytes : ByteArray) (maxL : Nat) (ret : Option FieldType) (hh : List (Nat × Nat × Nat × Nat)) (ws : List Cond) (rm : Room) (mc ms n : Nat) : Prop :=
  (rm.cells = mc ∧ rm.slots = ms ∧ rm.frames + 1 ≤ R.frames ∧ 8 + (maxL + 11) + rm.locals ≤ R.locals ∧ (∀ w ∈ ws, ∀ (a' : Array Value) (U : State), s.WarmedH U.vm → w.before a' U = true) ∧ Cond.codeWith y bytes maxL ret hh ∈ ws) ∧
  (Cond.codeWith y bytes maxL ret hh).before args s = true ∧ (Cond.initialized y.cls).before args s = true ∧ (y.cls ≠ "java/lang/invoke/MethodHandle" ∧ y.cls ≠ "java/lang/invoke/VarHandle") ∧
  (∀ sig, parseMethodDescriptor y.desc = some sig → n = sig.parameters.length) ∧ (Cond.methodLink own index y).before args s = true ∧ (Cond.instanceMethod y).before args s = true ∧ (Cond.selects C y y).before args s = true
theorem vx_cwVW {own C : String} {index maxL mc ms : Nat} {y : MethodName} {bytes : ByteArray} {ret : Option FieldType} {hh : List (Nat × Nat × Nat × Nat)} {Ts ws ws' : List Cond} {rm : Room} (n : Nat) (ht : ∀ w ∈ Ts, w.before args s = true) (hT : GoodIn Ts (wsV own index C y ws)) (hw : ws = Cond.codeWith y bytes maxL ret hh :: ws') (hrc : rm.cells = mc) (hrs : rm.slots = ms)
    (hd : y.cls = C ∧ y.cls ≠ "java/lang/invoke/MethodHandle" ∧ y.cls ≠ "java/lang/invoke/VarHandle" ∧ (parseMethodDescriptor y.desc).map (fun d => d.parameters.length) = some n) (hR : rm.frames + 1 ≤ R.frames ∧ 8 + (maxL + 11) + rm.locals ≤ R.locals) :
    vx_CVW R s args own C index y bytes maxL ret hh ws rm mc ms n := by
  obtain ⟨hC, hd⟩ := hd
  subst hC
  have ok : ∀ w ∈ wsV own index y.cls y ws, w.before args s = true := fun w h => ht w (hT w h).1
  have hG : GoodIn Ts ws := fun w h => hT w (by unfold wsV; exact List.mem_append_right _ h)
  have hc : Cond.codeWith y bytes maxL ret hh ∈ ws := by rw [hw]; exact List.mem_cons_self
  refine ⟨⟨hrc, hrs, hR.1, hR.2, pay_in ht hG, hc⟩, ht _ (hG _ hc).1, ok _ (by simp [wsV]), ⟨hd.1, hd.2.1⟩, fun sig h => ?_, ok _ (by simp [wsV]), ok _ (by simp [wsV]), ok _ (by simp [wsV])⟩
  have h2 := hd.2.2
  rw [h] at h2
  exact (Option.some.inj h2).symm
theorem vx_runVW {y : MethodName} {bytes cc : ByteArray} {maxL nL mc ms n index : Nat} {ret : Option FieldType} {hh : List (Nat × Nat × Nat × Nat)} {ws : List Cond} {rm : Room} {Pc : Array Value → State → Prop} {Qc : Array Value → State → Outcome → State → Prop} {free : Addr → Prop} {Ts : List Cond} {own C : String} {b : Addr} {As rest : List Value} {g : JFrame}
    (S : CallFix p m c cc nL s args Ts own) (hM : Met l y ws rm Pc Qc mc ms free) (cw : vx_CVW R s args own C index y bytes maxL ret hh ws rm mc ms n) (hp : PreV s H C b Pc As)
    (hg : g.method = m) (hn : As.length = n) (hsize : g.locals.size = nL) (hstack : g.stack = As.reverse ++ .ref b :: rest) (hW : 2 * g.monitorRoom + (rest.map fun v => v.category).sum ≤ 8) (hdg : decode cc g.pc = .ok (.invokevirtual index, 3)) (hf : cells + mc ≤ R.cells ∧ slots + ms ≤ R.slots) :
    va_Run p l e R s m args below meth c H locs cells slots mc ms g rest (Qc (Value.ref b :: As).toArray) free := by
  obtain ⟨⟨hrc, hrs, hfr, hlo, hws, hcw⟩, hcode, hini, hy, hlen, hl, hin, hse⟩ := cw
  have hK : Back l R p e below s args y 3 8 (PreOf R mc ms Pc) (PostOf Qc mc ms free) := va_backW (hh := hh) (bytes := bytes) (maxL := maxL) (ret := ret) hM hp.1 hrc hrs hfr hlo hws hcw (fun a' U hW => word_at hW (Or.inl (by first | rfl | simp [Cond.onTables, Cond.keeps, Cond.steady])) hini)
  obtain ⟨hx, hb, hml, ho, -⟩ := S
  obtain ⟨-, ⟨cellB, hcB, hoB, hclB⟩, hPc⟩ := hp
  intro T hT X
  obtain ⟨v, vm₁, ⟨U', l2, c2, s2⟩, hW₁, X', ⟨g', mk, t, L, e1, e2, hq, h1, hL, h2, h3⟩, st⟩ := vx_callVW X hx (C := C) (hh := hh) (bytes := bytes) (maxL := maxL) (ret := ret) ho hl hin hse hcode hy hK (by rw [hT]; exact hcB) hoB hclB hg (hsize.trans hml.symm) (argsL := As) (rest := rest) (fun sig h => hn.trans (hlen sig h)) hstack hW (by rw [hb]; exact hdg)
    (fun vm₁ hW₁ => ⟨hf.1, hf.2, hPc (T.setVm vm₁) hT hW₁⟩)
  dsimp only [Pt.U, Pt.locs, Pt.cells, Pt.slots] at X' e1 e2 h1 h2 h3 st
  subst h1; subst h2; subst h3
  exact ⟨v, (T.setVm vm₁).calling g' mk (Value.ref b :: As).toArray, t, U', L, hT, X', hL, e1, e2, hq, st⟩
section
variable {y : MethodName} {bytes cc : ByteArray} {maxL nL mc ms n index : Nat} {ret : Option FieldType} {ws : List Cond} {rm : Room} {Pc : Array Value → State → Prop} {Qc : Array Value → State → Outcome → State → Prop} {XC : String → State → State → Prop} {free : Addr → Prop} {Ts : List Cond} {own C : String} {b : Addr} {As rest : List Value} {g : JFrame}
theorem vx_runVX {hh : List (Nat × Nat × Nat × Nat)} (S : CallFix p m c cc nL s args Ts own) (hM : vx_Met l y ws rm Pc Qc XC mc ms free) (cw : vx_CVW R s args own C index y bytes maxL ret hh ws rm mc ms n) (hp : PreV s H C b Pc As)
    (hg : g.method = m) (hn : As.length = n) (hsize : g.locals.size = nL) (hstack : g.stack = As.reverse ++ .ref b :: rest) (hW : 2 * g.monitorRoom + (rest.map fun v => v.category).sum ≤ 8) (hdg : decode cc g.pc = .ok (.invokevirtual index, 3)) (hf : cells + mc ≤ R.cells ∧ slots + ms ≤ R.slots) :
    vx_Run p l e R s m args below meth c H locs cells slots mc ms g rest (Qc (Value.ref b :: As).toArray) XC free := by
  obtain ⟨⟨hrc, hrs, hfr, hlo, hws, hcw⟩, hcode, hini, hy, hlen, hl, hin, hse⟩ := cw
  have hK : vx_Back l R p e below s args y 3 8 (PreOf R mc ms Pc) (PostOf Qc mc ms free) (vx_Post XC mc ms free) := vx_backW (hh := hh) (bytes := bytes) (maxL := maxL) (ret := ret) hM hp.1 hrc hrs hfr hlo hws hcw (fun a' U hW => word_at hW (Or.inl (by first | rfl | simp [Cond.onTables, Cond.keeps, Cond.steady])) hini)
  obtain ⟨hx, hb, hml, ho, -⟩ := S
  obtain ⟨-, ⟨cellB, hcB, hoB, hclB⟩, hPc⟩ := hp
  intro T hT X
  rcases vx_callVX X hx (C := C) (hh := hh) (bytes := bytes) (maxL := maxL) (ret := ret) ho hl hin hse hcode hy hK (by rw [hT]; exact hcB) hoB hclB hg (hsize.trans hml.symm) (argsL := As) (rest := rest) (fun sig h => hn.trans (hlen sig h)) hstack hW (by rw [hb]; exact hdg)
    (fun vm₁ hW₁ => ⟨hf.1, hf.2, hPc (T.setVm vm₁) hT hW₁⟩) with ⟨v, vm₁, ⟨U', l2, c2, s2⟩, hW₁, X', ⟨g', mk, t, L, e1, e2, hq, h1, hL, h2, h3⟩, st⟩ | ⟨q, vm₁, ⟨U', l2, c2, s2⟩, hW₁, X', ⟨g', mk, t, L, E, ce, e1, e2, hq, hce, hcv, hcl, h1, hL, h2, h3⟩, st⟩
  · dsimp only [Pt.U, Pt.locs, Pt.cells, Pt.slots] at X' e1 e2 h1 h2 h3 st
    subst h1; subst h2; subst h3
    exact Or.inl ⟨v, (T.setVm vm₁).calling g' mk (Value.ref b :: As).toArray, t, U', L, hT, X', hL, e1, e2, hq, st⟩
  · dsimp only [Pt.U, Pt.locs, Pt.cells, Pt.slots] at X' e1 e2 h1 h2 h3 st hcl
    subst h1; subst h2; subst h3
    exact Or.inr ⟨q, (T.setVm vm₁).calling g' mk (Value.ref b :: As).toArray, t, U', L, E, ce, hT, X', hL, e1, e2, hq, hce, hcv, vx_cls hW₁ hcl, st⟩
theorem vx_runSX {hh : List (Nat × Nat × Nat × Nat)} (S : CallFix p m c cc nL s args Ts own) (hM : vx_Met l y ws rm Pc Qc XC mc ms free) (cw : vx_CSW R s args own index y bytes maxL ret hh ws rm mc ms n) (hp : PreS s H Pc As)
    (hg : g.method = m) (hn : As.length = n) (hsize : g.locals.size = nL) (hstack : g.stack = As.reverse ++ rest) (hW : 2 * g.monitorRoom + (rest.map fun v => v.category).sum ≤ 8) (hdg : decode cc g.pc = .ok (.invokestatic index, 3)) (hf : cells + mc ≤ R.cells ∧ slots + ms ≤ R.slots) :
    vx_Run p l e R s m args below meth c H locs cells slots mc ms g rest (Qc As.toArray) XC free := by
  obtain ⟨⟨hrc, hrs, hfr, hlo, hws, hcw⟩, hcode, hini, hy, hlen, hl, hstt⟩ := cw
  have hK : vx_Back l R p e below s args y 3 8 (PreOf R mc ms Pc) (PostOf Qc mc ms free) (vx_Post XC mc ms free) := vx_backW (hh := hh) (bytes := bytes) (maxL := maxL) (ret := ret) hM hp.1 hrc hrs hfr hlo hws hcw (fun a' U hW => word_at hW (Or.inl (by first | rfl | simp [Cond.onTables, Cond.keeps, Cond.steady])) hini)
  obtain ⟨hx, hb, hml, ho, -⟩ := S
  intro T hT X
  rcases vx_callSX X hx (hh := hh) (bytes := bytes) (maxL := maxL) (ret := ret) ho hl hstt hini hcode hy hK hg (hsize.trans hml.symm) (argsL := As) (rest := rest) (fun sig h => hn.trans (hlen sig h)) hstack hW (by rw [hb]; exact hdg)
    (fun vm₁ hW₁ => ⟨hf.1, hf.2, hp.2 (T.setVm vm₁) hT hW₁⟩) with ⟨v, vm₁, ⟨U', l2, c2, s2⟩, hW₁, X', ⟨g', mk, t, L, e1, e2, hq, h1, hL, h2, h3⟩, st⟩ | ⟨q, vm₁, ⟨U', l2, c2, s2⟩, hW₁, X', ⟨g', mk, t, L, E, ce, e1, e2, hq, hce, hcv, hcl, h1, hL, h2, h3⟩, st⟩
  · dsimp only [Pt.U, Pt.locs, Pt.cells, Pt.slots] at X' e1 e2 h1 h2 h3 st
    subst h1; subst h2; subst h3
    exact Or.inl ⟨v, (T.setVm vm₁).calling g' mk As.toArray, t, U', L, hT, X', hL, e1, e2, hq, st⟩
  · dsimp only [Pt.U, Pt.locs, Pt.cells, Pt.slots] at X' e1 e2 h1 h2 h3 st hcl
    subst h1; subst h2; subst h3
    exact Or.inr ⟨q, (T.setVm vm₁).calling g' mk As.toArray, t, U', L, E, ce, hT, X', hL, e1, e2, hq, hce, hcv, vx_cls hW₁ hcl, st⟩
end
end VXH
theorem vx_ofWH {l : Launch} {y : MethodName} {ws ws' : List Cond} {rm : Room} {Pc : Array Value → State → Prop} {Qc : Array Value → State → Outcome → State → Prop} {XC : String → State → State → Prop} {mc ms : Nat} {free : Addr → Prop} {cc : ByteArray} {maxL : Nat} {ret : Option FieldType} {hh : List (Nat × Nat × Nat × Nat)}
    (hy : plainName y.cls = true) (hw : ws = Cond.codeWith y cc maxL ret hh :: ws')
    (body : ∀ p e s m args below meth c s₁, BodyLoose p l y (headSpec ws rm) cc maxL ret e s m args below meth c s₁ → c.maxLocals = maxL → Pc args s →
      W p l e (headSpec ws rm).room s m args below meth c s.heap [] 0 0 (vx_MQ below Qc XC args s mc ms free) (entryFrame m args maxL)) : vx_Met l y ws rm Pc Qc XC mc ms free := by
  refine MetFree.of_bodyS (code := cc) (maxLocals := maxL) (ret := ret) hy ?_ ?_
  · intro args s m h hn
    obtain ⟨m9, meth, c, hn9, h1, h2, h3, h4, -, h5, h6, -⟩ := Cond.codeWith_spec (atoms_spec (ws := ws) h _ (by rw [hw]; exact List.mem_cons_self))
    cases hn.symm.trans hn9
    exact ⟨meth, c, h1, h2, h3, h4, h5, h6⟩
  · intro p e s m args below meth c s₁ B hml hP _
    have hh0 : s₁.heap = s.heap := by rw [B.state]; rfl
    obtain ⟨t, a1, o, b1, b2, b3⟩ := body p e s m args below meth c s₁ B hml hP s₁ hh0 (Stand.of_body B)
    exact ⟨t, o, a1, b1, b2, b3⟩
/-! ===== END ===== -/
/-! ===== BEGIN what the machine throws by itself, no traces kept ===== -/
section VXM
set_option maxHeartbeats 1000000 in
/-- the machine throws cls with the message text, no traces kept: from its note over the frame g to 'throwing' over the same frame (follows the proofs of Stand.vmThrowsMessage, Shelf/KitTracedVmS.lean, and Stand.throwsMessageColdBareV, StandMessageColdV.lean, without the step out of the frame) -/
theorem vx_vmAt {p : Program} {l : Launch} {e : Env} {R : Room} {s : State} {m₀ : MethodId} {args : Array Value} {below : List Frame} {meth : Method} {c : Code} {W : State} {locs : List Loc} {cells slots : Nat}
    (X : Stand p l e R s m₀ args below meth c W locs cells slots) (hexec : p.tables.exec = Jvm.exec) (htr : e.platform.stackTraces = false) {cls : String} {names : List String} {text : String}
    (hcls : Bundle.fit cls = true) (hnames : ∀ n ∈ names, Bundle.fit n = true) (hsoe : (cls == "java/lang/StackOverflowError") = false) (hoom : (cls == "java/lang/OutOfMemoryError") = false)
    (h : ∀ a ∈ Bundle.messageArmAtoms cls names, a.before args s = true)
    (hlocs : ∀ x ∈ locs, ∀ cell, s.heap[x.base]? = some cell → cell.vm.isStatics = false)
    (htext : (text == notModelled) = false) (hlimit : ¬ (stringBytes (stringToUtf16 text)).size > e.platform.arrayLengthLimit) (hheap : ¬ (stringBytes (stringToUtf16 text)).size * componentBytes .byte > e.platform.maxHeapBytes)
    {g : JFrame} (hg : g.method = m₀) (hsize : g.locals.size = c.maxLocals)
    (hRframes : names.length + 4 < R.frames) (hRlocals : 2 * g.monitorRoom + (g.stack.map fun v => v.category).sum + 10240 ≤ R.locals) (hshort : 13 * names.length + 55 ≤ 10240)
    (hRcells : cells + 3 ≤ R.cells) (hRslots : slots + ((stringBytes (stringToUtf16 text)).size + 4 + 6) ≤ R.slots) (hlocks : meth.locks = false) :
    ∃ (S : State) (q : Addr) (ce : Cell), (∀ target, Steps p.tables e below ((S.setTop g).pushFrame (.throwing q)) target → Steps p.tables e below ((W.setTop g).pushFrame (.throwNew cls (some text) none)) target) ∧
      Stand p l e R s m₀ args below meth c S locs (cells + 3) (slots + ((stringBytes (stringToUtf16 text)).size + 4 + 6)) ∧ S.heap[q]? = some ce ∧ s.vm.findClass cls = some ce.cls ∧ ce.vm = .none := by
  have howns : e.platform.frameOwnsMonitors = true := by rw [X.admits.platform]
  have hfin : e.platform.finalization = false := by rw [X.admits.platform]
  have hpl : e.platform.magicAccessors = ({} : Platform).magicAccessors := by rw [X.admits.platform]
  have a : ∀ x, x ∈ Bundle.messageArmAtoms cls names → x.holds args s none s [] = true := fun x hx => h x hx
  obtain ⟨T, Z0, L, -, Y⟩ := ThrowableC.of_atoms (args := args) howns hfin hpl (fun x hx => h x (by simp [Bundle.messageArmAtoms, hx]))
  obtain ⟨Z, M, LZ, LM, hnZ⟩ := Init0T.ofS_atoms (args := args) hpl L Y (fun x hx => h x (by simp [Bundle.messageArmAtoms, hx]))
  obtain ⟨P1, Ps, hlen, L1, hL, hP1m, hlink1, hlink⟩ := Bundle.chainS (args := args) hpl hnZ names cls hcls hnames (fun x hx => h x (by simp [Bundle.messageArmAtoms, hx]))
  obtain ⟨Zs, LZs, hn4, hfitv, hfitc⟩ := StringT.of_atoms (args := args) (fun x hx => h x (by simp [Bundle.messageArmAtoms, hx]))
  have hfound : s.vm.findClass cls = some P1.m.cls := findClass_of_methodNamed hP1m
  obtain ⟨c1, kX, hc1, hk, hord, -, -, hn6⟩ := Cond.instantiable_spec (a (.instantiable cls 6) (by simp [Bundle.messageArmAtoms]))
  cases Option.some.inj (hc1.symm.trans hfound)
  have hinit := Cond.initialized_spec hfound hk (a (.initialized cls) (by simp [Bundle.messageArmAtoms]))
  have hctor : kX.findMethod "<init>" "(Ljava/lang/String;)V" = some P1.m.idx := findMethod_of_methodNamed hP1m hk
  have hsel0 : selectMethod e.platform s.vm P1.m.cls T.fill0 = .method T.fill0 := by
    obtain ⟨c2, r2, m2, q1, q2, q3, q4, -⟩ := Cond.selects_spec (a (.selects cls Bundle.tFill0 Bundle.tFill0) (by simp [Bundle.messageArmAtoms]))
    cases Option.some.inj (q1.symm.trans hfound)
    cases Option.some.inj (q2.symm.trans (State.methodFound?_of_named Y.fill0 (by decide)))
    cases Option.some.inj (q3.symm.trans Y.fill0)
    rw [Launch.admits_selectMethod X.admits]; exact q4
  have hselF : selectMethod e.platform s.vm P1.m.cls T.fill = .method T.fill := by
    obtain ⟨c2, r2, m2, q1, q2, q3, q4, -⟩ := Cond.selects_spec (a (.selects cls Bundle.tFill Bundle.tFill) (by simp [Bundle.messageArmAtoms]))
    cases Option.some.inj (q1.symm.trans hfound)
    cases Option.some.inj (q2.symm.trans (State.methodFound?_of_named Y.fill (by decide)))
    cases Option.some.inj (q3.symm.trans Y.fill)
    rw [Launch.admits_selectMethod X.admits]; exact q4
  obtain ⟨cellS0, hcS0, hiss⟩ := Y.statics
  obtain ⟨u0, hu0⟩ := Cond.staticRefV Y.unassigned L.unassignedStatic L.statics hcS0 hiss (a (.isRef (.static Bundle.tN "UNASSIGNED_STACK" Bundle.steD)) (by simp [Bundle.messageArmAtoms]))
  obtain ⟨sen, hsen⟩ := Cond.staticRefV Y.sentinel L.sentinelStatic L.statics hcS0 hiss (a (.isRef (.static Bundle.tN "SUPPRESSED_SENTINEL" Bundle.listD)) (by simp [Bundle.messageArmAtoms]))
  obtain ⟨ci198, i198, fB, hk198, hg198, ha198, hsB, -, hnB, htB, hffB⟩ := Cond.ownField (t := .object "java/lang/Object") Y.found L.cls (by decide +kernel) (a (.fieldLink Bundle.tN 198 Bundle.tN "backtrace" "Ljava/lang/Object;") (by simp [Bundle.messageArmAtoms])) (a (.lays Bundle.tN Bundle.tN "backtrace" "Ljava/lang/Object;") (by simp [Bundle.messageArmAtoms])) e.platform hpl
  obtain ⟨cellS, hcS', heS, -, hkeep⟩ := X.same.2.2.2.2.2 T.aS cellS0 hcS0
  have hcellS : W.heap[T.aS]? = some cellS := hcS'
  have hout' : ∀ i, (⟨T.aS, i⟩ : Loc) ∉ locs := fun i hmem => by
    have := hlocs _ hmem cellS0 hcS0
    rw [hiss] at this; cases this
  have hknownS : cellS.vm ≠ .unknown := by
    rw [heS]; intro hu
    rw [show cellS0.vm = .unknown from hu] at hiss
    cases hiss
  have hvU : cellS.slots[T.fUnassigned.slot]? = some u0.v := by rw [hkeep _ (hout' _)]; exact hu0
  have hvSen : cellS.slots[T.fSentinel.slot]? = some sen.v := by rw [hkeep _ (hout' _)]; exact hsen
  obtain ⟨iM, hffM⟩ := Y.msg
  obtain ⟨tyC, dC, hdC, hdnC⟩ := Cond.laysAt hfound hk Y.cause (a (.lays cls Bundle.tN "cause" "Ljava/lang/Throwable;") (by simp [Bundle.messageArmAtoms]))
  obtain ⟨tyS, dS, hdS, hdnS⟩ := Cond.laysAt hfound hk Y.stack (a (.lays cls Bundle.tN "stackTrace" Bundle.steD) (by simp [Bundle.messageArmAtoms]))
  obtain ⟨tyP, dP, hdP, hdnP⟩ := Cond.laysAt hfound hk Y.supp (a (.lays cls Bundle.tN "suppressedExceptions" Bundle.listD) (by simp [Bundle.messageArmAtoms]))
  obtain ⟨tyM, dM, hdM, hdnM⟩ := Cond.laysAt hfound hk hffM (a (.lays cls Bundle.tN "detailMessage" "Ljava/lang/String;") (by simp [Bundle.messageArmAtoms]))
  obtain ⟨tyB, dB, hdB, hdnB⟩ := Cond.laysAt hfound hk hffB (a (.lays cls Bundle.tN "backtrace" "Ljava/lang/Object;") (by simp [Bundle.messageArmAtoms]))
  have bC := Cond.laysApart hdB hdC hdnB hdnC (by rw [hnB, Y.causeName]; decide)
  have bS := Cond.laysApart hdB hdS hdnB hdnS (by rw [hnB, Y.stackName]; decide)
  have bP := Cond.laysApart hdB hdP hdnB hdnP (by rw [hnB, Y.suppName]; decide)
  have hbk : ((preparedCellV T.toThrowableT (freshCell P1.m.cls kX) (W.heap.size + 2) u0 sen).withEntry W.cur).slots[fB.slot]? = some .null := by
    have := fresh_default (c := P1.m.cls) tyB
    rw [htB] at this
    simpa [preparedCellV, Cell.setSlot, Cell.withEntry, Array.getElem?_setIfInBounds, bC, bS, bP, bC.symm, bS.symm, bP.symm, defaultValue] using this
  have tkC := Takes.of_laid (v := .ref (W.heap.size + 2)) hk hord tyC (by rw [Y.causeType]; rfl)
  have tkS := Takes.of_laid (v := u0.v) hk hord tyS (by rw [Y.stackType]; exact fits_refV_array _ u0)
  have tkP := Takes.of_laid (v := sen.v) hk hord tyP (by rw [Y.suppType]; exact fits_refV_object _ sen)
  have tkM := Takes.of_laid (v := .ref (W.heap.size + 1)) hk hord tyM (by rw [Y.msgType]; rfl)
  have hskip : SkipFacts T e.platform s (fun u => u) u0 ((preparedCellV T.toThrowableT (freshCell P1.m.cls kX) (W.heap.size + 2) u0 sen).withEntry W.cur) := ⟨{ ci198 := ci198, i198 := i198, fBack := fB }, ⟨hk198, hg198, ha198, hsB⟩, hbk, fun _ _ => rfl⟩
  have h0 : At W g.method c below := by rw [hg]; exact X.here
  obtain ⟨hbeyond, hfreeW⟩ := X.vmMayThrow hsize (.throwNew cls (some text) none) (fun f hf => by cases hf) rfl hRlocals
  have hfr' : W.frames.length + Ps.length + 4 < (e.platform.stackLimits W.me).1 := by have := X.framesAbove hRframes; omega
  have hwd' : (stackUse (.java g :: W.frames.tail)).2 + 13 * Ps.length + 55 ≤ (e.platform.stackLimits W.me).2 := by have := X.stackAbove hsize (K := 13 * Ps.length + 55) (by omega); omega
  have hslots : W.slotsUsed + (stringBytes (stringToUtf16 text)).size + Zs.kS.instanceTypes.size + kX.instanceTypes.size ≤ e.platform.maxSlots := by
    have := X.slotsAbove hRslots
    rw [hn4, hn6]
    omega
  obtain ⟨vm', hW', st⟩ := Steps.vmThrowsMessageColdByV p (s₀ := s) (S := W) (g := g) h0 hexec T L Z LZ M LM X.warmed (t := W.cur) rfl Zs LZs P1 L1 Ps hL hlink1 hlink hsoe hoom hfound hk hinit hord hctor
    (Launch.admits_hotImplicitExceptions X.admits) hbeyond hfreeW htext hlimit hheap (X.cellsAbove hRcells) hslots (hfitv _) (hfitc _)
    (Nn := fun u => u) heapOnly_id (fun _ _ => rfl) (fun _ => rfl) (fun u x y => setCell_twice _ _ _ _) (fun _ => Nat.le_refl _) (cN := ((preparedCellV T.toThrowableT (freshCell P1.m.cls kX) (W.heap.size + 2) u0 sen).withEntry W.cur))
    hsel0 hcellS hknownS hvU tkS (fun _ hu => hu) (fun _ hu => hu) rfl rfl rfl (by simp [preparedCellV, Cell.setSlot, Cell.withEntry]) hskip (fun _ _ hA hW _ hroom _ hrest => L.nativeOff p htr hA hW hroom hrest) hselF hvSen tkC tkP tkM Y.objLocals rfl hfr' hwd'
  rw [plainBareV_eq T.toThrowableT (W.heap.size + 2) u0 sen (.ref (W.heap.size + 1)) W.cur rfl rfl] at st
  obtain ⟨-, -, w3, w4, -, -, -⟩ := withThrown_facts e.platform W Zs text P1.m.cls kX
  have X3 := ((X.pushed (bytesOf Zs.cB (stringToUtf16 text))).pushed (stringAt Zs.cS Zs.kS Zs.fv Zs.fc (stringToUtf16 text) W.heap.size)).pushed (freshCell P1.m.cls kX)
  rw [← withString_eq] at X3
  have X4 := X3.noted hW'
  have ha : (W.heap.size + 2) < ((withThrown W Zs text P1.m.cls kX).setVm vm').heap.size := by show _ < (withThrown W Zs text P1.m.cls kX).heap.size; rw [w3]; omega
  have hcell : ((withThrown W Zs text P1.m.cls kX).setVm vm').heap[(W.heap.size + 2)]? = some (freshCell P1.m.cls kX) := w4
  have X5 := ((((X4.stored hcell T.fCause.slot (.ref (W.heap.size + 2))).storedAgain ha T.fStack.slot u0.v).storedAgain ha T.fSupp.slot sen.v).storedAgain ha T.fStack.slot u0.v).storedAgain ha T.fMsg.slot (.ref (W.heap.size + 1))
  obtain ⟨g₁, hfrM⟩ := X5.frames_eq
  have hU : ((((withThrown W Zs text P1.m.cls kX).setVm vm').setCell (W.heap.size + 2) (plainBareV T.toThrowableT (freshCell P1.m.cls kX) (W.heap.size + 2) u0 sen (.ref (W.heap.size + 1)))).setTop g).pushFrame (.throwing (W.heap.size + 2)) = (((withThrown W Zs text P1.m.cls kX).setVm vm').setCell (W.heap.size + 2) (plainBareV T.toThrowableT (freshCell P1.m.cls kX) (W.heap.size + 2) u0 sen (.ref (W.heap.size + 1)))).setFrames (.throwing (W.heap.size + 2) :: .java g :: below) := by
    rw [State.pushFrame, State.frames_setTop _ hfrM, State.setTop_of_frames _ hfrM, State.setFrames_setFrames]
  have b1 : (bytesOf Zs.cB (stringToUtf16 text)).slots.size = (stringBytes (stringToUtf16 text)).size := by
    rw [(Cell.writeAll_facts _ _).2.2]; simp [bytes0]
  have b2 : (stringAt Zs.cS Zs.kS Zs.fv Zs.fc (stringToUtf16 text) W.heap.size).slots.size = 4 := by simp [string0, Cell.setSlot, hn4]
  have b3 : (freshCell P1.m.cls kX).slots.size = 6 := by simp [hn6]
  rw [b1, b2, b3] at X5
  have e9 : slots + (stringBytes (stringToUtf16 text)).size + 4 + 6 = slots + ((stringBytes (stringToUtf16 text)).size + 4 + 6) := by omega
  rw [e9] at X5
  simp only [List.append_assoc, List.cons_append, List.nil_append] at X5
  refine ⟨((withThrown W Zs text P1.m.cls kX).setVm vm').setCell (W.heap.size + 2) (plainBareV T.toThrowableT (freshCell P1.m.cls kX) (W.heap.size + 2) u0 sen (.ref (W.heap.size + 1))), W.heap.size + 2, _, fun target ht => st _ (by rw [X.tail, ← hU]; exact ht),
    X5.forget (fun y hy => ?_), heapAt_setCell_self _ ha, hfound, rfl⟩
  simp only [List.mem_cons, List.not_mem_nil, or_false] at hy
  have hge : s.heap.size ≤ W.heap.size := X.same.2.1
  rcases hy with rfl | rfl | rfl | rfl | rfl <;> exact Nat.le_trans hge (Nat.le_add_right _ 2)
set_option maxHeartbeats 1000000 in
/-- the machine throws NullPointerException, no traces kept: from its note over the frame g to 'throwing' over the same frame (follows the proof of Stand.vmThrowsNpe, Shelf42/KT2.lean; throwsNpeColdBareVAt, Shelf42/NT91.lean, called) -/
theorem vx_npeAt {p : Program} {l : Launch} {e : Env} {R : Room} {s : State} {m₀ : MethodId} {args : Array Value} {below : List Frame} {meth : Method} {c : Code} {W : State} {locs : List Loc} {cells slots : Nat}
    (X : Stand p l e R s m₀ args below meth c W locs cells slots) (hexec : p.tables.exec = Jvm.exec) (htr : e.platform.stackTraces = false) {n : Nat}
    (h : ∀ a ∈ Bundle.npeArmAtoms n, a.before args s = true)
    (hlocs : ∀ x ∈ locs, ∀ cell, s.heap[x.base]? = some cell → cell.vm.isStatics = false)
    {g : JFrame} (hg : g.method = m₀) (hsize : g.locals.size = c.maxLocals)
    (hRframes : 7 < R.frames) (hRlocals : 2 * g.monitorRoom + (g.stack.map fun v => v.category).sum + 10240 ≤ R.locals)
    (hRcells : cells + 1 ≤ R.cells) (hRslots : slots + n ≤ R.slots) (hlocks : meth.locks = false) :
    ∃ (S : State) (q : Addr) (ce : Cell), (∀ target, Steps p.tables e below ((S.setTop g).pushFrame (.throwing q)) target → Steps p.tables e below ((W.setTop g).pushFrame (.throwNew "java/lang/NullPointerException" none none)) target) ∧
      Stand p l e R s m₀ args below meth c S locs (cells + 1) (slots + n) ∧ S.heap[q]? = some ce ∧ s.vm.findClass "java/lang/NullPointerException" = some ce.cls ∧ ce.vm = .none := by
  have howns : e.platform.frameOwnsMonitors = true := by rw [X.admits.platform]
  have hfin : e.platform.finalization = false := by rw [X.admits.platform]
  have hpl : e.platform.magicAccessors = ({} : Platform).magicAccessors := by rw [X.admits.platform]
  have hpl2 : e.platform.arrayCloneIsPublic = true := by rw [X.admits.platform]
  have a' : ∀ x, x ∈ Bundle.npeArmAtoms n → x.holds args s none s [] = true := fun x hx => h x hx
  obtain ⟨T, Z, L, LZ, Y⟩ := ThrowableC.of_atoms (args := args) howns hfin hpl (fun x hx => h x (by simp [Bundle.npeArmAtoms, hx]))
  obtain ⟨N, LN, hcN, hnNF, hordN, hffS⟩ := NpeC.of_atoms (args := args) hpl hpl2 L Y (fun x hx => h x (by simp [Bundle.npeArmAtoms, hx]))
  obtain ⟨P1, L1, hP1m, hP1s⟩ := PassC.of_atoms (args := args) (s := s) hpl (X := Bundle.nN) (Y := Bundle.rN) (by decide) (by decide) LibCode.NullPointerException.Init0.at_0 LibCode.NullPointerException.Init0.at_1 LibCode.NullPointerException.Init0.at_4 (fun x hx => h x (by simp [Bundle.npeArmAtoms, hx]))
  obtain ⟨PR, LR, hPRm, hPRs⟩ := PassC.of_atoms (args := args) (s := s) hpl (X := Bundle.rN) (Y := Bundle.eN) (by decide) (by decide) LibCode.RuntimeException.Init0.at_0 LibCode.RuntimeException.Init0.at_1 LibCode.RuntimeException.Init0.at_4 (fun x hx => h x (by simp [Bundle.npeArmAtoms, hx]))
  obtain ⟨PE, LEx, hPEm, hPEs⟩ := PassC.of_atoms (args := args) (s := s) hpl (X := Bundle.eN) (Y := Bundle.tN) (by decide) (by decide) LibCode.Exception.Init0.at_0 LibCode.Exception.Init0.at_1 LibCode.Exception.Init0.at_4 (fun x hx => h x (by simp [Bundle.npeArmAtoms, hx]))
  have hfound : s.vm.findClass Bundle.nN = some P1.m.cls := findClass_of_methodNamed hP1m
  have ecls : N.cN = P1.m.cls := Option.some.inj (hcN.symm.trans hfound)
  have hk : s.vm.classes[P1.m.cls]? = some N.kN := by rw [← ecls]; exact LN.cls
  have hinit := Cond.initialized_spec hfound hk (a' (.initialized Bundle.nN) (by simp [Bundle.npeArmAtoms]))
  have hctor : N.kN.findMethod "<init>" "()V" = some P1.m.idx := findMethod_of_methodNamed hP1m hk
  obtain ⟨c1, k1, hc1, hk1, -, -, -, hn⟩ := Cond.instantiable_spec (a' (.instantiable Bundle.nN n) (by simp [Bundle.npeArmAtoms]))
  cases Option.some.inj (hc1.symm.trans hfound)
  cases Option.some.inj (hk1.symm.trans hk)
  have hfsz : (freshCell P1.m.cls N.kN).slots.size = n := by simp [hn]
  have hlink1 : P1.sup = PR.m := Option.some.inj (hP1s.symm.trans hPRm)
  have hlinkR : PR.sup = PE.m := Option.some.inj (hPRs.symm.trans hPEm)
  have hlinkE : PE.sup = Z.m T.toThrowableT := Option.some.inj (hPEs.symm.trans Y.init0)
  have hLs : ∀ P, P ∈ [PR, PE] → P.Links0 e.platform s := fun P hP => by
    simp only [List.mem_cons, List.not_mem_nil, or_false] at hP
    rcases hP with rfl | rfl
    · exact LR
    · exact LEx
  have hsel0 : selectMethod e.platform s.vm P1.m.cls T.fill0 = .method T.fill0 := by
    obtain ⟨c2, r2, m2, q1, q2, q3, q4, -⟩ := Cond.selects_spec (a' (.selects Bundle.nN Bundle.tFill0 Bundle.tFill0) (by simp [Bundle.npeArmAtoms]))
    cases Option.some.inj (q1.symm.trans hfound)
    cases Option.some.inj (q2.symm.trans (State.methodFound?_of_named Y.fill0 (by decide)))
    cases Option.some.inj (q3.symm.trans Y.fill0)
    rw [Launch.admits_selectMethod X.admits]; exact q4
  have hselF : selectMethod e.platform s.vm P1.m.cls T.fill = .method N.fill := by
    obtain ⟨c2, r2, m2, q1, q2, q3, q4, -⟩ := Cond.selects_spec (a' (.selects Bundle.nN Bundle.tFill Bundle.nFill) (by simp [Bundle.npeArmAtoms]))
    cases Option.some.inj (q1.symm.trans hfound)
    cases Option.some.inj (q2.symm.trans (State.methodFound?_of_named Y.fill (by decide)))
    cases Option.some.inj (q3.symm.trans hnNF)
    rw [Launch.admits_selectMethod X.admits]; exact q4
  obtain ⟨cellS0, hcS0, hiss⟩ := Y.statics
  obtain ⟨u0, hu0⟩ := Cond.staticRefV Y.unassigned L.unassignedStatic L.statics hcS0 hiss (a' (.isRef (.static Bundle.tN "UNASSIGNED_STACK" Bundle.steD)) (by simp [Bundle.npeArmAtoms]))
  obtain ⟨sen, hsen⟩ := Cond.staticRefV Y.sentinel L.sentinelStatic L.statics hcS0 hiss (a' (.isRef (.static Bundle.tN "SUPPRESSED_SENTINEL" Bundle.listD)) (by simp [Bundle.npeArmAtoms]))
  obtain ⟨ci198, i198, fB, hk198, hg198, ha198, hsB, -, hnB, htB, hffB⟩ := Cond.ownField (t := .object "java/lang/Object") Y.found L.cls (by decide +kernel) (a' (.fieldLink Bundle.tN 198 Bundle.tN "backtrace" Bundle.objD) (by simp [Bundle.npeArmAtoms])) (a' (.lays Bundle.tN Bundle.tN "backtrace" Bundle.objD) (by simp [Bundle.npeArmAtoms])) e.platform hpl
  obtain ⟨cellS, hcS', heS, -, hkeep⟩ := X.same.2.2.2.2.2 T.aS cellS0 hcS0
  have hcellS : W.heap[T.aS]? = some cellS := hcS'
  have hout' : ∀ i, (⟨T.aS, i⟩ : Loc) ∉ locs := fun i hmem => by
    have := hlocs _ hmem cellS0 hcS0
    rw [hiss] at this; cases this
  have hknownS : cellS.vm ≠ .unknown := by
    rw [heS]; intro hu
    rw [show cellS0.vm = .unknown from hu] at hiss
    cases hiss
  have hvU : cellS.slots[T.fUnassigned.slot]? = some u0.v := by rw [hkeep _ (hout' _)]; exact hu0
  have hvSen : cellS.slots[T.fSentinel.slot]? = some sen.v := by rw [hkeep _ (hout' _)]; exact hsen
  obtain ⟨tyC, dC, hdC, hdnC⟩ := Cond.laysAt hfound hk Y.cause (a' (.lays Bundle.nN Bundle.tN "cause" "Ljava/lang/Throwable;") (by simp [Bundle.npeArmAtoms]))
  obtain ⟨tyS, dS, hdS, hdnS⟩ := Cond.laysAt hfound hk Y.stack (a' (.lays Bundle.nN Bundle.tN "stackTrace" Bundle.steD) (by simp [Bundle.npeArmAtoms]))
  obtain ⟨tyP, dP, hdP, hdnP⟩ := Cond.laysAt hfound hk Y.supp (a' (.lays Bundle.nN Bundle.tN "suppressedExceptions" Bundle.listD) (by simp [Bundle.npeArmAtoms]))
  obtain ⟨tyX, dX, hdX, hdnX⟩ := Cond.laysAt hfound hk hffS (a' (.lays Bundle.nN Bundle.nN "extendedMessageState" "I") (by simp [Bundle.npeArmAtoms, Bundle.npeAtoms]))
  obtain ⟨hnX, htX⟩ := State.fieldFound?_type hffS (t := .int) (by decide +kernel)
  have xC := Cond.laysApart hdC hdX hdnC hdnX (by rw [hnX, Y.causeName]; decide)
  have xS := Cond.laysApart hdS hdX hdnS hdnX (by rw [hnX, Y.stackName]; decide)
  have xP := Cond.laysApart hdP hdX hdnP hdnX (by rw [hnX, Y.suppName]; decide)
  have hv0 : (freshCell P1.m.cls N.kN).slots[N.fState.slot]? = some (.int 0) := by
    have := fresh_default (c := P1.m.cls) tyX
    rw [htX] at this; exact this
  obtain ⟨tyB, dB, hdB, hdnB⟩ := Cond.laysAt hfound hk hffB (a' (.lays Bundle.nN Bundle.tN "backtrace" Bundle.objD) (by simp [Bundle.npeArmAtoms]))
  have bC := Cond.laysApart hdB hdC hdnB hdnC (by rw [hnB, Y.causeName]; decide)
  have bS := Cond.laysApart hdB hdS hdnB hdnS (by rw [hnB, Y.stackName]; decide)
  have bP := Cond.laysApart hdB hdP hdnB hdnP (by rw [hnB, Y.suppName]; decide)
  have bX := Cond.laysApart hdB hdX hdnB hdnX (by rw [hnB, hnX]; decide)
  have hbk : ((npeCell N.toNpeT (preparedCellV T.toThrowableT (freshCell P1.m.cls N.kN) W.heap.size u0 sen) W.cur).withEntry W.cur).slots[fB.slot]? = some .null := by
    have := fresh_default (c := P1.m.cls) tyB
    rw [htB] at this
    simpa [npeCell, preparedCellV, Cell.setSlot, Cell.withEntry, Array.getElem?_setIfInBounds, bC, bS, bP, bX, bC.symm, bS.symm, bP.symm, bX.symm, defaultValue] using this
  have tkC := Takes.of_laid (v := .ref W.heap.size) hk hordN tyC (by rw [Y.causeType]; rfl)
  have tkS := Takes.of_laid (v := u0.v) hk hordN tyS (by rw [Y.stackType]; exact fits_refV_array _ u0)
  have tkP := Takes.of_laid (v := sen.v) hk hordN tyP (by rw [Y.suppType]; exact fits_refV_object _ sen)
  have tkX := Takes.of_laid (v := .int 1) hk hordN tyX (by rw [htX]; rfl)
  have hskip : SkipFacts T e.platform s (fun u => u) u0 ((npeCell N.toNpeT (preparedCellV T.toThrowableT (freshCell P1.m.cls N.kN) W.heap.size u0 sen) W.cur).withEntry W.cur) := ⟨{ ci198 := ci198, i198 := i198, fBack := fB }, ⟨hk198, hg198, ha198, hsB⟩, hbk, fun _ _ => rfl⟩
  obtain ⟨vm', X3, st, -⟩ := X.throwsNpeColdBareVAt hexec hg hsize T L Z LZ N LN P1 L1 [PR, PE] hLs hlink1 ⟨hlinkR, hlinkE, trivial⟩ hfound hk hinit hordN hctor hsel0 hselF hcellS hknownS hvU hvSen
    hv0 xC xS xP tkC tkS tkP tkX Y.objLocals hskip (fun _ _ hA hW _ hroom _ hrest => L.nativeOff p htr hA hW hroom hrest) (by simpa using hRframes) hRlocals (by simp) hRcells (by rw [hn]; exact hRslots)
  have hlt : W.heap.size < ((W.pushCell (freshCell P1.m.cls N.kN)).setVm vm').heap.size := by
    show W.heap.size < (W.pushCell (freshCell P1.m.cls N.kN)).heap.size
    rw [State.heap_size_pushCell]; omega
  rw [hfsz] at X3
  obtain ⟨g₁, hfrM⟩ := X3.frames_eq
  have hU : ((((W.pushCell (freshCell P1.m.cls N.kN)).setVm vm').setCell W.heap.size (npeBareV T.toThrowableT N.toNpeT (freshCell P1.m.cls N.kN) W.heap.size u0 sen)).setTop g).pushFrame (.throwing W.heap.size) = (((W.pushCell (freshCell P1.m.cls N.kN)).setVm vm').setCell W.heap.size (npeBareV T.toThrowableT N.toNpeT (freshCell P1.m.cls N.kN) W.heap.size u0 sen)).setFrames (.throwing W.heap.size :: .java g :: below) := by
    rw [State.pushFrame, State.frames_setTop _ hfrM, State.setTop_of_frames _ hfrM, State.setFrames_setFrames]
  refine ⟨_, W.heap.size, _, fun target ht => st.trans (by rw [← hU]; exact ht), X3.forget (fun y hy => ?_), heapAt_setCell_self _ hlt, hfound, rfl⟩
  simp only [List.mem_cons, List.not_mem_nil, or_false] at hy
  have hge : s.heap.size ≤ W.heap.size := X.same.2.1
  rcases hy with rfl | rfl | rfl | rfl | rfl <;> exact hge
/-- the words of a machine's NullPointerException, but the four that speak of the heap -/
def vx_atN (n : Nat) : List Cond := (Bundle.npeArmAtoms n).filter vx_no
/-- the words of a machine's throw with a message, but the four that speak of the heap -/
def vx_atM (X : String) (names : List String) : List Cond := (Bundle.messageArmAtoms X names).filter vx_no
section
variable {p : Program} {l : Launch} {e : Env} {R : Room} {s : State} {m : MethodId} {args : Array Value} {below : List Frame} {meth : Method} {c : Code} {H : Heap} {locs : List Loc} {cells slots : Nat}
/-- a frame seen from a rebased start, seen from the first start again -/
theorem vx_back9 {T S : State} {R' : Room} {k n : Nat} (X : Stand p l e R s m args below meth c T locs cells slots) (Y : Stand p l e R' ((T.setVm s.vm).setFrames (.invoking m args :: below)) m args below meth c T [] 0 0) (Z : Stand p l e R' ((T.setVm s.vm).setFrames (.invoking m args :: below)) m args below meth c S [] k n) :
    Stand p l e R s m args below meth c S locs (cells + k) (slots + n) := by
  have hW0 : s.WarmedH ((T.setVm s.vm).setFrames (.invoking m args :: below)).vm := State.WarmedH.refl s
  refine { admits := X.admits, cas := X.cas, clock := X.clock, frames := X.frames, room := X.room, hears := X.hears, method := X.method, code := X.code, here := Z.here, tail := Z.tail, warmed := State.WarmedH.trans hW0 Z.warmed, limits := Z.limits.trans (Y.limits.symm.trans X.limits), bytes := Z.bytes.trans (Y.bytes.symm.trans X.bytes), same := ?_ }
  obtain ⟨e1, e2⟩ := Z.same
  rw [State.setFrames_setFrames] at e1
  have h2 : (T.setVm s.vm).sameButNew (S.setVm s.vm) [] k n := ⟨e1, e2⟩
  have h3 := X.same.trans h2
  rw [List.append_nil] at h3
  exact h3
/-- from the machine's note that E is thrown here with this text -/
def vx_Note (p : Program) (l : Launch) (e : Env) (R : Room) (s : State) (m : MethodId) (args : Array Value) (below : List Frame) (meth : Method) (c : Code) (H : Heap) (locs : List Loc) (cells slots : Nat) (Q : State → Prop) (g : JFrame) (E text : String) : Prop :=
  ∀ T : State, T.heap = H → Stand p l e R s m args below meth c T locs cells slots → ∃ t, Steps p.tables e below ((T.setTop g).pushFrame (.throwNew E (some text) none)) t ∧ Q t
theorem vx_vm {pc : Nat} {ls : Array Slot} {rest : List Value} {Q : State → Prop} (hexec : p.tables.exec = Jvm.exec) (hl : l.stackTraces = false) {cls text : String} {names : List String} {nb : Nat} {A : Nat → Prop}
    (hcls : Bundle.fit cls = true) (hnames : ∀ n ∈ names, Bundle.fit n = true) (hsoe : (cls == "java/lang/StackOverflowError") = false) (hoom : (cls == "java/lang/OutOfMemoryError") = false)
    (hat : ∀ w ∈ vx_atM cls names, w.before args s = true) (hgood : ∀ w ∈ vx_atM cls names, vx_ot w = true)
    (hU : vx_Zq Bundle.tN "UNASSIGNED_STACK" Bundle.steD A s s.heap) (hN : vx_Zq Bundle.tN "SUPPRESSED_SENTINEL" Bundle.listD A s s.heap) (hS : va_S A s.heap H locs) (hsize : ls.size = c.maxLocals)
    (htext : (text == notModelled) = false) (hnb : (stringBytes (stringToUtf16 text)).size ≤ nb) (hnb1 : nb ≤ 1000)
    (hRframes : names.length + 4 < R.frames) (hRlocals : (rest.map fun v => v.category).sum + 10240 ≤ R.locals) (hshort : 13 * names.length + 55 ≤ 10240) (hRcells : cells + 3 ≤ R.cells) (hRslots : slots + (nb + 10) ≤ R.slots) (hlocks : meth.locks = false)
    (k : ∀ (H1 : Heap) (q9 : Addr) (ce : Cell), H.size ≤ H1.size → (∀ q : Nat, q < H.size → H1[q]? = H[q]?) → va_S A s.heap H1 locs → H1[q9]? = some ce → ce.vm = .none → s.vm.findClass cls = some ce.cls → vx_W p l e R s m args below meth c H1 locs (cells + 3) (slots + (nb + 10)) Q (F0 m pc ls rest) q9) :
    vx_Note p l e R s m args below meth c H locs cells slots Q (F0 m pc ls rest) cls text := by
  intro T hT X
  have htr : e.platform.stackTraces = false := (show e.platform.stackTraces = l.stackTraces by rw [X.admits.platform]).trans hl
  have Y := vx_rebase X (R' := { frames := R.frames, locals := R.locals, cells := 3, slots := nb + 10 }) (Nat.le_refl _) (Nat.le_refl _) hRcells hRslots
  have hhp : ((T.setVm s.vm).setFrames (.invoking m args :: below)).heap = H := hT
  have hW0 : s.WarmedH ((T.setVm s.vm).setFrames (.invoking m args :: below)).vm := State.WarmedH.refl s
  have hat' : ∀ w ∈ vx_atM cls names, w.before args ((T.setVm s.vm).setFrames (.invoking m args :: below)) = true := fun w hw => vx_ot_at hW0 rfl (hgood w hw) (hat w hw)
  have hU' : vx_Zq Bundle.tN "UNASSIGNED_STACK" Bundle.steD A ((T.setVm s.vm).setFrames (.invoking m args :: below)) ((T.setVm s.vm).setFrames (.invoking m args :: below)).heap := by rw [hhp]; exact vx_Zq.moved hW0.alike (hU.kept hS.2.1)
  have hN' : vx_Zq Bundle.tN "SUPPRESSED_SENTINEL" Bundle.listD A ((T.setVm s.vm).setFrames (.invoking m args :: below)) ((T.setVm s.vm).setFrames (.invoking m args :: below)).heap := by rw [hhp]; exact vx_Zq.moved hW0.alike (hN.kept hS.2.1)
  obtain ⟨S, q, ce, st, Z, hce, hcl', hv⟩ := vx_vmAt Y hexec htr (cls := cls) (names := names) (text := text) hcls hnames hsoe hoom (vx_own hat' (vx_isRefq hU'.1) (vx_isRefq hN'.1) hU'.2.word hN'.2.word) (fun x hx => nomatch hx) htext
    (by rw [Launch.admits_arrayLengthLimit X.admits]; omega) (by rw [Launch.admits_maxHeapBytes X.admits]; simp only [componentBytes]; omega)
    (g := F0 m pc ls rest) rfl hsize hRframes (by show 2 * 0 + (rest.map fun v => v.category).sum + 10240 ≤ R.locals; omega) hshort (by show 0 + 3 ≤ 3; omega) (by show 0 + (_ + 4 + 6) ≤ nb + 10; omega) hlocks
  obtain ⟨f1, f2⟩ := vx_frame Z.same
  have f1' : H.size ≤ S.heap.size := by rw [← hT]; exact f1
  have f2' : ∀ q : Nat, q < H.size → S.heap[q]? = H[q]? := fun q hq => by
    rw [← hT]
    exact f2 q (by rw [← hT] at hq; exact hq) (fun z hz => nomatch hz)
  have X5 := vx_back9 X Y Z
  have X6 : Stand p l e R s m args below meth c S locs (cells + 3) (slots + (nb + 10)) := { X5 with same := X5.same.mono (by omega) (by omega) }
  obtain ⟨t, a1, b1⟩ := k S.heap q ce f1' f2' ⟨Nat.le_trans hS.1 f1', fun q h1 h2 => (f2' q (Nat.lt_of_lt_of_le h1 hS.1)).trans (hS.2.1 q h1 h2), hS.2.2⟩ hce hv hcl' S rfl X6
  exact ⟨t, st t a1, b1⟩
/-- from the machine's note that NullPointerException is thrown here -/
def vx_NoteN (p : Program) (l : Launch) (e : Env) (R : Room) (s : State) (m : MethodId) (args : Array Value) (below : List Frame) (meth : Method) (c : Code) (H : Heap) (locs : List Loc) (cells slots : Nat) (Q : State → Prop) (g : JFrame) : Prop :=
  ∀ T : State, T.heap = H → Stand p l e R s m args below meth c T locs cells slots → ∃ t, Steps p.tables e below ((T.setTop g).pushFrame (.throwNew "java/lang/NullPointerException" none none)) t ∧ Q t
theorem vx_npe {pc : Nat} {ls : Array Slot} {rest : List Value} {Q : State → Prop} (hexec : p.tables.exec = Jvm.exec) (hl : l.stackTraces = false) {nb : Nat} {A : Nat → Prop}
    (hat : ∀ w ∈ vx_atN nb, w.before args s = true) (hgood : ∀ w ∈ vx_atN nb, vx_ot w = true)
    (hU : vx_Zq Bundle.tN "UNASSIGNED_STACK" Bundle.steD A s s.heap) (hN : vx_Zq Bundle.tN "SUPPRESSED_SENTINEL" Bundle.listD A s s.heap) (hS : va_S A s.heap H locs) (hsize : ls.size = c.maxLocals)
    (hRframes : 7 < R.frames) (hRlocals : (rest.map fun v => v.category).sum + 10240 ≤ R.locals) (hRcells : cells + 1 ≤ R.cells) (hRslots : slots + nb ≤ R.slots) (hlocks : meth.locks = false)
    (k : ∀ (H1 : Heap) (q9 : Addr) (ce : Cell), H.size ≤ H1.size → (∀ q : Nat, q < H.size → H1[q]? = H[q]?) → va_S A s.heap H1 locs → H1[q9]? = some ce → ce.vm = .none → s.vm.findClass "java/lang/NullPointerException" = some ce.cls → vx_W p l e R s m args below meth c H1 locs (cells + 1) (slots + nb) Q (F0 m pc ls rest) q9) :
    vx_NoteN p l e R s m args below meth c H locs cells slots Q (F0 m pc ls rest) := by
  intro T hT X
  have htr : e.platform.stackTraces = false := (show e.platform.stackTraces = l.stackTraces by rw [X.admits.platform]).trans hl
  have Y := vx_rebase X (R' := { frames := R.frames, locals := R.locals, cells := 1, slots := nb }) (Nat.le_refl _) (Nat.le_refl _) hRcells hRslots
  have hhp : ((T.setVm s.vm).setFrames (.invoking m args :: below)).heap = H := hT
  have hW0 : s.WarmedH ((T.setVm s.vm).setFrames (.invoking m args :: below)).vm := State.WarmedH.refl s
  have hat' : ∀ w ∈ vx_atN nb, w.before args ((T.setVm s.vm).setFrames (.invoking m args :: below)) = true := fun w hw => vx_ot_at hW0 rfl (hgood w hw) (hat w hw)
  have hU' : vx_Zq Bundle.tN "UNASSIGNED_STACK" Bundle.steD A ((T.setVm s.vm).setFrames (.invoking m args :: below)) ((T.setVm s.vm).setFrames (.invoking m args :: below)).heap := by rw [hhp]; exact vx_Zq.moved hW0.alike (hU.kept hS.2.1)
  have hN' : vx_Zq Bundle.tN "SUPPRESSED_SENTINEL" Bundle.listD A ((T.setVm s.vm).setFrames (.invoking m args :: below)) ((T.setVm s.vm).setFrames (.invoking m args :: below)).heap := by rw [hhp]; exact vx_Zq.moved hW0.alike (hN.kept hS.2.1)
  obtain ⟨S, q, ce, st, Z, hce, hcl', hv⟩ := vx_npeAt Y hexec htr (n := nb) (vx_own hat' (vx_isRefq hU'.1) (vx_isRefq hN'.1) hU'.2.word hN'.2.word) (fun x hx => nomatch hx)
    (g := F0 m pc ls rest) rfl hsize hRframes (by show 2 * 0 + (rest.map fun v => v.category).sum + 10240 ≤ R.locals; omega) (by show 0 + 1 ≤ 1; omega) (by show 0 + nb ≤ nb; omega) hlocks
  obtain ⟨f1, f2⟩ := vx_frame Z.same
  have f1' : H.size ≤ S.heap.size := by rw [← hT]; exact f1
  have f2' : ∀ q : Nat, q < H.size → S.heap[q]? = H[q]? := fun q hq => by
    rw [← hT]
    exact f2 q (by rw [← hT] at hq; exact hq) (fun z hz => nomatch hz)
  have X5 := vx_back9 X Y Z
  have X6 : Stand p l e R s m args below meth c S locs (cells + 1) (slots + nb) := { X5 with same := X5.same.mono (by omega) (by omega) }
  obtain ⟨t, a1, b1⟩ := k S.heap q ce f1' f2' ⟨Nat.le_trans hS.1 f1', fun q h1 h2 => (f2' q (Nat.lt_of_lt_of_le h1 hS.1)).trans (hS.2.1 q h1 h2), hS.2.2⟩ hce hv hcl' S rfl X6
  exact ⟨t, st t a1, b1⟩
variable {Q : State → Prop} {cc : ByteArray} {pc : Nat} {ls : Array Slot} {rest : List Value}
theorem vx_idivZ (hexec : p.tables.exec = Jvm.exec) (hb : c.code = cc) {a b : Int32} (h0 : b = 0) (d : decode cc pc = .ok (.idiv, 1)) (k : vx_Note p l e R s m args below meth c H locs cells slots Q (F0 m pc ls rest) "java/lang/ArithmeticException" "/ by zero") :
    W p l e R s m args below meth c H locs cells slots Q (F0 m pc ls (.int b :: .int a :: rest)) := by
  intro T hT X
  obtain ⟨t, st, q⟩ := k T hT X
  exact ⟨t, X.idivZero hexec (g := F0 m pc ls (.int b :: .int a :: rest)) rfl (a := a) (rest := rest) (by rw [h0]) (by rw [hb]; exact d) t st, q⟩
theorem vx_iremZ (hexec : p.tables.exec = Jvm.exec) (hb : c.code = cc) {a b : Int32} (h0 : b = 0) (d : decode cc pc = .ok (.irem, 1)) (k : vx_Note p l e R s m args below meth c H locs cells slots Q (F0 m pc ls rest) "java/lang/ArithmeticException" "/ by zero") :
    W p l e R s m args below meth c H locs cells slots Q (F0 m pc ls (.int b :: .int a :: rest)) := by
  intro T hT X
  obtain ⟨t, st, q⟩ := k T hT X
  exact ⟨t, X.iremZero hexec (g := F0 m pc ls (.int b :: .int a :: rest)) rfl (a := a) (rest := rest) (by rw [h0]) (by rw [hb]; exact d) t st, q⟩
theorem vx_ldivZ (hexec : p.tables.exec = Jvm.exec) (hb : c.code = cc) {a b : Int64} (h0 : b = 0) (d : decode cc pc = .ok (.ldiv, 1)) (k : vx_Note p l e R s m args below meth c H locs cells slots Q (F0 m pc ls rest) "java/lang/ArithmeticException" "/ by zero") :
    W p l e R s m args below meth c H locs cells slots Q (F0 m pc ls (.long b :: .long a :: rest)) := by
  intro T hT X
  obtain ⟨t, st, q⟩ := k T hT X
  exact ⟨t, X.ldivZero hexec (g := F0 m pc ls (.long b :: .long a :: rest)) rfl (a := a) (rest := rest) (by rw [h0]) (by rw [hb]; exact d) t st, q⟩
theorem vx_lremZ (hexec : p.tables.exec = Jvm.exec) (hb : c.code = cc) {a b : Int64} (h0 : b = 0) (d : decode cc pc = .ok (.lrem, 1)) (k : vx_Note p l e R s m args below meth c H locs cells slots Q (F0 m pc ls rest) "java/lang/ArithmeticException" "/ by zero") :
    W p l e R s m args below meth c H locs cells slots Q (F0 m pc ls (.long b :: .long a :: rest)) := by
  intro T hT X
  obtain ⟨t, st, q⟩ := k T hT X
  exact ⟨t, X.lremZero hexec (g := F0 m pc ls (.long b :: .long a :: rest)) rfl (a := a) (rest := rest) (by rw [h0]) (by rw [hb]; exact d) t st, q⟩
theorem vx_ialdZ {D : va_G} {cl : List vw_C} {ws : va_W} {tys : List (ClassId × FieldType)} {a : Nat} (hexec : p.tables.exec = Jvm.exec) (hb : c.code = cc) (hK : va_K D cl tys s) (hP : va_P D cl ws H) (q0 t0 : Nat) {cA : ClassId} {n : Nat} {f : Nat → Int32} (ha : ws[q0]? = some (a, .inl (cA, n, .inl f))) (ht : tys[t0]? = some (cA, .int)) {i : Int32} (hout : ¬ vp_in i n) (hdg : decode cc pc = .ok (.iaload, 1))
    (k : ∀ tx : String, tx = (toString "Index " ++ toString i ++ toString " out of bounds for length " ++ toString n : String) → vx_Note p l e R s m args below meth c H locs cells slots Q (F0 m pc ls rest) "java/lang/ArrayIndexOutOfBoundsException" tx) : W p l e R s m args below meth c H locs cells slots Q (F0 m pc ls (.int i :: .ref a :: rest)) := by
  intro T hT X
  obtain ⟨t, st, q⟩ := k _ rfl T hT X
  refine ⟨t, ?_, q⟩
  have h1 := X.ialoadOut hexec (by rw [hT]; exact hP q0 _ ha) ((hK.2 t0 _ ht).1 n (fun j => .int (f j))) (j := i) (by show (i < 0 ∨ (arrV _ _ _).slots.size ≤ _); rw [arrV_size]; exact Classical.byContradiction hout) (g := F0 m pc ls (.int i :: .ref a :: rest)) rfl (rest := rest) rfl (by rw [hb]; exact hdg) t
  simp only [arrV_size] at h1
  exact h1 st
theorem vx_iastZ {D : va_G} {cl : List vw_C} {ws : va_W} {tys : List (ClassId × FieldType)} {a : Nat} (hexec : p.tables.exec = Jvm.exec) (hb : c.code = cc) (hK : va_K D cl tys s) (hP : va_P D cl ws H) (q0 t0 : Nat) {cA : ClassId} {n : Nat} {f : Nat → Int32} (ha : ws[q0]? = some (a, .inl (cA, n, .inl f))) (ht : tys[t0]? = some (cA, .int)) {i : Int32} {x : Int32} (hout : ¬ vp_in i n) (hdg : decode cc pc = .ok (.iastore, 1))
    (k : ∀ tx : String, tx = (toString "Index " ++ toString i ++ toString " out of bounds for length " ++ toString n : String) → vx_Note p l e R s m args below meth c H locs cells slots Q (F0 m pc ls rest) "java/lang/ArrayIndexOutOfBoundsException" tx) : W p l e R s m args below meth c H locs cells slots Q (F0 m pc ls (.int x :: .int i :: .ref a :: rest)) := by
  intro T hT X
  obtain ⟨t, st, q⟩ := k _ rfl T hT X
  refine ⟨t, ?_, q⟩
  have h1 := X.iastoreOut hexec (by rw [hT]; exact hP q0 _ ha) ((hK.2 t0 _ ht).1 n (fun j => .int (f j))) (j := i) (by show (i < 0 ∨ (arrV _ _ _).slots.size ≤ _); rw [arrV_size]; exact Classical.byContradiction hout) (g := F0 m pc ls (.int x :: .int i :: .ref a :: rest)) rfl (rest := rest) rfl (by rw [hb]; exact hdg) t
  simp only [arrV_size] at h1
  exact h1 st
theorem vx_baldZ {D : va_G} {cl : List vw_C} {ws : va_W} {tys : List (ClassId × FieldType)} {a : Nat} (hexec : p.tables.exec = Jvm.exec) (hb : c.code = cc) (hK : va_K D cl tys s) (hP : va_P D cl ws H) (q0 t0 : Nat) {cA : ClassId} {n : Nat} {f : Nat → Int32} (ha : ws[q0]? = some (a, .inl (cA, n, .inl f))) (ht : tys[t0]? = some (cA, .byte)) {i : Int32} (hout : ¬ vp_in i n) (hdg : decode cc pc = .ok (.baload, 1))
    (k : ∀ tx : String, tx = (toString "Index " ++ toString i ++ toString " out of bounds for length " ++ toString n : String) → vx_Note p l e R s m args below meth c H locs cells slots Q (F0 m pc ls rest) "java/lang/ArrayIndexOutOfBoundsException" tx) : W p l e R s m args below meth c H locs cells slots Q (F0 m pc ls (.int i :: .ref a :: rest)) := by
  intro T hT X
  obtain ⟨t, st, q⟩ := k _ rfl T hT X
  refine ⟨t, ?_, q⟩
  have h1 := X.baloadOut hexec (by rw [hT]; exact hP q0 _ ha) ((hK.2 t0 _ ht).1 n (fun j => .int (f j))) (j := i) (by show (i < 0 ∨ (arrV _ _ _).slots.size ≤ _); rw [arrV_size]; exact Classical.byContradiction hout) (g := F0 m pc ls (.int i :: .ref a :: rest)) rfl (rest := rest) rfl (by rw [hb]; exact hdg) t
  simp only [arrV_size] at h1
  exact h1 st
theorem vx_bastZ {D : va_G} {cl : List vw_C} {ws : va_W} {tys : List (ClassId × FieldType)} {a : Nat} (hexec : p.tables.exec = Jvm.exec) (hb : c.code = cc) (hK : va_K D cl tys s) (hP : va_P D cl ws H) (q0 t0 : Nat) {cA : ClassId} {n : Nat} {f : Nat → Int32} (ha : ws[q0]? = some (a, .inl (cA, n, .inl f))) (ht : tys[t0]? = some (cA, .byte)) {i : Int32} {x : Int32} (hout : ¬ vp_in i n) (hdg : decode cc pc = .ok (.bastore, 1))
    (k : ∀ tx : String, tx = (toString "Index " ++ toString i ++ toString " out of bounds for length " ++ toString n : String) → vx_Note p l e R s m args below meth c H locs cells slots Q (F0 m pc ls rest) "java/lang/ArrayIndexOutOfBoundsException" tx) : W p l e R s m args below meth c H locs cells slots Q (F0 m pc ls (.int x :: .int i :: .ref a :: rest)) := by
  intro T hT X
  obtain ⟨t, st, q⟩ := k _ rfl T hT X
  refine ⟨t, ?_, q⟩
  have h1 := X.bastoreOut hexec (by rw [hT]; exact hP q0 _ ha) ((hK.2 t0 _ ht).1 n (fun j => .int (f j))) (j := i) (by show (i < 0 ∨ (arrV _ _ _).slots.size ≤ _); rw [arrV_size]; exact Classical.byContradiction hout) (g := F0 m pc ls (.int x :: .int i :: .ref a :: rest)) rfl (rest := rest) rfl (by rw [hb]; exact hdg) t
  simp only [arrV_size] at h1
  exact h1 st
theorem vx_zaldZ {D : va_G} {cl : List vw_C} {ws : va_W} {tys : List (ClassId × FieldType)} {a : Nat} (hexec : p.tables.exec = Jvm.exec) (hb : c.code = cc) (hK : va_K D cl tys s) (hP : va_P D cl ws H) (q0 t0 : Nat) {cA : ClassId} {n : Nat} {f : Nat → Int32} (ha : ws[q0]? = some (a, .inl (cA, n, .inl f))) (ht : tys[t0]? = some (cA, .boolean)) {i : Int32} (hout : ¬ vp_in i n) (hdg : decode cc pc = .ok (.baload, 1))
    (k : ∀ tx : String, tx = (toString "Index " ++ toString i ++ toString " out of bounds for length " ++ toString n : String) → vx_Note p l e R s m args below meth c H locs cells slots Q (F0 m pc ls rest) "java/lang/ArrayIndexOutOfBoundsException" tx) : W p l e R s m args below meth c H locs cells slots Q (F0 m pc ls (.int i :: .ref a :: rest)) := by
  intro T hT X
  obtain ⟨t, st, q⟩ := k _ rfl T hT X
  refine ⟨t, ?_, q⟩
  have h1 := X.baloadOut hexec (by rw [hT]; exact hP q0 _ ha) ((hK.2 t0 _ ht).1 n (fun j => .int (f j))) (j := i) (by show (i < 0 ∨ (arrV _ _ _).slots.size ≤ _); rw [arrV_size]; exact Classical.byContradiction hout) (g := F0 m pc ls (.int i :: .ref a :: rest)) rfl (rest := rest) rfl (by rw [hb]; exact hdg) t
  simp only [arrV_size] at h1
  exact h1 st
theorem vx_zastZ {D : va_G} {cl : List vw_C} {ws : va_W} {tys : List (ClassId × FieldType)} {a : Nat} (hexec : p.tables.exec = Jvm.exec) (hb : c.code = cc) (hK : va_K D cl tys s) (hP : va_P D cl ws H) (q0 t0 : Nat) {cA : ClassId} {n : Nat} {f : Nat → Int32} (ha : ws[q0]? = some (a, .inl (cA, n, .inl f))) (ht : tys[t0]? = some (cA, .boolean)) {i : Int32} {x : Int32} (hout : ¬ vp_in i n) (hdg : decode cc pc = .ok (.bastore, 1))
    (k : ∀ tx : String, tx = (toString "Index " ++ toString i ++ toString " out of bounds for length " ++ toString n : String) → vx_Note p l e R s m args below meth c H locs cells slots Q (F0 m pc ls rest) "java/lang/ArrayIndexOutOfBoundsException" tx) : W p l e R s m args below meth c H locs cells slots Q (F0 m pc ls (.int x :: .int i :: .ref a :: rest)) := by
  intro T hT X
  obtain ⟨t, st, q⟩ := k _ rfl T hT X
  refine ⟨t, ?_, q⟩
  have h1 := X.bastoreOut hexec (by rw [hT]; exact hP q0 _ ha) ((hK.2 t0 _ ht).1 n (fun j => .int (f j))) (j := i) (by show (i < 0 ∨ (arrV _ _ _).slots.size ≤ _); rw [arrV_size]; exact Classical.byContradiction hout) (g := F0 m pc ls (.int x :: .int i :: .ref a :: rest)) rfl (rest := rest) rfl (by rw [hb]; exact hdg) t
  simp only [arrV_size] at h1
  exact h1 st
theorem vx_caldZ {D : va_G} {cl : List vw_C} {ws : va_W} {tys : List (ClassId × FieldType)} {a : Nat} (hexec : p.tables.exec = Jvm.exec) (hb : c.code = cc) (hK : va_K D cl tys s) (hP : va_P D cl ws H) (q0 t0 : Nat) {cA : ClassId} {n : Nat} {f : Nat → Int32} (ha : ws[q0]? = some (a, .inl (cA, n, .inl f))) (ht : tys[t0]? = some (cA, .char)) {i : Int32} (hout : ¬ vp_in i n) (hdg : decode cc pc = .ok (.caload, 1))
    (k : ∀ tx : String, tx = (toString "Index " ++ toString i ++ toString " out of bounds for length " ++ toString n : String) → vx_Note p l e R s m args below meth c H locs cells slots Q (F0 m pc ls rest) "java/lang/ArrayIndexOutOfBoundsException" tx) : W p l e R s m args below meth c H locs cells slots Q (F0 m pc ls (.int i :: .ref a :: rest)) := by
  intro T hT X
  obtain ⟨t, st, q⟩ := k _ rfl T hT X
  refine ⟨t, ?_, q⟩
  have h1 := X.caloadOut hexec (by rw [hT]; exact hP q0 _ ha) ((hK.2 t0 _ ht).1 n (fun j => .int (f j))) (j := i) (by show (i < 0 ∨ (arrV _ _ _).slots.size ≤ _); rw [arrV_size]; exact Classical.byContradiction hout) (g := F0 m pc ls (.int i :: .ref a :: rest)) rfl (rest := rest) rfl (by rw [hb]; exact hdg) t
  simp only [arrV_size] at h1
  exact h1 st
theorem vx_castZ {D : va_G} {cl : List vw_C} {ws : va_W} {tys : List (ClassId × FieldType)} {a : Nat} (hexec : p.tables.exec = Jvm.exec) (hb : c.code = cc) (hK : va_K D cl tys s) (hP : va_P D cl ws H) (q0 t0 : Nat) {cA : ClassId} {n : Nat} {f : Nat → Int32} (ha : ws[q0]? = some (a, .inl (cA, n, .inl f))) (ht : tys[t0]? = some (cA, .char)) {i : Int32} {x : Int32} (hout : ¬ vp_in i n) (hdg : decode cc pc = .ok (.castore, 1))
    (k : ∀ tx : String, tx = (toString "Index " ++ toString i ++ toString " out of bounds for length " ++ toString n : String) → vx_Note p l e R s m args below meth c H locs cells slots Q (F0 m pc ls rest) "java/lang/ArrayIndexOutOfBoundsException" tx) : W p l e R s m args below meth c H locs cells slots Q (F0 m pc ls (.int x :: .int i :: .ref a :: rest)) := by
  intro T hT X
  obtain ⟨t, st, q⟩ := k _ rfl T hT X
  refine ⟨t, ?_, q⟩
  have h1 := X.castoreOut hexec (by rw [hT]; exact hP q0 _ ha) ((hK.2 t0 _ ht).1 n (fun j => .int (f j))) (j := i) (by show (i < 0 ∨ (arrV _ _ _).slots.size ≤ _); rw [arrV_size]; exact Classical.byContradiction hout) (g := F0 m pc ls (.int x :: .int i :: .ref a :: rest)) rfl (rest := rest) rfl (by rw [hb]; exact hdg) t
  simp only [arrV_size] at h1
  exact h1 st
theorem vx_saldZ {D : va_G} {cl : List vw_C} {ws : va_W} {tys : List (ClassId × FieldType)} {a : Nat} (hexec : p.tables.exec = Jvm.exec) (hb : c.code = cc) (hK : va_K D cl tys s) (hP : va_P D cl ws H) (q0 t0 : Nat) {cA : ClassId} {n : Nat} {f : Nat → Int32} (ha : ws[q0]? = some (a, .inl (cA, n, .inl f))) (ht : tys[t0]? = some (cA, .short)) {i : Int32} (hout : ¬ vp_in i n) (hdg : decode cc pc = .ok (.saload, 1))
    (k : ∀ tx : String, tx = (toString "Index " ++ toString i ++ toString " out of bounds for length " ++ toString n : String) → vx_Note p l e R s m args below meth c H locs cells slots Q (F0 m pc ls rest) "java/lang/ArrayIndexOutOfBoundsException" tx) : W p l e R s m args below meth c H locs cells slots Q (F0 m pc ls (.int i :: .ref a :: rest)) := by
  intro T hT X
  obtain ⟨t, st, q⟩ := k _ rfl T hT X
  refine ⟨t, ?_, q⟩
  have h1 := X.saloadOut hexec (by rw [hT]; exact hP q0 _ ha) ((hK.2 t0 _ ht).1 n (fun j => .int (f j))) (j := i) (by show (i < 0 ∨ (arrV _ _ _).slots.size ≤ _); rw [arrV_size]; exact Classical.byContradiction hout) (g := F0 m pc ls (.int i :: .ref a :: rest)) rfl (rest := rest) rfl (by rw [hb]; exact hdg) t
  simp only [arrV_size] at h1
  exact h1 st
theorem vx_sastZ {D : va_G} {cl : List vw_C} {ws : va_W} {tys : List (ClassId × FieldType)} {a : Nat} (hexec : p.tables.exec = Jvm.exec) (hb : c.code = cc) (hK : va_K D cl tys s) (hP : va_P D cl ws H) (q0 t0 : Nat) {cA : ClassId} {n : Nat} {f : Nat → Int32} (ha : ws[q0]? = some (a, .inl (cA, n, .inl f))) (ht : tys[t0]? = some (cA, .short)) {i : Int32} {x : Int32} (hout : ¬ vp_in i n) (hdg : decode cc pc = .ok (.sastore, 1))
    (k : ∀ tx : String, tx = (toString "Index " ++ toString i ++ toString " out of bounds for length " ++ toString n : String) → vx_Note p l e R s m args below meth c H locs cells slots Q (F0 m pc ls rest) "java/lang/ArrayIndexOutOfBoundsException" tx) : W p l e R s m args below meth c H locs cells slots Q (F0 m pc ls (.int x :: .int i :: .ref a :: rest)) := by
  intro T hT X
  obtain ⟨t, st, q⟩ := k _ rfl T hT X
  refine ⟨t, ?_, q⟩
  have h1 := X.sastoreOut hexec (by rw [hT]; exact hP q0 _ ha) ((hK.2 t0 _ ht).1 n (fun j => .int (f j))) (j := i) (by show (i < 0 ∨ (arrV _ _ _).slots.size ≤ _); rw [arrV_size]; exact Classical.byContradiction hout) (g := F0 m pc ls (.int x :: .int i :: .ref a :: rest)) rfl (rest := rest) rfl (by rw [hb]; exact hdg) t
  simp only [arrV_size] at h1
  exact h1 st
theorem vx_laldZ {D : va_G} {cl : List vw_C} {ws : va_W} {tys : List (ClassId × FieldType)} {a : Nat} (hexec : p.tables.exec = Jvm.exec) (hb : c.code = cc) (hK : va_K D cl tys s) (hP : va_P D cl ws H) (q0 t0 : Nat) {cA : ClassId} {n : Nat} {f : Nat → Int64} (ha : ws[q0]? = some (a, .inl (cA, n, .inr (.inl f)))) (ht : tys[t0]? = some (cA, .long)) {i : Int32} (hout : ¬ vp_in i n) (hdg : decode cc pc = .ok (.laload, 1))
    (k : ∀ tx : String, tx = (toString "Index " ++ toString i ++ toString " out of bounds for length " ++ toString n : String) → vx_Note p l e R s m args below meth c H locs cells slots Q (F0 m pc ls rest) "java/lang/ArrayIndexOutOfBoundsException" tx) : W p l e R s m args below meth c H locs cells slots Q (F0 m pc ls (.int i :: .ref a :: rest)) := by
  intro T hT X
  obtain ⟨t, st, q⟩ := k _ rfl T hT X
  refine ⟨t, ?_, q⟩
  have h1 := X.laloadOut hexec (by rw [hT]; exact hP q0 _ ha) ((hK.2 t0 _ ht).1 n (fun j => .long (f j))) (j := i) (by show (i < 0 ∨ (arrV _ _ _).slots.size ≤ _); rw [arrV_size]; exact Classical.byContradiction hout) (g := F0 m pc ls (.int i :: .ref a :: rest)) rfl (rest := rest) rfl (by rw [hb]; exact hdg) t
  simp only [arrV_size] at h1
  exact h1 st
theorem vx_lastZ {D : va_G} {cl : List vw_C} {ws : va_W} {tys : List (ClassId × FieldType)} {a : Nat} (hexec : p.tables.exec = Jvm.exec) (hb : c.code = cc) (hK : va_K D cl tys s) (hP : va_P D cl ws H) (q0 t0 : Nat) {cA : ClassId} {n : Nat} {f : Nat → Int64} (ha : ws[q0]? = some (a, .inl (cA, n, .inr (.inl f)))) (ht : tys[t0]? = some (cA, .long)) {i : Int32} {x : Int64} (hout : ¬ vp_in i n) (hdg : decode cc pc = .ok (.lastore, 1))
    (k : ∀ tx : String, tx = (toString "Index " ++ toString i ++ toString " out of bounds for length " ++ toString n : String) → vx_Note p l e R s m args below meth c H locs cells slots Q (F0 m pc ls rest) "java/lang/ArrayIndexOutOfBoundsException" tx) : W p l e R s m args below meth c H locs cells slots Q (F0 m pc ls (.long x :: .int i :: .ref a :: rest)) := by
  intro T hT X
  obtain ⟨t, st, q⟩ := k _ rfl T hT X
  refine ⟨t, ?_, q⟩
  have h1 := X.lastoreOut hexec (by rw [hT]; exact hP q0 _ ha) ((hK.2 t0 _ ht).1 n (fun j => .long (f j))) (j := i) (by show (i < 0 ∨ (arrV _ _ _).slots.size ≤ _); rw [arrV_size]; exact Classical.byContradiction hout) (g := F0 m pc ls (.long x :: .int i :: .ref a :: rest)) rfl (rest := rest) rfl (by rw [hb]; exact hdg) t
  simp only [arrV_size] at h1
  exact h1 st
theorem vx_faldZ {D : va_G} {cl : List vw_C} {ws : va_W} {tys : List (ClassId × FieldType)} {a : Nat} (hexec : p.tables.exec = Jvm.exec) (hb : c.code = cc) (hK : va_K D cl tys s) (hP : va_P D cl ws H) (q0 t0 : Nat) {cA : ClassId} {n : Nat} {f : Nat → UInt32} (ha : ws[q0]? = some (a, .inl (cA, n, .inr (.inr (.inl f))))) (ht : tys[t0]? = some (cA, .float)) {i : Int32} (hout : ¬ vp_in i n) (hdg : decode cc pc = .ok (.faload, 1))
    (k : ∀ tx : String, tx = (toString "Index " ++ toString i ++ toString " out of bounds for length " ++ toString n : String) → vx_Note p l e R s m args below meth c H locs cells slots Q (F0 m pc ls rest) "java/lang/ArrayIndexOutOfBoundsException" tx) : W p l e R s m args below meth c H locs cells slots Q (F0 m pc ls (.int i :: .ref a :: rest)) := by
  intro T hT X
  obtain ⟨t, st, q⟩ := k _ rfl T hT X
  refine ⟨t, ?_, q⟩
  have h1 := X.faloadOut hexec (by rw [hT]; exact hP q0 _ ha) ((hK.2 t0 _ ht).1 n (fun j => .float (f j))) (j := i) (by show (i < 0 ∨ (arrV _ _ _).slots.size ≤ _); rw [arrV_size]; exact Classical.byContradiction hout) (g := F0 m pc ls (.int i :: .ref a :: rest)) rfl (rest := rest) rfl (by rw [hb]; exact hdg) t
  simp only [arrV_size] at h1
  exact h1 st
theorem vx_fastZ {D : va_G} {cl : List vw_C} {ws : va_W} {tys : List (ClassId × FieldType)} {a : Nat} (hexec : p.tables.exec = Jvm.exec) (hb : c.code = cc) (hK : va_K D cl tys s) (hP : va_P D cl ws H) (q0 t0 : Nat) {cA : ClassId} {n : Nat} {f : Nat → UInt32} (ha : ws[q0]? = some (a, .inl (cA, n, .inr (.inr (.inl f))))) (ht : tys[t0]? = some (cA, .float)) {i : Int32} {x : UInt32} (hout : ¬ vp_in i n) (hdg : decode cc pc = .ok (.fastore, 1))
    (k : ∀ tx : String, tx = (toString "Index " ++ toString i ++ toString " out of bounds for length " ++ toString n : String) → vx_Note p l e R s m args below meth c H locs cells slots Q (F0 m pc ls rest) "java/lang/ArrayIndexOutOfBoundsException" tx) : W p l e R s m args below meth c H locs cells slots Q (F0 m pc ls (.float x :: .int i :: .ref a :: rest)) := by
  intro T hT X
  obtain ⟨t, st, q⟩ := k _ rfl T hT X
  refine ⟨t, ?_, q⟩
  have h1 := X.fastoreOut hexec (by rw [hT]; exact hP q0 _ ha) ((hK.2 t0 _ ht).1 n (fun j => .float (f j))) (j := i) (by show (i < 0 ∨ (arrV _ _ _).slots.size ≤ _); rw [arrV_size]; exact Classical.byContradiction hout) (g := F0 m pc ls (.float x :: .int i :: .ref a :: rest)) rfl (rest := rest) rfl (by rw [hb]; exact hdg) t
  simp only [arrV_size] at h1
  exact h1 st
theorem vx_daldZ {D : va_G} {cl : List vw_C} {ws : va_W} {tys : List (ClassId × FieldType)} {a : Nat} (hexec : p.tables.exec = Jvm.exec) (hb : c.code = cc) (hK : va_K D cl tys s) (hP : va_P D cl ws H) (q0 t0 : Nat) {cA : ClassId} {n : Nat} {f : Nat → UInt64} (ha : ws[q0]? = some (a, .inl (cA, n, .inr (.inr (.inr (.inl f)))))) (ht : tys[t0]? = some (cA, .double)) {i : Int32} (hout : ¬ vp_in i n) (hdg : decode cc pc = .ok (.daload, 1))
    (k : ∀ tx : String, tx = (toString "Index " ++ toString i ++ toString " out of bounds for length " ++ toString n : String) → vx_Note p l e R s m args below meth c H locs cells slots Q (F0 m pc ls rest) "java/lang/ArrayIndexOutOfBoundsException" tx) : W p l e R s m args below meth c H locs cells slots Q (F0 m pc ls (.int i :: .ref a :: rest)) := by
  intro T hT X
  obtain ⟨t, st, q⟩ := k _ rfl T hT X
  refine ⟨t, ?_, q⟩
  have h1 := X.daloadOut hexec (by rw [hT]; exact hP q0 _ ha) ((hK.2 t0 _ ht).1 n (fun j => .double (f j))) (j := i) (by show (i < 0 ∨ (arrV _ _ _).slots.size ≤ _); rw [arrV_size]; exact Classical.byContradiction hout) (g := F0 m pc ls (.int i :: .ref a :: rest)) rfl (rest := rest) rfl (by rw [hb]; exact hdg) t
  simp only [arrV_size] at h1
  exact h1 st
theorem vx_dastZ {D : va_G} {cl : List vw_C} {ws : va_W} {tys : List (ClassId × FieldType)} {a : Nat} (hexec : p.tables.exec = Jvm.exec) (hb : c.code = cc) (hK : va_K D cl tys s) (hP : va_P D cl ws H) (q0 t0 : Nat) {cA : ClassId} {n : Nat} {f : Nat → UInt64} (ha : ws[q0]? = some (a, .inl (cA, n, .inr (.inr (.inr (.inl f)))))) (ht : tys[t0]? = some (cA, .double)) {i : Int32} {x : UInt64} (hout : ¬ vp_in i n) (hdg : decode cc pc = .ok (.dastore, 1))
    (k : ∀ tx : String, tx = (toString "Index " ++ toString i ++ toString " out of bounds for length " ++ toString n : String) → vx_Note p l e R s m args below meth c H locs cells slots Q (F0 m pc ls rest) "java/lang/ArrayIndexOutOfBoundsException" tx) : W p l e R s m args below meth c H locs cells slots Q (F0 m pc ls (.double x :: .int i :: .ref a :: rest)) := by
  intro T hT X
  obtain ⟨t, st, q⟩ := k _ rfl T hT X
  refine ⟨t, ?_, q⟩
  have h1 := X.dastoreOut hexec (by rw [hT]; exact hP q0 _ ha) ((hK.2 t0 _ ht).1 n (fun j => .double (f j))) (j := i) (by show (i < 0 ∨ (arrV _ _ _).slots.size ≤ _); rw [arrV_size]; exact Classical.byContradiction hout) (g := F0 m pc ls (.double x :: .int i :: .ref a :: rest)) rfl (rest := rest) rfl (by rw [hb]; exact hdg) t
  simp only [arrV_size] at h1
  exact h1 st
theorem vx_arraylengthN (hexec : p.tables.exec = Jvm.exec) (hb : c.code = cc) (hdg : decode cc pc = .ok (.arraylength, 1)) (k : vx_NoteN p l e R s m args below meth c H locs cells slots Q (F0 m pc ls rest)) : W p l e R s m args below meth c H locs cells slots Q (F0 m pc ls (.null :: rest)) := by
  intro T hT X
  obtain ⟨t, st, q⟩ := k T hT X
  exact ⟨t, X.arraylengthNull hexec (g := F0 m pc ls (.null :: rest)) rfl (rest := rest) rfl (by rw [hb]; exact hdg) t st, q⟩
theorem vx_ialoadN (hexec : p.tables.exec = Jvm.exec) (hb : c.code = cc) {i : Int32} (hdg : decode cc pc = .ok (.iaload, 1)) (k : vx_NoteN p l e R s m args below meth c H locs cells slots Q (F0 m pc ls rest)) : W p l e R s m args below meth c H locs cells slots Q (F0 m pc ls (.int i :: .null :: rest)) := by
  intro T hT X
  obtain ⟨t, st, q⟩ := k T hT X
  exact ⟨t, X.ialoadNull hexec (g := F0 m pc ls (.int i :: .null :: rest)) rfl (rest := rest) rfl (by rw [hb]; exact hdg) t st, q⟩
theorem vx_laloadN (hexec : p.tables.exec = Jvm.exec) (hb : c.code = cc) {i : Int32} (hdg : decode cc pc = .ok (.laload, 1)) (k : vx_NoteN p l e R s m args below meth c H locs cells slots Q (F0 m pc ls rest)) : W p l e R s m args below meth c H locs cells slots Q (F0 m pc ls (.int i :: .null :: rest)) := by
  intro T hT X
  obtain ⟨t, st, q⟩ := k T hT X
  exact ⟨t, X.laloadNull hexec (g := F0 m pc ls (.int i :: .null :: rest)) rfl (rest := rest) rfl (by rw [hb]; exact hdg) t st, q⟩
theorem vx_faloadN (hexec : p.tables.exec = Jvm.exec) (hb : c.code = cc) {i : Int32} (hdg : decode cc pc = .ok (.faload, 1)) (k : vx_NoteN p l e R s m args below meth c H locs cells slots Q (F0 m pc ls rest)) : W p l e R s m args below meth c H locs cells slots Q (F0 m pc ls (.int i :: .null :: rest)) := by
  intro T hT X
  obtain ⟨t, st, q⟩ := k T hT X
  exact ⟨t, X.faloadNull hexec (g := F0 m pc ls (.int i :: .null :: rest)) rfl (rest := rest) rfl (by rw [hb]; exact hdg) t st, q⟩
theorem vx_daloadN (hexec : p.tables.exec = Jvm.exec) (hb : c.code = cc) {i : Int32} (hdg : decode cc pc = .ok (.daload, 1)) (k : vx_NoteN p l e R s m args below meth c H locs cells slots Q (F0 m pc ls rest)) : W p l e R s m args below meth c H locs cells slots Q (F0 m pc ls (.int i :: .null :: rest)) := by
  intro T hT X
  obtain ⟨t, st, q⟩ := k T hT X
  exact ⟨t, X.daloadNull hexec (g := F0 m pc ls (.int i :: .null :: rest)) rfl (rest := rest) rfl (by rw [hb]; exact hdg) t st, q⟩
theorem vx_aaloadN (hexec : p.tables.exec = Jvm.exec) (hb : c.code = cc) {i : Int32} (hdg : decode cc pc = .ok (.aaload, 1)) (k : vx_NoteN p l e R s m args below meth c H locs cells slots Q (F0 m pc ls rest)) : W p l e R s m args below meth c H locs cells slots Q (F0 m pc ls (.int i :: .null :: rest)) := by
  intro T hT X
  obtain ⟨t, st, q⟩ := k T hT X
  exact ⟨t, X.aaloadNull hexec (g := F0 m pc ls (.int i :: .null :: rest)) rfl (rest := rest) rfl (by rw [hb]; exact hdg) t st, q⟩
theorem vx_baloadN (hexec : p.tables.exec = Jvm.exec) (hb : c.code = cc) {i : Int32} (hdg : decode cc pc = .ok (.baload, 1)) (k : vx_NoteN p l e R s m args below meth c H locs cells slots Q (F0 m pc ls rest)) : W p l e R s m args below meth c H locs cells slots Q (F0 m pc ls (.int i :: .null :: rest)) := by
  intro T hT X
  obtain ⟨t, st, q⟩ := k T hT X
  exact ⟨t, X.baloadNull hexec (g := F0 m pc ls (.int i :: .null :: rest)) rfl (rest := rest) rfl (by rw [hb]; exact hdg) t st, q⟩
theorem vx_caloadN (hexec : p.tables.exec = Jvm.exec) (hb : c.code = cc) {i : Int32} (hdg : decode cc pc = .ok (.caload, 1)) (k : vx_NoteN p l e R s m args below meth c H locs cells slots Q (F0 m pc ls rest)) : W p l e R s m args below meth c H locs cells slots Q (F0 m pc ls (.int i :: .null :: rest)) := by
  intro T hT X
  obtain ⟨t, st, q⟩ := k T hT X
  exact ⟨t, X.caloadNull hexec (g := F0 m pc ls (.int i :: .null :: rest)) rfl (rest := rest) rfl (by rw [hb]; exact hdg) t st, q⟩
theorem vx_saloadN (hexec : p.tables.exec = Jvm.exec) (hb : c.code = cc) {i : Int32} (hdg : decode cc pc = .ok (.saload, 1)) (k : vx_NoteN p l e R s m args below meth c H locs cells slots Q (F0 m pc ls rest)) : W p l e R s m args below meth c H locs cells slots Q (F0 m pc ls (.int i :: .null :: rest)) := by
  intro T hT X
  obtain ⟨t, st, q⟩ := k T hT X
  exact ⟨t, X.saloadNull hexec (g := F0 m pc ls (.int i :: .null :: rest)) rfl (rest := rest) rfl (by rw [hb]; exact hdg) t st, q⟩
theorem vx_iastoreN (hexec : p.tables.exec = Jvm.exec) (hb : c.code = cc) {x : Int32} {i : Int32} (hdg : decode cc pc = .ok (.iastore, 1)) (k : vx_NoteN p l e R s m args below meth c H locs cells slots Q (F0 m pc ls rest)) : W p l e R s m args below meth c H locs cells slots Q (F0 m pc ls (.int x :: .int i :: .null :: rest)) := by
  intro T hT X
  obtain ⟨t, st, q⟩ := k T hT X
  exact ⟨t, X.iastoreNull hexec (g := F0 m pc ls (.int x :: .int i :: .null :: rest)) rfl (rest := rest) rfl (by rw [hb]; exact hdg) t st, q⟩
theorem vx_lastoreN (hexec : p.tables.exec = Jvm.exec) (hb : c.code = cc) {x : Int64} {i : Int32} (hdg : decode cc pc = .ok (.lastore, 1)) (k : vx_NoteN p l e R s m args below meth c H locs cells slots Q (F0 m pc ls rest)) : W p l e R s m args below meth c H locs cells slots Q (F0 m pc ls (.long x :: .int i :: .null :: rest)) := by
  intro T hT X
  obtain ⟨t, st, q⟩ := k T hT X
  exact ⟨t, X.lastoreNull hexec (g := F0 m pc ls (.long x :: .int i :: .null :: rest)) rfl (rest := rest) rfl (by rw [hb]; exact hdg) t st, q⟩
theorem vx_fastoreN (hexec : p.tables.exec = Jvm.exec) (hb : c.code = cc) {x : UInt32} {i : Int32} (hdg : decode cc pc = .ok (.fastore, 1)) (k : vx_NoteN p l e R s m args below meth c H locs cells slots Q (F0 m pc ls rest)) : W p l e R s m args below meth c H locs cells slots Q (F0 m pc ls (.float x :: .int i :: .null :: rest)) := by
  intro T hT X
  obtain ⟨t, st, q⟩ := k T hT X
  exact ⟨t, X.fastoreNull hexec (g := F0 m pc ls (.float x :: .int i :: .null :: rest)) rfl (rest := rest) rfl (by rw [hb]; exact hdg) t st, q⟩
theorem vx_dastoreN (hexec : p.tables.exec = Jvm.exec) (hb : c.code = cc) {x : UInt64} {i : Int32} (hdg : decode cc pc = .ok (.dastore, 1)) (k : vx_NoteN p l e R s m args below meth c H locs cells slots Q (F0 m pc ls rest)) : W p l e R s m args below meth c H locs cells slots Q (F0 m pc ls (.double x :: .int i :: .null :: rest)) := by
  intro T hT X
  obtain ⟨t, st, q⟩ := k T hT X
  exact ⟨t, X.dastoreNull hexec (g := F0 m pc ls (.double x :: .int i :: .null :: rest)) rfl (rest := rest) rfl (by rw [hb]; exact hdg) t st, q⟩
theorem vx_bastoreN (hexec : p.tables.exec = Jvm.exec) (hb : c.code = cc) {x : Int32} {i : Int32} (hdg : decode cc pc = .ok (.bastore, 1)) (k : vx_NoteN p l e R s m args below meth c H locs cells slots Q (F0 m pc ls rest)) : W p l e R s m args below meth c H locs cells slots Q (F0 m pc ls (.int x :: .int i :: .null :: rest)) := by
  intro T hT X
  obtain ⟨t, st, q⟩ := k T hT X
  exact ⟨t, X.bastoreNull hexec (g := F0 m pc ls (.int x :: .int i :: .null :: rest)) rfl (rest := rest) rfl (by rw [hb]; exact hdg) t st, q⟩
theorem vx_castoreN (hexec : p.tables.exec = Jvm.exec) (hb : c.code = cc) {x : Int32} {i : Int32} (hdg : decode cc pc = .ok (.castore, 1)) (k : vx_NoteN p l e R s m args below meth c H locs cells slots Q (F0 m pc ls rest)) : W p l e R s m args below meth c H locs cells slots Q (F0 m pc ls (.int x :: .int i :: .null :: rest)) := by
  intro T hT X
  obtain ⟨t, st, q⟩ := k T hT X
  exact ⟨t, X.castoreNull hexec (g := F0 m pc ls (.int x :: .int i :: .null :: rest)) rfl (rest := rest) rfl (by rw [hb]; exact hdg) t st, q⟩
theorem vx_sastoreN (hexec : p.tables.exec = Jvm.exec) (hb : c.code = cc) {x : Int32} {i : Int32} (hdg : decode cc pc = .ok (.sastore, 1)) (k : vx_NoteN p l e R s m args below meth c H locs cells slots Q (F0 m pc ls rest)) : W p l e R s m args below meth c H locs cells slots Q (F0 m pc ls (.int x :: .int i :: .null :: rest)) := by
  intro T hT X
  obtain ⟨t, st, q⟩ := k T hT X
  exact ⟨t, X.sastoreNull hexec (g := F0 m pc ls (.int x :: .int i :: .null :: rest)) rfl (rest := rest) rfl (by rw [hb]; exact hdg) t st, q⟩
theorem vx_invokeN {own C : String} {index maxL : Nat} {y : MethodName} {bytes : ByteArray} {ret : Option FieldType} (hexec : p.tables.exec = Jvm.exec) (hb : c.code = cc) (hown : s.vm.findClass own = some m.cls) (hlink : (Cond.methodLink own index y).before args s = true) (hinst : (Cond.instanceMethod y).before args s = true) (hcode : (Cond.code y bytes maxL ret).before args s = true) (hsel : (Cond.selects C y y).before args s = true)
    (hx : y.cls ≠ "java/lang/invoke/MethodHandle" ∧ y.cls ≠ "java/lang/invoke/VarHandle") {As : List Value} (hlen : (parseMethodDescriptor y.desc).map (fun d => d.parameters.length) = some As.length) (hdg : decode cc pc = .ok (.invokevirtual index, 3))
    (k : vx_NoteN p l e R s m args below meth c H locs cells slots Q (F0 m pc ls rest)) {st0 : List Value} (hst : st0 = As.reverse ++ .null :: rest) : W p l e R s m args below meth c H locs cells slots Q (F0 m pc ls st0) := by
  intro T hT X
  obtain ⟨r0, r, hn, hrm, hstR, hsigR⟩ := va_Decl.of hinst hcode
  obtain ⟨c2, r2, m2, q1, q2, q3, q4, kP, hkP, hkPi⟩ := Cond.selects_spec hsel
  cases hn.symm.trans q3
  have hl9 : As.length = r.sig.parameters.length := by
    rw [hsigR] at hlen
    exact (Option.some.inj hlen).symm
  obtain ⟨vm', X1, st1⟩ := X.invokevirtualNull hexec hown hlink hn hrm hstR hkP hkPi hx (g := F0 m pc ls st0) rfl (argsL := As) (rest := rest) hl9 hst (by rw [hb]; exact hdg)
  obtain ⟨t, st, q⟩ := k (T.setVm vm') hT X1
  exact ⟨t, st1 t st, q⟩
theorem vx_newarrayZ {atype : ArrayType} (hexec : p.tables.exec = Jvm.exec) (hb : c.code = cc) {n : Int32} (h0 : n < 0) (hdg : decode cc pc = .ok (.newarray atype, 2)) (k : ∀ tx : String, tx = toString n → vx_Note p l e R s m args below meth c H locs cells slots Q (F0 m pc ls rest) "java/lang/NegativeArraySizeException" tx) : W p l e R s m args below meth c H locs cells slots Q (F0 m pc ls (.int n :: rest)) := by
  intro T hT X
  obtain ⟨t, st, q⟩ := k _ rfl T hT X
  exact ⟨t, X.newarrayNegative hexec (g := F0 m pc ls (.int n :: rest)) rfl h0 (rest := rest) rfl (by rw [hb]; exact hdg) t st, q⟩
end
end VXM
/-! ===== END ===== -/
/-! ===== BEGIN an exception as an object: made, kept, thrown later (no traces kept) ===== -/
section VXK
variable {p : Program} {l : Launch} {e : Env} {R : Room} {s : State} {m₀ : MethodId} {args : Array Value} {below : List Frame} {meth : Method} {c : Code} {W : State} {locs : List Loc} {cells slots : Nat}
set_option maxHeartbeats 1000000 in
theorem vx_ctorMadeS (X : Stand p l e R s m₀ args below meth c W locs cells slots) (hexec : p.tables.exec = Jvm.exec) (htr : e.platform.stackTraces = false) {own cls : String} {names : List String} {ic : Nat}
    (hown : s.vm.findClass own = some m₀.cls) (hcls : Bundle.fit cls = true) (hnames : ∀ n ∈ names, Bundle.fit n = true)
    (h : ∀ a ∈ Bundle.ownAtoms own ic cls names, a.before args s = true)
    (hlocs : ∀ x ∈ locs, ∀ cell, s.heap[x.base]? = some cell → cell.vm.isStatics = false)
    {a : Addr} {cX : ClassId} {kX : Class} (hfoundX : s.vm.findClass cls = some cX) (hkX : s.vm.classes[cX]? = some kX) (hcell : W.heap[a]? = some (freshCell cX kX)) (hnew : s.heap.size ≤ a)
    {msg : Value} (hmsg : msg.isRef = true)
    {g : JFrame} (hg : g.method = m₀) (hsize : g.locals.size = c.maxLocals) {rest : List Value} (hstack : g.stack = msg :: .ref a :: .ref a :: rest)
    (hd6 : decode c.code g.pc = .ok (.invokespecial ic, 3))
    (hRframes : names.length + 3 < R.frames) (hRlocals : 2 * g.monitorRoom + ((Value.ref a :: rest).map fun v => v.category).sum + (13 * (names.length + 1) + 42) ≤ R.locals) :
    ∃ (V : State) (ce : Cell) (L : List Loc), Stand p l e R s m₀ args below meth c (V.setCell a ce) (locs ++ L) cells slots ∧ (∀ y ∈ L, y.base = a) ∧ a < V.heap.size ∧ ce.cls = cX ∧ ce.vm = .none ∧
      ∀ target, Steps p.tables e below ((V.setCell a ce).setTop { g with stack := .ref a :: rest, pc := g.pc + 3 }) target → Steps p.tables e below (W.setTop g) target := by
  have howns : e.platform.frameOwnsMonitors = true := by rw [X.admits.platform]
  have hfin : e.platform.finalization = false := by rw [X.admits.platform]
  have hpl : e.platform.magicAccessors = ({} : Platform).magicAccessors := by rw [X.admits.platform]
  have a' : ∀ x, x ∈ Bundle.ownAtoms own ic cls names → x.holds args s none s [] = true := fun x hx => h x hx
  obtain ⟨T, Z0, L, -, Y⟩ := ThrowableC.of_atoms (args := args) howns hfin hpl (fun x hx => h x (by simp [Bundle.ownAtoms, hx]))
  obtain ⟨Z, M, LZ, LM, hnZ⟩ := Init0T.ofS_atoms (args := args) hpl L Y (fun x hx => h x (by simp [Bundle.ownAtoms, hx]))
  obtain ⟨P1, Ps, hlen, L1, hL, hP1m, hlink1, hlink⟩ := Bundle.chainS (args := args) hpl hnZ names cls hcls hnames (fun x hx => h x (by simp [Bundle.ownAtoms, hx]))
  have hfound : s.vm.findClass cls = some P1.m.cls := findClass_of_methodNamed hP1m
  cases Option.some.inj (hfoundX.symm.trans hfound)
  obtain ⟨c1, kX', hc1, hk, hord, -, -, hn6⟩ := Cond.instantiable_spec (a' (.instantiable cls 6) (by simp [Bundle.ownAtoms]))
  cases Option.some.inj (hc1.symm.trans hfound)
  cases Option.some.inj (hkX.symm.trans hk)
  have hsel0 : selectMethod e.platform s.vm P1.m.cls T.fill0 = .method T.fill0 := by
    obtain ⟨c2, r2, m2, q1, q2, q3, q4, -⟩ := Cond.selects_spec (a' (.selects cls Bundle.tFill0 Bundle.tFill0) (by simp [Bundle.ownAtoms]))
    cases Option.some.inj (q1.symm.trans hfound)
    cases Option.some.inj (q2.symm.trans (State.methodFound?_of_named Y.fill0 (by decide)))
    cases Option.some.inj (q3.symm.trans Y.fill0)
    rw [Launch.admits_selectMethod X.admits]; exact q4
  have hselF : selectMethod e.platform s.vm P1.m.cls T.fill = .method T.fill := by
    obtain ⟨c2, r2, m2, q1, q2, q3, q4, -⟩ := Cond.selects_spec (a' (.selects cls Bundle.tFill Bundle.tFill) (by simp [Bundle.ownAtoms]))
    cases Option.some.inj (q1.symm.trans hfound)
    cases Option.some.inj (q2.symm.trans (State.methodFound?_of_named Y.fill (by decide)))
    cases Option.some.inj (q3.symm.trans Y.fill)
    rw [Launch.admits_selectMethod X.admits]; exact q4
  obtain ⟨cellS0, hcS0, hiss⟩ := Y.statics
  obtain ⟨u0, hu0⟩ := Cond.staticRefV Y.unassigned L.unassignedStatic L.statics hcS0 hiss (a' (.isRef (.static Bundle.tN "UNASSIGNED_STACK" Bundle.steD)) (by simp [Bundle.ownAtoms]))
  obtain ⟨sen, hsen⟩ := Cond.staticRefV Y.sentinel L.sentinelStatic L.statics hcS0 hiss (a' (.isRef (.static Bundle.tN "SUPPRESSED_SENTINEL" Bundle.listD)) (by simp [Bundle.ownAtoms]))
  obtain ⟨ci198, i198, fB, hk198, hg198, ha198, hsB, -, hnB, htB, hffB⟩ := Cond.ownField (t := .object "java/lang/Object") Y.found L.cls (by decide +kernel) (a' (.fieldLink Bundle.tN 198 Bundle.tN "backtrace" "Ljava/lang/Object;") (by simp [Bundle.ownAtoms])) (a' (.lays Bundle.tN Bundle.tN "backtrace" "Ljava/lang/Object;") (by simp [Bundle.ownAtoms])) e.platform hpl
  obtain ⟨cellS, hcS', heS, -, hkeep⟩ := X.same.2.2.2.2.2 T.aS cellS0 hcS0
  have hcellS : W.heap[T.aS]? = some cellS := hcS'
  have hout' : ∀ i, (⟨T.aS, i⟩ : Loc) ∉ locs := fun i hmem => by
    have := hlocs _ hmem cellS0 hcS0
    rw [hiss] at this; cases this
  have hknownS : cellS.vm ≠ .unknown := by
    rw [heS]; intro hu
    rw [show cellS0.vm = .unknown from hu] at hiss
    cases hiss
  have hneS : T.aS ≠ a := Nat.ne_of_lt (Nat.lt_of_lt_of_le (Array.getElem?_eq_some_iff.mp hcS0).1 hnew)
  obtain ⟨iM, hffM⟩ := Y.msg
  obtain ⟨tyC, dC, hdC, hdnC⟩ := Cond.laysAt hfound hk Y.cause (a' (.lays cls Bundle.tN "cause" "Ljava/lang/Throwable;") (by simp [Bundle.ownAtoms]))
  obtain ⟨tyS, dS, hdS, hdnS⟩ := Cond.laysAt hfound hk Y.stack (a' (.lays cls Bundle.tN "stackTrace" Bundle.steD) (by simp [Bundle.ownAtoms]))
  obtain ⟨tyP, dP, hdP, hdnP⟩ := Cond.laysAt hfound hk Y.supp (a' (.lays cls Bundle.tN "suppressedExceptions" Bundle.listD) (by simp [Bundle.ownAtoms]))
  obtain ⟨tyM, dM, hdM, hdnM⟩ := Cond.laysAt hfound hk hffM (a' (.lays cls Bundle.tN "detailMessage" "Ljava/lang/String;") (by simp [Bundle.ownAtoms]))
  obtain ⟨tyB, dB, hdB, hdnB⟩ := Cond.laysAt hfound hk hffB (a' (.lays cls Bundle.tN "backtrace" "Ljava/lang/Object;") (by simp [Bundle.ownAtoms]))
  have bC := Cond.laysApart hdB hdC hdnB hdnC (by rw [hnB, Y.causeName]; decide)
  have bS := Cond.laysApart hdB hdS hdnB hdnS (by rw [hnB, Y.stackName]; decide)
  have bP := Cond.laysApart hdB hdP hdnB hdnP (by rw [hnB, Y.suppName]; decide)
  have hskip : SkipFacts T e.platform s (fun u => u) u0 ((preparedCellV T.toThrowableT (freshCell P1.m.cls kX) a u0 sen).withEntry W.cur) :=
    ⟨{ ci198 := ci198, i198 := i198, fBack := fB }, ⟨hk198, hg198, ha198, hsB⟩, by
      have := fresh_default (c := P1.m.cls) tyB
      rw [htB] at this
      simpa [preparedCellV, Cell.setSlot, Cell.withEntry, Array.getElem?_setIfInBounds, bC, bS, bP, bC.symm, bS.symm, bP.symm, defaultValue] using this, fun _ _ => rfl⟩
  obtain ⟨tm, methC, cdC, kC, vm₁, hnC, -, -, -, -, -, -, -, hW₁, st1⟩ := Steps.initColdS (tb := p.tables) (e := e) (below := below) (s := s) (U := W) X.here hexec X.warmed hpl hown (t := Bundle.initS cls) rfl rfl (Bundle.fit_spec hcls).2
    (a' (.methodLink own ic (Bundle.initS cls)) (by simp [Bundle.ownAtoms])) (h (.instanceMethod (Bundle.initS cls)) (by cases names <;> simp [Bundle.ownAtoms, Bundle.chainSAtoms, Bundle.passSAtoms])) (bytes := Bundle.six) (maxL := 2) (h (.code (Bundle.initS cls) Bundle.six 2 none) (by cases names <;> simp [Bundle.ownAtoms, Bundle.chainSAtoms, Bundle.passSAtoms]))
    (f := g) hg (a := a) (msg := msg) (rest := .ref a :: rest) hstack hd6
  cases Option.some.inj (hnC.symm.trans hP1m)
  have X₁ := X.noted hW₁
  obtain ⟨vm₂, X₂, st2⟩ := X₁.ctorMessageOffV hexec (g := { g with stack := .ref a :: rest }) hg hsize T L Z LZ M LM (P1 :: Ps)
    (fun P hP => by rcases List.mem_cons.mp hP with rfl | hP; exact L1; exact hL P hP) ⟨hlink1, hlink⟩ (u0 := u0) (sen := sen) (self := a) hmsg (cell := freshCell P1.m.cls kX) (cellS := cellS)
    hcell (fun _ => by simp) (by simp) rfl rfl hsel0 hselF hcellS hneS hknownS (by rw [hkeep _ (hout' _)]; exact hu0) (by rw [hkeep _ (hout' _)]; exact hsen)
    (Takes.of_laid hk hord tyC (by rw [Y.causeType]; rfl)) (Takes.of_laid hk hord tyS (by rw [Y.stackType]; exact fits_refV_array _ u0)) (Takes.of_laid hk hord tyP (by rw [Y.suppType]; exact fits_refV_object _ sen))
    (Takes.of_laid hk hord tyM (by rw [Y.msgType]; exact fits_refV_object _ ⟨msg, hmsg⟩)) Y.objLocals hskip htr [] hd6
    (by simp only [List.length_cons, hlen]; omega) (by simp only [List.length_cons, hlen]; exact hRlocals)
  have hlt : a < ((W.setVm vm₁).setVm vm₂).heap.size := (Array.getElem?_eq_some_iff.mp hcell).1
  refine ⟨(W.setVm vm₁).setVm vm₂, _, _, X₂, fun y hy => ?_, hlt, rfl, rfl, fun target hwalk => st1 _ (fun acts => ?_)⟩
  · simp only [List.mem_cons, List.not_mem_nil, or_false] at hy
    rcases hy with rfl | rfl | rfl | rfl | rfl <;> rfl
  · rw [doInvoke_state]
    exact st2 _ hwalk
set_option maxHeartbeats 1000000 in
theorem vx_ctorMade0 (X : Stand p l e R s m₀ args below meth c W locs cells slots) (hexec : p.tables.exec = Jvm.exec) (htr : e.platform.stackTraces = false) {own cls : String} {names : List String} {ic : Nat}
    (hown : s.vm.findClass own = some m₀.cls) (hcls : Bundle.fit cls = true) (hnames : ∀ n ∈ names, Bundle.fit n = true)
    (h : ∀ a ∈ Bundle.ownAtoms0 own ic cls names, a.before args s = true)
    (hlocs : ∀ x ∈ locs, ∀ cell, s.heap[x.base]? = some cell → cell.vm.isStatics = false)
    {a : Addr} {cX : ClassId} {kX : Class} (hfoundX : s.vm.findClass cls = some cX) (hkX : s.vm.classes[cX]? = some kX) (hcell : W.heap[a]? = some (freshCell cX kX)) (hnew : s.heap.size ≤ a)
    {g : JFrame} (hg : g.method = m₀) (hsize : g.locals.size = c.maxLocals) {rest : List Value} (hstack : g.stack = .ref a :: .ref a :: rest)
    (hd6 : decode c.code g.pc = .ok (.invokespecial ic, 3))
    (hRframes : names.length + 3 < R.frames) (hRlocals : 2 * g.monitorRoom + ((Value.ref a :: rest).map fun v => v.category).sum + (13 * (names.length + 1) + 41) ≤ R.locals) :
    ∃ (V : State) (ce : Cell) (L : List Loc), Stand p l e R s m₀ args below meth c (V.setCell a ce) (locs ++ L) cells slots ∧ (∀ y ∈ L, y.base = a) ∧ a < V.heap.size ∧ ce.cls = cX ∧ ce.vm = .none ∧
      ∀ target, Steps p.tables e below ((V.setCell a ce).setTop { g with stack := .ref a :: rest, pc := g.pc + 3 }) target → Steps p.tables e below (W.setTop g) target := by
  have howns : e.platform.frameOwnsMonitors = true := by rw [X.admits.platform]
  have hfin : e.platform.finalization = false := by rw [X.admits.platform]
  have hpl : e.platform.magicAccessors = ({} : Platform).magicAccessors := by rw [X.admits.platform]
  have a' : ∀ x, x ∈ Bundle.ownAtoms0 own ic cls names → x.holds args s none s [] = true := fun x hx => h x hx
  obtain ⟨T, Z, L, LZ, Y⟩ := ThrowableC.of_atoms (args := args) howns hfin hpl (fun x hx => h x (by simp [Bundle.ownAtoms0, hx]))
  obtain ⟨P1, Ps, hlen, L1, hL, hP1m, hlink1, hlink⟩ := Bundle.chain0 (args := args) hpl Y.init0 names cls hcls hnames (fun x hx => h x (by simp [Bundle.ownAtoms0, hx]))
  have hfound : s.vm.findClass cls = some P1.m.cls := findClass_of_methodNamed hP1m
  cases Option.some.inj (hfoundX.symm.trans hfound)
  obtain ⟨c1, kX', hc1, hk, hord, -, -, hn6⟩ := Cond.instantiable_spec (a' (.instantiable cls 6) (by simp [Bundle.ownAtoms0]))
  cases Option.some.inj (hc1.symm.trans hfound)
  cases Option.some.inj (hkX.symm.trans hk)
  have hsel0 : selectMethod e.platform s.vm P1.m.cls T.fill0 = .method T.fill0 := by
    obtain ⟨c2, r2, m2, q1, q2, q3, q4, -⟩ := Cond.selects_spec (a' (.selects cls Bundle.tFill0 Bundle.tFill0) (by simp [Bundle.ownAtoms0]))
    cases Option.some.inj (q1.symm.trans hfound)
    cases Option.some.inj (q2.symm.trans (State.methodFound?_of_named Y.fill0 (by decide)))
    cases Option.some.inj (q3.symm.trans Y.fill0)
    rw [Launch.admits_selectMethod X.admits]; exact q4
  have hselF : selectMethod e.platform s.vm P1.m.cls T.fill = .method T.fill := by
    obtain ⟨c2, r2, m2, q1, q2, q3, q4, -⟩ := Cond.selects_spec (a' (.selects cls Bundle.tFill Bundle.tFill) (by simp [Bundle.ownAtoms0]))
    cases Option.some.inj (q1.symm.trans hfound)
    cases Option.some.inj (q2.symm.trans (State.methodFound?_of_named Y.fill (by decide)))
    cases Option.some.inj (q3.symm.trans Y.fill)
    rw [Launch.admits_selectMethod X.admits]; exact q4
  obtain ⟨cellS0, hcS0, hiss⟩ := Y.statics
  obtain ⟨u0, hu0⟩ := Cond.staticRefV Y.unassigned L.unassignedStatic L.statics hcS0 hiss (a' (.isRef (.static Bundle.tN "UNASSIGNED_STACK" Bundle.steD)) (by simp [Bundle.ownAtoms0]))
  obtain ⟨sen, hsen⟩ := Cond.staticRefV Y.sentinel L.sentinelStatic L.statics hcS0 hiss (a' (.isRef (.static Bundle.tN "SUPPRESSED_SENTINEL" Bundle.listD)) (by simp [Bundle.ownAtoms0]))
  obtain ⟨ci198, i198, fB, hk198, hg198, ha198, hsB, -, hnB, htB, hffB⟩ := Cond.ownField (t := .object "java/lang/Object") Y.found L.cls (by decide +kernel) (a' (.fieldLink Bundle.tN 198 Bundle.tN "backtrace" "Ljava/lang/Object;") (by simp [Bundle.ownAtoms0])) (a' (.lays Bundle.tN Bundle.tN "backtrace" "Ljava/lang/Object;") (by simp [Bundle.ownAtoms0])) e.platform hpl
  obtain ⟨cellS, hcS', heS, -, hkeep⟩ := X.same.2.2.2.2.2 T.aS cellS0 hcS0
  have hcellS : W.heap[T.aS]? = some cellS := hcS'
  have hout' : ∀ i, (⟨T.aS, i⟩ : Loc) ∉ locs := fun i hmem => by
    have := hlocs _ hmem cellS0 hcS0
    rw [hiss] at this; cases this
  have hknownS : cellS.vm ≠ .unknown := by
    rw [heS]; intro hu
    rw [show cellS0.vm = .unknown from hu] at hiss
    cases hiss
  have hneS : T.aS ≠ a := Nat.ne_of_lt (Nat.lt_of_lt_of_le (Array.getElem?_eq_some_iff.mp hcS0).1 hnew)
  obtain ⟨iM, hffM⟩ := Y.msg
  obtain ⟨tyC, dC, hdC, hdnC⟩ := Cond.laysAt hfound hk Y.cause (a' (.lays cls Bundle.tN "cause" "Ljava/lang/Throwable;") (by simp [Bundle.ownAtoms0]))
  obtain ⟨tyS, dS, hdS, hdnS⟩ := Cond.laysAt hfound hk Y.stack (a' (.lays cls Bundle.tN "stackTrace" Bundle.steD) (by simp [Bundle.ownAtoms0]))
  obtain ⟨tyP, dP, hdP, hdnP⟩ := Cond.laysAt hfound hk Y.supp (a' (.lays cls Bundle.tN "suppressedExceptions" Bundle.listD) (by simp [Bundle.ownAtoms0]))
  obtain ⟨tyM, dM, hdM, hdnM⟩ := Cond.laysAt hfound hk hffM (a' (.lays cls Bundle.tN "detailMessage" "Ljava/lang/String;") (by simp [Bundle.ownAtoms0]))
  obtain ⟨tyB, dB, hdB, hdnB⟩ := Cond.laysAt hfound hk hffB (a' (.lays cls Bundle.tN "backtrace" "Ljava/lang/Object;") (by simp [Bundle.ownAtoms0]))
  have bC := Cond.laysApart hdB hdC hdnB hdnC (by rw [hnB, Y.causeName]; decide)
  have bS := Cond.laysApart hdB hdS hdnB hdnS (by rw [hnB, Y.stackName]; decide)
  have bP := Cond.laysApart hdB hdP hdnB hdnP (by rw [hnB, Y.suppName]; decide)
  have hskip : SkipFacts T e.platform s (fun u => u) u0 ((preparedCellV T.toThrowableT (freshCell P1.m.cls kX) a u0 sen).withEntry W.cur) :=
    ⟨{ ci198 := ci198, i198 := i198, fBack := fB }, ⟨hk198, hg198, ha198, hsB⟩, by
      have := fresh_default (c := P1.m.cls) tyB
      rw [htB] at this
      simpa [preparedCellV, Cell.setSlot, Cell.withEntry, Array.getElem?_setIfInBounds, bC, bS, bP, bC.symm, bS.symm, bP.symm, defaultValue] using this, fun _ _ => rfl⟩
  obtain ⟨tm, methC, cdC, kC, vm₁, hnC, -, -, -, -, -, -, -, hW₁, st1⟩ := Steps.initCold (tb := p.tables) (e := e) (below := below) (s := s) (U := W) X.here hexec X.warmed hpl hown (t := Bundle.init0 cls) rfl rfl (Bundle.fit_spec hcls).2
    (a' (.methodLink own ic (Bundle.init0 cls)) (by simp [Bundle.ownAtoms0])) (h (.instanceMethod (Bundle.init0 cls)) (by cases names <;> simp [Bundle.ownAtoms0, Bundle.chain0Atoms, Bundle.passAtoms])) (bytes := Bundle.five) (maxL := 1) (h (.code (Bundle.init0 cls) Bundle.five 1 none) (by cases names <;> simp [Bundle.ownAtoms0, Bundle.chain0Atoms, Bundle.passAtoms]))
    (f := g) hg (a := a) (rest := .ref a :: rest) hstack hd6
  cases Option.some.inj (hnC.symm.trans hP1m)
  have X₁ := X.noted hW₁
  obtain ⟨vm₂, X₂, st2⟩ := X₁.ctorPlainOffV hexec (g := { g with stack := .ref a :: rest }) hg hsize T L Z LZ (P1 :: Ps)
    (fun P hP => by rcases List.mem_cons.mp hP with rfl | hP; exact L1; exact hL P hP) ⟨hlink1, hlink⟩ (u0 := u0) (sen := sen) (self := a) (cell := freshCell P1.m.cls kX) (cellS := cellS)
    hcell (fun _ => by simp) (by simp) rfl rfl hsel0 hselF hcellS hneS hknownS (by rw [hkeep _ (hout' _)]; exact hu0) (by rw [hkeep _ (hout' _)]; exact hsen)
    (Takes.of_laid hk hord tyC (by rw [Y.causeType]; rfl)) (Takes.of_laid hk hord tyS (by rw [Y.stackType]; exact fits_refV_array _ u0)) (Takes.of_laid hk hord tyP (by rw [Y.suppType]; exact fits_refV_object _ sen)) Y.objLocals hskip htr [] hd6
    (by simp only [List.length_cons, hlen]; omega) (by simp only [List.length_cons, hlen]; exact hRlocals)
  have hlt : a < ((W.setVm vm₁).setVm vm₂).heap.size := (Array.getElem?_eq_some_iff.mp hcell).1
  refine ⟨(W.setVm vm₁).setVm vm₂, _, _, X₂, fun y hy => ?_, hlt, rfl, rfl, fun target hwalk => st1 _ (fun acts => ?_)⟩
  · simp only [List.mem_cons, List.not_mem_nil, or_false] at hy
    rcases hy with rfl | rfl | rfl | rfl <;> rfl
  · rw [doInvoke_state]
    exact st2 _ hwalk
end VXK
section VXK2
variable {p : Program} {l : Launch} {e : Env} {R : Room} {s : State} {m : MethodId} {args : Array Value} {below : List Frame} {meth : Method} {c : Code} {H : Heap} {locs : List Loc} {cells slots : Nat} {Q : State → Prop}
variable {ls : Array Slot} {rest : List Value} {D : va_G} {cl : List vw_C} {tys : List (ClassId × FieldType)} {ws : va_W}
/-- 'new E("text")' that isn't thrown at once: the object goes on the stack -/
theorem vx_makeS {cc : ByteArray} {pc : Nat} (hexec : p.tables.exec = Jvm.exec) (hb : c.code = cc) (hl : l.stackTraces = false) {own cls text : String} {names : List String} {ik is ic sa ci : Nat} {A : Nat → Prop} {T0 : u_T}
    (hown : s.vm.findClass own = some m.cls) (hcls : Bundle.fit cls = true) (hnames : ∀ n ∈ names, Bundle.fit n = true)
    (hk : (Cond.classLink own ik cls).before args s = true) (hini : (Cond.initialized cls).before args s = true) (hstr : vk_R own is text sa s) (hat : ∀ w ∈ vx_atS own ic cls names, w.before args s = true)
    (hgood : ∀ w ∈ Cond.classLink own ik cls :: Cond.initialized cls :: vx_atS own ic cls names, vx_ot w = true)
    (hU : vx_Zq Bundle.tN "UNASSIGNED_STACK" Bundle.steD A s s.heap) (hN : vx_Zq Bundle.tN "SUPPRESSED_SENTINEL" Bundle.listD A s s.heap) (hS : va_S A s.heap H locs) (hsize : ls.size = c.maxLocals)
    (d0 : decode cc pc = .ok (.new ik, 3)) (d3 : decode cc (pc + 3) = .ok (.dup, 1)) (d4 : decode cc (pc + 4) = .ok (.ldc is, 2)) (d6 : decode cc (pc + 6) = .ok (.invokespecial ic, 3))
    (hK : va_K D cl tys s) (hP : va_P D cl ws H) (hD : va_D A ws) (hA : ∀ q, s.heap.size ≤ q → A q) (hc : cl[ci]? = some (cls, T0, 0))
    (hRframes : names.length + 3 < R.frames) (hRlocals : (rest.map fun v => v.category).sum + (13 * (names.length + 1) + 43) ≤ R.locals) (hRcells : cells + 1 ≤ R.cells) (hRslots : slots + 6 ≤ R.slots)
    (kk : ∀ (q : Nat) (H1 : Heap), va_P D cl (ws ++ [(q, .inr (ci, []))]) H1 → va_D A (ws ++ [(q, .inr (ci, []))]) → va_S A s.heap H1 locs → W p l e R s m args below meth c H1 locs (cells + 1) (slots + 6) Q (F0 m (pc + 9) ls (.ref q :: rest))) :
    W p l e R s m args below meth c H locs cells slots Q (F0 m pc ls rest) := by
  intro T hT X
  subst hT
  have htr : e.platform.stackTraces = false := (show e.platform.stackTraces = l.stackTraces by rw [X.admits.platform]).trans hl
  have Y := vx_rebase X (R' := { frames := R.frames, locals := R.locals, cells := 1, slots := 6 }) (Nat.le_refl _) (Nat.le_refl _) hRcells hRslots
  obtain ⟨s', hA'⟩ : ∃ z, z = (T.setVm s.vm).setFrames (.invoking m args :: below) := ⟨_, rfl⟩
  rw [← hA'] at Y
  have hvm : s'.vm = s.vm := by rw [hA']; rfl
  have hhp : s'.heap = T.heap := by rw [hA']; rfl
  have hW0 : s.WarmedH s'.vm := by rw [hvm]; exact State.WarmedH.refl s
  have hat' : ∀ w ∈ vx_atS own ic cls names, w.before args s' = true := fun w hw => vx_ot_at hW0 hvm.symm (hgood w (List.mem_cons_of_mem _ (List.mem_cons_of_mem _ hw))) (hat w hw)
  have hk' : (Cond.classLink own ik cls).before args s' = true := vx_ot_at hW0 hvm.symm (hgood _ List.mem_cons_self) hk
  have hini' : (Cond.initialized cls).before args s' = true := vx_ot_at hW0 hvm.symm (hgood _ (List.mem_cons_of_mem _ List.mem_cons_self)) hini
  have hU' : vx_Zq Bundle.tN "UNASSIGNED_STACK" Bundle.steD A s' s'.heap := by rw [hhp]; exact vx_Zq.moved hW0.alike (hU.kept hS.2.1)
  have hN' : vx_Zq Bundle.tN "SUPPRESSED_SENTINEL" Bundle.listD A s' s'.heap := by rw [hhp]; exact vx_Zq.moved hW0.alike (hN.kept hS.2.1)
  have h : ∀ w ∈ Bundle.ownAtoms own ic cls names, w.before args s' = true := vx_own hat' (vx_isRefq hU'.1) (vx_isRefq hN'.1) hU'.2.word hN'.2.word
  have hown' : s'.vm.findClass own = some m.cls := by rw [hvm]; exact hown
  have hins : (Cond.instantiable cls 6).before args s' = true := h _ (by simp [Bundle.ownAtoms])
  obtain ⟨vm₁, cX, kX, hfX, hkX, -, -, X₁, st1⟩ := Y.newCold hexec (own := own) (C := cls) (index := ik) (n := 6) hown' hk' hins hini'
    (g := F0 m pc ls rest) rfl (by rw [hb]; exact d0) (Nat.le_refl _) (Nat.le_refl _)
  generalize hT1 : (T.setVm vm₁).pushCell { cls := cX, slots := kX.instanceTypes.map defaultValue, vm := .none } = T1 at X₁ st1
  have hcat : (Value.ref T.heap.size).category = 1 := rfl
  have hcellA : T1.heap[T.heap.size]? = some (freshCell cX kX) := by rw [← hT1]; exact State.heap_pushCell_size _ _
  have d3' : decode c.code (pc + 3) = .ok (.dup, 1) := by rw [hb]; exact d3
  have d4' : decode c.code (pc + 4) = .ok (.ldc is, 2) := by rw [hb]; exact d4
  have hstr' : vk_R own is text sa s' := vk_R.warm hW0 hstr
  obtain ⟨V, ce, L, Z, hL, hlt, hcl9, hvm9, st⟩ := vx_ctorMadeS X₁ hexec htr (own := own) (cls := cls) (names := names) (ic := ic) hown' hcls hnames h (fun x hx => nomatch hx) hfX hkX hcellA (by rw [hhp]; exact Nat.le_refl _) (msg := .ref sa) rfl
    (g := { method := m, pc := pc + 6, locals := ls, stack := .ref sa :: .ref T.heap.size :: .ref T.heap.size :: rest, locked := none }) rfl hsize (rest := rest) rfl
    (by rw [hb]; exact d6) hRframes (by simp only [List.map_cons, List.sum_cons, hcat]; omega)
  have Z0 := Stand.forget (locs := []) Z (fun y hy => by rw [hL y hy, hhp]; exact Nat.le_refl _)
  obtain ⟨f1, f2⟩ := vx_frame Z0.same
  rw [hhp] at f1 f2
  have hcid : ce.cls = D.1 ci := by
    rw [hcl9]
    have h1 := (hK.1 ci _ hc).2.1
    rw [hvm] at hfX
    exact Option.some.inj (hfX.symm.trans h1)
  have hh : (V.setCell T.heap.size ce).heap[T.heap.size]? = some ce := heapAt_setCell_self (s := V) ce hlt
  subst hA'
  have X5 := vx_back9 X Y Z0
  have X6 : Stand p l e R s m args below meth c (V.setCell T.heap.size ce) locs (cells + 1) (slots + 6) := { X5 with same := X5.same.mono (by omega) (by omega) }
  have hk9 : ∀ (k : Nat) (x : Nat × va_E), ws[k]? = some x → (V.setCell T.heap.size ce).heap[x.1]? = T.heap[x.1]? := fun k x hx => f2 x.1 ((hP k x hx).lt) (fun z hz => nomatch hz)
  obtain ⟨t, a1, b1⟩ := kk T.heap.size (V.setCell T.heap.size ce).heap ((hP.kept hk9).app (fun k x hx => by
      have hz : k < 1 := (List.getElem?_eq_some_iff.mp hx).1
      rw [show k = 0 by omega] at hx
      cases hx
      exact ⟨_, hc, ce, hh, hcid, hvm9, fun k hk => absurd hk (Nat.not_lt_zero k)⟩)) (hD.push hP rfl (hA _ hS.1)) ⟨Nat.le_trans hS.1 f1, fun q h1 h2 => (f2 q (Nat.lt_of_lt_of_le h1 hS.1) (fun z hz => nomatch hz)).trans (hS.2.1 q h1 h2), hS.2.2⟩ _ rfl X6
  refine ⟨t, st1 _ ?_, b1⟩
  show Steps p.tables e below (T1.setTop { method := m, pc := pc + 3, locals := ls, stack := .ref T.heap.size :: rest, locked := none }) _
  jvm_step X₁.here [X₁.here.top, hexec, d3', Value.category]
  exact X₁.ldcString hexec (own := own) (text := text) (index := is) (a := sa) hown' hstr'.1 hstr'.2
    (g := { method := m, pc := pc + 4, locals := ls, stack := .ref T.heap.size :: .ref T.heap.size :: rest, locked := none }) rfl d4' _ (st _ a1)
/-- 'new E()' that isn't thrown at once: the object goes on the stack -/
theorem vx_make0 {cc : ByteArray} {pc : Nat} (hexec : p.tables.exec = Jvm.exec) (hb : c.code = cc) (hl : l.stackTraces = false) {own cls : String} {names : List String} {ik ic ci : Nat} {A : Nat → Prop} {T0 : u_T}
    (hown : s.vm.findClass own = some m.cls) (hcls : Bundle.fit cls = true) (hnames : ∀ n ∈ names, Bundle.fit n = true)
    (hk : (Cond.classLink own ik cls).before args s = true) (hini : (Cond.initialized cls).before args s = true) (hat : ∀ w ∈ vx_at0 own ic cls names, w.before args s = true)
    (hgood : ∀ w ∈ Cond.classLink own ik cls :: Cond.initialized cls :: vx_at0 own ic cls names, vx_ot w = true)
    (hU : vx_Zq Bundle.tN "UNASSIGNED_STACK" Bundle.steD A s s.heap) (hN : vx_Zq Bundle.tN "SUPPRESSED_SENTINEL" Bundle.listD A s s.heap) (hS : va_S A s.heap H locs) (hsize : ls.size = c.maxLocals)
    (d0 : decode cc pc = .ok (.new ik, 3)) (d3 : decode cc (pc + 3) = .ok (.dup, 1)) (d4 : decode cc (pc + 4) = .ok (.invokespecial ic, 3))
    (hK : va_K D cl tys s) (hP : va_P D cl ws H) (hD : va_D A ws) (hA : ∀ q, s.heap.size ≤ q → A q) (hc : cl[ci]? = some (cls, T0, 0))
    (hRframes : names.length + 3 < R.frames) (hRlocals : (rest.map fun v => v.category).sum + (13 * (names.length + 1) + 42) ≤ R.locals) (hRcells : cells + 1 ≤ R.cells) (hRslots : slots + 6 ≤ R.slots)
    (kk : ∀ (q : Nat) (H1 : Heap), va_P D cl (ws ++ [(q, .inr (ci, []))]) H1 → va_D A (ws ++ [(q, .inr (ci, []))]) → va_S A s.heap H1 locs → W p l e R s m args below meth c H1 locs (cells + 1) (slots + 6) Q (F0 m (pc + 7) ls (.ref q :: rest))) :
    W p l e R s m args below meth c H locs cells slots Q (F0 m pc ls rest) := by
  intro T hT X
  subst hT
  have htr : e.platform.stackTraces = false := (show e.platform.stackTraces = l.stackTraces by rw [X.admits.platform]).trans hl
  have Y := vx_rebase X (R' := { frames := R.frames, locals := R.locals, cells := 1, slots := 6 }) (Nat.le_refl _) (Nat.le_refl _) hRcells hRslots
  obtain ⟨s', hA'⟩ : ∃ z, z = (T.setVm s.vm).setFrames (.invoking m args :: below) := ⟨_, rfl⟩
  rw [← hA'] at Y
  have hvm : s'.vm = s.vm := by rw [hA']; rfl
  have hhp : s'.heap = T.heap := by rw [hA']; rfl
  have hW0 : s.WarmedH s'.vm := by rw [hvm]; exact State.WarmedH.refl s
  have hat' : ∀ w ∈ vx_at0 own ic cls names, w.before args s' = true := fun w hw => vx_ot_at hW0 hvm.symm (hgood w (List.mem_cons_of_mem _ (List.mem_cons_of_mem _ hw))) (hat w hw)
  have hk' : (Cond.classLink own ik cls).before args s' = true := vx_ot_at hW0 hvm.symm (hgood _ List.mem_cons_self) hk
  have hini' : (Cond.initialized cls).before args s' = true := vx_ot_at hW0 hvm.symm (hgood _ (List.mem_cons_of_mem _ List.mem_cons_self)) hini
  have hU' : vx_Zq Bundle.tN "UNASSIGNED_STACK" Bundle.steD A s' s'.heap := by rw [hhp]; exact vx_Zq.moved hW0.alike (hU.kept hS.2.1)
  have hN' : vx_Zq Bundle.tN "SUPPRESSED_SENTINEL" Bundle.listD A s' s'.heap := by rw [hhp]; exact vx_Zq.moved hW0.alike (hN.kept hS.2.1)
  have h : ∀ w ∈ Bundle.ownAtoms0 own ic cls names, w.before args s' = true := vx_own hat' (vx_isRefq hU'.1) (vx_isRefq hN'.1) hU'.2.word hN'.2.word
  have hown' : s'.vm.findClass own = some m.cls := by rw [hvm]; exact hown
  have hins : (Cond.instantiable cls 6).before args s' = true := h _ (by simp [Bundle.ownAtoms0])
  obtain ⟨vm₁, cX, kX, hfX, hkX, -, -, X₁, st1⟩ := Y.newCold hexec (own := own) (C := cls) (index := ik) (n := 6) hown' hk' hins hini'
    (g := F0 m pc ls rest) rfl (by rw [hb]; exact d0) (Nat.le_refl _) (Nat.le_refl _)
  generalize hT1 : (T.setVm vm₁).pushCell { cls := cX, slots := kX.instanceTypes.map defaultValue, vm := .none } = T1 at X₁ st1
  have hcat : (Value.ref T.heap.size).category = 1 := rfl
  have hcellA : T1.heap[T.heap.size]? = some (freshCell cX kX) := by rw [← hT1]; exact State.heap_pushCell_size _ _
  have d3' : decode c.code (pc + 3) = .ok (.dup, 1) := by rw [hb]; exact d3
  obtain ⟨V, ce, L, Z, hL, hlt, hcl9, hvm9, st⟩ := vx_ctorMade0 X₁ hexec htr (own := own) (cls := cls) (names := names) (ic := ic) hown' hcls hnames h (fun x hx => nomatch hx) hfX hkX hcellA (by rw [hhp]; exact Nat.le_refl _)
    (g := { method := m, pc := pc + 4, locals := ls, stack := .ref T.heap.size :: .ref T.heap.size :: rest, locked := none }) rfl hsize (rest := rest) rfl
    (by rw [hb]; exact d4) hRframes (by simp only [List.map_cons, List.sum_cons, hcat]; omega)
  have Z0 := Stand.forget (locs := []) Z (fun y hy => by rw [hL y hy, hhp]; exact Nat.le_refl _)
  obtain ⟨f1, f2⟩ := vx_frame Z0.same
  rw [hhp] at f1 f2
  have hcid : ce.cls = D.1 ci := by
    rw [hcl9]
    have h1 := (hK.1 ci _ hc).2.1
    rw [hvm] at hfX
    exact Option.some.inj (hfX.symm.trans h1)
  have hh : (V.setCell T.heap.size ce).heap[T.heap.size]? = some ce := heapAt_setCell_self (s := V) ce hlt
  subst hA'
  have X5 := vx_back9 X Y Z0
  have X6 : Stand p l e R s m args below meth c (V.setCell T.heap.size ce) locs (cells + 1) (slots + 6) := { X5 with same := X5.same.mono (by omega) (by omega) }
  have hk9 : ∀ (k : Nat) (x : Nat × va_E), ws[k]? = some x → (V.setCell T.heap.size ce).heap[x.1]? = T.heap[x.1]? := fun k x hx => f2 x.1 ((hP k x hx).lt) (fun z hz => nomatch hz)
  obtain ⟨t, a1, b1⟩ := kk T.heap.size (V.setCell T.heap.size ce).heap ((hP.kept hk9).app (fun k x hx => by
      have hz : k < 1 := (List.getElem?_eq_some_iff.mp hx).1
      rw [show k = 0 by omega] at hx
      cases hx
      exact ⟨_, hc, ce, hh, hcid, hvm9, fun k hk => absurd hk (Nat.not_lt_zero k)⟩)) (hD.push hP rfl (hA _ hS.1)) ⟨Nat.le_trans hS.1 f1, fun q h1 h2 => (f2 q (Nat.lt_of_lt_of_le h1 hS.1) (fun z hz => nomatch hz)).trans (hS.2.1 q h1 h2), hS.2.2⟩ _ rfl X6
  refine ⟨t, st1 _ ?_, b1⟩
  show Steps p.tables e below (T1.setTop { method := m, pc := pc + 3, locals := ls, stack := .ref T.heap.size :: rest, locked := none }) _
  jvm_step X₁.here [X₁.here.top, hexec, d3', Value.category]
  exact st _ a1
/-- 'throw x' of an object that was made before -/
theorem vx_athrow {cc : ByteArray} {pc : Nat} (hexec : p.tables.exec = Jvm.exec) (hb : c.code = cc) {q : Addr} (hdg : decode cc pc = .ok (.athrow, 1)) (k : vx_W p l e R s m args below meth c H locs cells slots Q (F0 m pc ls rest) q) : W p l e R s m args below meth c H locs cells slots Q (F0 m pc ls (.ref q :: rest)) := by
  intro T hT X
  obtain ⟨t, st, hq⟩ := k T hT X
  refine ⟨t, ?_, hq⟩
  have hdg' : decode c.code pc = .ok (.athrow, 1) := by rw [hb]; exact hdg
  jvm_step X.here [X.here.top, hexec, hdg', athrow.wp_sem]
  exact st
end VXK2
/-! ===== END ===== -/
/-! ===== BEGIN a constructor that throws (launches without stack traces) ===== -/
section VXIA
variable {p : Program} {l : Launch} {e : Env} {R : Room} {s : State} {m : MethodId} {args : Array Value} {below : List Frame} {meth : Method} {c : Code} {T : State} {locs : List Loc} {cells slots : Nat}
theorem vx_callI (X : Stand p l e R s m args below meth c T locs cells slots) (hexec : p.tables.exec = Jvm.exec) {own : String} {index : Nat} {y : MethodName} {bytes : ByteArray} {maxL : Nat}
    (hown : s.vm.findClass own = some m.cls) (hy1 : y.name = "<init>") (hlink : (Cond.methodLink own index y).before args s = true) (hinst : (Cond.instanceMethod y).before args s = true)
    (hcode : (Cond.code y bytes maxL none).before args s = true) (hy : y.cls ≠ "java/lang/invoke/MethodHandle" ∧ y.cls ≠ "java/lang/invoke/VarHandle")
    {W9 : Nat} {Pre : Pt → Array Value → Prop} {Post : Pt → Array Value → Option Value → Pt → Prop} {PostX : Pt → Array Value → Addr → Pt → Prop} (hK : vx_Back l R p e below s args y 3 W9 Pre Post PostX)
    {g : JFrame} (hg : g.method = m) (hsize : g.locals.size = c.maxLocals) {a : Addr} {argsL rest : List Value} (hlen : ∀ sig, parseMethodDescriptor y.desc = some sig → argsL.length = sig.parameters.length)
    (hstack : g.stack = argsL.reverse ++ .ref a :: rest) (hW : 2 * g.monitorRoom + (rest.map fun v => v.category).sum ≤ W9) (hdg : decode c.code g.pc = .ok (.invokespecial index, 3))
    (hpre : ∀ vm₁, s.WarmedH vm₁ → Pre ⟨T.setVm vm₁, locs, cells, slots⟩ (Value.ref a :: argsL).toArray) :
    (∃ (v : Option Value) (vm₁ : Vm) (B : Pt), s.WarmedH vm₁ ∧ Stand p l e R s m args below meth c B.U B.locs B.cells B.slots ∧ Post ⟨T.setVm vm₁, locs, cells, slots⟩ (Value.ref a :: argsL).toArray v B ∧
      ∀ target, Steps p.tables e below (B.U.setTop { g with pc := g.pc + 3, stack := v.toList ++ rest }) target → Steps p.tables e below (T.setTop g) target) ∨
    (∃ (q : Addr) (vm₁ : Vm) (B : Pt), s.WarmedH vm₁ ∧ Stand p l e R s m args below meth c B.U B.locs B.cells B.slots ∧ PostX ⟨T.setVm vm₁, locs, cells, slots⟩ (Value.ref a :: argsL).toArray q B ∧
      Steps p.tables e below (T.setTop g) ((B.U.setTop { g with stack := rest }).pushFrame (.throwing q))) := by
  subst hg
  have hpl : e.platform.magicAccessors = ({} : Platform).magicAccessors := by rw [X.admits.platform]
  obtain ⟨mk, methM, cM, kP, vm₁, hnamed, hmethM, hcodeM, -, hlocalsM, -, hkP, -, hW₁, hstep₁⟩ := Steps.initColdArgs (e := e) X.here hexec X.warmed hpl hown hy1 hy hlink hinst hcode (f := g) rfl hlen hstack hdg
  have X₁ := X.noted hW₁
  rcases hK g.method meth c ⟨T.setVm vm₁, locs, cells, slots⟩ { g with stack := rest } (.invokespecial index) mk (Value.ref a :: argsL).toArray X₁ rfl hsize hdg hW (X₁.named hnamed) (hpre vm₁ X₁.warmed) with ⟨v, B, X', hpost, hsteps⟩ | ⟨q, B, X', hpost, hsteps⟩
  · exact Or.inl ⟨v, vm₁, B, X₁.warmed, X', hpost, fun target h => hstep₁ _ fun acts => by rw [doInvoke_state]; exact hsteps.trans h⟩
  · exact Or.inr ⟨q, vm₁, B, X₁.warmed, X', hpost, hstep₁ _ fun acts => by rw [doInvoke_state]; exact hsteps⟩
end VXIA
section VXIB
variable {p : Program} {l : Launch} {e : Env} {R : Room} {s : State} {m : MethodId} {args : Array Value} {below : List Frame} {meth : Method} {c : Code} {H : Heap} {locs : List Loc} {cells slots : Nat}
variable {y : MethodName} {bytes cc : ByteArray} {maxL nL mc ms n index : Nat} {ret : Option FieldType} {ws : List Cond} {rm : Room} {Pc : Array Value → State → Prop} {Qc : Array Value → State → Outcome → State → Prop} {XC : String → State → State → Prop} {free : Addr → Prop} {Ts : List Cond} {own C : String} {b : Addr} {As rest : List Value} {g : JFrame}
theorem vx_runI (S : CallFix p m c cc nL s args Ts own) (hM : vx_Met l y ws rm Pc Qc XC mc ms free) (cw : CallB R s args own index y bytes maxL none ws rm mc ms n ∧ y.name = "<init>" ∧ (Cond.instanceMethod y).before args s = true) (hp : PreS s H Pc (.ref b :: As))
    (hg : g.method = m) (hn : As.length = n) (hsize : g.locals.size = nL) (hstack : g.stack = As.reverse ++ .ref b :: rest) (hW : 2 * g.monitorRoom + (rest.map fun v => v.category).sum ≤ 8) (hdg : decode cc g.pc = .ok (.invokespecial index, 3)) (hf : cells + mc ≤ R.cells ∧ slots + ms ≤ R.slots) :
    vx_Run p l e R s m args below meth c H locs cells slots mc ms g rest (Qc (Value.ref b :: As).toArray) XC free := by
  have hK : vx_Back l R p e below s args y 3 8 (PreOf R mc ms Pc) (PostOf Qc mc ms free) (vx_Post XC mc ms free) := vx_callBack cw.1 hM hp.1
  obtain ⟨⟨-, -, -, -, -, -, hcode, -, hy, hlen, hl⟩, hy1, hin⟩ := cw
  obtain ⟨hx, hb, hml, ho, -⟩ := S
  have hPc := hp.2
  intro T hT X
  rcases vx_callI X hx (bytes := bytes) (maxL := maxL) ho hy1 hl hin hcode hy hK hg (hsize.trans hml.symm) (a := b) (argsL := As) (rest := rest) (fun sig h => hn.trans (hlen sig h)) hstack hW (by rw [hb]; exact hdg)
    (fun vm₁ hW₁ => ⟨hf.1, hf.2, hPc (T.setVm vm₁) hT hW₁⟩) with ⟨v, vm₁, ⟨U', l2, c2, s2⟩, hW₁, X', ⟨g', mk, t, L, e1, e2, hq, h1, hL, h2, h3⟩, st⟩ | ⟨q, vm₁, ⟨U', l2, c2, s2⟩, hW₁, X', ⟨g', mk, t, L, E, ce, e1, e2, hq, hce, hcv, hcl, h1, hL, h2, h3⟩, st⟩
  · dsimp only [Pt.U, Pt.locs, Pt.cells, Pt.slots] at X' e1 e2 h1 h2 h3 st
    subst h1; subst h2; subst h3
    exact Or.inl ⟨v, (T.setVm vm₁).calling g' mk (Value.ref b :: As).toArray, t, U', L, hT, X', hL, e1, e2, hq, st⟩
  · dsimp only [Pt.U, Pt.locs, Pt.cells, Pt.slots] at X' e1 e2 h1 h2 h3 st hcl
    subst h1; subst h2; subst h3
    exact Or.inr ⟨q, (T.setVm vm₁).calling g' mk (Value.ref b :: As).toArray, t, U', L, E, ce, hT, X', hL, e1, e2, hq, hce, hcv, vx_cls hW₁ hcl, st⟩
end VXIB
/-! ===== END ===== -/
/-! ===== BEGIN a private constructor of a nest mate that throws ===== -/
section VXIC
variable {p : Program} {l : Launch} {e : Env} {R : Room} {s : State} {m : MethodId} {args : Array Value} {below : List Frame} {meth : Method} {c : Code} {T : State} {locs : List Loc} {cells slots : Nat}
theorem vx_callIN (X : Stand p l e R s m args below meth c T locs cells slots) (hexec : p.tables.exec = Jvm.exec) {own : String} {index : Nat} {host : String} {y : MethodName} {bytes : ByteArray} {maxL : Nat}
    (hown : s.vm.findClass own = some m.cls) (hy1 : y.name = "<init>") (hlink : (Cond.methodLinkNest own index y host).before args s = true) (hinst : (Cond.instanceMethod y).before args s = true)
    (hcode : (Cond.code y bytes maxL none).before args s = true) (hy : y.cls ≠ "java/lang/invoke/MethodHandle" ∧ y.cls ≠ "java/lang/invoke/VarHandle")
    {W9 : Nat} {Pre : Pt → Array Value → Prop} {Post : Pt → Array Value → Option Value → Pt → Prop} {PostX : Pt → Array Value → Addr → Pt → Prop} (hK : vx_Back l R p e below s args y 3 W9 Pre Post PostX)
    {g : JFrame} (hg : g.method = m) (hsize : g.locals.size = c.maxLocals) {a : Addr} {argsL rest : List Value} (hlen : ∀ sig, parseMethodDescriptor y.desc = some sig → argsL.length = sig.parameters.length)
    (hstack : g.stack = argsL.reverse ++ .ref a :: rest) (hW : 2 * g.monitorRoom + (rest.map fun v => v.category).sum ≤ W9) (hdg : decode c.code g.pc = .ok (.invokespecial index, 3))
    (hpre : ∀ vm₁, s.WarmedH vm₁ → Pre ⟨T.setVm vm₁, locs, cells, slots⟩ (Value.ref a :: argsL).toArray) :
    (∃ (v : Option Value) (vm₁ : Vm) (B : Pt), s.WarmedH vm₁ ∧ Stand p l e R s m args below meth c B.U B.locs B.cells B.slots ∧ Post ⟨T.setVm vm₁, locs, cells, slots⟩ (Value.ref a :: argsL).toArray v B ∧
      ∀ target, Steps p.tables e below (B.U.setTop { g with pc := g.pc + 3, stack := v.toList ++ rest }) target → Steps p.tables e below (T.setTop g) target) ∨
    (∃ (q : Addr) (vm₁ : Vm) (B : Pt), s.WarmedH vm₁ ∧ Stand p l e R s m args below meth c B.U B.locs B.cells B.slots ∧ PostX ⟨T.setVm vm₁, locs, cells, slots⟩ (Value.ref a :: argsL).toArray q B ∧
      Steps p.tables e below (T.setTop g) ((B.U.setTop { g with stack := rest }).pushFrame (.throwing q))) := by
  subst hg
  have hpl : e.platform.magicAccessors = ({} : Platform).magicAccessors := by rw [X.admits.platform]
  obtain ⟨mk, methM, cM, kP, vm₁, hnamed, hmethM, hcodeM, -, hlocalsM, -, hkP, -, hW₁, hstep₁⟩ := Steps.initColdArgsNest (e := e) X.here hexec X.warmed hpl hown hy1 hy hlink hinst hcode (f := g) rfl hlen hstack hdg
  have X₁ := X.noted hW₁
  rcases hK g.method meth c ⟨T.setVm vm₁, locs, cells, slots⟩ { g with stack := rest } (.invokespecial index) mk (Value.ref a :: argsL).toArray X₁ rfl hsize hdg hW (X₁.named hnamed) (hpre vm₁ X₁.warmed) with ⟨v, B, X', hpost, hsteps⟩ | ⟨q, B, X', hpost, hsteps⟩
  · exact Or.inl ⟨v, vm₁, B, X₁.warmed, X', hpost, fun target h => hstep₁ _ fun acts => by rw [doInvoke_state]; exact hsteps.trans h⟩
  · exact Or.inr ⟨q, vm₁, B, X₁.warmed, X', hpost, hstep₁ _ fun acts => by rw [doInvoke_state]; exact hsteps⟩
end VXIC
section VXID
variable {p : Program} {l : Launch} {e : Env} {R : Room} {s : State} {m : MethodId} {args : Array Value} {below : List Frame} {meth : Method} {c : Code} {H : Heap} {locs : List Loc} {cells slots : Nat}
theorem vx_runIN {y : MethodName} {bytes cc : ByteArray} {maxL nL mc ms n index : Nat} {ws : List Cond} {rm : Room} {Pc : Array Value → State → Prop} {Qc : Array Value → State → Outcome → State → Prop} {XC : String → State → State → Prop} {free : Addr → Prop} {Ts : List Cond} {own host : String} {b : Addr} {As rest : List Value} {g : JFrame}
    (S : CallFix p m c cc nL s args Ts own) (hM : vx_Met l y ws rm Pc Qc XC mc ms free) (cw : va_CN R s args own index y host bytes maxL none ws rm mc ms n ∧ y.name = "<init>" ∧ (Cond.instanceMethod y).before args s = true) (hp : PreS s H Pc (.ref b :: As))
    (hg : g.method = m) (hn : As.length = n) (hsize : g.locals.size = nL) (hstack : g.stack = As.reverse ++ .ref b :: rest) (hW : 2 * g.monitorRoom + (rest.map fun v => v.category).sum ≤ 8) (hdg : decode cc g.pc = .ok (.invokespecial index, 3)) (hf : cells + mc ≤ R.cells ∧ slots + ms ≤ R.slots) :
    vx_Run p l e R s m args below meth c H locs cells slots mc ms g rest (Qc (Value.ref b :: As).toArray) XC free := by
  obtain ⟨⟨⟨hrc, hrs, hfr, hlo, hws, hcw⟩, hcode, hini, hy, hlen, hl⟩, hx1, hx2⟩ := cw
  have hK : vx_Back l R p e below s args y 3 8 (PreOf R mc ms Pc) (PostOf Qc mc ms free) (vx_Post XC mc ms free) := vx_back (bytes := bytes) (maxL := maxL) (ret := none) hM hp.1 hrc hrs hfr hlo hws hcw (fun a' U hW => word_at hW (Or.inl (by first | rfl | simp [Cond.onTables, Cond.keeps, Cond.steady])) hini)
  obtain ⟨hx, hb, hml, ho, -⟩ := S
  have hPc := hp.2
  intro T hT X
  rcases vx_callIN X hx (bytes := bytes) (maxL := maxL) ho hx1 hl hx2 hcode hy hK hg (hsize.trans hml.symm) (a := b) (argsL := As) (rest := rest) (fun sig h => hn.trans (hlen sig h)) hstack hW (by rw [hb]; exact hdg)
    (fun vm₁ hW₁ => ⟨hf.1, hf.2, hPc (T.setVm vm₁) hT hW₁⟩) with ⟨v, vm₁, ⟨U', l2, c2, s2⟩, hW₁, X', ⟨g', mk, t, L, e1, e2, hq, h1, hL, h2, h3⟩, st⟩ | ⟨q, vm₁, ⟨U', l2, c2, s2⟩, hW₁, X', ⟨g', mk, t, L, E, ce, e1, e2, hq, hce, hcv, hcl, h1, hL, h2, h3⟩, st⟩
  · dsimp only [Pt.U, Pt.locs, Pt.cells, Pt.slots] at X' e1 e2 h1 h2 h3 st
    subst h1; subst h2; subst h3
    exact Or.inl ⟨v, (T.setVm vm₁).calling g' mk (Value.ref b :: As).toArray, t, U', L, hT, X', hL, e1, e2, hq, st⟩
  · dsimp only [Pt.U, Pt.locs, Pt.cells, Pt.slots] at X' e1 e2 h1 h2 h3 st hcl
    subst h1; subst h2; subst h3
    exact Or.inr ⟨q, (T.setVm vm₁).calling g' mk (Value.ref b :: As).toArray, t, U', L, E, ce, hT, X', hL, e1, e2, hq, hce, hcv, vx_cls hW₁ hcl, st⟩
end VXID
/-! ===== END ===== -/
/-! ===== BEGIN a method of a class above, found by the receiver, that may throw (follows va_callVU, va_runU of this kit) ===== -/
section
variable {p : Program} {l : Launch} {e : Env} {R : Room} {s : State} {m : MethodId} {args : Array Value} {below : List Frame} {meth : Method} {c : Code} {H : Heap} {locs : List Loc} {cells slots : Nat}
theorem vx_callVU {T : State} {locs : List Loc} {cells slots : Nat} (X : Stand p l e R s m args below meth c T locs cells slots) (hexec : p.tables.exec = Jvm.exec) {own C owner : String} {index : Nat} {x y : MethodName} {bytes : ByteArray} {maxL : Nat} {ret : Option FieldType}
    (hown : s.vm.findClass own = some m.cls) (hlink : (Cond.methodLink own index x).before args s = true) (hsame : (Cond.sameMethod x.cls owner x.name x.desc).before args s = true)
    (hd0 : va_Decl s ⟨owner, x.name, x.desc⟩) (howner : owner ≠ "java/lang/invoke/MethodHandle" ∧ owner ≠ "java/lang/invoke/VarHandle")
    (hsel : (Cond.selects C x y).before args s = true) (hinst : (Cond.instanceMethod y).before args s = true) (hcode : (Cond.code y bytes maxL ret).before args s = true)
    {W : Nat} {Pre : Pt → Array Value → Prop} {Post : Pt → Array Value → Option Value → Pt → Prop} {PostX : Pt → Array Value → Addr → Pt → Prop} (hK : vx_Back l R p e below s args y 3 W Pre Post PostX)
    {b : Addr} {cellB : Cell} (hcell : T.heap[b]? = some cellB) (hobj : cellB.vm.isStatics = false) (hcls : s.vm.findClass C = some cellB.cls)
    {g : JFrame} (hg : g.method = m) (hsize : g.locals.size = c.maxLocals) {argsL rest : List Value} (hlen : ∀ sig, parseMethodDescriptor x.desc = some sig → argsL.length = sig.parameters.length)
    (hstack : g.stack = argsL.reverse ++ .ref b :: rest) (hW : 2 * g.monitorRoom + (rest.map fun v => v.category).sum ≤ W) (hdg : decode c.code g.pc = .ok (.invokevirtual index, 3))
    (hpre : ∀ vm₁, s.WarmedH vm₁ → Pre ⟨T.setVm vm₁, locs, cells, slots⟩ (Value.ref b :: argsL).toArray) :
    (∃ (v : Option Value) (vm₁ : Vm) (B : Pt), s.WarmedH vm₁ ∧ Stand p l e R s m args below meth c B.U B.locs B.cells B.slots ∧ Post ⟨T.setVm vm₁, locs, cells, slots⟩ (Value.ref b :: argsL).toArray v B ∧
      ∀ target, Steps p.tables e below (B.U.setTop { g with pc := g.pc + 3, stack := v.toList ++ rest }) target → Steps p.tables e below (T.setTop g) target) ∨
    (∃ (q : Addr) (vm₁ : Vm) (B : Pt), s.WarmedH vm₁ ∧ Stand p l e R s m args below meth c B.U B.locs B.cells B.slots ∧ PostX ⟨T.setVm vm₁, locs, cells, slots⟩ (Value.ref b :: argsL).toArray q B ∧
      Steps p.tables e below (T.setTop g) ((B.U.setTop { g with stack := rest }).pushFrame (.throwing q))) := by
  obtain ⟨r0, r, hn, hrm, hstR, hsigR⟩ := hd0
  obtain ⟨cn, ck, r1, hcn, hck, hni, hf, hn1⟩ := Cond.sameMethod_found hsame
  cases hn.symm.trans hn1
  obtain ⟨mk, methM, hnamed, hmethM, -, habM⟩ := Cond.instanceMethod_spec hinst
  obtain ⟨c2, r2, m2, q1, q2, q3, q4, kP, hkP, hkPi⟩ := Cond.selects_spec hsel
  cases hcls.symm.trans q1
  cases hf.symm.trans q2
  cases hnamed.symm.trans q3
  have hselP : selectMethod e.platform s.vm cellB.cls r0 = .method mk := by rw [Launch.admits_selectMethod X.admits]; exact q4
  obtain ⟨vm₁, X₁, hstep₁⟩ := X.invokevirtualUp hexec hown hlink hsame howner hn hrm hstR (a := b) (cell := cellB) hcell
    (fun z h => by rw [h] at hobj; cases hobj) hselP hmethM habM hkP hkPi (g := g) hg (argsL := argsL) (rest := rest) (hlen _ hsigR) hstack hdg
  rcases hK m meth c ⟨T.setVm vm₁, locs, cells, slots⟩ { g with stack := rest } (.invokevirtual index) mk (Value.ref b :: argsL).toArray X₁ hg hsize hdg hW (X₁.named hnamed) (hpre vm₁ X₁.warmed) with ⟨v, B, X', hpost, hsteps⟩ | ⟨q, B, X', hpost, hsteps⟩
  · exact Or.inl ⟨v, vm₁, B, X₁.warmed, X', hpost, fun target h => hstep₁ _ fun acts => by rw [doInvoke_state]; exact hsteps.trans h⟩
  · exact Or.inr ⟨q, vm₁, B, X₁.warmed, X', hpost, hstep₁ _ fun acts => by rw [doInvoke_state]; exact hsteps⟩
theorem vx_runU {x y : MethodName} {bytes cc : ByteArray} {maxL nL mc ms n index : Nat} {ret : Option FieldType} {ws : List Cond} {rm : Room} {Pc : Array Value → State → Prop} {Qc : Array Value → State → Outcome → State → Prop} {XC : String → State → State → Prop} {free : Addr → Prop} {Ts : List Cond} {own C owner : String} {b : Addr} {As rest : List Value} {g : JFrame}
    (S : CallFix p m c cc nL s args Ts own) (hM : vx_Met l y ws rm Pc Qc XC mc ms free) (cw : va_CU R s args own C owner index x y bytes maxL ret ws rm mc ms n) (hp : PreV s H C b Pc As)
    (hg : g.method = m) (hn : As.length = n) (hsize : g.locals.size = nL) (hstack : g.stack = As.reverse ++ .ref b :: rest) (hW : 2 * g.monitorRoom + (rest.map fun v => v.category).sum ≤ 8) (hdg : decode cc g.pc = .ok (.invokevirtual index, 3)) (hf : cells + mc ≤ R.cells ∧ slots + ms ≤ R.slots) :
    vx_Run p l e R s m args below meth c H locs cells slots mc ms g rest (Qc (Value.ref b :: As).toArray) XC free := by
  obtain ⟨hrc, hrs, hfr, hlo, hws, hcw⟩ := cw.back
  have hini := cw.init
  have hK : vx_Back l R p e below s args y 3 8 (PreOf R mc ms Pc) (PostOf Qc mc ms free) (vx_Post XC mc ms free) := vx_back (bytes := bytes) (maxL := maxL) (ret := ret) hM hp.1 hrc hrs hfr hlo hws hcw (fun a' U hW => word_at hW (Or.inl (by first | rfl | simp [Cond.onTables, Cond.keeps, Cond.steady])) hini)
  obtain ⟨hx, hb, hml, ho, -⟩ := S
  obtain ⟨-, ⟨cellB, hcB, hoB, hclB⟩, hPc⟩ := hp
  intro T hT X
  rcases vx_callVU X hx (C := C) (owner := owner) (bytes := bytes) (maxL := maxL) (ret := ret) ho cw.link cw.same cw.decl cw.notMH cw.sel cw.inst cw.code hK (by rw [hT]; exact hcB) hoB hclB hg (hsize.trans hml.symm) (argsL := As) (rest := rest) (fun sig h => hn.trans (cw.len sig h)) hstack hW (by rw [hb]; exact hdg)
    (fun vm₁ hW₁ => ⟨hf.1, hf.2, hPc (T.setVm vm₁) hT hW₁⟩) with ⟨v, vm₁, ⟨U', l2, c2, s2⟩, hW₁, X', ⟨g', mk, t, L, e1, e2, hq, h1, hL, h2, h3⟩, st⟩ | ⟨q, vm₁, ⟨U', l2, c2, s2⟩, hW₁, X', ⟨g', mk, t, L, E, ce, e1, e2, hq, hce, hcv, hcl, h1, hL, h2, h3⟩, st⟩
  · dsimp only [Pt.U, Pt.locs, Pt.cells, Pt.slots] at X' e1 e2 h1 h2 h3 st
    subst h1; subst h2; subst h3
    exact Or.inl ⟨v, (T.setVm vm₁).calling g' mk (Value.ref b :: As).toArray, t, U', L, hT, X', hL, e1, e2, hq, st⟩
  · dsimp only [Pt.U, Pt.locs, Pt.cells, Pt.slots] at X' e1 e2 h1 h2 h3 st hcl
    subst h1; subst h2; subst h3
    exact Or.inr ⟨q, (T.setVm vm₁).calling g' mk (Value.ref b :: As).toArray, t, U', L, E, ce, hT, X', hL, e1, e2, hq, hce, hcv, vx_cls hW₁ hcl, st⟩
end
/-! ===== END ===== -/
/-! ===== BEGIN super.m(..) that may throw (follows va_callSU, va_runSU) ===== -/
section
variable {p : Program} {l : Launch} {e : Env} {R : Room} {s : State} {m : MethodId} {args : Array Value} {below : List Frame} {meth : Method} {c : Code} {H : Heap} {locs : List Loc} {cells slots : Nat}
theorem vx_callSU {T : State} {locs : List Loc} {cells slots : Nat} (X : Stand p l e R s m args below meth c T locs cells slots) (hexec : p.tables.exec = Jvm.exec) {own : String} {index : Nat} {y : MethodName} {bytes : ByteArray} {maxL : Nat} {ret : Option FieldType}
    (hown : s.vm.findClass own = some m.cls) (hlink : (Cond.methodLink own index y).before args s = true) (hsame : (Cond.sameMethod y.cls y.cls y.name y.desc).before args s = true) (hsup : (Cond.superclass own y.cls).before args s = true)
    (hinst : (Cond.instanceMethod y).before args s = true) (hcode : (Cond.code y bytes maxL ret).before args s = true) (hno : y.name ≠ "<init>")
    {W : Nat} {Pre : Pt → Array Value → Prop} {Post : Pt → Array Value → Option Value → Pt → Prop} {PostX : Pt → Array Value → Addr → Pt → Prop} (hK : vx_Back l R p e below s args y 3 W Pre Post PostX)
    {b : Addr} {cellB : Cell} {kB : Class} (hcell : T.heap[b]? = some cellB) (hobj : cellB.vm.isStatics = false) (hkB : s.vm.classes[cellB.cls]? = some kB)
    {g : JFrame} (hg : g.method = m) (hsize : g.locals.size = c.maxLocals) {argsL rest : List Value} (hlen : ∀ sig, parseMethodDescriptor y.desc = some sig → argsL.length = sig.parameters.length)
    (hstack : g.stack = argsL.reverse ++ .ref b :: rest) (hW : 2 * g.monitorRoom + (rest.map fun v => v.category).sum ≤ W) (hdg : decode c.code g.pc = .ok (.invokespecial index, 3))
    (hpre : ∀ vm₁, s.WarmedH vm₁ → Pre ⟨T.setVm vm₁, locs, cells, slots⟩ (Value.ref b :: argsL).toArray) :
    (∃ (v : Option Value) (vm₁ : Vm) (B : Pt), s.WarmedH vm₁ ∧ Stand p l e R s m args below meth c B.U B.locs B.cells B.slots ∧ Post ⟨T.setVm vm₁, locs, cells, slots⟩ (Value.ref b :: argsL).toArray v B ∧
      ∀ target, Steps p.tables e below (B.U.setTop { g with pc := g.pc + 3, stack := v.toList ++ rest }) target → Steps p.tables e below (T.setTop g) target) ∨
    (∃ (q : Addr) (vm₁ : Vm) (B : Pt), s.WarmedH vm₁ ∧ Stand p l e R s m args below meth c B.U B.locs B.cells B.slots ∧ PostX ⟨T.setVm vm₁, locs, cells, slots⟩ (Value.ref b :: argsL).toArray q B ∧
      Steps p.tables e below (T.setTop g) ((B.U.setTop { g with stack := rest }).pushFrame (.throwing q))) := by
  obtain ⟨mk, methM, hnamed, hmethM, hstM, habM⟩ := Cond.instanceMethod_spec hinst
  obtain ⟨methM', cM, hmethM', -, -, -, -, -, -, hsigM⟩ := Cond.code_spec hnamed hcode
  cases hmethM.symm.trans hmethM'
  obtain ⟨ps, dk, kp, hps, hdk, hkp, hsuper, -, -, hnid⟩ := Cond.superclass_spec hown hsup
  have hn : s.methodNamed? ⟨y.cls, y.name, y.desc⟩ = some mk := hnamed
  have hpm : ps = mk.cls := Option.some.inj (hps.symm.trans (findClass_of_methodNamed hnamed))
  have hsub : s.vm.isSubclass ps mk.cls = true := by rw [hpm]; simp [Vm.isSubclass, Vm.isSubclassAux]
  obtain ⟨vm₁, X₁, hstep₁⟩ := X.invokespecialUp hexec hown hlink hsame hn hmethM hstM habM hno hdk hnid hps hsuper hsub (a := b) (cell := cellB) hcell
    (fun z h => by rw [h] at hobj; cases hobj) hkB (g := g) hg (argsL := argsL) (rest := rest) (hlen _ hsigM) hstack hdg
  rcases hK m meth c ⟨T.setVm vm₁, locs, cells, slots⟩ { g with stack := rest } (.invokespecial index) mk (Value.ref b :: argsL).toArray X₁ hg hsize hdg hW (X₁.named hnamed) (hpre vm₁ X₁.warmed) with ⟨v, B, X', hpost, hsteps⟩ | ⟨q, B, X', hpost, hsteps⟩
  · exact Or.inl ⟨v, vm₁, B, X₁.warmed, X', hpost, fun target h => hstep₁ _ (by rw [doInvoke_state]; exact hsteps.trans h)⟩
  · exact Or.inr ⟨q, vm₁, B, X₁.warmed, X', hpost, hstep₁ _ (by rw [doInvoke_state]; exact hsteps)⟩
theorem vx_runSU {y : MethodName} {bytes cc : ByteArray} {maxL nL mc ms n index : Nat} {ret : Option FieldType} {ws : List Cond} {rm : Room} {Pc : Array Value → State → Prop} {Qc : Array Value → State → Outcome → State → Prop} {XC : String → State → State → Prop} {free : Addr → Prop} {Ts : List Cond} {own C : String} {cC : ClassId} {b : Addr} {As rest : List Value} {g : JFrame}
    (hat : ClassAt s C cC) (S : CallFix p m c cc nL s args Ts own) (hM : vx_Met l y ws rm Pc Qc XC mc ms free) (cw : va_CS R s args own index y bytes maxL ret ws rm mc ms n) (hp : PreV s H C b Pc As)
    (hg : g.method = m) (hn : As.length = n) (hsize : g.locals.size = nL) (hstack : g.stack = As.reverse ++ .ref b :: rest) (hW : 2 * g.monitorRoom + (rest.map fun v => v.category).sum ≤ 8) (hdg : decode cc g.pc = .ok (.invokespecial index, 3)) (hf : cells + mc ≤ R.cells ∧ slots + ms ≤ R.slots) :
    vx_Run p l e R s m args below meth c H locs cells slots mc ms g rest (Qc (Value.ref b :: As).toArray) XC free := by
  obtain ⟨⟨hrc, hrs, hfr, hlo, hws, hcw⟩, hl1, hl2, hl3, hl4, hini, hcode, hno, hlen⟩ := cw
  have hK : vx_Back l R p e below s args y 3 8 (PreOf R mc ms Pc) (PostOf Qc mc ms free) (vx_Post XC mc ms free) := vx_back (bytes := bytes) (maxL := maxL) (ret := ret) hM hp.1 hrc hrs hfr hlo hws hcw (fun a' U hW => word_at hW (Or.inl (by first | rfl | simp [Cond.onTables, Cond.keeps, Cond.steady])) hini)
  obtain ⟨hx, hb, hml, ho, -⟩ := S
  obtain ⟨-, ⟨cellB, hcB, hoB, hclB⟩, hPc⟩ := hp
  obtain ⟨hfc, kB, hkB, -⟩ := hat
  cases hfc.symm.trans hclB
  intro T hT X
  rcases vx_callSU X hx (bytes := bytes) (maxL := maxL) (ret := ret) ho hl1 hl2 hl3 hl4 hcode hno hK (by rw [hT]; exact hcB) hoB hkB hg (hsize.trans hml.symm) (argsL := As) (rest := rest) (fun sig h => hn.trans (hlen sig h)) hstack hW (by rw [hb]; exact hdg)
    (fun vm₁ hW₁ => ⟨hf.1, hf.2, hPc (T.setVm vm₁) hT hW₁⟩) with ⟨v, vm₁, ⟨U', l2, c2, s2⟩, hW₁, X', ⟨g', mk, t, L, e1, e2, hq, h1, hL, h2, h3⟩, st⟩ | ⟨q, vm₁, ⟨U', l2, c2, s2⟩, hW₁, X', ⟨g', mk, t, L, E, ce, e1, e2, hq, hce, hcv, hcl, h1, hL, h2, h3⟩, st⟩
  · dsimp only [Pt.U, Pt.locs, Pt.cells, Pt.slots] at X' e1 e2 h1 h2 h3 st
    subst h1; subst h2; subst h3
    exact Or.inl ⟨v, (T.setVm vm₁).calling g' mk (Value.ref b :: As).toArray, t, U', L, hT, X', hL, e1, e2, hq, st⟩
  · dsimp only [Pt.U, Pt.locs, Pt.cells, Pt.slots] at X' e1 e2 h1 h2 h3 st hcl
    subst h1; subst h2; subst h3
    exact Or.inr ⟨q, (T.setVm vm₁).calling g' mk (Value.ref b :: As).toArray, t, U', L, E, ce, hT, X', hL, e1, e2, hq, hce, hcv, vx_cls hW₁ hcl, st⟩
end
/-! ===== END ===== -/
/-! ===== BEGIN a private method of a nest mate that may throw (follows va_callVN, va_callSN, va_runVN, va_runSN) ===== -/
section
variable {p : Program} {l : Launch} {e : Env} {R : Room} {s : State} {m : MethodId} {args : Array Value} {below : List Frame} {meth : Method} {c : Code} {H : Heap} {locs : List Loc} {cells slots : Nat}
variable {T : State}
theorem vx_callVN (X : Stand p l e R s m args below meth c T locs cells slots) (hexec : p.tables.exec = Jvm.exec) {own C : String} {index : Nat} {host : String} {y : MethodName} {bytes : ByteArray} {maxL : Nat} {ret : Option FieldType}
    (hown : s.vm.findClass own = some m.cls) (hlink : (Cond.methodLinkNest own index y host).before args s = true) (hinst : (Cond.instanceMethod y).before args s = true) (hsel : (Cond.selects C y y).before args s = true)
    (hcode : (Cond.code y bytes maxL ret).before args s = true) (hy : y.cls ≠ "java/lang/invoke/MethodHandle" ∧ y.cls ≠ "java/lang/invoke/VarHandle")
    {W : Nat} {Pre : Pt → Array Value → Prop} {Post : Pt → Array Value → Option Value → Pt → Prop} {PostX : Pt → Array Value → Addr → Pt → Prop} (hK : vx_Back l R p e below s args y 3 W Pre Post PostX)
    {b : Addr} {cellB : Cell} (hcell : T.heap[b]? = some cellB) (hobj : cellB.vm.isStatics = false) (hcls : s.vm.findClass C = some cellB.cls)
    {g : JFrame} (hg : g.method = m) (hsize : g.locals.size = c.maxLocals) {argsL rest : List Value} (hlen : ∀ sig, parseMethodDescriptor y.desc = some sig → argsL.length = sig.parameters.length)
    (hstack : g.stack = argsL.reverse ++ .ref b :: rest) (hW : 2 * g.monitorRoom + (rest.map fun v => v.category).sum ≤ W) (hdg : decode c.code g.pc = .ok (.invokevirtual index, 3))
    (hpre : ∀ vm₁, s.WarmedH vm₁ → Pre ⟨T.setVm vm₁, locs, cells, slots⟩ (Value.ref b :: argsL).toArray) :
    (∃ (v : Option Value) (vm₁ : Vm) (B : Pt), s.WarmedH vm₁ ∧ Stand p l e R s m args below meth c B.U B.locs B.cells B.slots ∧ Post ⟨T.setVm vm₁, locs, cells, slots⟩ (Value.ref b :: argsL).toArray v B ∧
      ∀ target, Steps p.tables e below (B.U.setTop { g with pc := g.pc + 3, stack := v.toList ++ rest }) target → Steps p.tables e below (T.setTop g) target) ∨
    (∃ (q : Addr) (vm₁ : Vm) (B : Pt), s.WarmedH vm₁ ∧ Stand p l e R s m args below meth c B.U B.locs B.cells B.slots ∧ PostX ⟨T.setVm vm₁, locs, cells, slots⟩ (Value.ref b :: argsL).toArray q B ∧
      Steps p.tables e below (T.setTop g) ((B.U.setTop { g with stack := rest }).pushFrame (.throwing q))) := by
  obtain ⟨mk, methM, hnamed, hmethM, hstM, habM⟩ := Cond.instanceMethod_spec hinst
  obtain ⟨methM', cM, hmethM', -, -, -, -, -, -, hsigM⟩ := Cond.code_spec hnamed hcode
  cases hmethM.symm.trans hmethM'
  obtain ⟨c2, r2, m2, q1, q2, q3, q4, kP, hkP, hkPi⟩ := Cond.selects_spec hsel
  cases hcls.symm.trans q1
  cases (State.methodFound?_of_named hnamed hy).symm.trans q2
  cases hnamed.symm.trans q3
  have hselP : selectMethod e.platform s.vm cellB.cls mk = .method mk := by rw [Launch.admits_selectMethod X.admits]; exact q4
  obtain ⟨vm₁, X₁, hstep₁⟩ := X.invokevirtualNest hexec hown hlink hnamed hmethM hstM hkP hkPi hy (a := b) (cell := cellB) hcell
    (fun z h => by rw [h] at hobj; cases hobj) hselP hmethM habM hkP hkPi (g := g) hg (argsL := argsL) (rest := rest) (hlen _ hsigM) hstack hdg
  rcases hK m meth c ⟨T.setVm vm₁, locs, cells, slots⟩ { g with stack := rest } (.invokevirtual index) mk (Value.ref b :: argsL).toArray X₁ hg hsize hdg hW (X₁.named hnamed) (hpre vm₁ X₁.warmed) with ⟨v, B, X', hpost, hsteps⟩ | ⟨q, B, X', hpost, hsteps⟩
  · exact Or.inl ⟨v, vm₁, B, X₁.warmed, X', hpost, fun target h => hstep₁ _ fun acts => by rw [doInvoke_state]; exact hsteps.trans h⟩
  · exact Or.inr ⟨q, vm₁, B, X₁.warmed, X', hpost, hstep₁ _ fun acts => by rw [doInvoke_state]; exact hsteps⟩
theorem vx_callSN (X : Stand p l e R s m args below meth c T locs cells slots) (hexec : p.tables.exec = Jvm.exec) {own : String} {index : Nat} {host : String} {y : MethodName} {bytes : ByteArray} {maxL : Nat} {ret : Option FieldType}
    (hown : s.vm.findClass own = some m.cls) (hlink : (Cond.methodLinkNest own index y host).before args s = true) (hstat : (Cond.static y).before args s = true) (hinit : (Cond.initialized y.cls).before args s = true)
    (hcode : (Cond.code y bytes maxL ret).before args s = true) (hy : y.cls ≠ "java/lang/invoke/MethodHandle" ∧ y.cls ≠ "java/lang/invoke/VarHandle")
    {W : Nat} {Pre : Pt → Array Value → Prop} {Post : Pt → Array Value → Option Value → Pt → Prop} {PostX : Pt → Array Value → Addr → Pt → Prop} (hK : vx_Back l R p e below s args y 3 W Pre Post PostX)
    {g : JFrame} (hg : g.method = m) (hsize : g.locals.size = c.maxLocals) {argsL rest : List Value} (hlen : ∀ sig, parseMethodDescriptor y.desc = some sig → argsL.length = sig.parameters.length)
    (hstack : g.stack = argsL.reverse ++ rest) (hW : 2 * g.monitorRoom + (rest.map fun v => v.category).sum ≤ W) (hdg : decode c.code g.pc = .ok (.invokestatic index, 3))
    (hpre : ∀ vm₁, s.WarmedH vm₁ → Pre ⟨T.setVm vm₁, locs, cells, slots⟩ argsL.toArray) :
    (∃ (v : Option Value) (vm₁ : Vm) (B : Pt), s.WarmedH vm₁ ∧ Stand p l e R s m args below meth c B.U B.locs B.cells B.slots ∧ Post ⟨T.setVm vm₁, locs, cells, slots⟩ argsL.toArray v B ∧
      ∀ target, Steps p.tables e below (B.U.setTop { g with pc := g.pc + 3, stack := v.toList ++ rest }) target → Steps p.tables e below (T.setTop g) target) ∨
    (∃ (q : Addr) (vm₁ : Vm) (B : Pt), s.WarmedH vm₁ ∧ Stand p l e R s m args below meth c B.U B.locs B.cells B.slots ∧ PostX ⟨T.setVm vm₁, locs, cells, slots⟩ argsL.toArray q B ∧
      Steps p.tables e below (T.setTop g) ((B.U.setTop { g with stack := rest }).pushFrame (.throwing q))) := by
  obtain ⟨mk, hnamed⟩ := Cond.code_named hcode
  obtain ⟨methM, cM, hmethM, -, -, -, -, -, -, hsigM⟩ := Cond.code_spec hnamed hcode
  have hstatic : methM.isStatic = true := Cond.static_spec hnamed hmethM hstat
  obtain ⟨kP, hkP, -⟩ := className_of_methodNamed hnamed
  have hinitP : kP.init = .initialized := Cond.initialized_spec (findClass_of_methodNamed hnamed) hkP hinit
  obtain ⟨vm₁, X₁, hstep₁⟩ := X.invokestaticNest hexec hown hlink hnamed hmethM hstatic hkP hinitP hy (g := g) hg (argsL := argsL) (rest := rest) (hlen _ hsigM) hstack hdg
  rcases hK m meth c ⟨T.setVm vm₁, locs, cells, slots⟩ { g with stack := rest } (.invokestatic index) mk argsL.toArray X₁ hg hsize hdg hW (X₁.named hnamed) (hpre vm₁ X₁.warmed) with ⟨v, B, X', hpost, hsteps⟩ | ⟨q, B, X', hpost, hsteps⟩
  · exact Or.inl ⟨v, vm₁, B, X₁.warmed, X', hpost, fun target h => hstep₁ _ fun acts => by rw [doInvoke_state]; exact hsteps.trans h⟩
  · exact Or.inr ⟨q, vm₁, B, X₁.warmed, X', hpost, hstep₁ _ fun acts => by rw [doInvoke_state]; exact hsteps⟩
theorem vx_runVN {y : MethodName} {bytes cc : ByteArray} {maxL nL mc ms n index : Nat} {ret : Option FieldType} {ws : List Cond} {rm : Room} {Pc : Array Value → State → Prop} {Qc : Array Value → State → Outcome → State → Prop} {XC : String → State → State → Prop} {free : Addr → Prop} {Ts : List Cond} {own C host : String} {b : Addr} {As rest : List Value} {g : JFrame}
    (S : CallFix p m c cc nL s args Ts own) (hM : vx_Met l y ws rm Pc Qc XC mc ms free) (cw : va_CN R s args own index y host bytes maxL ret ws rm mc ms n ∧ (Cond.instanceMethod y).before args s = true ∧ (Cond.selects C y y).before args s = true) (hp : PreV s H C b Pc As)
    (hg : g.method = m) (hn : As.length = n) (hsize : g.locals.size = nL) (hstack : g.stack = As.reverse ++ .ref b :: rest) (hW : 2 * g.monitorRoom + (rest.map fun v => v.category).sum ≤ 8) (hdg : decode cc g.pc = .ok (.invokevirtual index, 3)) (hf : cells + mc ≤ R.cells ∧ slots + ms ≤ R.slots) :
    vx_Run p l e R s m args below meth c H locs cells slots mc ms g rest (Qc (Value.ref b :: As).toArray) XC free := by
  obtain ⟨⟨⟨hrc, hrs, hfr, hlo, hws, hcw⟩, hcode, hini, hy, hlen, hl⟩, hx1, hx2⟩ := cw
  have hK : vx_Back l R p e below s args y 3 8 (PreOf R mc ms Pc) (PostOf Qc mc ms free) (vx_Post XC mc ms free) := vx_back (bytes := bytes) (maxL := maxL) (ret := ret) hM hp.1 hrc hrs hfr hlo hws hcw (fun a' U hW => word_at hW (Or.inl (by first | rfl | simp [Cond.onTables, Cond.keeps, Cond.steady])) hini)
  obtain ⟨hx, hb, hml, ho, -⟩ := S
  obtain ⟨-, ⟨cellB, hcB, hoB, hclB⟩, hPc⟩ := hp
  intro T hT X
  rcases vx_callVN X hx (C := C) (bytes := bytes) (maxL := maxL) (ret := ret) ho hl hx1 hx2 hcode hy hK (by rw [hT]; exact hcB) hoB hclB hg (hsize.trans hml.symm) (argsL := As) (rest := rest) (fun sig h => hn.trans (hlen sig h)) hstack hW (by rw [hb]; exact hdg)
    (fun vm₁ hW₁ => ⟨hf.1, hf.2, hPc (T.setVm vm₁) hT hW₁⟩) with ⟨v, vm₁, ⟨U', l2, c2, s2⟩, hW₁, X', ⟨g', mk, t, L, e1, e2, hq, h1, hL, h2, h3⟩, st⟩ | ⟨q, vm₁, ⟨U', l2, c2, s2⟩, hW₁, X', ⟨g', mk, t, L, E, ce, e1, e2, hq, hce, hcv, hcl, h1, hL, h2, h3⟩, st⟩
  · dsimp only [Pt.U, Pt.locs, Pt.cells, Pt.slots] at X' e1 e2 h1 h2 h3 st
    subst h1; subst h2; subst h3
    exact Or.inl ⟨v, (T.setVm vm₁).calling g' mk (Value.ref b :: As).toArray, t, U', L, hT, X', hL, e1, e2, hq, st⟩
  · dsimp only [Pt.U, Pt.locs, Pt.cells, Pt.slots] at X' e1 e2 h1 h2 h3 st hcl
    subst h1; subst h2; subst h3
    exact Or.inr ⟨q, (T.setVm vm₁).calling g' mk (Value.ref b :: As).toArray, t, U', L, E, ce, hT, X', hL, e1, e2, hq, hce, hcv, vx_cls hW₁ hcl, st⟩
theorem vx_runSN {y : MethodName} {bytes cc : ByteArray} {maxL nL mc ms n index : Nat} {ret : Option FieldType} {ws : List Cond} {rm : Room} {Pc : Array Value → State → Prop} {Qc : Array Value → State → Outcome → State → Prop} {XC : String → State → State → Prop} {free : Addr → Prop} {Ts : List Cond} {own host : String} {As rest : List Value} {g : JFrame}
    (S : CallFix p m c cc nL s args Ts own) (hM : vx_Met l y ws rm Pc Qc XC mc ms free) (cw : va_CN R s args own index y host bytes maxL ret ws rm mc ms n ∧ (Cond.static y).before args s = true ∧ True) (hp : PreS s H Pc As)
    (hg : g.method = m) (hn : As.length = n) (hsize : g.locals.size = nL) (hstack : g.stack = As.reverse ++ rest) (hW : 2 * g.monitorRoom + (rest.map fun v => v.category).sum ≤ 8) (hdg : decode cc g.pc = .ok (.invokestatic index, 3)) (hf : cells + mc ≤ R.cells ∧ slots + ms ≤ R.slots) :
    vx_Run p l e R s m args below meth c H locs cells slots mc ms g rest (Qc As.toArray) XC free := by
  obtain ⟨⟨⟨hrc, hrs, hfr, hlo, hws, hcw⟩, hcode, hini, hy, hlen, hl⟩, hx1, hx2⟩ := cw
  have hK : vx_Back l R p e below s args y 3 8 (PreOf R mc ms Pc) (PostOf Qc mc ms free) (vx_Post XC mc ms free) := vx_back (bytes := bytes) (maxL := maxL) (ret := ret) hM hp.1 hrc hrs hfr hlo hws hcw (fun a' U hW => word_at hW (Or.inl (by first | rfl | simp [Cond.onTables, Cond.keeps, Cond.steady])) hini)
  obtain ⟨hx, hb, hml, ho, -⟩ := S
  have hPc := hp.2
  intro T hT X
  rcases vx_callSN X hx (bytes := bytes) (maxL := maxL) (ret := ret) ho hl hx1 hini hcode hy hK hg (hsize.trans hml.symm) (argsL := As) (rest := rest) (fun sig h => hn.trans (hlen sig h)) hstack hW (by rw [hb]; exact hdg)
    (fun vm₁ hW₁ => ⟨hf.1, hf.2, hPc (T.setVm vm₁) hT hW₁⟩) with ⟨v, vm₁, ⟨U', l2, c2, s2⟩, hW₁, X', ⟨g', mk, t, L, e1, e2, hq, h1, hL, h2, h3⟩, st⟩ | ⟨q, vm₁, ⟨U', l2, c2, s2⟩, hW₁, X', ⟨g', mk, t, L, E, ce, e1, e2, hq, hce, hcv, hcl, h1, hL, h2, h3⟩, st⟩
  · dsimp only [Pt.U, Pt.locs, Pt.cells, Pt.slots] at X' e1 e2 h1 h2 h3 st
    subst h1; subst h2; subst h3
    exact Or.inl ⟨v, (T.setVm vm₁).calling g' mk As.toArray, t, U', L, hT, X', hL, e1, e2, hq, st⟩
  · dsimp only [Pt.U, Pt.locs, Pt.cells, Pt.slots] at X' e1 e2 h1 h2 h3 st hcl
    subst h1; subst h2; subst h3
    exact Or.inr ⟨q, (T.setVm vm₁).calling g' mk As.toArray, t, U', L, E, ce, hT, X', hL, e1, e2, hq, hce, hcv, vx_cls hW₁ hcl, st⟩
end
/-! ===== END ===== -/
/-! ===== BEGIN calls by an interface of methods that may throw (vx_callIF, vx_runF follow va_callIF, va_runF of this kit) ===== -/
section
variable {p : Program} {l : Launch} {e : Env} {R : Room} {s : State} {m : MethodId} {args : Array Value} {below : List Frame} {meth : Method} {c : Code} {H : Heap} {locs : List Loc} {cells slots : Nat} {Q : State → Prop}
variable {mc ms : Nat} {free : Addr → Prop} {A0 A1 : Nat → Prop} {H0 : Heap} {a : Array Value} {pc : Nat} {ls : Array Slot} {st0 rest : List Value}
def vx_Run5 (p : Program) (l : Launch) (e : Env) (R : Room) (s : State) (m : MethodId) (args : Array Value) (below : List Frame) (meth : Method) (c : Code) (H : Heap) (locs : List Loc) (cells slots mc ms : Nat) (g : JFrame) (rest : List Value) (Qa : State → Outcome → State → Prop) (XC : String → State → State → Prop) (free : Addr → Prop) : Prop :=
  ∀ T : State, T.heap = H → Stand p l e R s m args below meth c T locs cells slots →
    (∃ (v : Option Value) (st₀ t T' : State) (L : List Loc), st₀.heap = H ∧ Stand p l e R s m args below meth c T' (locs ++ L) (cells + mc) (slots + ms) ∧ (∀ q ∈ L, free q.base) ∧ T'.heap = t.heap ∧ T'.vm = t.vm ∧ Qa st₀ (.returned v) t ∧
      Goes p e below T g T' { g with pc := g.pc + 5, stack := v.toList ++ rest }) ∨
    (∃ (q : Addr) (st₀ t T' : State) (L : List Loc) (E : String) (ce : Cell), st₀.heap = H ∧ Stand p l e R s m args below meth c T' (locs ++ L) (cells + mc) (slots + ms) ∧ (∀ z ∈ L, free z.base) ∧ T'.heap = t.heap ∧ T'.vm = t.vm ∧ XC E st₀ t ∧ t.heap[q]? = some ce ∧ ce.vm = .none ∧ s.vm.findClass E = some ce.cls ∧
      Steps p.tables e below (T.setTop g) ((T'.setTop { g with stack := rest }).pushFrame (.throwing q)))
theorem vx_callIF {T : State} (X : Stand p l e R s m args below meth c T locs cells slots) (hexec : p.tables.exec = Jvm.exec) {own C : String} {index count : Nat} {x y : MethodName} {bytes : ByteArray} {maxL : Nat} {ret : Option FieldType}
    (hown : s.vm.findClass own = some m.cls) (hlink : (Cond.methodLink own index x).before args s = true) (hdecl : (Cond.declares x).before args s = true) (hface : (Cond.interfaceMethod x.cls x.cls x.name x.desc).before args s = true)
    (hsel : (Cond.selects C x y).before args s = true) (hinst : (Cond.instanceMethod y).before args s = true) (hpub : (Cond.publicMethod y).before args s = true) (hunh : (Cond.unhidden C x.name x.desc).before args s = true)
    (hcast : (Cond.castable C x.cls).before args s = true) (hcode : (Cond.code y bytes maxL ret).before args s = true) (hx : x.cls ≠ "java/lang/invoke/MethodHandle" ∧ x.cls ≠ "java/lang/invoke/VarHandle")
    {W9 : Nat} {Pre : Pt → Array Value → Prop} {Post : Pt → Array Value → Option Value → Pt → Prop} {PostX : Pt → Array Value → Addr → Pt → Prop} (hK : vx_Back l R p e below s args y 5 W9 Pre Post PostX)
    {b : Addr} {cellB : Cell} {kB : Class} (hcell : T.heap[b]? = some cellB) (hobj : cellB.vm.isStatics = false) (hcls : s.vm.findClass C = some cellB.cls) (hkB : s.vm.classes[cellB.cls]? = some kB)
    {g : JFrame} (hg : g.method = m) (hsize : g.locals.size = c.maxLocals) {argsL rest : List Value} (hlen : ∀ sig, parseMethodDescriptor x.desc = some sig → argsL.length = sig.parameters.length)
    (hstack : g.stack = argsL.reverse ++ .ref b :: rest) (hW : 2 * g.monitorRoom + (rest.map fun v => v.category).sum ≤ W9) (hdg : decode c.code g.pc = .ok (.invokeinterface index count, 5))
    (hpre : ∀ vm₁, s.WarmedH vm₁ → Pre ⟨T.setVm vm₁, locs, cells, slots⟩ (Value.ref b :: argsL).toArray) :
    (∃ (v : Option Value) (vm₁ : Vm) (B : Pt), s.WarmedH vm₁ ∧ Stand p l e R s m args below meth c B.U B.locs B.cells B.slots ∧ Post ⟨T.setVm vm₁, locs, cells, slots⟩ (Value.ref b :: argsL).toArray v B ∧
      ∀ target, Steps p.tables e below (B.U.setTop { g with pc := g.pc + 5, stack := v.toList ++ rest }) target → Steps p.tables e below (T.setTop g) target) ∨
    (∃ (q : Addr) (vm₁ : Vm) (B : Pt), s.WarmedH vm₁ ∧ Stand p l e R s m args below meth c B.U B.locs B.cells B.slots ∧ PostX ⟨T.setVm vm₁, locs, cells, slots⟩ (Value.ref b :: argsL).toArray q B ∧
      Steps p.tables e below (T.setTop g) ((B.U.setTop { g with stack := rest }).pushFrame (.throwing q))) := by
  obtain ⟨r0, r, hn, hrm, hstR, hsigR⟩ := Cond.declares_spec hdecl
  obtain ⟨cL, kL, r1, hcL, hkL, hiL, hfoundL, hn1⟩ := Cond.interfaceMethod_spec hface
  cases hn.symm.trans hn1
  have hr0cls : r0.cls = cL := Option.some.inj ((findClass_of_methodNamed hn).symm.trans hcL)
  obtain ⟨hnameR, hdescR⟩ := name_of_methodNamed hn hrm
  obtain ⟨mk, methM, hnamed, hmethM, -, habM⟩ := Cond.instanceMethod_spec hinst
  obtain ⟨c2, r2, m2, q1, q2, q3, q4, -⟩ := Cond.selects_spec hsel
  cases hcls.symm.trans q1
  cases hfoundL.symm.trans q2
  cases hnamed.symm.trans q3
  have hselP : selectMethod e.platform s.vm cellB.cls r0 = .method mk := by rw [Launch.admits_selectMethod X.admits]; exact q4
  have hpubM : hasFlag methM.accessFlags Acc.public_ = true := Cond.publicMethod_spec hnamed hmethM hpub
  have hway : ((cellB.cls :: s.vm.superclasses cellB.cls).any fun k => (declaredIn s.vm r.name r.desc k).any fun (_, z) => z.isPrivate || z.isStatic) = false := by
    rw [hnameR, hdescR]; exact Cond.unhidden_spec hcls hunh
  obtain ⟨c3, t3, w1, w2, w3⟩ := Cond.castable_spec hcast
  cases hcls.symm.trans w1
  cases hcL.symm.trans w2
  obtain ⟨vm₁, X₁, hstep₁⟩ := X.invokeinterface hexec hown hlink hn hrm hstR (by rw [hr0cls]; exact hkL) hiL hx (a := b) (cell := cellB) (kcell := kB) hcell
    (fun z h => by rw [h] at hobj; cases hobj) hkB (by rw [hr0cls]; exact w3) hselP hmethM hway hpubM habM (g := g) hg (argsL := argsL) (rest := rest) (hlen _ hsigR) hstack hdg
  rcases hK m meth c ⟨T.setVm vm₁, locs, cells, slots⟩ { g with stack := rest } (.invokeinterface index count) mk (Value.ref b :: argsL).toArray X₁ hg hsize hdg hW (X₁.named hnamed) (hpre vm₁ X₁.warmed) with ⟨v, B, X', hpost, hsteps⟩ | ⟨q, B, X', hpost, hsteps⟩
  · exact Or.inl ⟨v, vm₁, B, X₁.warmed, X', hpost, fun target h => hstep₁ _ fun acts => by rw [doInvoke_state]; exact hsteps.trans h⟩
  · exact Or.inr ⟨q, vm₁, B, X₁.warmed, X', hpost, hstep₁ _ fun acts => by rw [doInvoke_state]; exact hsteps⟩
theorem vx_runF {x y : MethodName} {bytes cc : ByteArray} {maxL nL mc ms n index count : Nat} {ret : Option FieldType} {ws : List Cond} {rm : Room} {Pc : Array Value → State → Prop} {Qc : Array Value → State → Outcome → State → Prop} {XC : String → State → State → Prop} {free : Addr → Prop} {Ts : List Cond} {own C : String} {cC : ClassId} {b : Addr} {As rest : List Value} {g : JFrame}
    (hat : ClassAt s C cC) (S : CallFix p m c cc nL s args Ts own) (hM : vx_Met l y ws rm Pc Qc XC mc ms free) (cw : va_CI R s args own C index x y bytes maxL ret ws rm mc ms n) (hp : PreV s H C b Pc As)
    (hg : g.method = m) (hn : As.length = n) (hsize : g.locals.size = nL) (hstack : g.stack = As.reverse ++ .ref b :: rest) (hW : 2 * g.monitorRoom + (rest.map fun v => v.category).sum ≤ 8) (hdg : decode cc g.pc = .ok (.invokeinterface index count, 5)) (hf : cells + mc ≤ R.cells ∧ slots + ms ≤ R.slots) :
    vx_Run5 p l e R s m args below meth c H locs cells slots mc ms g rest (Qc (Value.ref b :: As).toArray) XC free := by
  obtain ⟨hrc, hrs, hfr, hlo, hws, hcw⟩ := cw.back
  have hini := cw.init
  have hK : vx_Back l R p e below s args y 5 8 (PreOf R mc ms Pc) (PostOf Qc mc ms free) (vx_Post XC mc ms free) := vx_back (bytes := bytes) (maxL := maxL) (ret := ret) hM hp.1 hrc hrs hfr hlo hws hcw (fun a' U hW => word_at hW (Or.inl (by first | rfl | simp [Cond.onTables, Cond.keeps, Cond.steady])) hini)
  obtain ⟨hx, hb, hml, ho, -⟩ := S
  obtain ⟨-, ⟨cellB, hcB, hoB, hclB⟩, hPc⟩ := hp
  obtain ⟨hfc, kB, hkB, -⟩ := hat
  cases hfc.symm.trans hclB
  intro T hT X
  rcases vx_callIF X hx (C := C) (bytes := bytes) (maxL := maxL) (ret := ret) ho cw.link cw.decl cw.face cw.sel cw.inst cw.pub cw.unh cw.cast cw.code cw.notMH hK (by rw [hT]; exact hcB) hoB hclB hkB hg (hsize.trans hml.symm) (argsL := As) (rest := rest) (fun sig h => hn.trans (cw.len sig h)) hstack hW (by rw [hb]; exact hdg)
    (fun vm₁ hW₁ => ⟨hf.1, hf.2, hPc (T.setVm vm₁) hT hW₁⟩) with ⟨v, vm₁, ⟨U', l2, c2, s2⟩, hW₁, X', ⟨g', mk, t, L, e1, e2, hq, h1, hL, h2, h3⟩, st⟩ | ⟨q, vm₁, ⟨U', l2, c2, s2⟩, hW₁, X', ⟨g', mk, t, L, E, ce, e1, e2, hq, hce, hcv, hcl, h1, hL, h2, h3⟩, st⟩
  · dsimp only [Pt.U, Pt.locs, Pt.cells, Pt.slots] at X' e1 e2 h1 h2 h3 st
    subst h1; subst h2; subst h3
    exact Or.inl ⟨v, (T.setVm vm₁).calling g' mk (Value.ref b :: As).toArray, t, U', L, hT, X', hL, e1, e2, hq, st⟩
  · dsimp only [Pt.U, Pt.locs, Pt.cells, Pt.slots] at X' e1 e2 h1 h2 h3 st hcl
    subst h1; subst h2; subst h3
    exact Or.inr ⟨q, (T.setVm vm₁).calling g' mk (Value.ref b :: As).toArray, t, U', L, E, ce, hT, X', hL, e1, e2, hq, hce, hcv, vx_cls hW₁ hcl, st⟩
theorem vx_callFv {S SX : Type} {post : S → Prop} {px : SX → Prop} {B : S → State → Prop} {BX : String → SX → State → Prop} {AX : Nat → Prop} (hr : vx_Run5 p l e R s m args below meth c H locs cells slots mc ms (F0 m pc ls st0) rest (va_Qv post B A1 a) (vx_X px BX AX) free) (hS : va_S A0 H0 H locs) (hA : ∀ q, q < H.size → A1 q → A0 q) (hf : ∀ q, free q → A0 q) (hAX : ∀ q, q < H.size → AX q → A0 q)
    (kx : ∀ (E : String) (ce : Cell) (q9 : Addr) (u : SX) (t : State) (H1 : Heap) (locs1 : List Loc), t.heap = H1 → s.vm.Alike t.vm → px u → BX E u t → H.size ≤ H1.size → (∀ q : Nat, q < H.size → ¬ AX q → H1[q]? = H[q]?) → va_S A0 H0 H1 locs1 → H1[q9]? = some ce → ce.vm = .none → s.vm.findClass E = some ce.cls → vx_W p l e R s m args below meth c H1 locs1 (cells + mc) (slots + ms) Q (F0 m pc ls rest) q9)
    (kk : ∀ (u : S) (t : State) (H1 : Heap) (locs1 : List Loc), t.heap = H1 → s.vm.Alike t.vm → post u → B u t → H.size ≤ H1.size → (∀ q : Nat, q < H.size → ¬ A1 q → H1[q]? = H[q]?) → va_S A0 H0 H1 locs1 → W p l e R s m args below meth c H1 locs1 (cells + mc) (slots + ms) Q (F0 m (pc + 5) ls (rest))) : W p l e R s m args below meth c H locs cells slots Q (F0 m pc ls st0) := by
  intro T hT X
  rcases hr T hT X with ⟨v, st₀, t, T', L, h0, X', hL, e1, e2, ⟨⟨u, hv, hp, hb⟩, hF⟩, st⟩ | ⟨q, st₀, t, T', L, E, ce, h0, X', hL, e1, e2, ⟨u, hp, hb, hF⟩, hce, hcv, hcl, st⟩
  · cases hv
    obtain ⟨k1, k2, k3⟩ := vx_keep h0 e1 hS hA hf hL hF
    obtain ⟨t2, a1, b1⟩ := kk u t T'.heap (locs ++ L) e1.symm (by rw [← e2]; exact X'.warmed.alike) hp hb k1 k2 k3 T' rfl X'
    exact ⟨t2, st t2 a1, b1⟩
  · obtain ⟨k1, k2, k3⟩ := vx_keep h0 e1 hS hAX hf hL hF
    obtain ⟨t2, a1, b1⟩ := kx E ce q u t T'.heap (locs ++ L) e1.symm (by rw [← e2]; exact X'.warmed.alike) hp hb k1 k2 k3 (by rw [e1]; exact hce) hcv hcl T' rfl X'
    exact ⟨t2, st.trans a1, b1⟩
theorem vx_callFi {S SX : Type} {post : Int32 → S → Prop} {px : SX → Prop} {B : S → State → Prop} {BX : String → SX → State → Prop} {AX : Nat → Prop} (hr : vx_Run5 p l e R s m args below meth c H locs cells slots mc ms (F0 m pc ls st0) rest (va_Qi post B A1 a) (vx_X px BX AX) free) (hS : va_S A0 H0 H locs) (hA : ∀ q, q < H.size → A1 q → A0 q) (hf : ∀ q, free q → A0 q) (hAX : ∀ q, q < H.size → AX q → A0 q)
    (kx : ∀ (E : String) (ce : Cell) (q9 : Addr) (u : SX) (t : State) (H1 : Heap) (locs1 : List Loc), t.heap = H1 → s.vm.Alike t.vm → px u → BX E u t → H.size ≤ H1.size → (∀ q : Nat, q < H.size → ¬ AX q → H1[q]? = H[q]?) → va_S A0 H0 H1 locs1 → H1[q9]? = some ce → ce.vm = .none → s.vm.findClass E = some ce.cls → vx_W p l e R s m args below meth c H1 locs1 (cells + mc) (slots + ms) Q (F0 m pc ls rest) q9)
    (kk : ∀ (r : Int32) (u : S) (t : State) (H1 : Heap) (locs1 : List Loc), t.heap = H1 → s.vm.Alike t.vm → post r u → B u t → H.size ≤ H1.size → (∀ q : Nat, q < H.size → ¬ A1 q → H1[q]? = H[q]?) → va_S A0 H0 H1 locs1 → W p l e R s m args below meth c H1 locs1 (cells + mc) (slots + ms) Q (F0 m (pc + 5) ls (.int r :: rest))) : W p l e R s m args below meth c H locs cells slots Q (F0 m pc ls st0) := by
  intro T hT X
  rcases hr T hT X with ⟨v, st₀, t, T', L, h0, X', hL, e1, e2, ⟨⟨r, u, hv, hp, hb⟩, hF⟩, st⟩ | ⟨q, st₀, t, T', L, E, ce, h0, X', hL, e1, e2, ⟨u, hp, hb, hF⟩, hce, hcv, hcl, st⟩
  · cases hv
    obtain ⟨k1, k2, k3⟩ := vx_keep h0 e1 hS hA hf hL hF
    obtain ⟨t2, a1, b1⟩ := kk r u t T'.heap (locs ++ L) e1.symm (by rw [← e2]; exact X'.warmed.alike) hp hb k1 k2 k3 T' rfl X'
    exact ⟨t2, st t2 a1, b1⟩
  · obtain ⟨k1, k2, k3⟩ := vx_keep h0 e1 hS hAX hf hL hF
    obtain ⟨t2, a1, b1⟩ := kx E ce q u t T'.heap (locs ++ L) e1.symm (by rw [← e2]; exact X'.warmed.alike) hp hb k1 k2 k3 (by rw [e1]; exact hce) hcv hcl T' rfl X'
    exact ⟨t2, st.trans a1, b1⟩
theorem vx_callFl {S SX : Type} {post : Int64 → S → Prop} {px : SX → Prop} {B : S → State → Prop} {BX : String → SX → State → Prop} {AX : Nat → Prop} (hr : vx_Run5 p l e R s m args below meth c H locs cells slots mc ms (F0 m pc ls st0) rest (va_Ql post B A1 a) (vx_X px BX AX) free) (hS : va_S A0 H0 H locs) (hA : ∀ q, q < H.size → A1 q → A0 q) (hf : ∀ q, free q → A0 q) (hAX : ∀ q, q < H.size → AX q → A0 q)
    (kx : ∀ (E : String) (ce : Cell) (q9 : Addr) (u : SX) (t : State) (H1 : Heap) (locs1 : List Loc), t.heap = H1 → s.vm.Alike t.vm → px u → BX E u t → H.size ≤ H1.size → (∀ q : Nat, q < H.size → ¬ AX q → H1[q]? = H[q]?) → va_S A0 H0 H1 locs1 → H1[q9]? = some ce → ce.vm = .none → s.vm.findClass E = some ce.cls → vx_W p l e R s m args below meth c H1 locs1 (cells + mc) (slots + ms) Q (F0 m pc ls rest) q9)
    (kk : ∀ (r : Int64) (u : S) (t : State) (H1 : Heap) (locs1 : List Loc), t.heap = H1 → s.vm.Alike t.vm → post r u → B u t → H.size ≤ H1.size → (∀ q : Nat, q < H.size → ¬ A1 q → H1[q]? = H[q]?) → va_S A0 H0 H1 locs1 → W p l e R s m args below meth c H1 locs1 (cells + mc) (slots + ms) Q (F0 m (pc + 5) ls (.long r :: rest))) : W p l e R s m args below meth c H locs cells slots Q (F0 m pc ls st0) := by
  intro T hT X
  rcases hr T hT X with ⟨v, st₀, t, T', L, h0, X', hL, e1, e2, ⟨⟨r, u, hv, hp, hb⟩, hF⟩, st⟩ | ⟨q, st₀, t, T', L, E, ce, h0, X', hL, e1, e2, ⟨u, hp, hb, hF⟩, hce, hcv, hcl, st⟩
  · cases hv
    obtain ⟨k1, k2, k3⟩ := vx_keep h0 e1 hS hA hf hL hF
    obtain ⟨t2, a1, b1⟩ := kk r u t T'.heap (locs ++ L) e1.symm (by rw [← e2]; exact X'.warmed.alike) hp hb k1 k2 k3 T' rfl X'
    exact ⟨t2, st t2 a1, b1⟩
  · obtain ⟨k1, k2, k3⟩ := vx_keep h0 e1 hS hAX hf hL hF
    obtain ⟨t2, a1, b1⟩ := kx E ce q u t T'.heap (locs ++ L) e1.symm (by rw [← e2]; exact X'.warmed.alike) hp hb k1 k2 k3 (by rw [e1]; exact hce) hcv hcl T' rfl X'
    exact ⟨t2, st.trans a1, b1⟩
theorem vx_callFf {S SX : Type} {post : UInt32 → S → Prop} {px : SX → Prop} {B : S → State → Prop} {BX : String → SX → State → Prop} {AX : Nat → Prop} (hr : vx_Run5 p l e R s m args below meth c H locs cells slots mc ms (F0 m pc ls st0) rest (va_Qf post B A1 a) (vx_X px BX AX) free) (hS : va_S A0 H0 H locs) (hA : ∀ q, q < H.size → A1 q → A0 q) (hf : ∀ q, free q → A0 q) (hAX : ∀ q, q < H.size → AX q → A0 q)
    (kx : ∀ (E : String) (ce : Cell) (q9 : Addr) (u : SX) (t : State) (H1 : Heap) (locs1 : List Loc), t.heap = H1 → s.vm.Alike t.vm → px u → BX E u t → H.size ≤ H1.size → (∀ q : Nat, q < H.size → ¬ AX q → H1[q]? = H[q]?) → va_S A0 H0 H1 locs1 → H1[q9]? = some ce → ce.vm = .none → s.vm.findClass E = some ce.cls → vx_W p l e R s m args below meth c H1 locs1 (cells + mc) (slots + ms) Q (F0 m pc ls rest) q9)
    (kk : ∀ (r : UInt32) (u : S) (t : State) (H1 : Heap) (locs1 : List Loc), t.heap = H1 → s.vm.Alike t.vm → post r u → B u t → H.size ≤ H1.size → (∀ q : Nat, q < H.size → ¬ A1 q → H1[q]? = H[q]?) → va_S A0 H0 H1 locs1 → W p l e R s m args below meth c H1 locs1 (cells + mc) (slots + ms) Q (F0 m (pc + 5) ls (.float r :: rest))) : W p l e R s m args below meth c H locs cells slots Q (F0 m pc ls st0) := by
  intro T hT X
  rcases hr T hT X with ⟨v, st₀, t, T', L, h0, X', hL, e1, e2, ⟨⟨r, u, hv, hp, hb⟩, hF⟩, st⟩ | ⟨q, st₀, t, T', L, E, ce, h0, X', hL, e1, e2, ⟨u, hp, hb, hF⟩, hce, hcv, hcl, st⟩
  · cases hv
    obtain ⟨k1, k2, k3⟩ := vx_keep h0 e1 hS hA hf hL hF
    obtain ⟨t2, a1, b1⟩ := kk r u t T'.heap (locs ++ L) e1.symm (by rw [← e2]; exact X'.warmed.alike) hp hb k1 k2 k3 T' rfl X'
    exact ⟨t2, st t2 a1, b1⟩
  · obtain ⟨k1, k2, k3⟩ := vx_keep h0 e1 hS hAX hf hL hF
    obtain ⟨t2, a1, b1⟩ := kx E ce q u t T'.heap (locs ++ L) e1.symm (by rw [← e2]; exact X'.warmed.alike) hp hb k1 k2 k3 (by rw [e1]; exact hce) hcv hcl T' rfl X'
    exact ⟨t2, st.trans a1, b1⟩
theorem vx_callFd {S SX : Type} {post : UInt64 → S → Prop} {px : SX → Prop} {B : S → State → Prop} {BX : String → SX → State → Prop} {AX : Nat → Prop} (hr : vx_Run5 p l e R s m args below meth c H locs cells slots mc ms (F0 m pc ls st0) rest (va_Qd post B A1 a) (vx_X px BX AX) free) (hS : va_S A0 H0 H locs) (hA : ∀ q, q < H.size → A1 q → A0 q) (hf : ∀ q, free q → A0 q) (hAX : ∀ q, q < H.size → AX q → A0 q)
    (kx : ∀ (E : String) (ce : Cell) (q9 : Addr) (u : SX) (t : State) (H1 : Heap) (locs1 : List Loc), t.heap = H1 → s.vm.Alike t.vm → px u → BX E u t → H.size ≤ H1.size → (∀ q : Nat, q < H.size → ¬ AX q → H1[q]? = H[q]?) → va_S A0 H0 H1 locs1 → H1[q9]? = some ce → ce.vm = .none → s.vm.findClass E = some ce.cls → vx_W p l e R s m args below meth c H1 locs1 (cells + mc) (slots + ms) Q (F0 m pc ls rest) q9)
    (kk : ∀ (r : UInt64) (u : S) (t : State) (H1 : Heap) (locs1 : List Loc), t.heap = H1 → s.vm.Alike t.vm → post r u → B u t → H.size ≤ H1.size → (∀ q : Nat, q < H.size → ¬ A1 q → H1[q]? = H[q]?) → va_S A0 H0 H1 locs1 → W p l e R s m args below meth c H1 locs1 (cells + mc) (slots + ms) Q (F0 m (pc + 5) ls (.double r :: rest))) : W p l e R s m args below meth c H locs cells slots Q (F0 m pc ls st0) := by
  intro T hT X
  rcases hr T hT X with ⟨v, st₀, t, T', L, h0, X', hL, e1, e2, ⟨⟨r, u, hv, hp, hb⟩, hF⟩, st⟩ | ⟨q, st₀, t, T', L, E, ce, h0, X', hL, e1, e2, ⟨u, hp, hb, hF⟩, hce, hcv, hcl, st⟩
  · cases hv
    obtain ⟨k1, k2, k3⟩ := vx_keep h0 e1 hS hA hf hL hF
    obtain ⟨t2, a1, b1⟩ := kk r u t T'.heap (locs ++ L) e1.symm (by rw [← e2]; exact X'.warmed.alike) hp hb k1 k2 k3 T' rfl X'
    exact ⟨t2, st t2 a1, b1⟩
  · obtain ⟨k1, k2, k3⟩ := vx_keep h0 e1 hS hAX hf hL hF
    obtain ⟨t2, a1, b1⟩ := kx E ce q u t T'.heap (locs ++ L) e1.symm (by rw [← e2]; exact X'.warmed.alike) hp hb k1 k2 k3 (by rw [e1]; exact hce) hcv hcl T' rfl X'
    exact ⟨t2, st.trans a1, b1⟩
end
/-! ===== END ===== -/
/-! ===== BEGIN by an interface, a method with a table of its own that may throw (follows va_callIFW, va_runFW) ===== -/
section
variable {p : Program} {l : Launch} {e : Env} {R : Room} {s : State} {m : MethodId} {args : Array Value} {below : List Frame} {meth : Method} {c : Code} {H : Heap} {locs : List Loc} {cells slots : Nat}
theorem vx_callIFW {T : State} (X : Stand p l e R s m args below meth c T locs cells slots) (hexec : p.tables.exec = Jvm.exec) {own C : String} {index count : Nat} {x y : MethodName} {bytes : ByteArray} {maxL : Nat} {ret : Option FieldType} {hh : List (Nat × Nat × Nat × Nat)}
    (hown : s.vm.findClass own = some m.cls) (hlink : (Cond.methodLink own index x).before args s = true) (hdecl : (Cond.declares x).before args s = true) (hface : (Cond.interfaceMethod x.cls x.cls x.name x.desc).before args s = true)
    (hsel : (Cond.selects C x y).before args s = true) (hinst : (Cond.instanceMethod y).before args s = true) (hpub : (Cond.publicMethod y).before args s = true) (hunh : (Cond.unhidden C x.name x.desc).before args s = true)
    (hcast : (Cond.castable C x.cls).before args s = true) (hcode : (Cond.codeWith y bytes maxL ret hh).before args s = true) (hx : x.cls ≠ "java/lang/invoke/MethodHandle" ∧ x.cls ≠ "java/lang/invoke/VarHandle")
    {W : Nat} {Pre : Pt → Array Value → Prop} {Post : Pt → Array Value → Option Value → Pt → Prop} {PostX : Pt → Array Value → Addr → Pt → Prop} (hK : vx_Back l R p e below s args y 5 W Pre Post PostX)
    {b : Addr} {cellB : Cell} {kB : Class} (hcell : T.heap[b]? = some cellB) (hobj : cellB.vm.isStatics = false) (hcls : s.vm.findClass C = some cellB.cls) (hkB : s.vm.classes[cellB.cls]? = some kB)
    {g : JFrame} (hg : g.method = m) (hsize : g.locals.size = c.maxLocals) {argsL rest : List Value} (hlen : ∀ sig, parseMethodDescriptor x.desc = some sig → argsL.length = sig.parameters.length)
    (hstack : g.stack = argsL.reverse ++ .ref b :: rest) (hW : 2 * g.monitorRoom + (rest.map fun v => v.category).sum ≤ W) (hdg : decode c.code g.pc = .ok (.invokeinterface index count, 5))
    (hpre : ∀ vm₁, s.WarmedH vm₁ → Pre ⟨T.setVm vm₁, locs, cells, slots⟩ (Value.ref b :: argsL).toArray) :
    (∃ (v : Option Value) (vm₁ : Vm) (B : Pt), s.WarmedH vm₁ ∧ Stand p l e R s m args below meth c B.U B.locs B.cells B.slots ∧ Post ⟨T.setVm vm₁, locs, cells, slots⟩ (Value.ref b :: argsL).toArray v B ∧
      ∀ target, Steps p.tables e below (B.U.setTop { g with pc := g.pc + 5, stack := v.toList ++ rest }) target → Steps p.tables e below (T.setTop g) target) ∨
    (∃ (q : Addr) (vm₁ : Vm) (B : Pt), s.WarmedH vm₁ ∧ Stand p l e R s m args below meth c B.U B.locs B.cells B.slots ∧ PostX ⟨T.setVm vm₁, locs, cells, slots⟩ (Value.ref b :: argsL).toArray q B ∧
      Steps p.tables e below (T.setTop g) ((B.U.setTop { g with stack := rest }).pushFrame (.throwing q))) := by
  obtain ⟨r0, r, hn, hrm, hstR, hsigR⟩ := Cond.declares_spec hdecl
  obtain ⟨cL, kL, r1, hcL, hkL, hiL, hfoundL, hn1⟩ := Cond.interfaceMethod_spec hface
  cases hn.symm.trans hn1
  have hr0cls : r0.cls = cL := Option.some.inj ((findClass_of_methodNamed hn).symm.trans hcL)
  obtain ⟨hnameR, hdescR⟩ := name_of_methodNamed hn hrm
  obtain ⟨mk, methM, hnamed, hmethM, -, habM⟩ := Cond.instanceMethod_spec hinst
  obtain ⟨c2, r2, m2, q1, q2, q3, q4, -⟩ := Cond.selects_spec hsel
  cases hcls.symm.trans q1
  cases hfoundL.symm.trans q2
  cases hnamed.symm.trans q3
  have hselP : selectMethod e.platform s.vm cellB.cls r0 = .method mk := by rw [Launch.admits_selectMethod X.admits]; exact q4
  have hpubM : hasFlag methM.accessFlags Acc.public_ = true := Cond.publicMethod_spec hnamed hmethM hpub
  have hway : ((cellB.cls :: s.vm.superclasses cellB.cls).any fun k => (declaredIn s.vm r.name r.desc k).any fun (_, z) => z.isPrivate || z.isStatic) = false := by
    rw [hnameR, hdescR]; exact Cond.unhidden_spec hcls hunh
  obtain ⟨c3, t3, w1, w2, w3⟩ := Cond.castable_spec hcast
  cases hcls.symm.trans w1
  cases hcL.symm.trans w2
  obtain ⟨vm₁, X₁, hstep₁⟩ := X.invokeinterface hexec hown hlink hn hrm hstR (by rw [hr0cls]; exact hkL) hiL hx (a := b) (cell := cellB) (kcell := kB) hcell
    (fun z h => by rw [h] at hobj; cases hobj) hkB (by rw [hr0cls]; exact w3) hselP hmethM hway hpubM habM (g := g) hg (argsL := argsL) (rest := rest) (hlen _ hsigR) hstack hdg
  rcases hK m meth c ⟨T.setVm vm₁, locs, cells, slots⟩ { g with stack := rest } (.invokeinterface index count) mk (Value.ref b :: argsL).toArray X₁ hg hsize hdg hW (X₁.named hnamed) (hpre vm₁ X₁.warmed) with ⟨v, B, X', hpost, hsteps⟩ | ⟨q, B, X', hpost, hsteps⟩
  · exact Or.inl ⟨v, vm₁, B, X₁.warmed, X', hpost, fun target h => hstep₁ _ fun acts => by rw [doInvoke_state]; exact hsteps.trans h⟩
  · exact Or.inr ⟨q, vm₁, B, X₁.warmed, X', hpost, hstep₁ _ fun acts => by rw [doInvoke_state]; exact hsteps⟩
theorem vx_runFW {x y : MethodName} {bytes cc : ByteArray} {maxL nL mc ms n index count : Nat} {ret : Option FieldType} {hh : List (Nat × Nat × Nat × Nat)} {ws : List Cond} {rm : Room} {Pc : Array Value → State → Prop} {Qc : Array Value → State → Outcome → State → Prop} {XC : String → State → State → Prop} {free : Addr → Prop} {Ts : List Cond} {own C : String} {cC : ClassId} {b : Addr} {As rest : List Value} {g : JFrame}
    (hat : ClassAt s C cC) (S : CallFix p m c cc nL s args Ts own) (hM : vx_Met l y ws rm Pc Qc XC mc ms free) (cw : va_CIW R s args own C index x y bytes maxL ret hh ws rm mc ms n) (hp : PreV s H C b Pc As)
    (hg : g.method = m) (hn : As.length = n) (hsize : g.locals.size = nL) (hstack : g.stack = As.reverse ++ .ref b :: rest) (hW : 2 * g.monitorRoom + (rest.map fun v => v.category).sum ≤ 8) (hdg : decode cc g.pc = .ok (.invokeinterface index count, 5)) (hf : cells + mc ≤ R.cells ∧ slots + ms ≤ R.slots) :
    vx_Run5 p l e R s m args below meth c H locs cells slots mc ms g rest (Qc (Value.ref b :: As).toArray) XC free := by
  obtain ⟨hrc, hrs, hfr, hlo, hws, hcw⟩ := cw.back
  have hini := cw.init
  have hK : vx_Back l R p e below s args y 5 8 (PreOf R mc ms Pc) (PostOf Qc mc ms free) (vx_Post XC mc ms free) := vx_backW (hh := hh) (bytes := bytes) (maxL := maxL) (ret := ret) hM hp.1 hrc hrs hfr hlo hws hcw (fun a' U hW => word_at hW (Or.inl (by first | rfl | simp [Cond.onTables, Cond.keeps, Cond.steady])) hini)
  obtain ⟨hx, hb, hml, ho, -⟩ := S
  obtain ⟨-, ⟨cellB, hcB, hoB, hclB⟩, hPc⟩ := hp
  obtain ⟨hfc, kB, hkB, -⟩ := hat
  cases hfc.symm.trans hclB
  intro T hT X
  rcases vx_callIFW X hx (C := C) (hh := hh) (bytes := bytes) (maxL := maxL) (ret := ret) ho cw.link cw.decl cw.face cw.sel cw.inst cw.pub cw.unh cw.cast cw.code cw.notMH hK (by rw [hT]; exact hcB) hoB hclB hkB hg (hsize.trans hml.symm) (argsL := As) (rest := rest) (fun sig h => hn.trans (cw.len sig h)) hstack hW (by rw [hb]; exact hdg)
    (fun vm₁ hW₁ => ⟨hf.1, hf.2, hPc (T.setVm vm₁) hT hW₁⟩) with ⟨v, vm₁, ⟨U', l2, c2, s2⟩, hW₁, X', ⟨g', mk, t, L, e1, e2, hq, h1, hL, h2, h3⟩, st⟩ | ⟨q, vm₁, ⟨U', l2, c2, s2⟩, hW₁, X', ⟨g', mk, t, L, E, ce, e1, e2, hq, hce, hcv, hcl, h1, hL, h2, h3⟩, st⟩
  · dsimp only [Pt.U, Pt.locs, Pt.cells, Pt.slots] at X' e1 e2 h1 h2 h3 st
    subst h1; subst h2; subst h3
    exact Or.inl ⟨v, (T.setVm vm₁).calling g' mk (Value.ref b :: As).toArray, t, U', L, hT, X', hL, e1, e2, hq, st⟩
  · dsimp only [Pt.U, Pt.locs, Pt.cells, Pt.slots] at X' e1 e2 h1 h2 h3 st hcl
    subst h1; subst h2; subst h3
    exact Or.inr ⟨q, (T.setVm vm₁).calling g' mk (Value.ref b :: As).toArray, t, U', L, E, ce, hT, X', hL, e1, e2, hq, hce, hcv, vx_cls hW₁ hcl, st⟩
end
/-! ===== END ===== -/
/-! ===== BEGIN .. of methods that hand back an object of the pool ===== -/
section
variable {p : Program} {l : Launch} {e : Env} {R : Room} {s : State} {m : MethodId} {args : Array Value} {below : List Frame} {meth : Method} {c : Code} {H : Heap} {locs : List Loc} {cells slots : Nat} {Q : State → Prop}
variable {mc ms : Nat} {free : Addr → Prop} {A0 A1 : Nat → Prop} {H0 : Heap} {a : Array Value} {pc : Nat} {ls : Array Slot} {st0 rest : List Value}
theorem vx_callq {S SX : Type} {post : Option Nat → S → Prop} {px : SX → Prop} {B : S → State → Prop} {BX : String → SX → State → Prop} {AX : Nat → Prop} (hr : vx_Run p l e R s m args below meth c H locs cells slots mc ms (F0 m pc ls st0) rest (va_Qq post B A1 a) (vx_X px BX AX) free) (hS : va_S A0 H0 H locs) (hA : ∀ q, q < H.size → A1 q → A0 q) (hf : ∀ q, free q → A0 q) (hAX : ∀ q, q < H.size → AX q → A0 q)
    (kx : ∀ (E : String) (ce : Cell) (q9 : Addr) (u : SX) (t : State) (H1 : Heap) (locs1 : List Loc), t.heap = H1 → s.vm.Alike t.vm → px u → BX E u t → H.size ≤ H1.size → (∀ q : Nat, q < H.size → ¬ AX q → H1[q]? = H[q]?) → va_S A0 H0 H1 locs1 → H1[q9]? = some ce → ce.vm = .none → s.vm.findClass E = some ce.cls → vx_W p l e R s m args below meth c H1 locs1 (cells + mc) (slots + ms) Q (F0 m pc ls rest) q9)
    (kk : ∀ (r : Option Nat) (u : S) (t : State) (H1 : Heap) (locs1 : List Loc), t.heap = H1 → s.vm.Alike t.vm → post r u → B u t → H.size ≤ H1.size → (∀ q : Nat, q < H.size → ¬ A1 q → H1[q]? = H[q]?) → va_S A0 H0 H1 locs1 → W p l e R s m args below meth c H1 locs1 (cells + mc) (slots + ms) Q (F0 m (pc + 3) ls (va_rf r :: rest))) : W p l e R s m args below meth c H locs cells slots Q (F0 m pc ls st0) := by
  intro T hT X
  rcases hr T hT X with ⟨v, st₀, t, T', L, h0, X', hL, e1, e2, ⟨⟨r, u, hv, hp, hb⟩, hF⟩, st⟩ | ⟨q, st₀, t, T', L, E, ce, h0, X', hL, e1, e2, ⟨u, hp, hb, hF⟩, hce, hcv, hcl, st⟩
  · cases hv
    obtain ⟨k1, k2, k3⟩ := vx_keep h0 e1 hS hA hf hL hF
    obtain ⟨t2, a1, b1⟩ := kk r u t T'.heap (locs ++ L) e1.symm (by rw [← e2]; exact X'.warmed.alike) hp hb k1 k2 k3 T' rfl X'
    exact ⟨t2, st t2 a1, b1⟩
  · obtain ⟨k1, k2, k3⟩ := vx_keep h0 e1 hS hAX hf hL hF
    obtain ⟨t2, a1, b1⟩ := kx E ce q u t T'.heap (locs ++ L) e1.symm (by rw [← e2]; exact X'.warmed.alike) hp hb k1 k2 k3 (by rw [e1]; exact hce) hcv hcl T' rfl X'
    exact ⟨t2, st.trans a1, b1⟩
end
/-! ===== END ===== -/
/-! ===== BEGIN .. a constant ===== -/
section
variable {p : Program} {l : Launch} {e : Env} {R : Room} {s : State} {m : MethodId} {args : Array Value} {below : List Frame} {meth : Method} {c : Code} {H : Heap} {locs : List Loc} {cells slots : Nat} {Q : State → Prop}
variable {mc ms : Nat} {free : Addr → Prop} {A0 A1 : Nat → Prop} {H0 : Heap} {a : Array Value} {pc : Nat} {ls : Array Slot} {st0 rest : List Value}
theorem vx_calle {ad : Nat → Nat} {S SX : Type} {post : Option Nat → S → Prop} {px : SX → Prop} {B : S → State → Prop} {BX : String → SX → State → Prop} {AX : Nat → Prop} (hr : vx_Run p l e R s m args below meth c H locs cells slots mc ms (F0 m pc ls st0) rest (va_Qe ad post B A1 a) (vx_X px BX AX) free) (hS : va_S A0 H0 H locs) (hA : ∀ q, q < H.size → A1 q → A0 q) (hf : ∀ q, free q → A0 q) (hAX : ∀ q, q < H.size → AX q → A0 q)
    (kx : ∀ (E : String) (ce : Cell) (q9 : Addr) (u : SX) (t : State) (H1 : Heap) (locs1 : List Loc), t.heap = H1 → s.vm.Alike t.vm → px u → BX E u t → H.size ≤ H1.size → (∀ q : Nat, q < H.size → ¬ AX q → H1[q]? = H[q]?) → va_S A0 H0 H1 locs1 → H1[q9]? = some ce → ce.vm = .none → s.vm.findClass E = some ce.cls → vx_W p l e R s m args below meth c H1 locs1 (cells + mc) (slots + ms) Q (F0 m pc ls rest) q9)
    (kk : ∀ (r : Option Nat) (u : S) (t : State) (H1 : Heap) (locs1 : List Loc), t.heap = H1 → s.vm.Alike t.vm → post r u → B u t → H.size ≤ H1.size → (∀ q : Nat, q < H.size → ¬ A1 q → H1[q]? = H[q]?) → va_S A0 H0 H1 locs1 → W p l e R s m args below meth c H1 locs1 (cells + mc) (slots + ms) Q (F0 m (pc + 3) ls (va_re ad r :: rest))) : W p l e R s m args below meth c H locs cells slots Q (F0 m pc ls st0) := by
  intro T hT X
  rcases hr T hT X with ⟨v, st₀, t, T', L, h0, X', hL, e1, e2, ⟨⟨r, u, hv, hp, hb⟩, hF⟩, st⟩ | ⟨q, st₀, t, T', L, E, ce, h0, X', hL, e1, e2, ⟨u, hp, hb, hF⟩, hce, hcv, hcl, st⟩
  · cases hv
    obtain ⟨k1, k2, k3⟩ := vx_keep h0 e1 hS hA hf hL hF
    obtain ⟨t2, a1, b1⟩ := kk r u t T'.heap (locs ++ L) e1.symm (by rw [← e2]; exact X'.warmed.alike) hp hb k1 k2 k3 T' rfl X'
    exact ⟨t2, st t2 a1, b1⟩
  · obtain ⟨k1, k2, k3⟩ := vx_keep h0 e1 hS hAX hf hL hF
    obtain ⟨t2, a1, b1⟩ := kx E ce q u t T'.heap (locs ++ L) e1.symm (by rw [← e2]; exact X'.warmed.alike) hp hb k1 k2 k3 (by rw [e1]; exact hce) hcv hcl T' rfl X'
    exact ⟨t2, st.trans a1, b1⟩
end
/-! ===== END ===== -/
/-! ===== BEGIN .. by an interface, an object ===== -/
section
variable {p : Program} {l : Launch} {e : Env} {R : Room} {s : State} {m : MethodId} {args : Array Value} {below : List Frame} {meth : Method} {c : Code} {H : Heap} {locs : List Loc} {cells slots : Nat} {Q : State → Prop}
variable {mc ms : Nat} {free : Addr → Prop} {A0 A1 : Nat → Prop} {H0 : Heap} {a : Array Value} {pc : Nat} {ls : Array Slot} {st0 rest : List Value}
theorem vx_callFq {S SX : Type} {post : Option Nat → S → Prop} {px : SX → Prop} {B : S → State → Prop} {BX : String → SX → State → Prop} {AX : Nat → Prop} (hr : vx_Run5 p l e R s m args below meth c H locs cells slots mc ms (F0 m pc ls st0) rest (va_Qq post B A1 a) (vx_X px BX AX) free) (hS : va_S A0 H0 H locs) (hA : ∀ q, q < H.size → A1 q → A0 q) (hf : ∀ q, free q → A0 q) (hAX : ∀ q, q < H.size → AX q → A0 q)
    (kx : ∀ (E : String) (ce : Cell) (q9 : Addr) (u : SX) (t : State) (H1 : Heap) (locs1 : List Loc), t.heap = H1 → s.vm.Alike t.vm → px u → BX E u t → H.size ≤ H1.size → (∀ q : Nat, q < H.size → ¬ AX q → H1[q]? = H[q]?) → va_S A0 H0 H1 locs1 → H1[q9]? = some ce → ce.vm = .none → s.vm.findClass E = some ce.cls → vx_W p l e R s m args below meth c H1 locs1 (cells + mc) (slots + ms) Q (F0 m pc ls rest) q9)
    (kk : ∀ (r : Option Nat) (u : S) (t : State) (H1 : Heap) (locs1 : List Loc), t.heap = H1 → s.vm.Alike t.vm → post r u → B u t → H.size ≤ H1.size → (∀ q : Nat, q < H.size → ¬ A1 q → H1[q]? = H[q]?) → va_S A0 H0 H1 locs1 → W p l e R s m args below meth c H1 locs1 (cells + mc) (slots + ms) Q (F0 m (pc + 5) ls (va_rf r :: rest))) : W p l e R s m args below meth c H locs cells slots Q (F0 m pc ls st0) := by
  intro T hT X
  rcases hr T hT X with ⟨v, st₀, t, T', L, h0, X', hL, e1, e2, ⟨⟨r, u, hv, hp, hb⟩, hF⟩, st⟩ | ⟨q, st₀, t, T', L, E, ce, h0, X', hL, e1, e2, ⟨u, hp, hb, hF⟩, hce, hcv, hcl, st⟩
  · cases hv
    obtain ⟨k1, k2, k3⟩ := vx_keep h0 e1 hS hA hf hL hF
    obtain ⟨t2, a1, b1⟩ := kk r u t T'.heap (locs ++ L) e1.symm (by rw [← e2]; exact X'.warmed.alike) hp hb k1 k2 k3 T' rfl X'
    exact ⟨t2, st t2 a1, b1⟩
  · obtain ⟨k1, k2, k3⟩ := vx_keep h0 e1 hS hAX hf hL hF
    obtain ⟨t2, a1, b1⟩ := kx E ce q u t T'.heap (locs ++ L) e1.symm (by rw [← e2]; exact X'.warmed.alike) hp hb k1 k2 k3 (by rw [e1]; exact hce) hcv hcl T' rfl X'
    exact ⟨t2, st.trans a1, b1⟩
end
/-! ===== END ===== -/
/-! ===== BEGIN .. by an interface, a constant ===== -/
section
variable {p : Program} {l : Launch} {e : Env} {R : Room} {s : State} {m : MethodId} {args : Array Value} {below : List Frame} {meth : Method} {c : Code} {H : Heap} {locs : List Loc} {cells slots : Nat} {Q : State → Prop}
variable {mc ms : Nat} {free : Addr → Prop} {A0 A1 : Nat → Prop} {H0 : Heap} {a : Array Value} {pc : Nat} {ls : Array Slot} {st0 rest : List Value}
theorem vx_callFe {ad : Nat → Nat} {S SX : Type} {post : Option Nat → S → Prop} {px : SX → Prop} {B : S → State → Prop} {BX : String → SX → State → Prop} {AX : Nat → Prop} (hr : vx_Run5 p l e R s m args below meth c H locs cells slots mc ms (F0 m pc ls st0) rest (va_Qe ad post B A1 a) (vx_X px BX AX) free) (hS : va_S A0 H0 H locs) (hA : ∀ q, q < H.size → A1 q → A0 q) (hf : ∀ q, free q → A0 q) (hAX : ∀ q, q < H.size → AX q → A0 q)
    (kx : ∀ (E : String) (ce : Cell) (q9 : Addr) (u : SX) (t : State) (H1 : Heap) (locs1 : List Loc), t.heap = H1 → s.vm.Alike t.vm → px u → BX E u t → H.size ≤ H1.size → (∀ q : Nat, q < H.size → ¬ AX q → H1[q]? = H[q]?) → va_S A0 H0 H1 locs1 → H1[q9]? = some ce → ce.vm = .none → s.vm.findClass E = some ce.cls → vx_W p l e R s m args below meth c H1 locs1 (cells + mc) (slots + ms) Q (F0 m pc ls rest) q9)
    (kk : ∀ (r : Option Nat) (u : S) (t : State) (H1 : Heap) (locs1 : List Loc), t.heap = H1 → s.vm.Alike t.vm → post r u → B u t → H.size ≤ H1.size → (∀ q : Nat, q < H.size → ¬ A1 q → H1[q]? = H[q]?) → va_S A0 H0 H1 locs1 → W p l e R s m args below meth c H1 locs1 (cells + mc) (slots + ms) Q (F0 m (pc + 5) ls (va_re ad r :: rest))) : W p l e R s m args below meth c H locs cells slots Q (F0 m pc ls st0) := by
  intro T hT X
  rcases hr T hT X with ⟨v, st₀, t, T', L, h0, X', hL, e1, e2, ⟨⟨r, u, hv, hp, hb⟩, hF⟩, st⟩ | ⟨q, st₀, t, T', L, E, ce, h0, X', hL, e1, e2, ⟨u, hp, hb, hF⟩, hce, hcv, hcl, st⟩
  · cases hv
    obtain ⟨k1, k2, k3⟩ := vx_keep h0 e1 hS hA hf hL hF
    obtain ⟨t2, a1, b1⟩ := kk r u t T'.heap (locs ++ L) e1.symm (by rw [← e2]; exact X'.warmed.alike) hp hb k1 k2 k3 T' rfl X'
    exact ⟨t2, st t2 a1, b1⟩
  · obtain ⟨k1, k2, k3⟩ := vx_keep h0 e1 hS hAX hf hL hF
    obtain ⟨t2, a1, b1⟩ := kx E ce q u t T'.heap (locs ++ L) e1.symm (by rw [← e2]; exact X'.warmed.alike) hp hb k1 k2 k3 (by rw [e1]; exact hce) hcv hcl T' rfl X'
    exact ⟨t2, st.trans a1, b1⟩
end
/-! ===== END ===== -/
/-! ===== BEGIN what the machine throws by itself: null at a field, at athrow ===== -/
section VXM2
variable {p : Program} {l : Launch} {e : Env} {R : Room} {s : State} {m : MethodId} {args : Array Value} {below : List Frame} {meth : Method} {c : Code} {H : Heap} {locs : List Loc} {cells slots : Nat}
variable {Q : State → Prop} {cc : ByteArray} {pc : Nat} {ls : Array Slot} {rest : List Value}
theorem vx_getfN {D cl tys} {own ref C : String} {T : u_T} {N ci index : Nat} {Ts : List Cond} (hexec : p.tables.exec = Jvm.exec) (hb : c.code = cc) (hts : ∀ w ∈ Ts, w.before args s = true) (hin : ∀ w ∈ u_ws C T N, w ∈ Ts) (hown : s.vm.findClass own = some m.cls) (hK : va_K D cl tys s) (hc : cl[ci]? = some (C, T, N)) (k : Nat) (hk : k < N) (hlink : (Cond.fieldLink own index ref (T k).2.1 (T k).2.2.1).before args s = true) (hsame : ∀ x, s.fieldFound? (T k).1 (T k).2.1 (T k).2.2.1 = some x → s.fieldFound? ref (T k).2.1 (T k).2.2.1 = some x) (hdg : decode cc pc = .ok (.getfield index, 3)) (kk : vx_NoteN p l e R s m args below meth c H locs cells slots Q (F0 m pc ls rest)) : W p l e R s m args below meth c H locs cells slots Q (F0 m pc ls (.null :: rest)) := by
  obtain ⟨hS, hfc, kC, hkC, -⟩ := hK.1 ci _ hc
  obtain ⟨cf, kf, fi, f, hi, -⟩ := hS k hk
  intro U hU X
  obtain ⟨vm', X1, st1⟩ := X.getfieldNull hexec hown hlink (hsame _ hi) (u_facts hfc hkC (u_lays hts hin hk) hi).1 (g := F0 m pc ls (.null :: rest)) rfl (rest := rest) rfl (by rw [hb]; exact hdg)
  obtain ⟨t, st, q⟩ := kk (U.setVm vm') hU X1
  exact ⟨t, st1 t st, q⟩
theorem vx_getfNN {D cl tys} {own ref C host : String} {T : u_T} {N ci index : Nat} {Ts : List Cond} (hexec : p.tables.exec = Jvm.exec) (hb : c.code = cc) (hts : ∀ w ∈ Ts, w.before args s = true) (hin : ∀ w ∈ u_ws C T N, w ∈ Ts) (hown : s.vm.findClass own = some m.cls) (hK : va_K D cl tys s) (hc : cl[ci]? = some (C, T, N)) (k : Nat) (hk : k < N) (hlink : (Cond.fieldLinkNest own index ref (T k).2.1 (T k).2.2.1 host).before args s = true) (hsame : ∀ x, s.fieldFound? (T k).1 (T k).2.1 (T k).2.2.1 = some x → s.fieldFound? ref (T k).2.1 (T k).2.2.1 = some x) (hdg : decode cc pc = .ok (.getfield index, 3)) (kk : vx_NoteN p l e R s m args below meth c H locs cells slots Q (F0 m pc ls rest)) : W p l e R s m args below meth c H locs cells slots Q (F0 m pc ls (.null :: rest)) := by
  obtain ⟨hS, hfc, kC, hkC, -⟩ := hK.1 ci _ hc
  obtain ⟨cf, kf, fi, f, hi, -⟩ := hS k hk
  intro U hU X
  obtain ⟨vm', X1, st1⟩ := X.getfieldNullNest hexec hown hlink (hsame _ hi) (u_facts hfc hkC (u_lays hts hin hk) hi).1 (g := F0 m pc ls (.null :: rest)) rfl (rest := rest) rfl (by rw [hb]; exact hdg)
  obtain ⟨t, st, q⟩ := kk (U.setVm vm') hU X1
  exact ⟨t, st1 t st, q⟩
theorem vx_putfN {D cl tys} {own ref C : String} {T : u_T} {N ci index : Nat} {Ts : List Cond} (hexec : p.tables.exec = Jvm.exec) (hb : c.code = cc) (hts : ∀ w ∈ Ts, w.before args s = true) (hin : ∀ w ∈ u_ws C T N, w ∈ Ts) (hown : s.vm.findClass own = some m.cls) (hK : va_K D cl tys s) (hc : cl[ci]? = some (C, T, N)) (k : Nat) (hk : k < N) (hlink : (Cond.fieldLink own index ref (T k).2.1 (T k).2.2.1).before args s = true) (hsame : ∀ x, s.fieldFound? (T k).1 (T k).2.1 (T k).2.2.1 = some x → s.fieldFound? ref (T k).2.1 (T k).2.2.1 = some x) (hfin : (T k).2.2.2 = false) {v : Value} (hdg : decode cc pc = .ok (.putfield index, 3)) (kk : vx_NoteN p l e R s m args below meth c H locs cells slots Q (F0 m pc ls rest)) : W p l e R s m args below meth c H locs cells slots Q (F0 m pc ls (v :: .null :: rest)) := by
  obtain ⟨hS, hfc, kC, hkC, -⟩ := hK.1 ci _ hc
  obtain ⟨cf, kf, fi, f, hi, -⟩ := hS k hk
  have hlay := hts _ (hin _ (u_in_lay hk))
  unfold u_lay at hlay
  rw [if_neg (by rw [hfin]; decide)] at hlay
  obtain ⟨c9, k9, cf9, kf9, fi9, f9, -, -, hi9, hst9, hnf9, -⟩ := Cond.lays_spec hlay
  cases hi.symm.trans hi9
  intro U hU X
  obtain ⟨vm', X1, st1⟩ := X.putfieldNull hexec hown hlink (hsame _ hi) hst9 hnf9 (g := F0 m pc ls (v :: .null :: rest)) rfl (v := v) (rest := rest) rfl (by rw [hb]; exact hdg)
  obtain ⟨t, st, q⟩ := kk (U.setVm vm') hU X1
  exact ⟨t, st1 t st, q⟩
theorem vx_putfNN {D cl tys} {own ref C host : String} {T : u_T} {N ci index : Nat} {Ts : List Cond} (hexec : p.tables.exec = Jvm.exec) (hb : c.code = cc) (hts : ∀ w ∈ Ts, w.before args s = true) (hin : ∀ w ∈ u_ws C T N, w ∈ Ts) (hown : s.vm.findClass own = some m.cls) (hK : va_K D cl tys s) (hc : cl[ci]? = some (C, T, N)) (k : Nat) (hk : k < N) (hlink : (Cond.fieldLinkNest own index ref (T k).2.1 (T k).2.2.1 host).before args s = true) (hsame : ∀ x, s.fieldFound? (T k).1 (T k).2.1 (T k).2.2.1 = some x → s.fieldFound? ref (T k).2.1 (T k).2.2.1 = some x) (hfin : (T k).2.2.2 = false) {v : Value} (hdg : decode cc pc = .ok (.putfield index, 3)) (kk : vx_NoteN p l e R s m args below meth c H locs cells slots Q (F0 m pc ls rest)) : W p l e R s m args below meth c H locs cells slots Q (F0 m pc ls (v :: .null :: rest)) := by
  obtain ⟨hS, hfc, kC, hkC, -⟩ := hK.1 ci _ hc
  obtain ⟨cf, kf, fi, f, hi, -⟩ := hS k hk
  have hlay := hts _ (hin _ (u_in_lay hk))
  unfold u_lay at hlay
  rw [if_neg (by rw [hfin]; decide)] at hlay
  obtain ⟨c9, k9, cf9, kf9, fi9, f9, -, -, hi9, hst9, hnf9, -⟩ := Cond.lays_spec hlay
  cases hi.symm.trans hi9
  intro U hU X
  obtain ⟨vm', X1, st1⟩ := X.putfieldNullNest hexec hown hlink (hsame _ hi) hst9 hnf9 (g := F0 m pc ls (v :: .null :: rest)) rfl (v := v) (rest := rest) rfl (by rw [hb]; exact hdg)
  obtain ⟨t, st, q⟩ := kk (U.setVm vm') hU X1
  exact ⟨t, st1 t st, q⟩
theorem vx_athrowN (hexec : p.tables.exec = Jvm.exec) (hb : c.code = cc) (hdg : decode cc pc = .ok (.athrow, 1)) (k : vx_NoteN p l e R s m args below meth c H locs cells slots Q (F0 m pc ls rest)) : W p l e R s m args below meth c H locs cells slots Q (F0 m pc ls (.null :: rest)) := by
  intro T hT X
  obtain ⟨t, st, q⟩ := k T hT X
  exact ⟨t, X.athrowNull hexec (g := F0 m pc ls (.null :: rest)) rfl (rest := rest) rfl (by rw [hb]; exact hdg) t st, q⟩
end VXM2
/-! ===== END ===== -/
end
section
-- the classes of which the run makes objects (names and tables as the claim prints them)
def RJ0 : String := "java/lang/String"
def TJ0 : u_T := fun k => match k with
  | 0 => ("java/lang/String", "value", "[B", true)
  | 1 => ("java/lang/String", "coder", "B", true)
  | 2 => ("java/lang/String", "hash", "I", false)
  | _ => ("java/lang/String", "hashIsZero", "Z", false)
def tyJ0 : Nat → FieldType := fun k => match k with
  | 0 => .array .byte
  | 1 => .byte
  | 2 => .int
  | _ => .boolean
theorem nmJ0 : ∀ a, a < 4 → ∀ b, b < 4 → a ≠ b → (TJ0 a).2.1 ≠ (TJ0 b).2.1 := by decide +kernel
theorem tyJ0_ok : ∀ k, k < 4 → parseFieldDescriptor (TJ0 k).2.2.1 = some (tyJ0 k) := by decide +kernel
def RJ4 : String := "java/lang/StringBuilder"
def TJ4 : u_T := fun k => match k with
  | 0 => ("java/lang/AbstractStringBuilder", "value", "[B", false)
  | 1 => ("java/lang/AbstractStringBuilder", "coder", "B", false)
  | 2 => ("java/lang/AbstractStringBuilder", "maybeLatin1", "Z", false)
  | _ => ("java/lang/AbstractStringBuilder", "count", "I", false)
def tyJ4 : Nat → FieldType := fun k => match k with
  | 0 => .array .byte
  | 1 => .byte
  | 2 => .boolean
  | _ => .int
theorem nmJ4 : ∀ a, a < 4 → ∀ b, b < 4 → a ≠ b → (TJ4 a).2.1 ≠ (TJ4 b).2.1 := by decide +kernel
theorem tyJ4_ok : ∀ k, k < 4 → parseFieldDescriptor (TJ4 k).2.2.1 = some (tyJ4 k) := by decide +kernel
def RJx35411 : String := "java/util/ArrayList$Itr"
def TJx35411 : u_T := fun k => match k with
  | 0 => ("java/util/ArrayList$Itr", "cursor", "I", false)
  | 1 => ("java/util/ArrayList$Itr", "lastRet", "I", false)
  | 2 => ("java/util/ArrayList$Itr", "expectedModCount", "I", false)
  | _ => ("java/util/ArrayList$Itr", "this$0", "Ljava/util/ArrayList;", true)
def tyJx35411 : Nat → FieldType := fun k => match k with
  | 0 => .int
  | 1 => .int
  | 2 => .int
  | _ => .object "java/util/ArrayList"
theorem nmJx35411 : ∀ a, a < 4 → ∀ b, b < 4 → a ≠ b → (TJx35411 a).2.1 ≠ (TJx35411 b).2.1 := by decide +kernel
theorem tyJx35411_ok : ∀ k, k < 4 → parseFieldDescriptor (TJx35411 k).2.2.1 = some (tyJx35411 k) := by decide +kernel
def RJx4a65c : String := "java/util/ArrayList"
def TJx4a65c : u_T := fun k => match k with
  | 0 => ("java/util/AbstractList", "modCount", "I", false)
  | 1 => ("java/util/ArrayList", "elementData", "[Ljava/lang/Object;", false)
  | _ => ("java/util/ArrayList", "size", "I", false)
def tyJx4a65c : Nat → FieldType := fun k => match k with
  | 0 => .int
  | 1 => .array (.object "java/lang/Object")
  | _ => .int
theorem nmJx4a65c : ∀ a, a < 3 → ∀ b, b < 3 → a ≠ b → (TJx4a65c a).2.1 ≠ (TJx4a65c b).2.1 := by decide +kernel
theorem tyJx4a65c_ok : ∀ k, k < 3 → parseFieldDescriptor (TJx4a65c k).2.2.1 = some (tyJx4a65c k) := by decide +kernel
def RX0 : String := "Carcasswright$Board"
def TX0 : u_T := fun k => match k with
  | 0 => ("Carcasswright$Board", "colour", "I", false)
  | 1 => ("Carcasswright$Board", "thick", "I", false)
  | 2 => ("Carcasswright$Board", "length", "I", false)
  | 3 => ("Carcasswright$Board", "width", "I", false)
  | 4 => ("Carcasswright$Board", "isOffcut", "Z", false)
  | 5 => ("Carcasswright$Board", "isOpened", "Z", false)
  | _ => ("Carcasswright$Board", "stripsEnd", "I", false)
def tyX0 : Nat → FieldType := fun k => match k with
  | 0 => .int
  | 1 => .int
  | 2 => .int
  | 3 => .int
  | 4 => .boolean
  | 5 => .boolean
  | _ => .int
theorem nmX0 : ∀ a, a < 7 → ∀ b, b < 7 → a ≠ b → (TX0 a).2.1 ≠ (TX0 b).2.1 := by decide +kernel
theorem tyX0_ok : ∀ k, k < 7 → parseFieldDescriptor (TX0 k).2.2.1 = some (tyX0 k) := by decide +kernel
def RX1 : String := "Carcasswright$Jobs"
def TX1 : u_T := fun k => match k with
  | 0 => ("Carcasswright$Jobs", "colours", "[I", true)
  | 1 => ("Carcasswright$Jobs", "hours", "[I", true)
  | 2 => ("Carcasswright$Jobs", "dues", "[I", true)
  | 3 => ("Carcasswright$Jobs", "order", "[I", true)
  | 4 => ("Carcasswright$Jobs", "best", "[I", true)
  | 5 => ("Carcasswright$Jobs", "count", "I", false)
  | 6 => ("Carcasswright$Jobs", "setup", "I", false)
  | _ => ("Carcasswright$Jobs", "leastLate", "I", false)
def tyX1 : Nat → FieldType := fun k => match k with
  | 0 => .array .int
  | 1 => .array .int
  | 2 => .array .int
  | 3 => .array .int
  | 4 => .array .int
  | 5 => .int
  | 6 => .int
  | _ => .int
theorem nmX1 : ∀ a, a < 8 → ∀ b, b < 8 → a ≠ b → (TX1 a).2.1 ≠ (TX1 b).2.1 := by decide +kernel
theorem tyX1_ok : ∀ k, k < 8 → parseFieldDescriptor (TX1 k).2.2.1 = some (tyX1 k) := by decide +kernel
def RX2 : String := "Carcasswright$ModuleType"
def TX2 : u_T := fun k => match k with
  | 0 => ("Carcasswright$ModuleType", "body", "C", false)
  | 1 => ("Carcasswright$ModuleType", "high", "I", false)
  | 2 => ("Carcasswright$ModuleType", "deep", "I", false)
  | 3 => ("Carcasswright$ModuleType", "lowest", "I", false)
  | 4 => ("Carcasswright$ModuleType", "highest", "I", false)
  | 5 => ("Carcasswright$ModuleType", "width", "I", false)
  | 6 => ("Carcasswright$ModuleType", "doors", "I", false)
  | 7 => ("Carcasswright$ModuleType", "shelves", "I", false)
  | _ => ("Carcasswright$ModuleType", "drawers", "I", false)
def tyX2 : Nat → FieldType := fun k => match k with
  | 0 => .char
  | 1 => .int
  | 2 => .int
  | 3 => .int
  | 4 => .int
  | 5 => .int
  | 6 => .int
  | 7 => .int
  | _ => .int
theorem nmX2 : ∀ a, a < 9 → ∀ b, b < 9 → a ≠ b → (TX2 a).2.1 ≠ (TX2 b).2.1 := by decide +kernel
theorem tyX2_ok : ∀ k, k < 9 → parseFieldDescriptor (TX2 k).2.2.1 = some (tyX2 k) := by decide +kernel
def RX3 : String := "Carcasswright$Obstacle"
def TX3 : u_T := fun k => match k with
  | 0 => ("Carcasswright$Obstacle", "wall", "I", false)
  | 1 => ("Carcasswright$Obstacle", "from", "I", false)
  | 2 => ("Carcasswright$Obstacle", "to", "I", false)
  | 3 => ("Carcasswright$Obstacle", "low", "I", false)
  | _ => ("Carcasswright$Obstacle", "high", "I", false)
def tyX3 : Nat → FieldType := fun k => match k with
  | 0 => .int
  | 1 => .int
  | 2 => .int
  | 3 => .int
  | _ => .int
theorem nmX3 : ∀ a, a < 5 → ∀ b, b < 5 → a ≠ b → (TX3 a).2.1 ≠ (TX3 b).2.1 := by decide +kernel
theorem tyX3_ok : ∀ k, k < 5 → parseFieldDescriptor (TX3 k).2.2.1 = some (tyX3 k) := by decide +kernel
def RX4 : String := "Carcasswright$Packer"
def TX4 : u_T := fun k => match k with
  | 0 => ("Carcasswright$Packer", "weights", "[I", true)
  | 1 => ("Carcasswright$Packer", "packs", "[I", true)
  | 2 => ("Carcasswright$Packer", "loads", "[I", true)
  | _ => ("Carcasswright$Packer", "packCount", "I", false)
def tyX4 : Nat → FieldType := fun k => match k with
  | 0 => .array .int
  | 1 => .array .int
  | 2 => .array .int
  | _ => .int
theorem nmX4 : ∀ a, a < 4 → ∀ b, b < 4 → a ≠ b → (TX4 a).2.1 ≠ (TX4 b).2.1 := by decide +kernel
theorem tyX4_ok : ∀ k, k < 4 → parseFieldDescriptor (TX4 k).2.2.1 = some (tyX4 k) := by decide +kernel
def RX5 : String := "Carcasswright$PlacedModule"
def TX5 : u_T := fun k => match k with
  | 0 => ("Carcasswright$PlacedModule", "type", "LCarcasswright$ModuleType;", false)
  | 1 => ("Carcasswright$PlacedModule", "wall", "I", false)
  | 2 => ("Carcasswright$PlacedModule", "from", "I", false)
  | 3 => ("Carcasswright$PlacedModule", "colour", "I", false)
  | _ => ("Carcasswright$PlacedModule", "cutBits", "I", false)
def tyX5 : Nat → FieldType := fun k => match k with
  | 0 => .object "Carcasswright$ModuleType"
  | 1 => .int
  | 2 => .int
  | 3 => .int
  | _ => .int
theorem nmX5 : ∀ a, a < 5 → ∀ b, b < 5 → a ≠ b → (TX5 a).2.1 ≠ (TX5 b).2.1 := by decide +kernel
theorem tyX5_ok : ∀ k, k < 5 → parseFieldDescriptor (TX5 k).2.2.1 = some (tyX5 k) := by decide +kernel
def RX6 : String := "Carcasswright$Room"
def TX6 : u_T := fun k => match k with
  | 0 => ("Carcasswright$Room", "walls", "[LCarcasswright$Wall;", true)
  | 1 => ("Carcasswright$Room", "obstacles", "[LCarcasswright$Obstacle;", true)
  | 2 => ("Carcasswright$Room", "modules", "[LCarcasswright$PlacedModule;", true)
  | 3 => ("Carcasswright$Room", "trial", "LCarcasswright$PlacedModule;", true)
  | 4 => ("Carcasswright$Room", "causes", "[C", true)
  | 5 => ("Carcasswright$Room", "causeNumbers", "[I", true)
  | 6 => ("Carcasswright$Room", "wallCount", "I", false)
  | 7 => ("Carcasswright$Room", "obstacleCount", "I", false)
  | 8 => ("Carcasswright$Room", "moduleCount", "I", false)
  | _ => ("Carcasswright$Room", "causeCount", "I", false)
def tyX6 : Nat → FieldType := fun k => match k with
  | 0 => .array (.object "Carcasswright$Wall")
  | 1 => .array (.object "Carcasswright$Obstacle")
  | 2 => .array (.object "Carcasswright$PlacedModule")
  | 3 => .object "Carcasswright$PlacedModule"
  | 4 => .array .char
  | 5 => .array .int
  | 6 => .int
  | 7 => .int
  | 8 => .int
  | _ => .int
theorem nmX6 : ∀ a, a < 10 → ∀ b, b < 10 → a ≠ b → (TX6 a).2.1 ≠ (TX6 b).2.1 := by decide +kernel
theorem tyX6_ok : ∀ k, k < 10 → parseFieldDescriptor (TX6 k).2.2.1 = some (tyX6 k) := by decide +kernel
def RX7 : String := "Carcasswright$Saw"
def TX7 : u_T := fun k => match k with
  | 0 => ("Carcasswright$Saw", "stock", "LCarcasswright$Stock;", true)
  | 1 => ("Carcasswright$Saw", "lengths", "[I", true)
  | 2 => ("Carcasswright$Saw", "widths", "[I", true)
  | 3 => ("Carcasswright$Saw", "pieceCount", "I", false)
  | 4 => ("Carcasswright$Saw", "opened", "[I", true)
  | 5 => ("Carcasswright$Saw", "openedCount", "I", false)
  | 6 => ("Carcasswright$Saw", "groupStart", "I", false)
  | 7 => ("Carcasswright$Saw", "stripBoards", "[I", true)
  | 8 => ("Carcasswright$Saw", "stripWidths", "[I", true)
  | 9 => ("Carcasswright$Saw", "stripEnds", "[I", true)
  | 10 => ("Carcasswright$Saw", "stripCount", "I", false)
  | 11 => ("Carcasswright$Saw", "left", "[LCarcasswright$Board;", true)
  | _ => ("Carcasswright$Saw", "leftCount", "I", false)
def tyX7 : Nat → FieldType := fun k => match k with
  | 0 => .object "Carcasswright$Stock"
  | 1 => .array .int
  | 2 => .array .int
  | 3 => .int
  | 4 => .array .int
  | 5 => .int
  | 6 => .int
  | 7 => .array .int
  | 8 => .array .int
  | 9 => .array .int
  | 10 => .int
  | 11 => .array (.object "Carcasswright$Board")
  | _ => .int
theorem nmX7 : ∀ a, a < 13 → ∀ b, b < 13 → a ≠ b → (TX7 a).2.1 ≠ (TX7 b).2.1 := by decide +kernel
theorem tyX7_ok : ∀ k, k < 13 → parseFieldDescriptor (TX7 k).2.2.1 = some (tyX7 k) := by decide +kernel
def RX8 : String := "Carcasswright$Stock"
def TX8 : u_T := fun k => match k with
  | 0 => ("Carcasswright$Stock", "boards", "[LCarcasswright$Board;", true)
  | 1 => ("Carcasswright$Stock", "count", "I", false)
  | 2 => ("Carcasswright$Stock", "came", "J", false)
  | 3 => ("Carcasswright$Stock", "dust", "J", false)
  | _ => ("Carcasswright$Stock", "scrap", "J", false)
def tyX8 : Nat → FieldType := fun k => match k with
  | 0 => .array (.object "Carcasswright$Board")
  | 1 => .int
  | 2 => .long
  | 3 => .long
  | _ => .long
theorem nmX8 : ∀ a, a < 5 → ∀ b, b < 5 → a ≠ b → (TX8 a).2.1 ≠ (TX8 b).2.1 := by decide +kernel
theorem tyX8_ok : ∀ k, k < 5 → parseFieldDescriptor (TX8 k).2.2.1 = some (tyX8 k) := by decide +kernel
def RX9 : String := "Carcasswright$Types"
def TX9 : u_T := fun k => match k with
  | 0 => ("Carcasswright$Types", "signs", "[C", true)
  | 1 => ("Carcasswright$Types", "types", "[LCarcasswright$ModuleType;", true)
  | 2 => ("Carcasswright$Types", "draft", "LCarcasswright$ModuleType;", true)
  | 3 => ("Carcasswright$Types", "signCount", "I", false)
  | 4 => ("Carcasswright$Types", "typeCount", "I", false)
  | 5 => ("Carcasswright$Types", "faultPlace", "I", false)
  | 6 => ("Carcasswright$Types", "faultLetter", "C", false)
  | 7 => ("Carcasswright$Types", "awaited", "C", false)
  | 8 => ("Carcasswright$Types", "item", "C", false)
  | _ => ("Carcasswright$Types", "digits", "I", false)
def tyX9 : Nat → FieldType := fun k => match k with
  | 0 => .array .char
  | 1 => .array (.object "Carcasswright$ModuleType")
  | 2 => .object "Carcasswright$ModuleType"
  | 3 => .int
  | 4 => .int
  | 5 => .int
  | 6 => .char
  | 7 => .char
  | 8 => .char
  | _ => .int
theorem nmX9 : ∀ a, a < 10 → ∀ b, b < 10 → a ≠ b → (TX9 a).2.1 ≠ (TX9 b).2.1 := by decide +kernel
theorem tyX9_ok : ∀ k, k < 10 → parseFieldDescriptor (TX9 k).2.2.1 = some (tyX9 k) := by decide +kernel
def RX10 : String := "Carcasswright$Wall"
def TX10 : u_T := fun k => match k with
  | 0 => ("Carcasswright$Wall", "way", "C", false)
  | 1 => ("Carcasswright$Wall", "measured", "I", false)
  | 2 => ("Carcasswright$Wall", "length", "I", false)
  | 3 => ("Carcasswright$Wall", "settled", "I", false)
  | 4 => ("Carcasswright$Wall", "left", "I", false)
  | _ => ("Carcasswright$Wall", "right", "I", false)
def tyX10 : Nat → FieldType := fun k => match k with
  | 0 => .char
  | 1 => .int
  | 2 => .int
  | 3 => .int
  | 4 => .int
  | _ => .int
theorem nmX10 : ∀ a, a < 6 → ∀ b, b < 6 → a ≠ b → (TX10 a).2.1 ≠ (TX10 b).2.1 := by decide +kernel
theorem tyX10_ok : ∀ k, k < 6 → parseFieldDescriptor (TX10 k).2.2.1 = some (tyX10 k) := by decide +kernel
def RX11 : String := "Carcasswright"
def TX11 : u_T := fun k => match k with
  | 0 => ("Carcasswright", "types", "LCarcasswright$Types;", true)
  | 1 => ("Carcasswright", "room", "LCarcasswright$Room;", true)
  | 2 => ("Carcasswright", "stock", "LCarcasswright$Stock;", true)
  | 3 => ("Carcasswright", "saw", "LCarcasswright$Saw;", true)
  | 4 => ("Carcasswright", "packer", "LCarcasswright$Packer;", true)
  | 5 => ("Carcasswright", "jobs", "LCarcasswright$Jobs;", true)
  | _ => ("Carcasswright", "rates", "[I", true)
def tyX11 : Nat → FieldType := fun k => match k with
  | 0 => .object "Carcasswright$Types"
  | 1 => .object "Carcasswright$Room"
  | 2 => .object "Carcasswright$Stock"
  | 3 => .object "Carcasswright$Saw"
  | 4 => .object "Carcasswright$Packer"
  | 5 => .object "Carcasswright$Jobs"
  | _ => .array .int
theorem nmX11 : ∀ a, a < 7 → ∀ b, b < 7 → a ≠ b → (TX11 a).2.1 ≠ (TX11 b).2.1 := by decide +kernel
theorem tyX11_ok : ∀ k, k < 7 → parseFieldDescriptor (TX11 k).2.2.1 = some (tyX11 k) := by decide +kernel
def RX12 : String := "CarcasswrightModel$Board"
def TX12 : u_T := fun k => match k with
  | 0 => ("CarcasswrightModel$Board", "colour", "I", true)
  | 1 => ("CarcasswrightModel$Board", "thick", "I", true)
  | 2 => ("CarcasswrightModel$Board", "length", "I", true)
  | 3 => ("CarcasswrightModel$Board", "width", "I", true)
  | 4 => ("CarcasswrightModel$Board", "isOffcut", "Z", true)
  | 5 => ("CarcasswrightModel$Board", "wide", "Ljava/util/ArrayList;", true)
  | _ => ("CarcasswrightModel$Board", "used", "Ljava/util/ArrayList;", true)
def tyX12 : Nat → FieldType := fun k => match k with
  | 0 => .int
  | 1 => .int
  | 2 => .int
  | 3 => .int
  | 4 => .boolean
  | 5 => .object "java/util/ArrayList"
  | _ => .object "java/util/ArrayList"
theorem nmX12 : ∀ a, a < 7 → ∀ b, b < 7 → a ≠ b → (TX12 a).2.1 ≠ (TX12 b).2.1 := by decide +kernel
theorem tyX12_ok : ∀ k, k < 7 → parseFieldDescriptor (TX12 k).2.2.1 = some (tyX12 k) := by decide +kernel
def RX14 : String := "CarcasswrightModel$Job"
def TX14 : u_T := fun k => match k with
  | 0 => ("CarcasswrightModel$Job", "colour", "I", true)
  | 1 => ("CarcasswrightModel$Job", "hours", "I", true)
  | _ => ("CarcasswrightModel$Job", "due", "I", true)
def tyX14 : Nat → FieldType := fun k => match k with
  | 0 => .int
  | 1 => .int
  | _ => .int
theorem nmX14 : ∀ a, a < 3 → ∀ b, b < 3 → a ≠ b → (TX14 a).2.1 ≠ (TX14 b).2.1 := by decide +kernel
theorem tyX14_ok : ∀ k, k < 3 → parseFieldDescriptor (TX14 k).2.2.1 = some (tyX14 k) := by decide +kernel
def RX19 : String := "CarcasswrightModel$Type"
def TX19 : u_T := fun k => match k with
  | 0 => ("CarcasswrightModel$Type", "kind", "C", false)
  | 1 => ("CarcasswrightModel$Type", "width", "I", false)
  | 2 => ("CarcasswrightModel$Type", "doors", "I", false)
  | 3 => ("CarcasswrightModel$Type", "shelves", "I", false)
  | _ => ("CarcasswrightModel$Type", "drawers", "I", false)
def tyX19 : Nat → FieldType := fun k => match k with
  | 0 => .char
  | 1 => .int
  | 2 => .int
  | 3 => .int
  | _ => .int
theorem nmX19 : ∀ a, a < 5 → ∀ b, b < 5 → a ≠ b → (TX19 a).2.1 ≠ (TX19 b).2.1 := by decide +kernel
theorem tyX19_ok : ∀ k, k < 5 → parseFieldDescriptor (TX19 k).2.2.1 = some (tyX19 k) := by decide +kernel
def RX20 : String := "CarcasswrightModel$Wall"
def TX20 : u_T := fun k => match k with
  | 0 => ("CarcasswrightModel$Wall", "way", "C", true)
  | 1 => ("CarcasswrightModel$Wall", "measured", "I", true)
  | 2 => ("CarcasswrightModel$Wall", "length", "I", false)
  | 3 => ("CarcasswrightModel$Wall", "left", "I", false)
  | _ => ("CarcasswrightModel$Wall", "right", "I", false)
def tyX20 : Nat → FieldType := fun k => match k with
  | 0 => .char
  | 1 => .int
  | 2 => .int
  | 3 => .int
  | _ => .int
theorem nmX20 : ∀ a, a < 5 → ∀ b, b < 5 → a ≠ b → (TX20 a).2.1 ≠ (TX20 b).2.1 := by decide +kernel
theorem tyX20_ok : ∀ k, k < 5 → parseFieldDescriptor (TX20 k).2.2.1 = some (tyX20 k) := by decide +kernel
def RX21 : String := "CarcasswrightModel"
def TX21 : u_T := fun k => match k with
  | 0 => ("CarcasswrightModel", "thrown", "I", false)
  | 1 => ("CarcasswrightModel", "walls", "Ljava/util/ArrayList;", true)
  | 2 => ("CarcasswrightModel", "obstacles", "Ljava/util/ArrayList;", true)
  | 3 => ("CarcasswrightModel", "text", "Ljava/lang/String;", false)
  | 4 => ("CarcasswrightModel", "types", "Ljava/util/ArrayList;", true)
  | 5 => ("CarcasswrightModel", "modules", "Ljava/util/ArrayList;", true)
  | 6 => ("CarcasswrightModel", "stock", "Ljava/util/ArrayList;", false)
  | 7 => ("CarcasswrightModel", "jobs", "Ljava/util/ArrayList;", true)
  | 8 => ("CarcasswrightModel", "rates", "[I", true)
  | 9 => ("CarcasswrightModel", "setup", "I", false)
  | 10 => ("CarcasswrightModel", "came", "J", false)
  | 11 => ("CarcasswrightModel", "dust", "J", false)
  | 12 => ("CarcasswrightModel", "scrap", "J", false)
  | 13 => ("CarcasswrightModel", "clashes", "Ljava/lang/String;", false)
  | 14 => ("CarcasswrightModel", "clashNumbers", "[I", false)
  | 15 => ("CarcasswrightModel", "read", "LCarcasswrightModel$Type;", false)
  | 16 => ("CarcasswrightModel", "fault", "C", false)
  | 17 => ("CarcasswrightModel", "faultAt", "I", false)
  | 18 => ("CarcasswrightModel", "least", "I", false)
  | _ => ("CarcasswrightModel", "order", "[I", false)
def tyX21 : Nat → FieldType := fun k => match k with
  | 0 => .int
  | 1 => .object "java/util/ArrayList"
  | 2 => .object "java/util/ArrayList"
  | 3 => .object "java/lang/String"
  | 4 => .object "java/util/ArrayList"
  | 5 => .object "java/util/ArrayList"
  | 6 => .object "java/util/ArrayList"
  | 7 => .object "java/util/ArrayList"
  | 8 => .array .int
  | 9 => .int
  | 10 => .long
  | 11 => .long
  | 12 => .long
  | 13 => .object "java/lang/String"
  | 14 => .array .int
  | 15 => .object "CarcasswrightModel$Type"
  | 16 => .char
  | 17 => .int
  | 18 => .int
  | _ => .array .int
theorem nmX21 : ∀ a, a < 20 → ∀ b, b < 20 → a ≠ b → (TX21 a).2.1 ≠ (TX21 b).2.1 := by decide +kernel
theorem tyX21_ok : ∀ k, k < 20 → parseFieldDescriptor (TX21 k).2.2.1 = some (tyX21 k) := by decide +kernel
/-- the classes of the objects, by number -/
abbrev ce_cl : List vw_C := [(RJ0, TJ0, 4), (RJ4, TJ4, 4), (RJx35411, TJx35411, 4), (RJx4a65c, TJx4a65c, 3), (RX0, TX0, 7), (RX1, TX1, 8), (RX2, TX2, 9), (RX3, TX3, 5), (RX4, TX4, 4), (RX5, TX5, 5), (RX6, TX6, 10), (RX7, TX7, 13), (RX8, TX8, 5), (RX9, TX9, 10), (RX10, TX10, 6), (RX11, TX11, 7), (RX12, TX12, 7), (RX14, TX14, 3), (RX19, TX19, 5), (RX20, TX20, 5), (RX21, TX21, 20)]
/-- the element types of the arrays, by number -/
abbrev ce_at : List FieldType := [.int, .char, .byte, .boolean, .long, .double, (.object "java/lang/Object"), (.object "Carcasswright$Wall"), (.object "Carcasswright$Obstacle"), (.object "Carcasswright$PlacedModule"), (.object "Carcasswright$ModuleType"), (.object "Carcasswright$Board")]
theorem ce_vJ0 : ∀ w ∈ u_ws RJ0 TJ0 4, w ∈ lw_tbl.filter goodWord := by decide +kernel
theorem ce_vJ4 : ∀ w ∈ u_ws RJ4 TJ4 4, w ∈ lw_tbl.filter goodWord := by decide +kernel
theorem ce_vJx35411 : ∀ w ∈ u_ws RJx35411 TJx35411 4, w ∈ lw_tbl.filter goodWord := by decide +kernel
theorem ce_vJx4a65c : ∀ w ∈ u_ws RJx4a65c TJx4a65c 3, w ∈ lw_tbl.filter goodWord := by decide +kernel
theorem ce_vX0 : ∀ w ∈ u_ws RX0 TX0 7, w ∈ lw_tbl.filter goodWord := by decide +kernel
theorem ce_vX1 : ∀ w ∈ u_ws RX1 TX1 8, w ∈ lw_tbl.filter goodWord := by decide +kernel
theorem ce_vX2 : ∀ w ∈ u_ws RX2 TX2 9, w ∈ lw_tbl.filter goodWord := by decide +kernel
theorem ce_vX3 : ∀ w ∈ u_ws RX3 TX3 5, w ∈ lw_tbl.filter goodWord := by decide +kernel
theorem ce_vX4 : ∀ w ∈ u_ws RX4 TX4 4, w ∈ lw_tbl.filter goodWord := by decide +kernel
theorem ce_vX5 : ∀ w ∈ u_ws RX5 TX5 5, w ∈ lw_tbl.filter goodWord := by decide +kernel
theorem ce_vX6 : ∀ w ∈ u_ws RX6 TX6 10, w ∈ lw_tbl.filter goodWord := by decide +kernel
theorem ce_vX7 : ∀ w ∈ u_ws RX7 TX7 13, w ∈ lw_tbl.filter goodWord := by decide +kernel
theorem ce_vX8 : ∀ w ∈ u_ws RX8 TX8 5, w ∈ lw_tbl.filter goodWord := by decide +kernel
theorem ce_vX9 : ∀ w ∈ u_ws RX9 TX9 10, w ∈ lw_tbl.filter goodWord := by decide +kernel
theorem ce_vX10 : ∀ w ∈ u_ws RX10 TX10 6, w ∈ lw_tbl.filter goodWord := by decide +kernel
theorem ce_vX11 : ∀ w ∈ u_ws RX11 TX11 7, w ∈ lw_tbl.filter goodWord := by decide +kernel
theorem ce_vX12 : ∀ w ∈ u_ws RX12 TX12 7, w ∈ lw_tbl.filter goodWord := by decide +kernel
theorem ce_vX14 : ∀ w ∈ u_ws RX14 TX14 3, w ∈ lw_tbl.filter goodWord := by decide +kernel
theorem ce_vX19 : ∀ w ∈ u_ws RX19 TX19 5, w ∈ lw_tbl.filter goodWord := by decide +kernel
theorem ce_vX20 : ∀ w ∈ u_ws RX20 TX20 5, w ∈ lw_tbl.filter goodWord := by decide +kernel
theorem ce_vX21 : ∀ w ∈ u_ws RX21 TX21 20, w ∈ lw_tbl.filter goodWord := by decide +kernel
/-- the words that go along with every call -/
def ce_XS : List Cond := [Cond.selects "java/lang/StringBuilder" ⟨"java/lang/AbstractStringBuilder", "ensureCapacityInternal", "(I)V"⟩ ⟨"java/lang/AbstractStringBuilder", "ensureCapacityInternal", "(I)V"⟩, Cond.selects "java/lang/StringBuilder" ⟨"java/lang/AbstractStringBuilder", "putStringAt", "(ILjava/lang/String;)V"⟩ ⟨"java/lang/AbstractStringBuilder", "putStringAt", "(ILjava/lang/String;)V"⟩, Cond.selects "java/lang/StringBuilder" ⟨"java/lang/AbstractStringBuilder", "inflateIfNeededFor", "(Ljava/lang/String;)V"⟩ ⟨"java/lang/AbstractStringBuilder", "inflateIfNeededFor", "(Ljava/lang/String;)V"⟩, Cond.selects "java/lang/StringBuilder" ⟨"java/lang/AbstractStringBuilder", "inflate", "()V"⟩ ⟨"java/lang/AbstractStringBuilder", "inflate", "()V"⟩, Cond.selects "java/lang/StringBuilder" ⟨"java/lang/AbstractStringBuilder", "newCapacity", "(I)I"⟩ ⟨"java/lang/AbstractStringBuilder", "newCapacity", "(I)I"⟩, Cond.selects "java/lang/StringBuilder" ⟨"java/lang/AbstractStringBuilder", "appendNull", "()Ljava/lang/AbstractStringBuilder;"⟩ ⟨"java/lang/AbstractStringBuilder", "appendNull", "()Ljava/lang/AbstractStringBuilder;"⟩]
def ce_GW : List Cond := ce_XS ++ lw_tbl.filter goodWord
theorem ce_inF {w : Cond} (h : w ∈ lw_tbl.filter goodWord) : w ∈ ce_GW := List.mem_append_right _ h
theorem ce_in (i : Nat) {w : Cond} (h : lw_tbl[i]? = some w) (g : goodWord w = true) : w ∈ ce_GW := ce_inF (List.mem_filter.mpr ⟨List.mem_of_getElem? h, g⟩)
theorem ce_XSg : ∀ w ∈ ce_XS, goodWord w = true := by decide +kernel
theorem ce_good {w : Cond} (h : w ∈ ce_GW) : goodWord w = true := by
  rcases List.mem_append.mp h with h | h
  · exact ce_XSg w h
  · exact (List.mem_filter.mp h).2
theorem ce_uJ0 : ∀ w ∈ u_ws RJ0 TJ0 4, w ∈ ce_GW := fun w h => ce_inF (ce_vJ0 w h)
theorem ce_uJ4 : ∀ w ∈ u_ws RJ4 TJ4 4, w ∈ ce_GW := fun w h => ce_inF (ce_vJ4 w h)
theorem ce_uJx35411 : ∀ w ∈ u_ws RJx35411 TJx35411 4, w ∈ ce_GW := fun w h => ce_inF (ce_vJx35411 w h)
theorem ce_uJx4a65c : ∀ w ∈ u_ws RJx4a65c TJx4a65c 3, w ∈ ce_GW := fun w h => ce_inF (ce_vJx4a65c w h)
theorem ce_uX0 : ∀ w ∈ u_ws RX0 TX0 7, w ∈ ce_GW := fun w h => ce_inF (ce_vX0 w h)
theorem ce_uX1 : ∀ w ∈ u_ws RX1 TX1 8, w ∈ ce_GW := fun w h => ce_inF (ce_vX1 w h)
theorem ce_uX2 : ∀ w ∈ u_ws RX2 TX2 9, w ∈ ce_GW := fun w h => ce_inF (ce_vX2 w h)
theorem ce_uX3 : ∀ w ∈ u_ws RX3 TX3 5, w ∈ ce_GW := fun w h => ce_inF (ce_vX3 w h)
theorem ce_uX4 : ∀ w ∈ u_ws RX4 TX4 4, w ∈ ce_GW := fun w h => ce_inF (ce_vX4 w h)
theorem ce_uX5 : ∀ w ∈ u_ws RX5 TX5 5, w ∈ ce_GW := fun w h => ce_inF (ce_vX5 w h)
theorem ce_uX6 : ∀ w ∈ u_ws RX6 TX6 10, w ∈ ce_GW := fun w h => ce_inF (ce_vX6 w h)
theorem ce_uX7 : ∀ w ∈ u_ws RX7 TX7 13, w ∈ ce_GW := fun w h => ce_inF (ce_vX7 w h)
theorem ce_uX8 : ∀ w ∈ u_ws RX8 TX8 5, w ∈ ce_GW := fun w h => ce_inF (ce_vX8 w h)
theorem ce_uX9 : ∀ w ∈ u_ws RX9 TX9 10, w ∈ ce_GW := fun w h => ce_inF (ce_vX9 w h)
theorem ce_uX10 : ∀ w ∈ u_ws RX10 TX10 6, w ∈ ce_GW := fun w h => ce_inF (ce_vX10 w h)
theorem ce_uX11 : ∀ w ∈ u_ws RX11 TX11 7, w ∈ ce_GW := fun w h => ce_inF (ce_vX11 w h)
theorem ce_uX12 : ∀ w ∈ u_ws RX12 TX12 7, w ∈ ce_GW := fun w h => ce_inF (ce_vX12 w h)
theorem ce_uX14 : ∀ w ∈ u_ws RX14 TX14 3, w ∈ ce_GW := fun w h => ce_inF (ce_vX14 w h)
theorem ce_uX19 : ∀ w ∈ u_ws RX19 TX19 5, w ∈ ce_GW := fun w h => ce_inF (ce_vX19 w h)
theorem ce_uX20 : ∀ w ∈ u_ws RX20 TX20 5, w ∈ ce_GW := fun w h => ce_inF (ce_vX20 w h)
theorem ce_uX21 : ∀ w ∈ u_ws RX21 TX21 20, w ∈ ce_GW := fun w h => ce_inF (ce_vX21 w h)
theorem ce_gi {a b : Cond} (h : b ∈ ce_GW) : GoodIn (a :: ce_GW) (b :: ce_GW) := by
  intro w hw
  have h2 : w ∈ ce_GW := by
    rcases List.mem_cons.mp hw with e | e
    · rw [e]; exact h
    · exact e
  exact ⟨List.mem_cons_of_mem _ h2, good_of_word (ce_good h2)⟩
/-- words that no row carries along: they stand in the facts of the world -/
def ce_NG : List Cond := [.castable "java/lang/IllegalArgumentException" "java/lang/IllegalArgumentException", .castable "java/lang/IndexOutOfBoundsException" "java/lang/IndexOutOfBoundsException", .castable "java/util/NoSuchElementException" "java/util/NoSuchElementException", .castable "java/lang/UnsupportedOperationException" "java/lang/UnsupportedOperationException", .castable "CarcasswrightModel$Wall" "java/lang/Object", .castable "CarcasswrightModel$Job" "java/lang/Object", .castable "CarcasswrightModel$Board" "java/lang/Object", .castable "[I" "java/lang/Cloneable", .methodLinkNest "Carcasswright$Types" 19 ⟨"Carcasswright$ModuleType", "<init>", "()V"⟩ "Carcasswright", .methodLinkNest "Carcasswright$Room" 35 ⟨"Carcasswright$Wall", "<init>", "()V"⟩ "Carcasswright", .methodLinkNest "Carcasswright$Room" 36 ⟨"Carcasswright$Obstacle", "<init>", "()V"⟩ "Carcasswright", .methodLinkNest "Carcasswright$Stock" 15 ⟨"Carcasswright$Board", "<init>", "()V"⟩ "Carcasswright", .methodLinkNest "Carcasswright$Saw" 40 ⟨"Carcasswright$Board", "<init>", "()V"⟩ "Carcasswright", .methodLinkNest "Carcasswright" 47 ⟨"Carcasswright$Packer", "<init>", "()V"⟩ "Carcasswright", .methodLinkNest "Carcasswright" 54 ⟨"Carcasswright$Jobs", "<init>", "()V"⟩ "Carcasswright", .declares ⟨"java/lang/RuntimeException", "<init>", "()V"⟩, .declares ⟨"java/lang/RuntimeException", "<init>", "(Ljava/lang/String;)V"⟩, .declares ⟨"java/lang/Exception", "<init>", "()V"⟩, .declares ⟨"java/lang/Exception", "<init>", "(Ljava/lang/String;)V"⟩, .declares ⟨"java/lang/Throwable", "<init>", "()V"⟩, .declares ⟨"java/lang/Throwable", "<init>", "(Ljava/lang/String;)V"⟩, .fieldLinkNest "java/util/ArrayList$Itr" 28 "java/util/ArrayList" "size" "I" "java/util/ArrayList", .declares ⟨"java/util/Iterator", "hasNext", "()Z"⟩, .declares ⟨"java/util/Iterator", "next", "()Ljava/lang/Object;"⟩, .methodLinkNest "CarcasswrightModel" 184 ⟨"CarcasswrightModel$Type", "<init>", "()V"⟩ "CarcasswrightModel", .declares ⟨"java/util/Collection", "toArray", "()[Ljava/lang/Object;"⟩, .declares ⟨"java/lang/Object", "getClass", "()Ljava/lang/Class;"⟩, .fieldLinkNest "CarcasswrightModel" 103 "CarcasswrightModel$Wall" "length" "I" "CarcasswrightModel"]
end
section
/-! A SMALL SYMBOLIC MACHINE over the claim's bytecode, and why it is right: a value is a number, a number that the script tells (a term), a reference by number, or a constant; the heap is a list of cells. -/
abbrev ce_SI : Type := Int ⊕ Term
abbrev ce_SV : Type := ce_SI ⊕ (ce_SI ⊕ ((Nat ⊕ Nat) ⊕ Value))
abbrev ce_SE : Type := (Nat × List ce_SV) ⊕ (Nat × List ce_SV)
abbrev ce_F : Type := List (Term × Nat × Int)
/-- facts, cells, and how many cells and slots may still come -/
abbrev ce_G : Type := ce_F × List ce_SE × Nat × Nat
/-- locals and stack -/
abbrev ce_L : Type := List (Nat × ce_SV) × List ce_SV
/-- the script, the old things, the array classes, the object classes and slots, where new cells begin -/
abbrev ce_U : Type := (Nat → Int32) × (Nat → Value) × (Nat → ClassId) × va_G × Nat × Nat
abbrev ce_xs (z : ce_U) : Nat → Int32 := z.1
abbrev ce_ev (z : ce_U) : Nat → Value := z.2.1
abbrev ce_cA (z : ce_U) : Nat → ClassId := z.2.2.1
abbrev ce_D (z : ce_U) : va_G := z.2.2.2.1
abbrev ce_b (z : ce_U) : Nat := z.2.2.2.2.1
abbrev ce_len (z : ce_U) : Nat := z.2.2.2.2.2
abbrev ce_A (z : ce_U) : Nat → Prop := fun q => ce_b z ≤ q
def ce_I (z : ce_U) : Term → Int32
  | .arg i => ce_xs z i
  | .int v => v
  | .add a b => ce_I z a + ce_I z b
  | .sub a b => ce_I z a - ce_I z b
  | .mul a b => ce_I z a * ce_I z b
  | .div a b => ce_I z a >>> (ce_I z b &&& 31)
  | .elem a b => ce_I z a <<< (ce_I z b &&& 31)
  | .length a => ((ce_I z a).toUInt32 % 65536).toInt32
  | .old a => (ce_I z a).toInt8.toInt32
  | .sum a => ce_I z a &&& 63
  | _ => 0
def ce_Lg (z : ce_U) : Term → Int64
  | .long v => v
  | .old a => (ce_I z a).toInt64
  | .add a b => ce_Lg z a + ce_Lg z b
  | .mul a b => ce_Lg z a * ce_Lg z b
  | _ => 0
def ce_vi (z : ce_U) : ce_SI → Int32
  | .inl n => Int32.ofInt n
  | .inr t => ce_I z t
def ce_vl (z : ce_U) : ce_SI → Int64
  | .inl n => Int64.ofInt n
  | .inr t => ce_Lg z t
def ce_v (z : ce_U) (ad : Nat → Nat) : ce_SV → Value
  | .inl i => .int (ce_vi z i)
  | .inr (.inl i) => .long (ce_vl z i)
  | .inr (.inr (.inl (.inl k))) => .ref (ad k)
  | .inr (.inr (.inl (.inr j))) => ce_ev z j
  | .inr (.inr (.inr v)) => v
def ce_iv : Value → Int32
  | .int x => x
  | _ => 0
def ce_lv : Value → Int64
  | .long x => x
  | _ => 0
def ce_rv : Value → Option Nat
  | .ref a => some a
  | _ => none
abbrev ce_0 : ce_SV := .inl (.inl 0)
def ce_ar (z : ce_U) (ad : Nat → Nat) (ty : Nat) (es : List ce_SV) : (Nat → Int32) ⊕ (Nat → Int64) ⊕ (Nat → UInt32) ⊕ (Nat → UInt64) ⊕ (Nat → Option Nat) :=
  if ty < 4 then .inl (fun j => ce_iv (ce_v z ad (es.getD j ce_0)))
  else if ty = 4 then .inr (.inl (fun j => ce_lv (ce_v z ad (es.getD j ce_0))))
  else if ty = 5 then .inr (.inr (.inr (.inl (fun _ => 0))))
  else .inr (.inr (.inr (.inr (fun j => ce_rv (ce_v z ad (es.getD j ce_0))))))
def ce_e (z : ce_U) (ad : Nat → Nat) : ce_SE → va_E
  | .inl x => .inr (x.1, x.2.map (ce_v z ad))
  | .inr x => .inl (ce_cA z x.1, x.2.length, ce_ar z ad x.1 x.2)
def ce_w (z : ce_U) (ad : Nat → Nat) : Nat → List ce_SE → va_W
  | _, [] => []
  | k, e :: r => (ad k, ce_e z ad e) :: ce_w z ad (k + 1) r
theorem ce_w_get {z : ce_U} {ad : Nat → Nat} (cs : List ce_SE) : ∀ (k i : Nat), (ce_w z ad k cs)[i]? = (cs[i]?).map (fun e => (ad (k + i), ce_e z ad e)) := by
  induction cs with
  | nil => intro k i; simp [ce_w]
  | cons e r ih =>
    intro k i
    cases i with
    | zero => simp [ce_w]
    | succ i => simp only [ce_w, List.getElem?_cons_succ]; rw [ih, show k + 1 + i = k + (i + 1) by omega]
theorem ce_w_set {z : ce_U} {ad : Nat → Nat} (cs : List ce_SE) : ∀ (k i : Nat) (e : ce_SE), ce_w z ad k (cs.set i e) = (ce_w z ad k cs).set i (ad (k + i), ce_e z ad e) := by
  induction cs with
  | nil => intro k i e; simp [ce_w]
  | cons e0 r ih =>
    intro k i e
    cases i with
    | zero => simp [ce_w]
    | succ i => simp only [ce_w, List.set_cons_succ]; rw [ih, show k + 1 + i = k + (i + 1) by omega]
theorem ce_w_app {z : ce_U} {ad : Nat → Nat} (cs : List ce_SE) (e : ce_SE) : ∀ (k : Nat), ce_w z ad k (cs ++ [e]) = ce_w z ad k cs ++ [(ad (k + cs.length), ce_e z ad e)] := by
  induction cs with
  | nil => intro k; simp [ce_w]
  | cons e0 r ih => intro k; simp only [ce_w, List.cons_append, List.length_cons]; rw [ih, show k + 1 + r.length = k + (r.length + 1) by omega]
/-- no reference beyond the cells -/
def ce_wv (n : Nat) : ce_SV → Bool
  | .inr (.inr (.inl (.inl k))) => Nat.blt k n
  | _ => true
def ce_we (n : Nat) : ce_SE → Bool
  | .inl x => x.2.all (ce_wv n)
  | .inr x => x.2.all (ce_wv n)
theorem ce_v_congr {z : ce_U} {ad ad' : Nat → Nat} {n : Nat} (h : ∀ i, i < n → ad' i = ad i) {v : ce_SV} (hv : ce_wv n v = true) : ce_v z ad' v = ce_v z ad v := by
  match v, hv with
  | .inl i, _ => rfl
  | .inr (.inl i), _ => rfl
  | .inr (.inr (.inl (.inl k))), hv => exact congrArg Value.ref (h k (Nat.lt_of_lt_of_le (Nat.lt_of_succ_le (Nat.le_of_ble_eq_true hv)) (Nat.le_refl n)))
  | .inr (.inr (.inl (.inr j))), _ => rfl
  | .inr (.inr (.inr v)), _ => rfl
theorem ce_map_congr {z : ce_U} {ad ad' : Nat → Nat} {n : Nat} (h : ∀ i, i < n → ad' i = ad i) {l : List ce_SV} (hl : l.all (ce_wv n) = true) : l.map (ce_v z ad') = l.map (ce_v z ad) :=
  List.map_congr_left fun v hv => ce_v_congr h (List.all_eq_true.mp hl v hv)
theorem ce_getD_congr {z : ce_U} {ad ad' : Nat → Nat} {n : Nat} (h : ∀ i, i < n → ad' i = ad i) {l : List ce_SV} (hl : l.all (ce_wv n) = true) (j : Nat) : ce_v z ad' (l.getD j ce_0) = ce_v z ad (l.getD j ce_0) := by
  rw [List.getD_eq_getElem?_getD]
  cases hj : l[j]? with
  | none => rfl
  | some v => exact ce_v_congr h (List.all_eq_true.mp hl v (List.mem_of_getElem? hj))
theorem ce_e_congr {z : ce_U} {ad ad' : Nat → Nat} {n : Nat} (h : ∀ i, i < n → ad' i = ad i) {e : ce_SE} (he : ce_we n e = true) : ce_e z ad' e = ce_e z ad e := by
  match e, he with
  | .inl x, he => exact congrArg (fun l => (Sum.inr (x.1, l) : va_E)) (ce_map_congr h he)
  | .inr x, he =>
    have hf : (fun j => ce_v z ad' (x.2.getD j ce_0)) = fun j => ce_v z ad (x.2.getD j ce_0) := funext fun j => ce_getD_congr h he j
    have hg : ∀ {β : Type} (g : Value → β), (fun j => g (ce_v z ad' (x.2.getD j ce_0))) = fun j => g (ce_v z ad (x.2.getD j ce_0)) := fun g => funext fun j => congrArg g (congrFun hf j)
    unfold ce_e ce_ar
    simp only [hg]
theorem ce_w_congr {z : ce_U} {ad ad' : Nat → Nat} {n : Nat} (h : ∀ i, i < n → ad' i = ad i) (cs : List ce_SE) : ∀ k, k + cs.length ≤ n → cs.all (ce_we n) = true → ce_w z ad' k cs = ce_w z ad k cs := by
  induction cs with
  | nil => intros; rfl
  | cons e r ih =>
    intro k hk ha
    simp only [List.all_cons, Bool.and_eq_true] at ha
    simp only [List.length_cons] at hk
    simp only [ce_w]
    rw [ih (k + 1) (by omega) ha.2, ce_e_congr h ha.1, h k (by omega)]
theorem ce_wv_mono {n n' : Nat} (h : n ≤ n') {v : ce_SV} (hv : ce_wv n v = true) : ce_wv n' v = true := by
  match v, hv with
  | .inl i, _ => rfl
  | .inr (.inl i), _ => rfl
  | .inr (.inr (.inl (.inl k))), hv => exact Nat.ble_eq_true_of_le (Nat.le_trans (Nat.le_of_ble_eq_true hv) h)
  | .inr (.inr (.inl (.inr j))), _ => rfl
  | .inr (.inr (.inr v)), _ => rfl
theorem ce_we_mono {n n' : Nat} (h : n ≤ n') {e : ce_SE} (he : ce_we n e = true) : ce_we n' e = true := by
  match e, he with
  | .inl x, he => exact List.all_eq_true.mpr fun v hv => ce_wv_mono h (List.all_eq_true.mp he v hv)
  | .inr x, he => exact List.all_eq_true.mpr fun v hv => ce_wv_mono h (List.all_eq_true.mp he v hv)
def ce_fa (z : ce_U) (f : Term × Nat × Int) : Prop :=
  if f.2.1 = 0 then f.2.2 ≤ (ce_I z f.1).toInt else if f.2.1 = 1 then (ce_I z f.1).toInt ≤ f.2.2 else (ce_I z f.1).toInt ≠ f.2.2
def ce_sat (z : ce_U) (F : ce_F) : Prop := ∀ f ∈ F, ce_fa z f
def ce_ty (z : ce_U) : List (ClassId × FieldType) := [(ce_cA z 0, .int), (ce_cA z 1, .char), (ce_cA z 2, .byte), (ce_cA z 3, .boolean), (ce_cA z 4, .long), (ce_cA z 5, .double), (ce_cA z 6, .object "java/lang/Object"), (ce_cA z 7, .object "Carcasswright$Wall"), (ce_cA z 8, .object "Carcasswright$Obstacle"), (ce_cA z 9, .object "Carcasswright$PlacedModule"), (ce_cA z 10, .object "Carcasswright$ModuleType"), (ce_cA z 11, .object "Carcasswright$Board")]
def ce_Inv (z : ce_U) (ad : Nat → Nat) (G : ce_G) (H : Heap) : Prop :=
  va_P (ce_D z) ce_cl (ce_w z ad 0 G.2.1) H ∧ va_D (ce_A z) (ce_w z ad 0 G.2.1) ∧ G.2.1.all (ce_we G.2.1.length) = true ∧ ce_sat z G.1
end
section
/-! what is known of the old things at a method's start, and that it goes along -/
abbrev ce_AOs : List String := ["java/lang/Object", "Carcasswright$Wall", "Carcasswright$Obstacle", "Carcasswright$PlacedModule", "Carcasswright$ModuleType", "Carcasswright$Board"]
abbrev ce_yN : MethodName := ⟨"java/util/Iterator", "hasNext", "()Z"⟩
abbrev ce_yI : MethodName := ⟨"java/util/ArrayList$Itr", "hasNext", "()Z"⟩
def ce_E1 (z : ce_U) (U : State) : Prop := vx_Zq Bundle.tN "UNASSIGNED_STACK" Bundle.steD (ce_A z) U U.heap ∧ vx_Zq Bundle.tN "SUPPRESSED_SENTINEL" Bundle.listD (ce_A z) U U.heap
def ce_E2 (U : State) : Prop := (∀ w ∈ ce_NG, va_Nw w U) ∧ va_Fw "java/util/ArrayList$Itr" ce_yN ce_yI U ∧ (∀ C ∈ ce_AOs, va_AO C U) ∧ va_Dc U
/-- the script that refutes: a wall of 9999, and 61 times how much of it is free -/
def rf_s : Nat → Int := fun k => match k with
  | 1 => 101
  | 2 => 9999
  | k => match Nat.beq (k % 6) 0 && Nat.ble 6 k with
    | true => 18
    | false => 0
def ce_E3 (z : ce_U) (U : State) : Prop := ∃ b, ce_ev z 0 = .ref b ∧ b < ce_b z ∧ b < U.heap.size ∧ va_X b (ce_len z) (ce_xs z) U U.heap ∧ ce_len z = 372 ∧ ∀ j, j < 372 → ce_xs z j = Int32.ofInt (rf_s j)
def ce_E4 (z : ce_U) (U : State) : Prop := ∃ t, ce_ev z 1 = .ref t ∧ va_T (.object "java/lang/Object") t 0 (fun _ => .null) (ce_A z) U U.heap ∧ va_Z "java/util/ArrayList" "DEFAULTCAPACITY_EMPTY_ELEMENTDATA" "[Ljava/lang/Object;" (.ref t) (ce_A z) U U.heap
def ce_E5 (z : ce_U) (U : State) : Prop := ∃ adK adV : Nat → Nat, ce_ev z 2 = .ref (adK 0) ∧ ce_ev z 3 = .ref (adV 0) ∧ ce_ev z 4 = .ref (adK 1) ∧ ce_ev z 5 = .ref (adV 1) ∧ vk_S 2 [0, 4] [[], [101, 119, 110, 115]] adK adV (ce_A z) U U.heap ∧ vk_R "CarcasswrightModel" 19 "" (adK 0) U ∧ vk_R "CarcasswrightModel" 57 "ewns" (adK 1) U
def ce_E6 (z : ce_U) (U : State) : Prop := ∃ mi, ce_ev z 6 = .ref mi ∧ va_Mi "[Ljava/lang/Object;" mi U
def ce_E7 (z : ce_U) (U : State) : Prop := (ce_ev z 7).category = 1 ∧ va_Z "jdk/internal/util/Preconditions" "SIOOBE_FORMATTER" "Ljava/util/function/BiFunction;" (ce_ev z 7) (ce_A z) U U.heap
def ce_E8 (z : ce_U) (U : State) : Prop := va_Z "java/lang/String" "COMPACT_STRINGS" "Z" (.int 1) (ce_A z) U U.heap ∧ va_Z "java/lang/StringUTF16" "$assertionsDisabled" "Z" (.int 1) (ce_A z) U U.heap ∧ va_Z "java/lang/StringUTF16" "HI_BYTE_SHIFT" "I" (.int 0) (ce_A z) U U.heap ∧ va_Z "java/lang/StringUTF16" "LO_BYTE_SHIFT" "I" (.int 8) (ce_A z) U U.heap
def ce_CK (z : ce_U) (U : State) : Prop := va_K (ce_D z) ce_cl (ce_ty z) U ∧ ce_b z ≤ U.heap.size ∧ ce_E1 z U ∧ ce_E2 U ∧ ce_E3 z U ∧ ce_E4 z U ∧ ce_E5 z U ∧ ce_E6 z U ∧ ce_E7 z U ∧ ce_E8 z U
def ce_ngk : Cond → Bool
  | .castable .. => true
  | .fieldLinkNest .. => true
  | .methodLinkNest .. => true
  | .declares .. => true
  | _ => false
theorem ce_ng {w : Cond} (h : ce_ngk w = true) {s U : State} (hW : s.WarmedH U.vm) (hZ : va_Nw w s) : va_Nw w U := by
  cases w <;> first | exact va_Nw.warmC hW hZ | exact va_Nw.warmF hW hZ | exact va_Nw.warmM hW hZ | exact va_Nw.warmD hW hZ | exact absurd h (by simp [ce_ngk])
theorem ce_ng_all : ∀ w ∈ ce_NG, ce_ngk w = true := by decide +kernel
theorem ce_next {z : ce_U} {s U : State} {H : Heap} {locs : List Loc} (h : ce_CK z s) (hU : U.heap = H) (hW : s.WarmedH U.vm) (hS : va_S (ce_A z) s.heap H locs) : ce_CK z U := by
  obtain ⟨hK, hb, ⟨a1, a2⟩, ⟨b1, b2, b3, b4⟩, ⟨c0, c1, c2, c5, c3, c6⟩, ⟨d0, d1, d2, d3⟩, ⟨k, v, e1, e2, e3, e4, e5, e6, e7⟩, ⟨f0, f1, f2⟩, ⟨g1, g2⟩, ⟨i1, i2, i3, i4⟩⟩ := h
  have hvm := hW.alike
  have hk : ∀ a : Nat, a < s.heap.size → ¬ ce_A z a → U.heap[a]? = s.heap[a]? := fun a h1 h2 => by rw [hU]; exact hS.2.1 a h1 h2
  have hz : s.heap.size ≤ U.heap.size := by rw [hU]; exact hS.1
  refine ⟨va_K.moved hvm hK, Nat.le_trans hb hz, ⟨(vx_Zq.moved hvm a1).kept hk, (vx_Zq.moved hvm a2).kept hk⟩, ⟨fun w hw => ce_ng (ce_ng_all w hw) hW (b1 w hw), va_Fw.moved (by decide) hvm b2, fun C hC => (b3 C hC).moved hvm, b4.moved hvm⟩, ⟨c0, c1, c2, Nat.lt_of_lt_of_le c5 hz, ?_, c6⟩, ⟨d0, d1, (va_T.moved hvm d2).kept hk, (va_Z.moved hvm d3).kept hk⟩, ⟨k, v, e1, e2, e3, e4, (vk_S.moved hvm e5).kept hk, e6.warm hW, e7.warm hW⟩, ⟨f0, f1, f2.moved hvm⟩, ⟨g1, (va_Z.moved hvm g2).kept hk⟩, ⟨(va_Z.moved hvm i1).kept hk, (va_Z.moved hvm i2).kept hk, (va_Z.moved hvm i3).kept hk, (va_Z.moved hvm i4).kept hk⟩⟩
  exact (va_X.moved hvm c3).kept (hk c0 c5 (Nat.not_le.mpr c2))
theorem ce_blind {z : ce_U} {U : State} {g : JFrame} {mk : MethodId} {a : Array Value} (h : ce_CK z U) : ce_CK z (U.calling g mk a) := by
  obtain ⟨hK, hb, h1, h2, h3, h4, h5, h6, h7, h8⟩ := h
  exact ce_next (locs := []) (H := U.heap) ⟨hK, hb, h1, h2, h3, h4, h5, h6, h7, h8⟩ rfl (State.WarmedH.refl _) va_S.rf
end
section
/-! facts about numbers that the script tells, comparisons, and what a step owes -/
def ce_r (n : Int) : Bool := decide (-2147483648 ≤ n) && decide (n ≤ 2147483647)
theorem ce_rt {n : Int} (h : ce_r n = true) : (Int32.ofInt n).toInt = n := by
  simp only [ce_r, Bool.and_eq_true, decide_eq_true_eq] at h
  exact Int32.toInt_ofInt_of_le (by omega) (by omega)
def ce_ge (F : ce_F) (t : Term) (c : Int) : Bool := F.any fun f => decide (f.1 = t) && (Nat.beq f.2.1 0 && decide (c ≤ f.2.2))
def ce_le (F : ce_F) (t : Term) (c : Int) : Bool := F.any fun f => decide (f.1 = t) && (Nat.beq f.2.1 1 && decide (f.2.2 ≤ c))
def ce_ne (F : ce_F) (t : Term) (c : Int) : Bool := (F.any fun f => decide (f.1 = t) && (Nat.beq f.2.1 2 && decide (f.2.2 = c))) || (ce_ge F t (c + 1) || ce_le F t (c - 1))
theorem ce_ge_ok {z : ce_U} {F : ce_F} (hF : ce_sat z F) {t : Term} {c : Int} (h : ce_ge F t c = true) : c ≤ (ce_I z t).toInt := by
  obtain ⟨f, hf, h⟩ := List.any_eq_true.mp h
  simp only [Bool.and_eq_true, decide_eq_true_eq, Nat.beq_eq] at h
  have := hF f hf
  rw [ce_fa, if_pos h.2.1, h.1] at this
  omega
theorem ce_le_ok {z : ce_U} {F : ce_F} (hF : ce_sat z F) {t : Term} {c : Int} (h : ce_le F t c = true) : (ce_I z t).toInt ≤ c := by
  obtain ⟨f, hf, h⟩ := List.any_eq_true.mp h
  simp only [Bool.and_eq_true, decide_eq_true_eq, Nat.beq_eq] at h
  have := hF f hf
  rw [ce_fa, if_neg (by omega), if_pos h.2.1, h.1] at this
  omega
theorem ce_ne_ok {z : ce_U} {F : ce_F} (hF : ce_sat z F) {t : Term} {c : Int} (h : ce_ne F t c = true) : (ce_I z t).toInt ≠ c := by
  simp only [ce_ne, Bool.or_eq_true] at h
  rcases h with h | h | h
  · obtain ⟨f, hf, h⟩ := List.any_eq_true.mp h
    simp only [Bool.and_eq_true, decide_eq_true_eq, Nat.beq_eq] at h
    have := hF f hf
    rw [ce_fa, if_neg (by omega), if_neg (by omega), h.1, h.2.2] at this
    exact this
  · have := ce_ge_ok hF h; omega
  · have := ce_le_ok hF h; omega
/-- is a = b (q), or a < b? -/
def ce_cmp (F : ce_F) (q : Bool) (a b : ce_SI) : Option Bool :=
  match a, b with
  | .inl x, .inl y => if ce_r x && ce_r y then some (if q then decide (x = y) else decide (x < y)) else none
  | .inr t, .inl c => if ce_r c then (if q then (if ce_ge F t c && ce_le F t c then some true else if ce_ne F t c then some false else none) else (if ce_le F t (c - 1) then some true else if ce_ge F t c then some false else none)) else none
  | .inl c, .inr t => if ce_r c then (if q then (if ce_ge F t c && ce_le F t c then some true else if ce_ne F t c then some false else none) else (if ce_ge F t (c + 1) then some true else if ce_le F t c then some false else none)) else none
  | .inr s, .inr t => if q && decide (s = t) then some true else none
def ce_pr (z : ce_U) (q : Bool) (a b : ce_SI) : Prop := if q then ce_vi z a = ce_vi z b else ce_vi z a < ce_vi z b
theorem ce_pr_int {z : ce_U} {q : Bool} {a b : ce_SI} : ce_pr z q a b ↔ if q then (ce_vi z a).toInt = (ce_vi z b).toInt else (ce_vi z a).toInt < (ce_vi z b).toInt := by
  unfold ce_pr
  cases q with
  | true => simp only [if_true]; exact Int32.toInt_inj.symm
  | false => simp only [Bool.false_eq_true, if_false]; exact Int32.lt_iff_toInt_lt
theorem ce_cmp_ok {z : ce_U} {F : ce_F} (hF : ce_sat z F) {q v : Bool} {a b : ce_SI} (h : ce_cmp F q a b = some v) : v = true ↔ ce_pr z q a b := by
  rw [ce_pr_int]
  match a, b, h with
  | .inl x, .inl y, h =>
    simp only [ce_cmp] at h
    split at h
    · rename_i hr
      simp only [Bool.and_eq_true] at hr
      cases h
      simp only [ce_vi, ce_rt hr.1, ce_rt hr.2]
      cases q <;> simp
    · cases h
  | .inr t, .inl c, h =>
    simp only [ce_cmp] at h
    split at h
    · rename_i hr
      simp only [ce_vi, ce_rt hr]
      cases q with
      | true =>
        simp only [if_true] at h ⊢
        split at h
        · rename_i h2
          simp only [Bool.and_eq_true] at h2
          have h3 := ce_ge_ok hF h2.1
          have h4 := ce_le_ok hF h2.2
          cases h; simp; omega
        · split at h
          · rename_i h2
            have h3 := ce_ne_ok hF h2
            cases h; simp; exact h3
          · cases h
      | false =>
        simp only [Bool.false_eq_true, if_false] at h ⊢
        split at h
        · rename_i h2
          have h3 := ce_le_ok hF h2
          cases h; simp; omega
        · split at h
          · rename_i h2
            have h3 := ce_ge_ok hF h2
            cases h; simp; omega
          · cases h
    · cases h
  | .inl c, .inr t, h =>
    simp only [ce_cmp] at h
    split at h
    · rename_i hr
      simp only [ce_vi, ce_rt hr]
      cases q with
      | true =>
        simp only [if_true] at h ⊢
        split at h
        · rename_i h2
          simp only [Bool.and_eq_true] at h2
          have h3 := ce_ge_ok hF h2.1
          have h4 := ce_le_ok hF h2.2
          cases h; simp; omega
        · split at h
          · rename_i h2
            have h3 := ce_ne_ok hF h2
            cases h; simp; exact fun z => h3 z.symm
          · cases h
      | false =>
        simp only [Bool.false_eq_true, if_false] at h ⊢
        split at h
        · rename_i h2
          have h3 := ce_ge_ok hF h2
          cases h; simp; omega
        · split at h
          · rename_i h2
            have h3 := ce_le_ok hF h2
            cases h; simp; omega
          · cases h
    · cases h
  | .inr s, .inr t, h =>
    simp only [ce_cmp] at h
    by_cases h2 : (q && decide (s = t)) = true
    · rw [if_pos h2] at h
      simp only [Bool.and_eq_true, decide_eq_true_eq] at h2
      have hv : v = true := (Option.some.inj h).symm
      rw [hv, h2.1, h2.2]; simp
    · rw [if_neg h2] at h; cases h
/-- both ways, with what each tells -/
def ce_br (F : ce_F) (q : Bool) (a b : ce_SI) : Option (List (Bool × ce_F)) :=
  match ce_cmp F q a b with
  | some v => some [(v, F)]
  | none => match a, b with
    | .inr t, .inl c => if ce_r c then some (if q then [(true, (t, 0, c) :: (t, 1, c) :: F), (false, (t, 2, c) :: F)] else [(true, (t, 1, c - 1) :: F), (false, (t, 0, c) :: F)]) else none
    | .inl c, .inr t => if ce_r c then some (if q then [(true, (t, 0, c) :: (t, 1, c) :: F), (false, (t, 2, c) :: F)] else [(true, (t, 0, c + 1) :: F), (false, (t, 1, c) :: F)]) else none
    | _, _ => none
theorem ce_sat_cons {z : ce_U} {F : ce_F} {f : Term × Nat × Int} (h : ce_fa z f) (hF : ce_sat z F) : ce_sat z (f :: F) := fun g hg => by
  rcases List.mem_cons.mp hg with e | e
  · rw [e]; exact h
  · exact hF g e
theorem ce_fa0 {z : ce_U} {t : Term} {c : Int} (h : c ≤ (ce_I z t).toInt) : ce_fa z (t, 0, c) := by simp only [ce_fa, if_true]; exact h
theorem ce_fa1 {z : ce_U} {t : Term} {c : Int} (h : (ce_I z t).toInt ≤ c) : ce_fa z (t, 1, c) := by simp [ce_fa]; exact h
theorem ce_fa2 {z : ce_U} {t : Term} {c : Int} (h : (ce_I z t).toInt ≠ c) : ce_fa z (t, 2, c) := by simp [ce_fa]; exact h
theorem ce_br_ok {z : ce_U} {F : ce_F} (hF : ce_sat z F) {q : Bool} {a b : ce_SI} {S : List (Bool × ce_F)} (h : ce_br F q a b = some S) : ∃ x ∈ S, (x.1 = true ↔ ce_pr z q a b) ∧ ce_sat z x.2 := by
  unfold ce_br at h
  split at h
  · rename_i v hv
    cases h
    exact ⟨_, List.mem_singleton.mpr rfl, ce_cmp_ok hF hv, hF⟩
  · rw [ce_pr_int]
    match a, b, h with
    | .inr t, .inl c, h =>
      simp only at h
      split at h
      · rename_i hr
        simp only [ce_vi, ce_rt hr]
        cases h
        cases q with
        | true =>
          simp only [if_true]
          by_cases he : (ce_I z t).toInt = c
          · exact ⟨_, List.mem_cons_self, by simp [he], ce_sat_cons (ce_fa0 (by omega)) (ce_sat_cons (ce_fa1 (by omega)) hF)⟩
          · exact ⟨_, List.mem_cons_of_mem _ List.mem_cons_self, by simp [he], ce_sat_cons (ce_fa2 he) hF⟩
        | false =>
          simp only [Bool.false_eq_true, if_false]
          by_cases he : (ce_I z t).toInt < c
          · exact ⟨_, List.mem_cons_self, by simp [he], ce_sat_cons (ce_fa1 (by omega)) hF⟩
          · exact ⟨_, List.mem_cons_of_mem _ List.mem_cons_self, by simp [he], ce_sat_cons (ce_fa0 (by omega)) hF⟩
      · cases h
    | .inl c, .inr t, h =>
      simp only at h
      split at h
      · rename_i hr
        simp only [ce_vi, ce_rt hr]
        cases h
        cases q with
        | true =>
          simp only [if_true]
          by_cases he : (ce_I z t).toInt = c
          · exact ⟨_, List.mem_cons_self, by simp [he], ce_sat_cons (ce_fa0 (by omega)) (ce_sat_cons (ce_fa1 (by omega)) hF)⟩
          · exact ⟨_, List.mem_cons_of_mem _ List.mem_cons_self, by simp; exact fun h => he h.symm, ce_sat_cons (ce_fa2 he) hF⟩
        | false =>
          simp only [Bool.false_eq_true, if_false]
          by_cases he : c < (ce_I z t).toInt
          · exact ⟨_, List.mem_cons_self, by simp [he], ce_sat_cons (ce_fa0 (by omega)) hF⟩
          · exact ⟨_, List.mem_cons_of_mem _ List.mem_cons_self, by simp [he], ce_sat_cons (ce_fa1 (by omega)) hF⟩
      · cases h
    | .inl _, .inl _, h => simp at h
    | .inr _, .inr _, h => simp at h
abbrev ce_P : Type := ce_L → ce_G → Option (List (Nat × ce_L × ce_G))
def ce_WS (z : ce_U) (p : Program) (l : Launch) (e : Env) (R : Room) (s : State) (m : MethodId) (args : Array Value) (below : List Frame) (meth : Method) (c : Code) (Q : State → Prop) (nL : Nat) (ad0 : Nat → Nat) (n0 : Nat) (pc : Nat) (L : ce_L) (G : ce_G) : Prop :=
  ∀ (ad : Nat → Nat) (ls : Array Slot) (H : Heap) (locs : List Loc) (kc ks : Nat), (∀ k, k < n0 → ad k = ad0 k) → n0 ≤ G.2.1.length → lv_has ls nL (L.1.map fun q => (q.1, ce_v z ad q.2)) → ce_Inv z ad G H → va_S (ce_A z) s.heap H locs → kc + G.2.2.1 ≤ R.cells → ks + G.2.2.2 ≤ R.slots →
    W p l e R s m args below meth c H locs kc ks Q (F0 m pc ls (L.2.map (ce_v z ad)))
def ce_CX (z : ce_U) (p : Program) (l : Launch) (R : Room) (s : State) (m : MethodId) (args : Array Value) (meth : Method) (c : Code) (own nm : String) (cc : ByteArray) (nL : Nat) (ret : Option FieldType) (ht : Nat) : Prop :=
  p.tables.exec = Jvm.exec ∧ c.code = cc ∧ c.maxLocals = nL ∧ s.vm.findClass own = some m.cls ∧ (∀ w ∈ ce_GW, w.before args s = true) ∧ meth.name = nm ∧ meth.sig.returnType = ret ∧ meth.locks = false ∧ (l.stackTraces = false ∧ 8 + ht ≤ R.frames ∧ 100 * (ht + 2) ≤ R.locals) ∧ ce_CK z s
def ce_OK (own nm : String) (cc : ByteArray) (nL : Nat) (ret : Option FieldType) (ht : Nat) (pc : Nat) (f : ce_P) : Prop :=
  ∀ {z : ce_U} {p : Program} {l : Launch} {e : Env} {R : Room} {s : State} {m : MethodId} {args : Array Value} {below : List Frame} {meth : Method} {c : Code} {Q : State → Prop} {ad0 : Nat → Nat} {n0 : Nat},
    ce_CX z p l R s m args meth c own nm cc nL ret ht → ∀ (L : ce_L) (G : ce_G) (S : List (Nat × ce_L × ce_G)), f L G = some S → (∀ x ∈ S, ce_WS z p l e R s m args below meth c Q nL ad0 n0 x.1 x.2.1 x.2.2) → ce_WS z p l e R s m args below meth c Q nL ad0 n0 pc L G
end
section
/-! the plain steps: what each does to locals, stack and facts, and that the machine does so -/
theorem ce_has_sub {ls : Array Slot} {n : Nat} {l l' : List (Nat × Value)} (h : lv_has ls n l) (hs : ∀ q ∈ l', q ∈ l) : lv_has ls n l' := ⟨h.1, h.2.1, fun q hq => h.2.2 q (hs q hq)⟩
def ce_lk : List (Nat × ce_SV) → Nat → Option ce_SV
  | [], _ => none
  | q :: r, i => match Nat.beq q.1 i with
    | true => some q.2
    | false => ce_lk r i
theorem ce_lk_mem {i : Nat} {v : ce_SV} : ∀ {l : List (Nat × ce_SV)}, ce_lk l i = some v → (i, v) ∈ l
  | q :: r, h => by
    unfold ce_lk at h
    split at h
    · rename_i hq
      cases h
      rw [← Nat.eq_of_beq_eq_true hq]
      exact List.mem_cons_self
    · exact List.mem_cons_of_mem _ (ce_lk_mem h)
theorem ce_lk_at {z : ce_U} {ad : Nat → Nat} {ls : Array Slot} {n i : Nat} {v : ce_SV} {l : List (Nat × ce_SV)} (hl : lv_has ls n (l.map fun q => (q.1, ce_v z ad q.2))) (h : ce_lk l i = some v) : ls[i]? = some (.val (ce_v z ad v)) :=
  hl.2.2 (i, ce_v z ad v) (List.mem_map.mpr ⟨(i, v), ce_lk_mem h, rfl⟩)
/-- may it take two places -/
def ce_c2 : ce_SV → Bool
  | .inl _ => false
  | .inr (.inl _) => true
  | .inr (.inr (.inl (.inl _))) => false
  | .inr (.inr (.inl (.inr j))) => Nat.ble 8 j
  | .inr (.inr (.inr v)) => Nat.beq v.category 2
def ce_st (two : Bool) (i : Nat) (v : ce_SV) (l : List (Nat × ce_SV)) : List (Nat × ce_SV) := (i, v) :: l.filter fun q => !(Nat.beq q.1 i) && (!(two && Nat.beq q.1 (i + 1)) && !(Nat.beq (q.1 + 1) i && ce_c2 q.2))
theorem ce_ext {z : ce_U} {s : State} (h : ce_CK z s) : ∀ j, j < 7 → ∃ a, ce_ev z j = .ref a := by
  obtain ⟨-, -, -, -, ⟨b, h0, -⟩, ⟨t, h1, -⟩, ⟨k, v, h2, h3, h4, h5, -⟩, ⟨mi, h6, -⟩, -⟩ := h
  intro j hj
  rcases (by omega : j = 0 ∨ j = 1 ∨ j = 2 ∨ j = 3 ∨ j = 4 ∨ j = 5 ∨ j = 6) with rfl | rfl | rfl | rfl | rfl | rfl | rfl
  · exact ⟨_, h0⟩
  · exact ⟨_, h1⟩
  · exact ⟨_, h2⟩
  · exact ⟨_, h3⟩
  · exact ⟨_, h4⟩
  · exact ⟨_, h5⟩
  · exact ⟨_, h6⟩
theorem ce_cat {z : ce_U} {s : State} (h : ce_CK z s) {ad : Nat → Nat} {v : ce_SV} (hv : ce_c2 v = false) : (ce_v z ad v).category = 1 := by
  match v, hv with
  | .inl _, _ => rfl
  | .inr (.inr (.inl (.inl _))), _ => rfl
  | .inr (.inr (.inl (.inr j))), hv =>
    have hj : ¬ 8 ≤ j := fun z => by have := Nat.ble_eq_true_of_le z; rw [ce_c2, this] at hv; cases hv
    rcases (by omega : j < 7 ∨ j = 7) with h7 | rfl
    · obtain ⟨a, ha⟩ := ce_ext h j h7
      show (ce_ev z j).category = 1
      rw [ha]; rfl
    · exact h.2.2.2.2.2.2.2.2.1.1
  | .inr (.inr (.inr v)), hv =>
    have h2 : v.category ≠ 2 := fun z => by rw [ce_c2, z] at hv; cases hv
    show v.category = 1
    cases v <;> first | rfl | exact absurd rfl h2
theorem ce_st_sub {z : ce_U} {s : State} (h : ce_CK z s) {ad : Nat → Nat} {two : Bool} {i : Nat} {v : ce_SV} {l : List (Nat × ce_SV)} {f : Nat × Value → Bool}
    (hf : ∀ q : Nat × ce_SV, (Nat.beq q.1 i = false ∧ (two = true → Nat.beq q.1 (i + 1) = false) ∧ (Nat.beq (q.1 + 1) i = true → (ce_v z ad q.2).category = 1)) → f (q.1, ce_v z ad q.2) = true) :
    ∀ q ∈ (ce_st two i v l).map (fun q => (q.1, ce_v z ad q.2)), q ∈ (i, ce_v z ad v) :: (l.map fun q => (q.1, ce_v z ad q.2)).filter f := by
  intro q hq
  rw [ce_st, List.map_cons] at hq
  rcases List.mem_cons.mp hq with e | e
  · rw [e]; exact List.mem_cons_self
  · obtain ⟨x, hx, rfl⟩ := List.mem_map.mp e
    obtain ⟨h1, h2⟩ := List.mem_filter.mp hx
    refine List.mem_cons_of_mem _ (List.mem_filter.mpr ⟨List.mem_map.mpr ⟨x, h1, rfl⟩, hf x ?_⟩)
    simp only [Bool.and_eq_true, Bool.not_eq_true'] at h2
    obtain ⟨a1, a2, a3⟩ := h2
    refine ⟨a1, fun ht => ?_, fun hb => ce_cat h ?_⟩
    · rw [ht] at a2; simpa using a2
    · rw [hb] at a3; simpa using a3
theorem ce_beq (a b : Nat) : (a == b) = Nat.beq a b := by
  by_cases h : a = b
  · subst h; rw [Nat.beq_refl]; simp
  · have h2 : Nat.beq a b = false := by
      cases h3 : Nat.beq a b
      · rfl
      · exact absurd (Nat.eq_of_beq_eq_true h3) h
    rw [h2]; simpa using h
theorem ce_f1 {q : Nat × Value} {i : Nat} (h1 : Nat.beq q.1 i = false) (h3 : Nat.beq (q.1 + 1) i = true → q.2.category = 1) : (!(q.1 == i) && !(q.1 + 1 == i && q.2.category == 2)) = true := by
  have e1 : (q.1 == i) = false := by rw [ce_beq]; exact h1
  by_cases hb : Nat.beq (q.1 + 1) i = true
  · have := h3 hb
    simp [e1, this]
  · have e2 : (q.1 + 1 == i) = false := by rw [ce_beq]; exact Bool.eq_false_iff.mpr hb
    simp [e1, e2]
theorem ce_f2 {q : Nat × Value} {i : Nat} (h1 : Nat.beq q.1 i = false) (h2 : Nat.beq q.1 (i + 1) = false) (h3 : Nat.beq (q.1 + 1) i = true → q.2.category = 1) : (!(q.1 == i) && (!(q.1 == i + 1) && !(q.1 + 1 == i && q.2.category == 2))) = true := by
  have e1 : (q.1 == i) = false := by rw [ce_beq]; exact h1
  have e4 : (q.1 == i + 1) = false := by rw [ce_beq]; exact h2
  by_cases hb : Nat.beq (q.1 + 1) i = true
  · have := h3 hb
    simp [e1, e4, this]
  · have e2 : (q.1 + 1 == i) = false := by rw [ce_beq]; exact Bool.eq_false_iff.mpr hb
    simp [e1, e4, e2]
section Ops
variable {own nm : String} {cc : ByteArray} {nL : Nat} {ret : Option FieldType} {ht pc : Nat}

def ce_push (v : ce_SV) (nx : Nat) : ce_P := fun L G => some [(nx, (L.1, v :: L.2), G)]
theorem ok_iconst {n : Int} (d : decode cc pc = .ok (.iconst n, 1)) : ce_OK own nm cc nL ret ht pc (ce_push (.inl (.inl n)) (pc + 1)) := by
  intro z p l e R s m args below meth c Q ad0 n0 hC L G S h hS ad ls H locs kc ks h1 h2 hl hI hv k1 k2
  obtain ⟨lo, st⟩ := L
  cases h
  refine lv_iconst hC.1 hC.2.1 d rfl ?_
  exact hS _ (List.mem_singleton.mpr rfl) ad ls H locs kc ks h1 h2 hl hI hv k1 k2
theorem ok_bipush {n : Int} (d : decode cc pc = .ok (.bipush n, 2)) (hv8 : (Int8.ofInt n).toInt32 = Int32.ofInt n) : ce_OK own nm cc nL ret ht pc (ce_push (.inl (.inl n)) (pc + 2)) := by
  intro z p l e R s m args below meth c Q ad0 n0 hC L G S h hS ad ls H locs kc ks h1 h2 hl hI hv k1 k2
  obtain ⟨lo, st⟩ := L
  cases h
  refine lv_bipush hC.1 hC.2.1 d hv8 ?_
  exact hS _ (List.mem_singleton.mpr rfl) ad ls H locs kc ks h1 h2 hl hI hv k1 k2
theorem ok_sipush {n : Int} (d : decode cc pc = .ok (.sipush n, 3)) (hv8 : (Int16.ofInt n).toInt32 = Int32.ofInt n) : ce_OK own nm cc nL ret ht pc (ce_push (.inl (.inl n)) (pc + 3)) := by
  intro z p l e R s m args below meth c Q ad0 n0 hC L G S h hS ad ls H locs kc ks h1 h2 hl hI hv k1 k2
  obtain ⟨lo, st⟩ := L
  cases h
  refine lv_sipush hC.1 hC.2.1 d hv8 ?_
  exact hS _ (List.mem_singleton.mpr rfl) ad ls H locs kc ks h1 h2 hl hI hv k1 k2
theorem ok_lconst0  (d : decode cc pc = .ok (.lconst 0, 1)) : ce_OK own nm cc nL ret ht pc (ce_push (.inr (.inl (.inl 0))) (pc + 1)) := by
  intro z p l e R s m args below meth c Q ad0 n0 hC L G S h hS ad ls H locs kc ks h1 h2 hl hI hv k1 k2
  obtain ⟨lo, st⟩ := L
  cases h
  refine lv_lconst hC.1 hC.2.1 d rfl ?_
  exact hS _ (List.mem_singleton.mpr rfl) ad ls H locs kc ks h1 h2 hl hI hv k1 k2
theorem ok_lconst1  (d : decode cc pc = .ok (.lconst 1, 1)) : ce_OK own nm cc nL ret ht pc (ce_push (.inr (.inl (.inl 1))) (pc + 1)) := by
  intro z p l e R s m args below meth c Q ad0 n0 hC L G S h hS ad ls H locs kc ks h1 h2 hl hI hv k1 k2
  obtain ⟨lo, st⟩ := L
  cases h
  refine lv_lconst hC.1 hC.2.1 d rfl ?_
  exact hS _ (List.mem_singleton.mpr rfl) ad ls H locs kc ks h1 h2 hl hI hv k1 k2
theorem ok_fconst0  (d : decode cc pc = .ok (.fconst 0, 1)) : ce_OK own nm cc nL ret ht pc (ce_push (.inr (.inr (.inr (.float 0)))) (pc + 1)) := by
  intro z p l e R s m args below meth c Q ad0 n0 hC L G S h hS ad ls H locs kc ks h1 h2 hl hI hv k1 k2
  obtain ⟨lo, st⟩ := L
  cases h
  refine lv_fconst0 hC.1 hC.2.1 d ?_
  exact hS _ (List.mem_singleton.mpr rfl) ad ls H locs kc ks h1 h2 hl hI hv k1 k2
theorem ok_dconst0  (d : decode cc pc = .ok (.dconst 0, 1)) : ce_OK own nm cc nL ret ht pc (ce_push (.inr (.inr (.inr (.double 0)))) (pc + 1)) := by
  intro z p l e R s m args below meth c Q ad0 n0 hC L G S h hS ad ls H locs kc ks h1 h2 hl hI hv k1 k2
  obtain ⟨lo, st⟩ := L
  cases h
  refine lv_dconst0 hC.1 hC.2.1 d ?_
  exact hS _ (List.mem_singleton.mpr rfl) ad ls H locs kc ks h1 h2 hl hI hv k1 k2
theorem ok_null  (d : decode cc pc = .ok (.aconst_null, 1)) : ce_OK own nm cc nL ret ht pc (ce_push (.inr (.inr (.inr .null))) (pc + 1)) := by
  intro z p l e R s m args below meth c Q ad0 n0 hC L G S h hS ad ls H locs kc ks h1 h2 hl hI hv k1 k2
  obtain ⟨lo, st⟩ := L
  cases h
  refine lv_null hC.1 hC.2.1 d ?_
  exact hS _ (List.mem_singleton.mpr rfl) ad ls H locs kc ks h1 h2 hl hI hv k1 k2
theorem ok_ldc {i : Nat} {n : Int} (d : decode cc pc = .ok (.ldc i, 2)) (hk : Cond.constant own i (Int32.ofInt n) ∈ ce_GW) : ce_OK own nm cc nL ret ht pc (ce_push (.inl (.inl n)) (pc + 2)) := by
  intro z p l e R s m args below meth c Q ad0 n0 hC L G S h hS ad ls H locs kc ks h1 h2 hl hI hv k1 k2
  obtain ⟨lo, st⟩ := L
  cases h
  refine lv_ldc hC.1 hC.2.1 hC.2.2.2.1 (hC.2.2.2.2.1 _ hk) d ?_
  exact hS _ (List.mem_singleton.mpr rfl) ad ls H locs kc ks h1 h2 hl hI hv k1 k2
theorem ok_ldcw {i : Nat} {n : Int} (d : decode cc pc = .ok (.ldc_w i, 3)) (hk : Cond.constant own i (Int32.ofInt n) ∈ ce_GW) : ce_OK own nm cc nL ret ht pc (ce_push (.inl (.inl n)) (pc + 3)) := by
  intro z p l e R s m args below meth c Q ad0 n0 hC L G S h hS ad ls H locs kc ks h1 h2 hl hI hv k1 k2
  obtain ⟨lo, st⟩ := L
  cases h
  refine lv_ldcw hC.1 hC.2.1 hC.2.2.2.1 (hC.2.2.2.2.1 _ hk) d ?_
  exact hS _ (List.mem_singleton.mpr rfl) ad ls H locs kc ks h1 h2 hl hI hv k1 k2
def ce_iload (i nx : Nat) : ce_P := fun L G => match ce_lk L.1 i with
  | some (.inl a) => some [(nx, (L.1, .inl a :: L.2), G)]
  | _ => none
def ce_lload (i nx : Nat) : ce_P := fun L G => match ce_lk L.1 i with
  | some (.inr (.inl a)) => some [(nx, (L.1, .inr (.inl a) :: L.2), G)]
  | _ => none
def ce_aload (i nx : Nat) : ce_P := fun L G => match ce_lk L.1 i with
  | some (.inr (.inr (.inl (.inl k)))) => some [(nx, (L.1, .inr (.inr (.inl (.inl k))) :: L.2), G)]
  | some (.inr (.inr (.inl (.inr j)))) => match Nat.blt j 7 with
    | true => some [(nx, (L.1, .inr (.inr (.inl (.inr j))) :: L.2), G)]
    | false => none
  | some (.inr (.inr (.inr .null))) => some [(nx, (L.1, .inr (.inr (.inr .null)) :: L.2), G)]
  | _ => none
theorem ok_iload {i : Nat} (d : decode cc pc = .ok (.iload i, 2)) : ce_OK own nm cc nL ret ht pc (ce_iload i (pc + 2)) := by
  intro z p l e R s m args below meth c Q ad0 n0 hC L G S h hS ad ls H locs kc ks h1 h2 hl hI hv k1 k2
  obtain ⟨lo, st⟩ := L
  simp only [ce_iload] at h
  split at h
  · rename_i a ha
    cases h
    refine lv_iload hC.1 hC.2.1 d (ce_lk_at hl ha) ?_
    exact hS _ (List.mem_singleton.mpr rfl) ad ls H locs kc ks h1 h2 hl hI hv k1 k2
  · cases h
theorem ok_iload_n {k : Fin 4} {i : Nat} (d : decode cc pc = .ok (.iload_n k, 1)) (hi : (k : Nat) = i) : ce_OK own nm cc nL ret ht pc (ce_iload i (pc + 1)) := by
  intro z p l e R s m args below meth c Q ad0 n0 hC L G S h hS ad ls H locs kc ks h1 h2 hl hI hv k1 k2
  obtain ⟨lo, st⟩ := L
  simp only [ce_iload] at h
  split at h
  · rename_i a ha
    cases h
    refine lv_iload_n hC.1 hC.2.1 d hi (ce_lk_at hl ha) ?_
    exact hS _ (List.mem_singleton.mpr rfl) ad ls H locs kc ks h1 h2 hl hI hv k1 k2
  · cases h
theorem ok_lload {i : Nat} (d : decode cc pc = .ok (.lload i, 2)) : ce_OK own nm cc nL ret ht pc (ce_lload i (pc + 2)) := by
  intro z p l e R s m args below meth c Q ad0 n0 hC L G S h hS ad ls H locs kc ks h1 h2 hl hI hv k1 k2
  obtain ⟨lo, st⟩ := L
  simp only [ce_lload] at h
  split at h
  · rename_i a ha
    cases h
    refine lv_lload hC.1 hC.2.1 d (ce_lk_at hl ha) ?_
    exact hS _ (List.mem_singleton.mpr rfl) ad ls H locs kc ks h1 h2 hl hI hv k1 k2
  · cases h
theorem ok_lload_n {k : Fin 4} {i : Nat} (d : decode cc pc = .ok (.lload_n k, 1)) (hi : (k : Nat) = i) : ce_OK own nm cc nL ret ht pc (ce_lload i (pc + 1)) := by
  intro z p l e R s m args below meth c Q ad0 n0 hC L G S h hS ad ls H locs kc ks h1 h2 hl hI hv k1 k2
  obtain ⟨lo, st⟩ := L
  simp only [ce_lload] at h
  split at h
  · rename_i a ha
    cases h
    refine lv_lload_n hC.1 hC.2.1 d hi (ce_lk_at hl ha) ?_
    exact hS _ (List.mem_singleton.mpr rfl) ad ls H locs kc ks h1 h2 hl hI hv k1 k2
  · cases h
theorem ok_aload {i : Nat} (d : decode cc pc = .ok (.aload i, 2)) : ce_OK own nm cc nL ret ht pc (ce_aload i (pc + 2)) := by
  intro z p l e R s m args below meth c Q ad0 n0 hC L G S h hS ad ls H locs kc ks h1 h2 hl hI hv k1 k2
  obtain ⟨lo, st⟩ := L
  simp only [ce_aload] at h
  split at h
  · rename_i a ha
    cases h
    refine lv_aload hC.1 hC.2.1 d (ce_lk_at hl ha) ?_
    exact hS _ (List.mem_singleton.mpr rfl) ad ls H locs kc ks h1 h2 hl hI hv k1 k2
  · rename_i j ha
    split at h
    · rename_i hj
      cases h
      obtain ⟨a, hja⟩ := ce_ext hC.2.2.2.2.2.2.2.2.2 j (Nat.lt_of_succ_le (Nat.le_of_ble_eq_true hj))
      have hq := ce_lk_at hl ha
      have hva : ce_v z ad (.inr (.inr (.inl (.inr j)))) = .ref a := hja
      rw [hva] at hq
      refine lv_aload hC.1 hC.2.1 d hq ?_
      rw [← hva]
      exact hS _ (List.mem_singleton.mpr rfl) ad ls H locs kc ks h1 h2 hl hI hv k1 k2
    · cases h
  · rename_i ha
    cases h
    refine lv_aloadN hC.1 hC.2.1 d (ce_lk_at hl ha) ?_
    exact hS _ (List.mem_singleton.mpr rfl) ad ls H locs kc ks h1 h2 hl hI hv k1 k2
  · cases h
theorem ok_aload_n {k : Fin 4} {i : Nat} (d : decode cc pc = .ok (.aload_n k, 1)) (hi : (k : Nat) = i) : ce_OK own nm cc nL ret ht pc (ce_aload i (pc + 1)) := by
  intro z p l e R s m args below meth c Q ad0 n0 hC L G S h hS ad ls H locs kc ks h1 h2 hl hI hv k1 k2
  obtain ⟨lo, st⟩ := L
  simp only [ce_aload] at h
  split at h
  · rename_i a ha
    cases h
    refine lv_aload_n hC.1 hC.2.1 d hi (ce_lk_at hl ha) ?_
    exact hS _ (List.mem_singleton.mpr rfl) ad ls H locs kc ks h1 h2 hl hI hv k1 k2
  · rename_i j ha
    split at h
    · rename_i hj
      cases h
      obtain ⟨a, hja⟩ := ce_ext hC.2.2.2.2.2.2.2.2.2 j (Nat.lt_of_succ_le (Nat.le_of_ble_eq_true hj))
      have hq := ce_lk_at hl ha
      have hva : ce_v z ad (.inr (.inr (.inl (.inr j)))) = .ref a := hja
      rw [hva] at hq
      refine lv_aload_n hC.1 hC.2.1 d hi hq ?_
      rw [← hva]
      exact hS _ (List.mem_singleton.mpr rfl) ad ls H locs kc ks h1 h2 hl hI hv k1 k2
    · cases h
  · rename_i ha
    cases h
    refine lv_aload_nN hC.1 hC.2.1 d hi (ce_lk_at hl ha) ?_
    exact hS _ (List.mem_singleton.mpr rfl) ad ls H locs kc ks h1 h2 hl hI hv k1 k2
  · cases h
def ce_istore (i nx nL : Nat) : ce_P := fun L G => match L.2 with
  | .inl a :: r => match Nat.blt i nL with
    | true => some [(nx, (ce_st false i (.inl a) L.1, r), G)]
    | false => none
  | _ => none
def ce_lstore (i nx nL : Nat) : ce_P := fun L G => match L.2 with
  | .inr (.inl a) :: r => match Nat.blt (i + 1) nL with
    | true => some [(nx, (ce_st true i (.inr (.inl a)) L.1, r), G)]
    | false => none
  | _ => none
def ce_fstore (i nx nL : Nat) : ce_P := fun L G => match L.2 with
  | .inr (.inr (.inr (.float a))) :: r => match Nat.blt i nL with
    | true => some [(nx, (ce_st false i (.inr (.inr (.inr (.float a)))) L.1, r), G)]
    | false => none
  | _ => none
def ce_dstore (i nx nL : Nat) : ce_P := fun L G => match L.2 with
  | .inr (.inr (.inr (.double a))) :: r => match Nat.blt (i + 1) nL with
    | true => some [(nx, (ce_st true i (.inr (.inr (.inr (.double a)))) L.1, r), G)]
    | false => none
  | _ => none
def ce_astore (i nx nL : Nat) : ce_P := fun L G => match Nat.blt i nL with
  | true => match L.2 with
    | .inr (.inr (.inl (.inl k))) :: r => some [(nx, (ce_st false i (.inr (.inr (.inl (.inl k)))) L.1, r), G)]
    | .inr (.inr (.inl (.inr j))) :: r => match Nat.blt j 7 with
      | true => some [(nx, (ce_st false i (.inr (.inr (.inl (.inr j)))) L.1, r), G)]
      | false => none
    | .inr (.inr (.inr .null)) :: r => some [(nx, (ce_st false i (.inr (.inr (.inr .null))) L.1, r), G)]
    | _ => none
  | false => none
theorem ok_istore {i : Nat} (d : decode cc pc = .ok (.istore i, 2)) : ce_OK own nm cc nL ret ht pc (ce_istore i (pc + 2) nL) := by
  intro z p l e R s m args below meth c Q ad0 n0 hC L G S h hS ad ls H locs kc ks h1 h2 hl hI hv k1 k2
  obtain ⟨lo, st⟩ := L
  simp only [ce_istore] at h
  split at h
  · rename_i a r
    split at h
    · rename_i hn
      cases h
      refine lv_istore hC.1 hC.2.1 d hl (Nat.lt_of_succ_le (Nat.le_of_ble_eq_true hn)) rfl (fun ls' hl' => ?_)
      exact hS _ (List.mem_singleton.mpr rfl) ad ls' H locs kc ks h1 h2 (ce_has_sub hl' (ce_st_sub hC.2.2.2.2.2.2.2.2.2 fun q ⟨q1, q2, q3⟩ => ce_f1 q1 q3)) hI hv k1 k2
    · cases h
  · cases h
theorem ok_istore_n {k : Fin 4} {i : Nat} (d : decode cc pc = .ok (.istore_n k, 1)) (hi : (k : Nat) = i) : ce_OK own nm cc nL ret ht pc (ce_istore i (pc + 1) nL) := by
  intro z p l e R s m args below meth c Q ad0 n0 hC L G S h hS ad ls H locs kc ks h1 h2 hl hI hv k1 k2
  obtain ⟨lo, st⟩ := L
  simp only [ce_istore] at h
  split at h
  · rename_i a r
    split at h
    · rename_i hn
      cases h
      refine lv_istore_n hC.1 hC.2.1 d hi hl (Nat.lt_of_succ_le (Nat.le_of_ble_eq_true hn)) rfl (fun ls' hl' => ?_)
      exact hS _ (List.mem_singleton.mpr rfl) ad ls' H locs kc ks h1 h2 (ce_has_sub hl' (ce_st_sub hC.2.2.2.2.2.2.2.2.2 fun q ⟨q1, q2, q3⟩ => ce_f1 q1 q3)) hI hv k1 k2
    · cases h
  · cases h
theorem ok_lstore {i : Nat} (d : decode cc pc = .ok (.lstore i, 2)) : ce_OK own nm cc nL ret ht pc (ce_lstore i (pc + 2) nL) := by
  intro z p l e R s m args below meth c Q ad0 n0 hC L G S h hS ad ls H locs kc ks h1 h2 hl hI hv k1 k2
  obtain ⟨lo, st⟩ := L
  simp only [ce_lstore] at h
  split at h
  · rename_i a r
    split at h
    · rename_i hn
      cases h
      refine lv_lstore hC.1 hC.2.1 d hl (Nat.lt_of_succ_le (Nat.le_of_ble_eq_true hn)) rfl (fun ls' hl' => ?_)
      exact hS _ (List.mem_singleton.mpr rfl) ad ls' H locs kc ks h1 h2 (ce_has_sub hl' (ce_st_sub hC.2.2.2.2.2.2.2.2.2 fun q ⟨q1, q2, q3⟩ => ce_f2 q1 (q2 rfl) q3)) hI hv k1 k2
    · cases h
  · cases h
theorem ok_lstore_n {k : Fin 4} {i : Nat} (d : decode cc pc = .ok (.lstore_n k, 1)) (hi : (k : Nat) = i) : ce_OK own nm cc nL ret ht pc (ce_lstore i (pc + 1) nL) := by
  intro z p l e R s m args below meth c Q ad0 n0 hC L G S h hS ad ls H locs kc ks h1 h2 hl hI hv k1 k2
  obtain ⟨lo, st⟩ := L
  simp only [ce_lstore] at h
  split at h
  · rename_i a r
    split at h
    · rename_i hn
      cases h
      refine lv_lstore_n hC.1 hC.2.1 d hi hl (Nat.lt_of_succ_le (Nat.le_of_ble_eq_true hn)) rfl (fun ls' hl' => ?_)
      exact hS _ (List.mem_singleton.mpr rfl) ad ls' H locs kc ks h1 h2 (ce_has_sub hl' (ce_st_sub hC.2.2.2.2.2.2.2.2.2 fun q ⟨q1, q2, q3⟩ => ce_f2 q1 (q2 rfl) q3)) hI hv k1 k2
    · cases h
  · cases h
theorem ok_astore {i : Nat} (d : decode cc pc = .ok (.astore i, 2)) : ce_OK own nm cc nL ret ht pc (ce_astore i (pc + 2) nL) := by
  intro z p l e R s m args below meth c Q ad0 n0 hC L G S h hS ad ls H locs kc ks h1 h2 hl hI hv k1 k2
  obtain ⟨lo, st⟩ := L
  simp only [ce_astore] at h
  split at h
  · rename_i hn
    split at h
    · cases h
      refine lv_astore hC.1 hC.2.1 d hl (Nat.lt_of_succ_le (Nat.le_of_ble_eq_true hn)) rfl (fun ls' hl' => ?_)
      exact hS _ (List.mem_singleton.mpr rfl) ad ls' H locs kc ks h1 h2 (ce_has_sub hl' (ce_st_sub hC.2.2.2.2.2.2.2.2.2 fun q ⟨q1, q2, q3⟩ => ce_f1 q1 q3)) hI hv k1 k2
    · rename_i j r
      split at h
      · rename_i hj
        cases h
        obtain ⟨a, hja⟩ := ce_ext hC.2.2.2.2.2.2.2.2.2 j (Nat.lt_of_succ_le (Nat.le_of_ble_eq_true hj))
        have hva : ce_v z ad (.inr (.inr (.inl (.inr j)))) = .ref a := hja
        rw [List.map_cons, hva]
        refine lv_astore hC.1 hC.2.1 d hl (Nat.lt_of_succ_le (Nat.le_of_ble_eq_true hn)) rfl (fun ls' hl' => ?_)
        rw [← hva] at hl'
        exact hS _ (List.mem_singleton.mpr rfl) ad ls' H locs kc ks h1 h2 (ce_has_sub hl' (ce_st_sub hC.2.2.2.2.2.2.2.2.2 fun q ⟨q1, q2, q3⟩ => ce_f1 q1 q3)) hI hv k1 k2
      · cases h
    · cases h
      refine lv_astoreN hC.1 hC.2.1 d hl (Nat.lt_of_succ_le (Nat.le_of_ble_eq_true hn)) rfl (fun ls' hl' => ?_)
      exact hS _ (List.mem_singleton.mpr rfl) ad ls' H locs kc ks h1 h2 (ce_has_sub hl' (ce_st_sub hC.2.2.2.2.2.2.2.2.2 fun q ⟨q1, q2, q3⟩ => ce_f1 q1 q3)) hI hv k1 k2
    · cases h
  · cases h
theorem ok_astore_n {k : Fin 4} {i : Nat} (d : decode cc pc = .ok (.astore_n k, 1)) (hi : (k : Nat) = i) : ce_OK own nm cc nL ret ht pc (ce_astore i (pc + 1) nL) := by
  intro z p l e R s m args below meth c Q ad0 n0 hC L G S h hS ad ls H locs kc ks h1 h2 hl hI hv k1 k2
  obtain ⟨lo, st⟩ := L
  simp only [ce_astore] at h
  split at h
  · rename_i hn
    split at h
    · cases h
      refine lv_astore_n hC.1 hC.2.1 d hi hl (Nat.lt_of_succ_le (Nat.le_of_ble_eq_true hn)) rfl (fun ls' hl' => ?_)
      exact hS _ (List.mem_singleton.mpr rfl) ad ls' H locs kc ks h1 h2 (ce_has_sub hl' (ce_st_sub hC.2.2.2.2.2.2.2.2.2 fun q ⟨q1, q2, q3⟩ => ce_f1 q1 q3)) hI hv k1 k2
    · rename_i j r
      split at h
      · rename_i hj
        cases h
        obtain ⟨a, hja⟩ := ce_ext hC.2.2.2.2.2.2.2.2.2 j (Nat.lt_of_succ_le (Nat.le_of_ble_eq_true hj))
        have hva : ce_v z ad (.inr (.inr (.inl (.inr j)))) = .ref a := hja
        rw [List.map_cons, hva]
        refine lv_astore_n hC.1 hC.2.1 d hi hl (Nat.lt_of_succ_le (Nat.le_of_ble_eq_true hn)) rfl (fun ls' hl' => ?_)
        rw [← hva] at hl'
        exact hS _ (List.mem_singleton.mpr rfl) ad ls' H locs kc ks h1 h2 (ce_has_sub hl' (ce_st_sub hC.2.2.2.2.2.2.2.2.2 fun q ⟨q1, q2, q3⟩ => ce_f1 q1 q3)) hI hv k1 k2
      · cases h
    · cases h
      refine lv_astore_nN hC.1 hC.2.1 d hi hl (Nat.lt_of_succ_le (Nat.le_of_ble_eq_true hn)) rfl (fun ls' hl' => ?_)
      exact hS _ (List.mem_singleton.mpr rfl) ad ls' H locs kc ks h1 h2 (ce_has_sub hl' (ce_st_sub hC.2.2.2.2.2.2.2.2.2 fun q ⟨q1, q2, q3⟩ => ce_f1 q1 q3)) hI hv k1 k2
    · cases h
  · cases h
theorem ok_fstore {i : Nat} (d : decode cc pc = .ok (.fstore i, 2)) : ce_OK own nm cc nL ret ht pc (ce_fstore i (pc + 2) nL) := by
  intro z p l e R s m args below meth c Q ad0 n0 hC L G S h hS ad ls H locs kc ks h1 h2 hl hI hv k1 k2
  obtain ⟨lo, st⟩ := L
  simp only [ce_fstore] at h
  split at h
  · rename_i a r
    split at h
    · rename_i hn
      cases h
      refine lv_fstore hC.1 hC.2.1 d hl (Nat.lt_of_succ_le (Nat.le_of_ble_eq_true hn)) rfl (fun ls' hl' => ?_)
      exact hS _ (List.mem_singleton.mpr rfl) ad ls' H locs kc ks h1 h2 (ce_has_sub hl' (ce_st_sub hC.2.2.2.2.2.2.2.2.2 fun q ⟨q1, q2, q3⟩ => ce_f1 q1 q3)) hI hv k1 k2
    · cases h
  · cases h
theorem ok_dstore {i : Nat} (d : decode cc pc = .ok (.dstore i, 2)) : ce_OK own nm cc nL ret ht pc (ce_dstore i (pc + 2) nL) := by
  intro z p l e R s m args below meth c Q ad0 n0 hC L G S h hS ad ls H locs kc ks h1 h2 hl hI hv k1 k2
  obtain ⟨lo, st⟩ := L
  simp only [ce_dstore] at h
  split at h
  · rename_i a r
    split at h
    · rename_i hn
      cases h
      refine lv_dstore hC.1 hC.2.1 d hl (Nat.lt_of_succ_le (Nat.le_of_ble_eq_true hn)) rfl (fun ls' hl' => ?_)
      exact hS _ (List.mem_singleton.mpr rfl) ad ls' H locs kc ks h1 h2 (ce_has_sub hl' (ce_st_sub hC.2.2.2.2.2.2.2.2.2 fun q ⟨q1, q2, q3⟩ => ce_f2 q1 (q2 rfl) q3)) hI hv k1 k2
    · cases h
  · cases h
def ce_dup (nx : Nat) : ce_P := fun L G => match L.2 with
  | a :: r => match ce_c2 a with
    | false => some [(nx, (L.1, a :: a :: r), G)]
    | true => none
  | _ => none
def ce_pop (nx : Nat) : ce_P := fun L G => match L.2 with
  | a :: r => match ce_c2 a with
    | false => some [(nx, (L.1, r), G)]
    | true => none
  | _ => none
def ce_dup_x1 (nx : Nat) : ce_P := fun L G => match L.2 with
  | a :: b :: r => match ce_c2 a, ce_c2 b with
    | false, false => some [(nx, (L.1, a :: b :: a :: r), G)]
    | _, _ => none
  | _ => none
theorem ok_dup (d : decode cc pc = .ok (.dup, 1)) : ce_OK own nm cc nL ret ht pc (ce_dup (pc + 1)) := by
  intro z p l e R s m args below meth c Q ad0 n0 hC L G S h hS ad ls H locs kc ks h1 h2 hl hI hv k1 k2
  obtain ⟨lo, st⟩ := L
  simp only [ce_dup] at h
  split at h
  · rename_i a r
    split at h
    · rename_i hc
      cases h
      refine lv_dup hC.1 hC.2.1 d (ce_cat hC.2.2.2.2.2.2.2.2.2 hc) ?_
      exact hS _ (List.mem_singleton.mpr rfl) ad ls H locs kc ks h1 h2 hl hI hv k1 k2
    · cases h
  · cases h
theorem ok_pop (d : decode cc pc = .ok (.pop, 1)) : ce_OK own nm cc nL ret ht pc (ce_pop (pc + 1)) := by
  intro z p l e R s m args below meth c Q ad0 n0 hC L G S h hS ad ls H locs kc ks h1 h2 hl hI hv k1 k2
  obtain ⟨lo, st⟩ := L
  simp only [ce_pop] at h
  split at h
  · rename_i a r
    split at h
    · rename_i hc
      cases h
      refine lv_pop hC.1 hC.2.1 d (ce_cat hC.2.2.2.2.2.2.2.2.2 hc) ?_
      exact hS _ (List.mem_singleton.mpr rfl) ad ls H locs kc ks h1 h2 hl hI hv k1 k2
    · cases h
  · cases h
theorem ok_dup_x1 (d : decode cc pc = .ok (.dup_x1, 1)) : ce_OK own nm cc nL ret ht pc (ce_dup_x1 (pc + 1)) := by
  intro z p l e R s m args below meth c Q ad0 n0 hC L G S h hS ad ls H locs kc ks h1 h2 hl hI hv k1 k2
  obtain ⟨lo, st⟩ := L
  simp only [ce_dup_x1] at h
  split at h
  · rename_i a b r
    split at h
    · rename_i hc hc2
      cases h
      refine lv_dup_x1 hC.1 hC.2.1 d (ce_cat hC.2.2.2.2.2.2.2.2.2 hc) (ce_cat hC.2.2.2.2.2.2.2.2.2 hc2) ?_
      exact hS _ (List.mem_singleton.mpr rfl) ad ls H locs kc ks h1 h2 hl hI hv k1 k2
    · cases h
  · cases h
def ce_tm : ce_SI → Term
  | .inl n => .int (Int32.ofInt n)
  | .inr t => t
theorem ce_tm_ok {z : ce_U} (a : ce_SI) : ce_I z (ce_tm a) = ce_vi z a := by cases a <;> rfl
def ce_tl : ce_SI → Term
  | .inl n => .long (Int64.ofInt n)
  | .inr t => t
theorem ce_tl_ok {z : ce_U} (a : ce_SI) : ce_Lg z (ce_tl a) = ce_vl z a := by cases a <;> rfl
def ce_add : ce_SI → ce_SI → ce_SI
  | .inl x, .inl y => .inl (x + y)
  | .inl x, .inr t => match decide (x = 0) with
    | true => .inr t
    | false => .inr (.add (.int (Int32.ofInt x)) t)
  | a, b => .inr (.add (ce_tm a) (ce_tm b))
theorem ce_add_ok {z : ce_U} (a b : ce_SI) : ce_vi z (ce_add a b) = ce_vi z a + ce_vi z b := by
  match a, b with
  | .inl x, .inl y => simp [ce_add, ce_vi, Int32.ofInt_add]
  | .inl x, .inr t =>
    simp only [ce_add]
    split
    · rename_i h
      rw [of_decide_eq_true h]
      simp [ce_vi]
    · rfl
  | .inr t, b => simp only [ce_add, ce_vi, ce_I, ce_tm_ok]
def ce_sub : ce_SI → ce_SI → ce_SI
  | .inl x, .inl y => .inl (x - y)
  | a, b => .inr (.sub (ce_tm a) (ce_tm b))
theorem ce_sub_ok {z : ce_U} (a b : ce_SI) : ce_vi z (ce_sub a b) = ce_vi z a - ce_vi z b := by
  match a, b with
  | .inl x, .inl y => simp [ce_sub, ce_vi, Int32.ofInt_sub]
  | .inl x, .inr t => simp only [ce_sub, ce_vi, ce_I, ce_tm_ok]
  | .inr t, b => simp only [ce_sub, ce_vi, ce_I, ce_tm_ok]
def ce_addo (a b : ce_SI) : Option ce_SI := some (ce_add a b)
def ce_subo (a b : ce_SI) : Option ce_SI := some (ce_sub a b)
def ce_bin (f : ce_SI → ce_SI → Option ce_SI) (nx : Nat) : ce_P := fun L G => match L.2 with
  | .inl b :: .inl a :: r => match f a b with
    | some v => some [(nx, (L.1, .inl v :: r), G)]
    | none => none
  | _ => none
def ce_binL (f : ce_SI → ce_SI → ce_SI) (nx : Nat) : ce_P := fun L G => match L.2 with
  | .inr (.inl b) :: .inr (.inl a) :: r => some [(nx, (L.1, .inr (.inl (f a b)) :: r), G)]
  | _ => none
/-- numbers written out, by the machine's own counting -/
def ce_num (f : Int32 → Int32 → Int32) (a b : ce_SI) : Option ce_SI := match a, b with
  | .inl x, .inl y => some (.inl (f (Int32.ofInt x) (Int32.ofInt y)).toInt)
  | _, _ => none
theorem ce_num_ok {z : ce_U} {f : Int32 → Int32 → Int32} {a b v : ce_SI} (h : ce_num f a b = some v) : ce_vi z v = f (ce_vi z a) (ce_vi z b) := by
  match a, b, h with
  | .inl x, .inl y, h =>
    simp only [ce_num, Option.some.injEq] at h
    subst h
    simp [ce_vi]
  | .inl _, .inr _, h => simp [ce_num] at h
  | .inr _, _, h => simp [ce_num] at h
/-- a number told by the script, shifted down -/
def ce_shr (a b : ce_SI) : Option ce_SI := match a, b with
  | .inl x, .inl y => ce_num (fun x y => x >>> (y &&& 31)) (.inl x) (.inl y)
  | .inr t, b => some (.inr (.div t (ce_tm b)))
  | _, _ => none
theorem ce_shr_ok {z : ce_U} {a b v : ce_SI} (h : ce_shr a b = some v) : ce_vi z v = ce_vi z a >>> (ce_vi z b &&& 31) := by
  match a, b, h with
  | .inl x, .inl y, h => exact ce_num_ok (f := fun x y => x >>> (y &&& 31)) h
  | .inr t, b, h =>
    simp only [ce_shr, Option.some.injEq] at h
    subst h
    simp only [ce_vi, ce_I, ce_tm_ok]
  | .inl _, .inr _, h => simp [ce_shr] at h
def ce_and (a b : ce_SI) : Option ce_SI := match a, b with
  | .inl x, .inl y => ce_num (fun x y => x &&& y) (.inl x) (.inl y)
  | .inr t, .inl y => match decide (y = 63) with
    | true => some (.inr (.sum t))
    | false => none
  | _, _ => none
theorem ce_and_ok {z : ce_U} {a b v : ce_SI} (h : ce_and a b = some v) : ce_vi z v = ce_vi z a &&& ce_vi z b := by
  match a, b, h with
  | .inl x, .inl y, h => exact ce_num_ok (f := fun x y => x &&& y) h
  | .inr t, .inl y, h =>
    simp only [ce_and] at h
    split at h
    · rename_i hy
      cases h
      rw [of_decide_eq_true hy]
      rfl
    · cases h
  | .inl _, .inr _, h => simp [ce_and] at h
  | .inr _, .inr _, h => simp [ce_and] at h
theorem ok_iadd (d : decode cc pc = .ok (.iadd, 1)) : ce_OK own nm cc nL ret ht pc (ce_bin ce_addo (pc + 1)) := by
  intro z p l e R s m args below meth c Q ad0 n0 hC L G S h hS ad ls H locs kc ks h1 h2 hl hI hv k1 k2
  obtain ⟨lo, st⟩ := L
  simp only [ce_bin] at h
  split at h
  · rename_i b a r
    split at h
    · rename_i v hv8
      cases h
      refine lv_iadd hC.1 hC.2.1 d ?_
      have hq := (by rw [← Option.some.inj (show some (ce_add a b) = some v from hv8)]; exact ce_add_ok a b : ce_vi z v = ce_vi z a + ce_vi z b)
      rw [← hq]
      exact hS _ (List.mem_singleton.mpr rfl) ad ls H locs kc ks h1 h2 hl hI hv k1 k2
    · cases h
  · cases h
theorem ok_isub (d : decode cc pc = .ok (.isub, 1)) : ce_OK own nm cc nL ret ht pc (ce_bin ce_subo (pc + 1)) := by
  intro z p l e R s m args below meth c Q ad0 n0 hC L G S h hS ad ls H locs kc ks h1 h2 hl hI hv k1 k2
  obtain ⟨lo, st⟩ := L
  simp only [ce_bin] at h
  split at h
  · rename_i b a r
    split at h
    · rename_i v hv8
      cases h
      refine lv_isub hC.1 hC.2.1 d ?_
      have hq := (by rw [← Option.some.inj (show some (ce_sub a b) = some v from hv8)]; exact ce_sub_ok a b : ce_vi z v = ce_vi z a - ce_vi z b)
      rw [← hq]
      exact hS _ (List.mem_singleton.mpr rfl) ad ls H locs kc ks h1 h2 hl hI hv k1 k2
    · cases h
  · cases h
theorem ok_ior (d : decode cc pc = .ok (.ior, 1)) : ce_OK own nm cc nL ret ht pc (ce_bin (ce_num fun x y => x ||| y) (pc + 1)) := by
  intro z p l e R s m args below meth c Q ad0 n0 hC L G S h hS ad ls H locs kc ks h1 h2 hl hI hv k1 k2
  obtain ⟨lo, st⟩ := L
  simp only [ce_bin] at h
  split at h
  · rename_i b a r
    split at h
    · rename_i v hv8
      cases h
      refine lv_ior hC.1 hC.2.1 d ?_
      have hq := (ce_num_ok hv8 : ce_vi z v = ce_vi z a ||| ce_vi z b)
      rw [← hq]
      exact hS _ (List.mem_singleton.mpr rfl) ad ls H locs kc ks h1 h2 hl hI hv k1 k2
    · cases h
  · cases h
theorem ok_ishl (d : decode cc pc = .ok (.ishl, 1)) : ce_OK own nm cc nL ret ht pc (ce_bin (ce_num fun x y => x <<< (y &&& 31)) (pc + 1)) := by
  intro z p l e R s m args below meth c Q ad0 n0 hC L G S h hS ad ls H locs kc ks h1 h2 hl hI hv k1 k2
  obtain ⟨lo, st⟩ := L
  simp only [ce_bin] at h
  split at h
  · rename_i b a r
    split at h
    · rename_i v hv8
      cases h
      refine lv_ishl hC.1 hC.2.1 d ?_
      have hq := (ce_num_ok hv8 : ce_vi z v = ce_vi z a <<< (ce_vi z b &&& 31))
      rw [← hq]
      exact hS _ (List.mem_singleton.mpr rfl) ad ls H locs kc ks h1 h2 hl hI hv k1 k2
    · cases h
  · cases h
theorem ok_ishr (d : decode cc pc = .ok (.ishr, 1)) : ce_OK own nm cc nL ret ht pc (ce_bin ce_shr (pc + 1)) := by
  intro z p l e R s m args below meth c Q ad0 n0 hC L G S h hS ad ls H locs kc ks h1 h2 hl hI hv k1 k2
  obtain ⟨lo, st⟩ := L
  simp only [ce_bin] at h
  split at h
  · rename_i b a r
    split at h
    · rename_i v hv8
      cases h
      refine lv_ishr hC.1 hC.2.1 d ?_
      have hq := (ce_shr_ok hv8 : ce_vi z v = ce_vi z a >>> (ce_vi z b &&& 31))
      rw [← hq]
      exact hS _ (List.mem_singleton.mpr rfl) ad ls H locs kc ks h1 h2 hl hI hv k1 k2
    · cases h
  · cases h
theorem ok_iand (d : decode cc pc = .ok (.iand, 1)) : ce_OK own nm cc nL ret ht pc (ce_bin ce_and (pc + 1)) := by
  intro z p l e R s m args below meth c Q ad0 n0 hC L G S h hS ad ls H locs kc ks h1 h2 hl hI hv k1 k2
  obtain ⟨lo, st⟩ := L
  simp only [ce_bin] at h
  split at h
  · rename_i b a r
    split at h
    · rename_i v hv8
      cases h
      refine lv_iand hC.1 hC.2.1 d ?_
      have hq := (ce_and_ok hv8 : ce_vi z v = ce_vi z a &&& ce_vi z b)
      rw [← hq]
      exact hS _ (List.mem_singleton.mpr rfl) ad ls H locs kc ks h1 h2 hl hI hv k1 k2
    · cases h
  · cases h
def ce_ladd : ce_SI → ce_SI → ce_SI
  | .inl x, .inl y => .inl (x + y)
  | a, b => .inr (.add (ce_tl a) (ce_tl b))
theorem ce_ladd_ok {z : ce_U} (a b : ce_SI) : ce_vl z (ce_ladd a b) = ce_vl z a + ce_vl z b := by
  match a, b with
  | .inl x, .inl y => simp [ce_ladd, ce_vl, Int64.ofInt_add]
  | .inl x, .inr t => simp only [ce_ladd, ce_vl, ce_Lg, ce_tl_ok]
  | .inr t, b => simp only [ce_ladd, ce_vl, ce_Lg, ce_tl_ok]
def ce_lmul : ce_SI → ce_SI → ce_SI
  | .inl x, .inl y => .inl (x * y)
  | a, b => .inr (.mul (ce_tl a) (ce_tl b))
theorem ce_lmul_ok {z : ce_U} (a b : ce_SI) : ce_vl z (ce_lmul a b) = ce_vl z a * ce_vl z b := by
  match a, b with
  | .inl x, .inl y => simp [ce_lmul, ce_vl, Int64.ofInt_mul]
  | .inl x, .inr t => simp only [ce_lmul, ce_vl, ce_Lg, ce_tl_ok]
  | .inr t, b => simp only [ce_lmul, ce_vl, ce_Lg, ce_tl_ok]
theorem ok_ladd (d : decode cc pc = .ok (.ladd, 1)) : ce_OK own nm cc nL ret ht pc (ce_binL ce_ladd (pc + 1)) := by
  intro z p l e R s m args below meth c Q ad0 n0 hC L G S h hS ad ls H locs kc ks h1 h2 hl hI hv k1 k2
  obtain ⟨lo, st⟩ := L
  simp only [ce_binL] at h
  split at h
  · rename_i b a r
    cases h
    refine lv_ladd hC.1 hC.2.1 d ?_
    have hq := ce_ladd_ok (z := z) a b
    rw [← hq]
    exact hS _ (List.mem_singleton.mpr rfl) ad ls H locs kc ks h1 h2 hl hI hv k1 k2
  · cases h
theorem ok_lmul (d : decode cc pc = .ok (.lmul, 1)) : ce_OK own nm cc nL ret ht pc (ce_binL ce_lmul (pc + 1)) := by
  intro z p l e R s m args below meth c Q ad0 n0 hC L G S h hS ad ls H locs kc ks h1 h2 hl hI hv k1 k2
  obtain ⟨lo, st⟩ := L
  simp only [ce_binL] at h
  split at h
  · rename_i b a r
    cases h
    refine lv_lmul hC.1 hC.2.1 d ?_
    have hq := ce_lmul_ok (z := z) a b
    rw [← hq]
    exact hS _ (List.mem_singleton.mpr rfl) ad ls H locs kc ks h1 h2 hl hI hv k1 k2
  · cases h
/-- a number that the script tells, as a char: its bounds are facts -/
def ce_i2c (nx : Nat) : ce_P := fun L G => match L.2 with
  | .inl (.inl x) :: r => match decide (0 ≤ x) && decide (x ≤ 65535) with
    | true => some [(nx, (L.1, .inl (.inl x) :: r), G)]
    | false => none
  | .inl (.inr t) :: r => some [(nx, (L.1, .inl (.inr (.length t)) :: r), ((.length t, 0, 0) :: (.length t, 1, 65535) :: G.1, G.2))]
  | _ => none
def ce_i2b (nx : Nat) : ce_P := fun L G => match L.2 with
  | .inl (.inl x) :: r => some [(nx, (L.1, .inl (.inl (Int32.ofInt x).toInt8.toInt32.toInt) :: r), G)]
  | .inl (.inr t) :: r => some [(nx, (L.1, .inl (.inr (.old t)) :: r), G)]
  | _ => none
def ce_i2l (nx : Nat) : ce_P := fun L G => match L.2 with
  | .inl (.inl x) :: r => match ce_r x with
    | true => some [(nx, (L.1, .inr (.inl (.inl x)) :: r), G)]
    | false => none
  | .inl (.inr t) :: r => some [(nx, (L.1, .inr (.inl (.inr (.old t))) :: r), G)]
  | _ => none
theorem ce_char (x : Int32) : 0 ≤ ((x.toUInt32 % 65536).toInt32).toInt ∧ ((x.toUInt32 % 65536).toInt32).toInt ≤ 65535 := by
  rw [pk_char, nI_toInt (by omega)]
  omega
theorem ce_char_id {x : Int} (h0 : 0 ≤ x) (h1 : x ≤ 65535) : ((Int32.ofInt x).toUInt32 % 65536).toInt32 = Int32.ofInt x := by
  obtain ⟨n, rfl⟩ := Int.eq_ofNat_of_zero_le h0
  rw [pk_char]
  show nI ((Int32.ofNat n).toBitVec.toNat % 65536) = Int32.ofNat n
  rw [show (Int32.ofNat n).toBitVec.toNat = n from pk_tn (by omega), Nat.mod_eq_of_lt (by omega)]
  rfl
theorem ok_i2c (d : decode cc pc = .ok (.i2c, 1)) : ce_OK own nm cc nL ret ht pc (ce_i2c (pc + 1)) := by
  intro z p l e R s m args below meth c Q ad0 n0 hC L G S h hS ad ls H locs kc ks h1 h2 hl hI hv k1 k2
  obtain ⟨lo, st⟩ := L
  simp only [ce_i2c] at h
  split at h
  · rename_i x r
    split at h
    · rename_i hx
      simp only [Bool.and_eq_true, decide_eq_true_eq] at hx
      cases h
      refine lv_i2c hC.1 hC.2.1 d (ce_char_id hx.1 hx.2) ?_
      exact hS _ (List.mem_singleton.mpr rfl) ad ls H locs kc ks h1 h2 hl hI hv k1 k2
    · cases h
  · rename_i t r
    cases h
    refine lv_i2c hC.1 hC.2.1 d rfl ?_
    have hq := ce_char (ce_I z t)
    exact hS _ (List.mem_singleton.mpr rfl) ad ls H locs kc ks h1 h2 hl ⟨hI.1, hI.2.1, hI.2.2.1, ce_sat_cons (ce_fa0 hq.1) (ce_sat_cons (ce_fa1 hq.2) hI.2.2.2)⟩ hv k1 k2
  · cases h
theorem ok_i2b (d : decode cc pc = .ok (.i2b, 1)) : ce_OK own nm cc nL ret ht pc (ce_i2b (pc + 1)) := by
  intro z p l e R s m args below meth c Q ad0 n0 hC L G S h hS ad ls H locs kc ks h1 h2 hl hI hv k1 k2
  obtain ⟨lo, st⟩ := L
  simp only [ce_i2b] at h
  split at h
  · rename_i x r
    cases h
    refine lv_i2b hC.1 hC.2.1 d (v := ce_vi z (.inl (Int32.ofInt x).toInt8.toInt32.toInt)) (by show (Int32.ofInt x).toInt8.toInt32 = Int32.ofInt (Int32.ofInt x).toInt8.toInt32.toInt; rw [Int32.ofInt_toInt]) ?_
    exact hS _ (List.mem_singleton.mpr rfl) ad ls H locs kc ks h1 h2 hl hI hv k1 k2
  · rename_i t r
    cases h
    refine lv_i2b hC.1 hC.2.1 d rfl ?_
    exact hS _ (List.mem_singleton.mpr rfl) ad ls H locs kc ks h1 h2 hl hI hv k1 k2
  · cases h
theorem ok_i2l (d : decode cc pc = .ok (.i2l, 1)) : ce_OK own nm cc nL ret ht pc (ce_i2l (pc + 1)) := by
  intro z p l e R s m args below meth c Q ad0 n0 hC L G S h hS ad ls H locs kc ks h1 h2 hl hI hv k1 k2
  obtain ⟨lo, st⟩ := L
  simp only [ce_i2l] at h
  split at h
  · rename_i x r
    split at h
    · rename_i hx
      cases h
      refine lv_i2l hC.1 hC.2.1 d (v := ce_vl z (.inl x)) ?_ ?_
      · show (Int32.ofInt x).toInt64 = Int64.ofInt x
        rw [← Int64.ofInt_int32ToInt, ce_rt hx]
      · exact hS _ (List.mem_singleton.mpr rfl) ad ls H locs kc ks h1 h2 hl hI hv k1 k2
    · cases h
  · rename_i t r
    cases h
    refine lv_i2l hC.1 hC.2.1 d rfl ?_
    exact hS _ (List.mem_singleton.mpr rfl) ad ls H locs kc ks h1 h2 hl hI hv k1 k2
  · cases h
def ce_lr (n : Int) : Bool := decide (-9223372036854775808 ≤ n) && decide (n ≤ 9223372036854775807)
def ce_lcmp (nx : Nat) : ce_P := fun L G => match L.2 with
  | .inr (.inl (.inl y)) :: .inr (.inl (.inl x)) :: r => match ce_lr x && ce_lr y with
    | true => some [(nx, (L.1, .inl (.inl (if y < x then 1 else if x = y then 0 else -1)) :: r), G)]
    | false => none
  | .inr (.inl (.inr y)) :: .inr (.inl (.inr x)) :: r => match decide (x = y) with
    | true => some [(nx, (L.1, .inl (.inl 0) :: r), G)]
    | false => none
  | _ => none
theorem ce_lrt {n : Int} (h : ce_lr n = true) : (Int64.ofInt n).toInt = n := by
  simp only [ce_lr, Bool.and_eq_true, decide_eq_true_eq] at h
  exact Int64.toInt_ofInt_of_le (by omega) (by omega)
theorem ok_lcmp (d : decode cc pc = .ok (.lcmp, 1)) : ce_OK own nm cc nL ret ht pc (ce_lcmp (pc + 1)) := by
  intro z p l e R s m args below meth c Q ad0 n0 hC L G S h hS ad ls H locs kc ks h1 h2 hl hI hv k1 k2
  obtain ⟨lo, st⟩ := L
  simp only [ce_lcmp] at h
  split at h
  · rename_i y x r
    split at h
    · rename_i hx
      simp only [Bool.and_eq_true] at hx
      cases h
      refine W.lcmp hC.1 hC.2.1 d ?_
      have hq : lg_cmp (ce_vl z (.inl x)) (ce_vl z (.inl y)) = ce_vi z (.inl (if y < x then 1 else if x = y then 0 else -1)) := by
        have e1 : (Int64.ofInt x > Int64.ofInt y) ↔ y < x := by rw [gt_iff_lt, Int64.lt_iff_toInt_lt, ce_lrt hx.1, ce_lrt hx.2]
        have e2 : (Int64.ofInt x = Int64.ofInt y) ↔ x = y := by rw [← Int64.toInt_inj, ce_lrt hx.1, ce_lrt hx.2]
        simp only [lg_cmp, ce_vl, ce_vi, e1, e2]
        split
        · rfl
        · split <;> rfl
      show W _ _ _ _ _ _ _ _ _ _ _ _ _ _ _ (F0 m (pc + 1) ls (.int (lg_cmp (ce_vl z (.inl x)) (ce_vl z (.inl y))) :: r.map (ce_v z ad)))
      rw [hq]
      exact hS _ (List.mem_singleton.mpr rfl) ad ls H locs kc ks h1 h2 hl hI hv k1 k2
    · cases h
  · rename_i y x r
    split at h
    · rename_i hx
      cases h
      refine W.lcmp hC.1 hC.2.1 d ?_
      have hq : lg_cmp (ce_vl z (.inr x)) (ce_vl z (.inr y)) = ce_vi z (.inl 0) := by
        rw [of_decide_eq_true hx]
        simp [lg_cmp, ce_vi]
      show W _ _ _ _ _ _ _ _ _ _ _ _ _ _ _ (F0 m (pc + 1) ls (.int (lg_cmp (ce_vl z (.inr x)) (ce_vl z (.inr y))) :: r.map (ce_v z ad)))
      rw [hq]
      exact hS _ (List.mem_singleton.mpr rfl) ad ls H locs kc ks h1 h2 hl hI hv k1 k2
    · cases h
  · cases h
def ce_iinc (i : Nat) (n : Int) (nx nL : Nat) : ce_P := fun L G => match ce_lk L.1 i with
  | some (.inl a) => match Nat.blt i nL with
    | true => some [(nx, (ce_st false i (.inl (ce_add a (.inl n))) L.1, L.2), G)]
    | false => none
  | _ => none
theorem ok_iinc {i : Nat} {n : Int} (d : decode cc pc = .ok (.iinc i n, 3)) : ce_OK own nm cc nL ret ht pc (ce_iinc i n (pc + 3) nL) := by
  intro z p l e R s m args below meth c Q ad0 n0 hC L G S h hS ad ls H locs kc ks h1 h2 hl hI hv k1 k2
  obtain ⟨lo, st⟩ := L
  simp only [ce_iinc] at h
  split at h
  · rename_i a ha
    split at h
    · rename_i hn
      cases h
      obtain ⟨k, hk⟩ := List.getElem?_of_mem (List.mem_map.mpr ⟨(i, .inl a), ce_lk_mem ha, rfl⟩ : (i, ce_v z ad (.inl a)) ∈ lo.map fun q => (q.1, ce_v z ad q.2))
      refine lv_iinc hC.1 hC.2.1 d hl (k := k) hk (v := ce_vi z (ce_add a (.inl n))) (ce_add_ok a (.inl n)).symm (Nat.lt_of_succ_le (Nat.le_of_ble_eq_true hn)) rfl (fun ls' hl' => ?_)
      exact hS _ (List.mem_singleton.mpr rfl) ad ls' H locs kc ks h1 h2 (ce_has_sub hl' (ce_st_sub hC.2.2.2.2.2.2.2.2.2 fun q ⟨q1, q2, q3⟩ => ce_f1 q1 q3)) hI hv k1 k2
    · cases h
  · cases h
def ce_goto (nx : Nat) : ce_P := fun L G => some [(nx, L, G)]
theorem ok_goto {off : Int} {tgt : Nat} (d : decode cc pc = .ok (.goto off, 3)) (htg : (pc : Int) + off = (tgt : Int)) : ce_OK own nm cc nL ret ht pc (ce_goto tgt) := by
  intro z p l e R s m args below meth c Q ad0 n0 hC L G S h hS ad ls H locs kc ks h1 h2 hl hI hv k1 k2
  obtain ⟨lo, st⟩ := L
  cases h
  refine lv_goto hC.1 hC.2.1 d htg ?_
  exact hS _ (List.mem_singleton.mpr rfl) ad ls H locs kc ks h1 h2 hl hI hv k1 k2
/-- q: is it =, or <; sw: the other way round; ng: not -/
def ce_jump (q ng : Bool) (a b : ce_SI) (tgt nx : Nat) (L : ce_L) (G : ce_G) : Option (List (Nat × ce_L × ce_G)) := match ce_br G.1 q a b with
  | some S => some (S.map fun x => (if x.1 == ng then nx else tgt, L, (x.2, G.2)))
  | none => none
theorem ce_jump_ok {z : ce_U} {q ng : Bool} {a b : ce_SI} {tgt nx : Nat} {L : ce_L} {G : ce_G} {S : List (Nat × ce_L × ce_G)} (h : ce_jump q ng a b tgt nx L G = some S) (hF : ce_sat z G.1) :
    ∃ x ∈ S, x.2.1 = L ∧ x.2.2.2 = G.2 ∧ ce_sat z x.2.2.1 ∧ (ce_pr z q a b → x.1 = if ng then nx else tgt) ∧ (¬ ce_pr z q a b → x.1 = if ng then tgt else nx) := by
  unfold ce_jump at h
  split at h
  · rename_i S0 h0
    cases h
    obtain ⟨x, hx, h1, h2⟩ := ce_br_ok hF h0
    refine ⟨_, List.mem_map.mpr ⟨x, hx, rfl⟩, rfl, rfl, h2, fun hp => ?_, fun hp => ?_⟩
    · have e : x.1 = true := h1.mpr hp
      cases ng <;> simp [e]
    · have e : x.1 = false := by
        cases hx1 : x.1
        · rfl
        · exact absurd (h1.mp hx1) hp
      cases ng <;> simp [e]
  · cases h
def ce_icmp (q sw ng : Bool) (tgt nx : Nat) : ce_P := fun L G => match L.2 with
  | .inl b :: .inl a :: r => match sw with
    | false => ce_jump q ng a b tgt nx (L.1, r) G
    | true => ce_jump q ng b a tgt nx (L.1, r) G
  | _ => none
def ce_if (q sw ng : Bool) (tgt nx : Nat) : ce_P := fun L G => match L.2 with
  | .inl a :: r => match sw with
    | false => ce_jump q ng a (.inl 0) tgt nx (L.1, r) G
    | true => ce_jump q ng (.inl 0) a tgt nx (L.1, r) G
  | _ => none
theorem ok_icmp_eq {off : Int} {tgt : Nat} (d : decode cc pc = .ok (.if_icmp .eq off, 3)) (htg : (pc : Int) + off = (tgt : Int)) : ce_OK own nm cc nL ret ht pc (ce_icmp true false false tgt (pc + 3)) := by
  intro z p l e R s m args below meth c Q ad0 n0 hC L G S h hS ad ls H locs kc ks h1 h2 hl hI hv k1 k2
  obtain ⟨lo, st⟩ := L
  simp only [ce_icmp] at h
  split at h
  · rename_i b a r
    obtain ⟨x, hx, e1, e2, hs, hp, hn⟩ := ce_jump_ok h hI.2.2.2
    have hgo := hS x hx
    obtain ⟨x1, x2, x3, x4⟩ := x
    dsimp only at e1 e2 hs hp hn hgo
    subst e1; subst e2
    have hpr : ce_pr z true a b ↔ ce_vi z a = ce_vi z b := by simp [ce_pr]
    have hgo2 := hgo ad ls H locs kc ks h1 h2 hl ⟨hI.1, hI.2.1, hI.2.2.1, hs⟩ hv k1 k2
    rw [hpr] at hp hn
    by_cases hc : ce_vi z a = ce_vi z b
    · have e9 := hp hc
      simp only [if_true, Bool.false_eq_true, if_false] at e9
      subst e9
      refine lv_icmp_eq hC.1 hC.2.1 d htg (fun c8 => ?_) (fun c8 => ?_)
      · first | exact hgo2 | exact absurd hc c8 | exact absurd c8 (by simpa [ce_vi] using hc) | exact absurd hc (Int32.not_lt.mpr c8)
      · first | exact hgo2 | exact absurd hc c8 | exact absurd (by simpa [ce_vi] using hc) c8 | exact absurd (Int32.not_le.mp c8) (by simpa [ce_vi] using hc)
    · have e9 := hn hc
      simp only [if_true, Bool.false_eq_true, if_false] at e9
      subst e9
      refine lv_icmp_eq hC.1 hC.2.1 d htg (fun c8 => ?_) (fun c8 => ?_)
      · first | exact hgo2 | exact absurd c8 hc | exact absurd c8 (by simpa [ce_vi] using hc) | exact absurd (Int32.not_lt.mp hc) (by simpa [ce_vi] using c8)
      · first | exact hgo2 | exact absurd c8 hc | exact absurd (Int32.not_le.mp c8) hc | exact absurd (by simpa [ce_vi] using hc) c8
  · cases h
theorem ok_if_eq {off : Int} {tgt : Nat} (d : decode cc pc = .ok (.ifCond .eq off, 3)) (htg : (pc : Int) + off = (tgt : Int)) : ce_OK own nm cc nL ret ht pc (ce_if true false false tgt (pc + 3)) := by
  intro z p l e R s m args below meth c Q ad0 n0 hC L G S h hS ad ls H locs kc ks h1 h2 hl hI hv k1 k2
  obtain ⟨lo, st⟩ := L
  simp only [ce_if] at h
  split at h
  · rename_i a r
    obtain ⟨x, hx, e1, e2, hs, hp, hn⟩ := ce_jump_ok h hI.2.2.2
    have hgo := hS x hx
    obtain ⟨x1, x2, x3, x4⟩ := x
    dsimp only at e1 e2 hs hp hn hgo
    subst e1; subst e2
    have hpr : ce_pr z true a (.inl 0) ↔ ce_vi z a = ce_vi z (.inl 0) := by simp [ce_pr]
    have hgo2 := hgo ad ls H locs kc ks h1 h2 hl ⟨hI.1, hI.2.1, hI.2.2.1, hs⟩ hv k1 k2
    rw [hpr] at hp hn
    by_cases hc : ce_vi z a = ce_vi z (.inl 0)
    · have e9 := hp hc
      simp only [if_true, Bool.false_eq_true, if_false] at e9
      subst e9
      refine lv_if_eq hC.1 hC.2.1 d htg (fun c8 => ?_) (fun c8 => ?_)
      · first | exact hgo2 | exact absurd hc c8 | exact absurd c8 (by simpa [ce_vi] using hc) | exact absurd hc (Int32.not_lt.mpr c8)
      · first | exact hgo2 | exact absurd hc c8 | exact absurd (by simpa [ce_vi] using hc) c8 | exact absurd (Int32.not_le.mp c8) (by simpa [ce_vi] using hc)
    · have e9 := hn hc
      simp only [if_true, Bool.false_eq_true, if_false] at e9
      subst e9
      refine lv_if_eq hC.1 hC.2.1 d htg (fun c8 => ?_) (fun c8 => ?_)
      · first | exact hgo2 | exact absurd c8 hc | exact absurd c8 (by simpa [ce_vi] using hc) | exact absurd (Int32.not_lt.mp hc) (by simpa [ce_vi] using c8)
      · first | exact hgo2 | exact absurd c8 hc | exact absurd (Int32.not_le.mp c8) hc | exact absurd (by simpa [ce_vi] using hc) c8
  · cases h
theorem ok_icmp_ne {off : Int} {tgt : Nat} (d : decode cc pc = .ok (.if_icmp .ne off, 3)) (htg : (pc : Int) + off = (tgt : Int)) : ce_OK own nm cc nL ret ht pc (ce_icmp true false true tgt (pc + 3)) := by
  intro z p l e R s m args below meth c Q ad0 n0 hC L G S h hS ad ls H locs kc ks h1 h2 hl hI hv k1 k2
  obtain ⟨lo, st⟩ := L
  simp only [ce_icmp] at h
  split at h
  · rename_i b a r
    obtain ⟨x, hx, e1, e2, hs, hp, hn⟩ := ce_jump_ok h hI.2.2.2
    have hgo := hS x hx
    obtain ⟨x1, x2, x3, x4⟩ := x
    dsimp only at e1 e2 hs hp hn hgo
    subst e1; subst e2
    have hpr : ce_pr z true a b ↔ ce_vi z a = ce_vi z b := by simp [ce_pr]
    have hgo2 := hgo ad ls H locs kc ks h1 h2 hl ⟨hI.1, hI.2.1, hI.2.2.1, hs⟩ hv k1 k2
    rw [hpr] at hp hn
    by_cases hc : ce_vi z a = ce_vi z b
    · have e9 := hp hc
      simp only [if_true, Bool.false_eq_true, if_false] at e9
      subst e9
      refine lv_icmp_ne hC.1 hC.2.1 d htg (fun c8 => ?_) (fun c8 => ?_)
      · first | exact hgo2 | exact absurd hc c8 | exact absurd c8 (by simpa [ce_vi] using hc) | exact absurd hc (Int32.not_lt.mpr c8)
      · first | exact hgo2 | exact absurd hc c8 | exact absurd (by simpa [ce_vi] using hc) c8 | exact absurd (Int32.not_le.mp c8) (by simpa [ce_vi] using hc)
    · have e9 := hn hc
      simp only [if_true, Bool.false_eq_true, if_false] at e9
      subst e9
      refine lv_icmp_ne hC.1 hC.2.1 d htg (fun c8 => ?_) (fun c8 => ?_)
      · first | exact hgo2 | exact absurd c8 hc | exact absurd c8 (by simpa [ce_vi] using hc) | exact absurd (Int32.not_lt.mp hc) (by simpa [ce_vi] using c8)
      · first | exact hgo2 | exact absurd c8 hc | exact absurd (Int32.not_le.mp c8) hc | exact absurd (by simpa [ce_vi] using hc) c8
  · cases h
theorem ok_if_ne {off : Int} {tgt : Nat} (d : decode cc pc = .ok (.ifCond .ne off, 3)) (htg : (pc : Int) + off = (tgt : Int)) : ce_OK own nm cc nL ret ht pc (ce_if true false true tgt (pc + 3)) := by
  intro z p l e R s m args below meth c Q ad0 n0 hC L G S h hS ad ls H locs kc ks h1 h2 hl hI hv k1 k2
  obtain ⟨lo, st⟩ := L
  simp only [ce_if] at h
  split at h
  · rename_i a r
    obtain ⟨x, hx, e1, e2, hs, hp, hn⟩ := ce_jump_ok h hI.2.2.2
    have hgo := hS x hx
    obtain ⟨x1, x2, x3, x4⟩ := x
    dsimp only at e1 e2 hs hp hn hgo
    subst e1; subst e2
    have hpr : ce_pr z true a (.inl 0) ↔ ce_vi z a = ce_vi z (.inl 0) := by simp [ce_pr]
    have hgo2 := hgo ad ls H locs kc ks h1 h2 hl ⟨hI.1, hI.2.1, hI.2.2.1, hs⟩ hv k1 k2
    rw [hpr] at hp hn
    by_cases hc : ce_vi z a = ce_vi z (.inl 0)
    · have e9 := hp hc
      simp only [if_true, Bool.false_eq_true, if_false] at e9
      subst e9
      refine lv_if_ne hC.1 hC.2.1 d htg (fun c8 => ?_) (fun c8 => ?_)
      · first | exact hgo2 | exact absurd hc c8 | exact absurd c8 (by simpa [ce_vi] using hc) | exact absurd hc (Int32.not_lt.mpr c8)
      · first | exact hgo2 | exact absurd hc c8 | exact absurd (by simpa [ce_vi] using hc) c8 | exact absurd (Int32.not_le.mp c8) (by simpa [ce_vi] using hc)
    · have e9 := hn hc
      simp only [if_true, Bool.false_eq_true, if_false] at e9
      subst e9
      refine lv_if_ne hC.1 hC.2.1 d htg (fun c8 => ?_) (fun c8 => ?_)
      · first | exact hgo2 | exact absurd c8 hc | exact absurd c8 (by simpa [ce_vi] using hc) | exact absurd (Int32.not_lt.mp hc) (by simpa [ce_vi] using c8)
      · first | exact hgo2 | exact absurd c8 hc | exact absurd (Int32.not_le.mp c8) hc | exact absurd (by simpa [ce_vi] using hc) c8
  · cases h
theorem ok_icmp_lt {off : Int} {tgt : Nat} (d : decode cc pc = .ok (.if_icmp .lt off, 3)) (htg : (pc : Int) + off = (tgt : Int)) : ce_OK own nm cc nL ret ht pc (ce_icmp false false false tgt (pc + 3)) := by
  intro z p l e R s m args below meth c Q ad0 n0 hC L G S h hS ad ls H locs kc ks h1 h2 hl hI hv k1 k2
  obtain ⟨lo, st⟩ := L
  simp only [ce_icmp] at h
  split at h
  · rename_i b a r
    obtain ⟨x, hx, e1, e2, hs, hp, hn⟩ := ce_jump_ok h hI.2.2.2
    have hgo := hS x hx
    obtain ⟨x1, x2, x3, x4⟩ := x
    dsimp only at e1 e2 hs hp hn hgo
    subst e1; subst e2
    have hpr : ce_pr z false a b ↔ ce_vi z a < ce_vi z b := by simp [ce_pr]
    have hgo2 := hgo ad ls H locs kc ks h1 h2 hl ⟨hI.1, hI.2.1, hI.2.2.1, hs⟩ hv k1 k2
    rw [hpr] at hp hn
    by_cases hc : ce_vi z a < ce_vi z b
    · have e9 := hp hc
      simp only [if_true, Bool.false_eq_true, if_false] at e9
      subst e9
      refine lv_icmp_lt hC.1 hC.2.1 d htg (fun c8 => ?_) (fun c8 => ?_)
      · first | exact hgo2 | exact absurd hc c8 | exact absurd c8 (by simpa [ce_vi] using hc) | exact absurd hc (Int32.not_lt.mpr c8)
      · first | exact hgo2 | exact absurd hc c8 | exact absurd (by simpa [ce_vi] using hc) c8 | exact absurd (Int32.not_le.mp c8) (by simpa [ce_vi] using hc)
    · have e9 := hn hc
      simp only [if_true, Bool.false_eq_true, if_false] at e9
      subst e9
      refine lv_icmp_lt hC.1 hC.2.1 d htg (fun c8 => ?_) (fun c8 => ?_)
      · first | exact hgo2 | exact absurd c8 hc | exact absurd c8 (by simpa [ce_vi] using hc) | exact absurd (Int32.not_lt.mp hc) (by simpa [ce_vi] using c8)
      · first | exact hgo2 | exact absurd c8 hc | exact absurd (Int32.not_le.mp c8) hc | exact absurd (by simpa [ce_vi] using hc) c8
  · cases h
theorem ok_if_lt {off : Int} {tgt : Nat} (d : decode cc pc = .ok (.ifCond .lt off, 3)) (htg : (pc : Int) + off = (tgt : Int)) : ce_OK own nm cc nL ret ht pc (ce_if false false false tgt (pc + 3)) := by
  intro z p l e R s m args below meth c Q ad0 n0 hC L G S h hS ad ls H locs kc ks h1 h2 hl hI hv k1 k2
  obtain ⟨lo, st⟩ := L
  simp only [ce_if] at h
  split at h
  · rename_i a r
    obtain ⟨x, hx, e1, e2, hs, hp, hn⟩ := ce_jump_ok h hI.2.2.2
    have hgo := hS x hx
    obtain ⟨x1, x2, x3, x4⟩ := x
    dsimp only at e1 e2 hs hp hn hgo
    subst e1; subst e2
    have hpr : ce_pr z false a (.inl 0) ↔ ce_vi z a < ce_vi z (.inl 0) := by simp [ce_pr]
    have hgo2 := hgo ad ls H locs kc ks h1 h2 hl ⟨hI.1, hI.2.1, hI.2.2.1, hs⟩ hv k1 k2
    rw [hpr] at hp hn
    by_cases hc : ce_vi z a < ce_vi z (.inl 0)
    · have e9 := hp hc
      simp only [if_true, Bool.false_eq_true, if_false] at e9
      subst e9
      refine lv_if_lt hC.1 hC.2.1 d htg (fun c8 => ?_) (fun c8 => ?_)
      · first | exact hgo2 | exact absurd hc c8 | exact absurd c8 (by simpa [ce_vi] using hc) | exact absurd hc (Int32.not_lt.mpr c8)
      · first | exact hgo2 | exact absurd hc c8 | exact absurd (by simpa [ce_vi] using hc) c8 | exact absurd (Int32.not_le.mp c8) (by simpa [ce_vi] using hc)
    · have e9 := hn hc
      simp only [if_true, Bool.false_eq_true, if_false] at e9
      subst e9
      refine lv_if_lt hC.1 hC.2.1 d htg (fun c8 => ?_) (fun c8 => ?_)
      · first | exact hgo2 | exact absurd c8 hc | exact absurd c8 (by simpa [ce_vi] using hc) | exact absurd (Int32.not_lt.mp hc) (by simpa [ce_vi] using c8)
      · first | exact hgo2 | exact absurd c8 hc | exact absurd (Int32.not_le.mp c8) hc | exact absurd (by simpa [ce_vi] using hc) c8
  · cases h
theorem ok_icmp_ge {off : Int} {tgt : Nat} (d : decode cc pc = .ok (.if_icmp .ge off, 3)) (htg : (pc : Int) + off = (tgt : Int)) : ce_OK own nm cc nL ret ht pc (ce_icmp false false true tgt (pc + 3)) := by
  intro z p l e R s m args below meth c Q ad0 n0 hC L G S h hS ad ls H locs kc ks h1 h2 hl hI hv k1 k2
  obtain ⟨lo, st⟩ := L
  simp only [ce_icmp] at h
  split at h
  · rename_i b a r
    obtain ⟨x, hx, e1, e2, hs, hp, hn⟩ := ce_jump_ok h hI.2.2.2
    have hgo := hS x hx
    obtain ⟨x1, x2, x3, x4⟩ := x
    dsimp only at e1 e2 hs hp hn hgo
    subst e1; subst e2
    have hpr : ce_pr z false a b ↔ ce_vi z a < ce_vi z b := by simp [ce_pr]
    have hgo2 := hgo ad ls H locs kc ks h1 h2 hl ⟨hI.1, hI.2.1, hI.2.2.1, hs⟩ hv k1 k2
    rw [hpr] at hp hn
    by_cases hc : ce_vi z a < ce_vi z b
    · have e9 := hp hc
      simp only [if_true, Bool.false_eq_true, if_false] at e9
      subst e9
      refine lv_icmp_ge hC.1 hC.2.1 d htg (fun c8 => ?_) (fun c8 => ?_)
      · first | exact hgo2 | exact absurd hc c8 | exact absurd c8 (by simpa [ce_vi] using hc) | exact absurd hc (Int32.not_lt.mpr c8)
      · first | exact hgo2 | exact absurd hc c8 | exact absurd (by simpa [ce_vi] using hc) c8 | exact absurd (Int32.not_le.mp c8) (by simpa [ce_vi] using hc)
    · have e9 := hn hc
      simp only [if_true, Bool.false_eq_true, if_false] at e9
      subst e9
      refine lv_icmp_ge hC.1 hC.2.1 d htg (fun c8 => ?_) (fun c8 => ?_)
      · first | exact hgo2 | exact absurd c8 hc | exact absurd c8 (by simpa [ce_vi] using hc) | exact absurd (Int32.not_lt.mp hc) (by simpa [ce_vi] using c8)
      · first | exact hgo2 | exact absurd c8 hc | exact absurd (Int32.not_le.mp c8) hc | exact absurd (by simpa [ce_vi] using hc) c8
  · cases h
theorem ok_if_ge {off : Int} {tgt : Nat} (d : decode cc pc = .ok (.ifCond .ge off, 3)) (htg : (pc : Int) + off = (tgt : Int)) : ce_OK own nm cc nL ret ht pc (ce_if false false true tgt (pc + 3)) := by
  intro z p l e R s m args below meth c Q ad0 n0 hC L G S h hS ad ls H locs kc ks h1 h2 hl hI hv k1 k2
  obtain ⟨lo, st⟩ := L
  simp only [ce_if] at h
  split at h
  · rename_i a r
    obtain ⟨x, hx, e1, e2, hs, hp, hn⟩ := ce_jump_ok h hI.2.2.2
    have hgo := hS x hx
    obtain ⟨x1, x2, x3, x4⟩ := x
    dsimp only at e1 e2 hs hp hn hgo
    subst e1; subst e2
    have hpr : ce_pr z false a (.inl 0) ↔ ce_vi z a < ce_vi z (.inl 0) := by simp [ce_pr]
    have hgo2 := hgo ad ls H locs kc ks h1 h2 hl ⟨hI.1, hI.2.1, hI.2.2.1, hs⟩ hv k1 k2
    rw [hpr] at hp hn
    by_cases hc : ce_vi z a < ce_vi z (.inl 0)
    · have e9 := hp hc
      simp only [if_true, Bool.false_eq_true, if_false] at e9
      subst e9
      refine lv_if_ge hC.1 hC.2.1 d htg (fun c8 => ?_) (fun c8 => ?_)
      · first | exact hgo2 | exact absurd hc c8 | exact absurd c8 (by simpa [ce_vi] using hc) | exact absurd hc (Int32.not_lt.mpr c8)
      · first | exact hgo2 | exact absurd hc c8 | exact absurd (by simpa [ce_vi] using hc) c8 | exact absurd (Int32.not_le.mp c8) (by simpa [ce_vi] using hc)
    · have e9 := hn hc
      simp only [if_true, Bool.false_eq_true, if_false] at e9
      subst e9
      refine lv_if_ge hC.1 hC.2.1 d htg (fun c8 => ?_) (fun c8 => ?_)
      · first | exact hgo2 | exact absurd c8 hc | exact absurd c8 (by simpa [ce_vi] using hc) | exact absurd (Int32.not_lt.mp hc) (by simpa [ce_vi] using c8)
      · first | exact hgo2 | exact absurd c8 hc | exact absurd (Int32.not_le.mp c8) hc | exact absurd (by simpa [ce_vi] using hc) c8
  · cases h
theorem ok_icmp_gt {off : Int} {tgt : Nat} (d : decode cc pc = .ok (.if_icmp .gt off, 3)) (htg : (pc : Int) + off = (tgt : Int)) : ce_OK own nm cc nL ret ht pc (ce_icmp false true false tgt (pc + 3)) := by
  intro z p l e R s m args below meth c Q ad0 n0 hC L G S h hS ad ls H locs kc ks h1 h2 hl hI hv k1 k2
  obtain ⟨lo, st⟩ := L
  simp only [ce_icmp] at h
  split at h
  · rename_i b a r
    obtain ⟨x, hx, e1, e2, hs, hp, hn⟩ := ce_jump_ok h hI.2.2.2
    have hgo := hS x hx
    obtain ⟨x1, x2, x3, x4⟩ := x
    dsimp only at e1 e2 hs hp hn hgo
    subst e1; subst e2
    have hpr : ce_pr z false b a ↔ ce_vi z b < ce_vi z a := by simp [ce_pr]
    have hgo2 := hgo ad ls H locs kc ks h1 h2 hl ⟨hI.1, hI.2.1, hI.2.2.1, hs⟩ hv k1 k2
    rw [hpr] at hp hn
    by_cases hc : ce_vi z b < ce_vi z a
    · have e9 := hp hc
      simp only [if_true, Bool.false_eq_true, if_false] at e9
      subst e9
      refine lv_icmp_gt hC.1 hC.2.1 d htg (fun c8 => ?_) (fun c8 => ?_)
      · first | exact hgo2 | exact absurd hc c8 | exact absurd c8 (by simpa [ce_vi] using hc) | exact absurd hc (Int32.not_lt.mpr c8)
      · first | exact hgo2 | exact absurd hc c8 | exact absurd (by simpa [ce_vi] using hc) c8 | exact absurd (Int32.not_le.mp c8) (by simpa [ce_vi] using hc)
    · have e9 := hn hc
      simp only [if_true, Bool.false_eq_true, if_false] at e9
      subst e9
      refine lv_icmp_gt hC.1 hC.2.1 d htg (fun c8 => ?_) (fun c8 => ?_)
      · first | exact hgo2 | exact absurd c8 hc | exact absurd c8 (by simpa [ce_vi] using hc) | exact absurd (Int32.not_lt.mp hc) (by simpa [ce_vi] using c8)
      · first | exact hgo2 | exact absurd c8 hc | exact absurd (Int32.not_le.mp c8) hc | exact absurd (by simpa [ce_vi] using hc) c8
  · cases h
theorem ok_if_gt {off : Int} {tgt : Nat} (d : decode cc pc = .ok (.ifCond .gt off, 3)) (htg : (pc : Int) + off = (tgt : Int)) : ce_OK own nm cc nL ret ht pc (ce_if false true false tgt (pc + 3)) := by
  intro z p l e R s m args below meth c Q ad0 n0 hC L G S h hS ad ls H locs kc ks h1 h2 hl hI hv k1 k2
  obtain ⟨lo, st⟩ := L
  simp only [ce_if] at h
  split at h
  · rename_i a r
    obtain ⟨x, hx, e1, e2, hs, hp, hn⟩ := ce_jump_ok h hI.2.2.2
    have hgo := hS x hx
    obtain ⟨x1, x2, x3, x4⟩ := x
    dsimp only at e1 e2 hs hp hn hgo
    subst e1; subst e2
    have hpr : ce_pr z false (.inl 0) a ↔ ce_vi z (.inl 0) < ce_vi z a := by simp [ce_pr]
    have hgo2 := hgo ad ls H locs kc ks h1 h2 hl ⟨hI.1, hI.2.1, hI.2.2.1, hs⟩ hv k1 k2
    rw [hpr] at hp hn
    by_cases hc : ce_vi z (.inl 0) < ce_vi z a
    · have e9 := hp hc
      simp only [if_true, Bool.false_eq_true, if_false] at e9
      subst e9
      refine lv_if_gt hC.1 hC.2.1 d htg (fun c8 => ?_) (fun c8 => ?_)
      · first | exact hgo2 | exact absurd hc c8 | exact absurd c8 (by simpa [ce_vi] using hc) | exact absurd hc (Int32.not_lt.mpr c8)
      · first | exact hgo2 | exact absurd hc c8 | exact absurd (by simpa [ce_vi] using hc) c8 | exact absurd (Int32.not_le.mp c8) (by simpa [ce_vi] using hc)
    · have e9 := hn hc
      simp only [if_true, Bool.false_eq_true, if_false] at e9
      subst e9
      refine lv_if_gt hC.1 hC.2.1 d htg (fun c8 => ?_) (fun c8 => ?_)
      · first | exact hgo2 | exact absurd c8 hc | exact absurd c8 (by simpa [ce_vi] using hc) | exact absurd (Int32.not_lt.mp hc) (by simpa [ce_vi] using c8)
      · first | exact hgo2 | exact absurd c8 hc | exact absurd (Int32.not_le.mp c8) hc | exact absurd (by simpa [ce_vi] using hc) c8
  · cases h
theorem ok_icmp_le {off : Int} {tgt : Nat} (d : decode cc pc = .ok (.if_icmp .le off, 3)) (htg : (pc : Int) + off = (tgt : Int)) : ce_OK own nm cc nL ret ht pc (ce_icmp false true true tgt (pc + 3)) := by
  intro z p l e R s m args below meth c Q ad0 n0 hC L G S h hS ad ls H locs kc ks h1 h2 hl hI hv k1 k2
  obtain ⟨lo, st⟩ := L
  simp only [ce_icmp] at h
  split at h
  · rename_i b a r
    obtain ⟨x, hx, e1, e2, hs, hp, hn⟩ := ce_jump_ok h hI.2.2.2
    have hgo := hS x hx
    obtain ⟨x1, x2, x3, x4⟩ := x
    dsimp only at e1 e2 hs hp hn hgo
    subst e1; subst e2
    have hpr : ce_pr z false b a ↔ ce_vi z b < ce_vi z a := by simp [ce_pr]
    have hgo2 := hgo ad ls H locs kc ks h1 h2 hl ⟨hI.1, hI.2.1, hI.2.2.1, hs⟩ hv k1 k2
    rw [hpr] at hp hn
    by_cases hc : ce_vi z b < ce_vi z a
    · have e9 := hp hc
      simp only [if_true, Bool.false_eq_true, if_false] at e9
      subst e9
      refine lv_icmp_le hC.1 hC.2.1 d htg (fun c8 => ?_) (fun c8 => ?_)
      · first | exact hgo2 | exact absurd hc c8 | exact absurd c8 (by simpa [ce_vi] using hc) | exact absurd hc (Int32.not_lt.mpr c8)
      · first | exact hgo2 | exact absurd hc c8 | exact absurd (by simpa [ce_vi] using hc) c8 | exact absurd (Int32.not_le.mp c8) (by simpa [ce_vi] using hc)
    · have e9 := hn hc
      simp only [if_true, Bool.false_eq_true, if_false] at e9
      subst e9
      refine lv_icmp_le hC.1 hC.2.1 d htg (fun c8 => ?_) (fun c8 => ?_)
      · first | exact hgo2 | exact absurd c8 hc | exact absurd c8 (by simpa [ce_vi] using hc) | exact absurd (Int32.not_lt.mp hc) (by simpa [ce_vi] using c8)
      · first | exact hgo2 | exact absurd c8 hc | exact absurd (Int32.not_le.mp c8) hc | exact absurd (by simpa [ce_vi] using hc) c8
  · cases h
theorem ok_if_le {off : Int} {tgt : Nat} (d : decode cc pc = .ok (.ifCond .le off, 3)) (htg : (pc : Int) + off = (tgt : Int)) : ce_OK own nm cc nL ret ht pc (ce_if false true true tgt (pc + 3)) := by
  intro z p l e R s m args below meth c Q ad0 n0 hC L G S h hS ad ls H locs kc ks h1 h2 hl hI hv k1 k2
  obtain ⟨lo, st⟩ := L
  simp only [ce_if] at h
  split at h
  · rename_i a r
    obtain ⟨x, hx, e1, e2, hs, hp, hn⟩ := ce_jump_ok h hI.2.2.2
    have hgo := hS x hx
    obtain ⟨x1, x2, x3, x4⟩ := x
    dsimp only at e1 e2 hs hp hn hgo
    subst e1; subst e2
    have hpr : ce_pr z false (.inl 0) a ↔ ce_vi z (.inl 0) < ce_vi z a := by simp [ce_pr]
    have hgo2 := hgo ad ls H locs kc ks h1 h2 hl ⟨hI.1, hI.2.1, hI.2.2.1, hs⟩ hv k1 k2
    rw [hpr] at hp hn
    by_cases hc : ce_vi z (.inl 0) < ce_vi z a
    · have e9 := hp hc
      simp only [if_true, Bool.false_eq_true, if_false] at e9
      subst e9
      refine lv_if_le hC.1 hC.2.1 d htg (fun c8 => ?_) (fun c8 => ?_)
      · first | exact hgo2 | exact absurd hc c8 | exact absurd c8 (by simpa [ce_vi] using hc) | exact absurd hc (Int32.not_lt.mpr c8)
      · first | exact hgo2 | exact absurd hc c8 | exact absurd (by simpa [ce_vi] using hc) c8 | exact absurd (Int32.not_le.mp c8) (by simpa [ce_vi] using hc)
    · have e9 := hn hc
      simp only [if_true, Bool.false_eq_true, if_false] at e9
      subst e9
      refine lv_if_le hC.1 hC.2.1 d htg (fun c8 => ?_) (fun c8 => ?_)
      · first | exact hgo2 | exact absurd c8 hc | exact absurd c8 (by simpa [ce_vi] using hc) | exact absurd (Int32.not_lt.mp hc) (by simpa [ce_vi] using c8)
      · first | exact hgo2 | exact absurd c8 hc | exact absurd (Int32.not_le.mp c8) hc | exact absurd (by simpa [ce_vi] using hc) c8
  · cases h
end Ops
end
section
/-! the steps on the heap -/
def ce_nth {α : Type} : List α → Nat → Option α
  | [], _ => none
  | a :: _, 0 => some a
  | _ :: r, i + 1 => ce_nth r i
theorem ce_nth_eq {α : Type} : ∀ (l : List α) (i : Nat), ce_nth l i = l[i]?
  | [], _ => by simp [ce_nth]
  | a :: r, 0 => by simp [ce_nth]
  | a :: r, i + 1 => by simp only [ce_nth, List.getElem?_cons_succ]; exact ce_nth_eq r i
def ce_obj (G : ce_G) (k : Nat) : Option (Nat × List ce_SV) := match ce_nth G.2.1 k with
  | some (.inl x) => some x
  | _ => none
def ce_arr (G : ce_G) (k : Nat) : Option (Nat × List ce_SV) := match ce_nth G.2.1 k with
  | some (.inr x) => some x
  | _ => none
theorem ce_obj_at {z : ce_U} {ad : Nat → Nat} {G : ce_G} {k : Nat} {x : Nat × List ce_SV} (h : ce_obj G k = some x) : G.2.1[k]? = some (.inl x) ∧ (ce_w z ad 0 G.2.1)[k]? = some (ad k, .inr (x.1, x.2.map (ce_v z ad))) := by
  unfold ce_obj at h
  rw [ce_nth_eq] at h
  split at h
  · rename_i y hy
    cases h
    exact ⟨hy, by rw [ce_w_get, hy, Nat.zero_add]; rfl⟩
  · cases h
theorem ce_arr_at {z : ce_U} {ad : Nat → Nat} {G : ce_G} {k : Nat} {x : Nat × List ce_SV} (h : ce_arr G k = some x) : G.2.1[k]? = some (.inr x) ∧ (ce_w z ad 0 G.2.1)[k]? = some (ad k, .inl (ce_cA z x.1, x.2.length, ce_ar z ad x.1 x.2)) := by
  unfold ce_arr at h
  rw [ce_nth_eq] at h
  split at h
  · rename_i y hy
    cases h
    exact ⟨hy, by rw [ce_w_get, hy, Nat.zero_add]; rfl⟩
  · cases h
/-- a cell is written -/
theorem ce_Inv_set {z : ce_U} {ad : Nat → Nat} {G : ce_G} {k : Nat} {e0 e : ce_SE} {H1 : Heap} (hI : G.2.1.all (ce_we G.2.1.length) = true ∧ ce_sat z G.1) (hk : G.2.1[k]? = some e0) (he : ce_we G.2.1.length e = true)
    (hP : va_P (ce_D z) ce_cl ((ce_w z ad 0 G.2.1).set k (ad k, ce_e z ad e)) H1) (hD : va_D (ce_A z) ((ce_w z ad 0 G.2.1).set k (ad k, ce_e z ad e))) : ce_Inv z ad (G.1, G.2.1.set k e, G.2.2) H1 := by
  have hq : ce_w z ad 0 (G.2.1.set k e) = (ce_w z ad 0 G.2.1).set k (ad k, ce_e z ad e) := by rw [ce_w_set, Nat.zero_add]
  refine ⟨?_, ?_, ?_, hI.2⟩
  · show va_P _ _ (ce_w z ad 0 (G.2.1.set k e)) H1
    rw [hq]; exact hP
  · show va_D _ (ce_w z ad 0 (G.2.1.set k e))
    rw [hq]; exact hD
  · show (G.2.1.set k e).all (ce_we (G.2.1.set k e).length) = true
    rw [List.length_set]
    refine List.all_eq_true.mpr fun x hx => ?_
    rcases List.mem_or_eq_of_mem_set hx with hx | hx
    · exact List.all_eq_true.mp hI.1 x hx
    · rw [hx]; exact he
/-- a cell comes -/
theorem ce_Inv_app {z : ce_U} {ad ad' : Nat → Nat} {G : ce_G} {q : Nat} {e : ce_SE} {H1 : Heap} {rc rs : Nat} (hI : G.2.1.all (ce_we G.2.1.length) = true ∧ ce_sat z G.1) (he : ce_we G.2.1.length e = true) (h1 : ∀ i, i < G.2.1.length → ad' i = ad i) (h2 : ad' G.2.1.length = q)
    (hP : va_P (ce_D z) ce_cl (ce_w z ad 0 G.2.1 ++ [(q, ce_e z ad e)]) H1) (hD : va_D (ce_A z) (ce_w z ad 0 G.2.1 ++ [(q, ce_e z ad e)])) : ce_Inv z ad' (G.1, G.2.1 ++ [e], rc, rs) H1 := by
  have hq : ce_w z ad' 0 (G.2.1 ++ [e]) = ce_w z ad 0 G.2.1 ++ [(q, ce_e z ad e)] := by
    rw [ce_w_app, Nat.zero_add, h2, ce_e_congr h1 he, ce_w_congr h1 _ 0 (by omega) hI.1]
  refine ⟨?_, ?_, ?_, hI.2⟩
  · show va_P _ _ (ce_w z ad' 0 (G.2.1 ++ [e])) H1
    rw [hq]; exact hP
  · show va_D _ (ce_w z ad' 0 (G.2.1 ++ [e]))
    rw [hq]; exact hD
  · show (G.2.1 ++ [e]).all (ce_we (G.2.1 ++ [e]).length) = true
    rw [List.length_append]
    refine List.all_eq_true.mpr fun x hx => ?_
    rcases List.mem_append.mp hx with hx | hx
    · exact ce_we_mono (by simp) (List.all_eq_true.mp hI.1 x hx)
    · rw [List.mem_singleton.mp hx]; exact ce_we_mono (by simp) he
/-- is a value one of a field of this type, and told as the field keeps it -/
def ce_fit (ty : FieldType) (v : ce_SV) : Bool := match ty, v with
  | .int, .inl _ => true
  | .boolean, .inl (.inl n) => decide (n = 0) || decide (n = 1)
  | .byte, .inl (.inl n) => decide (-128 ≤ n) && decide (n ≤ 127)
  | .byte, .inl (.inr (.old _)) => true
  | .char, .inl (.inl n) => decide (0 ≤ n) && decide (n ≤ 65535)
  | .char, .inl (.inr (.length _)) => true
  | .long, .inr (.inl _) => true
  | .object _, .inr (.inr (.inl (.inl _))) => true
  | .object _, .inr (.inr (.inl (.inr j))) => Nat.blt j 7
  | .object _, .inr (.inr (.inr .null)) => true
  | .array _, .inr (.inr (.inl (.inl _))) => true
  | .array _, .inr (.inr (.inl (.inr j))) => Nat.blt j 7
  | .array _, .inr (.inr (.inr .null)) => true
  | _, _ => false
theorem ce_byte {n : Int} (h0 : -128 ≤ n) (h1 : n ≤ 127) : (Int32.ofInt n).toInt8.toInt32 = Int32.ofInt n := by
  rw [← Int32.toInt_inj, Int8.toInt_toInt32, Int32.toInt8_ofInt, Int8.toInt_ofInt_of_le (by omega) (by omega), Int32.toInt_ofInt_of_le (by omega) (by omega)]
theorem ce_fit_ok {z : ce_U} {s : State} (hz : ce_CK z s) {ad : Nat → Nat} {ty : FieldType} {v : ce_SV} (h : ce_fit ty v = true) : narrow ty (ce_v z ad v) = ce_v z ad v ∧ fits ty (ce_v z ad v) = true := by
  unfold ce_fit at h
  split at h
  · exact ⟨rfl, rfl⟩
  · rename_i n
    simp only [Bool.or_eq_true, decide_eq_true_eq] at h
    rcases h with rfl | rfl
    · exact ⟨(by decide : narrow .boolean (.int (Int32.ofInt 0)) = .int (Int32.ofInt 0)), (by decide : fits .boolean (.int (Int32.ofInt 0)) = true)⟩
    · exact ⟨(by decide : narrow .boolean (.int (Int32.ofInt 1)) = .int (Int32.ofInt 1)), (by decide : fits .boolean (.int (Int32.ofInt 1)) = true)⟩
  · rename_i n
    simp only [Bool.and_eq_true, decide_eq_true_eq] at h
    have hb := ce_byte h.1 h.2
    refine ⟨congrArg Value.int hb, ?_⟩
    show fits .byte (.int (Int32.ofInt n)) = true
    rw [← hb]; exact pk_fb _
  · exact ⟨pk_nb _, pk_fb _⟩
  · rename_i n
    simp only [Bool.and_eq_true, decide_eq_true_eq] at h
    obtain ⟨k, rfl⟩ := Int.eq_ofNat_of_zero_le h.1
    exact pk_charN (q := k) (by omega)
  · exact ⟨pk_nc _, pk_fc _⟩
  · exact ⟨rfl, rfl⟩
  · exact ⟨rfl, rfl⟩
  · rename_i j
    obtain ⟨a, ha⟩ := ce_ext hz j (Nat.lt_of_succ_le (Nat.le_of_ble_eq_true h))
    have e : ce_v z ad (.inr (.inr (.inl (.inr j)))) = .ref a := ha
    rw [e]; exact ⟨rfl, rfl⟩
  · exact ⟨rfl, rfl⟩
  · exact ⟨rfl, rfl⟩
  · rename_i j
    obtain ⟨a, ha⟩ := ce_ext hz j (Nat.lt_of_succ_le (Nat.le_of_ble_eq_true h))
    have e : ce_v z ad (.inr (.inr (.inl (.inr j)))) = .ref a := ha
    rw [e]; exact ⟨rfl, rfl⟩
  · exact ⟨rfl, rfl⟩
  · cases h
abbrev ce_CXK {z : ce_U} {p : Program} {l : Launch} {R : Room} {s : State} {m : MethodId} {args : Array Value} {meth : Method} {c : Code} {own nm : String} {cc : ByteArray} {nL : Nat} {ret : Option FieldType} {ht : Nat} (hC : ce_CX z p l R s m args meth c own nm cc nL ret ht) : ce_CK z s := hC.2.2.2.2.2.2.2.2.2
abbrev ce_sm (ref o n d : String) : Prop := ∀ (s : State) (args : Array Value), (∀ w ∈ ce_GW, w.before args s = true) → ∀ x, s.fieldFound? o n d = some x → s.fieldFound? ref n d = some x
section Heap
variable {own nm : String} {cc : ByteArray} {nL : Nat} {ret : Option FieldType} {ht pc : Nat}
def ce_getf (ci k nx : Nat) : ce_P := fun L G => match L.2 with
  | .inr (.inr (.inl (.inl a))) :: r => match ce_obj G a with
    | some x => match Nat.beq x.1 ci with
      | true => match ce_nth x.2 k with
        | some v => some [(nx, (L.1, v :: r), G)]
        | none => none
      | false => none
    | none => none
  | _ => none
theorem ce_getf_core {ci k N : Nat} {C ref : String} {T : u_T} {i : Nat} (d : decode cc pc = .ok (.getfield i, 3)) (hc : ce_cl[ci]? = some (C, T, N)) (hin : ∀ w ∈ u_ws C T N, w ∈ ce_GW) (hk : k < N) (hsm : ce_sm ref (T k).1 (T k).2.1 (T k).2.2.1)
    (hl9 : Cond.fieldLink own i ref (T k).2.1 (T k).2.2.1 ∈ ce_GW ∨ ∃ host, Cond.fieldLinkNest own i ref (T k).2.1 (T k).2.2.1 host ∈ ce_NG) : ce_OK own nm cc nL ret ht pc (ce_getf ci k (pc + 3)) := by
  intro z p l e R s m args below meth c Q ad0 n0 hC L G S h hS ad ls H locs kc ks h1 h2 hl hI hv k1 k2
  obtain ⟨lo, st⟩ := L
  simp only [ce_getf] at h
  split at h
  · rename_i a r
    split at h
    · rename_i x hx
      split at h
      · rename_i hci
        split at h
        · rename_i v hv9
          cases h
          obtain ⟨y1, y2⟩ := x
          have hci2 := Nat.eq_of_beq_eq_true hci
          dsimp only at hci2 hv9
          subst hci2
          have hat := (ce_obj_at (z := z) (ad := ad) hx).2
          rw [ce_nth_eq] at hv9
          have hfs : (y2.map (ce_v z ad))[k]? = some (ce_v z ad v) := by rw [List.getElem?_map, hv9]; rfl
          rcases hl9 with hl9 | ⟨host, hl9⟩
          · refine va_get hC.1 hC.2.1 hC.2.2.2.2.1 hin hC.2.2.2.1 (ce_CXK hC).1 hI.1 a hat hc k hk (hC.2.2.2.2.1 _ hl9) (hsm s args hC.2.2.2.2.1) hfs d ?_
            exact hS _ (List.mem_singleton.mpr rfl) ad ls H locs kc ks h1 h2 hl hI hv k1 k2
          · refine va_getN hC.1 hC.2.1 hC.2.2.2.2.1 hin hC.2.2.2.1 (ce_CXK hC).1 hI.1 a hat hc k hk (va_Nw.use rfl ((ce_CXK hC).2.2.2.1.1 _ hl9)) (hsm s args hC.2.2.2.2.1) hfs d ?_
            exact hS _ (List.mem_singleton.mpr rfl) ad ls H locs kc ks h1 h2 hl hI hv k1 k2
        · cases h
      · cases h
    · cases h
  · cases h
theorem ok_getf {ci k N : Nat} {C ref : String} {T : u_T} {i : Nat} (d : decode cc pc = .ok (.getfield i, 3)) (hc : ce_cl[ci]? = some (C, T, N)) (hin : ∀ w ∈ u_ws C T N, w ∈ ce_GW) (hk : k < N) (hl9 : Cond.fieldLink own i ref (T k).2.1 (T k).2.2.1 ∈ ce_GW) (hsm : ce_sm ref (T k).1 (T k).2.1 (T k).2.2.1) : ce_OK own nm cc nL ret ht pc (ce_getf ci k (pc + 3)) :=
  ce_getf_core d hc hin hk hsm (Or.inl hl9)
theorem ok_getfN {ci k N : Nat} {C ref host : String} {T : u_T} {i : Nat} (d : decode cc pc = .ok (.getfield i, 3)) (hc : ce_cl[ci]? = some (C, T, N)) (hin : ∀ w ∈ u_ws C T N, w ∈ ce_GW) (hk : k < N) (hl9 : Cond.fieldLinkNest own i ref (T k).2.1 (T k).2.2.1 host ∈ ce_NG) (hsm : ce_sm ref (T k).1 (T k).2.1 (T k).2.2.1) : ce_OK own nm cc nL ret ht pc (ce_getf ci k (pc + 3)) :=
  ce_getf_core d hc hin hk hsm (Or.inr ⟨host, hl9⟩)
/-- a text's bytes (k = 0) and coder (k = 1), of a text that was made or of a constant -/
def ce_gets (k nx : Nat) : ce_P := fun L G => match L.2 with
  | .inr (.inr (.inl (.inr j))) :: r => match k, j with
    | 0, 2 => some [(nx, (L.1, .inr (.inr (.inl (.inr 3))) :: r), G)]
    | 0, 4 => some [(nx, (L.1, .inr (.inr (.inl (.inr 5))) :: r), G)]
    | 1, 2 => some [(nx, (L.1, .inl (.inl 0) :: r), G)]
    | 1, 4 => some [(nx, (L.1, .inl (.inl 0) :: r), G)]
    | _, _ => none
  | _ => ce_getf 0 k nx L G
theorem ok_gets0 {i : Nat} (d : decode cc pc = .ok (.getfield i, 3)) (hl9 : Cond.fieldLink own i "java/lang/String" "value" "[B" ∈ ce_GW) : ce_OK own nm cc nL ret ht pc (ce_gets 0 (pc + 3)) := by
  intro z p l e R s m args below meth c Q ad0 n0 hC L G S h hS
  unfold ce_gets at h
  split at h
  · rename_i j r hst
    obtain ⟨lo, st⟩ := L
    dsimp only at hst
    subst hst
    intro ad ls H locs kc ks h1 h2 hl hI hv k1 k2
    obtain ⟨aK, aV, e2, e3, e4, e5, hE, -, -⟩ := (ce_CXK hC).2.2.2.2.2.2.1
    split at h
    · cases h
      show W _ _ _ _ _ _ _ _ _ _ _ _ _ _ _ (F0 m pc ls (ce_ev z 2 :: r.map (ce_v z ad)))
      rw [e2]
      refine vk_getf hC.1 hC.2.1 (hE.1 0 (by omega)).2.2.1 hv hC.2.2.2.1 (hC.2.2.2.2.1 _ hl9) (fun _ h => h) d ?_
      rw [← e3]
      exact hS _ (List.mem_singleton.mpr rfl) ad ls H locs kc ks h1 h2 hl hI hv k1 k2
    · cases h
      show W _ _ _ _ _ _ _ _ _ _ _ _ _ _ _ (F0 m pc ls (ce_ev z 4 :: r.map (ce_v z ad)))
      rw [e4]
      refine vk_getf hC.1 hC.2.1 (hE.1 1 (by omega)).2.2.1 hv hC.2.2.2.1 (hC.2.2.2.2.1 _ hl9) (fun _ h => h) d ?_
      rw [← e5]
      exact hS _ (List.mem_singleton.mpr rfl) ad ls H locs kc ks h1 h2 hl hI hv k1 k2
    · omega
    · omega
    · cases h
  · exact ok_getf (ci := 0) (k := 0) (N := 4) (T := TJ0) d rfl ce_uJ0 (by omega) hl9 (fun _ _ _ _ h => h) hC L G S h hS
theorem ok_gets1 {i : Nat} (d : decode cc pc = .ok (.getfield i, 3)) (hl9 : Cond.fieldLink own i "java/lang/String" "coder" "B" ∈ ce_GW) : ce_OK own nm cc nL ret ht pc (ce_gets 1 (pc + 3)) := by
  intro z p l e R s m args below meth c Q ad0 n0 hC L G S h hS
  unfold ce_gets at h
  split at h
  · rename_i j r hst
    obtain ⟨lo, st⟩ := L
    dsimp only at hst
    subst hst
    intro ad ls H locs kc ks h1 h2 hl hI hv k1 k2
    obtain ⟨aK, aV, e2, e3, e4, e5, hE, -, -⟩ := (ce_CXK hC).2.2.2.2.2.2.1
    split at h
    · omega
    · omega
    · cases h
      show W _ _ _ _ _ _ _ _ _ _ _ _ _ _ _ (F0 m pc ls (ce_ev z 2 :: r.map (ce_v z ad)))
      rw [e2]
      refine vk_getf hC.1 hC.2.1 (hE.1 0 (by omega)).2.1 hv hC.2.2.2.1 (hC.2.2.2.2.1 _ hl9) (fun _ h => h) d ?_
      exact hS _ (List.mem_singleton.mpr rfl) ad ls H locs kc ks h1 h2 hl hI hv k1 k2
    · cases h
      show W _ _ _ _ _ _ _ _ _ _ _ _ _ _ _ (F0 m pc ls (ce_ev z 4 :: r.map (ce_v z ad)))
      rw [e4]
      refine vk_getf hC.1 hC.2.1 (hE.1 1 (by omega)).2.1 hv hC.2.2.2.1 (hC.2.2.2.2.1 _ hl9) (fun _ h => h) d ?_
      exact hS _ (List.mem_singleton.mpr rfl) ad ls H locs kc ks h1 h2 hl hI hv k1 k2
    · cases h
  · exact ok_getf (ci := 0) (k := 1) (N := 4) (T := TJ0) d rfl ce_uJ0 (by omega) hl9 (fun _ _ _ _ h => h) hC L G S h hS
def ce_putf (ty : FieldType) (ci k nx : Nat) : ce_P := fun L G => match L.2 with
  | v :: .inr (.inr (.inl (.inl a))) :: r => match ce_obj G a with
    | some x => match Nat.beq x.1 ci && (Nat.blt k x.2.length && (ce_fit ty v && ce_wv G.2.1.length v)) with
      | true => some [(nx, (L.1, r), (G.1, G.2.1.set a (.inl (x.1, x.2.set k v)), G.2.2))]
      | false => none
    | none => none
  | _ => none
theorem ce_all_set {l : List ce_SV} {n k : Nat} {v : ce_SV} (h : l.all (ce_wv n) = true) (hv : ce_wv n v = true) : (l.set k v).all (ce_wv n) = true := List.all_eq_true.mpr fun x hx => by
  rcases List.mem_or_eq_of_mem_set hx with hx | hx
  · exact List.all_eq_true.mp h x hx
  · rw [hx]; exact hv
theorem ok_putf {ci k N : Nat} {C ref : String} {T : u_T} {ty0 : Nat → FieldType} {i : Nat} (d : decode cc pc = .ok (.putfield i, 3)) (hc : ce_cl[ci]? = some (C, T, N)) (hin : ∀ w ∈ u_ws C T N, w ∈ ce_GW) (hk : k < N) (hl9 : Cond.fieldLink own i ref (T k).2.1 (T k).2.2.1 ∈ ce_GW) (hsm : ce_sm ref (T k).1 (T k).2.1 (T k).2.2.1)
    (hty : ∀ k, k < N → parseFieldDescriptor (T k).2.2.1 = some (ty0 k)) (hnm : ∀ a, a < N → ∀ b, b < N → a ≠ b → (T a).2.1 ≠ (T b).2.1) (hfin : (T k).2.2.2 = false ∨ ((T k).2.2.2 = true ∧ nm = "<init>" ∧ (T k).1 = own)) : ce_OK own nm cc nL ret ht pc (ce_putf (ty0 k) ci k (pc + 3)) := by
  intro z p l e R s m args below meth c Q ad0 n0 hC L G S h hS ad ls H locs kc ks h1 h2 hl hI hv k1 k2
  obtain ⟨lo, st⟩ := L
  simp only [ce_putf] at h
  split at h
  · rename_i v a r
    split at h
    · rename_i x hx
      split at h
      · rename_i hb
        cases h
        simp only [Bool.and_eq_true] at hb
        obtain ⟨hci, hkl, hft, hwv⟩ := hb
        obtain ⟨y1, y2⟩ := x
        have hci2 := Nat.eq_of_beq_eq_true hci
        have hkl2 : k < (y2.map (ce_v z ad)).length := by rw [List.length_map]; exact Nat.lt_of_succ_le (Nat.le_of_ble_eq_true hkl)
        dsimp only at hci2
        subst hci2
        obtain ⟨hat0, hat⟩ := ce_obj_at (z := z) (ad := ad) hx
        obtain ⟨hn9, hf9⟩ := ce_fit_ok (ce_CXK hC) (ad := ad) hft
        have hkk : ∀ (H1 : Heap) (locs1 : List Loc), va_P (ce_D z) ce_cl ((ce_w z ad 0 G.2.1).set a (ad a, .inr (y1, (y2.map (ce_v z ad)).set k (ce_v z ad v)))) H1 → va_D (ce_A z) ((ce_w z ad 0 G.2.1).set a (ad a, .inr (y1, (y2.map (ce_v z ad)).set k (ce_v z ad v)))) → va_S (ce_A z) s.heap H1 locs1 → W p l e R s m args below meth c H1 locs1 kc ks Q (F0 m (pc + 3) ls (r.map (ce_v z ad))) := by
          intro H1 locs1 hP hD hS1
          have he : ce_e z ad (.inl (y1, y2.set k v)) = .inr (y1, (y2.map (ce_v z ad)).set k (ce_v z ad v)) := by simp only [ce_e, List.map_set]
          rw [← he] at hP hD
          have hwe : ce_we G.2.1.length (.inl (y1, y2)) = true := List.all_eq_true.mp hI.2.2.1 _ (List.mem_of_getElem? hat0)
          exact hS _ (List.mem_singleton.mpr rfl) ad ls H1 locs1 kc ks h1 (by simpa using h2) hl (ce_Inv_set (e := .inl (y1, y2.set k v)) hI.2.2 hat0 (ce_all_set (l := y2) hwe hwv) hP hD) hS1 k1 k2
        rcases hfin with hfin | ⟨hfin, hni, how⟩
        · exact va_put hC.1 hC.2.1 hC.2.2.2.2.1 hin ty0 hty hnm hC.2.2.2.1 (ce_CXK hC).1 hI.1 hI.2.1 hv a hat hc k hk (hC.2.2.2.2.1 _ hl9) (hsm s args hC.2.2.2.2.1) hfin (hty k hk) hn9 hf9 hkl2 d hkk
        · exact va_putF hC.1 hC.2.1 hC.2.2.2.2.1 hin ty0 hty hnm hC.2.2.2.1 (ce_CXK hC).1 hI.1 hI.2.1 hv a hat hc k hk (hC.2.2.2.2.1 _ hl9) (hsm s args hC.2.2.2.2.1) hfin (hC.2.2.2.2.2.1.trans hni) how (hty k hk) hn9 hf9 hkl2 d hkk
      · cases h
    · cases h
  · cases h
/-- the room that is left, and that nothing at hand names a cell that isn't -/
def ce_ok (L : ce_L) (G : ce_G) (n : Nat) : Bool := Nat.ble 1 G.2.2.1 && (Nat.ble n G.2.2.2 && (L.1.all (fun q => ce_wv G.2.1.length q.2) && L.2.all (ce_wv G.2.1.length)))
def ce_ad (ad : Nat → Nat) (n q : Nat) : Nat → Nat := fun i => match Nat.beq i n with
  | true => q
  | false => ad i
theorem ce_ad_lt {ad : Nat → Nat} {n q : Nat} : ∀ i, i < n → ce_ad ad n q i = ad i := fun i h => by
  have : Nat.beq i n = false := by
    cases hb : Nat.beq i n
    · rfl
    · exact absurd (Nat.eq_of_beq_eq_true hb) (Nat.ne_of_lt h)
  simp [ce_ad, this]
theorem ce_ad_eq {ad : Nat → Nat} {n q : Nat} : ce_ad ad n q n = q := by simp [ce_ad]
theorem ce_loc_congr {z : ce_U} {ad ad' : Nat → Nat} {n : Nat} (h : ∀ i, i < n → ad' i = ad i) {l : List (Nat × ce_SV)} (hl : l.all (fun q => ce_wv n q.2) = true) : l.map (fun q => (q.1, ce_v z ad' q.2)) = l.map (fun q => (q.1, ce_v z ad q.2)) :=
  List.map_congr_left fun q hq => by rw [ce_v_congr h (List.all_eq_true.mp hl q hq)]
def ce_new (ci N : Nat) (dv : List ce_SV) (nx : Nat) : ce_P := fun L G => match ce_ok L G N with
  | true => some [(nx, (L.1, .inr (.inr (.inl (.inl G.2.1.length))) :: L.2), (G.1, G.2.1 ++ [.inl (ci, dv)], G.2.2.1 - 1, G.2.2.2 - N))]
  | false => none
theorem ok_new {ci N : Nat} {C : String} {T : u_T} {ty0 : Nat → FieldType} {i : Nat} {dv : List ce_SV} (d : decode cc pc = .ok (.new i, 3)) (hc : ce_cl[ci]? = some (C, T, N)) (hin : ∀ w ∈ u_ws C T N, w ∈ ce_GW) (hty : ∀ k, k < N → parseFieldDescriptor (T k).2.2.1 = some (ty0 k))
    (hk : Cond.classLink own i C ∈ ce_GW) (hi : Cond.instantiable C N ∈ ce_GW) (hn : Cond.initialized C ∈ ce_GW) (hdv : ∀ (z : ce_U) (ad : Nat → Nat) (j : Nat), j < N → defaultValue (ty0 j) = vp_V (dv.map (ce_v z ad)) j) (hwd : dv.all (ce_wv 0) = true) : ce_OK own nm cc nL ret ht pc (ce_new ci N dv (pc + 3)) := by
  intro z p l e R s m args below meth c Q ad0 n0 hC L G S h hS ad ls H locs kc ks h1 h2 hl hI hv k1 k2
  obtain ⟨lo, st⟩ := L
  simp only [ce_new] at h
  split at h
  · rename_i hb
    cases h
    simp only [ce_ok, Bool.and_eq_true] at hb
    obtain ⟨b1, b2, b3, b4⟩ := hb
    have b1 := Nat.le_of_ble_eq_true b1
    have b2 := Nat.le_of_ble_eq_true b2
    have hA : ∀ q, s.heap.size ≤ q → ce_A z q := fun q hq => Nat.le_trans (ce_CXK hC).2.1 hq
    refine va_new hC.1 hC.2.1 hC.2.2.2.2.1 hin ty0 hty hC.2.2.2.1 (hC.2.2.2.2.1 _ hk) (hC.2.2.2.2.1 _ hi) (hC.2.2.2.2.1 _ hn) (ce_CXK hC).1 hI.1 hI.2.1 hv hA hc (hdv z ad) (by omega) (by omega) d (fun q H1 hP hD hS1 => ?_)
    have hwe : ce_we G.2.1.length (.inl (ci, dv)) = true := List.all_eq_true.mpr fun v hv9 => ce_wv_mono (Nat.zero_le _) (List.all_eq_true.mp hwd v hv9)
    have hgo := hS _ (List.mem_singleton.mpr rfl) (ce_ad ad G.2.1.length q) ls H1 locs (kc + 1) (ks + N) (fun k hk9 => (ce_ad_lt k (Nat.lt_of_lt_of_le hk9 h2)).trans (h1 k hk9)) (by simp; omega) (by rw [ce_loc_congr ce_ad_lt b3]; exact hl)
      (ce_Inv_app (e := .inl (ci, dv)) hI.2.2 hwe ce_ad_lt ce_ad_eq hP hD) hS1 (by dsimp only; omega) (by dsimp only; omega)
    rw [List.map_cons, ce_map_congr ce_ad_lt b4] at hgo
    have e9 : ce_v z (ce_ad ad G.2.1.length q) (.inr (.inr (.inl (.inl G.2.1.length)))) = .ref q := congrArg Value.ref ce_ad_eq
    rw [e9] at hgo
    exact hgo
  · cases h
theorem ce_ra {s : State} {a b : ClassId} {ty : FieldType} (h1 : va_RA s a ty) (h2 : va_RA s b ty) : a = b := by
  cases ty with
  | object C =>
    obtain ⟨_, _, _, _, _, e1⟩ := h1
    obtain ⟨_, _, _, _, _, e2⟩ := h2
    exact Option.some.inj (e1.symm.trans e2)
  | _ => exact Option.some.inj (Eq.trans (Eq.symm h1) h2)
/-- an empty array's contents -/
def ce_df (t : Nat) : ce_SV := match decide (t < 4), decide (t = 4), decide (t = 5) with
  | true, _, _ => .inl (.inl 0)
  | _, true, _ => .inr (.inl (.inl 0))
  | _, _, true => .inr (.inr (.inr (.double 0)))
  | _, _, _ => .inr (.inr (.inr .null))
theorem ce_df_wv (t n : Nat) : ce_wv n (ce_df t) = true := by
  unfold ce_df
  split <;> rfl
def ce_newa (t ln nx : Nat) : ce_P := fun L G => match L.2 with
  | .inl (.inl (.ofNat n)) :: r => match ce_ok L G n && Nat.ble n 60000 with
    | true => some [(nx, (L.1, .inr (.inr (.inl (.inl G.2.1.length))) :: r), (G.1, G.2.1 ++ [.inr (t, List.replicate n (ce_df t))], G.2.2.1 - 1, G.2.2.2 - n))]
    | false => none
  | _ => none
theorem ce_rep {z : ce_U} {ad : Nat → Nat} {n j : Nat} {v : ce_SV} {β : Type} {g : Value → β} {x : β} (h : g (ce_v z ad v) = x) (h0 : g (ce_v z ad ce_0) = x) : g (ce_v z ad ((List.replicate n v).getD j ce_0)) = x := by
  rw [List.getD_eq_getElem?_getD, List.getElem?_replicate]
  split
  · exact h
  · exact h0
theorem ce_newa_core {t ln : Nat} {ty : FieldType} (htt : ∀ z : ce_U, (ce_ty z)[t]? = some (ce_cA z t, ty))
    (row : ∀ {z : ce_U} {p : Program} {l : Launch} {e : Env} {R : Room} {s : State} {m : MethodId} {args : Array Value} {below : List Frame} {meth : Method} {c : Code} {Q : State → Prop} {ad : Nat → Nat} {H : Heap} {locs : List Loc} {kc ks n : Nat} {ls : Array Slot} {rest : List Value} {G : ce_G},
      ce_CX z p l R s m args meth c own nm cc nL ret ht → ce_Inv z ad G H → va_S (ce_A z) s.heap H locs → n ≤ 60000 → kc + 1 ≤ R.cells → ks + n ≤ R.slots →
      (∀ (q : Nat) (cA : ClassId) (H1 : Heap), va_K (ce_D z) ce_cl (ce_ty z ++ [(cA, ty)]) s → va_P (ce_D z) ce_cl (ce_w z ad 0 G.2.1 ++ [(q, .inl (cA, (List.replicate n (ce_df t)).length, ce_ar z ad t (List.replicate n (ce_df t))))]) H1 → va_D (ce_A z) (ce_w z ad 0 G.2.1 ++ [(q, .inl (cA, (List.replicate n (ce_df t)).length, ce_ar z ad t (List.replicate n (ce_df t))))]) → va_S (ce_A z) s.heap H1 locs →
        W p l e R s m args below meth c H1 locs (kc + 1) (ks + n) Q (F0 m (pc + ln) ls (.ref q :: rest))) → W p l e R s m args below meth c H locs kc ks Q (F0 m pc ls (.int (nI n) :: rest))) : ce_OK own nm cc nL ret ht pc (ce_newa t ln (pc + ln)) := by
  intro z p l e R s m args below meth c Q ad0 n0 hC L G S h hS ad ls H locs kc ks h1 h2 hl hI hv k1 k2
  obtain ⟨lo, st⟩ := L
  simp only [ce_newa] at h
  split at h
  · rename_i n r
    split at h
    · rename_i hb
      cases h
      simp only [ce_ok, Bool.and_eq_true] at hb
      obtain ⟨⟨b1, b2, b3, b4⟩, b5⟩ := hb
      have b1 := Nat.le_of_ble_eq_true b1
      have b2 := Nat.le_of_ble_eq_true b2
      have b5 := Nat.le_of_ble_eq_true b5
      refine row (G := G) (n := n) hC hI hv b5 (by omega) (by omega) (fun q cA H1 hK hP hD hS1 => ?_)
      have hcA : cA = ce_cA z t := by
        have e1 := (hK.2 (ce_ty z).length (cA, ty) (by simp)).2
        have e2 := ((ce_CXK hC).1.2 t _ (htt z)).2
        exact ce_ra e1 e2
      subst hcA
      have hwe : ce_we G.2.1.length (.inr (t, List.replicate n (ce_df t))) = true := List.all_eq_true.mpr fun v hv9 => by
        rw [(List.mem_replicate.mp hv9).2]; exact ce_df_wv _ _
      rw [List.all_cons, Bool.and_eq_true] at b4
      have hgo := hS _ (List.mem_singleton.mpr rfl) (ce_ad ad G.2.1.length q) ls H1 locs (kc + 1) (ks + n) (fun k hk9 => (ce_ad_lt k (Nat.lt_of_lt_of_le hk9 h2)).trans (h1 k hk9)) (by simp; omega) (by rw [ce_loc_congr ce_ad_lt b3]; exact hl)
        (ce_Inv_app (e := .inr (t, List.replicate n (ce_df t))) hI.2.2 hwe ce_ad_lt ce_ad_eq hP hD) hS1 (by dsimp only; omega) (by dsimp only; omega)
      rw [List.map_cons, ce_map_congr ce_ad_lt b4.2] at hgo
      have e9 : ce_v z (ce_ad ad G.2.1.length q) (.inr (.inr (.inl (.inl G.2.1.length)))) = .ref q := congrArg Value.ref ce_ad_eq
      rw [e9] at hgo
      exact hgo
    · cases h
  · cases h
theorem ok_newa_int (d : decode cc pc = .ok (.newarray .int, 2)) (hk : Cond.arrayClass .int ∈ ce_GW) : ce_OK own nm cc nL ret ht pc (ce_newa 0 2 (pc + 2)) := by
  refine ce_newa_core (ty := .int) (fun z => rfl) ?_
  intro z p l e R s m args below meth c Q ad H locs kc ks n ls rest G hC hI hv hn kc1 ks1 kk
  have hA : ∀ q, s.heap.size ≤ q → ce_A z q := fun q hq => Nat.le_trans (ce_CXK hC).2.1 hq
  have ha0 : ((List.replicate n (ce_df 0)).length, ce_ar z ad 0 (List.replicate n (ce_df 0))) = ((n, .inl (fun _ => 0)) : vp_A) := by
    rw [List.length_replicate]
    refine congrArg (Prod.mk n) ?_
    first | rfl | exact congrArg Sum.inl (funext fun j => ce_rep rfl rfl) | exact congrArg (fun x => Sum.inr (Sum.inl x)) (funext fun j => ce_rep rfl rfl)
  rw [ha0] at kk
  exact va_newa (atype := .int) (a0 := (n, .inl (fun _ => 0))) hC.1 hC.2.1 (hC.2.2.2.2.1 _ hk) rfl (ce_CXK hC).1 hI.1 hI.2.1 hv hA (fun _ => rfl) (nI_pos (by omega)) (nI_clamp (by omega)) (by show n * 4 ≤ 536870912; omega) kc1 ks1 d kk
theorem ok_newa_char (d : decode cc pc = .ok (.newarray .char, 2)) (hk : Cond.arrayClass .char ∈ ce_GW) : ce_OK own nm cc nL ret ht pc (ce_newa 1 2 (pc + 2)) := by
  refine ce_newa_core (ty := .char) (fun z => rfl) ?_
  intro z p l e R s m args below meth c Q ad H locs kc ks n ls rest G hC hI hv hn kc1 ks1 kk
  have hA : ∀ q, s.heap.size ≤ q → ce_A z q := fun q hq => Nat.le_trans (ce_CXK hC).2.1 hq
  have ha0 : ((List.replicate n (ce_df 1)).length, ce_ar z ad 1 (List.replicate n (ce_df 1))) = ((n, .inl (fun _ => 0)) : vp_A) := by
    rw [List.length_replicate]
    refine congrArg (Prod.mk n) ?_
    first | rfl | exact congrArg Sum.inl (funext fun j => ce_rep rfl rfl) | exact congrArg (fun x => Sum.inr (Sum.inl x)) (funext fun j => ce_rep rfl rfl)
  rw [ha0] at kk
  exact va_newa (atype := .char) (a0 := (n, .inl (fun _ => 0))) hC.1 hC.2.1 (hC.2.2.2.2.1 _ hk) rfl (ce_CXK hC).1 hI.1 hI.2.1 hv hA (fun _ => rfl) (nI_pos (by omega)) (nI_clamp (by omega)) (by show n * 2 ≤ 536870912; omega) kc1 ks1 d kk
theorem ok_newa_byte (d : decode cc pc = .ok (.newarray .byte, 2)) (hk : Cond.arrayClass .byte ∈ ce_GW) : ce_OK own nm cc nL ret ht pc (ce_newa 2 2 (pc + 2)) := by
  refine ce_newa_core (ty := .byte) (fun z => rfl) ?_
  intro z p l e R s m args below meth c Q ad H locs kc ks n ls rest G hC hI hv hn kc1 ks1 kk
  have hA : ∀ q, s.heap.size ≤ q → ce_A z q := fun q hq => Nat.le_trans (ce_CXK hC).2.1 hq
  have ha0 : ((List.replicate n (ce_df 2)).length, ce_ar z ad 2 (List.replicate n (ce_df 2))) = ((n, .inl (fun _ => 0)) : vp_A) := by
    rw [List.length_replicate]
    refine congrArg (Prod.mk n) ?_
    first | rfl | exact congrArg Sum.inl (funext fun j => ce_rep rfl rfl) | exact congrArg (fun x => Sum.inr (Sum.inl x)) (funext fun j => ce_rep rfl rfl)
  rw [ha0] at kk
  exact va_newa (atype := .byte) (a0 := (n, .inl (fun _ => 0))) hC.1 hC.2.1 (hC.2.2.2.2.1 _ hk) rfl (ce_CXK hC).1 hI.1 hI.2.1 hv hA (fun _ => rfl) (nI_pos (by omega)) (nI_clamp (by omega)) (by show n * 1 ≤ 536870912; omega) kc1 ks1 d kk
theorem ok_newa_long (d : decode cc pc = .ok (.newarray .long, 2)) (hk : Cond.arrayClass .long ∈ ce_GW) : ce_OK own nm cc nL ret ht pc (ce_newa 4 2 (pc + 2)) := by
  refine ce_newa_core (ty := .long) (fun z => rfl) ?_
  intro z p l e R s m args below meth c Q ad H locs kc ks n ls rest G hC hI hv hn kc1 ks1 kk
  have hA : ∀ q, s.heap.size ≤ q → ce_A z q := fun q hq => Nat.le_trans (ce_CXK hC).2.1 hq
  have ha0 : ((List.replicate n (ce_df 4)).length, ce_ar z ad 4 (List.replicate n (ce_df 4))) = ((n, .inr (.inl (fun _ => 0))) : vp_A) := by
    rw [List.length_replicate]
    refine congrArg (Prod.mk n) ?_
    first | rfl | exact congrArg Sum.inl (funext fun j => ce_rep rfl rfl) | exact congrArg (fun x => Sum.inr (Sum.inl x)) (funext fun j => ce_rep rfl rfl)
  rw [ha0] at kk
  exact va_newa (atype := .long) (a0 := (n, .inr (.inl (fun _ => 0)))) hC.1 hC.2.1 (hC.2.2.2.2.1 _ hk) rfl (ce_CXK hC).1 hI.1 hI.2.1 hv hA (fun _ => rfl) (nI_pos (by omega)) (nI_clamp (by omega)) (by show n * 8 ≤ 536870912; omega) kc1 ks1 d kk
theorem ok_newa_double (d : decode cc pc = .ok (.newarray .double, 2)) (hk : Cond.arrayClass .double ∈ ce_GW) : ce_OK own nm cc nL ret ht pc (ce_newa 5 2 (pc + 2)) := by
  refine ce_newa_core (ty := .double) (fun z => rfl) ?_
  intro z p l e R s m args below meth c Q ad H locs kc ks n ls rest G hC hI hv hn kc1 ks1 kk
  have hA : ∀ q, s.heap.size ≤ q → ce_A z q := fun q hq => Nat.le_trans (ce_CXK hC).2.1 hq
  have ha0 : ((List.replicate n (ce_df 5)).length, ce_ar z ad 5 (List.replicate n (ce_df 5))) = ((n, .inr (.inr (.inr (.inl (fun _ => 0))))) : vp_A) := by
    rw [List.length_replicate]
    refine congrArg (Prod.mk n) ?_
    first | rfl | exact congrArg Sum.inl (funext fun j => ce_rep rfl rfl) | exact congrArg (fun x => Sum.inr (Sum.inl x)) (funext fun j => ce_rep rfl rfl)
  rw [ha0] at kk
  exact va_newa (atype := .double) (a0 := (n, .inr (.inr (.inr (.inl (fun _ => 0)))))) hC.1 hC.2.1 (hC.2.2.2.2.1 _ hk) rfl (ce_CXK hC).1 hI.1 hI.2.1 hv hA (fun _ => rfl) (nI_pos (by omega)) (nI_clamp (by omega)) (by show n * 8 ≤ 536870912; omega) kc1 ks1 d kk
theorem ok_newq {C : String} {t i : Nat} (d : decode cc pc = .ok (.anewarray i, 3)) (hk : Cond.classLink own i C ∈ ce_GW) (hC9 : C ∈ ce_AOs) (htt : ∀ z : ce_U, (ce_ty z)[t]? = some (ce_cA z t, .object C)) (h6 : ∀ (z : ce_U) (ad : Nat → Nat) (n : Nat), ce_ar z ad t (List.replicate n (ce_df t)) = .inr (.inr (.inr (.inr (fun _ => none))))) : ce_OK own nm cc nL ret ht pc (ce_newa t 3 (pc + 3)) := by
  refine ce_newa_core (ty := .object C) htt ?_
  intro z p l e R s m args below meth c Q ad H locs kc ks n ls rest G hC hI hv hn kc1 ks1 kk
  have hA : ∀ q, s.heap.size ≤ q → ce_A z q := fun q hq => Nat.le_trans (ce_CXK hC).2.1 hq
  have ha0 : ((List.replicate n (ce_df t)).length, ce_ar z ad t (List.replicate n (ce_df t))) = ((n, .inr (.inr (.inr (.inr (fun _ => none))))) : vp_A) := by
    rw [List.length_replicate, h6]
  rw [ha0] at kk
  exact va_newq hC.1 hC.2.1 hC.2.2.2.1 (hC.2.2.2.2.1 _ hk) ((ce_CXK hC).2.2.2.1.2.2.1 _ hC9) (ce_CXK hC).1 hI.1 hI.2.1 hv hA (nI_pos (by omega)) (nI_clamp (by omega)) (by omega) kc1 ks1 d kk
theorem ce_refs {t : Nat} (h4 : ¬ t < 4) (h5 : t ≠ 4) (h6 : t ≠ 5) (z : ce_U) (ad : Nat → Nat) (n : Nat) : ce_ar z ad t (List.replicate n (ce_df t)) = .inr (.inr (.inr (.inr (fun _ => none)))) := by
  have hd : ce_df t = .inr (.inr (.inr .null)) := by simp [ce_df, h4, h5, h6]
  rw [hd]
  unfold ce_ar
  rw [if_neg h4, if_neg h5, if_neg h6]
  exact congrArg (fun x => Sum.inr (Sum.inr (Sum.inr (Sum.inr x)))) (funext fun j => ce_rep rfl rfl)
end Heap
end
section
/-! arrays, the old things, switches -/
/-- the newest lower bound of a number that the script tells -/
def ce_low : ce_F → Term → Option Int
  | [], _ => none
  | f :: r, t => match decide (f.1 = t) && Nat.beq f.2.1 0 with
    | true => some f.2.2
    | false => ce_low r t
theorem ce_low_ok {z : ce_U} {t : Term} {n : Int} : ∀ {F : ce_F}, ce_low F t = some n → ce_sat z F → n ≤ (ce_I z t).toInt
  | f :: r, h, hF => by
    unfold ce_low at h
    split at h
    · rename_i hb
      simp only [Bool.and_eq_true, decide_eq_true_eq, Nat.beq_eq] at hb
      cases h
      have := hF f List.mem_cons_self
      rw [ce_fa, if_pos hb.2, hb.1] at this
      exact this
    · exact ce_low_ok h (fun g hg => hF g (List.mem_cons_of_mem _ hg))
/-- a number that is known, or where it may be parted -/
def ce_ix (F : ce_F) (i : ce_SI) : Option (Nat ⊕ (Term × Int)) := match i with
  | .inl (.ofNat k) => some (.inl k)
  | .inl _ => none
  | .inr t => match ce_low F t with
    | none => none
    | some lo => match ce_le F t lo with
      | true => match lo with
        | .ofNat k => some (.inl k)
        | _ => none
      | false => some (.inr (t, lo))
theorem ce_of_toInt {x : Int32} {k : Nat} (h : x.toInt = (k : Int)) : x = nI k := by
  rw [← Int32.ofInt_toInt x, h]; rfl
theorem ce_ix_ok {z : ce_U} {F : ce_F} {i : ce_SI} {k : Nat} (h : ce_ix F i = some (.inl k)) (hF : ce_sat z F) : ce_vi z i = nI k := by
  match i, h with
  | .inl (.ofNat n), h => simp only [ce_ix, Option.some.injEq, Sum.inl.injEq] at h; subst h; rfl
  | .inl (.negSucc n), h => simp [ce_ix] at h
  | .inr t, h =>
    simp only [ce_ix] at h
    split at h
    · cases h
    · rename_i lo hlo
      split at h
      · rename_i hle
        split at h
        · simp only [Option.some.injEq, Sum.inl.injEq] at h
          subst h
          have a1 := ce_low_ok hlo hF
          have a2 := ce_le_ok hF hle
          exact ce_of_toInt (show (ce_I z t).toInt = _ by simp only [Int.ofNat_eq_natCast] at a1 a2; omega)
        · cases h
      · cases h
/-- the same step again, a number being at its bound, or above it -/
def ce_sp (pc : Nat) (t : Term) (lo : Int) (L : ce_L) (G : ce_G) : List (Nat × ce_L × ce_G) := [(pc, L, ((t, 1, lo) :: G.1, G.2)), (pc, L, ((t, 0, lo + 1) :: G.1, G.2))]
section Arr
variable {own nm : String} {cc : ByteArray} {nL : Nat} {ret : Option FieldType} {ht pc : Nat}
theorem ce_sp_ok {z : ce_U} {p : Program} {l : Launch} {e : Env} {R : Room} {s : State} {m : MethodId} {args : Array Value} {below : List Frame} {meth : Method} {c : Code} {Q : State → Prop} {ad0 : Nat → Nat} {n0 : Nat} {t : Term} {lo : Int} {L : ce_L} {G : ce_G} (hS : ∀ x ∈ ce_sp pc t lo L G, ce_WS z p l e R s m args below meth c Q nL ad0 n0 x.1 x.2.1 x.2.2) : ce_WS z p l e R s m args below meth c Q nL ad0 n0 pc L G := by
  intro ad ls H locs kc ks h1 h2 hl hI hv k1 k2
  by_cases hc : (ce_I z t).toInt ≤ lo
  · exact hS _ List.mem_cons_self ad ls H locs kc ks h1 h2 hl ⟨hI.1, hI.2.1, hI.2.2.1, ce_sat_cons (ce_fa1 hc) hI.2.2.2⟩ hv k1 k2
  · exact hS _ (List.mem_cons_of_mem _ List.mem_cons_self) ad ls H locs kc ks h1 h2 hl ⟨hI.1, hI.2.1, hI.2.2.1, ce_sat_cons (ce_fa0 (by omega)) hI.2.2.2⟩ hv k1 k2
theorem ce_nth_lt {α : Type} {l : List α} {k : Nat} {v : α} (h : ce_nth l k = some v) : k < l.length := by
  rw [ce_nth_eq] at h
  exact (List.getElem?_eq_some_iff.mp h).1
theorem ce_nth_D {l : List ce_SV} {k : Nat} {v : ce_SV} (h : ce_nth l k = some v) : l.getD k ce_0 = v := by
  rw [ce_nth_eq] at h
  rw [List.getD_eq_getElem?_getD, h]; rfl
/-- loads: of the script, of arrays of numbers, of references, of bytes of a constant text -/
def ce_iald (nx pc : Nat) : ce_P := fun L G => match L.2 with
  | .inl i :: .inr (.inr (.inl (.inl a))) :: r => match ce_ix G.1 i with
    | some (.inl k) => match ce_arr G a with
      | some x => match Nat.beq x.1 0 && Nat.blt x.2.length 60000 with
        | true => match ce_nth x.2 k with
          | some (.inl v) => some [(nx, (L.1, .inl v :: r), G)]
          | _ => none
        | false => none
      | none => none
    | some (.inr (t, lo)) => some (ce_sp pc t lo L G)
    | none => none
  | .inl (.inl (.ofNat k)) :: .inr (.inr (.inl (.inr 0))) :: r => match Nat.blt k 372 with
    | true => some [(nx, (L.1, .inl (.inl (rf_s k)) :: r), G)]
    | false => none
  | _ => none
theorem ok_iald (d : decode cc pc = .ok (.iaload, 1)) : ce_OK own nm cc nL ret ht pc (ce_iald (pc + 1) pc) := by
  intro z p l e R s m args below meth c Q ad0 n0 hC L G S h hS
  obtain ⟨lo, st⟩ := L
  simp only [ce_iald] at h
  split at h
  · rename_i i a r
    split at h
    · rename_i k hk
      split at h
      · rename_i x hx
        split at h
        · rename_i hb
          split at h
          · rename_i v hv9
            cases h
            intro ad ls H locs kc ks h1 h2 hl hI hv k1 k2
            simp only [Bool.and_eq_true, Nat.beq_eq] at hb
            obtain ⟨y1, y2⟩ := x
            obtain ⟨hb1, hb2⟩ := hb
            dsimp only at hb1 hb2 hv9
            subst hb1
            have hat := (ce_arr_at (z := z) (ad := ad) hx).2
            dsimp only at hat
            have hi := ce_ix_ok hk hI.2.2.2
            have hlt := ce_nth_lt hv9
            have hlen : y2.length < 60000 := Nat.lt_of_succ_le (Nat.le_of_ble_eq_true hb2)
            show W _ _ _ _ _ _ _ _ _ _ _ _ _ _ _ (F0 m pc ls (.int (ce_vi z i) :: .ref (ad a) :: r.map (ce_v z ad)))
            rw [hi]
            refine va_iald (f := fun j => ce_iv (ce_v z ad (y2.getD j ce_0))) hC.1 hC.2.1 (ce_CXK hC).1 hI.1 a 0 hat rfl (vp_in_nI hlt (by omega)) d ?_
            rw [nI_clamp (by omega), ce_nth_D hv9]
            exact hS _ (List.mem_singleton.mpr rfl) ad ls H locs kc ks h1 h2 hl hI hv k1 k2
          · cases h
        · cases h
      · cases h
    · cases h
      exact ce_sp_ok hS
    · cases h
  · rename_i k r
    split at h
    · rename_i hg
      cases h
      intro ad ls H locs kc ks h1 h2 hl hI hv k1 k2
      obtain ⟨b, e0, e1, e2, e3, e4, e5⟩ := (ce_CXK hC).2.2.2.2.1
      have hg2 : k < 372 := Nat.lt_of_succ_le (Nat.le_of_ble_eq_true hg)
      have hk : k < ce_len z := by omega
      show W _ _ _ _ _ _ _ _ _ _ _ _ _ _ _ (F0 m pc ls (.int (nI k) :: ce_ev z 0 :: r.map (ce_v z ad)))
      rw [e0]
      refine va_sld hC.1 hC.2.1 e3 e2 (Nat.not_le.mpr e1) hv (vp_in_nI hk (by omega)) d ?_
      rw [nI_clamp (by omega), e5 k hg2]
      exact hS _ (List.mem_singleton.mpr rfl) ad ls H locs kc ks h1 h2 hl hI hv k1 k2
    · cases h
  · cases h
def ce_lald (nx : Nat) : ce_P := fun L G => match L.2 with
  | .inl (.inl (.ofNat k)) :: .inr (.inr (.inl (.inl a))) :: r => match ce_arr G a with
    | some x => match Nat.beq x.1 4 && Nat.blt x.2.length 60000 with
      | true => match ce_nth x.2 k with
        | some (.inr (.inl v)) => some [(nx, (L.1, .inr (.inl v) :: r), G)]
        | _ => none
      | false => none
    | none => none
  | _ => none
theorem ok_lald (d : decode cc pc = .ok (.laload, 1)) : ce_OK own nm cc nL ret ht pc (ce_lald (pc + 1)) := by
  intro z p l e R s m args below meth c Q ad0 n0 hC L G S h hS ad ls H locs kc ks h1 h2 hl hI hv k1 k2
  obtain ⟨lo, st⟩ := L
  simp only [ce_lald] at h
  split at h
  · rename_i k a r
    split at h
    · rename_i x hx
      split at h
      · rename_i hb
        split at h
        · rename_i v hv9
          cases h
          simp only [Bool.and_eq_true, Nat.beq_eq] at hb
          obtain ⟨y1, y2⟩ := x
          obtain ⟨hb1, hb2⟩ := hb
          dsimp only at hb1 hb2 hv9
          subst hb1
          have hat := (ce_arr_at (z := z) (ad := ad) hx).2
          dsimp only at hat
          have hlt := ce_nth_lt hv9
          have hlen : y2.length < 60000 := Nat.lt_of_succ_le (Nat.le_of_ble_eq_true hb2)
          show W _ _ _ _ _ _ _ _ _ _ _ _ _ _ _ (F0 m pc ls (.int (nI k) :: .ref (ad a) :: r.map (ce_v z ad)))
          refine va_lald (f := fun j => ce_lv (ce_v z ad (y2.getD j ce_0))) hC.1 hC.2.1 (ce_CXK hC).1 hI.1 a 4 hat rfl (vp_in_nI hlt (by omega)) d ?_
          rw [nI_clamp (by omega), ce_nth_D hv9]
          exact hS _ (List.mem_singleton.mpr rfl) ad ls H locs kc ks h1 h2 hl hI hv k1 k2
        · cases h
      · cases h
    · cases h
  · cases h
/-- is it a reference that was made, or null -/
def ce_isR : ce_SV → Bool
  | .inr (.inr (.inl (.inl _))) => true
  | .inr (.inr (.inr .null)) => true
  | _ => false
theorem ce_isR_ok {z : ce_U} {ad : Nat → Nat} {v : ce_SV} (h : ce_isR v = true) : va_rf (ce_rv (ce_v z ad v)) = ce_v z ad v := by
  unfold ce_isR at h
  split at h
  · rfl
  · rfl
  · cases h
def ce_aald (nx : Nat) : ce_P := fun L G => match L.2 with
  | .inl (.inl (.ofNat k)) :: .inr (.inr (.inl (.inl a))) :: r => match ce_arr G a with
    | some x => match Nat.blt 5 x.1 && (Nat.blt x.1 12 && Nat.blt x.2.length 60000) with
      | true => match ce_nth x.2 k with
        | some v => match ce_isR v with
          | true => some [(nx, (L.1, v :: r), G)]
          | false => none
        | none => none
      | false => none
    | none => none
  | _ => none
theorem ce_ty_ref {t : Nat} (h1 : 5 < t) (h2 : t < 12) (z : ce_U) : ∃ C, (ce_ty z)[t]? = some (ce_cA z t, .object C) := by
  rcases (by omega : t = 6 ∨ t = 7 ∨ t = 8 ∨ t = 9 ∨ t = 10 ∨ t = 11) with rfl | rfl | rfl | rfl | rfl | rfl <;> exact ⟨_, rfl⟩
theorem ce_ar_ref {t : Nat} (h1 : 5 < t) {z : ce_U} {ad : Nat → Nat} {es : List ce_SV} : ce_ar z ad t es = .inr (.inr (.inr (.inr (fun j => ce_rv (ce_v z ad (es.getD j ce_0)))))) := by
  unfold ce_ar
  rw [if_neg (by omega), if_neg (by omega), if_neg (by omega)]
theorem ok_aald (d : decode cc pc = .ok (.aaload, 1)) : ce_OK own nm cc nL ret ht pc (ce_aald (pc + 1)) := by
  intro z p l e R s m args below meth c Q ad0 n0 hC L G S h hS ad ls H locs kc ks h1 h2 hl hI hv k1 k2
  obtain ⟨lo, st⟩ := L
  simp only [ce_aald] at h
  split at h
  · rename_i k a r
    split at h
    · rename_i x hx
      split at h
      · rename_i hb
        split at h
        · rename_i v hv9
          split at h
          · rename_i hr
            cases h
            simp only [Bool.and_eq_true] at hb
            obtain ⟨y1, y2⟩ := x
            obtain ⟨hb1, hb2, hb3⟩ := hb
            have hb1 : 5 < y1 := Nat.lt_of_succ_le (Nat.le_of_ble_eq_true hb1)
            have hb2 : y1 < 12 := Nat.lt_of_succ_le (Nat.le_of_ble_eq_true hb2)
            have hlen : y2.length < 60000 := Nat.lt_of_succ_le (Nat.le_of_ble_eq_true hb3)
            dsimp only at hv9
            have hat := (ce_arr_at (z := z) (ad := ad) hx).2
            have hlt := ce_nth_lt hv9
            obtain ⟨C9, hty⟩ := ce_ty_ref hb1 hb2 z
            dsimp only at hat
            rw [ce_ar_ref hb1] at hat
            show W _ _ _ _ _ _ _ _ _ _ _ _ _ _ _ (F0 m pc ls (.int (nI k) :: .ref (ad a) :: r.map (ce_v z ad)))
            refine va_aldq hC.1 hC.2.1 (ce_CXK hC).1 hI.1 a y1 hat hty (vp_in_nI hlt (by omega)) d ?_
            rw [nI_clamp (by omega), ce_nth_D hv9, ce_isR_ok hr]
            exact hS _ (List.mem_singleton.mpr rfl) ad ls H locs kc ks h1 h2 hl hI hv k1 k2
          · cases h
        · cases h
      · cases h
    · cases h
  · cases h
def ce_ewns : List Int := [101, 119, 110, 115]
def ce_bald (nx : Nat) : ce_P := fun L G => match L.2 with
  | .inl (.inl (.ofNat k)) :: .inr (.inr (.inl (.inl a))) :: r => match ce_arr G a with
    | some x => match Nat.beq x.1 2 && Nat.blt x.2.length 60000 with
      | true => match ce_nth x.2 k with
        | some (.inl v) => some [(nx, (L.1, .inl v :: r), G)]
        | _ => none
      | false => none
    | none => none
  | .inl (.inl (.ofNat k)) :: .inr (.inr (.inl (.inr 5))) :: r => match ce_nth ce_ewns k with
    | some v => some [(nx, (L.1, .inl (.inl v) :: r), G)]
    | none => none
  | _ => none
theorem ok_bald (d : decode cc pc = .ok (.baload, 1)) : ce_OK own nm cc nL ret ht pc (ce_bald (pc + 1)) := by
  intro z p l e R s m args below meth c Q ad0 n0 hC L G S h hS ad ls H locs kc ks h1 h2 hl hI hv k1 k2
  obtain ⟨lo, st⟩ := L
  simp only [ce_bald] at h
  split at h
  · rename_i k a r
    split at h
    · rename_i x hx
      split at h
      · rename_i hb
        split at h
        · rename_i v hv9
          cases h
          simp only [Bool.and_eq_true, Nat.beq_eq] at hb
          obtain ⟨y1, y2⟩ := x
          obtain ⟨hb1, hb2⟩ := hb
          dsimp only at hb1 hb2 hv9
          subst hb1
          have hat := (ce_arr_at (z := z) (ad := ad) hx).2
          dsimp only at hat
          have hlt := ce_nth_lt hv9
          have hlen : y2.length < 60000 := Nat.lt_of_succ_le (Nat.le_of_ble_eq_true hb2)
          show W _ _ _ _ _ _ _ _ _ _ _ _ _ _ _ (F0 m pc ls (.int (nI k) :: .ref (ad a) :: r.map (ce_v z ad)))
          refine va_bald (f := fun j => ce_iv (ce_v z ad (y2.getD j ce_0))) hC.1 hC.2.1 (ce_CXK hC).1 hI.1 a 2 hat rfl (vp_in_nI hlt (by omega)) d ?_
          rw [nI_clamp (by omega), ce_nth_D hv9]
          exact hS _ (List.mem_singleton.mpr rfl) ad ls H locs kc ks h1 h2 hl hI hv k1 k2
        · cases h
      · cases h
    · cases h
  · rename_i k r
    split at h
    · rename_i v hv9
      cases h
      obtain ⟨aK, aV, e2, e3, e4, e5, hE, -, -⟩ := (ce_CXK hC).2.2.2.2.2.2.1
      have hlt : k < 4 := ce_nth_lt hv9
      show W _ _ _ _ _ _ _ _ _ _ _ _ _ _ _ (F0 m pc ls (.int (nI k) :: ce_ev z 5 :: r.map (ce_v z ad)))
      rw [e5]
      refine va_tb hC.1 hC.2.1 (hE.1 1 (by omega)).2.2.2 hv (vp_in_nI hlt (by decide)) (v := ce_v z ad (.inl (.inl v))) ?_ d ?_
      · rw [nI_clamp (by omega)]
        rcases (by omega : k = 0 ∨ k = 1 ∨ k = 2 ∨ k = 3) with rfl | rfl | rfl | rfl <;> (simp only [ce_ewns, ce_nth, Option.some.injEq] at hv9; subst hv9; rfl)
      · exact hS _ (List.mem_singleton.mpr rfl) ad ls H locs kc ks h1 h2 hl hI hv k1 k2
    · cases h
  · cases h
def ce_alen (nx : Nat) : ce_P := fun L G => match L.2 with
  | .inr (.inr (.inl (.inl a))) :: r => match ce_arr G a with
    | some x => match Nat.blt x.1 12 with
      | true => some [(nx, (L.1, .inl (.inl (.ofNat x.2.length)) :: r), G)]
      | false => none
    | none => none
  | .inr (.inr (.inl (.inr 0))) :: r => some [(nx, (L.1, .inl (.inl 372) :: r), G)]
  | .inr (.inr (.inl (.inr 1))) :: r => some [(nx, (L.1, .inl (.inl 0) :: r), G)]
  | .inr (.inr (.inl (.inr 3))) :: r => some [(nx, (L.1, .inl (.inl 0) :: r), G)]
  | .inr (.inr (.inl (.inr 5))) :: r => some [(nx, (L.1, .inl (.inl 4) :: r), G)]
  | _ => none
theorem ce_ty_any {t : Nat} (h2 : t < 12) (z : ce_U) : ∃ ty, (ce_ty z)[t]? = some (ce_cA z t, ty) := by
  rcases (by omega : t = 0 ∨ t = 1 ∨ t = 2 ∨ t = 3 ∨ t = 4 ∨ t = 5 ∨ t = 6 ∨ t = 7 ∨ t = 8 ∨ t = 9 ∨ t = 10 ∨ t = 11) with rfl | rfl | rfl | rfl | rfl | rfl | rfl | rfl | rfl | rfl | rfl | rfl <;> exact ⟨_, rfl⟩
theorem ok_alen (d : decode cc pc = .ok (.arraylength, 1)) : ce_OK own nm cc nL ret ht pc (ce_alen (pc + 1)) := by
  intro z p l e R s m args below meth c Q ad0 n0 hC L G S h hS ad ls H locs kc ks h1 h2 hl hI hv k1 k2
  obtain ⟨lo, st⟩ := L
  simp only [ce_alen] at h
  split at h
  · rename_i a r
    split at h
    · rename_i x hx
      split at h
      · rename_i hb
        cases h
        obtain ⟨ty, hty⟩ := ce_ty_any (Nat.lt_of_succ_le (Nat.le_of_ble_eq_true hb)) z
        have hat := (ce_arr_at (z := z) (ad := ad) hx).2
        refine va_alen hC.1 hC.2.1 (ce_CXK hC).1 hI.1 a x.1 hat hty (v := ce_vi z (.inl (.ofNat x.2.length))) rfl d ?_
        exact hS _ (List.mem_singleton.mpr rfl) ad ls H locs kc ks h1 h2 hl hI hv k1 k2
      · cases h
    · cases h
  · rename_i r
    cases h
    obtain ⟨b, e0, e1, e2, e3, e4, e5⟩ := (ce_CXK hC).2.2.2.2.1
    show W _ _ _ _ _ _ _ _ _ _ _ _ _ _ _ (F0 m pc ls (ce_ev z 0 :: r.map (ce_v z ad)))
    rw [e0]
    refine va_slen hC.1 hC.2.1 e3 e2 (Nat.not_le.mpr e1) hv d ?_
    rw [e4]
    exact hS _ (List.mem_singleton.mpr rfl) ad ls H locs kc ks h1 h2 hl hI hv k1 k2
  · rename_i r
    cases h
    obtain ⟨t, e0, e1, -⟩ := (ce_CXK hC).2.2.2.2.2.1
    show W _ _ _ _ _ _ _ _ _ _ _ _ _ _ _ (F0 m pc ls (ce_ev z 1 :: r.map (ce_v z ad)))
    rw [e0]
    refine va_tlen hC.1 hC.2.1 e1 hv (v := ce_vi z (.inl 0)) rfl d ?_
    exact hS _ (List.mem_singleton.mpr rfl) ad ls H locs kc ks h1 h2 hl hI hv k1 k2
  · rename_i r
    cases h
    obtain ⟨aK, aV, e2, e3, e4, e5, hE, -, -⟩ := (ce_CXK hC).2.2.2.2.2.2.1
    show W _ _ _ _ _ _ _ _ _ _ _ _ _ _ _ (F0 m pc ls (ce_ev z 3 :: r.map (ce_v z ad)))
    rw [e3]
    refine va_tlen hC.1 hC.2.1 (hE.1 0 (by omega)).2.2.2 hv (v := ce_vi z (.inl 0)) rfl d ?_
    exact hS _ (List.mem_singleton.mpr rfl) ad ls H locs kc ks h1 h2 hl hI hv k1 k2
  · rename_i r
    cases h
    obtain ⟨aK, aV, e2, e3, e4, e5, hE, -, -⟩ := (ce_CXK hC).2.2.2.2.2.2.1
    show W _ _ _ _ _ _ _ _ _ _ _ _ _ _ _ (F0 m pc ls (ce_ev z 5 :: r.map (ce_v z ad)))
    rw [e5]
    refine va_tlen hC.1 hC.2.1 (hE.1 1 (by omega)).2.2.2 hv (v := ce_vi z (.inl 4)) rfl d ?_
    exact hS _ (List.mem_singleton.mpr rfl) ad ls H locs kc ks h1 h2 hl hI hv k1 k2
  · cases h
/-- stores -/
theorem ce_set_fun {β : Type} {g : Value → β} {z : ce_U} {ad : Nat → Nat} {es : List ce_SV} {k : Nat} {v : ce_SV} (hk : k < es.length) : (fun j => if j = k then g (ce_v z ad v) else g (ce_v z ad (es.getD j ce_0))) = fun j => g (ce_v z ad ((es.set k v).getD j ce_0)) := by
  funext j
  by_cases hj : j = k
  · subst hj
    rw [if_pos rfl, List.getD_eq_getElem?_getD, List.getElem?_set_self hk]; rfl
  · rw [if_neg hj, List.getD_eq_getElem?_getD, List.getD_eq_getElem?_getD, List.getElem?_set_ne (Ne.symm hj)]
/-- what may stand in an array of this kind -/
def ce_fa2s (t : Nat) (v : ce_SI) : Bool := match t with
  | 0 => true
  | 1 => ce_fit .char (.inl v)
  | 2 => ce_fit .byte (.inl v)
  | _ => false
def ce_iast (t nx pc : Nat) : ce_P := fun L G => match L.2 with
  | .inl v :: .inl i :: .inr (.inr (.inl (.inl a))) :: r => match ce_ix G.1 i with
    | some (.inl k) => match ce_arr G a with
      | some x => match Nat.beq x.1 t && (Nat.blt x.2.length 60000 && (Nat.blt k x.2.length && ce_fa2s t v)) with
        | true => some [(nx, (L.1, r), (G.1, G.2.1.set a (.inr (x.1, x.2.set k (.inl v))), G.2.2))]
        | false => none
      | none => none
    | some (.inr (t9, lo)) => some (ce_sp pc t9 lo L G)
    | none => none
  | _ => none
theorem ok_iastore (d : decode cc pc = .ok (.iastore, 1)) : ce_OK own nm cc nL ret ht pc (ce_iast 0 (pc + 1) pc) := by
  intro z p l e R s m args below meth c Q ad0 n0 hC L G S h hS
  obtain ⟨lo, st⟩ := L
  simp only [ce_iast] at h
  split at h
  · rename_i v i a r
    split at h
    · rename_i k hk
      split at h
      · rename_i x hx
        split at h
        · rename_i hb
          cases h
          intro ad ls H locs kc ks h1 h2 hl hI hv k1 k2
          simp only [Bool.and_eq_true, Nat.beq_eq] at hb
          obtain ⟨y1, y2⟩ := x
          obtain ⟨hb1, hb2, hb3, hb4⟩ := hb
          dsimp only at hb1
          subst hb1
          obtain ⟨hat0, hat⟩ := ce_arr_at (z := z) (ad := ad) hx
          dsimp only at hat
          have hi := ce_ix_ok hk hI.2.2.2
          have hlen : y2.length < 60000 := Nat.lt_of_succ_le (Nat.le_of_ble_eq_true hb2)
          have hlt : k < y2.length := Nat.lt_of_succ_le (Nat.le_of_ble_eq_true hb3)
          show W _ _ _ _ _ _ _ _ _ _ _ _ _ _ _ (F0 m pc ls (.int (ce_vi z v) :: .int (ce_vi z i) :: .ref (ad a) :: r.map (ce_v z ad)))
          rw [hi]
          refine va_iast (f := fun j => ce_iv (ce_v z ad (y2.getD j ce_0))) hC.1 hC.2.1 (ce_CXK hC).1 hI.1 hI.2.1 hv a 0 hat rfl (vp_in_nI hlt (by omega)) d (fun H1 locs1 hP hD hS1 => ?_)
          · rw [nI_clamp (by omega)] at hP hD
            have hf : upd (fun j => ce_iv (ce_v z ad (y2.getD j ce_0))) k (ce_vi z v) = fun j => ce_iv (ce_v z ad ((y2.set k (.inl v)).getD j ce_0)) := ce_set_fun (g := ce_iv) (v := .inl v) hlt
            rw [hf] at hP hD
            have he : ce_e z ad (.inr (0, y2.set k (.inl v))) = .inl (ce_cA z 0, y2.length, .inl (fun j => ce_iv (ce_v z ad ((y2.set k (.inl v)).getD j ce_0)))) := by
              simp only [ce_e, List.length_set]; rfl
            rw [← he] at hP hD
            have hwe : ce_we G.2.1.length (.inr (0, y2)) = true := List.all_eq_true.mp hI.2.2.1 _ (List.mem_of_getElem? hat0)
            exact hS _ (List.mem_singleton.mpr rfl) ad ls H1 locs1 kc ks h1 (by simpa using h2) hl (ce_Inv_set (e := .inr (0, y2.set k (.inl v))) hI.2.2 hat0 (ce_all_set (l := y2) hwe rfl) hP hD) hS1 k1 k2
        · cases h
      · cases h
    · cases h
      exact ce_sp_ok hS
    · cases h
  · cases h
theorem ok_castore (d : decode cc pc = .ok (.castore, 1)) : ce_OK own nm cc nL ret ht pc (ce_iast 1 (pc + 1) pc) := by
  intro z p l e R s m args below meth c Q ad0 n0 hC L G S h hS
  obtain ⟨lo, st⟩ := L
  simp only [ce_iast] at h
  split at h
  · rename_i v i a r
    split at h
    · rename_i k hk
      split at h
      · rename_i x hx
        split at h
        · rename_i hb
          cases h
          intro ad ls H locs kc ks h1 h2 hl hI hv k1 k2
          simp only [Bool.and_eq_true, Nat.beq_eq] at hb
          obtain ⟨y1, y2⟩ := x
          obtain ⟨hb1, hb2, hb3, hb4⟩ := hb
          dsimp only at hb1
          subst hb1
          obtain ⟨hat0, hat⟩ := ce_arr_at (z := z) (ad := ad) hx
          dsimp only at hat
          have hi := ce_ix_ok hk hI.2.2.2
          have hlen : y2.length < 60000 := Nat.lt_of_succ_le (Nat.le_of_ble_eq_true hb2)
          have hlt : k < y2.length := Nat.lt_of_succ_le (Nat.le_of_ble_eq_true hb3)
          show W _ _ _ _ _ _ _ _ _ _ _ _ _ _ _ (F0 m pc ls (.int (ce_vi z v) :: .int (ce_vi z i) :: .ref (ad a) :: r.map (ce_v z ad)))
          rw [hi]
          refine va_cast (f := fun j => ce_iv (ce_v z ad (y2.getD j ce_0))) hC.1 hC.2.1 (ce_CXK hC).1 hI.1 hI.2.1 hv a 1 hat rfl (vp_in_nI hlt (by omega)) d (fun H1 locs1 hP hD hS1 => ?_)
          · rw [nI_clamp (by omega)] at hP hD
            have hnar : vp_nar .char (ce_vi z v) = ce_vi z v := by
              have e8 := (ce_fit_ok (ce_CXK hC) (ad := ad) (ty := .char) (v := .inl v) hb4).1
              simp only [ce_v] at e8
              unfold vp_nar
              rw [e8]
            rw [hnar] at hP hD
            have hf : upd (fun j => ce_iv (ce_v z ad (y2.getD j ce_0))) k (ce_vi z v) = fun j => ce_iv (ce_v z ad ((y2.set k (.inl v)).getD j ce_0)) := ce_set_fun (g := ce_iv) (v := .inl v) hlt
            rw [hf] at hP hD
            have he : ce_e z ad (.inr (1, y2.set k (.inl v))) = .inl (ce_cA z 1, y2.length, .inl (fun j => ce_iv (ce_v z ad ((y2.set k (.inl v)).getD j ce_0)))) := by
              simp only [ce_e, List.length_set]; rfl
            rw [← he] at hP hD
            have hwe : ce_we G.2.1.length (.inr (1, y2)) = true := List.all_eq_true.mp hI.2.2.1 _ (List.mem_of_getElem? hat0)
            exact hS _ (List.mem_singleton.mpr rfl) ad ls H1 locs1 kc ks h1 (by simpa using h2) hl (ce_Inv_set (e := .inr (1, y2.set k (.inl v))) hI.2.2 hat0 (ce_all_set (l := y2) hwe rfl) hP hD) hS1 k1 k2
        · cases h
      · cases h
    · cases h
      exact ce_sp_ok hS
    · cases h
  · cases h
theorem ok_bastore (d : decode cc pc = .ok (.bastore, 1)) : ce_OK own nm cc nL ret ht pc (ce_iast 2 (pc + 1) pc) := by
  intro z p l e R s m args below meth c Q ad0 n0 hC L G S h hS
  obtain ⟨lo, st⟩ := L
  simp only [ce_iast] at h
  split at h
  · rename_i v i a r
    split at h
    · rename_i k hk
      split at h
      · rename_i x hx
        split at h
        · rename_i hb
          cases h
          intro ad ls H locs kc ks h1 h2 hl hI hv k1 k2
          simp only [Bool.and_eq_true, Nat.beq_eq] at hb
          obtain ⟨y1, y2⟩ := x
          obtain ⟨hb1, hb2, hb3, hb4⟩ := hb
          dsimp only at hb1
          subst hb1
          obtain ⟨hat0, hat⟩ := ce_arr_at (z := z) (ad := ad) hx
          dsimp only at hat
          have hi := ce_ix_ok hk hI.2.2.2
          have hlen : y2.length < 60000 := Nat.lt_of_succ_le (Nat.le_of_ble_eq_true hb2)
          have hlt : k < y2.length := Nat.lt_of_succ_le (Nat.le_of_ble_eq_true hb3)
          show W _ _ _ _ _ _ _ _ _ _ _ _ _ _ _ (F0 m pc ls (.int (ce_vi z v) :: .int (ce_vi z i) :: .ref (ad a) :: r.map (ce_v z ad)))
          rw [hi]
          refine va_bast (f := fun j => ce_iv (ce_v z ad (y2.getD j ce_0))) hC.1 hC.2.1 (ce_CXK hC).1 hI.1 hI.2.1 hv a 2 hat rfl (vp_in_nI hlt (by omega)) d (fun H1 locs1 hP hD hS1 => ?_)
          · rw [nI_clamp (by omega)] at hP hD
            have hnar : vp_nar .byte (ce_vi z v) = ce_vi z v := by
              have e8 := (ce_fit_ok (ce_CXK hC) (ad := ad) (ty := .byte) (v := .inl v) hb4).1
              simp only [ce_v] at e8
              unfold vp_nar
              rw [e8]
            rw [hnar] at hP hD
            have hf : upd (fun j => ce_iv (ce_v z ad (y2.getD j ce_0))) k (ce_vi z v) = fun j => ce_iv (ce_v z ad ((y2.set k (.inl v)).getD j ce_0)) := ce_set_fun (g := ce_iv) (v := .inl v) hlt
            rw [hf] at hP hD
            have he : ce_e z ad (.inr (2, y2.set k (.inl v))) = .inl (ce_cA z 2, y2.length, .inl (fun j => ce_iv (ce_v z ad ((y2.set k (.inl v)).getD j ce_0)))) := by
              simp only [ce_e, List.length_set]; rfl
            rw [← he] at hP hD
            have hwe : ce_we G.2.1.length (.inr (2, y2)) = true := List.all_eq_true.mp hI.2.2.1 _ (List.mem_of_getElem? hat0)
            exact hS _ (List.mem_singleton.mpr rfl) ad ls H1 locs1 kc ks h1 (by simpa using h2) hl (ce_Inv_set (e := .inr (2, y2.set k (.inl v))) hI.2.2 hat0 (ce_all_set (l := y2) hwe rfl) hP hD) hS1 k1 k2
        · cases h
      · cases h
    · cases h
      exact ce_sp_ok hS
    · cases h
  · cases h
def ce_last (nx : Nat) : ce_P := fun L G => match L.2 with
  | .inr (.inl v) :: .inl (.inl (.ofNat k)) :: .inr (.inr (.inl (.inl a))) :: r => match ce_arr G a with
    | some x => match Nat.beq x.1 4 && (Nat.blt x.2.length 60000 && Nat.blt k x.2.length) with
      | true => some [(nx, (L.1, r), (G.1, G.2.1.set a (.inr (x.1, x.2.set k (.inr (.inl v)))), G.2.2))]
      | false => none
    | none => none
  | _ => none
theorem ok_last (d : decode cc pc = .ok (.lastore, 1)) : ce_OK own nm cc nL ret ht pc (ce_last (pc + 1)) := by
  intro z p l e R s m args below meth c Q ad0 n0 hC L G S h hS ad ls H locs kc ks h1 h2 hl hI hv k1 k2
  obtain ⟨lo, st⟩ := L
  simp only [ce_last] at h
  split at h
  · rename_i v k a r
    split at h
    · rename_i x hx
      split at h
      · rename_i hb
        cases h
        simp only [Bool.and_eq_true, Nat.beq_eq] at hb
        obtain ⟨y1, y2⟩ := x
        obtain ⟨hb1, hb2, hb3⟩ := hb
        dsimp only at hb1
        subst hb1
        obtain ⟨hat0, hat⟩ := ce_arr_at (z := z) (ad := ad) hx
        dsimp only at hat
        have hlen : y2.length < 60000 := Nat.lt_of_succ_le (Nat.le_of_ble_eq_true hb2)
        have hlt : k < y2.length := Nat.lt_of_succ_le (Nat.le_of_ble_eq_true hb3)
        show W _ _ _ _ _ _ _ _ _ _ _ _ _ _ _ (F0 m pc ls (.long (ce_vl z v) :: .int (nI k) :: .ref (ad a) :: r.map (ce_v z ad)))
        refine va_last (f := fun j => ce_lv (ce_v z ad (y2.getD j ce_0))) hC.1 hC.2.1 (ce_CXK hC).1 hI.1 hI.2.1 hv a 4 hat rfl (vp_in_nI hlt (by omega)) d (fun H1 locs1 hP hD hS1 => ?_)
        rw [nI_clamp (by omega)] at hP hD
        have hf : vp_updL (fun j => ce_lv (ce_v z ad (y2.getD j ce_0))) k (ce_vl z v) = fun j => ce_lv (ce_v z ad ((y2.set k (.inr (.inl v))).getD j ce_0)) := ce_set_fun (g := ce_lv) (v := .inr (.inl v)) hlt
        rw [hf] at hP hD
        have he : ce_e z ad (.inr (4, y2.set k (.inr (.inl v)))) = .inl (ce_cA z 4, y2.length, .inr (.inl (fun j => ce_lv (ce_v z ad ((y2.set k (.inr (.inl v))).getD j ce_0))))) := by
          simp only [ce_e, List.length_set]; rfl
        rw [← he] at hP hD
        have hwe : ce_we G.2.1.length (.inr (4, y2)) = true := List.all_eq_true.mp hI.2.2.1 _ (List.mem_of_getElem? hat0)
        exact hS _ (List.mem_singleton.mpr rfl) ad ls H1 locs1 kc ks h1 (by simpa using h2) hl (ce_Inv_set (e := .inr (4, y2.set k (.inr (.inl v)))) hI.2.2 hat0 (ce_all_set (l := y2) hwe rfl) hP hD) hS1 k1 k2
      · cases h
    · cases h
  · cases h
/-- which objects may stand in which arrays: kind of the array, class of the object -/
def ce_ao (t ci : Nat) : Bool := match t, ci with
  | 6, 19 => true
  | 6, 17 => true
  | 6, 16 => true
  | 7, 14 => true
  | 8, 7 => true
  | 9, 9 => true
  | 10, 6 => true
  | 11, 4 => true
  | _, _ => false
theorem ce_ao_ok {z : ce_U} {s : State} {t ci : Nat} (h : ce_ao t ci = true) (hK : ce_CK z s) : 5 < t ∧ ∃ (E : String) (r : vw_C), (ce_ty z)[t]? = some (ce_cA z t, .object E) ∧ ce_cl[ci]? = some r ∧ (va_Nw (.castable r.1 E) s ∨ r.1 = E) := by
  have hn := hK.2.2.2.1.1
  unfold ce_ao at h
  split at h
  · exact ⟨by omega, _, _, rfl, rfl, Or.inl (hn _ (by decide +kernel))⟩
  · exact ⟨by omega, _, _, rfl, rfl, Or.inl (hn _ (by decide +kernel))⟩
  · exact ⟨by omega, _, _, rfl, rfl, Or.inl (hn _ (by decide +kernel))⟩
  · exact ⟨by omega, _, _, rfl, rfl, Or.inr rfl⟩
  · exact ⟨by omega, _, _, rfl, rfl, Or.inr rfl⟩
  · exact ⟨by omega, _, _, rfl, rfl, Or.inr rfl⟩
  · exact ⟨by omega, _, _, rfl, rfl, Or.inr rfl⟩
  · exact ⟨by omega, _, _, rfl, rfl, Or.inr rfl⟩
  · cases h
/-- a made object into an array: ci its class, t the array's kind -/
def ce_aast (nx : Nat) : ce_P := fun L G => match L.2 with
  | .inr (.inr (.inl (.inl b))) :: .inl (.inl (.ofNat k)) :: .inr (.inr (.inl (.inl a))) :: r => match ce_arr G a, ce_obj G b with
    | some x, some y => match ce_ao x.1 y.1 && (Nat.blt x.2.length 60000 && (Nat.blt k x.2.length && Nat.blt b G.2.1.length)) with
      | true => some [(nx, (L.1, r), (G.1, G.2.1.set a (.inr (x.1, x.2.set k (.inr (.inr (.inl (.inl b)))))), G.2.2))]
      | false => none
    | _, _ => none
  | _ => none
theorem ok_aast (d : decode cc pc = .ok (.aastore, 1)) : ce_OK own nm cc nL ret ht pc (ce_aast (pc + 1)) := by
  intro z p l e R s m args below meth c Q ad0 n0 hC L G S h hS ad ls H locs kc ks h1 h2 hl hI hv k1 k2
  obtain ⟨lo, st⟩ := L
  simp only [ce_aast] at h
  split at h
  · rename_i b k a r
    split at h
    · rename_i x y hx hy
      split at h
      · rename_i hb
        cases h
        simp only [Bool.and_eq_true] at hb
        obtain ⟨y1, y2⟩ := x
        obtain ⟨o1, o2⟩ := y
        obtain ⟨hb1, hb2, hb3, hb4⟩ := hb
        dsimp only at hb1
        obtain ⟨hat0, hat⟩ := ce_arr_at (z := z) (ad := ad) hx
        obtain ⟨hbt0, hbt⟩ := ce_obj_at (z := z) (ad := ad) hy
        have hlen : y2.length < 60000 := Nat.lt_of_succ_le (Nat.le_of_ble_eq_true hb2)
        have hlt : k < y2.length := Nat.lt_of_succ_le (Nat.le_of_ble_eq_true hb3)
        obtain ⟨h5, E9, r9, hty, hcl, hca⟩ := ce_ao_ok (z := z) hb1 (ce_CXK hC)
        dsimp only at hat
        rw [ce_ar_ref h5] at hat
        show W _ _ _ _ _ _ _ _ _ _ _ _ _ _ _ (F0 m pc ls (.ref (ad b) :: .int (nI k) :: .ref (ad a) :: r.map (ce_v z ad)))
        have hkk : ∀ (H1 : Heap) (locs1 : List Loc), va_P (ce_D z) ce_cl ((ce_w z ad 0 G.2.1).set a (ad a, .inl (ce_cA z y1, y2.length, .inr (.inr (.inr (.inr (va_up (fun j => ce_rv (ce_v z ad (y2.getD j ce_0))) (nI k).toNatClampNeg (some (ad b))))))))) H1 → va_D (ce_A z) ((ce_w z ad 0 G.2.1).set a (ad a, .inl (ce_cA z y1, y2.length, .inr (.inr (.inr (.inr (va_up (fun j => ce_rv (ce_v z ad (y2.getD j ce_0))) (nI k).toNatClampNeg (some (ad b))))))))) → va_S (ce_A z) s.heap H1 locs1 → W p l e R s m args below meth c H1 locs1 kc ks Q (F0 m (pc + 1) ls (r.map (ce_v z ad))) := by
          intro H1 locs1 hP hD hS1
          rw [nI_clamp (by omega)] at hP hD
          have hf : va_up (fun j => ce_rv (ce_v z ad (y2.getD j ce_0))) k (some (ad b)) = fun j => ce_rv (ce_v z ad ((y2.set k (.inr (.inr (.inl (.inl b))))).getD j ce_0)) := ce_set_fun (g := ce_rv) (v := .inr (.inr (.inl (.inl b)))) hlt
          rw [hf] at hP hD
          have he : ce_e z ad (.inr (y1, y2.set k (.inr (.inr (.inl (.inl b)))))) = .inl (ce_cA z y1, y2.length, .inr (.inr (.inr (.inr (fun j => ce_rv (ce_v z ad ((y2.set k (.inr (.inr (.inl (.inl b))))).getD j ce_0))))))) := by
            simp only [ce_e, List.length_set, ce_ar_ref h5]
          rw [← he] at hP hD
          have hwe : ce_we G.2.1.length (.inr (y1, y2)) = true := List.all_eq_true.mp hI.2.2.1 _ (List.mem_of_getElem? hat0)
          exact hS _ (List.mem_singleton.mpr rfl) ad ls H1 locs1 kc ks h1 (by simpa using h2) hl (ce_Inv_set (e := .inr (y1, y2.set k (.inr (.inr (.inl (.inl b)))))) hI.2.2 hat0 (ce_all_set (l := y2) hwe hb4) hP hD) hS1 k1 k2
        rcases hca with hca | hca
        · exact va_astqO hC.1 hC.2.1 (ce_CXK hC).1 hI.1 hI.2.1 hv a y1 b o1 hat hty hca hbt hcl (vp_in_nI hlt (by omega)) d hkk
        · subst hca
          exact va_astq hC.1 hC.2.1 (ce_CXK hC).1 hI.1 hI.2.1 hv a y1 b o1 hat hty hbt hcl (vp_in_nI hlt (by omega)) d hkk
      · cases h
    · cases h
  · cases h
end Arr
end
section
/-! statics, constants, comparisons of references, switches, natives -/
section Misc
variable {own nm : String} {cc : ByteArray} {nL : Nat} {ret : Option FieldType} {ht pc : Nat}
theorem ok_gets {C n dd ref : String} {i : Nat} {sv : ce_SV} (hz : ∀ (z : ce_U) (s : State) (ad : Nat → Nat), ce_CK z s → va_Z C n dd (ce_v z ad sv) (ce_A z) s s.heap) (d : decode cc pc = .ok (.getstatic i, 3)) (hk : Cond.fieldLink own i ref n dd ∈ ce_GW) (hr : ref = C) : ce_OK own nm cc nL ret ht pc (ce_push sv (pc + 3)) := by
  intro z p l e R s m args below meth c Q ad0 n0 hC L G S h hS ad ls H locs kc ks h1 h2 hl hI hv k1 k2
  obtain ⟨lo, st⟩ := L
  cases h
  subst hr
  refine va_gets hC.1 hC.2.1 (hz z s ad (ce_CXK hC)) hv hC.2.2.2.1 (hC.2.2.2.2.1 _ hk) (fun _ h => h) d ?_
  exact hS _ (List.mem_singleton.mpr rfl) ad ls H locs kc ks h1 h2 hl hI hv k1 k2
theorem ce_z1 (z : ce_U) (s : State) (ad : Nat → Nat) (h : ce_CK z s) : va_Z "java/lang/String" "COMPACT_STRINGS" "Z" (ce_v z ad (.inl (.inl 1))) (ce_A z) s s.heap := h.2.2.2.2.2.2.2.2.2.1
theorem ce_z2 (z : ce_U) (s : State) (ad : Nat → Nat) (h : ce_CK z s) : va_Z "java/lang/StringUTF16" "$assertionsDisabled" "Z" (ce_v z ad (.inl (.inl 1))) (ce_A z) s s.heap := h.2.2.2.2.2.2.2.2.2.2.1
theorem ce_z3 (z : ce_U) (s : State) (ad : Nat → Nat) (h : ce_CK z s) : va_Z "java/lang/StringUTF16" "HI_BYTE_SHIFT" "I" (ce_v z ad (.inl (.inl 0))) (ce_A z) s s.heap := h.2.2.2.2.2.2.2.2.2.2.2.1
theorem ce_z4 (z : ce_U) (s : State) (ad : Nat → Nat) (h : ce_CK z s) : va_Z "java/lang/StringUTF16" "LO_BYTE_SHIFT" "I" (ce_v z ad (.inl (.inl 8))) (ce_A z) s s.heap := h.2.2.2.2.2.2.2.2.2.2.2.2
theorem ce_z5 (z : ce_U) (s : State) (ad : Nat → Nat) (h : ce_CK z s) : va_Z "jdk/internal/util/Preconditions" "SIOOBE_FORMATTER" "Ljava/util/function/BiFunction;" (ce_v z ad (.inr (.inr (.inl (.inr 7))))) (ce_A z) s s.heap := h.2.2.2.2.2.2.2.2.1.2
theorem ce_z6 (z : ce_U) (s : State) (ad : Nat → Nat) (h : ce_CK z s) : va_Z "java/util/ArrayList" "DEFAULTCAPACITY_EMPTY_ELEMENTDATA" "[Ljava/lang/Object;" (ce_v z ad (.inr (.inr (.inl (.inr 1))))) (ce_A z) s s.heap := by
  obtain ⟨t, e0, -, e2⟩ := h.2.2.2.2.2.1
  show va_Z _ _ _ (ce_ev z 1) _ _ _
  rw [e0]; exact e2
theorem ok_ldcS {i j : Nat} {tx : String} (hz : ∀ (z : ce_U) (s : State), ce_CK z s → ∃ a, ce_ev z j = .ref a ∧ vk_R own i tx a s) (d : decode cc pc = .ok (.ldc i, 2)) : ce_OK own nm cc nL ret ht pc (ce_push (.inr (.inr (.inl (.inr j)))) (pc + 2)) := by
  intro z p l e R s m args below meth c Q ad0 n0 hC L G S h hS ad ls H locs kc ks h1 h2 hl hI hv k1 k2
  obtain ⟨lo, st⟩ := L
  cases h
  obtain ⟨a, e0, e1⟩ := hz z s (ce_CXK hC)
  refine va_ldcS hC.1 hC.2.1 hC.2.2.2.1 e1 d ?_
  rw [← e0]
  exact hS _ (List.mem_singleton.mpr rfl) ad ls H locs kc ks h1 h2 hl hI hv k1 k2
theorem ce_s2 (z : ce_U) (s : State) (h : ce_CK z s) : ∃ a, ce_ev z 2 = .ref a ∧ vk_R "CarcasswrightModel" 19 "" a s := by
  obtain ⟨aK, aV, e2, e3, e4, e5, hE, h6, h7⟩ := h.2.2.2.2.2.2.1
  exact ⟨_, e2, h6⟩
theorem ce_s4 (z : ce_U) (s : State) (h : ce_CK z s) : ∃ a, ce_ev z 4 = .ref a ∧ vk_R "CarcasswrightModel" 57 "ewns" a s := by
  obtain ⟨aK, aV, e2, e3, e4, e5, hE, h6, h7⟩ := h.2.2.2.2.2.2.1
  exact ⟨_, e4, h7⟩
theorem ok_ldcM {i : Nat} (d : decode cc pc = .ok (.ldc i, 2)) (hk : Cond.classLink own i "[Ljava/lang/Object;" ∈ ce_GW) : ce_OK own nm cc nL ret ht pc (ce_push (.inr (.inr (.inl (.inr 6)))) (pc + 2)) := by
  intro z p l e R s m args below meth c Q ad0 n0 hC L G S h hS ad ls H locs kc ks h1 h2 hl hI hv k1 k2
  obtain ⟨lo, st⟩ := L
  cases h
  obtain ⟨mi, e0, e1⟩ := (ce_CXK hC).2.2.2.2.2.2.2.1
  refine va_ldcM hC.1 hC.2.1 hC.2.2.2.1 (hC.2.2.2.2.1 _ hk) e1 d ?_
  rw [← e0]
  exact hS _ (List.mem_singleton.mpr rfl) ad ls H locs kc ks h1 h2 hl hI hv k1 k2
/-- a row of ints is one: the cast stands -/
def ce_castI (nx : Nat) : ce_P := fun L G => match L.2 with
  | .inr (.inr (.inl (.inl a))) :: r => match ce_arr G a with
    | some x => match Nat.beq x.1 0 with
      | true => some [(nx, (L.1, .inr (.inr (.inl (.inl a))) :: r), G)]
      | false => none
    | none => none
  | _ => none
theorem ok_castI {i : Nat} (d : decode cc pc = .ok (.checkcast i, 3)) (hk : Cond.classLink own i "[I" ∈ ce_GW) : ce_OK own nm cc nL ret ht pc (ce_castI (pc + 3)) := by
  intro z p l e R s m args below meth c Q ad0 n0 hC L G S h hS ad ls H locs kc ks h1 h2 hl hI hv k1 k2
  obtain ⟨lo, st⟩ := L
  simp only [ce_castI] at h
  split at h
  · rename_i a r
    split at h
    · rename_i x hx
      split at h
      · rename_i hb
        cases h
        obtain ⟨y1, y2⟩ := x
        have hb1 := Nat.eq_of_beq_eq_true hb
        dsimp only at hb1
        subst hb1
        have hat := (ce_arr_at (z := z) (ad := ad) hx).2
        dsimp only at hat
        refine va_castA hC.1 hC.2.1 hC.2.2.2.1 (hC.2.2.2.2.1 _ hk) hI.1 a hat (va_nm_int ((ce_CXK hC).1.2 0 _ rfl).2) d ?_
        exact hS _ (List.mem_singleton.mpr rfl) ad ls H locs kc ks h1 h2 hl hI hv k1 k2
      · cases h
    · cases h
  · cases h
/-- are two references one? -/
def ce_same (n : Nat) (a b : ce_SV) : Option Bool := match a, b with
  | .inr (.inr (.inl (.inl i))), .inr (.inr (.inl (.inl j))) => match Nat.blt i n && Nat.blt j n with
    | true => some (Nat.beq i j)
    | false => none
  | .inr (.inr (.inl (.inr i))), .inr (.inr (.inl (.inr j))) => match Nat.beq i j && Nat.blt i 7 with
    | true => some true
    | false => none
  | .inr (.inr (.inl (.inl i))), .inr (.inr (.inl (.inr 1))) => match Nat.blt i n with
    | true => some false
    | false => none
  | .inr (.inr (.inl (.inr 1))), .inr (.inr (.inl (.inl i))) => match Nat.blt i n with
    | true => some false
    | false => none
  | _, _ => none
theorem ce_w_some {z : ce_U} {ad : Nat → Nat} {cs : List ce_SE} {i : Nat} (h : i < cs.length) : ∃ e, (ce_w z ad 0 cs)[i]? = some (ad i, e) := ⟨_, by rw [ce_w_get, List.getElem?_eq_getElem h, Nat.zero_add]; rfl⟩
theorem ce_same_ok {z : ce_U} {s : State} {ad : Nat → Nat} {G : ce_G} {H : Heap} (hK : ce_CK z s) (hI : ce_Inv z ad G H) {a b : ce_SV} {v : Bool} (h : ce_same G.2.1.length a b = some v) : ∃ ra rb : Option Nat, ce_v z ad a = va_rf ra ∧ ce_v z ad b = va_rf rb ∧ (v = true ↔ ra = rb) := by
  unfold ce_same at h
  split at h
  · rename_i i j
    split at h
    · rename_i hb
      simp only [Bool.and_eq_true] at hb
      cases h
      refine ⟨some (ad i), some (ad j), rfl, rfl, ?_⟩
      obtain ⟨e1, w1⟩ := ce_w_some (z := z) (ad := ad) (Nat.lt_of_succ_le (Nat.le_of_ble_eq_true hb.1))
      obtain ⟨e2, w2⟩ := ce_w_some (z := z) (ad := ad) (Nat.lt_of_succ_le (Nat.le_of_ble_eq_true hb.2))
      constructor
      · intro hh
        rw [Nat.eq_of_beq_eq_true hh]
      · intro hh
        have := hI.2.1.1 i j _ _ w1 w2 (Option.some.inj hh)
        rw [this, Nat.beq_refl]
    · cases h
  · rename_i i j
    split at h
    · rename_i hb
      simp only [Bool.and_eq_true] at hb
      cases h
      have hij := Nat.eq_of_beq_eq_true hb.1
      subst hij
      obtain ⟨a, ha⟩ := ce_ext hK i (Nat.lt_of_succ_le (Nat.le_of_ble_eq_true hb.2))
      exact ⟨some a, some a, ha, ha, by simp⟩
    · cases h
  · rename_i i
    split at h
    · rename_i hb
      cases h
      obtain ⟨t, e0, ⟨-, -, -, -, -, -, -, e1⟩, -⟩ := hK.2.2.2.2.2.1
      obtain ⟨e9, w1⟩ := ce_w_some (z := z) (ad := ad) (Nat.lt_of_succ_le (Nat.le_of_ble_eq_true hb))
      refine ⟨some (ad i), some t, rfl, e0, ?_⟩
      have hA := hI.2.1.2 i _ w1
      constructor
      · intro hh; cases hh
      · intro hh
        rw [Option.some.inj hh] at hA
        exact absurd hA e1
    · cases h
  · rename_i i
    split at h
    · rename_i hb
      cases h
      obtain ⟨t, e0, ⟨-, -, -, -, -, -, -, e1⟩, -⟩ := hK.2.2.2.2.2.1
      obtain ⟨e9, w1⟩ := ce_w_some (z := z) (ad := ad) (Nat.lt_of_succ_le (Nat.le_of_ble_eq_true hb))
      refine ⟨some t, some (ad i), e0, rfl, ?_⟩
      have hA := hI.2.1.2 i _ w1
      constructor
      · intro hh; cases hh
      · intro hh
        rw [← Option.some.inj hh] at hA
        exact absurd hA e1
    · cases h
  · cases h
def ce_acmp (ng : Bool) (tgt nx : Nat) : ce_P := fun L G => match L.2 with
  | b :: a :: r => match ce_same G.2.1.length a b with
    | some v => some [(if v == ng then nx else tgt, (L.1, r), G)]
    | none => none
  | _ => none
theorem ok_acmp_eq {off : Int} {tgt : Nat} (d : decode cc pc = .ok (.if_acmp .eq off, 3)) (htg : (pc : Int) + off = (tgt : Int)) : ce_OK own nm cc nL ret ht pc (ce_acmp false tgt (pc + 3)) := by
  intro z p l e R s m args below meth c Q ad0 n0 hC L G S h hS ad ls H locs kc ks h1 h2 hl hI hv k1 k2
  obtain ⟨lo, st⟩ := L
  simp only [ce_acmp] at h
  split at h
  · rename_i b a r
    split at h
    · rename_i v hv9
      cases h
      obtain ⟨ra, rb, ea, eb, hi⟩ := ce_same_ok (ce_CXK hC) hI hv9
      show W _ _ _ _ _ _ _ _ _ _ _ _ _ _ _ (F0 m pc ls (ce_v z ad b :: ce_v z ad a :: r.map (ce_v z ad)))
      rw [ea, eb]
      have hgo := hS _ (List.mem_singleton.mpr rfl) ad ls H locs kc ks h1 h2 hl hI hv k1 k2
      refine lv_acmp_eq hC.1 hC.2.1 d htg (fun c8 => ?_) (fun c8 => ?_)
      · have e9 : v = true := hi.mpr c8
        subst e9
        exact hgo
      · have e9 : v = false := (Bool.eq_false_iff.mpr fun q => c8 (hi.mp q))
        subst e9
        exact hgo
    · cases h
  · cases h
theorem ok_acmp_ne {off : Int} {tgt : Nat} (d : decode cc pc = .ok (.if_acmp .ne off, 3)) (htg : (pc : Int) + off = (tgt : Int)) : ce_OK own nm cc nL ret ht pc (ce_acmp true tgt (pc + 3)) := by
  intro z p l e R s m args below meth c Q ad0 n0 hC L G S h hS ad ls H locs kc ks h1 h2 hl hI hv k1 k2
  obtain ⟨lo, st⟩ := L
  simp only [ce_acmp] at h
  split at h
  · rename_i b a r
    split at h
    · rename_i v hv9
      cases h
      obtain ⟨ra, rb, ea, eb, hi⟩ := ce_same_ok (ce_CXK hC) hI hv9
      show W _ _ _ _ _ _ _ _ _ _ _ _ _ _ _ (F0 m pc ls (ce_v z ad b :: ce_v z ad a :: r.map (ce_v z ad)))
      rw [ea, eb]
      have hgo := hS _ (List.mem_singleton.mpr rfl) ad ls H locs kc ks h1 h2 hl hI hv k1 k2
      refine lv_acmp_ne hC.1 hC.2.1 d htg (fun c8 => ?_) (fun c8 => ?_)
      · have e9 : v = false := (Bool.eq_false_iff.mpr fun q => c8 (hi.mp q))
        subst e9
        exact hgo
      · have e9 : v = true := hi.mpr c8
        subst e9
        exact hgo
    · cases h
  · cases h
def ce_ifnn (tgt nx : Nat) : ce_P := fun L G => match L.2 with
  | .inr (.inr (.inl (.inl _))) :: r => some [(tgt, (L.1, r), G)]
  | .inr (.inr (.inl (.inr j))) :: r => match Nat.blt j 7 with
    | true => some [(tgt, (L.1, r), G)]
    | false => none
  | .inr (.inr (.inr .null)) :: r => some [(nx, (L.1, r), G)]
  | _ => none
theorem ok_ifnn {off : Int} {tgt : Nat} (d : decode cc pc = .ok (.ifnonnull off, 3)) (htg : (pc : Int) + off = (tgt : Int)) : ce_OK own nm cc nL ret ht pc (ce_ifnn tgt (pc + 3)) := by
  intro z p l e R s m args below meth c Q ad0 n0 hC L G S h hS ad ls H locs kc ks h1 h2 hl hI hv k1 k2
  obtain ⟨lo, st⟩ := L
  simp only [ce_ifnn] at h
  split at h
  · cases h
    refine lv_ifnonnull hC.1 hC.2.1 d htg ?_
    exact hS _ (List.mem_singleton.mpr rfl) ad ls H locs kc ks h1 h2 hl hI hv k1 k2
  · rename_i j r
    split at h
    · rename_i hj
      cases h
      obtain ⟨a, ha⟩ := ce_ext (ce_CXK hC) j (Nat.lt_of_succ_le (Nat.le_of_ble_eq_true hj))
      show W _ _ _ _ _ _ _ _ _ _ _ _ _ _ _ (F0 m pc ls (ce_ev z j :: r.map (ce_v z ad)))
      rw [ha]
      refine lv_ifnonnull hC.1 hC.2.1 d htg ?_
      exact hS _ (List.mem_singleton.mpr rfl) ad ls H locs kc ks h1 h2 hl hI hv k1 k2
    · cases h
  · cases h
    refine lv_ifnonnullN hC.1 hC.2.1 d ?_
    exact hS _ (List.mem_singleton.mpr rfl) ad ls H locs kc ks h1 h2 hl hI hv k1 k2
  · cases h
/-- a switch over a row of numbers from 0 on -/
def ce_tsw (dflt : Nat) (tg : List Nat) : ce_P := fun L G => match L.2 with
  | .inl i :: r => match ce_ix G.1 i with
    | some (.inl k) => match Nat.blt k 1000 with
      | true => match ce_nth tg k with
        | some t => some [(t, (L.1, r), G)]
        | none => some [(dflt, (L.1, r), G)]
      | false => none
    | _ => none
  | _ => none
theorem ok_tsw {da hi : Int} {offs : Array Int} {len dflt : Nat} {tg : List Nat} (d : decode cc pc = .ok (.tableswitch da 0 hi offs, len)) (hd : (pc : Int) + da = (dflt : Int)) (hh : hi + 1 = (tg.length : Int)) (ho : tg.map (fun t : Nat => (t : Int) - (pc : Int)) = offs.toList) : ce_OK own nm cc nL ret ht pc (ce_tsw dflt tg) := by
  intro z p l e R s m args below meth c Q ad0 n0 hC L G S h hS ad ls H locs kc ks h1 h2 hl hI hv k1 k2
  obtain ⟨lo, st⟩ := L
  simp only [ce_tsw] at h
  split at h
  · rename_i i r
    split at h
    · rename_i k hk
      have hi9 := ce_ix_ok hk hI.2.2.2
      split at h
      · rename_i hb
        have hb : k < 1000 := Nat.lt_of_succ_le (Nat.le_of_ble_eq_true hb)
        have hkt : (nI k).toInt = (k : Int) := nI_toInt (by omega)
        show W _ _ _ _ _ _ _ _ _ _ _ _ _ _ _ (F0 m pc ls (.int (ce_vi z i) :: r.map (ce_v z ad)))
        rw [hi9]
        split at h
        · rename_i t ht9
          cases h
          have hlt := ce_nth_lt ht9
          rw [ce_nth_eq] at ht9
          have ho2 : offs[((nI k).toInt - 0).toNat]? = some ((t : Int) - (pc : Int)) := by
            rw [hkt, ← Array.getElem?_toList, ← ho, List.getElem?_map]
            have : ((k : Int) - 0).toNat = k := by omega
            rw [this, ht9]; rfl
          refine lv_tableIn hC.1 hC.2.1 d (by omega) (by omega) ho2 (tgt := t) (by omega) ?_
          exact hS _ (List.mem_singleton.mpr rfl) ad ls H locs kc ks h1 h2 hl hI hv k1 k2
        · rename_i ht9
          cases h
          rw [ce_nth_eq] at ht9
          have hge := List.getElem?_eq_none_iff.mp ht9
          refine lv_tableOut hC.1 hC.2.1 d (Or.inr (by omega)) hd ?_
          exact hS _ (List.mem_singleton.mpr rfl) ad ls H locs kc ks h1 h2 hl hI hv k1 k2
      · cases h
    · cases h
  · cases h
/-- a switch over numbers that are named -/
def ce_ls (t : Term) (ks : List (Int × Nat)) (L : ce_L) (G : ce_G) : List (Nat × ce_L × ce_G) := (ks.filter fun k => !(ce_ne G.1 t k.1)).map fun k => (k.2, L, ((t, 0, k.1) :: (t, 1, k.1) :: G.1, G.2))
def ce_lsw (dflt : Nat) (ks : List (Int × Nat)) : ce_P := fun L G => match L.2 with
  | .inl (.inr t) :: r => match ks.any fun k => ce_ge G.1 t k.1 && ce_le G.1 t k.1 with
    | true => some (ce_ls t ks (L.1, r) G)
    | false => some ((dflt, (L.1, r), (ks.map (fun k => (t, 2, k.1)) ++ G.1, G.2)) :: ce_ls t ks (L.1, r) G)
  | _ => none
theorem ce_off_hit {l : List (Int × Int)} {da k o : Int} (hn : ∀ a b, (a, o) ∈ l → (a, b) ∈ l → b = o) (h : (k, o) ∈ l) : Op.lookupswitch.offset l da k = o := by
  induction l with
  | nil => cases h
  | cons q r ih =>
    obtain ⟨a, o1⟩ := q
    rw [Op.lookupswitch.offset_cons]
    split
    · rename_i ha
      subst ha
      exact hn _ _ h List.mem_cons_self
    · rename_i ha
      rcases List.mem_cons.mp h with h | h
      · cases h; exact absurd rfl ha
      · exact ih (fun a b x y => hn a b (List.mem_cons_of_mem _ x) (List.mem_cons_of_mem _ y)) h
theorem ce_off_miss {l : List (Int × Int)} {da k : Int} (h : ∀ q ∈ l, q.1 ≠ k) : Op.lookupswitch.offset l da k = da := by
  induction l with
  | nil => rfl
  | cons q r ih =>
    obtain ⟨a, o1⟩ := q
    rw [Op.lookupswitch.offset_cons, if_neg (h _ List.mem_cons_self)]
    exact ih fun q hq => h q (List.mem_cons_of_mem _ hq)
theorem ok_lsw {da : Int} {ps : Array (Int × Int)} {len dflt : Nat} {ks : List (Int × Nat)} (d : decode cc pc = .ok (.lookupswitch da ps, len)) (hd : (pc : Int) + da = (dflt : Int)) (hp : (ps.toList.zip (ps.toList.drop 1)).all (fun (a, next) => a.1 < next.1) = true) (ho : ks.map (fun k => (k.1, (k.2 : Int) - (pc : Int))) = ps.toList)
    (hu : ∀ a ∈ ks, ∀ b ∈ ks, a.1 = b.1 → a.2 = b.2) : ce_OK own nm cc nL ret ht pc (ce_lsw dflt ks) := by
  intro z p l e R s m args below meth c Q ad0 n0 hC L G S h hS ad ls H locs kc kS h1 h2 hl hI hv k1 k2
  obtain ⟨lo, st⟩ := L
  simp only [ce_lsw] at h
  split at h
  · rename_i t r
    show W _ _ _ _ _ _ _ _ _ _ _ _ _ _ _ (F0 m pc ls (.int (ce_I z t) :: r.map (ce_v z ad)))
    by_cases hm : ∃ k ∈ ks, (ce_I z t).toInt = k.1
    · obtain ⟨k, hk, hkt⟩ := hm
      have hin : (k.2, (lo, r), ((t, 0, k.1) :: (t, 1, k.1) :: G.1, G.2)) ∈ ce_ls t ks (lo, r) G := by
        refine List.mem_map.mpr ⟨k, List.mem_filter.mpr ⟨hk, ?_⟩, rfl⟩
        cases hq : ce_ne G.1 t k.1
        · rfl
        · exact absurd hkt (ce_ne_ok hI.2.2.2 hq)
      have hin2 : (k.2, (lo, r), ((t, 0, k.1) :: (t, 1, k.1) :: G.1, G.2)) ∈ S := by
        split at h
        · cases h; exact hin
        · cases h; exact List.mem_cons_of_mem _ hin
      have hoff : Op.lookupswitch.offset ps.toList da (ce_I z t).toInt = (k.2 : Int) - (pc : Int) := by
        rw [← ho]
        refine ce_off_hit (fun a b ha hb => ?_) (List.mem_map.mpr ⟨k, hk, by rw [hkt]⟩)
        obtain ⟨x, hx, ex⟩ := List.mem_map.mp ha
        obtain ⟨y, hy, ey⟩ := List.mem_map.mp hb
        simp only [Prod.mk.injEq] at ex ey
        have := hu x hx y hy (ex.1.trans ey.1.symm)
        omega
      refine lv_lookup hC.1 hC.2.1 d hp hoff (tgt := k.2) (by omega) ?_
      exact hS _ hin2 ad ls H locs kc kS h1 h2 hl ⟨hI.1, hI.2.1, hI.2.2.1, ce_sat_cons (ce_fa0 (by omega)) (ce_sat_cons (ce_fa1 (by omega)) hI.2.2.2)⟩ hv k1 k2
    · have hno : ∀ k ∈ ks, (ce_I z t).toInt ≠ k.1 := fun k hk he => hm ⟨k, hk, he⟩
      split at h
      · rename_i ha
        obtain ⟨k, hk, hb⟩ := List.any_eq_true.mp ha
        simp only [Bool.and_eq_true] at hb
        have a1 := ce_ge_ok hI.2.2.2 hb.1
        have a2 := ce_le_ok hI.2.2.2 hb.2
        exact absurd (by omega) (hno k hk)
      · cases h
        have hoff : Op.lookupswitch.offset ps.toList da (ce_I z t).toInt = da := by
          rw [← ho]
          refine ce_off_miss fun q hq => ?_
          obtain ⟨x, hx, rfl⟩ := List.mem_map.mp hq
          exact fun he => hno x hx he.symm
        refine lv_lookup hC.1 hC.2.1 d hp hoff hd ?_
        refine hS _ List.mem_cons_self ad ls H locs kc kS h1 h2 hl ⟨hI.1, hI.2.1, hI.2.2.1, fun f hf => ?_⟩ hv k1 k2
        rcases List.mem_append.mp hf with hf | hf
        · obtain ⟨x, hx, rfl⟩ := List.mem_map.mp hf
          exact ce_fa2 (hno x hx)
        · exact hI.2.2.2 f hf
  · cases h
end Misc
end
section
/-! calls: what a method gives for a state, what a call does with it, and the runner -/
abbrev ce_O : Type := Option ce_SV ⊕ Nat
abbrev ce_R : Type := List (ce_O × ce_G)
abbrev ce_C : Type := List ce_SV → ce_G → Option ce_R
abbrev ce_Y : Type := List (Nat × ce_L × ce_G)
abbrev ce_N : Type := ce_L → ce_G → Option (ce_R × ce_Y)
def ce_ex : Nat → String
  | 0 => "java/lang/IllegalArgumentException"
  | 1 => "java/lang/IndexOutOfBoundsException"
  | 2 => "java/util/NoSuchElementException"
  | _ => "java/lang/UnsupportedOperationException"
def ce_Pc (z : ce_U) (ad : Nat → Nat) (avs : List ce_SV) (G : ce_G) : Array Value → State → Prop := fun a U => a = (avs.map (ce_v z ad)).toArray ∧ ce_CK z U ∧ ce_Inv z ad G U.heap
def ce_B (z : ce_U) (ad : Nat → Nat) (n0 : Nat) (G : ce_G) (ad' : Nat → Nat) (H : Heap) : Prop := (∀ k, k < n0 → ad' k = ad k) ∧ n0 ≤ G.2.1.length ∧ ce_Inv z ad' G H
def ce_Qc (z : ce_U) (ad : Nat → Nat) (n0 : Nat) (S : ce_R) : Array Value → State → Outcome → State → Prop := fun _ st oc t => (∃ (o : Option ce_SV) (G : ce_G) (ad' : Nat → Nat), ((Sum.inl o : ce_O), G) ∈ S ∧ oc = .returned (o.map (ce_v z ad')) ∧ ce_B z ad n0 G ad' t.heap) ∧ va_F (ce_A z) st t
def ce_XC (z : ce_U) (ad : Nat → Nat) (n0 : Nat) (S : ce_R) : String → State → State → Prop := fun E st t => (∃ (k : Nat) (G : ce_G) (ad' : Nat → Nat), ((Sum.inr k : ce_O), G) ∈ S ∧ E = ce_ex k ∧ ce_B z ad n0 G ad' t.heap) ∧ va_F (ce_A z) st t
def ce_Qm (z : ce_U) (R : Room) (s : State) (args : Array Value) (below : List Frame) (ad0 : Nat → Nat) (n0 : Nat) (T : ce_R) : State → Prop := vx_MQ below (ce_Qc z ad0 n0 T) (ce_XC z ad0 n0 T) args s R.cells R.slots (ce_A z)
theorem ce_Pc_blind {z : ce_U} {ad : Nat → Nat} {avs : List ce_SV} {G : ce_G} : FrameBlind (ce_Pc z ad avs G) := fun _ _ _ _ h => ⟨h.1, ce_blind h.2.1, h.2.2⟩
theorem ce_gi2 {b : Cond} (h : b ∈ ce_GW) : GoodIn ce_GW (b :: ce_GW) := by
  intro w hw
  have h2 : w ∈ ce_GW := by
    rcases List.mem_cons.mp hw with e | e
    · rw [e]; exact h
    · exact e
  exact ⟨h2, good_of_word (ce_good h2)⟩
theorem ce_gia {a ws : List Cond} (ha : ∀ w ∈ a, w ∈ ce_GW) (h : GoodIn ce_GW ws) : GoodIn ce_GW (a ++ ws) := by
  intro w hw
  rcases List.mem_append.mp hw with e | e
  · exact ⟨ha w e, good_of_word (ce_good (ha w e))⟩
  · exact h w e
/-- pop n values, the first one told first -/
def ce_take : Nat → List ce_SV → List ce_SV → Option (List ce_SV × List ce_SV)
  | 0, st, acc => some (acc, st)
  | _ + 1, [], _ => none
  | n + 1, v :: st, acc => ce_take n st (v :: acc)
theorem ce_take_ok : ∀ (n : Nat) (st acc as r : List ce_SV), ce_take n st acc = some (as, r) → ∃ b, as = b.reverse ++ acc ∧ st = b ++ r ∧ b.length = n
  | 0, st, acc, as, r, h => by cases h; exact ⟨[], rfl, rfl, rfl⟩
  | n + 1, [], acc, as, r, h => by cases h
  | n + 1, v :: st, acc, as, r, h => by
    obtain ⟨b, h1, h2, h3⟩ := ce_take_ok n st (v :: acc) as r h
    exact ⟨v :: b, by rw [h1]; simp, by rw [h2]; rfl, by simp [h3]⟩
theorem ce_take_st {n : Nat} {st as r : List ce_SV} (h : ce_take n st [] = some (as, r)) : st = as.reverse ++ r ∧ as.length = n := by
  obtain ⟨b, h1, h2, h3⟩ := ce_take_ok n st [] as r h
  rw [List.append_nil] at h1
  exact ⟨by rw [h1, List.reverse_reverse]; exact h2, by rw [h1, List.length_reverse]; exact h3⟩
def ce_wt : List ce_SV → Nat
  | [] => 0
  | v :: r => (match ce_c2 v with | true => 2 | false => 1) + ce_wt r
theorem ce_cat2 (v : Value) : v.category ≤ 2 := by cases v <;> first | exact Nat.le_succ 1 | exact Nat.le_refl 2
theorem ce_wt_ok {z : ce_U} {s : State} (h : ce_CK z s) {ad : Nat → Nat} : ∀ r : List ce_SV, ((r.map (ce_v z ad)).map fun v => v.category).sum ≤ ce_wt r
  | [] => Nat.le_refl _
  | v :: r => by
    have ih := ce_wt_ok h (ad := ad) r
    simp only [List.map_cons, List.sum_cons, ce_wt]
    split
    · have := ce_cat2 (ce_v z ad v); omega
    · rename_i hb; have := ce_cat h (ad := ad) hb; omega
/-- a run of a callee, to the pc behind -/
def ce_Rn (nx : Nat) (p : Program) (l : Launch) (e : Env) (R : Room) (s : State) (m : MethodId) (args : Array Value) (below : List Frame) (meth : Method) (c : Code) (H : Heap) (locs : List Loc) (cells slots mc ms : Nat) (g : JFrame) (rest : List Value) (Qa : State → Outcome → State → Prop) (XC : String → State → State → Prop) (free : Addr → Prop) : Prop :=
  ∀ T : State, T.heap = H → Stand p l e R s m args below meth c T locs cells slots →
    (∃ (v : Option Value) (st₀ t T' : State) (L : List Loc), st₀.heap = H ∧ Stand p l e R s m args below meth c T' (locs ++ L) (cells + mc) (slots + ms) ∧ (∀ q ∈ L, free q.base) ∧ T'.heap = t.heap ∧ T'.vm = t.vm ∧ Qa st₀ (.returned v) t ∧
      Goes p e below T g T' { g with pc := nx, stack := v.toList ++ rest }) ∨
    (∃ (q : Addr) (st₀ t T' : State) (L : List Loc) (E : String) (ce : Cell), st₀.heap = H ∧ Stand p l e R s m args below meth c T' (locs ++ L) (cells + mc) (slots + ms) ∧ (∀ z ∈ L, free z.base) ∧ T'.heap = t.heap ∧ T'.vm = t.vm ∧ XC E st₀ t ∧ t.heap[q]? = some ce ∧ ce.vm = .none ∧ s.vm.findClass E = some ce.cls ∧
      Steps p.tables e below (T.setTop g) ((T'.setTop { g with stack := rest }).pushFrame (.throwing q)))
theorem ce_after {p : Program} {l : Launch} {e : Env} {R : Room} {s : State} {m : MethodId} {args : Array Value} {below : List Frame} {meth : Method} {c : Code} {H : Heap} {locs : List Loc} {cells slots : Nat} {Q : State → Prop} {mc ms pc nx n : Nat} {ls : Array Slot} {st0 rest : List Value} {z : ce_U} {ad : Nat → Nat} {S : ce_R} {aa : Array Value}
    (hr : ce_Rn nx p l e R s m args below meth c H locs cells slots mc ms (F0 m pc ls st0) rest (ce_Qc z ad n S aa) (ce_XC z ad n S) (ce_A z)) (hS : va_S (ce_A z) s.heap H locs)
    (kx : ∀ (k : Nat) (G : ce_G) (ad' : Nat → Nat) (H1 : Heap) (locs1 : List Loc) (ce : Cell) (q9 : Addr), ((Sum.inr k : ce_O), G) ∈ S → ce_B z ad n G ad' H1 → va_S (ce_A z) s.heap H1 locs1 → H1[q9]? = some ce → ce.vm = .none → s.vm.findClass (ce_ex k) = some ce.cls → vx_W p l e R s m args below meth c H1 locs1 (cells + mc) (slots + ms) Q (F0 m pc ls rest) q9)
    (kk : ∀ (o : Option ce_SV) (G : ce_G) (ad' : Nat → Nat) (H1 : Heap) (locs1 : List Loc), ((Sum.inl o : ce_O), G) ∈ S → ce_B z ad n G ad' H1 → va_S (ce_A z) s.heap H1 locs1 → W p l e R s m args below meth c H1 locs1 (cells + mc) (slots + ms) Q (F0 m nx ls ((o.map (ce_v z ad')).toList ++ rest))) : W p l e R s m args below meth c H locs cells slots Q (F0 m pc ls st0) := by
  intro T hT X
  rcases hr T hT X with ⟨v, st₀, t, T', L, h0, X', hL, e1, e2, ⟨⟨o, G, ad', hm, hv, hB⟩, hF⟩, st⟩ | ⟨q, st₀, t, T', L, E, ce, h0, X', hL, e1, e2, ⟨⟨k, G, ad', hm, hE, hB⟩, hF⟩, hce, hcv, hcl, st⟩
  · cases hv
    obtain ⟨k1, k2, k3⟩ := vx_keep h0 e1 hS (fun _ _ h => h) (fun _ h => h) hL hF
    obtain ⟨t2, a1, b1⟩ := kk o G ad' T'.heap (locs ++ L) hm (by rw [e1]; exact hB) k3 T' rfl X'
    exact ⟨t2, st t2 a1, b1⟩
  · subst hE
    obtain ⟨k1, k2, k3⟩ := vx_keep h0 e1 hS (fun _ _ h => h) (fun _ h => h) hL hF
    obtain ⟨t2, a1, b1⟩ := kx k G ad' T'.heap (locs ++ L) ce q hm (by rw [e1]; exact hB) k3 (by rw [e1]; exact hce) hcv hcl T' rfl X'
    exact ⟨t2, st.trans a1, b1⟩
section Call
variable {own nm : String} {cc : ByteArray} {nL : Nat} {ret : Option FieldType} {ht pc : Nat} {hh : Option (List (Nat × Nat × Nat × Nat))}
theorem ce_mono {p : Program} {l : Launch} {e : Env} {R : Room} {s : State} {m : MethodId} {args : Array Value} {below : List Frame} {meth : Method} {c : Code} {H : Heap} {locs : List Loc} {cells slots : Nat} {Q Q2 : State → Prop} {g : JFrame} (h : ∀ t, Q t → Q2 t) (k : W p l e R s m args below meth c H locs cells slots Q g) : W p l e R s m args below meth c H locs cells slots Q2 g := fun T hT X => by
  obtain ⟨t, a, b⟩ := k T hT X
  exact ⟨t, a, h t b⟩
theorem ce_monoX {p : Program} {l : Launch} {e : Env} {R : Room} {s : State} {m : MethodId} {args : Array Value} {below : List Frame} {meth : Method} {c : Code} {H : Heap} {locs : List Loc} {cells slots : Nat} {Q Q2 : State → Prop} {g : JFrame} {q9 : Addr} (h : ∀ t, Q t → Q2 t) (k : vx_W p l e R s m args below meth c H locs cells slots Q g q9) : vx_W p l e R s m args below meth c H locs cells slots Q2 g q9 := fun T hT X => by
  obtain ⟨t, a, b⟩ := k T hT X
  exact ⟨t, a, h t b⟩
/-- what a step of any kind owes: outcomes of the method, and states that it goes on from -/
def ce_OKN (own nm : String) (cc : ByteArray) (nL : Nat) (ret : Option FieldType) (ht : Nat) (hh : Option (List (Nat × Nat × Nat × Nat))) (pc : Nat) (f : ce_N) : Prop :=
  ∀ {z : ce_U} {p : Program} {l : Launch} {e : Env} {R : Room} {s : State} {m : MethodId} {args : Array Value} {below : List Frame} {meth : Method} {c : Code} {ad0 : Nat → Nat} {n0 : Nat},
    ce_CX z p l R s m args meth c own nm cc nL ret ht → (∀ h, hh = some h → c.exceptionTable.toList = tableOf h) → ∀ (T : ce_R) (Q : State → Prop) (_ : ∀ t, ce_Qm z R s args below ad0 n0 T t → Q t) (L : ce_L) (G : ce_G) (X : ce_R) (Y : ce_Y), f L G = some (X, Y) → (∀ x ∈ X, x ∈ T) →
      (∀ y ∈ Y, ce_WS z p l e R s m args below meth c Q nL ad0 n0 y.1 y.2.1 y.2.2) → ce_WS z p l e R s m args below meth c Q nL ad0 n0 pc L G
def ce_li (f : ce_P) : ce_N := fun L G => match f L G with
  | some S => some ([], S)
  | none => none
theorem ok_li {f : ce_P} (h : ce_OK own nm cc nL ret ht pc f) : ce_OKN own nm cc nL ret ht hh pc (ce_li f) := by
  intro z p l e R s m args below meth c ad0 n0 hC hT T Q hQ L G X Y hf hX hY
  simp only [ce_li] at hf
  split at hf
  · rename_i S hS
    cases hf
    exact h hC L G _ hS hY
  · cases hf
/-- a return -/
def ce_ret0 : ce_N := fun L G => match L.2 with
  | [] => some ([(.inl none, G)], [])
  | _ => none
def ce_ret1 (ty : FieldType) : ce_N := fun L G => match L.2 with
  | [v] => match ce_fit ty v with
    | true => some ([(.inl (some v), G)], [])
    | false => none
  | _ => none
theorem ok_ret0 (d : decode cc pc = .ok (.return_, 1)) (hr : ret = none) : ce_OKN own nm cc nL ret ht hh pc ce_ret0 := by
  intro z p l e R s m args below meth c ad0 n0 hC hT T Q hQ L G X Y hf hX hY ad ls H locs kc ks h1 h2 hl hI hv k1 k2
  obtain ⟨lo, st⟩ := L
  simp only [ce_ret0] at hf
  split at hf
  · cases hf
    refine ce_mono hQ (W.widen (k := R.cells) (n := R.slots) (by omega) (by omega) (vx_ret ?_))
    exact W.vret hC.1 hC.2.1 (hC.2.2.2.2.2.2.1.trans hr) (fun t ht9 hW => ⟨⟨none, G, ad, hX _ (List.mem_singleton.mpr rfl), rfl, h1, h2, by rw [ht9]; exact hI⟩, hv.F ht9⟩) hv.2.2 d hC.2.2.2.2.2.2.2.1
  · cases hf
def ce_reti (ty : FieldType) : ce_N := fun L G => match L.2 with
  | .inl _ :: _ => ce_ret1 ty L G
  | _ => none
theorem ok_reti {ty : FieldType} (d : decode cc pc = .ok (.ireturn, 1)) (hr : ret = some ty) : ce_OKN own nm cc nL ret ht hh pc (ce_reti ty) := by
  intro z p l e R s m args below meth c ad0 n0 hC hT T Q hQ L G X Y hf hX hY ad ls H locs kc ks h1 h2 hl hI hv k1 k2
  obtain ⟨lo, st⟩ := L
  simp only [ce_reti, ce_ret1] at hf
  split at hf
  · rename_i i r
    split at hf
    · rename_i v hst
      split at hf
      · rename_i hfit
        cases hf
        obtain ⟨rfl, rfl⟩ := List.cons.inj hst
        refine ce_mono hQ (W.widen (k := R.cells) (n := R.slots) (by omega) (by omega) (vx_ret ?_))
        exact W.zret (v := ce_vi z i) hC.1 hC.2.1 (hC.2.2.2.2.2.2.1.trans hr) (ce_fit_ok (ce_CXK hC) (ad := ad) hfit).1 (fun t ht9 hW => ⟨⟨some (.inl i), G, ad, hX _ (List.mem_singleton.mpr rfl), rfl, h1, h2, by rw [ht9]; exact hI⟩, hv.F ht9⟩) hv.2.2 d hC.2.2.2.2.2.2.2.1
      · cases hf
    · cases hf
  · cases hf
def ce_retl : ce_N := fun L G => match L.2 with
  | .inr (.inl _) :: _ => ce_ret1 .long L G
  | _ => none
theorem ok_retl (d : decode cc pc = .ok (.lreturn, 1)) (hr : ret = some .long) : ce_OKN own nm cc nL ret ht hh pc ce_retl := by
  intro z p l e R s m args below meth c ad0 n0 hC hT T Q hQ L G X Y hf hX hY ad ls H locs kc ks h1 h2 hl hI hv k1 k2
  obtain ⟨lo, st⟩ := L
  simp only [ce_retl, ce_ret1] at hf
  split at hf
  · rename_i i r
    split at hf
    · rename_i v hst
      split at hf
      · rename_i hfit
        cases hf
        obtain ⟨rfl, rfl⟩ := List.cons.inj hst
        refine ce_mono hQ (W.widen (k := R.cells) (n := R.slots) (by omega) (by omega) (vx_ret ?_))
        exact W.lret (v := ce_vl z i) hC.1 hC.2.1 (hC.2.2.2.2.2.2.1.trans hr) (fun t ht9 hW => ⟨⟨some (.inr (.inl i)), G, ad, hX _ (List.mem_singleton.mpr rfl), rfl, h1, h2, by rw [ht9]; exact hI⟩, hv.F ht9⟩) hv.2.2 d hC.2.2.2.2.2.2.2.1
      · cases hf
    · cases hf
  · cases hf
def ce_isR2 : ce_SV → Bool
  | .inr (.inr (.inl (.inl _))) => true
  | .inr (.inr (.inl (.inr j))) => Nat.blt j 7
  | .inr (.inr (.inr .null)) => true
  | _ => false
theorem ce_isR2_ok {z : ce_U} {s : State} (hK : ce_CK z s) {ad : Nat → Nat} {v : ce_SV} (h : ce_isR2 v = true) : ce_v z ad v = .null ∨ ∃ a, ce_v z ad v = .ref a := by
  match v, h with
  | .inr (.inr (.inl (.inl k))), _ => exact Or.inr ⟨ad k, rfl⟩
  | .inr (.inr (.inl (.inr j))), h =>
    obtain ⟨a, ha⟩ := ce_ext hK j (Nat.lt_of_succ_le (Nat.le_of_ble_eq_true h))
    exact Or.inr ⟨a, ha⟩
  | .inr (.inr (.inr .null)), _ => exact Or.inl rfl
def ce_reta : ce_N := fun L G => match L.2 with
  | [v] => match ce_isR2 v with
    | true => some ([(.inl (some v), G)], [])
    | false => none
  | _ => none
theorem ok_reta {rt : FieldType} (d : decode cc pc = .ok (.areturn, 1)) (hr : ret = some rt) (hrt : (∃ n, rt = .object n) ∨ ∃ t, rt = .array t) : ce_OKN own nm cc nL ret ht hh pc ce_reta := by
  intro z p l e R s m args below meth c ad0 n0 hC hT T Q hQ L G X Y hf hX hY ad ls H locs kc ks h1 h2 hl hI hv k1 k2
  obtain ⟨lo, st⟩ := L
  simp only [ce_reta] at hf
  split at hf
  · rename_i v0 v
    split at hf
    · rename_i hfit
      cases hf
      refine ce_mono hQ (W.widen (k := R.cells) (n := R.slots) (by omega) (by omega) (vx_ret ?_))
      exact W.aret (v := ce_v z ad v) hC.1 hC.2.1 (hC.2.2.2.2.2.2.1.trans hr) hrt (ce_isR2_ok (ce_CXK hC) hfit) (fun t ht9 hW => ⟨⟨some v, G, ad, hX _ (List.mem_singleton.mpr rfl), rfl, h1, h2, by rw [ht9]; exact hI⟩, hv.F ht9⟩) hv.2.2 d hC.2.2.2.2.2.2.2.1
    · cases hf
  · cases hf
def ce_retc (k : Value) : ce_N := fun L G => match L.2 with
  | [.inr (.inr (.inr v))] => match decide (v = k) with
    | true => some ([(.inl (some (.inr (.inr (.inr v)))), G)], [])
    | false => none
  | _ => none
theorem ok_retf {x : UInt32} (d : decode cc pc = .ok (.freturn, 1)) (hr : ret = some .float) : ce_OKN own nm cc nL ret ht hh pc (ce_retc (.float x)) := by
  intro z p l e R s m args below meth c ad0 n0 hC hT T Q hQ L G X Y hf hX hY ad ls H locs kc ks h1 h2 hl hI hv k1 k2
  obtain ⟨lo, st⟩ := L
  simp only [ce_retc] at hf
  split at hf
  · rename_i v0 v
    split at hf
    · rename_i hfit
      cases hf
      have hfit := of_decide_eq_true hfit
      subst hfit
      refine ce_mono hQ (W.widen (k := R.cells) (n := R.slots) (by omega) (by omega) (vx_ret ?_))
      exact W.fret (v := x) hC.1 hC.2.1 (hC.2.2.2.2.2.2.1.trans hr) (fun t ht9 hW => ⟨⟨some (.inr (.inr (.inr (.float x)))), G, ad, hX _ (List.mem_singleton.mpr rfl), rfl, h1, h2, by rw [ht9]; exact hI⟩, hv.F ht9⟩) hv.2.2 d hC.2.2.2.2.2.2.2.1
    · cases hf
  · cases hf
theorem ok_retd {x : UInt64} (d : decode cc pc = .ok (.dreturn, 1)) (hr : ret = some .double) : ce_OKN own nm cc nL ret ht hh pc (ce_retc (.double x)) := by
  intro z p l e R s m args below meth c ad0 n0 hC hT T Q hQ L G X Y hf hX hY ad ls H locs kc ks h1 h2 hl hI hv k1 k2
  obtain ⟨lo, st⟩ := L
  simp only [ce_retc] at hf
  split at hf
  · rename_i v0 v
    split at hf
    · rename_i hfit
      cases hf
      have hfit := of_decide_eq_true hfit
      subst hfit
      refine ce_mono hQ (W.widen (k := R.cells) (n := R.slots) (by omega) (by omega) (vx_ret ?_))
      exact W.dret (v := x) hC.1 hC.2.1 (hC.2.2.2.2.2.2.1.trans hr) (fun t ht9 hW => ⟨⟨some (.inr (.inr (.inr (.double x)))), G, ad, hX _ (List.mem_singleton.mpr rfl), rfl, h1, h2, by rw [ht9]; exact hI⟩, hv.F ht9⟩) hv.2.2 d hC.2.2.2.2.2.2.2.1
    · cases hf
  · cases hf
def ce_drop (i : Nat) (L : List (Nat × ce_SV)) : List (Nat × ce_SV) := L.filter fun x => !(Nat.beq x.1 i) && !(Nat.beq (x.1 + 1) i && ce_c2 x.2)
/-- what a call goes on with -/
def ce_out (L : List (Nat × ce_SV)) (rest : List ce_SV) (r q nx : Nat) (ca : (Nat × Nat × Nat) ⊕ Bool) : ce_R → Option (ce_R × ce_Y)
  | [] => some ([], [])
  | (o, G) :: t => match ce_out L rest r q nx ca t with
    | none => none
    | some XY => match o with
      | .inl none => some (XY.1, (nx, (L, rest), (G.1, G.2.1, r, q)) :: XY.2)
      | .inl (some v) => some (XY.1, (nx, (L, v :: rest), (G.1, G.2.1, r, q)) :: XY.2)
      | .inr k => match ca with
        | .inr true => some ((.inr k, G) :: XY.1, XY.2)
        | .inr false => none
        | .inl h => match Nat.beq k h.1 with
          | true => some (XY.1, (h.2.1, (ce_drop h.2.2 L, []), (G.1, G.2.1, r, q)) :: XY.2)
          | false => none
theorem ce_out_ok {L : List (Nat × ce_SV)} {rest : List ce_SV} {r q nx : Nat} {ca : (Nat × Nat × Nat) ⊕ Bool} : ∀ (S : ce_R) (X : ce_R) (Y : ce_Y), ce_out L rest r q nx ca S = some (X, Y) →
    (∀ G, ((Sum.inl none : ce_O), G) ∈ S → (nx, (L, rest), (G.1, G.2.1, r, q)) ∈ Y) ∧ (∀ v G, ((Sum.inl (some v) : ce_O), G) ∈ S → (nx, (L, v :: rest), (G.1, G.2.1, r, q)) ∈ Y) ∧
    (∀ k G, ((Sum.inr k : ce_O), G) ∈ S → (ca = .inr true ∧ ((Sum.inr k : ce_O), G) ∈ X) ∨ ∃ h, ca = .inl h ∧ k = h.1 ∧ (h.2.1, (ce_drop h.2.2 L, []), (G.1, G.2.1, r, q)) ∈ Y)
  | [], X, Y, h => ⟨fun _ h => (nomatch h), fun _ _ h => (nomatch h), fun _ _ h => (nomatch h)⟩
  | (o, G0) :: t, X, Y, h => by
    simp only [ce_out] at h
    split at h
    · cases h
    · rename_i XY hXY
      obtain ⟨i1, i2, i3⟩ := ce_out_ok t XY.1 XY.2 hXY
      split at h
      · cases h
        refine ⟨fun G hG => ?_, fun v G hG => ?_, fun k G hG => ?_⟩
        · rcases List.mem_cons.mp hG with e | e
          · cases e; exact List.mem_cons_self
          · exact List.mem_cons_of_mem _ (i1 G e)
        · rcases List.mem_cons.mp hG with e | e
          · cases e
          · exact List.mem_cons_of_mem _ (i2 v G e)
        · rcases List.mem_cons.mp hG with e | e
          · cases e
          · rcases i3 k G e with a | ⟨h, a1, a2, a3⟩
            · exact Or.inl a
            · exact Or.inr ⟨h, a1, a2, List.mem_cons_of_mem _ a3⟩
      · cases h
        refine ⟨fun G hG => ?_, fun v G hG => ?_, fun k G hG => ?_⟩
        · rcases List.mem_cons.mp hG with e | e
          · cases e
          · exact List.mem_cons_of_mem _ (i1 G e)
        · rcases List.mem_cons.mp hG with e | e
          · cases e; exact List.mem_cons_self
          · exact List.mem_cons_of_mem _ (i2 v G e)
        · rcases List.mem_cons.mp hG with e | e
          · cases e
          · rcases i3 k G e with a | ⟨h, a1, a2, a3⟩
            · exact Or.inl a
            · exact Or.inr ⟨h, a1, a2, List.mem_cons_of_mem _ a3⟩
      · rename_i k0
        split at h
        · rename_i hca
          cases h
          refine ⟨fun G hG => ?_, fun v G hG => ?_, fun k G hG => ?_⟩
          · rcases List.mem_cons.mp hG with e | e
            · cases e
            · exact i1 G e
          · rcases List.mem_cons.mp hG with e | e
            · cases e
            · exact i2 v G e
          · rcases List.mem_cons.mp hG with e | e
            · cases e; exact Or.inl ⟨rfl, List.mem_cons_self⟩
            · rcases i3 k G e with a | ⟨h, a1, a2, a3⟩
              · exact Or.inl ⟨rfl, List.mem_cons_of_mem _ a.2⟩
              · cases a1
        · cases h
        · rename_i h9
          split at h
          · rename_i hb
            cases h
            refine ⟨fun G hG => ?_, fun v G hG => ?_, fun k G hG => ?_⟩
            · rcases List.mem_cons.mp hG with e | e
              · cases e
              · exact List.mem_cons_of_mem _ (i1 G e)
            · rcases List.mem_cons.mp hG with e | e
              · cases e
              · exact List.mem_cons_of_mem _ (i2 v G e)
            · rcases List.mem_cons.mp hG with e | e
              · cases e; exact Or.inr ⟨h9, rfl, Nat.eq_of_beq_eq_true hb, List.mem_cons_self⟩
              · rcases i3 k G e with a | ⟨h, a1, a2, a3⟩
                · cases a.1
                · exact Or.inr ⟨h, a1, a2, List.mem_cons_of_mem _ a3⟩
          · cases h
def ce_ck (L : List (Nat × ce_SV)) (rest : List ce_SV) (n mc ms r q : Nat) : Bool := Nat.ble (ce_wt rest) 8 && (Nat.ble mc r && (Nat.ble ms q && (L.all (fun x => ce_wv n x.2) && rest.all (ce_wv n))))
def ce_call (na mc ms nx : Nat) (ca : (Nat × Nat × Nat) ⊕ Bool) (F : ce_C) : ce_N := fun L G => match ce_take na L.2 [] with
  | none => none
  | some ar => match ce_ck L.1 ar.2 G.2.1.length mc ms G.2.2.1 G.2.2.2 with
    | false => none
    | true => match F ar.1 G with
      | none => none
      | some S => ce_out L.1 ar.2 (G.2.2.1 - mc) (G.2.2.2 - ms) nx ca S
/-- the call's run, whatever its kind -/
def ce_RU (own nm : String) (cc : ByteArray) (nL : Nat) (ret : Option FieldType) (ht pc na mc ms nx : Nat) (F : ce_C) : Prop :=
  ∀ {z : ce_U} {p : Program} {l : Launch} {e : Env} {R : Room} {s : State} {m : MethodId} {args : Array Value} {below : List Frame} {meth : Method} {c : Code}, ce_CX z p l R s m args meth c own nm cc nL ret ht →
    ∀ (ad : Nat → Nat) (as rest : List ce_SV) (G : ce_G) (S : ce_R) (ls : Array Slot) (H : Heap) (locs : List Loc) (kc ks : Nat), F as G = some S → as.length = na → ls.size = nL → ce_Inv z ad G H → va_S (ce_A z) s.heap H locs → ((rest.map (ce_v z ad)).map fun v => v.category).sum ≤ 8 → kc + mc ≤ R.cells → ks + ms ≤ R.slots →
      ∃ aa, ce_Rn nx p l e R s m args below meth c H locs kc ks mc ms (F0 m pc ls ((as.map (ce_v z ad)).reverse ++ rest.map (ce_v z ad))) (rest.map (ce_v z ad)) (ce_Qc z ad G.2.1.length S aa) (ce_XC z ad G.2.1.length S) (ce_A z)
/-- what catches at this pc, if anything does: the first row of the table, its handler's first step being a store -/
def ce_CA (own : String) (cc : ByteArray) (nL : Nat) (hh : Option (List (Nat × Nat × Nat × Nat))) (pc : Nat) : (Nat × Nat × Nat) ⊕ Bool → Prop
  | .inr true => hh = some []
  | .inr false => True
  | .inl h => ∃ (h0 : List (Nat × Nat × Nat × Nat)) (x : ExceptionTableEntry) (suf : List ExceptionTableEntry) (k : Fin 4), hh = some h0 ∧ tableOf h0 = x :: suf ∧ covers x pc = true ∧ x.catchType ≠ 0 ∧ Cond.classLink own x.catchType (ce_ex h.1) ∈ ce_GW ∧ Cond.castable (ce_ex h.1) (ce_ex h.1) ∈ ce_NG ∧ ((decode cc x.handlerPc = .ok (.astore_n k, 1) ∧ (k : Nat) = h.2.2 ∧ x.handlerPc + 1 = h.2.1) ∨ (decode cc x.handlerPc = .ok (.astore h.2.2, 2) ∧ x.handlerPc + 2 = h.2.1)) ∧ h.2.2 < nL
theorem ok_call {na mc ms nx : Nat} {ca : (Nat × Nat × Nat) ⊕ Bool} {F : ce_C} (hF : ce_RU own nm cc nL ret ht pc na mc ms nx F) (hca : ce_CA own cc nL hh pc ca) : ce_OKN own nm cc nL ret ht hh pc (ce_call na mc ms nx ca F) := by
  intro z p l e R s m args below meth c ad0 n0 hC hT T Q hQ L G X Y hf hX hY ad ls H locs kc ks h1 h2 hl hI hv k1 k2
  obtain ⟨lo, st⟩ := L
  simp only [ce_call] at hf
  split at hf
  · cases hf
  · rename_i ar har
    obtain ⟨as, rest⟩ := ar
    dsimp only at hf
    split at hf
    · cases hf
    · rename_i hck
      simp only [ce_ck, Bool.and_eq_true] at hck
      obtain ⟨b1, b2, b3, b4, b5⟩ := hck
      have b1 := Nat.le_of_ble_eq_true b1
      have b2 := Nat.le_of_ble_eq_true b2
      have b3 := Nat.le_of_ble_eq_true b3
      split at hf
      · cases hf
      · rename_i S hS
        obtain ⟨o1, o2, o3⟩ := ce_out_ok S X Y hf
        obtain ⟨est, elen⟩ := ce_take_st har
        subst est
        obtain ⟨aa, hr⟩ := hF hC (e := e) (below := below) ad as rest G S ls H locs kc ks hS elen hl.1 hI hv (Nat.le_trans (ce_wt_ok (ce_CXK hC) rest) b1) (by omega) (by omega)
        show W _ _ _ _ _ _ _ _ _ _ _ _ _ _ _ (F0 m pc ls ((as.reverse ++ rest).map (ce_v z ad)))
        rw [List.map_append, List.map_reverse]
        have hlo : ∀ (G1 : ce_G) (ad1 : Nat → Nat) (H1 : Heap), ce_B z ad G.2.1.length G1 ad1 H1 → lo.map (fun x => (x.1, ce_v z ad1 x.2)) = lo.map (fun x => (x.1, ce_v z ad x.2)) := fun G1 ad1 H1 hB => ce_loc_congr hB.1 b4
        have hre : ∀ (G1 : ce_G) (ad1 : Nat → Nat) (H1 : Heap), ce_B z ad G.2.1.length G1 ad1 H1 → rest.map (ce_v z ad1) = rest.map (ce_v z ad) := fun G1 ad1 H1 hB => ce_map_congr hB.1 b5
        refine ce_after hr hv (fun k G1 ad1 H1 locs1 ce q9 hm hB hv1 hce hcv hcl => ?_) (fun o G1 ad1 H1 locs1 hm hB hv1 => ?_)
        · rcases o3 k G1 hm with ⟨hn, hx⟩ | ⟨h, hca9, hk, hy⟩
          · subst hn
            have hT0 : c.exceptionTable.toList = [] := by rw [hT [] hca]; rfl
            refine ce_monoX hQ (vx_widen (k := R.cells) (n := R.slots) (by omega) (by omega) ?_)
            exact vx_out (by rw [hT0]; exact fun x hx => nomatch hx) hC.2.2.2.2.2.2.2.1 hce hcv hcl (fun t ht9 hW => ⟨⟨k, G1, ad1, hX _ hx, rfl, fun i hi => (hB.1 i (Nat.lt_of_lt_of_le hi h2)).trans (h1 i hi), Nat.le_trans h2 hB.2.1, by rw [ht9]; exact hB.2.2⟩, hv1.F ht9⟩) hv1.2.2 (Nat.le_refl _) (Nat.le_refl _)
          · subst hca9
            subst hk
            obtain ⟨hh0, x, suf, kk, t0, t1, t2, t3, t4, t5, t6, t10⟩ := hca
            refine vx_catch (name := ce_ex h.1) hC.2.2.2.1 [] x suf (by rw [hT hh0 t0, t1]; rfl) (fun z hz => nomatch hz) t2 t3 (hC.2.2.2.2.1 _ t4) (va_Nw.use rfl ((ce_CXK hC).2.2.2.1.1 _ t5)) hce hcv hcl ?_
            have hgo : ∀ ls' : Array Slot, lv_has ls' nL ((h.2.2, Value.ref q9) :: (lo.map (fun x => (x.1, ce_v z ad x.2))).filter (fun q => !(q.1 == h.2.2) && !(q.1 + 1 == h.2.2 && q.2.category == 2))) → W p l e R s m args below meth c H1 locs1 (kc + mc) (ks + ms) Q (F0 m h.2.1 ls' []) := fun ls' hl' => by
              refine hY _ hy ad1 ls' H1 locs1 (kc + mc) (ks + ms) (fun i hi => (hB.1 i (Nat.lt_of_lt_of_le hi h2)).trans (h1 i hi)) (Nat.le_trans h2 hB.2.1) (ce_has_sub hl' (fun y hy9 => ?_)) hB.2.2 hv1 (by dsimp only; omega) (by dsimp only; omega)
              obtain ⟨w, hw, rfl⟩ := List.mem_map.mp hy9
              obtain ⟨w1, w2⟩ := List.mem_filter.mp hw
              have e9 : (w.1, ce_v z ad1 w.2) = (w.1, ce_v z ad w.2) := by rw [ce_v_congr hB.1 (List.all_eq_true.mp b4 w w1)]
              rw [e9]
              refine List.mem_cons_of_mem _ (List.mem_filter.mpr ⟨List.mem_map.mpr ⟨w, w1, rfl⟩, ?_⟩)
              simp only [Bool.and_eq_true, Bool.not_eq_true'] at w2
              refine ce_f1 w2.1 (fun hb => ce_cat (ce_CXK hC) ?_)
              have w3 := w2.2
              rw [hb] at w3
              simpa using w3
            rcases t6 with ⟨t7, t8, t9⟩ | ⟨t7, t9⟩
            · refine lv_astore_n (lv := lo.map (fun x => (x.1, ce_v z ad x.2))) hC.1 hC.2.1 t7 t8 hl t10 rfl (fun ls' hl' => ?_)
              rw [t9]
              exact hgo ls' hl'
            · refine lv_astore (lv := lo.map (fun x => (x.1, ce_v z ad x.2))) hC.1 hC.2.1 t7 hl t10 rfl (fun ls' hl' => ?_)
              rw [t9]
              exact hgo ls' hl'
        · cases o with
          | none =>
            have hgo := hY _ (o1 G1 hm) ad1 ls H1 locs1 (kc + mc) (ks + ms) (fun i hi => (hB.1 i (Nat.lt_of_lt_of_le hi h2)).trans (h1 i hi)) (Nat.le_trans h2 hB.2.1) (by rw [hlo G1 ad1 H1 hB]; exact hl) hB.2.2 hv1 (by dsimp only; omega) (by dsimp only; omega)
            rw [hre G1 ad1 H1 hB] at hgo
            exact hgo
          | some v =>
            have hgo := hY _ (o2 v G1 hm) ad1 ls H1 locs1 (kc + mc) (ks + ms) (fun i hi => (hB.1 i (Nat.lt_of_lt_of_le hi h2)).trans (h1 i hi)) (Nat.le_trans h2 hB.2.1) (by rw [hlo G1 ad1 H1 hB]; exact hl) hB.2.2 hv1 (by dsimp only; omega) (by dsimp only; omega)
            rw [List.map_cons, hre G1 ad1 H1 hB] at hgo
            exact hgo
end Call
end
section
/-! the runner: a method's run over its table of steps, and its contract -/
def ce_app (a : ce_R) (b : Option ce_R) : Option ce_R := match a with
  | [] => b
  | x :: t => match b with
    | some r => some ((x :: t) ++ r)
    | none => none
theorem ce_app_ok {a S : ce_R} {b : Option ce_R} (h : ce_app a b = some S) : ∃ r, b = some r ∧ (∀ x ∈ a, x ∈ S) ∧ ∀ x ∈ r, x ∈ S := by
  unfold ce_app at h
  split at h
  · exact ⟨S, h, fun _ h => (nomatch h), fun _ h => h⟩
  · split at h
    · rename_i r
      cases h
      exact ⟨r, rfl, fun x hx => List.mem_append_left _ hx, fun x hx => List.mem_append_right _ hx⟩
    · cases h
def ce_col (g : Nat → ce_L → ce_G → Option ce_R) : ce_Y → Option ce_R
  | [] => some []
  | y :: t => match t with
    | [] => g y.1 y.2.1 y.2.2
    | _ :: _ => match g y.1 y.2.1 y.2.2 with
      | none => none
      | some a => match ce_col g t with
        | none => none
        | some b => some (a ++ b)
theorem ce_col_ok {g : Nat → ce_L → ce_G → Option ce_R} : ∀ (Y : ce_Y) (S : ce_R), ce_col g Y = some S → ∀ y ∈ Y, ∃ Sy, g y.1 y.2.1 y.2.2 = some Sy ∧ ∀ x ∈ Sy, x ∈ S
  | [], S, h, y, hy => nomatch hy
  | y0 :: t, S, h, y, hy => by
    unfold ce_col at h
    split at h
    · have e : y = y0 := List.mem_singleton.mp hy
      rw [e]
      exact ⟨S, h, fun _ h => h⟩
    · split at h
      · cases h
      · rename_i a ha
        split at h
        · cases h
        · rename_i b hb
          cases h
          rcases List.mem_cons.mp hy with e | e
          · rw [e]
            exact ⟨a, ha, fun x hx => List.mem_append_left _ hx⟩
          · obtain ⟨Sy, i1, i2⟩ := ce_col_ok _ b hb y e
            exact ⟨Sy, i1, fun x hx => List.mem_append_right _ (i2 x hx)⟩
/-- a list's first cell is reckoned before it is handed on -/
def ce_fl {α β : Type} (l : List α) (k : List α → β) : β := match l with
  | [] => k []
  | x :: r => k (x :: r)
theorem ce_fl_eq {α β : Type} (l : List α) (k : List α → β) : ce_fl l k = k l := by cases l <;> rfl
def ce_nf {β : Type} (L : ce_L) (G : ce_G) (k : ce_L → ce_G → β) : β := match L, G with
  | (a, b), (x, c, r, q) => ce_fl a fun a => ce_fl b fun b => ce_fl x fun x => ce_fl c fun c => k (a, b) (x, c, r, q)
theorem ce_nf_eq {β : Type} (L : ce_L) (G : ce_G) (k : ce_L → ce_G → β) : ce_nf L G k = k L G := by
  obtain ⟨a, b⟩ := L
  obtain ⟨x, c, r, q⟩ := G
  simp only [ce_nf, ce_fl_eq]
noncomputable def ce_go (tab : Nat → Option ce_N) (n : Nat) : Nat → ce_L → ce_G → Option ce_R :=
  Nat.rec (motive := fun _ => Nat → ce_L → ce_G → Option ce_R) (fun _ _ _ => none)
    (fun _ ih pc L G => match tab pc with
      | none => none
      | some f => ce_nf L G fun L G => match f L G with
        | none => none
        | some (X, Y) => ce_app X (ce_col ih Y)) n
theorem ce_go_succ (tab : Nat → Option ce_N) (n pc : Nat) (L : ce_L) (G : ce_G) : ce_go tab (n + 1) pc L G = match tab pc with
      | none => none
      | some f => ce_nf L G fun L G => match f L G with
        | none => none
        | some (X, Y) => ce_app X (ce_col (ce_go tab n) Y) := rfl
theorem ce_go_ok {own nm : String} {cc : ByteArray} {nL : Nat} {ret : Option FieldType} {ht : Nat} {hh : Option (List (Nat × Nat × Nat × Nat))} {tab : Nat → Option ce_N} (htab : ∀ pc f, tab pc = some f → ce_OKN own nm cc nL ret ht hh pc f)
    {z : ce_U} {p : Program} {l : Launch} {e : Env} {R : Room} {s : State} {m : MethodId} {args : Array Value} {below : List Frame} {meth : Method} {c : Code} {ad0 : Nat → Nat} {n0 : Nat}
    (hC : ce_CX z p l R s m args meth c own nm cc nL ret ht) (hT : ∀ h, hh = some h → c.exceptionTable.toList = tableOf h) (T : ce_R) (Q : State → Prop) (hQ : ∀ t, ce_Qm z R s args below ad0 n0 T t → Q t) : ∀ (n pc : Nat) (L : ce_L) (G : ce_G) (S : ce_R), ce_go tab n pc L G = some S → (∀ x ∈ S, x ∈ T) → ce_WS z p l e R s m args below meth c Q nL ad0 n0 pc L G
  | 0, pc, L, G, S, h, hS => by cases h
  | n + 1, pc, L, G, S, h, hS => by
    rw [ce_go_succ] at h
    split at h
    · cases h
    · rename_i f hf
      rw [ce_nf_eq] at h
      split at h
      · cases h
      · rename_i X Y hXY
        obtain ⟨r, h1, h2, h3⟩ := ce_app_ok h
        refine htab pc f hf hC hT T Q hQ L G X Y hXY (fun x hx => hS x (h2 x hx)) (fun y hy => ?_)
        obtain ⟨Sy, i1, i2⟩ := ce_col_ok Y r h1 y hy
        exact ce_go_ok htab hC hT T Q hQ n y.1 y.2.1 y.2.2 Sy i1 (fun x hx => hS x (h3 x (i2 x hx)))
/-- is it known how many places a value takes -/
def ce_ax : ce_SV → Bool
  | .inr (.inr (.inl (.inr j))) => Nat.blt j 8
  | _ => true
def ce_args : Nat → List ce_SV → List (Nat × ce_SV)
  | _, [] => []
  | i, v :: vs => (i, v) :: ce_args (match ce_c2 v with | true => i + 2 | false => i + 1) vs
theorem ce_c2_cat {z : ce_U} {ad : Nat → Nat} {v : ce_SV} (ha : ce_ax v = true) (h : ce_c2 v = true) : (ce_v z ad v).category = 2 := by
  match v, ha, h with
  | .inr (.inl _), _, _ => rfl
  | .inr (.inr (.inl (.inr j))), ha, h =>
    have h1 := Nat.le_of_ble_eq_true ha
    have h2 := Nat.le_of_ble_eq_true h
    omega
  | .inr (.inr (.inr v)), _, h => exact Nat.eq_of_beq_eq_true h
theorem ce_lv_args {z : ce_U} {s : State} (hK : ce_CK z s) {ad : Nat → Nat} : ∀ (vs : List ce_SV) (i : Nat), vs.all ce_ax = true → lv_args i (vs.map (ce_v z ad)) = (ce_args i vs).map fun q => (q.1, ce_v z ad q.2)
  | [], i, h => rfl
  | v :: vs, i, h => by
    simp only [List.all_cons, Bool.and_eq_true] at h
    simp only [List.map_cons, lv_args, ce_args]
    cases hc : ce_c2 v with
    | true =>
      rw [if_pos (ce_c2_cat h.1 hc)]
      exact congrArg _ (ce_lv_args hK vs _ h.2)
    | false =>
      rw [if_neg (by rw [ce_cat hK hc]; decide)]
      exact congrArg _ (ce_lv_args hK vs _ h.2)
theorem ce_sl_len {z : ce_U} {s : State} (hK : ce_CK z s) {ad : Nat → Nat} : ∀ (vs : List ce_SV), (lg_sl (vs.map (ce_v z ad))).length ≤ ce_wt vs
  | [] => Nat.le_refl _
  | v :: vs => by
    have ih := ce_sl_len hK (ad := ad) vs
    simp only [lg_sl] at ih
    simp only [lg_sl, List.map_cons, List.flatMap_cons, List.length_append, ce_wt]
    cases hc : ce_c2 v with
    | true =>
      have : (if (ce_v z ad v).category = 2 then [Slot.val (ce_v z ad v), Slot.second] else [Slot.val (ce_v z ad v)]).length ≤ 2 := by split <;> simp
      simp only []
      omega
    | false =>
      rw [if_neg (by rw [ce_cat hK hc]; decide)]
      simp only [List.length_cons, List.length_nil]
      omega
/-- a method's run from its arguments -/
noncomputable def ce_M (tab : Nat → Option ce_N) (nL mc ms fuel : Nat) : ce_C := fun avs G => match avs.all ce_ax && Nat.ble (ce_wt avs) nL with
  | true => ce_go tab fuel 0 (ce_args 0 avs, []) (G.1, G.2.1, mc, ms)
  | false => none
/-- a method's contract, for every state that the run answers for -/
def ce_MS (l : Launch) (y : MethodName) (hd : Cond) (ht mc ms : Nat) (F : ce_C) : Prop := ∀ (z : ce_U) (ad : Nat → Nat) (avs : List ce_SV) (G : ce_G) (S : ce_R), F avs G = some S →
  vx_Met l y (hd :: ce_GW) ({ frames := 8 + ht, cells := mc, slots := ms, locals := 100 * (ht + 2) } : Room) (ce_Pc z ad avs G) (ce_Qc z ad G.2.1.length S) (ce_XC z ad G.2.1.length S) mc ms (ce_A z)
theorem ce_enter {l : Launch} {y : MethodName} {cc : ByteArray} {nL : Nat} {ret : Option FieldType} {ht mc ms fuel : Nat} {hh : Option (List (Nat × Nat × Nat × Nat))} {tab : Nat → Option ce_N} {hd : Cond} (htab : ∀ pc f, tab pc = some f → ce_OKN y.cls y.name cc nL ret ht hh pc f) (hl : l.stackTraces = false)
    {z : ce_U} {ad : Nat → Nat} {avs : List ce_SV} {G : ce_G} {S : ce_R} (hF : ce_M tab nL mc ms fuel avs G = some S)
    {p : Program} {e : Env} {s : State} {m : MethodId} {args : Array Value} {below : List Frame} {meth : Method} {c : Code} {s₁ : State}
    (B : BodyLoose p l y (headSpec (hd :: ce_GW) ({ frames := 8 + ht, cells := mc, slots := ms, locals := 100 * (ht + 2) } : Room)) cc nL ret e s m args below meth c s₁) (hml : c.maxLocals = nL) (hT : ∀ h, hh = some h → c.exceptionTable.toList = tableOf h) (hP : ce_Pc z ad avs G args s) :
    W p l e (headSpec (hd :: ce_GW) ({ frames := 8 + ht, cells := mc, slots := ms, locals := 100 * (ht + 2) } : Room)).room s m args below meth c s.heap [] 0 0 (vx_MQ below (ce_Qc z ad G.2.1.length S) (ce_XC z ad G.2.1.length S) args s mc ms (ce_A z)) (entryFrame m args nL) := by
  obtain ⟨rfl, hK, hI⟩ := hP
  simp only [ce_M] at hF
  split at hF
  · rename_i hb
    simp only [Bool.and_eq_true] at hb
    have hts := atoms_spec (ws := hd :: ce_GW) B.pre
    have hC : ce_CX z p l ({ frames := 8 + ht, cells := mc, slots := ms, locals := 100 * (ht + 2) } : Room) s m ((avs.map (ce_v z ad)).toArray) meth c y.cls y.name cc nL ret ht :=
      ⟨B.exec, B.bytes, hml, findClass_of_methodNamed B.named, fun w hw => hts w (List.mem_cons_of_mem _ hw), (name_of_methodNamed B.named B.method).1, B.returns, B.notSynchronized, ⟨hl, Nat.le_refl _, Nat.le_refl _⟩, hK⟩
    have hlen : (lg_sl (avs.map (ce_v z ad))).length ≤ nL := Nat.le_trans (ce_sl_len hK avs) (Nat.le_of_ble_eq_true hb.2)
    have hl9 := lv_entry (avs.map (ce_v z ad)) hlen
    rw [ce_lv_args hK avs 0 hb.1] at hl9
    rw [lg_entry_eq]
    exact ce_go_ok htab hC hT S _ (fun _ h => h) fuel 0 _ _ S hF (fun _ h => h) ad _ s.heap [] 0 0 (fun _ _ => rfl) (Nat.le_refl _) hl9 hI va_S.rf (by show 0 + mc ≤ mc; omega) (by show 0 + ms ≤ ms; omega)
  · cases hF
theorem ce_met {l : Launch} (hl : l.stackTraces = false) {y : MethodName} {cc : ByteArray} {nL : Nat} {ret : Option FieldType} {ht mc ms fuel : Nat} {tab : Nat → Option ce_N} (hy : plainName y.cls = true) (htab : ∀ pc f, tab pc = some f → ce_OKN y.cls y.name cc nL ret ht (some []) pc f) : ce_MS l y (.code y cc nL ret) ht mc ms (ce_M tab nL mc ms fuel) := by
  intro z ad avs G S hF
  refine vx_ofW (cc := cc) (maxL := nL) (ret := ret) hy rfl ?_
  intro p e s m args below meth c s₁ B hml hx0 hP
  exact ce_enter htab hl hF B hml (fun h hh => by cases hh; exact List.eq_nil_iff_forall_not_mem.mpr hx0) hP
theorem ce_metW {l : Launch} (hl : l.stackTraces = false) {y : MethodName} {cc : ByteArray} {nL : Nat} {ret : Option FieldType} {hh : List (Nat × Nat × Nat × Nat)} {ht mc ms fuel : Nat} {tab : Nat → Option ce_N} (hy : plainName y.cls = true) (htab : ∀ pc f, tab pc = some f → ce_OKN y.cls y.name cc nL ret ht (some hh) pc f) : ce_MS l y (.codeWith y cc nL ret hh) ht mc ms (ce_M tab nL mc ms fuel) := by
  intro z ad avs G S hF
  refine vx_ofWH (cc := cc) (maxL := nL) (ret := ret) (hh := hh) hy rfl ?_
  intro p e s m args below meth c s₁ B hml hP
  have hw := atoms_spec (ws := Cond.codeWith y cc nL ret hh :: ce_GW) B.pre _ List.mem_cons_self
  exact ce_enter htab hl hF B hml (fun h e9 => by cases e9; exact vx_table (x := y) B hw) hP
/-! tables of steps -/
def ce_fd : List (Nat × ce_N) → Nat → Option ce_N
  | [], _ => none
  | x :: r, pc => match Nat.beq x.1 pc with
    | true => some x.2
    | false => ce_fd r pc
def ce_tr (n : Nat) (a b : Nat → Option ce_N) : Nat → Option ce_N := fun pc => match Nat.blt pc n with
  | true => a pc
  | false => b pc
theorem ce_fd_ok {P : Nat → ce_N → Prop} : ∀ {t : List (Nat × ce_N)}, (∀ x ∈ t, P x.1 x.2) → ∀ pc f, ce_fd t pc = some f → P pc f
  | [], _, pc, f, e => by cases e
  | x :: r, h, pc, f, e => by
    unfold ce_fd at e
    split at e
    · rename_i hb
      cases e
      rw [← Nat.eq_of_beq_eq_true hb]
      exact h x List.mem_cons_self
    · exact ce_fd_ok (fun y hy => h y (List.mem_cons_of_mem _ hy)) pc f e
theorem ce_tr_ok {P : Nat → ce_N → Prop} {n : Nat} {a b : Nat → Option ce_N} (ha : ∀ pc f, a pc = some f → P pc f) (hb : ∀ pc f, b pc = some f → P pc f) : ∀ pc f, ce_tr n a b pc = some f → P pc f := by
  intro pc f h
  unfold ce_tr at h
  split at h
  · exact ha pc f h
  · exact hb pc f h
theorem ce_fc {P : Nat → ce_N → Prop} {pc : Nat} {f : ce_N} {t : List (Nat × ce_N)} (h : P pc f) (ht : ∀ x ∈ t, P x.1 x.2) : ∀ x ∈ (pc, f) :: t, P x.1 x.2 := fun x hx => by
  rcases List.mem_cons.mp hx with e | e
  · rw [e]; exact h
  · exact ht x e
theorem ce_fn {P : Nat → ce_N → Prop} : ∀ x ∈ ([] : List (Nat × ce_N)), P x.1 x.2 := fun _ h => nomatch h
theorem ca_t {own : String} {cc : ByteArray} {nL pc : Nat} : ce_CA own cc nL (some []) pc (.inr true) := rfl
theorem ca_f {own : String} {cc : ByteArray} {nL pc : Nat} {hh : Option (List (Nat × Nat × Nat × Nat))} : ce_CA own cc nL hh pc (.inr false) := trivial
end
section
/-! the kinds of calls -/
/-- a receiver whose class is known -/
def ce_rc (ci : Nat) (v : ce_SV) (G : ce_G) : Bool := match v with
  | .inr (.inr (.inl (.inl k))) => match ce_obj G k with
    | some x => Nat.beq x.1 ci
    | none => false
  | .inr (.inr (.inl (.inr j))) => Nat.beq ci 0 && (Nat.beq j 2 || Nat.beq j 4)
  | _ => false
theorem ce_rc_ok {z : ce_U} {s : State} {ad : Nat → Nat} {G : ce_G} {H : Heap} {locs : List Loc} (hK : ce_CK z s) (hI : ce_Inv z ad G H) (hv : va_S (ce_A z) s.heap H locs) {ci : Nat} {C : String} {T : u_T} {N : Nat} (hc : ce_cl[ci]? = some (C, T, N)) {v : ce_SV} (h : ce_rc ci v G = true) :
    ∃ b, ce_v z ad v = .ref b ∧ ∃ cell : Cell, H[b]? = some cell ∧ cell.vm.isStatics = false ∧ s.vm.findClass C = some cell.cls := by
  unfold ce_rc at h
  split at h
  · rename_i k
    split at h
    · rename_i x hx
      have hci := Nat.eq_of_beq_eq_true h
      obtain ⟨y1, y2⟩ := x
      dsimp only at hci
      subst hci
      exact ⟨ad k, rfl, va_recv hK.1 hI.1 hc (ce_obj_at (z := z) (ad := ad) hx).2⟩
    · cases h
  · rename_i j
    simp only [Bool.and_eq_true, Bool.or_eq_true] at h
    obtain ⟨h0, h1⟩ := h
    have h0 := Nat.eq_of_beq_eq_true h0
    subst h0
    cases hc
    obtain ⟨aK, aV, e2, e3, e4, e5, hE, -, -⟩ := hK.2.2.2.2.2.2.1
    have hE2 := hE.kept hv.2.1
    rcases h1 with h1 | h1
    · have h1 := Nat.eq_of_beq_eq_true h1
      subst h1
      obtain ⟨cell, c1, c2, c3, -⟩ := (hE2.1 0 (by omega)).1
      exact ⟨aK 0, e2, cell, c1, c2, c3⟩
    · have h1 := Nat.eq_of_beq_eq_true h1
      subst h1
      obtain ⟨cell, c1, c2, c3, -⟩ := (hE2.1 1 (by omega)).1
      exact ⟨aK 1, e4, cell, c1, c2, c3⟩
  · cases h
def ce_CV (ci : Nat) (F : ce_C) : ce_C := fun as G => match as with
  | v :: _ => match ce_rc ci v G with
    | true => F as G
    | false => none
  | [] => none
def ce_isC : ce_SV → Bool
  | .inr (.inr (.inl (.inl _))) => true
  | _ => false
def ce_CI (F : ce_C) : ce_C := fun as G => match as with
  | v :: _ => match ce_isC v with
    | true => F as G
    | false => none
  | [] => none
section Kinds
variable {own nm : String} {cc : ByteArray} {nL : Nat} {ret : Option FieldType} {ht pc : Nat}
abbrev ce_CXl {z : ce_U} {p : Program} {l : Launch} {R : Room} {s : State} {m : MethodId} {args : Array Value} {meth : Method} {c : Code} (hC : ce_CX z p l R s m args meth c own nm cc nL ret ht) : l.stackTraces = false ∧ 8 + ht ≤ R.frames ∧ 100 * (ht + 2) ≤ R.locals := hC.2.2.2.2.2.2.2.2.1
theorem ce_fix {z : ce_U} {p : Program} {l : Launch} {R : Room} {s : State} {m : MethodId} {args : Array Value} {meth : Method} {c : Code} (hC : ce_CX z p l R s m args meth c own nm cc nL ret ht) : CallFix p m c cc nL s args ce_GW own := ⟨hC.1, hC.2.1, hC.2.2.1, hC.2.2.2.1, hC.2.2.2.2.1⟩
theorem ce_PcU {z : ce_U} {s : State} {ad : Nat → Nat} {G : ce_G} {H : Heap} {locs : List Loc} {as : List ce_SV} (hK : ce_CK z s) (hI : ce_Inv z ad G H) (hv : va_S (ce_A z) s.heap H locs) : ∀ U : State, U.heap = H → s.WarmedH U.vm → ce_Pc z ad as G (as.map (ce_v z ad)).toArray U :=
  fun U hU hW => ⟨rfl, ce_next hK hU hW hv, by rw [hU]; exact hI⟩
theorem ru_V {ht2 mc ms n index maxL ci N : Nat} {C : String} {Tf : u_T} {y : MethodName} {bytes : ByteArray} {ret2 : Option FieldType} {F : ce_C} (hM : ∀ l : Launch, l.stackTraces = false → ce_MS l y (.code y bytes maxL ret2) ht2 mc ms F) (hh2 : ht2 + 1 ≤ ht) (hmx : maxL ≤ 81)
    (hc : ce_cl[ci]? = some (C, Tf, N)) (g0 : Cond.code y bytes maxL ret2 ∈ ce_GW) (g1 : Cond.methodLink own index y ∈ ce_GW) (g2 : Cond.instanceMethod y ∈ ce_GW) (g3 : Cond.selects C y y ∈ ce_GW) (g4 : Cond.initialized C ∈ ce_GW)
    (hd : y.cls = C ∧ y.cls ≠ "java/lang/invoke/MethodHandle" ∧ y.cls ≠ "java/lang/invoke/VarHandle" ∧ (parseMethodDescriptor y.desc).map (fun d => d.parameters.length) = some n) (d : decode cc pc = .ok (.invokevirtual index, 3)) : ce_RU own nm cc nL ret ht pc (n + 1) mc ms (pc + 3) (ce_CV ci F) := by
  intro z p l e R s m args below meth c hC ad as rest G S ls H locs kc ks hF hn hls hI hv hw kc1 ks1
  obtain ⟨hl, hfr, hlo⟩ := ce_CXl hC
  match as, hn, hF with
  | v :: as2, hn, hF =>
    simp only [ce_CV] at hF
    split at hF
    · rename_i hrc
      obtain ⟨b, hb, hcell⟩ := ce_rc_ok (ce_CXK hC) hI hv hc hrc
      have hPU := ce_PcU (as := v :: as2) (ce_CXK hC) hI hv
      have hMet := hM l hl z ad (v :: as2) G S hF
      have hGi : GoodIn ce_GW (wsV own index C y (.code y bytes maxL ret2 :: ce_GW)) := ce_gia (fun w hw => by
        simp only [List.mem_cons, List.not_mem_nil, or_false] at hw
        rcases hw with rfl | rfl | rfl | rfl
        · exact g1
        · exact g2
        · exact g3
        · exact g4) (ce_gi2 g0)
      rw [List.map_cons, hb] at hPU
      rw [List.map_cons, hb]
      refine ⟨(Value.ref b :: as2.map (ce_v z ad)).toArray, ?_⟩
      exact vx_runV (As := as2.map (ce_v z ad)) (C := C) (b := b) (ce_fix hC) hMet (cwV n hC.2.2.2.2.1 hGi rfl rfl rfl hd ⟨by show 8 + ht2 + 1 ≤ R.frames; omega, by show 8 + (maxL + 11) + 100 * (ht2 + 2) ≤ R.locals; omega⟩) ⟨ce_Pc_blind, hcell, hPU⟩ rfl (by rw [List.length_map]; exact Nat.succ.inj hn) hls (by simp) (lv_room hw) d ⟨kc1, ks1⟩
    · cases hF
theorem ce_selP {C : String} {y y0 : MethodName} {args : Array Value} {s : State} (hy : y.cls ≠ "java/lang/invoke/MethodHandle" ∧ y.cls ≠ "java/lang/invoke/VarHandle") (h0 : (Cond.selects C y0 y0).before args s = true) (hcls : y0.cls = y.cls) (hpriv : (Cond.privateMethod y).before args s = true) (hinst : (Cond.instanceMethod y).before args s = true) : (Cond.selects C y y).before args s = true := by
  obtain ⟨c2, r2, m2, q1, q2, q3, q4, kP, hkP, hkPi⟩ := Cond.selects_spec h0
  obtain ⟨mk, methM, hnamed, hmethM, -, -⟩ := Cond.instanceMethod_spec hinst
  have hfound : s.methodFound? y.cls y.name y.desc = some mk := State.methodFound?_of_named hnamed hy
  have hsel : selectMethod {} s.vm c2 mk = .method mk := selectMethod_private hmethM (Cond.privateMethod_at hpriv mk methM hnamed hmethM)
  have e1 := findClass_of_methodNamed hnamed
  have e2 := findClass_of_methodNamed q3
  rw [hcls] at e2
  have e3 : mk.cls = m2.cls := Option.some.inj (e1.symm.trans e2)
  simp only [Cond.before, Cond.holds, Cond.value, q1, hfound, hnamed, hsel, e3, hkP]
  simp [hkPi]
/-- a method of a class above, found by the receiver -/
theorem ru_U {ht2 mc ms n index maxL ci N : Nat} {C : String} {Tf : u_T} {y : MethodName} {bytes : ByteArray} {ret2 : Option FieldType} {F : ce_C} (hM : ∀ l : Launch, l.stackTraces = false → ce_MS l y (.code y bytes maxL ret2) ht2 mc ms F) (hh2 : ht2 + 1 ≤ ht) (hmx : maxL ≤ 81)
    (hc : ce_cl[ci]? = some (C, Tf, N)) (g0 : Cond.code y bytes maxL ret2 ∈ ce_GW) (g1 : Cond.methodLink own index y ∈ ce_GW) (g2 : Cond.instanceMethod y ∈ ce_GW) (g3 : Cond.selects C y y ∈ ce_GW) (g4 : Cond.initialized y.cls ∈ ce_GW) (g5 : Cond.sameMethod y.cls y.cls y.name y.desc ∈ ce_GW)
    (hd : y.cls ≠ "java/lang/invoke/MethodHandle" ∧ y.cls ≠ "java/lang/invoke/VarHandle" ∧ (parseMethodDescriptor y.desc).map (fun d => d.parameters.length) = some n) (d : decode cc pc = .ok (.invokevirtual index, 3)) : ce_RU own nm cc nL ret ht pc (n + 1) mc ms (pc + 3) (ce_CV ci F) := by
  intro z p l e R s m args below meth c hC ad as rest G S ls H locs kc ks hF hn hls hI hv hw kc1 ks1
  obtain ⟨hl, hfr, hlo⟩ := ce_CXl hC
  match as, hn, hF with
  | v :: as2, hn, hF =>
    simp only [ce_CV] at hF
    split at hF
    · rename_i hrc
      obtain ⟨b, hb, hcell⟩ := ce_rc_ok (ce_CXK hC) hI hv hc hrc
      have hPU := ce_PcU (as := v :: as2) (ce_CXK hC) hI hv
      have hMet := hM l hl z ad (v :: as2) G S hF
      have hGi : GoodIn ce_GW (va_wsU own index C y.cls y y (.code y bytes maxL ret2 :: ce_GW)) := ce_gia (fun w hw => by
        simp only [List.mem_cons, List.not_mem_nil, or_false] at hw
        rcases hw with rfl | rfl | rfl | rfl | rfl
        all_goals first | exact g1 | exact g2 | exact g3 | exact g4 | exact g5) (ce_gi2 g0)
      rw [List.map_cons, hb] at hPU
      rw [List.map_cons, hb]
      refine ⟨(Value.ref b :: as2.map (ce_v z ad)).toArray, ?_⟩
      exact vx_runU (owner := y.cls) (As := as2.map (ce_v z ad)) (C := C) (b := b) (ce_fix hC) hMet (va_cwU n hC.2.2.2.2.1 hGi rfl rfl rfl rfl hd ⟨by show 8 + ht2 + 1 ≤ R.frames; omega, by show 8 + (maxL + 11) + 100 * (ht2 + 2) ≤ R.locals; omega⟩) ⟨ce_Pc_blind, hcell, hPU⟩ rfl (by rw [List.length_map]; exact Nat.succ.inj hn) hls (by simp) (lv_room hw) d ⟨kc1, ks1⟩
    · cases hF
/-- a private method of a class above, called by a method of that class -/
theorem ru_P {ht2 mc ms n index maxL ci N : Nat} {C : String} {Tf : u_T} {y y0 : MethodName} {bytes : ByteArray} {ret2 : Option FieldType} {F : ce_C} (hM : ∀ l : Launch, l.stackTraces = false → ce_MS l y (.code y bytes maxL ret2) ht2 mc ms F) (hh2 : ht2 + 1 ≤ ht) (hmx : maxL ≤ 81)
    (hc : ce_cl[ci]? = some (C, Tf, N)) (g0 : Cond.code y bytes maxL ret2 ∈ ce_GW) (g1 : Cond.methodLink own index y ∈ ce_GW) (g2 : Cond.instanceMethod y ∈ ce_GW) (g3 : Cond.selects C y0 y0 ∈ ce_GW) (g6 : y0.cls = y.cls) (g7 : Cond.privateMethod y ∈ ce_GW) (g4 : Cond.initialized y.cls ∈ ce_GW) (g5 : Cond.sameMethod y.cls y.cls y.name y.desc ∈ ce_GW)
    (hd : y.cls ≠ "java/lang/invoke/MethodHandle" ∧ y.cls ≠ "java/lang/invoke/VarHandle" ∧ (parseMethodDescriptor y.desc).map (fun d => d.parameters.length) = some n) (d : decode cc pc = .ok (.invokevirtual index, 3)) : ce_RU own nm cc nL ret ht pc (n + 1) mc ms (pc + 3) (ce_CV ci F) := by
  intro z p l e R s m args below meth c hC ad as rest G S ls H locs kc ks hF hn hls hI hv hw kc1 ks1
  obtain ⟨hl, hfr, hlo⟩ := ce_CXl hC
  match as, hn, hF with
  | v :: as2, hn, hF =>
    simp only [ce_CV] at hF
    split at hF
    · rename_i hrc
      obtain ⟨b, hb, hcell⟩ := ce_rc_ok (ce_CXK hC) hI hv hc hrc
      have hPU := ce_PcU (as := v :: as2) (ce_CXK hC) hI hv
      have hMet := hM l hl z ad (v :: as2) G S hF
      have hsel : (Cond.selects C y y).before args s = true := ce_selP ⟨hd.1, hd.2.1⟩ (hC.2.2.2.2.1 _ g3) g6 (hC.2.2.2.2.1 _ g7) (hC.2.2.2.2.1 _ g2)
      have hts : ∀ w ∈ Cond.selects C y y :: ce_GW, w.before args s = true := fun w hw => by
        rcases List.mem_cons.mp hw with e9 | e9
        · rw [e9]; exact hsel
        · exact hC.2.2.2.2.1 w e9
      have hGi : GoodIn (Cond.selects C y y :: ce_GW) (va_wsU own index C y.cls y y (.code y bytes maxL ret2 :: ce_GW)) := fun w hw => by
        rcases List.mem_append.mp hw with hw | hw
        · simp only [List.mem_cons, List.not_mem_nil, or_false] at hw
          rcases hw with rfl | rfl | rfl | rfl | rfl
          · exact ⟨List.mem_cons_of_mem _ g1, good_of_word (ce_good g1)⟩
          · exact ⟨List.mem_cons_of_mem _ g5, good_of_word (ce_good g5)⟩
          · exact ⟨List.mem_cons_self, good_of_word rfl⟩
          · exact ⟨List.mem_cons_of_mem _ g2, good_of_word (ce_good g2)⟩
          · exact ⟨List.mem_cons_of_mem _ g4, good_of_word (ce_good g4)⟩
        · exact ⟨List.mem_cons_of_mem _ (ce_gi2 g0 w hw).1, (ce_gi2 g0 w hw).2⟩
      rw [List.map_cons, hb] at hPU
      rw [List.map_cons, hb]
      refine ⟨(Value.ref b :: as2.map (ce_v z ad)).toArray, ?_⟩
      exact vx_runU (owner := y.cls) (As := as2.map (ce_v z ad)) (C := C) (b := b) (Ts := Cond.selects C y y :: ce_GW) ⟨hC.1, hC.2.1, hC.2.2.1, hC.2.2.2.1, hts⟩ hMet (va_cwU n hts hGi rfl rfl rfl rfl hd ⟨by show 8 + ht2 + 1 ≤ R.frames; omega, by show 8 + (maxL + 11) + 100 * (ht2 + 2) ≤ R.locals; omega⟩) ⟨ce_Pc_blind, hcell, hPU⟩ rfl (by rw [List.length_map]; exact Nat.succ.inj hn) hls (by simp) (lv_room hw) d ⟨kc1, ks1⟩
    · cases hF
theorem ru_S {ht2 mc ms n index maxL : Nat} {y : MethodName} {bytes : ByteArray} {ret2 : Option FieldType} {F : ce_C} (hM : ∀ l : Launch, l.stackTraces = false → ce_MS l y (.code y bytes maxL ret2) ht2 mc ms F) (hh2 : ht2 + 1 ≤ ht) (hmx : maxL ≤ 81)
    (g0 : Cond.code y bytes maxL ret2 ∈ ce_GW) (g1 : Cond.methodLink own index y ∈ ce_GW) (g2 : Cond.static y ∈ ce_GW) (g5 : Cond.initialized y.cls ∈ ce_GW)
    (hd : y.cls ≠ "java/lang/invoke/MethodHandle" ∧ y.cls ≠ "java/lang/invoke/VarHandle" ∧ (parseMethodDescriptor y.desc).map (fun d => d.parameters.length) = some n) (d : decode cc pc = .ok (.invokestatic index, 3)) : ce_RU own nm cc nL ret ht pc n mc ms (pc + 3) F := by
  intro z p l e R s m args below meth c hC ad as rest G S ls H locs kc ks hF hn hls hI hv hw kc1 ks1
  obtain ⟨hl, hfr, hlo⟩ := ce_CXl hC
  have hMet := hM l hl z ad as G S hF
  have hGi : GoodIn ce_GW (va_wsS own index y (.code y bytes maxL ret2 :: ce_GW)) := ce_gia (fun w hw => by
        simp only [List.mem_cons, List.not_mem_nil, or_false] at hw
        rcases hw with rfl | rfl | rfl
        · exact g1
        · exact g2
        · exact g5) (ce_gi2 g0)
  exact ⟨_, vx_runS (As := as.map (ce_v z ad)) (ce_fix hC) hMet (va_cwS n hC.2.2.2.2.1 hGi rfl rfl rfl hd ⟨by show 8 + ht2 + 1 ≤ R.frames; omega, by show 8 + (maxL + 11) + 100 * (ht2 + 2) ≤ R.locals; omega⟩) ⟨ce_Pc_blind, ce_PcU (ce_CXK hC) hI hv⟩ rfl (by rw [List.length_map]; exact hn) hls rfl (lv_room hw) d ⟨kc1, ks1⟩⟩
theorem ru_SX {ht2 mc ms n index maxL : Nat} {y : MethodName} {bytes : ByteArray} {ret2 : Option FieldType} {h9 : List (Nat × Nat × Nat × Nat)} {F : ce_C} (hM : ∀ l : Launch, l.stackTraces = false → ce_MS l y (.codeWith y bytes maxL ret2 h9) ht2 mc ms F) (hh2 : ht2 + 1 ≤ ht) (hmx : maxL ≤ 81)
    (g0 : Cond.codeWith y bytes maxL ret2 h9 ∈ ce_GW) (g1 : Cond.methodLink own index y ∈ ce_GW) (g2 : Cond.static y ∈ ce_GW) (g5 : Cond.initialized y.cls ∈ ce_GW)
    (hd : y.cls ≠ "java/lang/invoke/MethodHandle" ∧ y.cls ≠ "java/lang/invoke/VarHandle" ∧ (parseMethodDescriptor y.desc).map (fun d => d.parameters.length) = some n) (d : decode cc pc = .ok (.invokestatic index, 3)) : ce_RU own nm cc nL ret ht pc n mc ms (pc + 3) F := by
  intro z p l e R s m args below meth c hC ad as rest G S ls H locs kc ks hF hn hls hI hv hw kc1 ks1
  obtain ⟨hl, hfr, hlo⟩ := ce_CXl hC
  have hMet := hM l hl z ad as G S hF
  have hGi : GoodIn ce_GW (va_wsS own index y (.codeWith y bytes maxL ret2 h9 :: ce_GW)) := ce_gia (fun w hw => by
        simp only [List.mem_cons, List.not_mem_nil, or_false] at hw
        rcases hw with rfl | rfl | rfl
        · exact g1
        · exact g2
        · exact g5) (ce_gi2 g0)
  exact ⟨_, vx_runSX (As := as.map (ce_v z ad)) (ce_fix hC) hMet (vx_cwSW n hC.2.2.2.2.1 hGi rfl rfl rfl hd ⟨by show 8 + ht2 + 1 ≤ R.frames; omega, by show 8 + (maxL + 11) + 100 * (ht2 + 2) ≤ R.locals; omega⟩) ⟨ce_Pc_blind, ce_PcU (ce_CXK hC) hI hv⟩ rfl (by rw [List.length_map]; exact hn) hls rfl (lv_room hw) d ⟨kc1, ks1⟩⟩
theorem ru_I {ht2 mc ms n index maxL : Nat} {y : MethodName} {bytes : ByteArray} {F : ce_C} (hM : ∀ l : Launch, l.stackTraces = false → ce_MS l y (.code y bytes maxL none) ht2 mc ms F) (hh2 : ht2 + 1 ≤ ht) (hmx : maxL ≤ 81)
    (g0 : Cond.code y bytes maxL none ∈ ce_GW) (g1 : Cond.methodLink own index y ∈ ce_GW) (g2 : Cond.instanceMethod y ∈ ce_GW) (g5 : Cond.initialized y.cls ∈ ce_GW) (hy1 : y.name = "<init>")
    (hd : y.cls ≠ "java/lang/invoke/MethodHandle" ∧ y.cls ≠ "java/lang/invoke/VarHandle" ∧ (parseMethodDescriptor y.desc).map (fun d => d.parameters.length) = some n) (d : decode cc pc = .ok (.invokespecial index, 3)) : ce_RU own nm cc nL ret ht pc (n + 1) mc ms (pc + 3) (ce_CI F) := by
  intro z p l e R s m args below meth c hC ad as rest G S ls H locs kc ks hF hn hls hI hv hw kc1 ks1
  obtain ⟨hl, hfr, hlo⟩ := ce_CXl hC
  match as, hn, hF with
  | .inr (.inr (.inl (.inl k))) :: as2, hn, hF =>
    have hPU := ce_PcU (as := .inr (.inr (.inl (.inl k))) :: as2) (ce_CXK hC) hI hv
    have hMet := hM l hl z ad (.inr (.inr (.inl (.inl k))) :: as2) G S hF
    refine ⟨(Value.ref (ad k) :: as2.map (ce_v z ad)).toArray, ?_⟩
    exact vx_runI (As := as2.map (ce_v z ad)) (b := ad k) (ce_fix hC) hMet (cwI n hC.2.2.2.2.1 (ce_gi2 g0) rfl rfl rfl (hC.2.2.2.2.1 _ g5) (hC.2.2.2.2.1 _ g1) (hC.2.2.2.2.1 _ g2) hy1 hd ⟨by show 8 + ht2 + 1 ≤ R.frames; omega, by show 8 + (maxL + 11) + 100 * (ht2 + 2) ≤ R.locals; omega⟩) ⟨ce_Pc_blind, hPU⟩ rfl (by rw [List.length_map]; exact Nat.succ.inj hn) hls (by show ((ce_v z ad _ :: as2.map (ce_v z ad)).reverse ++ _) = _; simp [ce_v]) (lv_room hw) d ⟨kc1, ks1⟩
theorem ru_IN {ht2 mc ms n index maxL : Nat} {host : String} {y : MethodName} {bytes : ByteArray} {F : ce_C} (hM : ∀ l : Launch, l.stackTraces = false → ce_MS l y (.code y bytes maxL none) ht2 mc ms F) (hh2 : ht2 + 1 ≤ ht) (hmx : maxL ≤ 81)
    (g0 : Cond.code y bytes maxL none ∈ ce_GW) (g1 : Cond.methodLinkNest own index y host ∈ ce_NG) (g2 : Cond.instanceMethod y ∈ ce_GW) (g5 : Cond.initialized y.cls ∈ ce_GW) (hy1 : y.name = "<init>")
    (hd : y.cls ≠ "java/lang/invoke/MethodHandle" ∧ y.cls ≠ "java/lang/invoke/VarHandle" ∧ (parseMethodDescriptor y.desc).map (fun d => d.parameters.length) = some n) (d : decode cc pc = .ok (.invokespecial index, 3)) : ce_RU own nm cc nL ret ht pc (n + 1) mc ms (pc + 3) (ce_CI F) := by
  intro z p l e R s m args below meth c hC ad as rest G S ls H locs kc ks hF hn hls hI hv hw kc1 ks1
  obtain ⟨hl, hfr, hlo⟩ := ce_CXl hC
  match as, hn, hF with
  | .inr (.inr (.inl (.inl k))) :: as2, hn, hF =>
    have hPU := ce_PcU (as := .inr (.inr (.inl (.inl k))) :: as2) (ce_CXK hC) hI hv
    have hMet := hM l hl z ad (.inr (.inr (.inl (.inl k))) :: as2) G S hF
    refine ⟨(Value.ref (ad k) :: as2.map (ce_v z ad)).toArray, ?_⟩
    exact vx_runIN (As := as2.map (ce_v z ad)) (b := ad k) (ce_fix hC) hMet ⟨va_cnB n hC.2.2.2.2.1 (ce_gi2 g0) rfl rfl rfl ((ce_CXK hC).2.2.2.1.1 _ g1) (hC.2.2.2.2.1 _ g5) hd ⟨by show 8 + ht2 + 1 ≤ R.frames; omega, by show 8 + (maxL + 11) + 100 * (ht2 + 2) ≤ R.locals; omega⟩, hy1, hC.2.2.2.2.1 _ g2⟩ ⟨ce_Pc_blind, hPU⟩ rfl (by rw [List.length_map]; exact Nat.succ.inj hn) hls (by show ((ce_v z ad _ :: as2.map (ce_v z ad)).reverse ++ _) = _; simp [ce_v]) (lv_room hw) d ⟨kc1, ks1⟩
/-- super.m(..) -/
theorem ru_SU {ht2 mc ms n index maxL ci N : Nat} {C : String} {Tf : u_T} {y : MethodName} {bytes : ByteArray} {ret2 : Option FieldType} {F : ce_C} (hM : ∀ l : Launch, l.stackTraces = false → ce_MS l y (.code y bytes maxL ret2) ht2 mc ms F) (hh2 : ht2 + 1 ≤ ht) (hmx : maxL ≤ 81)
    (hc : ce_cl[ci]? = some (C, Tf, N)) (g0 : Cond.code y bytes maxL ret2 ∈ ce_GW) (g1 : Cond.methodLink own index y ∈ ce_GW) (g2 : Cond.sameMethod y.cls y.cls y.name y.desc ∈ ce_GW) (g3 : Cond.superclass own y.cls ∈ ce_GW) (g4 : Cond.instanceMethod y ∈ ce_GW) (g5 : Cond.initialized y.cls ∈ ce_GW)
    (hd : y.name ≠ "<init>" ∧ (parseMethodDescriptor y.desc).map (fun d => d.parameters.length) = some n) (d : decode cc pc = .ok (.invokespecial index, 3)) : ce_RU own nm cc nL ret ht pc (n + 1) mc ms (pc + 3) (ce_CV ci F) := by
  intro z p l e R s m args below meth c hC ad as rest G S ls H locs kc ks hF hn hls hI hv hw kc1 ks1
  obtain ⟨hl, hfr, hlo⟩ := ce_CXl hC
  match as, hn, hF with
  | v :: as2, hn, hF =>
    simp only [ce_CV] at hF
    split at hF
    · rename_i hrc
      obtain ⟨b, hb, hcell⟩ := ce_rc_ok (ce_CXK hC) hI hv hc hrc
      have hPU := ce_PcU (as := v :: as2) (ce_CXK hC) hI hv
      have hMet := hM l hl z ad (v :: as2) G S hF
      have hGi : GoodIn ce_GW (va_wsSU own index y (.code y bytes maxL ret2 :: ce_GW)) := ce_gia (fun w hw => by
        simp only [List.mem_cons, List.not_mem_nil, or_false] at hw
        rcases hw with rfl | rfl | rfl | rfl | rfl
        · exact g1
        · exact g2
        · exact g3
        · exact g4
        · exact g5) (ce_gi2 g0)
      rw [List.map_cons, hb] at hPU
      rw [List.map_cons, hb]
      refine ⟨(Value.ref b :: as2.map (ce_v z ad)).toArray, ?_⟩
      exact vx_runSU (As := as2.map (ce_v z ad)) (C := C) (b := b) ((ce_CXK hC).1.1 ci _ hc).2 (ce_fix hC) hMet (va_cwSU n hC.2.2.2.2.1 hGi rfl rfl rfl hd ⟨by show 8 + ht2 + 1 ≤ R.frames; omega, by show 8 + (maxL + 11) + 100 * (ht2 + 2) ≤ R.locals; omega⟩) ⟨ce_Pc_blind, hcell, hPU⟩ rfl (by rw [List.length_map]; exact Nat.succ.inj hn) hls (by simp) (lv_room hw) d ⟨kc1, ks1⟩
    · cases hF
/-- an overriding method -/
theorem ru_O {ht2 mc ms n index maxL ci N : Nat} {C owner : String} {Tf : u_T} {x y : MethodName} {bytes : ByteArray} {ret2 : Option FieldType} {F : ce_C} (hM : ∀ l : Launch, l.stackTraces = false → ce_MS l y (.code y bytes maxL ret2) ht2 mc ms F) (hh2 : ht2 + 1 ≤ ht) (hmx : maxL ≤ 81)
    (hc : ce_cl[ci]? = some (C, Tf, N)) (g0 : Cond.code y bytes maxL ret2 ∈ ce_GW) (g1 : Cond.methodLink own index x ∈ ce_GW) (g2 : Cond.sameMethod x.cls owner x.name x.desc ∈ ce_GW) (g3 : Cond.instanceMethod ⟨owner, x.name, x.desc⟩ ∈ ce_GW) (g4 : Cond.selects C x y ∈ ce_GW) (g5 : Cond.instanceMethod y ∈ ce_GW) (g6 : Cond.initialized y.cls ∈ ce_GW)
    {b0 : ByteArray} {m0 : Nat} {r0 : Option FieldType} (h0 : Cond.code ⟨owner, x.name, x.desc⟩ b0 m0 r0 ∈ ce_GW) (hd : owner ≠ "java/lang/invoke/MethodHandle" ∧ owner ≠ "java/lang/invoke/VarHandle" ∧ (parseMethodDescriptor x.desc).map (fun d => d.parameters.length) = some n) (d : decode cc pc = .ok (.invokevirtual index, 3)) : ce_RU own nm cc nL ret ht pc (n + 1) mc ms (pc + 3) (ce_CV ci F) := by
  intro z p l e R s m args below meth c hC ad as rest G S ls H locs kc ks hF hn hls hI hv hw kc1 ks1
  obtain ⟨hl, hfr, hlo⟩ := ce_CXl hC
  match as, hn, hF with
  | v :: as2, hn, hF =>
    simp only [ce_CV] at hF
    split at hF
    · rename_i hrc
      obtain ⟨b, hb, hcell⟩ := ce_rc_ok (ce_CXK hC) hI hv hc hrc
      have hPU := ce_PcU (as := v :: as2) (ce_CXK hC) hI hv
      have hMet := hM l hl z ad (v :: as2) G S hF
      have hGi : GoodIn ce_GW (va_wsO own index C owner x y (.code y bytes maxL ret2 :: ce_GW)) := ce_gia (fun w hw => by
        simp only [List.mem_cons, List.not_mem_nil, or_false] at hw
        rcases hw with rfl | rfl | rfl | rfl | rfl | rfl
        · exact g1
        · exact g2
        · exact g3
        · exact g4
        · exact g5
        · exact g6) (ce_gi2 g0)
      rw [List.map_cons, hb] at hPU
      rw [List.map_cons, hb]
      refine ⟨(Value.ref b :: as2.map (ce_v z ad)).toArray, ?_⟩
      exact vx_runU (As := as2.map (ce_v z ad)) (C := C) (b := b) (ce_fix hC) hMet (va_cwO n hC.2.2.2.2.1 hGi rfl rfl rfl h0 hd ⟨by show 8 + ht2 + 1 ≤ R.frames; omega, by show 8 + (maxL + 11) + 100 * (ht2 + 2) ≤ R.locals; omega⟩) ⟨ce_Pc_blind, hcell, hPU⟩ rfl (by rw [List.length_map]; exact Nat.succ.inj hn) hls (by simp) (lv_room hw) d ⟨kc1, ks1⟩
    · cases hF
/-- the iterator's hasNext, by the interface -/
theorem ru_F {ht2 mc ms n index count maxL ci N : Nat} {Tf : u_T} {bytes : ByteArray} {ret2 : Option FieldType} {F : ce_C} (hM : ∀ l : Launch, l.stackTraces = false → ce_MS l ce_yI (.code ce_yI bytes maxL ret2) ht2 mc ms F) (hh2 : ht2 + 1 ≤ ht) (hmx : maxL ≤ 81)
    (hc : ce_cl[ci]? = some ("java/util/ArrayList$Itr", Tf, N)) (g0 : Cond.code ce_yI bytes maxL ret2 ∈ ce_GW) (g1 : Cond.methodLink own index ce_yN ∈ ce_GW) (g2 : Cond.selects "java/util/ArrayList$Itr" ce_yN ce_yI ∈ ce_GW) (g3 : Cond.instanceMethod ce_yI ∈ ce_GW) (g4 : Cond.initialized "java/util/ArrayList$Itr" ∈ ce_GW)
    (hd : (parseMethodDescriptor ce_yN.desc).map (fun d => d.parameters.length) = some n) (d : decode cc pc = .ok (.invokeinterface index count, 5)) : ce_RU own nm cc nL ret ht pc (n + 1) mc ms (pc + 5) (ce_CV ci F) := by
  intro z p l e R s m args below meth c hC ad as rest G S ls H locs kc ks hF hn hls hI hv hw kc1 ks1
  obtain ⟨hl, hfr, hlo⟩ := ce_CXl hC
  match as, hn, hF with
  | v :: as2, hn, hF =>
    simp only [ce_CV] at hF
    split at hF
    · rename_i hrc
      obtain ⟨b, hb, hcell⟩ := ce_rc_ok (ce_CXK hC) hI hv hc hrc
      have hPU := ce_PcU (as := v :: as2) (ce_CXK hC) hI hv
      have hMet := hM l hl z ad (v :: as2) G S hF
      have hGi : GoodIn ce_GW (va_wsF own index "java/util/ArrayList$Itr" ce_yN ce_yI (.code ce_yI bytes maxL ret2 :: ce_GW)) := ce_gia (fun w hw => by
        simp only [List.mem_cons, List.not_mem_nil, or_false] at hw
        rcases hw with rfl | rfl | rfl | rfl
        · exact g1
        · exact g2
        · exact g3
        · exact g4) (ce_gi2 g0)
      rw [List.map_cons, hb] at hPU
      rw [List.map_cons, hb]
      refine ⟨(Value.ref b :: as2.map (ce_v z ad)).toArray, ?_⟩
      exact vx_runF (As := as2.map (ce_v z ad)) (C := "java/util/ArrayList$Itr") (b := b) ((ce_CXK hC).1.1 ci _ hc).2 (ce_fix hC) hMet (va_cwF n hC.2.2.2.2.1 hGi rfl rfl rfl (ce_CXK hC).2.2.2.1.2.1 ⟨by decide +kernel, by decide +kernel, hd⟩ ⟨by show 8 + ht2 + 1 ≤ R.frames; omega, by show 8 + (maxL + 11) + 100 * (ht2 + 2) ≤ R.locals; omega⟩) ⟨ce_Pc_blind, hcell, hPU⟩ rfl (by rw [List.length_map]; exact Nat.succ.inj hn) hls (by simp) (lv_room hw) d ⟨kc1, ks1⟩
    · cases hF
/-- Object's constructor -/
def ce_oi (nx : Nat) : ce_P := fun L G => match L.2 with
  | .inr (.inr (.inl (.inl _))) :: r => match Nat.ble (ce_wt r) 80 with
    | true => some [(nx, (L.1, r), G)]
    | false => none
  | _ => none
theorem ok_oi {i : Nat} (d : decode cc pc = .ok (.invokespecial i, 3)) (g1 : Cond.methodLink own i Lib.objectInit ∈ ce_GW) (g2 : Cond.instanceMethod Lib.objectInit ∈ ce_GW) (g3 : Cond.code Lib.objectInit ⟨#[0xb1]⟩ 1 none ∈ ce_GW) : ce_OK own nm cc nL ret ht pc (ce_oi (pc + 3)) := by
  intro z p l e R s m args below meth c Q ad0 n0 hC L G S h hS ad ls H locs kc ks h1 h2 hl hI hv k1 k2
  obtain ⟨lo, st⟩ := L
  simp only [ce_oi] at h
  split at h
  · rename_i k r
    split at h
    · rename_i hw
      cases h
      obtain ⟨hl9, hfr, hlo⟩ := ce_CXl hC
      have hw2 := Nat.le_trans (ce_wt_ok (ce_CXK hC) (ad := ad) r) (Nat.le_of_ble_eq_true hw)
      refine W.objInit hC.1 hC.2.1 hC.2.2.2.1 (hC.2.2.2.2.1 _ g1) (hC.2.2.2.2.1 _ g2) (hC.2.2.2.2.1 _ g3) rfl (by rw [hC.2.2.1]; exact hl.1) rfl d (by omega) (by show 2 * 0 + _ + 12 ≤ R.locals; omega) ?_
      exact hS _ (List.mem_singleton.mpr rfl) ad ls H locs kc ks h1 h2 hl hI hv k1 k2
    · cases h
  · cases h
/-- 'throw new E()' -/
def ce_thr (k : Nat) : ce_N := fun L G => match Nat.ble (ce_wt L.2) 40 && (Nat.ble 1 G.2.2.1 && Nat.ble 6 G.2.2.2) with
  | true => some ([(.inr k, G)], [])
  | false => none
theorem ok_thr {hh : Option (List (Nat × Nat × Nat × Nat))} {k ik ic : Nat} {names : List String} (d0 : decode cc pc = .ok (.new ik, 3)) (d3 : decode cc (pc + 3) = .ok (.dup, 1)) (d4 : decode cc (pc + 4) = .ok (.invokespecial ic, 3)) (d7 : decode cc (pc + 7) = .ok (.athrow, 1)) (hh0 : hh = some [])
    (hcls : Bundle.fit (ce_ex k) = true) (hnames : ∀ n ∈ names, Bundle.fit n = true) (hlen : names.length ≤ 4) (g1 : Cond.classLink own ik (ce_ex k) ∈ ce_GW) (g2 : Cond.initialized (ce_ex k) ∈ ce_GW) (g3 : ∀ w ∈ vx_at0 own ic (ce_ex k) names, w ∈ ce_GW ∨ w ∈ ce_NG)
    (g4 : ∀ w ∈ Cond.classLink own ik (ce_ex k) :: Cond.initialized (ce_ex k) :: vx_at0 own ic (ce_ex k) names, vx_ot w = true) (g5 : ∀ w ∈ vx_at0 own ic (ce_ex k) names, w ∈ ce_NG → ce_ngk w = true) : ce_OKN own nm cc nL ret ht hh pc (ce_thr k) := by
  intro z p l e R s m args below meth c ad0 n0 hC hT T Q hQ L G X Y hf hX hY ad ls H locs kc ks h1 h2 hl hI hv k1 k2
  obtain ⟨lo, st⟩ := L
  simp only [ce_thr] at hf
  split at hf
  · rename_i hb
    cases hf
    simp only [Bool.and_eq_true] at hb
    have b1 := Nat.le_of_ble_eq_true hb.1
    have b2 := Nat.le_of_ble_eq_true hb.2.1
    have b3 := Nat.le_of_ble_eq_true hb.2.2
    obtain ⟨hl9, hfr, hlo⟩ := ce_CXl hC
    have hw2 := Nat.le_trans (ce_wt_ok (ce_CXK hC) (ad := ad) st) b1
    have hT0 : c.exceptionTable.toList = [] := by rw [hT [] hh0]; rfl
    have hK := ce_CXK hC
    have hw3 : ((List.map (ce_v z ad) (lo, st).snd).map fun v => v.category).sum ≤ 40 := hw2
    refine ce_mono hQ ?_
    refine vx_throw0 (A := ce_A z) hC.1 hC.2.1 hl9 hC.2.2.2.1 hcls hnames (hC.2.2.2.2.1 _ g1) (hC.2.2.2.2.1 _ g2) (fun w hw => ?_) g4 hK.2.2.1.1 hK.2.2.1.2 hv (by rw [hC.2.2.1]; exact hl.1) d0 d3 d4 d7 (by rw [hT0]; exact fun x hx => nomatch hx) (by omega) (by omega) (by omega) (by omega) hC.2.2.2.2.2.2.2.1 (fun t hvm hz hk => ?_) hv.2.2 (by omega) (by omega)
    · rcases g3 w hw with g | g
      · exact hC.2.2.2.2.1 _ g
      · have h9 := hK.2.2.2.1.1 _ g
        have h8 := g5 w hw g
        cases w <;> first | exact va_Nw.use rfl h9 | exact absurd h8 (by simp [ce_ngk])
    · refine ⟨⟨k, G, ad, hX _ (List.mem_singleton.mpr rfl), rfl, h1, h2, ?_⟩, ⟨Nat.le_trans hv.1 hz, fun q hq hnA => (hk q (Nat.lt_of_lt_of_le hq hv.1)).trans (hv.2.1 q hq hnA)⟩⟩
      refine ⟨hI.1.kept (fun k x hx => hk x.1 ((hI.1 k x hx).lt)), hI.2⟩
  · cases hf
end Kinds
end
section
/-! a byte of a sign, copies of rows, the class of a row, a row's copy -/
section Nat9
variable {own nm : String} {cc : ByteArray} {nL : Nat} {ret : Option FieldType} {ht pc : Nat}
def ce_i2bF (nx pc : Nat) : ce_P := fun L G => match L.2 with
  | .inl (.inr t) :: r => match ce_ge G.1 t 0 && ce_le G.1 t 127 with
    | true => some [(nx, (L.1, .inl (.inr t) :: r), G)]
    | false => match ce_ge G.1 t 128 && ce_le G.1 t 255 with
      | true => some [(nx, (L.1, .inl (.inr (.old t)) :: r), ((.old t, 1, -1) :: G.1, G.2))]
      | false => some (ce_sp pc t 127 L G)
  | _ => none
theorem ce_b7 {x : Int32} (h0 : 0 ≤ x.toInt) (h1 : x.toInt ≤ 127) : x.toInt8.toInt32 = x := by
  have h := ce_byte (n := x.toInt) (by omega) h1
  rwa [Int32.ofInt_toInt] at h
theorem ce_b8 {x : Int32} (h0 : 128 ≤ x.toInt) (h1 : x.toInt ≤ 255) : x.toInt8.toInt32.toInt ≤ -1 := by
  rw [Int8.toInt_toInt32]
  have e : x = Int32.ofInt x.toInt := (Int32.ofInt_toInt x).symm
  rw [e, Int32.toInt8_ofInt, Int8.toInt_ofInt]
  have : (Int8.size : Nat) = 256 := rfl
  rw [this]
  generalize x.toInt = n at h0 h1
  simp only [Int.bmod]
  omega
theorem ok_i2bF (d : decode cc pc = .ok (.i2b, 1)) : ce_OK own nm cc nL ret ht pc (ce_i2bF (pc + 1) pc) := by
  intro z p l e R s m args below meth c Q ad0 n0 hC L G S h hS
  obtain ⟨lo, st⟩ := L
  simp only [ce_i2bF] at h
  split at h
  · rename_i t r
    split at h
    · rename_i hb
      cases h
      simp only [Bool.and_eq_true] at hb
      intro ad ls H locs kc ks h1 h2 hl hI hv k1 k2
      have e9 := ce_b7 (ce_ge_ok hI.2.2.2 hb.1) (ce_le_ok hI.2.2.2 hb.2)
      show W _ _ _ _ _ _ _ _ _ _ _ _ _ _ _ (F0 m pc ls (.int (ce_I z t) :: r.map (ce_v z ad)))
      refine lv_i2b hC.1 hC.2.1 d e9 ?_
      exact hS _ (List.mem_singleton.mpr rfl) ad ls H locs kc ks h1 h2 hl hI hv k1 k2
    · split at h
      · rename_i hb
        cases h
        simp only [Bool.and_eq_true] at hb
        intro ad ls H locs kc ks h1 h2 hl hI hv k1 k2
        have e9 := ce_b8 (ce_ge_ok hI.2.2.2 hb.1) (ce_le_ok hI.2.2.2 hb.2)
        show W _ _ _ _ _ _ _ _ _ _ _ _ _ _ _ (F0 m pc ls (.int (ce_I z t) :: r.map (ce_v z ad)))
        refine lv_i2b hC.1 hC.2.1 d rfl ?_
        exact hS _ (List.mem_singleton.mpr rfl) ad ls H locs kc ks h1 h2 hl ⟨hI.1, hI.2.1, hI.2.2.1, ce_sat_cons (ce_fa1 e9) hI.2.2.2⟩ hv k1 k2
      · cases h
        exact ce_sp_ok hS
  · cases h
def ce_cp (x y : List ce_SV) (i j n : Nat) : List ce_SV := y.take j ++ ((x.drop i).take n ++ y.drop (j + n))
theorem ce_cp_get {x y : List ce_SV} {i j n : Nat} (hx : i + n ≤ x.length) (hy : j + n ≤ y.length) (k : Nat) : (ce_cp x y i j n)[k]? = if j ≤ k ∧ k < j + n then x[i + (k - j)]? else y[k]? := by
  unfold ce_cp
  have l1 : (y.take j).length = j := by rw [List.length_take]; omega
  have l2 : ((x.drop i).take n).length = n := by rw [List.length_take, List.length_drop]; omega
  by_cases h1 : k < j
  · rw [List.getElem?_append_left (by omega), List.getElem?_take, if_pos h1, if_neg (by omega)]
  · rw [List.getElem?_append_right (by omega), l1]
    by_cases h2 : k < j + n
    · rw [List.getElem?_append_left (by omega), List.getElem?_take, if_pos (by omega), List.getElem?_drop, if_pos (by omega)]
    · rw [List.getElem?_append_right (by omega), l2, List.getElem?_drop, if_neg (by omega)]
      congr 1
      omega
theorem ce_cp_fun {β : Type} {g : Value → β} {z : ce_U} {ad : Nat → Nat} {x y : List ce_SV} {i j n : Nat} (hx : i + n ≤ x.length) (hy : j + n ≤ y.length) :
    (fun k => g (ce_v z ad ((ce_cp x y i j n).getD k ce_0))) = va_cpy (fun k => g (ce_v z ad (x.getD k ce_0))) (fun k => g (ce_v z ad (y.getD k ce_0))) i j n := by
  funext k
  simp only [va_cpy, List.getD_eq_getElem?_getD, ce_cp_get hx hy]
  split <;> rfl
theorem ce_cp_len {x y : List ce_SV} {i j n : Nat} (hx : i + n ≤ x.length) (hy : j + n ≤ y.length) : (ce_cp x y i j n).length = y.length := by
  simp only [ce_cp, List.length_append, List.length_take, List.length_drop]
  omega
theorem ce_cp_all {x y : List ce_SV} {i j n : Nat} {f : ce_SV → Bool} (hx : x.all f = true) (hy : y.all f = true) : (ce_cp x y i j n).all f = true := by
  refine List.all_eq_true.mpr fun v hv => ?_
  unfold ce_cp at hv
  rcases List.mem_append.mp hv with h | h
  · exact List.all_eq_true.mp hy v (List.mem_of_mem_take h)
  · rcases List.mem_append.mp h with h | h
    · exact List.all_eq_true.mp hx v (List.mem_of_mem_drop (List.mem_of_mem_take h))
    · exact List.all_eq_true.mp hy v (List.mem_of_mem_drop h)
theorem ce_fit_iv {z : ce_U} {s : State} (hK : ce_CK z s) {ad : Nat → Nat} {v : ce_SV} (h : ce_fit .byte v = true) : fits .byte (.int (ce_iv (ce_v z ad v))) = true := by
  have h2 := (ce_fit_ok hK (ad := ad) h).2
  match v, h, h2 with
  | .inl i, _, h2 => exact h2
/-- bytes copied from a row to another, and from the constant empty row -/
def ce_cpb (nx : Nat) : ce_P := fun L G => match L.2 with
  | .inl (.inl (.ofNat n)) :: .inl (.inl (.ofNat j)) :: .inr (.inr (.inl (.inl b))) :: .inl (.inl (.ofNat i)) :: .inr (.inr (.inl (.inl a))) :: r => match ce_arr G a, ce_arr G b with
    | some x, some y => match Nat.beq x.1 2 && (Nat.beq y.1 2 && (Nat.ble (i + n) x.2.length && (Nat.ble (j + n) y.2.length && (Nat.blt x.2.length 60000 && (Nat.blt y.2.length 60000 && (x.2.all (ce_fit .byte) && Nat.ble (ce_wt r) 40)))))) with
      | true => some [(nx, (L.1, r), (G.1, G.2.1.set b (.inr (2, ce_cp x.2 y.2 i j n)), G.2.2))]
      | false => none
    | _, _ => none
  | .inl (.inl (.ofNat n)) :: .inl (.inl (.ofNat j)) :: .inr (.inr (.inl (.inl b))) :: .inl (.inl (.ofNat i)) :: .inr (.inr (.inl (.inr k))) :: r => match ce_arr G b with
    | some y => match Nat.beq k 3 && (Nat.beq n 0 && (Nat.beq i 0 && (Nat.beq y.1 2 && (Nat.ble j y.2.length && (Nat.blt y.2.length 60000 && Nat.ble (ce_wt r) 40))))) with
      | true => some [(nx, (L.1, r), G)]
      | false => none
    | none => none
  | _ => none
theorem ce_nfw : nativeFrameWords "java/lang/System" "arraycopy" 5 ≤ 60 := by decide
theorem ok_cpb {i9 : Nat} (d : decode cc pc = .ok (.invokestatic i9, 3)) (g1 : Cond.methodLink own i9 arraycopyName ∈ ce_GW) (g2 : Cond.native arraycopyName ∈ ce_GW) (g3 : Cond.static arraycopyName ∈ ce_GW) (g4 : Cond.initialized "java/lang/System" ∈ ce_GW) : ce_OK own nm cc nL ret ht pc (ce_cpb (pc + 3)) := by
  intro z p l e R s m args below meth c Q ad0 n0 hC L G S h hS ad ls H locs kc ks h1 h2 hl hI hv k1 k2
  obtain ⟨lo, st⟩ := L
  have hK := ce_CXK hC
  obtain ⟨hl9, hfr, hlo⟩ := ce_CXl hC
  have hnf := ce_nfw
  have ex : ∀ es : List ce_SV, ce_ar z ad 2 es = .inl (fun j => ce_iv (ce_v z ad (es.getD j ce_0))) := fun es => rfl
  simp only [ce_cpb] at h
  split at h
  · rename_i n j b i a r
    split at h
    · rename_i x y hx hy
      split at h
      · rename_i hb
        cases h
        obtain ⟨x1, x2⟩ := x
        obtain ⟨y1, y2⟩ := y
        simp only [Bool.and_eq_true] at hb
        obtain ⟨b1, b2, b3, b4, b5, b6, b7, b8⟩ := hb
        have b1 := Nat.eq_of_beq_eq_true b1
        have b2 := Nat.eq_of_beq_eq_true b2
        subst b1
        subst b2
        have b3 := Nat.le_of_ble_eq_true b3
        have b4 := Nat.le_of_ble_eq_true b4
        have b5 : x2.length < 60000 := Nat.lt_of_succ_le (Nat.le_of_ble_eq_true b5)
        have b6 : y2.length < 60000 := Nat.lt_of_succ_le (Nat.le_of_ble_eq_true b6)
        have b8 := Nat.le_trans (ce_wt_ok hK (ad := ad) r) (Nat.le_of_ble_eq_true b8)
        obtain ⟨hx0, hxw⟩ := ce_arr_at (z := z) (ad := ad) hx
        obtain ⟨hy0, hyw⟩ := ce_arr_at (z := z) (ad := ad) hy
        dsimp only at hxw hyw b3 b4
        rw [ex] at hxw hyw
        have cn : (nI n).toNatClampNeg = n := nI_clamp (by omega)
        have ci : (nI i).toNatClampNeg = i := nI_clamp (by omega)
        have cj : (nI j).toNatClampNeg = j := nI_clamp (by omega)
        show W _ _ _ _ _ _ _ _ _ _ _ _ _ _ _ (F0 m pc ls (.int (nI n) :: .int (nI j) :: .ref (ad b) :: .int (nI i) :: .ref (ad a) :: r.map (ce_v z ad)))
        refine va_copyi (ty := .byte) hC.1 hC.2.1 (hC.2.2.1.trans hl.1.symm) hC.2.2.2.1 (hC.2.2.2.2.1 _ g1) (hC.2.2.2.2.1 _ g2) (hC.2.2.2.2.1 _ g3) (hC.2.2.2.2.1 _ g4) hK.1 hI.1 hI.2.1 hv a b 2 2 hxw hyw rfl rfl rfl (nI_pos (by omega)) (nI_pos (by omega)) (nI_pos (by omega)) (by rw [cn, ci]; exact b3) (by rw [cn, cj]; exact b4) (fun k hk => ?_) (by omega) (by omega) d (fun H1 locs1 hP hD hS1 => ?_)
        · rw [cn] at hk
          rw [ci]
          have hm : x2.getD (i + k) ce_0 ∈ x2 := by
            rw [List.getD_eq_getElem?_getD, List.getElem?_eq_getElem (by omega)]
            exact List.getElem_mem _
          exact ce_fit_iv hK (List.all_eq_true.mp b7 _ hm)
        · rw [cn, ci, cj, ← ce_cp_fun (g := ce_iv) b3 b4] at hP hD
          have he : ce_e z ad (.inr (2, ce_cp x2 y2 i j n)) = .inl (ce_cA z 2, y2.length, .inl (fun k => ce_iv (ce_v z ad ((ce_cp x2 y2 i j n).getD k ce_0)))) := by
            simp only [ce_e, ce_cp_len b3 b4, ex]
          rw [← he] at hP hD
          have hwx : ce_we G.2.1.length (.inr (2, x2)) = true := List.all_eq_true.mp hI.2.2.1 _ (List.mem_of_getElem? hx0)
          have hwy : ce_we G.2.1.length (.inr (2, y2)) = true := List.all_eq_true.mp hI.2.2.1 _ (List.mem_of_getElem? hy0)
          exact hS _ (List.mem_singleton.mpr rfl) ad ls H1 locs1 kc ks h1 (by simpa using h2) hl (ce_Inv_set (e := .inr (2, ce_cp x2 y2 i j n)) hI.2.2 hy0 (ce_cp_all (f := ce_wv G.2.1.length) hwx hwy) hP hD) hS1 k1 k2
      · cases h
    · cases h
  · rename_i n j b i k r
    split at h
    · rename_i y hy
      split at h
      · rename_i hb
        cases h
        obtain ⟨y1, y2⟩ := y
        simp only [Bool.and_eq_true] at hb
        obtain ⟨b1, b2, b3, b4, b5, b6, b8⟩ := hb
        have b1 := Nat.eq_of_beq_eq_true b1
        have b2 := Nat.eq_of_beq_eq_true b2
        have b3 := Nat.eq_of_beq_eq_true b3
        have b4 := Nat.eq_of_beq_eq_true b4
        subst b1
        subst b2
        subst b3
        subst b4
        have b5 := Nat.le_of_ble_eq_true b5
        have b6 : y2.length < 60000 := Nat.lt_of_succ_le (Nat.le_of_ble_eq_true b6)
        have b8 := Nat.le_trans (ce_wt_ok hK (ad := ad) r) (Nat.le_of_ble_eq_true b8)
        obtain ⟨hy0, hyw⟩ := ce_arr_at (z := z) (ad := ad) hy
        dsimp only at hyw b5
        rw [ex] at hyw
        have cj : (nI j).toNatClampNeg = j := nI_clamp (by omega)
        obtain ⟨aK, aV, e2, e3, e4, e5, hE, -, -⟩ := hK.2.2.2.2.2.2.1
        obtain ⟨scr, hs1, hs2, hs3, -, -, -, hbA⟩ := (hE.kept hv.2.1).1 0 (by omega) |>.2.2.2
        show W _ _ _ _ _ _ _ _ _ _ _ _ _ _ _ (F0 m pc ls (.int (nI 0) :: .int (nI j) :: .ref (ad b) :: .int (nI 0) :: ce_ev z 3 :: r.map (ce_v z ad)))
        rw [e3]
        intro T hT X
        have hc1 : H[ad b]? = some (vp_cell (ce_cA z 2) (y2.length, .inl (fun j => ce_iv (ce_v z ad (y2.getD j ce_0))))) := hI.1 b _ hyw
        obtain ⟨hs6, k0, hk0, cm0, hkk0⟩ := hs2
        obtain ⟨-, k9, hk9, cm9, hkk9⟩ := (hK.1.2 2 (ce_cA z 2, .byte) rfl).1 y2.length (fun q => .int ((fun j => ce_iv (ce_v z ad (y2.getD j ce_0))) q))
        obtain ⟨vm', X', step⟩ := X.arraycopy hC.1 hC.2.2.2.1 (hC.2.2.2.2.1 _ g1) (hC.2.2.2.2.1 _ g2) (hC.2.2.2.2.1 _ g3) (hC.2.2.2.2.1 _ g4) (src := aV 0) (dst := ad b) (cs := scr) (cd := vp_cell (ce_cA z 2) (y2.length, .inl (fun j => ce_iv (ce_v z ad (y2.getD j ce_0))))) (srcPos := nI 0) (destPos := nI j) (n := nI 0) (by rw [hT]; exact hs1) (by rw [hT]; exact hc1)
          hs6 (fun _ h => by cases h) hs3 (fun h => by cases h) hk0 hk9 hkk0 hkk9 (by simp [refKind]) (nI_pos (by omega)) (nI_pos (by omega)) (nI_pos (by omega))
          (by rw [nI_toInt (by omega)]; omega)
          (by rw [nI_toInt (by omega), nI_toInt (by omega)]; show ¬ _ > ((arrV (ce_cA z 2) y2.length (fun q => .int ((fun j => ce_iv (ce_v z ad (y2.getD j ce_0))) q))).slots.size : Int); rw [arrV_size]; omega)
          (fun vm₁ _ i hi => absurd hi (by rw [show (nI 0).toNatClampNeg = 0 from nI_clamp (by omega)]; omega))
          (g := F0 m pc ls (.int (nI 0) :: .int (nI j) :: .ref (ad b) :: .int (nI 0) :: .ref (aV 0) :: r.map (ce_v z ad))) rfl (by rw [hC.2.2.1]; exact hl.1) (rest := r.map (ce_v z ad)) rfl (by rw [hC.2.1]; exact d) (by omega) (by show 2 * 0 + _ + _ ≤ _; omega)
        have e1 : copied scr (vp_cell (ce_cA z 2) (y2.length, .inl (fun j => ce_iv (ce_v z ad (y2.getD j ce_0))))) (nI 0) (nI j) (nI 0) = vp_cell (ce_cA z 2) (y2.length, .inl (va_cpy (fun _ => (0 : Int32)) (fun j => ce_iv (ce_v z ad (y2.getD j ce_0))) (nI 0).toNatClampNeg (nI j).toNatClampNeg (nI 0).toNatClampNeg)) := va_copiedX (fun z => .int z) scr (ce_cA z 2) (fun _ => (0 : Int32)) (fun j => ce_iv (ce_v z ad (y2.getD j ce_0))) (n0 := 0) (fun j hj => absurd hj (Nat.not_lt_zero j)) (by rw [show (nI 0).toNatClampNeg = 0 from nI_clamp (by omega)]; exact Nat.le_refl _)
        have e0 : va_cpy (fun _ => (0 : Int32)) (fun j => ce_iv (ce_v z ad (y2.getD j ce_0))) (nI 0).toNatClampNeg (nI j).toNatClampNeg (nI 0).toNatClampNeg = (fun j => ce_iv (ce_v z ad (y2.getD j ce_0))) := by
          funext q
          simp only [va_cpy, show (nI 0).toNatClampNeg = 0 from nI_clamp (by omega)]
          rw [if_neg (by omega)]
        rw [e1, e0] at X' step
        have hlt : ad b < H.size := (Array.getElem?_eq_some_iff.mp hc1).1
        have hheap : ((T.setVm vm').setCell (ad b) (vp_cell (ce_cA z 2) (y2.length, .inl (fun j => ce_iv (ce_v z ad (y2.getD j ce_0)))))).heap = H := by
          have : ((T.setVm vm').setCell (ad b) (vp_cell (ce_cA z 2) (y2.length, .inl (fun j => ce_iv (ce_v z ad (y2.getD j ce_0)))))).heap = H.setIfInBounds (ad b) (vp_cell (ce_cA z 2) (y2.length, .inl (fun j => ce_iv (ce_v z ad (y2.getD j ce_0))))) := by rw [← hT]; rfl
          rw [this]
          refine Array.ext_getElem? fun q => ?_
          by_cases hq : q = ad b
          · rw [hq, hc1]
            simp [Array.getElem?_setIfInBounds, hlt]
          · simp [Array.getElem?_setIfInBounds, Ne.symm hq]
        have hAb : ce_A z (ad b) := hI.2.1.2 b _ hyw
        obtain ⟨t9, a1, c1⟩ := hS _ (List.mem_singleton.mpr rfl) ad ls H _ kc ks h1 h2 hl hI ⟨hv.1, hv.2.1, fun q hq => by
          rcases List.mem_append.mp hq with h | h
          · exact hv.2.2 q h
          · obtain ⟨w, -, hw⟩ := List.mem_map.mp h
            rw [← hw]
            exact hAb⟩ k1 k2 _ hheap X'
        exact ⟨t9, step t9 a1, c1⟩
      · cases h
    · cases h
  · cases h
/-- references copied between rows of Object: objects of one class, or null -/
def ce_cq (G : ce_G) : ce_SV → Bool
  | .inr (.inr (.inl (.inl k))) => match ce_obj G k with
    | some x => Nat.beq x.1 16
    | none => false
  | .inr (.inr (.inr .null)) => true
  | _ => false
def ce_cpq (nx : Nat) : ce_P := fun L G => match L.2 with
  | .inl (.inl (.ofNat n)) :: .inl (.inl (.ofNat j)) :: .inr (.inr (.inl (.inl b))) :: .inl (.inl (.ofNat i)) :: .inr (.inr (.inl (.inl a))) :: r => match ce_arr G a, ce_arr G b with
    | some x, some y => match Nat.beq x.1 6 && (Nat.beq y.1 6 && (Nat.ble (i + n) x.2.length && (Nat.ble (j + n) y.2.length && (Nat.blt x.2.length 60000 && (Nat.blt y.2.length 60000 && (x.2.all (ce_cq G) && Nat.ble (ce_wt r) 40)))))) with
      | true => some [(nx, (L.1, r), (G.1, G.2.1.set b (.inr (6, ce_cp x.2 y.2 i j n)), G.2.2))]
      | false => none
    | _, _ => none
  | _ => none
theorem ok_cpq {i9 N16 : Nat} {T16 : u_T} (hc16 : ce_cl[16]? = some ("CarcasswrightModel$Board", T16, N16)) (hng : Cond.castable "CarcasswrightModel$Board" "java/lang/Object" ∈ ce_NG) (d : decode cc pc = .ok (.invokestatic i9, 3)) (g1 : Cond.methodLink own i9 arraycopyName ∈ ce_GW) (g2 : Cond.native arraycopyName ∈ ce_GW) (g3 : Cond.static arraycopyName ∈ ce_GW) (g4 : Cond.initialized "java/lang/System" ∈ ce_GW) : ce_OK own nm cc nL ret ht pc (ce_cpq (pc + 3)) := by
  intro z p l e R s m args below meth c Q ad0 n0 hC L G S h hS ad ls H locs kc ks h1 h2 hl hI hv k1 k2
  obtain ⟨lo, st⟩ := L
  have hK := ce_CXK hC
  obtain ⟨hl9, hfr, hlo⟩ := ce_CXl hC
  have hnf := ce_nfw
  have ex : ∀ es : List ce_SV, ce_ar z ad 6 es = .inr (.inr (.inr (.inr (fun j => ce_rv (ce_v z ad (es.getD j ce_0)))))) := fun es => rfl
  simp only [ce_cpq] at h
  split at h
  · rename_i n j b i a r
    split at h
    · rename_i x y hx hy
      split at h
      · rename_i hb
        cases h
        obtain ⟨x1, x2⟩ := x
        obtain ⟨y1, y2⟩ := y
        simp only [Bool.and_eq_true] at hb
        obtain ⟨b1, b2, b3, b4, b5, b6, b7, b8⟩ := hb
        have b1 := Nat.eq_of_beq_eq_true b1
        have b2 := Nat.eq_of_beq_eq_true b2
        subst b1
        subst b2
        have b3 := Nat.le_of_ble_eq_true b3
        have b4 := Nat.le_of_ble_eq_true b4
        have b5 : x2.length < 60000 := Nat.lt_of_succ_le (Nat.le_of_ble_eq_true b5)
        have b6 : y2.length < 60000 := Nat.lt_of_succ_le (Nat.le_of_ble_eq_true b6)
        have b8 := Nat.le_trans (ce_wt_ok hK (ad := ad) r) (Nat.le_of_ble_eq_true b8)
        obtain ⟨hx0, hxw⟩ := ce_arr_at (z := z) (ad := ad) hx
        obtain ⟨hy0, hyw⟩ := ce_arr_at (z := z) (ad := ad) hy
        dsimp only at hxw hyw b3 b4
        rw [ex] at hxw hyw
        have cn : (nI n).toNatClampNeg = n := nI_clamp (by omega)
        have ci : (nI i).toNatClampNeg = i := nI_clamp (by omega)
        have cj : (nI j).toNatClampNeg = j := nI_clamp (by omega)
        show W _ _ _ _ _ _ _ _ _ _ _ _ _ _ _ (F0 m pc ls (.int (nI n) :: .int (nI j) :: .ref (ad b) :: .int (nI i) :: .ref (ad a) :: r.map (ce_v z ad)))
        refine va_copyq (C := "CarcasswrightModel$Board") (E0 := "java/lang/Object") (E1 := "java/lang/Object") hC.1 hC.2.1 (hC.2.2.1.trans hl.1.symm) hC.2.2.2.1 (hC.2.2.2.2.1 _ g1) (hC.2.2.2.2.1 _ g2) (hC.2.2.2.2.1 _ g3) (hC.2.2.2.2.1 _ g4) hK.1 hI.1 hI.2.1 hv a b 6 6 hxw hyw rfl rfl (nI_pos (by omega)) (nI_pos (by omega)) (nI_pos (by omega)) (by rw [cn, ci]; exact b3) (by rw [cn, cj]; exact b4) (fun k hk q hq => ?_) (fun comp c0 hcomp hc0 => ?_) (by omega) (by omega) d (fun H1 locs1 hP hD hS1 => ?_)
        · rw [cn] at hk
          rw [ci] at hq
          have hm : x2.getD (i + k) ce_0 ∈ x2 := by
            rw [List.getD_eq_getElem?_getD, List.getElem?_eq_getElem (by omega)]
            exact List.getElem_mem _
          have h7 := List.all_eq_true.mp b7 _ hm
          generalize x2.getD (i + k) ce_0 = v at h7 hq
          unfold ce_cq at h7
          split at h7
          · rename_i k9
            split at h7
            · rename_i w hw
              obtain ⟨w1, w2⟩ := w
              have h7 := Nat.eq_of_beq_eq_true h7
              dsimp only at h7
              subst h7
              have e9 : q = ad k9 := (Option.some.inj hq).symm
              rw [e9]
              exact va_recv hK.1 hI.1 hc16 (ce_obj_at (z := z) (ad := ad) hw).2
            · cases h7
          · cases hq
          · cases h7
        · obtain ⟨c3, c4, hc3, hc4, hasg⟩ := Cond.castable_spec (va_Nw.use (A := args) rfl (hK.2.2.2.1.1 _ hng))
          cases Option.some.inj (hc3.symm.trans hc0)
          cases Option.some.inj (hc4.symm.trans hcomp)
          exact hasg
        · rw [cn, ci, cj, ← ce_cp_fun (g := ce_rv) b3 b4] at hP hD
          have he : ce_e z ad (.inr (6, ce_cp x2 y2 i j n)) = .inl (ce_cA z 6, y2.length, .inr (.inr (.inr (.inr (fun k => ce_rv (ce_v z ad ((ce_cp x2 y2 i j n).getD k ce_0))))))) := by
            simp only [ce_e, ce_cp_len b3 b4, ex]
          rw [← he] at hP hD
          have hwx : ce_we G.2.1.length (.inr (6, x2)) = true := List.all_eq_true.mp hI.2.2.1 _ (List.mem_of_getElem? hx0)
          have hwy : ce_we G.2.1.length (.inr (6, y2)) = true := List.all_eq_true.mp hI.2.2.1 _ (List.mem_of_getElem? hy0)
          exact hS _ (List.mem_singleton.mpr rfl) ad ls H1 locs1 kc ks h1 (by simpa using h2) hl (ce_Inv_set (e := .inr (6, ce_cp x2 y2 i j n)) hI.2.2 hy0 (ce_cp_all (f := ce_wv G.2.1.length) hwx hwy) hP hD) hS1 k1 k2
      · cases h
    · cases h
  · cases h
theorem ce_arrR {z : ce_U} {s : State} {ad : Nat → Nat} {G : ce_G} {H : Heap} (hI : ce_Inv z ad G H) {a : Nat} {x : Nat × List ce_SV} (hx : ce_arr G a = some x) : ∃ cell : Cell, H[ad a]? = some cell ∧ cell.vm.isStatics = false ∧ cell.cls = ce_cA z x.1 := by
  obtain ⟨hx0, hxw⟩ := ce_arr_at (z := z) (ad := ad) hx
  have h := hI.1 a _ hxw
  refine ⟨_, h, ?_, ?_⟩
  · generalize ce_ar z ad x.1 x.2 = q
    rcases q with f | f | f | f | f <;> rfl
  · generalize ce_ar z ad x.1 x.2 = q
    rcases q with f | f | f | f | f <;> rfl
def ce_yG : MethodName := ⟨"java/lang/Object", "getClass", "()Ljava/lang/Class;"⟩
def ce_getC (nx : Nat) : ce_P := fun L G => match L.2 with
  | .inr (.inr (.inl (.inl a))) :: r => match ce_arr G a with
    | some x => match Nat.beq x.1 6 && Nat.ble (ce_wt r) 40 with
      | true => some [(nx, (L.1, .inr (.inr (.inl (.inr 6))) :: r), G)]
      | false => none
    | none => none
  | _ => none
theorem ok_getC {i : Nat} (d : decode cc pc = .ok (.invokevirtual i, 3)) (g1 : Cond.methodLink own i ce_yG ∈ ce_GW) (g2 : Cond.selects "[Ljava/lang/Object;" ce_yG ce_yG ∈ ce_GW) (g3 : Cond.instanceMethod ce_yG ∈ ce_GW) (g4 : Cond.native ce_yG ∈ ce_GW) : ce_OK own nm cc nL ret ht pc (ce_getC (pc + 3)) := by
  intro z p l e R s m args below meth c Q ad0 n0 hC L G S h hS ad ls H locs kc ks h1 h2 hl hI hv k1 k2
  obtain ⟨lo, st⟩ := L
  have hK := ce_CXK hC
  obtain ⟨hl9, hfr, hlo⟩ := ce_CXl hC
  simp only [ce_getC] at h
  split at h
  · rename_i a r
    split at h
    · rename_i x hx
      split at h
      · rename_i hb
        cases h
        obtain ⟨x1, x2⟩ := x
        simp only [Bool.and_eq_true] at hb
        have b1 := Nat.eq_of_beq_eq_true hb.1
        subst b1
        have b8 := Nat.le_trans (ce_wt_ok hK (ad := ad) r) (Nat.le_of_ble_eq_true hb.2)
        obtain ⟨mi, e6, hM⟩ := hK.2.2.2.2.2.2.2.1
        obtain ⟨cell, c1, c2, c3⟩ := ce_arrR (s := s) hI hx
        obtain ⟨-, -, -, -, -, hfc⟩ := (hK.1.2 6 (ce_cA z 6, .object "java/lang/Object") rfl).2
        have hfc2 : s.vm.findClass "[Ljava/lang/Object;" = some cell.cls := by rw [c3]; exact hfc
        refine va_getC (mi := mi) hC.1 hC.2.1 (hC.2.2.1.trans hl.1.symm) hC.2.2.2.1 (hC.2.2.2.2.1 _ g1) (va_Dc.use hK.2.2.2.1.2.2.2) (hC.2.2.2.2.1 _ g2) (hC.2.2.2.2.1 _ g3) (hC.2.2.2.2.1 _ g4) hM ⟨cell, c1, c2, hfc2⟩ (by omega) (by omega) d ?_
        rw [← e6]
        exact hS _ (List.mem_singleton.mpr rfl) ad ls H locs kc ks h1 h2 hl hI hv k1 k2
      · cases h
    · cases h
  · cases h
def ce_yC (C : String) : MethodName := ⟨C, "clone", "()Ljava/lang/Object;"⟩
def ce_clo (nx : Nat) : ce_P := fun L G => match L.2 with
  | .inr (.inr (.inl (.inl a))) :: r => match ce_arr G a with
    | some x => match Nat.beq x.1 0 && (Nat.ble (ce_wt r) 40 && ce_ok (L.1, r) G x.2.length) with
      | true => some [(nx, (L.1, .inr (.inr (.inl (.inl G.2.1.length))) :: r), (G.1, G.2.1 ++ [.inr (0, x.2)], G.2.2.1 - 1, G.2.2.2 - x.2.length))]
      | false => none
    | none => none
  | _ => none
theorem ok_clo {i : Nat} (d : decode cc pc = .ok (.invokevirtual i, 3)) (g1 : Cond.methodLink own i (ce_yC "[I") ∈ ce_GW) (g2 : Cond.sameMethod "[I" "java/lang/Object" "clone" "()Ljava/lang/Object;" ∈ ce_GW) (g3 : Cond.native (ce_yC "java/lang/Object") ∈ ce_GW) (g4 : Cond.instanceMethod (ce_yC "java/lang/Object") ∈ ce_GW) (g5 : Cond.selects "[I" (ce_yC "[I") (ce_yC "java/lang/Object") ∈ ce_GW) (g6 : Cond.castable "[I" "java/lang/Cloneable" ∈ ce_NG) : ce_OK own nm cc nL ret ht pc (ce_clo (pc + 3)) := by
  intro z p l e R s m args below meth c Q ad0 n0 hC L G S h hS ad ls H locs kc ks h1 h2 hl hI hv k1 k2
  obtain ⟨lo, st⟩ := L
  have hK := ce_CXK hC
  obtain ⟨hl9, hfr, hlo⟩ := ce_CXl hC
  have ex : ∀ es : List ce_SV, ce_ar z ad 0 es = .inl (fun j => ce_iv (ce_v z ad (es.getD j ce_0))) := fun es => rfl
  simp only [ce_clo] at h
  split at h
  · rename_i a r
    split at h
    · rename_i x hx
      split at h
      · rename_i hb
        cases h
        obtain ⟨x1, x2⟩ := x
        simp only [Bool.and_eq_true, ce_ok] at hb
        obtain ⟨b1, b8, b2, b3, b4, b5⟩ := hb
        have b1 := Nat.eq_of_beq_eq_true b1
        subst b1
        have b2 := Nat.le_of_ble_eq_true b2
        have b3 := Nat.le_of_ble_eq_true b3
        have b8 := Nat.le_trans (ce_wt_ok hK (ad := ad) r) (Nat.le_of_ble_eq_true b8)
        obtain ⟨hx0, hxw⟩ := ce_arr_at (z := z) (ad := ad) hx
        dsimp only at hxw
        have hxw2 := hxw
        rw [ex] at hxw
        have hA : ∀ q, s.heap.size ≤ q → ce_A z q := fun q hq => Nat.le_trans hK.2.1 hq
        show W _ _ _ _ _ _ _ _ _ _ _ _ _ _ _ (F0 m pc ls (.ref (ad a) :: r.map (ce_v z ad)))
        refine va_clone (x := (x2.length, .inl (fun j => ce_iv (ce_v z ad (x2.getD j ce_0))))) (ty := .int) hC.1 hC.2.1 (hC.2.2.1.trans hl.1.symm) hC.2.2.2.1 (hC.2.2.2.2.1 _ g1) (hC.2.2.2.2.1 _ g2) (hC.2.2.2.2.1 _ g3) (hC.2.2.2.2.1 _ g4) (hC.2.2.2.2.1 _ g5) (hK.2.2.2.1.1 _ g6) hK.1 hI.1 hI.2.1 hv hA a 0 hxw rfl (va_nm_int (hK.1.2 0 _ rfl).2) (fun i v hv9 => ?_) (by omega) (by omega) (by omega) (by dsimp only; omega) d (fun q H1 hK9 hP hD hS1 => ?_)
        · obtain ⟨hi, hv8⟩ := Array.getElem?_eq_some_iff.mp hv9
          have : ∃ w, v = .int w := by
            rw [← hv8]
            show ∃ w, (arrV (ce_cA z 0) x2.length (fun j => .int (ce_iv (ce_v z ad (x2.getD j ce_0))))).slots[i] = .int w
            simp [arrV]
          obtain ⟨w, rfl⟩ := this
          rfl
        · have he : ce_e z ad (.inr (0, x2)) = .inl (ce_cA z 0, x2.length, .inl (fun j => ce_iv (ce_v z ad (x2.getD j ce_0)))) := by
            simp only [ce_e, ex]
          rw [← he] at hP hD
          have hwe : ce_we G.2.1.length (.inr (0, x2)) = true := List.all_eq_true.mp hI.2.2.1 _ (List.mem_of_getElem? hx0)
          have hgo := hS _ (List.mem_singleton.mpr rfl) (ce_ad ad G.2.1.length q) ls H1 locs (kc + 1) (ks + x2.length) (fun k hk9 => (ce_ad_lt k (Nat.lt_of_lt_of_le hk9 h2)).trans (h1 k hk9)) (by simp; omega) (by rw [ce_loc_congr ce_ad_lt b4]; exact hl)
            (ce_Inv_app (e := .inr (0, x2)) hI.2.2 hwe ce_ad_lt ce_ad_eq hP hD) hS1 (by dsimp only; omega) (by dsimp only; omega)
          rw [List.map_cons, ce_map_congr ce_ad_lt b5] at hgo
          have e9 : ce_v z (ce_ad ad G.2.1.length q) (.inr (.inr (.inl (.inl G.2.1.length)))) = .ref q := congrArg Value.ref ce_ad_eq
          rw [e9] at hgo
          exact hgo
      · cases h
    · cases h
  · cases h
end Nat9
end
section
/-! the greater and the lesser of two numbers, as the library's rows have them -/
section Mm
variable {own nm : String} {cc : ByteArray} {nL : Nat} {ret : Option FieldType} {ht pc : Nat}
def ce_mm (mx : Bool) (nx : Nat) : ce_P := fun L G => match L.2 with
  | .inl (.inl y) :: .inl (.inl x) :: r => match ce_r x && (ce_r y && Nat.ble (ce_wt r) 40) with
    | true => match mx with
      | true => match decide (x < y) with
        | true => some [(nx, (L.1, .inl (.inl y) :: r), G)]
        | false => some [(nx, (L.1, .inl (.inl x) :: r), G)]
      | false => match decide (y < x) with
        | true => some [(nx, (L.1, .inl (.inl y) :: r), G)]
        | false => some [(nx, (L.1, .inl (.inl x) :: r), G)]
    | false => none
  | _ => none
theorem ce_ltI {x y : Int} (hx : ce_r x = true) (hy : ce_r y = true) : Int32.ofInt x < Int32.ofInt y ↔ x < y := by
  rw [Int32.lt_iff_toInt_lt, ce_rt hx, ce_rt hy]
theorem ok_mmax {i : Nat} (d : decode cc pc = .ok (.invokestatic i, 3)) (g1 : Cond.methodLink own i Lib.Math.max.name ∈ ce_GW) (g2 : Cond.static Lib.Math.max.name ∈ ce_GW) (g3 : Cond.initialized "java/lang/Math" ∈ ce_GW) (g4 : Cond.code Lib.Math.max.name Lib.Math.max.code 2 (some .int) ∈ ce_GW) : ce_OK own nm cc nL ret ht pc (ce_mm true (pc + 3)) := by
  intro z p l e R s m args below meth c Q ad0 n0 hC L G S h hS ad ls H locs kc ks h1 h2 hl hI hv k1 k2
  obtain ⟨lo, st⟩ := L
  simp only [ce_mm] at h
  split at h
  · rename_i y x r
    split at h
    · rename_i hb
      simp only [Bool.and_eq_true] at hb
      obtain ⟨b1, b2, b3⟩ := hb
      obtain ⟨hl9, hfr, hlo⟩ := ce_CXl hC
      have b8 := Nat.le_trans (ce_wt_ok (ce_CXK hC) (ad := ad) r) (Nat.le_of_ble_eq_true b3)
      have hlt := ce_ltI b1 b2
      show W _ _ _ _ _ _ _ _ _ _ _ _ _ _ _ (F0 m pc ls (.int (Int32.ofInt y) :: .int (Int32.ofInt x) :: r.map (ce_v z ad)))
      refine va_mmax hC.1 hC.2.1 (hC.2.2.1.trans hl.1.symm) hC.2.2.2.1 (hC.2.2.2.2.1 _ g1) (hC.2.2.2.2.1 _ g2) (hC.2.2.2.2.1 _ g3) (hC.2.2.2.2.1 _ g4) (by omega) (by omega) (by omega) (by omega) d ?_
      split at h
      · rename_i hd
        cases h
        rw [if_pos (hlt.mpr (of_decide_eq_true hd))]
        exact hS _ (List.mem_singleton.mpr rfl) ad ls H locs kc ks h1 h2 hl hI hv k1 k2
      · rename_i hd
        cases h
        rw [if_neg (fun q => of_decide_eq_false hd (hlt.mp q))]
        exact hS _ (List.mem_singleton.mpr rfl) ad ls H locs kc ks h1 h2 hl hI hv k1 k2
    · cases h
  · cases h
theorem ok_mmin {i : Nat} (d : decode cc pc = .ok (.invokestatic i, 3)) (g1 : Cond.methodLink own i Lib.Math.min.name ∈ ce_GW) (g2 : Cond.static Lib.Math.min.name ∈ ce_GW) (g3 : Cond.initialized "java/lang/Math" ∈ ce_GW) (g4 : Cond.code Lib.Math.min.name Lib.Math.min.code 2 (some .int) ∈ ce_GW) : ce_OK own nm cc nL ret ht pc (ce_mm false (pc + 3)) := by
  intro z p l e R s m args below meth c Q ad0 n0 hC L G S h hS ad ls H locs kc ks h1 h2 hl hI hv k1 k2
  obtain ⟨lo, st⟩ := L
  simp only [ce_mm] at h
  split at h
  · rename_i y x r
    split at h
    · rename_i hb
      simp only [Bool.and_eq_true] at hb
      obtain ⟨b1, b2, b3⟩ := hb
      obtain ⟨hl9, hfr, hlo⟩ := ce_CXl hC
      have b8 := Nat.le_trans (ce_wt_ok (ce_CXK hC) (ad := ad) r) (Nat.le_of_ble_eq_true b3)
      have hlt := ce_ltI b2 b1
      show W _ _ _ _ _ _ _ _ _ _ _ _ _ _ _ (F0 m pc ls (.int (Int32.ofInt y) :: .int (Int32.ofInt x) :: r.map (ce_v z ad)))
      refine va_mmin hC.1 hC.2.1 (hC.2.2.1.trans hl.1.symm) hC.2.2.2.1 (hC.2.2.2.2.1 _ g1) (hC.2.2.2.2.1 _ g2) (hC.2.2.2.2.1 _ g3) (hC.2.2.2.2.1 _ g4) (by omega) (by omega) (by omega) (by omega) d ?_
      split at h
      · rename_i hd
        cases h
        rw [if_pos (hlt.mpr (of_decide_eq_true hd))]
        exact hS _ (List.mem_singleton.mpr rfl) ad ls H locs kc ks h1 h2 hl hI hv k1 k2
      · rename_i hd
        cases h
        rw [if_neg (fun q => of_decide_eq_false hd (hlt.mp q))]
        exact hS _ (List.mem_singleton.mpr rfl) ad ls H locs kc ks h1 h2 hl hI hv k1 k2
    · cases h
  · cases h
end Mm
end
section
/-! two steps more: a cast that stands, and the greater one of a number and the next one -/
section More
variable {own nm : String} {cc : ByteArray} {nL : Nat} {ret : Option FieldType} {ht pc : Nat}
def ce_castO (ci nx : Nat) : ce_P := fun L G => match L.2 with
  | v :: r => match ce_rc ci v G with
    | true => some [(nx, (L.1, v :: r), G)]
    | false => none
  | _ => none
theorem ok_castO {i ci N : Nat} {C : String} {T : u_T} (hc : ce_cl[ci]? = some (C, T, N)) (d : decode cc pc = .ok (.checkcast i, 3)) (hk : Cond.classLink own i C ∈ ce_GW) : ce_OK own nm cc nL ret ht pc (ce_castO ci (pc + 3)) := by
  intro z p l e R s m args below meth c Q ad0 n0 hC L G S h hS ad ls H locs kc ks h1 h2 hl hI hv k1 k2
  obtain ⟨lo, st⟩ := L
  simp only [ce_castO] at h
  split at h
  · rename_i v r
    split at h
    · rename_i hb
      cases h
      obtain ⟨b, hb1, hcell⟩ := ce_rc_ok (ce_CXK hC) hI hv hc hb
      show W _ _ _ _ _ _ _ _ _ _ _ _ _ _ _ (F0 m pc ls (ce_v z ad v :: r.map (ce_v z ad)))
      rw [hb1]
      refine va_castS hC.1 hC.2.1 hC.2.2.2.1 (hC.2.2.2.2.1 _ hk) ((ce_CXK hC).1.1 ci _ hc).2 hcell d ?_
      rw [← hb1]
      exact hS _ (List.mem_singleton.mpr rfl) ad ls H locs kc ks h1 h2 hl hI hv k1 k2
    · cases h
  · cases h
def ce_mmx (nx : Nat) : ce_P := fun L G => match L.2 with
  | .inl (.inr y) :: .inl (.inr x) :: r => match decide (y = Term.add x (.int 1)) && (ce_ge G.1 x 0 && (ce_le G.1 x 9998 && Nat.ble (ce_wt r) 40)) with
    | true => some [(nx, (L.1, .inl (.inr y) :: r), G)]
    | false => none
  | _ => none
theorem ok_mmx {i : Nat} (d : decode cc pc = .ok (.invokestatic i, 3)) (g1 : Cond.methodLink own i Lib.Math.max.name ∈ ce_GW) (g2 : Cond.static Lib.Math.max.name ∈ ce_GW) (g3 : Cond.initialized "java/lang/Math" ∈ ce_GW) (g4 : Cond.code Lib.Math.max.name Lib.Math.max.code 2 (some .int) ∈ ce_GW) : ce_OK own nm cc nL ret ht pc (ce_mmx (pc + 3)) := by
  intro z p l e R s m args below meth c Q ad0 n0 hC L G S h hS ad ls H locs kc ks h1 h2 hl hI hv k1 k2
  obtain ⟨lo, st⟩ := L
  simp only [ce_mmx] at h
  split at h
  · rename_i y x r
    split at h
    · rename_i hb
      cases h
      simp only [Bool.and_eq_true, decide_eq_true_eq] at hb
      obtain ⟨b1, b2, b3, b4⟩ := hb
      subst b1
      have b2 := ce_ge_ok hI.2.2.2 b2
      have b3 := ce_le_ok hI.2.2.2 b3
      obtain ⟨hl9, hfr, hlo⟩ := ce_CXl hC
      have b8 := Nat.le_trans (ce_wt_ok (ce_CXK hC) (ad := ad) r) (Nat.le_of_ble_eq_true b4)
      have e1 : ce_I z (.add x (.int 1)) = Int32.ofInt ((ce_I z x).toInt + 1) := by
        show ce_I z x + 1 = _
        rw [Int32.ofInt_add, Int32.ofInt_toInt]; rfl
      have hlt : ce_I z x < ce_I z (.add x (.int 1)) := by
        rw [Int32.lt_iff_toInt_lt, e1, ce_rt (by simp only [ce_r, Bool.and_eq_true, decide_eq_true_eq]; omega)]
        omega
      show W _ _ _ _ _ _ _ _ _ _ _ _ _ _ _ (F0 m pc ls (.int (ce_I z (.add x (.int 1))) :: .int (ce_I z x) :: r.map (ce_v z ad)))
      refine va_mmax hC.1 hC.2.1 (hC.2.2.1.trans hl.1.symm) hC.2.2.2.1 (hC.2.2.2.2.1 _ g1) (hC.2.2.2.2.1 _ g2) (hC.2.2.2.2.1 _ g3) (hC.2.2.2.2.1 _ g4) (by omega) (by omega) (by omega) (by omega) d ?_
      rw [if_pos hlt]
      exact hS _ (List.mem_singleton.mpr rfl) ad ls H locs kc ks h1 h2 hl hI hv k1 k2
    · cases h
  · cases h
end More
end
section
/-! how far the heap has grown at least: the library's word on every run of the machine ('stepsAlone_heap_grows'), carried along with the symbolic machine -/
theorem rf_steps {tb : Tables} {e : Env} {below : List Frame} {s t : State} (h : Steps tb e below s t) : s.heap.size ≤ t.heap.size := by
  obtain ⟨n, rfl, -⟩ := h
  exact (stepsAlone_heap_grows tb e n s).1
theorem rf_top (T : State) (g : JFrame) : (T.setTop g).heap = T.heap := by first | rfl | simp
theorem rf_grow {p : Program} {l : Launch} {e : Env} {R : Room} {s : State} {m : MethodId} {args : Array Value} {below : List Frame} {meth : Method} {c : Code} {H : Heap} {locs : List Loc} {cells slots : Nat} {Q : State → Prop} {g : JFrame} (k : W p l e R s m args below meth c H locs cells slots Q g) :
    W p l e R s m args below meth c H locs cells slots (fun t => Q t ∧ H.size ≤ t.heap.size) g := by
  intro T hT X
  obtain ⟨t, a, b⟩ := k T hT X
  refine ⟨t, a, b, ?_⟩
  have h := rf_steps a
  rw [rf_top, hT] at h
  exact h
/-- a state of the symbolic machine, at a heap of at least B cells -/
def rf_WB (B : Nat) (z : ce_U) (p : Program) (l : Launch) (e : Env) (R : Room) (s : State) (m : MethodId) (args : Array Value) (below : List Frame) (meth : Method) (c : Code) (Q : State → Prop) (nL : Nat) (ad0 : Nat → Nat) (n0 : Nat) (pc : Nat) (L : ce_L) (G : ce_G) : Prop :=
  ∀ (ad : Nat → Nat) (ls : Array Slot) (H : Heap) (locs : List Loc) (kc ks : Nat), (∀ k, k < n0 → ad k = ad0 k) → n0 ≤ G.2.1.length → lv_has ls nL (L.1.map fun q => (q.1, ce_v z ad q.2)) → ce_Inv z ad G H → va_S (ce_A z) s.heap H locs → kc + G.2.2.1 ≤ R.cells → ks + G.2.2.2 ≤ R.slots → B ≤ H.size →
    W p l e R s m args below meth c H locs kc ks Q (F0 m pc ls (L.2.map (ce_v z ad)))
noncomputable def ce_to (tab : Nat → Option ce_N) (cut n : Nat) : Nat → ce_L → ce_G → Option (ce_L × ce_G) :=
  Nat.rec (motive := fun _ => Nat → ce_L → ce_G → Option (ce_L × ce_G)) (fun _ _ _ => none)
    (fun _ ih pc L G => match Nat.beq pc cut with
      | true => some (L, G)
      | false => match tab pc with
        | none => none
        | some f => ce_nf L G fun L G => match f L G with
          | some ([], [y]) => ih y.1 y.2.1 y.2.2
          | _ => none) n
theorem ce_to_succ (tab : Nat → Option ce_N) (cut n pc : Nat) (L : ce_L) (G : ce_G) : ce_to tab cut (n + 1) pc L G = match Nat.beq pc cut with
      | true => some (L, G)
      | false => match tab pc with
        | none => none
        | some f => ce_nf L G fun L G => match f L G with
          | some ([], [y]) => ce_to tab cut n y.1 y.2.1 y.2.2
          | _ => none := rfl
section Seg
variable {own nm : String} {cc : ByteArray} {nL : Nat} {ret : Option FieldType} {ht : Nat} {hh : Option (List (Nat × Nat × Nat × Nat))} {tab : Nat → Option ce_N}
variable {z : ce_U} {p : Program} {l : Launch} {e : Env} {R : Room} {s : State} {m : MethodId} {args : Array Value} {below : List Frame} {meth : Method} {c : Code} {ad0 : Nat → Nat} {n0 : Nat}
theorem ce_to_ok (htab : ∀ pc f, tab pc = some f → ce_OKN own nm cc nL ret ht hh pc f)
    (hC : ce_CX z p l R s m args meth c own nm cc nL ret ht) (hT : ∀ h, hh = some h → c.exceptionTable.toList = tableOf h) (T : ce_R) (Q : State → Prop) (hQ : ∀ t, ce_Qm z R s args below ad0 n0 T t → Q t) {cut : Nat} {L1 : ce_L} {G1 : ce_G} (hgo : ce_WS z p l e R s m args below meth c Q nL ad0 n0 cut L1 G1) : ∀ (n pc : Nat) (L : ce_L) (G : ce_G), ce_to tab cut n pc L G = some (L1, G1) → ce_WS z p l e R s m args below meth c Q nL ad0 n0 pc L G
  | 0, pc, L, G, h => by cases h
  | n + 1, pc, L, G, h => by
    rw [ce_to_succ] at h
    split at h
    · rename_i hb
      cases h
      rw [Nat.eq_of_beq_eq_true hb]
      exact hgo
    · split at h
      · cases h
      · rename_i f hf
        rw [ce_nf_eq] at h
        split at h
        · rename_i y hXY
          refine htab pc f hf hC hT T Q hQ L G [] [y] hXY (fun x hx => nomatch hx) (fun y2 hy => ?_)
          rw [List.mem_singleton.mp hy]
          exact ce_to_ok htab hC hT T Q hQ hgo n y.1 y.2.1 y.2.2 h
        · cases h
theorem rf_no {t : State} (h : ce_Qm z R s args below ad0 n0 [] t) : False := by
  obtain ⟨o, -, -, h⟩ := h
  rcases h with ⟨⟨⟨o9, G9, ad9, m9, -⟩, -⟩, -⟩ | ⟨q, -, E, ce, L9, ⟨⟨k9, G9, ad9, m9, -⟩, -⟩, -⟩
  · cases m9
  · cases m9
/-- another room, as long as the start has it -/
theorem rf_room {T : State} {locs : List Loc} {kc ks : Nat} (X : Stand p l e R s m args below meth c T locs kc ks) {R2 : Room} (h : s.hasRoom e.platform R2 = true) : Stand p l e R2 s m args below meth c T locs kc ks :=
  { X with room := h }
theorem rf_less (h : s.hasRoom e.platform R = true) {a b : Nat} (ha : a ≤ R.cells) (hb : b ≤ R.slots) : s.hasRoom e.platform ({ R with cells := a, slots := b } : Room) = true := by
  simp only [State.hasRoom, Bool.and_eq_true, decide_eq_true_eq] at h ⊢
  obtain ⟨⟨⟨⟨h1, h2⟩, h3⟩, h4⟩, h5⟩ := h
  exact ⟨⟨⟨⟨h1, h2⟩, by omega⟩, by omega⟩, h5⟩
/-- a piece of a run, whatever room is left beyond its own -/
theorem rf_seg (htab : ∀ pc f, tab pc = some f → ce_OKN own nm cc nL ret ht hh pc f)
    (hC : ce_CX z p l R s m args meth c own nm cc nL ret ht) (hT : ∀ h, hh = some h → c.exceptionTable.toList = tableOf h) {cut n pc : Nat} {L L1 : ce_L} {F F1 : ce_F} {C C1 : List ce_SE} {r q r1 q1 : Nat} (hto : ce_to tab cut n pc L (F, C, r, q) = some (L1, (F1, C1, r1, q1)))
    {a b B : Nat} {Q : State → Prop} (hgo : rf_WB B z p l e R s m args below meth c Q nL ad0 n0 cut L1 (F1, C1, r1 + a, q1 + b)) : rf_WB B z p l e R s m args below meth c Q nL ad0 n0 pc L (F, C, r + a, q + b) := by
  intro ad ls H locs kc ks h1 h2 hl hI hv k1 k2 hB T hT9 X
  have k1 : kc + (r + a) ≤ R.cells := k1
  have k2 : ks + (q + b) ≤ R.slots := k2
  let R2 : Room := { R with cells := kc + r, slots := ks + q }
  have hC2 : ce_CX z p l R2 s m args meth c own nm cc nL ret ht := hC
  have X2 : Stand p l e R2 s m args below meth c T locs kc ks := rf_room X (rf_less X.room (by omega) (by omega))
  let Q1 : State → Prop := fun t => ∃ (ad : Nat → Nat) (ls : Array Slot) (H : Heap) (locs : List Loc) (kc ks : Nat) (T : State), (∀ k, k < n0 → ad k = ad0 k) ∧ n0 ≤ C1.length ∧ lv_has ls nL (L1.1.map fun q => (q.1, ce_v z ad q.2)) ∧ ce_Inv z ad (F1, C1, r1, q1) H ∧ va_S (ce_A z) s.heap H locs ∧ kc + r1 ≤ R2.cells ∧ ks + q1 ≤ R2.slots ∧ T.heap = H ∧ Stand p l e R2 s m args below meth c T locs kc ks ∧ t = T.setTop (F0 m cut ls (L1.2.map (ce_v z ad)))
  have key := ce_to_ok (ad0 := ad0) (n0 := n0) (below := below) (e := e) htab hC2 hT [] Q1 (fun t h => (rf_no h).elim) (fun ad ls H locs kc ks a1 a2 a3 a4 a5 a6 a7 T hT X => ⟨_, Steps.refl _, ad, ls, H, locs, kc, ks, T, a1, a2, a3, a4, a5, a6, a7, hT, X, rfl⟩) n pc L (F, C, r, q) hto ad ls H locs kc ks h1 h2 hl hI hv (Nat.le_refl _) (Nat.le_refl _) T hT9 X2
  obtain ⟨t, st, ad1, ls1, H1, locs1, kc1, ks1, T1, a1, a2, a3, a4, a5, a6, a7, e1, X1, rfl⟩ := key
  have a6 : kc1 + r1 ≤ kc + r := a6
  have a7 : ks1 + q1 ≤ ks + q := a7
  have hg := rf_steps st
  rw [rf_top, rf_top, hT9, e1] at hg
  obtain ⟨t2, st2, q2⟩ := hgo ad1 ls1 H1 locs1 kc1 ks1 a1 a2 a3 a4 a5 (by show kc1 + (r1 + a) ≤ R.cells; omega) (by show ks1 + (q1 + b) ≤ R.slots; omega) (Nat.le_trans hB hg) T1 e1 (rf_room X1 X.room)
  exact ⟨t2, st.trans st2, q2⟩
/-- a run to the method's end -/
theorem rf_go (htab : ∀ pc f, tab pc = some f → ce_OKN own nm cc nL ret ht hh pc f)
    (hC : ce_CX z p l R s m args meth c own nm cc nL ret ht) (hT : ∀ h, hh = some h → c.exceptionTable.toList = tableOf h) {n pc : Nat} {L : ce_L} {G : ce_G} {S : ce_R} (hgo : ce_go tab n pc L G = some S)
    {B : Nat} {Q : State → Prop} (hQ : ∀ t, ce_Qm z R s args below ad0 n0 S t → B ≤ t.heap.size → Q t) : rf_WB B z p l e R s m args below meth c Q nL ad0 n0 pc L G := by
  intro ad ls H locs kc ks h1 h2 hl hI hv k1 k2 hB
  exact ce_mono (fun t ht => hQ t ht.1 (Nat.le_trans hB ht.2)) (rf_grow (ce_go_ok htab hC hT S _ (fun _ h => h) n pc L G S hgo (fun _ h => h) ad ls H locs kc ks h1 h2 hl hI hv k1 k2))
end Seg
/-- a contract that tells, too, by how much the heap has grown at least -/
def rf_Q (z : ce_U) (ad : Nat → Nat) (n0 : Nat) (S : ce_R) (gr : Nat) : Array Value → State → Outcome → State → Prop := fun a st o t => ce_Qc z ad n0 S a st o t ∧ st.heap.size + gr ≤ t.heap.size
def rf_MS (l : Launch) (y : MethodName) (hd : Cond) (ht mc ms gr : Nat) (F : ce_C) : Prop := ∀ (z : ce_U) (ad : Nat → Nat) (avs : List ce_SV) (G : ce_G) (S : ce_R), F avs G = some S →
  vx_Met l y (hd :: ce_GW) ({ frames := 8 + ht, cells := mc, slots := ms, locals := 100 * (ht + 2) } : Room) (ce_Pc z ad avs G) (rf_Q z ad G.2.1.length S gr) (ce_XC z ad G.2.1.length S) mc ms (ce_A z)
def rf_RU (gr : Nat) (own nm : String) (cc : ByteArray) (nL : Nat) (ret : Option FieldType) (ht pc na mc ms nx : Nat) (F : ce_C) : Prop :=
  ∀ {z : ce_U} {p : Program} {l : Launch} {e : Env} {R : Room} {s : State} {m : MethodId} {args : Array Value} {below : List Frame} {meth : Method} {c : Code}, ce_CX z p l R s m args meth c own nm cc nL ret ht →
    ∀ (ad : Nat → Nat) (as rest : List ce_SV) (G : ce_G) (S : ce_R) (ls : Array Slot) (H : Heap) (locs : List Loc) (kc ks : Nat), F as G = some S → as.length = na → ls.size = nL → ce_Inv z ad G H → va_S (ce_A z) s.heap H locs → ((rest.map (ce_v z ad)).map fun v => v.category).sum ≤ 8 → kc + mc ≤ R.cells → ks + ms ≤ R.slots →
      ∃ aa, ce_Rn nx p l e R s m args below meth c H locs kc ks mc ms (F0 m pc ls ((as.map (ce_v z ad)).reverse ++ rest.map (ce_v z ad))) (rest.map (ce_v z ad)) (rf_Q z ad G.2.1.length S gr aa) (ce_XC z ad G.2.1.length S) (ce_A z)
section Call2
variable {own nm : String} {cc : ByteArray} {nL : Nat} {ret : Option FieldType} {ht pc : Nat}
theorem rf_runV {ht2 mc ms n index maxL ci N gr : Nat} {C : String} {Tf : u_T} {y : MethodName} {bytes : ByteArray} {ret2 : Option FieldType} {F : ce_C} (hM : ∀ l : Launch, l.stackTraces = false → rf_MS l y (.code y bytes maxL ret2) ht2 mc ms gr F) (hh2 : ht2 + 1 ≤ ht) (hmx : maxL ≤ 81)
    (hc : ce_cl[ci]? = some (C, Tf, N)) (g0 : Cond.code y bytes maxL ret2 ∈ ce_GW) (g1 : Cond.methodLink own index y ∈ ce_GW) (g2 : Cond.instanceMethod y ∈ ce_GW) (g3 : Cond.selects C y y ∈ ce_GW) (g4 : Cond.initialized C ∈ ce_GW)
    (hd : y.cls = C ∧ y.cls ≠ "java/lang/invoke/MethodHandle" ∧ y.cls ≠ "java/lang/invoke/VarHandle" ∧ (parseMethodDescriptor y.desc).map (fun d => d.parameters.length) = some n) (d : decode cc pc = .ok (.invokevirtual index, 3)) : rf_RU gr own nm cc nL ret ht pc (n + 1) mc ms (pc + 3) (ce_CV ci F) := by
  intro z p l e R s m args below meth c hC ad as rest G S ls H locs kc ks hF hn hls hI hv hw kc1 ks1
  obtain ⟨hl, hfr, hlo⟩ := ce_CXl hC
  match as, hn, hF with
  | v :: as2, hn, hF =>
    simp only [ce_CV] at hF
    split at hF
    · rename_i hrc
      obtain ⟨b, hb, hcell⟩ := ce_rc_ok (ce_CXK hC) hI hv hc hrc
      have hPU := ce_PcU (as := v :: as2) (ce_CXK hC) hI hv
      have hMet := hM l hl z ad (v :: as2) G S hF
      have hGi : GoodIn ce_GW (wsV own index C y (.code y bytes maxL ret2 :: ce_GW)) := ce_gia (fun w hw => by
        simp only [List.mem_cons, List.not_mem_nil, or_false] at hw
        rcases hw with rfl | rfl | rfl | rfl
        · exact g1
        · exact g2
        · exact g3
        · exact g4) (ce_gi2 g0)
      rw [List.map_cons, hb] at hPU
      rw [List.map_cons, hb]
      refine ⟨(Value.ref b :: as2.map (ce_v z ad)).toArray, ?_⟩
      exact vx_runV (As := as2.map (ce_v z ad)) (C := C) (b := b) (ce_fix hC) hMet (cwV n hC.2.2.2.2.1 hGi rfl rfl rfl hd ⟨by show 8 + ht2 + 1 ≤ R.frames; omega, by show 8 + (maxL + 11) + 100 * (ht2 + 2) ≤ R.locals; omega⟩) ⟨ce_Pc_blind, hcell, hPU⟩ rfl (by rw [List.length_map]; exact Nat.succ.inj hn) hls (by simp) (lv_room hw) d ⟨kc1, ks1⟩
    · cases hF
theorem rf_call {z : ce_U} {p : Program} {l : Launch} {e : Env} {R : Room} {s : State} {m : MethodId} {args : Array Value} {below : List Frame} {meth : Method} {c : Code} {ad0 : Nat → Nat} {n0 : Nat} {na mc ms nx gr : Nat} {F : ce_C} (hF : rf_RU gr own nm cc nL ret ht pc na mc ms nx F) (hC : ce_CX z p l R s m args meth c own nm cc nL ret ht)
    {as rest : List ce_SV} {lo : List (Nat × ce_SV)} {Fa F1 : ce_F} {C C1 : List ce_SE} {r q r1 q1 : Nat} {v : ce_SV} (hFv : F as (Fa, C, r, q) = some [(.inl (some v), (F1, C1, r1, q1))]) (hna : as.length = na)
    (hck : (Nat.ble (ce_wt rest) 8 && (lo.all (fun x => ce_wv C.length x.2) && rest.all (ce_wv C.length))) = true) (hmc : mc ≤ r) (hms : ms ≤ q) {B : Nat} {Q : State → Prop}
    (hgo : rf_WB (B + gr) z p l e R s m args below meth c Q nL ad0 n0 nx (lo, v :: rest) (F1, C1, r - mc, q - ms)) : rf_WB B z p l e R s m args below meth c Q nL ad0 n0 pc (lo, as.reverse ++ rest) (Fa, C, r, q) := by
  intro ad ls H locs kc ks h1 h2 hl hI hv k1 k2 hB
  have k1 : kc + r ≤ R.cells := k1
  have k2 : ks + q ≤ R.slots := k2
  have h2 : n0 ≤ C.length := h2
  simp only [Bool.and_eq_true] at hck
  obtain ⟨b1, b4, b5⟩ := hck
  have b1 := Nat.le_of_ble_eq_true b1
  obtain ⟨aa, hr⟩ := hF hC (e := e) (below := below) ad as rest (Fa, C, r, q) _ ls H locs kc ks hFv hna hl.1 hI hv (Nat.le_trans (ce_wt_ok (ce_CXK hC) rest) b1) (by omega) (by omega)
  show W _ _ _ _ _ _ _ _ _ _ _ _ _ _ _ (F0 m pc ls ((as.reverse ++ rest).map (ce_v z ad)))
  rw [List.map_append, List.map_reverse]
  intro T hT X
  rcases hr T hT X with ⟨v9, st₀, t, T', L, h0, X', hL, e1, e2, ⟨⟨⟨o, Gx, ad', hm, hvv, hBx⟩, hF9⟩, hgr⟩, st⟩ | ⟨q9, st₀, t, T', L, E, ce, h0, X', hL, e1, e2, ⟨⟨k, Gx, ad', hm, hE, hBx⟩, hF9⟩, hce, hcv, hcl, st⟩
  · cases hvv
    cases List.mem_singleton.mp hm
    obtain ⟨k1', k2', k3⟩ := vx_keep h0 e1 hv (fun _ _ h => h) (fun _ h => h) hL hF9
    have hBx1 : ∀ i, i < C.length → ad' i = ad i := hBx.1
    have hBx2 : C.length ≤ C1.length := hBx.2.1
    have hgr2 : B + gr ≤ T'.heap.size := by
      rw [e1]
      have h9 := hgr
      rw [h0] at h9
      omega
    have e9 : List.map (ce_v z ad') (v :: rest) = ce_v z ad' v :: rest.map (ce_v z ad) := by rw [List.map_cons, ce_map_congr hBx1 b5]
    obtain ⟨t2, a1, b2⟩ := hgo ad' ls T'.heap (locs ++ L) (kc + mc) (ks + ms) (fun i hi => (hBx1 i (Nat.lt_of_lt_of_le hi h2)).trans (h1 i hi)) (Nat.le_trans h2 hBx2)
      (by show lv_has ls nL (lo.map fun x => (x.1, ce_v z ad' x.2)); rw [ce_loc_congr hBx1 b4]; exact hl) (by rw [e1]; exact hBx.2.2) k3 (by show kc + mc + (r - mc) ≤ R.cells; omega) (by show ks + ms + (q - ms) ≤ R.slots; omega) hgr2 T' rfl X'
    rw [e9] at a1
    exact ⟨t2, st t2 a1, b2⟩
  · cases List.mem_singleton.mp hm
end Call2
theorem rf_met {l : Launch} (hl : l.stackTraces = false) {y : MethodName} {cc : ByteArray} {nL : Nat} {ret : Option FieldType} {ht mc ms gr : Nat} (hy : plainName y.cls = true) {z : ce_U} {ad : Nat → Nat} {avs : List ce_SV} {G : ce_G} {S : ce_R} (hax : (avs.all ce_ax && Nat.ble (ce_wt avs) nL) = true)
    (body : ∀ (p : Program) (e : Env) (s : State) (m : MethodId) (args : Array Value) (below : List Frame) (meth : Method) (c : Code), ce_CX z p l ({ frames := 8 + ht, cells := mc, slots := ms, locals := 100 * (ht + 2) } : Room) s m args meth c y.cls y.name cc nL ret ht → (∀ h, some [] = some h → c.exceptionTable.toList = tableOf h) →
      ∀ (ad9 : Nat → Nat) (ls : Array Slot), ad9 = ad → lv_has ls nL ((ce_args 0 avs).map fun q => (q.1, ce_v z ad q.2)) → ce_Inv z ad G s.heap →
      W p l e ({ frames := 8 + ht, cells := mc, slots := ms, locals := 100 * (ht + 2) } : Room) s m args below meth c s.heap [] 0 0 (vx_MQ below (rf_Q z ad G.2.1.length S gr) (ce_XC z ad G.2.1.length S) args s mc ms (ce_A z)) (F0 m 0 ls [])) :
    vx_Met l y (.code y cc nL ret :: ce_GW) ({ frames := 8 + ht, cells := mc, slots := ms, locals := 100 * (ht + 2) } : Room) (ce_Pc z ad avs G) (rf_Q z ad G.2.1.length S gr) (ce_XC z ad G.2.1.length S) mc ms (ce_A z) := by
  refine vx_ofW (cc := cc) (maxL := nL) (ret := ret) hy rfl ?_
  intro p e s m args below meth c s₁ B hml hx0 hP
  obtain ⟨rfl, hK, hI⟩ := hP
  simp only [Bool.and_eq_true] at hax
  have hts := atoms_spec (ws := Cond.code y cc nL ret :: ce_GW) B.pre
  have hC : ce_CX z p l ({ frames := 8 + ht, cells := mc, slots := ms, locals := 100 * (ht + 2) } : Room) s m ((avs.map (ce_v z ad)).toArray) meth c y.cls y.name cc nL ret ht :=
    ⟨B.exec, B.bytes, hml, findClass_of_methodNamed B.named, fun w hw => hts w (List.mem_cons_of_mem _ hw), (name_of_methodNamed B.named B.method).1, B.returns, B.notSynchronized, ⟨hl, Nat.le_refl _, Nat.le_refl _⟩, hK⟩
  have hlen : (lg_sl (avs.map (ce_v z ad))).length ≤ nL := Nat.le_trans (ce_sl_len hK avs) (Nat.le_of_ble_eq_true hax.2)
  have hl9 := lv_entry (avs.map (ce_v z ad)) hlen
  rw [ce_lv_args hK avs 0 hax.1] at hl9
  rw [lg_entry_eq]
  exact body p e s m _ below meth c hC (fun h hh => by cases hh; exact List.eq_nil_iff_forall_not_mem.mpr hx0) ad _ rfl hl9 hI
end
section
-- codes and names of the methods that a run of one call reaches (rows of the claim's printed names), and the words that are used
abbrev cJ0_coder_7d493 : ByteArray := prog_42_method_152_code
def yJ0_coder_7d493 : MethodName := ⟨"java/lang/String", "coder", "()B"⟩
abbrev cJ0_isLatin1_aae02 : ByteArray := prog_42_method_154_code
def yJ0_isLatin1_aae02 : MethodName := ⟨"java/lang/String", "isLatin1", "()Z"⟩
abbrev cJ1_canEncode_9a6ad : ByteArray := prog_44_method_4_code
def yJ1_canEncode_9a6ad : MethodName := ⟨"java/lang/StringLatin1", "canEncode", "(I)Z"⟩
abbrev cJ1_indexOfChar_4cfef : ByteArray := prog_44_method_23_code
def yJ1_indexOfChar_4cfef : MethodName := ⟨"java/lang/StringLatin1", "indexOfChar", "([BIII)I"⟩
abbrev cJ3_checkIndex_8e157 : ByteArray := prog_64_method_11_code
def yJ3_checkIndex_8e157 : MethodName := ⟨"jdk/internal/util/Preconditions", "checkIndex", "(IILjava/util/function/BiFunction;)I"⟩
abbrev cJx35411_hasNext_aae02 : ByteArray := prog_54_method_2_code
abbrev cJx35411_init_45d68 : ByteArray := prog_54_method_1_code
def yJx35411_init_45d68 : MethodName := ⟨"java/util/ArrayList$Itr", "<init>", "(Ljava/util/ArrayList;)V"⟩
abbrev cJx4a65c_elementData_915e3 : ByteArray := prog_53_method_18_code
def yJx4a65c_elementData_915e3 : MethodName := ⟨"java/util/ArrayList", "elementData", "(I)Ljava/lang/Object;"⟩
abbrev cJx4a65c_grow_92f84 : ByteArray := prog_53_method_6_code
def yJx4a65c_grow_92f84 : MethodName := ⟨"java/util/ArrayList", "grow", "(I)[Ljava/lang/Object;"⟩
abbrev cJx4a65c_isEmpty_aae02 : ByteArray := prog_53_method_9_code
def yJx4a65c_isEmpty_aae02 : MethodName := ⟨"java/util/ArrayList", "isEmpty", "()Z"⟩
abbrev cJx4a65c_size_8abf5 : ByteArray := prog_53_method_8_code
def yJx4a65c_size_8abf5 : MethodName := ⟨"java/util/ArrayList", "size", "()I"⟩
abbrev cJxa1e45_init_da8c8 : ByteArray := prog_51_method_1_code
def yJxa1e45_init_da8c8 : MethodName := ⟨"java/util/AbstractCollection", "<init>", "()V"⟩
abbrev cX0_init : ByteArray := prog_2_method_1_code
def yX0_init : MethodName := ⟨"Carcasswright$Board", "<init>", "()V"⟩
abbrev cX10_init : ByteArray := prog_12_method_1_code
def yX10_init : MethodName := ⟨"Carcasswright$Wall", "<init>", "()V"⟩
abbrev cX11_isOutside : ByteArray := prog_1_method_53_code
def yX11_isOutside : MethodName := ⟨"Carcasswright", "isOutside", "(III)Z"⟩
abbrev cX1_init : ByteArray := prog_3_method_1_code
def yX1_init : MethodName := ⟨"Carcasswright$Jobs", "<init>", "()V"⟩
abbrev cX20_init : ByteArray := prog_23_method_1_code
def yX20_init : MethodName := ⟨"CarcasswrightModel$Wall", "<init>", "(CI)V"⟩
abbrev cX21_in : ByteArray := prog_14_method_1_code
def yX21_in : MethodName := ⟨"CarcasswrightModel", "in", "(III)Z"⟩
abbrev cX21_thrown : ByteArray := prog_14_method_4_code
def yX21_thrown : MethodName := ⟨"CarcasswrightModel", "thrown", "()I"⟩
abbrev cX2_init : ByteArray := prog_4_method_1_code
def yX2_init : MethodName := ⟨"Carcasswright$ModuleType", "<init>", "()V"⟩
abbrev cX3_init : ByteArray := prog_5_method_1_code
def yX3_init : MethodName := ⟨"Carcasswright$Obstacle", "<init>", "()V"⟩
abbrev cX4_init : ByteArray := prog_6_method_1_code
def yX4_init : MethodName := ⟨"Carcasswright$Packer", "<init>", "()V"⟩
abbrev cX5_init : ByteArray := prog_7_method_1_code
def yX5_init : MethodName := ⟨"Carcasswright$PlacedModule", "<init>", "(LCarcasswright$ModuleType;)V"⟩
abbrev cX6_firstBehind : ByteArray := prog_8_method_22_code
def yX6_firstBehind : MethodName := ⟨"Carcasswright$Room", "firstBehind", "(IZI)LCarcasswright$PlacedModule;"⟩
abbrev cX6_wallAt : ByteArray := prog_8_method_2_code
def yX6_wallAt : MethodName := ⟨"Carcasswright$Room", "wallAt", "(I)LCarcasswright$Wall;"⟩
abbrev cX9_first : ByteArray := prog_11_method_2_code
def yX9_first : MethodName := ⟨"Carcasswright$Types", "first", "()LCarcasswright$ModuleType;"⟩
abbrev cJ0_length_8abf5 : ByteArray := prog_42_method_54_code
def yJ0_length_8abf5 : MethodName := ⟨"java/lang/String", "length", "()I"⟩
abbrev cJ15_checkIndex_7cf53 : ByteArray := prog_60_method_17_code
def yJ15_checkIndex_7cf53 : MethodName := ⟨"java/util/Objects", "checkIndex", "(II)I"⟩
abbrev cJ1_indexOf_4cfef : ByteArray := prog_44_method_22_code
def yJ1_indexOf_4cfef : MethodName := ⟨"java/lang/StringLatin1", "indexOf", "([BIII)I"⟩
abbrev cJx4a65c_grow_d5877 : ByteArray := prog_53_method_7_code
def yJx4a65c_grow_d5877 : MethodName := ⟨"java/util/ArrayList", "grow", "()[Ljava/lang/Object;"⟩
abbrev cJx4a65c_iterator_32c93 : ByteArray := prog_53_method_55_code
def yJx4a65c_iterator_32c93 : MethodName := ⟨"java/util/ArrayList", "iterator", "()Ljava/util/Iterator;"⟩
abbrev cJxc12de_init_da8c8 : ByteArray := prog_52_method_1_code
def yJxc12de_init_da8c8 : MethodName := ⟨"java/util/AbstractList", "<init>", "()V"⟩
abbrev cX21_noWall : ByteArray := prog_14_method_12_code
def yX21_noWall : MethodName := ⟨"CarcasswrightModel", "noWall", "(I)Z"⟩
abbrev cX6_build : ByteArray := prog_8_method_4_code
def yX6_build : MethodName := ⟨"Carcasswright$Room", "build", "(CI)I"⟩
abbrev cX6_freeRows : ByteArray := prog_8_method_21_code
def yX6_freeRows : MethodName := ⟨"Carcasswright$Room", "freeRows", "(IZZ)I"⟩
abbrev cX6_init : ByteArray := prog_8_method_1_code
def yX6_init : MethodName := ⟨"Carcasswright$Room", "<init>", "(LCarcasswright$ModuleType;)V"⟩
abbrev cX7_init : ByteArray := prog_9_method_1_code
def yX7_init : MethodName := ⟨"Carcasswright$Saw", "<init>", "(LCarcasswright$Stock;)V"⟩
abbrev cX8_init : ByteArray := prog_10_method_1_code
def yX8_init : MethodName := ⟨"Carcasswright$Stock", "<init>", "()V"⟩
abbrev cX9_init : ByteArray := prog_11_method_1_code
def yX9_init : MethodName := ⟨"Carcasswright$Types", "<init>", "()V"⟩
abbrev cJ0_indexOf_7cf53 : ByteArray := prog_42_method_80_code
def yJ0_indexOf_7cf53 : MethodName := ⟨"java/lang/String", "indexOf", "(II)I"⟩
abbrev cJx4a65c_add_72be8 : ByteArray := prog_53_method_24_code
def yJx4a65c_add_72be8 : MethodName := ⟨"java/util/ArrayList", "add", "(Ljava/lang/Object;[Ljava/lang/Object;I)V"⟩
abbrev cJx4a65c_get_915e3 : ByteArray := prog_53_method_20_code
def yJx4a65c_get_915e3 : MethodName := ⟨"java/util/ArrayList", "get", "(I)Ljava/lang/Object;"⟩
abbrev cJx4a65c_init_da8c8 : ByteArray := prog_53_method_2_code
def yJx4a65c_init_da8c8 : MethodName := ⟨"java/util/ArrayList", "<init>", "()V"⟩
abbrev cX11_addWall : ByteArray := prog_1_method_2_code
def yX11_addWall : MethodName := ⟨"Carcasswright", "addWall", "(CI)I"⟩
abbrev cX11_free : ByteArray := prog_1_method_20_code
def yX11_free : MethodName := ⟨"Carcasswright", "free", "(IZ)I"⟩
abbrev cX11_init : ByteArray := prog_1_method_1_code
def yX11_init : MethodName := ⟨"Carcasswright", "<init>", "()V"⟩
abbrev cJ0_indexOf_0f7a4 : ByteArray := prog_42_method_79_code
def yJ0_indexOf_0f7a4 : MethodName := ⟨"java/lang/String", "indexOf", "(I)I"⟩
abbrev cJx4a65c_add_9ea2d : ByteArray := prog_53_method_25_code
def yJx4a65c_add_9ea2d : MethodName := ⟨"java/util/ArrayList", "add", "(Ljava/lang/Object;)Z"⟩
abbrev cL_addWall : ByteArray := method_3_code
def yL_addWall : MethodName := ⟨"CarcasswrightLaw", "addWall", "(LCarcasswright;CI[J)I"⟩
abbrev cL_free : ByteArray := method_19_code
def yL_free : MethodName := ⟨"CarcasswrightLaw", "free", "(LCarcasswright;IZ[J)I"⟩
abbrev cX21_free : ByteArray := prog_14_method_38_code
def yX21_free : MethodName := ⟨"CarcasswrightModel", "free", "(IZZ)I"⟩
abbrev cX21_init : ByteArray := prog_14_method_3_code
def yX21_init : MethodName := ⟨"CarcasswrightModel", "<init>", "()V"⟩
abbrev cX21_addWall : ByteArray := prog_14_method_6_code
def yX21_addWall : MethodName := ⟨"CarcasswrightModel", "addWall", "(CI)I"⟩
abbrev cX21_free_ : ByteArray := prog_14_method_39_code
def yX21_free_ : MethodName := ⟨"CarcasswrightModel", "free", "(IZ)I"⟩
abbrev cL_law : ByteArray := code
def yL_law : MethodName := ⟨"CarcasswrightLaw", "law", "([I)Z"⟩
def dl_J0 : List ce_SV := [.inr (.inr (.inr .null)), .inl (.inl (0)), .inl (.inl (0)), .inl (.inl (0))]
theorem dv_J0 (z : ce_U) (ad : Nat → Nat) : ∀ j : Nat, j < 4 → defaultValue (tyJ0 j) = vp_V (dl_J0.map (ce_v z ad)) j
  | 0, _ => rfl
  | 1, _ => rfl
  | 2, _ => rfl
  | 3, _ => rfl
  | n + 4, h => absurd h (by omega)
def dl_J4 : List ce_SV := [.inr (.inr (.inr .null)), .inl (.inl (0)), .inl (.inl (0)), .inl (.inl (0))]
theorem dv_J4 (z : ce_U) (ad : Nat → Nat) : ∀ j : Nat, j < 4 → defaultValue (tyJ4 j) = vp_V (dl_J4.map (ce_v z ad)) j
  | 0, _ => rfl
  | 1, _ => rfl
  | 2, _ => rfl
  | 3, _ => rfl
  | n + 4, h => absurd h (by omega)
def dl_Jx35411 : List ce_SV := [.inl (.inl (0)), .inl (.inl (0)), .inl (.inl (0)), .inr (.inr (.inr .null))]
theorem dv_Jx35411 (z : ce_U) (ad : Nat → Nat) : ∀ j : Nat, j < 4 → defaultValue (tyJx35411 j) = vp_V (dl_Jx35411.map (ce_v z ad)) j
  | 0, _ => rfl
  | 1, _ => rfl
  | 2, _ => rfl
  | 3, _ => rfl
  | n + 4, h => absurd h (by omega)
def dl_Jx4a65c : List ce_SV := [.inl (.inl (0)), .inr (.inr (.inr .null)), .inl (.inl (0))]
theorem dv_Jx4a65c (z : ce_U) (ad : Nat → Nat) : ∀ j : Nat, j < 3 → defaultValue (tyJx4a65c j) = vp_V (dl_Jx4a65c.map (ce_v z ad)) j
  | 0, _ => rfl
  | 1, _ => rfl
  | 2, _ => rfl
  | n + 3, h => absurd h (by omega)
def dl_X0 : List ce_SV := [.inl (.inl (0)), .inl (.inl (0)), .inl (.inl (0)), .inl (.inl (0)), .inl (.inl (0)), .inl (.inl (0)), .inl (.inl (0))]
theorem dv_X0 (z : ce_U) (ad : Nat → Nat) : ∀ j : Nat, j < 7 → defaultValue (tyX0 j) = vp_V (dl_X0.map (ce_v z ad)) j
  | 0, _ => rfl
  | 1, _ => rfl
  | 2, _ => rfl
  | 3, _ => rfl
  | 4, _ => rfl
  | 5, _ => rfl
  | 6, _ => rfl
  | n + 7, h => absurd h (by omega)
def dl_X1 : List ce_SV := [.inr (.inr (.inr .null)), .inr (.inr (.inr .null)), .inr (.inr (.inr .null)), .inr (.inr (.inr .null)), .inr (.inr (.inr .null)), .inl (.inl (0)), .inl (.inl (0)), .inl (.inl (0))]
theorem dv_X1 (z : ce_U) (ad : Nat → Nat) : ∀ j : Nat, j < 8 → defaultValue (tyX1 j) = vp_V (dl_X1.map (ce_v z ad)) j
  | 0, _ => rfl
  | 1, _ => rfl
  | 2, _ => rfl
  | 3, _ => rfl
  | 4, _ => rfl
  | 5, _ => rfl
  | 6, _ => rfl
  | 7, _ => rfl
  | n + 8, h => absurd h (by omega)
def dl_X2 : List ce_SV := [.inl (.inl (0)), .inl (.inl (0)), .inl (.inl (0)), .inl (.inl (0)), .inl (.inl (0)), .inl (.inl (0)), .inl (.inl (0)), .inl (.inl (0)), .inl (.inl (0))]
theorem dv_X2 (z : ce_U) (ad : Nat → Nat) : ∀ j : Nat, j < 9 → defaultValue (tyX2 j) = vp_V (dl_X2.map (ce_v z ad)) j
  | 0, _ => rfl
  | 1, _ => rfl
  | 2, _ => rfl
  | 3, _ => rfl
  | 4, _ => rfl
  | 5, _ => rfl
  | 6, _ => rfl
  | 7, _ => rfl
  | 8, _ => rfl
  | n + 9, h => absurd h (by omega)
def dl_X3 : List ce_SV := [.inl (.inl (0)), .inl (.inl (0)), .inl (.inl (0)), .inl (.inl (0)), .inl (.inl (0))]
theorem dv_X3 (z : ce_U) (ad : Nat → Nat) : ∀ j : Nat, j < 5 → defaultValue (tyX3 j) = vp_V (dl_X3.map (ce_v z ad)) j
  | 0, _ => rfl
  | 1, _ => rfl
  | 2, _ => rfl
  | 3, _ => rfl
  | 4, _ => rfl
  | n + 5, h => absurd h (by omega)
def dl_X4 : List ce_SV := [.inr (.inr (.inr .null)), .inr (.inr (.inr .null)), .inr (.inr (.inr .null)), .inl (.inl (0))]
theorem dv_X4 (z : ce_U) (ad : Nat → Nat) : ∀ j : Nat, j < 4 → defaultValue (tyX4 j) = vp_V (dl_X4.map (ce_v z ad)) j
  | 0, _ => rfl
  | 1, _ => rfl
  | 2, _ => rfl
  | 3, _ => rfl
  | n + 4, h => absurd h (by omega)
def dl_X5 : List ce_SV := [.inr (.inr (.inr .null)), .inl (.inl (0)), .inl (.inl (0)), .inl (.inl (0)), .inl (.inl (0))]
theorem dv_X5 (z : ce_U) (ad : Nat → Nat) : ∀ j : Nat, j < 5 → defaultValue (tyX5 j) = vp_V (dl_X5.map (ce_v z ad)) j
  | 0, _ => rfl
  | 1, _ => rfl
  | 2, _ => rfl
  | 3, _ => rfl
  | 4, _ => rfl
  | n + 5, h => absurd h (by omega)
def dl_X6 : List ce_SV := [.inr (.inr (.inr .null)), .inr (.inr (.inr .null)), .inr (.inr (.inr .null)), .inr (.inr (.inr .null)), .inr (.inr (.inr .null)), .inr (.inr (.inr .null)), .inl (.inl (0)), .inl (.inl (0)), .inl (.inl (0)), .inl (.inl (0))]
theorem dv_X6 (z : ce_U) (ad : Nat → Nat) : ∀ j : Nat, j < 10 → defaultValue (tyX6 j) = vp_V (dl_X6.map (ce_v z ad)) j
  | 0, _ => rfl
  | 1, _ => rfl
  | 2, _ => rfl
  | 3, _ => rfl
  | 4, _ => rfl
  | 5, _ => rfl
  | 6, _ => rfl
  | 7, _ => rfl
  | 8, _ => rfl
  | 9, _ => rfl
  | n + 10, h => absurd h (by omega)
def dl_X7 : List ce_SV := [.inr (.inr (.inr .null)), .inr (.inr (.inr .null)), .inr (.inr (.inr .null)), .inl (.inl (0)), .inr (.inr (.inr .null)), .inl (.inl (0)), .inl (.inl (0)), .inr (.inr (.inr .null)), .inr (.inr (.inr .null)), .inr (.inr (.inr .null)), .inl (.inl (0)), .inr (.inr (.inr .null)), .inl (.inl (0))]
theorem dv_X7 (z : ce_U) (ad : Nat → Nat) : ∀ j : Nat, j < 13 → defaultValue (tyX7 j) = vp_V (dl_X7.map (ce_v z ad)) j
  | 0, _ => rfl
  | 1, _ => rfl
  | 2, _ => rfl
  | 3, _ => rfl
  | 4, _ => rfl
  | 5, _ => rfl
  | 6, _ => rfl
  | 7, _ => rfl
  | 8, _ => rfl
  | 9, _ => rfl
  | 10, _ => rfl
  | 11, _ => rfl
  | 12, _ => rfl
  | n + 13, h => absurd h (by omega)
def dl_X8 : List ce_SV := [.inr (.inr (.inr .null)), .inl (.inl (0)), .inr (.inl (.inl (0))), .inr (.inl (.inl (0))), .inr (.inl (.inl (0)))]
theorem dv_X8 (z : ce_U) (ad : Nat → Nat) : ∀ j : Nat, j < 5 → defaultValue (tyX8 j) = vp_V (dl_X8.map (ce_v z ad)) j
  | 0, _ => rfl
  | 1, _ => rfl
  | 2, _ => rfl
  | 3, _ => rfl
  | 4, _ => rfl
  | n + 5, h => absurd h (by omega)
def dl_X9 : List ce_SV := [.inr (.inr (.inr .null)), .inr (.inr (.inr .null)), .inr (.inr (.inr .null)), .inl (.inl (0)), .inl (.inl (0)), .inl (.inl (0)), .inl (.inl (0)), .inl (.inl (0)), .inl (.inl (0)), .inl (.inl (0))]
theorem dv_X9 (z : ce_U) (ad : Nat → Nat) : ∀ j : Nat, j < 10 → defaultValue (tyX9 j) = vp_V (dl_X9.map (ce_v z ad)) j
  | 0, _ => rfl
  | 1, _ => rfl
  | 2, _ => rfl
  | 3, _ => rfl
  | 4, _ => rfl
  | 5, _ => rfl
  | 6, _ => rfl
  | 7, _ => rfl
  | 8, _ => rfl
  | 9, _ => rfl
  | n + 10, h => absurd h (by omega)
def dl_X10 : List ce_SV := [.inl (.inl (0)), .inl (.inl (0)), .inl (.inl (0)), .inl (.inl (0)), .inl (.inl (0)), .inl (.inl (0))]
theorem dv_X10 (z : ce_U) (ad : Nat → Nat) : ∀ j : Nat, j < 6 → defaultValue (tyX10 j) = vp_V (dl_X10.map (ce_v z ad)) j
  | 0, _ => rfl
  | 1, _ => rfl
  | 2, _ => rfl
  | 3, _ => rfl
  | 4, _ => rfl
  | 5, _ => rfl
  | n + 6, h => absurd h (by omega)
def dl_X11 : List ce_SV := [.inr (.inr (.inr .null)), .inr (.inr (.inr .null)), .inr (.inr (.inr .null)), .inr (.inr (.inr .null)), .inr (.inr (.inr .null)), .inr (.inr (.inr .null)), .inr (.inr (.inr .null))]
theorem dv_X11 (z : ce_U) (ad : Nat → Nat) : ∀ j : Nat, j < 7 → defaultValue (tyX11 j) = vp_V (dl_X11.map (ce_v z ad)) j
  | 0, _ => rfl
  | 1, _ => rfl
  | 2, _ => rfl
  | 3, _ => rfl
  | 4, _ => rfl
  | 5, _ => rfl
  | 6, _ => rfl
  | n + 7, h => absurd h (by omega)
def dl_X12 : List ce_SV := [.inl (.inl (0)), .inl (.inl (0)), .inl (.inl (0)), .inl (.inl (0)), .inl (.inl (0)), .inr (.inr (.inr .null)), .inr (.inr (.inr .null))]
theorem dv_X12 (z : ce_U) (ad : Nat → Nat) : ∀ j : Nat, j < 7 → defaultValue (tyX12 j) = vp_V (dl_X12.map (ce_v z ad)) j
  | 0, _ => rfl
  | 1, _ => rfl
  | 2, _ => rfl
  | 3, _ => rfl
  | 4, _ => rfl
  | 5, _ => rfl
  | 6, _ => rfl
  | n + 7, h => absurd h (by omega)
def dl_X14 : List ce_SV := [.inl (.inl (0)), .inl (.inl (0)), .inl (.inl (0))]
theorem dv_X14 (z : ce_U) (ad : Nat → Nat) : ∀ j : Nat, j < 3 → defaultValue (tyX14 j) = vp_V (dl_X14.map (ce_v z ad)) j
  | 0, _ => rfl
  | 1, _ => rfl
  | 2, _ => rfl
  | n + 3, h => absurd h (by omega)
def dl_X19 : List ce_SV := [.inl (.inl (0)), .inl (.inl (0)), .inl (.inl (0)), .inl (.inl (0)), .inl (.inl (0))]
theorem dv_X19 (z : ce_U) (ad : Nat → Nat) : ∀ j : Nat, j < 5 → defaultValue (tyX19 j) = vp_V (dl_X19.map (ce_v z ad)) j
  | 0, _ => rfl
  | 1, _ => rfl
  | 2, _ => rfl
  | 3, _ => rfl
  | 4, _ => rfl
  | n + 5, h => absurd h (by omega)
def dl_X20 : List ce_SV := [.inl (.inl (0)), .inl (.inl (0)), .inl (.inl (0)), .inl (.inl (0)), .inl (.inl (0))]
theorem dv_X20 (z : ce_U) (ad : Nat → Nat) : ∀ j : Nat, j < 5 → defaultValue (tyX20 j) = vp_V (dl_X20.map (ce_v z ad)) j
  | 0, _ => rfl
  | 1, _ => rfl
  | 2, _ => rfl
  | 3, _ => rfl
  | 4, _ => rfl
  | n + 5, h => absurd h (by omega)
def dl_X21 : List ce_SV := [.inl (.inl (0)), .inr (.inr (.inr .null)), .inr (.inr (.inr .null)), .inr (.inr (.inr .null)), .inr (.inr (.inr .null)), .inr (.inr (.inr .null)), .inr (.inr (.inr .null)), .inr (.inr (.inr .null)), .inr (.inr (.inr .null)), .inl (.inl (0)), .inr (.inl (.inl (0))), .inr (.inl (.inl (0))), .inr (.inl (.inl (0))), .inr (.inr (.inr .null)), .inr (.inr (.inr .null)), .inr (.inr (.inr .null)), .inl (.inl (0)), .inl (.inl (0)), .inl (.inl (0)), .inr (.inr (.inr .null))]
theorem dv_X21 (z : ce_U) (ad : Nat → Nat) : ∀ j : Nat, j < 20 → defaultValue (tyX21 j) = vp_V (dl_X21.map (ce_v z ad)) j
  | 0, _ => rfl
  | 1, _ => rfl
  | 2, _ => rfl
  | 3, _ => rfl
  | 4, _ => rfl
  | 5, _ => rfl
  | 6, _ => rfl
  | 7, _ => rfl
  | 8, _ => rfl
  | 9, _ => rfl
  | 10, _ => rfl
  | 11, _ => rfl
  | 12, _ => rfl
  | 13, _ => rfl
  | 14, _ => rfl
  | 15, _ => rfl
  | 16, _ => rfl
  | 17, _ => rfl
  | 18, _ => rfl
  | 19, _ => rfl
  | n + 20, h => absurd h (by omega)
theorem gT_P : ∀ w ∈ k2_sels lw_privs, goodWord w = true → w ∈ ce_GW := fun w h g => ce_inF (List.mem_filter.mpr ⟨List.mem_append_left _ h, g⟩)
theorem gT_1 : ∀ w ∈ tables_1_1, goodWord w = true → w ∈ ce_GW := fun w h g => ce_inF (List.mem_filter.mpr ⟨List.mem_append_right _ (List.mem_append_left _ h), g⟩)
theorem gT_2 : ∀ w ∈ tables_1_2, goodWord w = true → w ∈ ce_GW := fun w h g => ce_inF (List.mem_filter.mpr ⟨List.mem_append_right _ (List.mem_append_right _ (List.mem_append_left _ h)), g⟩)
theorem gT_3 : ∀ w ∈ tables_1_3, goodWord w = true → w ∈ ce_GW := fun w h g => ce_inF (List.mem_filter.mpr ⟨List.mem_append_right _ (List.mem_append_right _ (List.mem_append_right _ (List.mem_append_left _ h))), g⟩)
theorem gT_4 : ∀ w ∈ tables_1_4, goodWord w = true → w ∈ ce_GW := fun w h g => ce_inF (List.mem_filter.mpr ⟨List.mem_append_right _ (List.mem_append_right _ (List.mem_append_right _ (List.mem_append_right _ (List.mem_append_left _ h)))), g⟩)
theorem gT_5 : ∀ w ∈ tables_1_5, goodWord w = true → w ∈ ce_GW := fun w h g => ce_inF (List.mem_filter.mpr ⟨List.mem_append_right _ (List.mem_append_right _ (List.mem_append_right _ (List.mem_append_right _ (List.mem_append_right _ (List.mem_append_left _ h))))), g⟩)
theorem gT_6 : ∀ w ∈ tables_1_6, goodWord w = true → w ∈ ce_GW := fun w h g => ce_inF (List.mem_filter.mpr ⟨List.mem_append_right _ (List.mem_append_right _ (List.mem_append_right _ (List.mem_append_right _ (List.mem_append_right _ (List.mem_append_right _ (List.mem_append_left _ h)))))), g⟩)
theorem gT_7 : ∀ w ∈ tables_1_7, goodWord w = true → w ∈ ce_GW := fun w h g => ce_inF (List.mem_filter.mpr ⟨List.mem_append_right _ (List.mem_append_right _ (List.mem_append_right _ (List.mem_append_right _ (List.mem_append_right _ (List.mem_append_right _ (List.mem_append_right _ (List.mem_append_left _ h))))))), g⟩)
theorem gT_8 : ∀ w ∈ tables_1_8, goodWord w = true → w ∈ ce_GW := fun w h g => ce_inF (List.mem_filter.mpr ⟨List.mem_append_right _ (List.mem_append_right _ (List.mem_append_right _ (List.mem_append_right _ (List.mem_append_right _ (List.mem_append_right _ (List.mem_append_right _ (List.mem_append_right _ (List.mem_append_left _ h)))))))), g⟩)
theorem gT_9 : ∀ w ∈ tables_1_9, goodWord w = true → w ∈ ce_GW := fun w h g => ce_inF (List.mem_filter.mpr ⟨List.mem_append_right _ (List.mem_append_right _ (List.mem_append_right _ (List.mem_append_right _ (List.mem_append_right _ (List.mem_append_right _ (List.mem_append_right _ (List.mem_append_right _ (List.mem_append_right _ (List.mem_append_left _ h))))))))), g⟩)
theorem gT_10 : ∀ w ∈ tables_1_10, goodWord w = true → w ∈ ce_GW := fun w h g => ce_inF (List.mem_filter.mpr ⟨List.mem_append_right _ (List.mem_append_right _ (List.mem_append_right _ (List.mem_append_right _ (List.mem_append_right _ (List.mem_append_right _ (List.mem_append_right _ (List.mem_append_right _ (List.mem_append_right _ (List.mem_append_right _ (List.mem_append_left _ h)))))))))), g⟩)
theorem gT_11 : ∀ w ∈ tables_1_11, goodWord w = true → w ∈ ce_GW := fun w h g => ce_inF (List.mem_filter.mpr ⟨List.mem_append_right _ (List.mem_append_right _ (List.mem_append_right _ (List.mem_append_right _ (List.mem_append_right _ (List.mem_append_right _ (List.mem_append_right _ (List.mem_append_right _ (List.mem_append_right _ (List.mem_append_right _ (List.mem_append_right _ (List.mem_append_left _ h))))))))))), g⟩)
theorem gT_12 : ∀ w ∈ tables_1_12, goodWord w = true → w ∈ ce_GW := fun w h g => ce_inF (List.mem_filter.mpr ⟨List.mem_append_right _ (List.mem_append_right _ (List.mem_append_right _ (List.mem_append_right _ (List.mem_append_right _ (List.mem_append_right _ (List.mem_append_right _ (List.mem_append_right _ (List.mem_append_right _ (List.mem_append_right _ (List.mem_append_right _ (List.mem_append_right _ (List.mem_append_left _ h)))))))))))), g⟩)
theorem gT_13 : ∀ w ∈ tables_1_13, goodWord w = true → w ∈ ce_GW := fun w h g => ce_inF (List.mem_filter.mpr ⟨List.mem_append_right _ (List.mem_append_right _ (List.mem_append_right _ (List.mem_append_right _ (List.mem_append_right _ (List.mem_append_right _ (List.mem_append_right _ (List.mem_append_right _ (List.mem_append_right _ (List.mem_append_right _ (List.mem_append_right _ (List.mem_append_right _ (List.mem_append_right _ (h))))))))))))), g⟩)
theorem gp_4 : Cond.selects "java/util/ArrayList" ⟨"java/util/ArrayList", "add", "(Ljava/lang/Object;[Ljava/lang/Object;I)V"⟩ ⟨"java/util/ArrayList", "add", "(Ljava/lang/Object;[Ljava/lang/Object;I)V"⟩ ∈ ce_GW := gT_P _ (List.mem_of_getElem? (i := 4) rfl) rfl
theorem gp_5 : Cond.selects "java/util/ArrayList" ⟨"java/util/ArrayList", "grow", "()[Ljava/lang/Object;"⟩ ⟨"java/util/ArrayList", "grow", "()[Ljava/lang/Object;"⟩ ∈ ce_GW := gT_P _ (List.mem_of_getElem? (i := 5) rfl) rfl
theorem gp_6 : Cond.selects "java/util/ArrayList" ⟨"java/util/ArrayList", "grow", "(I)[Ljava/lang/Object;"⟩ ⟨"java/util/ArrayList", "grow", "(I)[Ljava/lang/Object;"⟩ ∈ ce_GW := gT_P _ (List.mem_of_getElem? (i := 6) rfl) rfl
theorem gp_11 : Cond.selects "CarcasswrightModel" ⟨"CarcasswrightModel", "noWall", "(I)Z"⟩ ⟨"CarcasswrightModel", "noWall", "(I)Z"⟩ ∈ ce_GW := gT_P _ (List.mem_of_getElem? (i := 11) rfl) rfl
theorem gw_0 : Cond.initialized "CarcasswrightLaw" ∈ ce_GW := gT_1 _ (List.mem_of_getElem? (i := 0) rfl) rfl
theorem gw_1 : Cond.initialized "Carcasswright" ∈ ce_GW := gT_1 _ (List.mem_of_getElem? (i := 1) rfl) rfl
theorem gw_2 : Cond.initialized "Carcasswright$Types" ∈ ce_GW := gT_1 _ (List.mem_of_getElem? (i := 2) rfl) rfl
theorem gw_3 : Cond.initialized "Carcasswright$ModuleType" ∈ ce_GW := gT_1 _ (List.mem_of_getElem? (i := 3) rfl) rfl
theorem gw_4 : Cond.initialized "Carcasswright$Room" ∈ ce_GW := gT_1 _ (List.mem_of_getElem? (i := 4) rfl) rfl
theorem gw_5 : Cond.initialized "Carcasswright$Wall" ∈ ce_GW := gT_1 _ (List.mem_of_getElem? (i := 5) rfl) rfl
theorem gw_6 : Cond.initialized "Carcasswright$Obstacle" ∈ ce_GW := gT_1 _ (List.mem_of_getElem? (i := 6) rfl) rfl
theorem gw_7 : Cond.initialized "Carcasswright$PlacedModule" ∈ ce_GW := gT_1 _ (List.mem_of_getElem? (i := 7) rfl) rfl
theorem gw_8 : Cond.initialized "Carcasswright$Stock" ∈ ce_GW := gT_1 _ (List.mem_of_getElem? (i := 8) rfl) rfl
theorem gw_9 : Cond.initialized "Carcasswright$Board" ∈ ce_GW := gT_1 _ (List.mem_of_getElem? (i := 9) rfl) rfl
theorem gw_10 : Cond.initialized "Carcasswright$Saw" ∈ ce_GW := gT_1 _ (List.mem_of_getElem? (i := 10) rfl) rfl
theorem gw_11 : Cond.initialized "Carcasswright$Packer" ∈ ce_GW := gT_1 _ (List.mem_of_getElem? (i := 11) rfl) rfl
theorem gw_12 : Cond.initialized "Carcasswright$Jobs" ∈ ce_GW := gT_1 _ (List.mem_of_getElem? (i := 12) rfl) rfl
theorem gw_13 : Cond.initialized "CarcasswrightModel" ∈ ce_GW := gT_1 _ (List.mem_of_getElem? (i := 13) rfl) rfl
theorem gw_14 : Cond.initialized "java/util/AbstractCollection" ∈ ce_GW := gT_1 _ (List.mem_of_getElem? (i := 14) rfl) rfl
theorem gw_15 : Cond.initialized "java/util/AbstractList" ∈ ce_GW := gT_1 _ (List.mem_of_getElem? (i := 15) rfl) rfl
theorem gw_16 : Cond.initialized "java/util/ArrayList" ∈ ce_GW := gT_1 _ (List.mem_of_getElem? (i := 16) rfl) rfl
theorem gw_23 : Cond.initialized "java/lang/String" ∈ ce_GW := gT_1 _ (List.mem_of_getElem? (i := 23) rfl) rfl
theorem gw_24 : Cond.initialized "java/lang/StringLatin1" ∈ ce_GW := gT_1 _ (List.mem_of_getElem? (i := 24) rfl) rfl
theorem gw_25 : Cond.initialized "java/lang/Math" ∈ ce_GW := gT_1 _ (List.mem_of_getElem? (i := 25) rfl) rfl
theorem gw_27 : Cond.initialized "jdk/internal/util/Preconditions" ∈ ce_GW := gT_1 _ (List.mem_of_getElem? (i := 27) rfl) rfl
theorem gw_29 : Cond.initialized "CarcasswrightModel$Wall" ∈ ce_GW := gT_1 _ (List.mem_of_getElem? (i := 29) rfl) rfl
theorem gw_34 : Cond.initialized "java/util/ArrayList$Itr" ∈ ce_GW := gT_1 _ (List.mem_of_getElem? (i := 34) rfl) rfl
theorem gw_36 : Cond.initialized "java/util/Objects" ∈ ce_GW := gT_1 _ (List.mem_of_getElem? (i := 36) rfl) rfl
theorem gw_51 : Cond.classLink "CarcasswrightLaw" 8 "Carcasswright" ∈ ce_GW := gT_1 _ (List.mem_of_getElem? (i := 51) rfl) rfl
theorem gw_52 : Cond.instantiable "Carcasswright" 7 ∈ ce_GW := gT_1 _ (List.mem_of_getElem? (i := 52) rfl) rfl
theorem gw_53 : Cond.methodLink "CarcasswrightLaw" 170 ⟨"Carcasswright", "<init>", "()V"⟩ ∈ ce_GW := gT_1 _ (List.mem_of_getElem? (i := 53) rfl) rfl
theorem gw_54 : Cond.instanceMethod ⟨"Carcasswright", "<init>", "()V"⟩ ∈ ce_GW := gT_1 _ (List.mem_of_getElem? (i := 54) rfl) rfl
theorem gw_55 : Cond.code ⟨"Carcasswright", "<init>", "()V"⟩ prog_1_method_1_code 1 Option.none ∈ ce_GW := gT_1 _ (List.mem_of_getElem? (i := 55) rfl) rfl
theorem gw_56 : Cond.methodLink "Carcasswright" 1 ⟨"java/lang/Object", "<init>", "()V"⟩ ∈ ce_GW := gT_1 _ (List.mem_of_getElem? (i := 56) rfl) rfl
theorem gw_57 : Cond.instanceMethod ⟨"java/lang/Object", "<init>", "()V"⟩ ∈ ce_GW := gT_1 _ (List.mem_of_getElem? (i := 57) rfl) rfl
theorem gw_58 : Cond.code ⟨"java/lang/Object", "<init>", "()V"⟩ object_method_1_code 1 Option.none ∈ ce_GW := gT_1 _ (List.mem_of_getElem? (i := 58) rfl) rfl
theorem gw_59 : Cond.classLink "Carcasswright" 7 "Carcasswright$Types" ∈ ce_GW := gT_1 _ (List.mem_of_getElem? (i := 59) rfl) rfl
theorem gw_60 : Cond.instantiable "Carcasswright$Types" 10 ∈ ce_GW := gT_1 _ (List.mem_of_getElem? (i := 60) rfl) rfl
theorem gw_61 : Cond.methodLink "Carcasswright" 9 ⟨"Carcasswright$Types", "<init>", "()V"⟩ ∈ ce_GW := gT_1 _ (List.mem_of_getElem? (i := 61) rfl) rfl
theorem gw_62 : Cond.instanceMethod ⟨"Carcasswright$Types", "<init>", "()V"⟩ ∈ ce_GW := gT_1 _ (List.mem_of_getElem? (i := 62) rfl) rfl
theorem gw_63 : Cond.code ⟨"Carcasswright$Types", "<init>", "()V"⟩ prog_11_method_1_code 2 Option.none ∈ ce_GW := gT_1 _ (List.mem_of_getElem? (i := 63) rfl) rfl
theorem gw_64 : Cond.methodLink "Carcasswright$Types" 1 ⟨"java/lang/Object", "<init>", "()V"⟩ ∈ ce_GW := gT_1 _ (List.mem_of_getElem? (i := 64) rfl) rfl
theorem gw_65 : Cond.classLink "Carcasswright$Types" 13 "Carcasswright$ModuleType" ∈ ce_GW := gT_1 _ (List.mem_of_getElem? (i := 65) rfl) rfl
theorem gw_67 : Cond.instantiable "Carcasswright$ModuleType" 9 ∈ ce_GW := gT_1 _ (List.mem_of_getElem? (i := 67) rfl) rfl
theorem gw_69 : Cond.instanceMethod ⟨"Carcasswright$ModuleType", "<init>", "()V"⟩ ∈ ce_GW := gT_1 _ (List.mem_of_getElem? (i := 69) rfl) rfl
theorem gw_70 : Cond.code ⟨"Carcasswright$ModuleType", "<init>", "()V"⟩ prog_4_method_1_code 1 Option.none ∈ ce_GW := gT_1 _ (List.mem_of_getElem? (i := 70) rfl) rfl
theorem gw_71 : Cond.methodLink "Carcasswright$ModuleType" 1 ⟨"java/lang/Object", "<init>", "()V"⟩ ∈ ce_GW := gT_1 _ (List.mem_of_getElem? (i := 71) rfl) rfl
theorem gw_72 : Cond.fieldLink "Carcasswright$ModuleType" 7 "Carcasswright$ModuleType" "body" "C" ∈ ce_GW := gT_1 _ (List.mem_of_getElem? (i := 72) rfl) rfl
theorem gw_113 : Cond.arrayClass Jvm.ClassFile.FieldType.char ∈ ce_GW := gT_1 _ (List.mem_of_getElem? (i := 113) rfl) rfl
theorem gw_114 : Cond.fieldLink "Carcasswright$Types" 9 "Carcasswright$Types" "signs" "[C" ∈ ce_GW := gT_1 _ (List.mem_of_getElem? (i := 114) rfl) rfl
theorem gw_115 : Cond.fieldLink "Carcasswright$Types" 15 "Carcasswright$Types" "types" "[LCarcasswright$ModuleType;" ∈ ce_GW := gT_1 _ (List.mem_of_getElem? (i := 115) rfl) rfl
theorem gw_116 : Cond.fieldLink "Carcasswright$Types" 20 "Carcasswright$Types" "draft" "LCarcasswright$ModuleType;" ∈ ce_GW := gT_1 _ (List.mem_of_getElem? (i := 116) rfl) rfl
theorem gw_149 : Cond.classLink "Carcasswright" 16 "Carcasswright$Room" ∈ ce_GW := gT_1 _ (List.mem_of_getElem? (i := 149) rfl) rfl
theorem gw_150 : Cond.instantiable "Carcasswright$Room" 10 ∈ ce_GW := gT_1 _ (List.mem_of_getElem? (i := 150) rfl) rfl
theorem gw_151 : Cond.methodLink "Carcasswright" 18 ⟨"Carcasswright$Types", "first", "()LCarcasswright$ModuleType;"⟩ ∈ ce_GW := gT_1 _ (List.mem_of_getElem? (i := 151) rfl) rfl
theorem gw_152 : Cond.instanceMethod ⟨"Carcasswright$Types", "first", "()LCarcasswright$ModuleType;"⟩ ∈ ce_GW := gT_1 _ (List.mem_of_getElem? (i := 152) rfl) rfl
theorem gw_153 : Cond.selects "Carcasswright$Types" ⟨"Carcasswright$Types", "first", "()LCarcasswright$ModuleType;"⟩ ⟨"Carcasswright$Types", "first", "()LCarcasswright$ModuleType;"⟩ ∈ ce_GW := gT_1 _ (List.mem_of_getElem? (i := 153) rfl) rfl
theorem gw_154 : Cond.code ⟨"Carcasswright$Types", "first", "()LCarcasswright$ModuleType;"⟩ prog_11_method_2_code 1 (Option.some (Jvm.ClassFile.FieldType.object "Carcasswright$ModuleType")) ∈ ce_GW := gT_1 _ (List.mem_of_getElem? (i := 154) rfl) rfl
theorem gw_155 : Cond.methodLink "Carcasswright" 22 ⟨"Carcasswright$Room", "<init>", "(LCarcasswright$ModuleType;)V"⟩ ∈ ce_GW := gT_1 _ (List.mem_of_getElem? (i := 155) rfl) rfl
theorem gw_156 : Cond.instanceMethod ⟨"Carcasswright$Room", "<init>", "(LCarcasswright$ModuleType;)V"⟩ ∈ ce_GW := gT_1 _ (List.mem_of_getElem? (i := 156) rfl) rfl
theorem gw_157 : Cond.code ⟨"Carcasswright$Room", "<init>", "(LCarcasswright$ModuleType;)V"⟩ prog_8_method_1_code 3 Option.none ∈ ce_GW := gT_1 _ (List.mem_of_getElem? (i := 157) rfl) rfl
theorem gw_158 : Cond.methodLink "Carcasswright$Room" 1 ⟨"java/lang/Object", "<init>", "()V"⟩ ∈ ce_GW := gT_1 _ (List.mem_of_getElem? (i := 158) rfl) rfl
theorem gw_159 : Cond.classLink "Carcasswright$Room" 9 "Carcasswright$Wall" ∈ ce_GW := gT_1 _ (List.mem_of_getElem? (i := 159) rfl) rfl
theorem gw_161 : Cond.classLink "Carcasswright$Room" 15 "Carcasswright$Obstacle" ∈ ce_GW := gT_1 _ (List.mem_of_getElem? (i := 161) rfl) rfl
theorem gw_163 : Cond.classLink "Carcasswright$Room" 21 "Carcasswright$PlacedModule" ∈ ce_GW := gT_1 _ (List.mem_of_getElem? (i := 163) rfl) rfl
theorem gw_165 : Cond.instantiable "Carcasswright$Wall" 6 ∈ ce_GW := gT_1 _ (List.mem_of_getElem? (i := 165) rfl) rfl
theorem gw_167 : Cond.instanceMethod ⟨"Carcasswright$Wall", "<init>", "()V"⟩ ∈ ce_GW := gT_1 _ (List.mem_of_getElem? (i := 167) rfl) rfl
theorem gw_168 : Cond.code ⟨"Carcasswright$Wall", "<init>", "()V"⟩ prog_12_method_1_code 1 Option.none ∈ ce_GW := gT_1 _ (List.mem_of_getElem? (i := 168) rfl) rfl
theorem gw_169 : Cond.methodLink "Carcasswright$Wall" 1 ⟨"java/lang/Object", "<init>", "()V"⟩ ∈ ce_GW := gT_1 _ (List.mem_of_getElem? (i := 169) rfl) rfl
theorem gw_170 : Cond.fieldLink "Carcasswright$Wall" 7 "Carcasswright$Wall" "way" "C" ∈ ce_GW := gT_1 _ (List.mem_of_getElem? (i := 170) rfl) rfl
theorem gw_171 : Cond.fieldLink "Carcasswright$Room" 58 "Carcasswright$Wall" "way" "C" ∈ ce_GW := gT_1 _ (List.mem_of_getElem? (i := 171) rfl) rfl
theorem gw_172 : Cond.fieldLink "Carcasswright$Room" 62 "Carcasswright$Wall" "measured" "I" ∈ ce_GW := gT_1 _ (List.mem_of_getElem? (i := 172) rfl) rfl
theorem gw_174 : Cond.fieldLink "Carcasswright$Room" 65 "Carcasswright$Wall" "length" "I" ∈ ce_GW := gT_1 _ (List.mem_of_getElem? (i := 174) rfl) rfl
theorem gw_193 : Cond.arrayClass Jvm.ClassFile.FieldType.int ∈ ce_GW := gT_1 _ (List.mem_of_getElem? (i := 193) rfl) rfl
theorem gw_194 : Cond.instantiable "Carcasswright$Obstacle" 5 ∈ ce_GW := gT_1 _ (List.mem_of_getElem? (i := 194) rfl) rfl
theorem gw_196 : Cond.instanceMethod ⟨"Carcasswright$Obstacle", "<init>", "()V"⟩ ∈ ce_GW := gT_1 _ (List.mem_of_getElem? (i := 196) rfl) rfl
theorem gw_197 : Cond.code ⟨"Carcasswright$Obstacle", "<init>", "()V"⟩ prog_5_method_1_code 1 Option.none ∈ ce_GW := gT_1 _ (List.mem_of_getElem? (i := 197) rfl) rfl
theorem gw_198 : Cond.methodLink "Carcasswright$Obstacle" 1 ⟨"java/lang/Object", "<init>", "()V"⟩ ∈ ce_GW := gT_1 _ (List.mem_of_getElem? (i := 198) rfl) rfl
theorem gw_215 : Cond.instantiable "Carcasswright$PlacedModule" 5 ∈ ce_GW := gT_1 _ (List.mem_of_getElem? (i := 215) rfl) rfl
theorem gw_216 : Cond.methodLink "Carcasswright$Room" 37 ⟨"Carcasswright$PlacedModule", "<init>", "(LCarcasswright$ModuleType;)V"⟩ ∈ ce_GW := gT_1 _ (List.mem_of_getElem? (i := 216) rfl) rfl
theorem gw_217 : Cond.instanceMethod ⟨"Carcasswright$PlacedModule", "<init>", "(LCarcasswright$ModuleType;)V"⟩ ∈ ce_GW := gT_1 _ (List.mem_of_getElem? (i := 217) rfl) rfl
theorem gw_218 : Cond.code ⟨"Carcasswright$PlacedModule", "<init>", "(LCarcasswright$ModuleType;)V"⟩ prog_7_method_1_code 2 Option.none ∈ ce_GW := gT_1 _ (List.mem_of_getElem? (i := 218) rfl) rfl
theorem gw_219 : Cond.methodLink "Carcasswright$PlacedModule" 1 ⟨"java/lang/Object", "<init>", "()V"⟩ ∈ ce_GW := gT_1 _ (List.mem_of_getElem? (i := 219) rfl) rfl
theorem gw_220 : Cond.fieldLink "Carcasswright$PlacedModule" 7 "Carcasswright$PlacedModule" "type" "LCarcasswright$ModuleType;" ∈ ce_GW := gT_1 _ (List.mem_of_getElem? (i := 220) rfl) rfl
theorem gw_247 : Cond.fieldLink "Carcasswright$Room" 11 "Carcasswright$Room" "walls" "[LCarcasswright$Wall;" ∈ ce_GW := gT_2 _ (List.mem_of_getElem? (i := 7) rfl) rfl
theorem gw_248 : Cond.fieldLink "Carcasswright$Room" 17 "Carcasswright$Room" "obstacles" "[LCarcasswright$Obstacle;" ∈ ce_GW := gT_2 _ (List.mem_of_getElem? (i := 8) rfl) rfl
theorem gw_249 : Cond.fieldLink "Carcasswright$Room" 23 "Carcasswright$Room" "modules" "[LCarcasswright$PlacedModule;" ∈ ce_GW := gT_2 _ (List.mem_of_getElem? (i := 9) rfl) rfl
theorem gw_250 : Cond.fieldLink "Carcasswright$Room" 40 "Carcasswright$Room" "trial" "LCarcasswright$PlacedModule;" ∈ ce_GW := gT_2 _ (List.mem_of_getElem? (i := 10) rfl) rfl
theorem gw_251 : Cond.fieldLink "Carcasswright$Room" 27 "Carcasswright$Room" "causes" "[C" ∈ ce_GW := gT_2 _ (List.mem_of_getElem? (i := 11) rfl) rfl
theorem gw_253 : Cond.fieldLink "Carcasswright$Room" 31 "Carcasswright$Room" "causeNumbers" "[I" ∈ ce_GW := gT_2 _ (List.mem_of_getElem? (i := 13) rfl) rfl
theorem gw_255 : Cond.fieldLink "Carcasswright$Room" 44 "Carcasswright$Room" "wallCount" "I" ∈ ce_GW := gT_2 _ (List.mem_of_getElem? (i := 15) rfl) rfl
theorem gw_256 : Cond.fieldLink "Carcasswright" 70 "Carcasswright$Room" "wallCount" "I" ∈ ce_GW := gT_2 _ (List.mem_of_getElem? (i := 16) rfl) rfl
theorem gw_259 : Cond.fieldLink "Carcasswright" 74 "Carcasswright$Room" "moduleCount" "I" ∈ ce_GW := gT_2 _ (List.mem_of_getElem? (i := 19) rfl) rfl
theorem gw_260 : Cond.fieldLink "Carcasswright$Room" 51 "Carcasswright$Room" "moduleCount" "I" ∈ ce_GW := gT_2 _ (List.mem_of_getElem? (i := 20) rfl) rfl
theorem gw_284 : Cond.classLink "Carcasswright" 29 "Carcasswright$Stock" ∈ ce_GW := gT_2 _ (List.mem_of_getElem? (i := 44) rfl) rfl
theorem gw_285 : Cond.instantiable "Carcasswright$Stock" 5 ∈ ce_GW := gT_2 _ (List.mem_of_getElem? (i := 45) rfl) rfl
theorem gw_286 : Cond.methodLink "Carcasswright" 31 ⟨"Carcasswright$Stock", "<init>", "()V"⟩ ∈ ce_GW := gT_2 _ (List.mem_of_getElem? (i := 46) rfl) rfl
theorem gw_287 : Cond.instanceMethod ⟨"Carcasswright$Stock", "<init>", "()V"⟩ ∈ ce_GW := gT_2 _ (List.mem_of_getElem? (i := 47) rfl) rfl
theorem gw_288 : Cond.code ⟨"Carcasswright$Stock", "<init>", "()V"⟩ prog_10_method_1_code 2 Option.none ∈ ce_GW := gT_2 _ (List.mem_of_getElem? (i := 48) rfl) rfl
theorem gw_289 : Cond.methodLink "Carcasswright$Stock" 1 ⟨"java/lang/Object", "<init>", "()V"⟩ ∈ ce_GW := gT_2 _ (List.mem_of_getElem? (i := 49) rfl) rfl
theorem gw_290 : Cond.classLink "Carcasswright$Stock" 9 "Carcasswright$Board" ∈ ce_GW := gT_2 _ (List.mem_of_getElem? (i := 50) rfl) rfl
theorem gw_292 : Cond.instantiable "Carcasswright$Board" 7 ∈ ce_GW := gT_2 _ (List.mem_of_getElem? (i := 52) rfl) rfl
theorem gw_294 : Cond.instanceMethod ⟨"Carcasswright$Board", "<init>", "()V"⟩ ∈ ce_GW := gT_2 _ (List.mem_of_getElem? (i := 54) rfl) rfl
theorem gw_295 : Cond.code ⟨"Carcasswright$Board", "<init>", "()V"⟩ prog_2_method_1_code 1 Option.none ∈ ce_GW := gT_2 _ (List.mem_of_getElem? (i := 55) rfl) rfl
theorem gw_296 : Cond.methodLink "Carcasswright$Board" 3 ⟨"java/lang/Object", "<init>", "()V"⟩ ∈ ce_GW := gT_2 _ (List.mem_of_getElem? (i := 56) rfl) rfl
theorem gw_332 : Cond.fieldLink "Carcasswright$Stock" 11 "Carcasswright$Stock" "boards" "[LCarcasswright$Board;" ∈ ce_GW := gT_2 _ (List.mem_of_getElem? (i := 92) rfl) rfl
theorem gw_350 : Cond.classLink "Carcasswright" 36 "Carcasswright$Saw" ∈ ce_GW := gT_2 _ (List.mem_of_getElem? (i := 110) rfl) rfl
theorem gw_351 : Cond.instantiable "Carcasswright$Saw" 13 ∈ ce_GW := gT_2 _ (List.mem_of_getElem? (i := 111) rfl) rfl
theorem gw_352 : Cond.methodLink "Carcasswright" 38 ⟨"Carcasswright$Saw", "<init>", "(LCarcasswright$Stock;)V"⟩ ∈ ce_GW := gT_2 _ (List.mem_of_getElem? (i := 112) rfl) rfl
theorem gw_353 : Cond.instanceMethod ⟨"Carcasswright$Saw", "<init>", "(LCarcasswright$Stock;)V"⟩ ∈ ce_GW := gT_2 _ (List.mem_of_getElem? (i := 113) rfl) rfl
theorem gw_354 : Cond.code ⟨"Carcasswright$Saw", "<init>", "(LCarcasswright$Stock;)V"⟩ prog_9_method_1_code 3 Option.none ∈ ce_GW := gT_2 _ (List.mem_of_getElem? (i := 114) rfl) rfl
theorem gw_355 : Cond.methodLink "Carcasswright$Saw" 3 ⟨"java/lang/Object", "<init>", "()V"⟩ ∈ ce_GW := gT_2 _ (List.mem_of_getElem? (i := 115) rfl) rfl
theorem gw_356 : Cond.classLink "Carcasswright$Saw" 30 "Carcasswright$Board" ∈ ce_GW := gT_2 _ (List.mem_of_getElem? (i := 116) rfl) rfl
theorem gw_358 : Cond.fieldLink "Carcasswright$Saw" 36 "Carcasswright$Saw" "stock" "LCarcasswright$Stock;" ∈ ce_GW := gT_2 _ (List.mem_of_getElem? (i := 118) rfl) rfl
theorem gw_359 : Cond.fieldLink "Carcasswright$Saw" 9 "Carcasswright$Saw" "lengths" "[I" ∈ ce_GW := gT_2 _ (List.mem_of_getElem? (i := 119) rfl) rfl
theorem gw_360 : Cond.fieldLink "Carcasswright$Saw" 15 "Carcasswright$Saw" "widths" "[I" ∈ ce_GW := gT_2 _ (List.mem_of_getElem? (i := 120) rfl) rfl
theorem gw_362 : Cond.fieldLink "Carcasswright$Saw" 18 "Carcasswright$Saw" "opened" "[I" ∈ ce_GW := gT_2 _ (List.mem_of_getElem? (i := 122) rfl) rfl
theorem gw_366 : Cond.fieldLink "Carcasswright$Saw" 21 "Carcasswright$Saw" "stripBoards" "[I" ∈ ce_GW := gT_2 _ (List.mem_of_getElem? (i := 126) rfl) rfl
theorem gw_367 : Cond.fieldLink "Carcasswright$Saw" 24 "Carcasswright$Saw" "stripWidths" "[I" ∈ ce_GW := gT_2 _ (List.mem_of_getElem? (i := 127) rfl) rfl
theorem gw_368 : Cond.fieldLink "Carcasswright$Saw" 27 "Carcasswright$Saw" "stripEnds" "[I" ∈ ce_GW := gT_2 _ (List.mem_of_getElem? (i := 128) rfl) rfl
theorem gw_370 : Cond.fieldLink "Carcasswright$Saw" 32 "Carcasswright$Saw" "left" "[LCarcasswright$Board;" ∈ ce_GW := gT_2 _ (List.mem_of_getElem? (i := 130) rfl) rfl
theorem gw_399 : Cond.classLink "Carcasswright" 45 "Carcasswright$Packer" ∈ ce_GW := gT_2 _ (List.mem_of_getElem? (i := 159) rfl) rfl
theorem gw_400 : Cond.instantiable "Carcasswright$Packer" 4 ∈ ce_GW := gT_2 _ (List.mem_of_getElem? (i := 160) rfl) rfl
theorem gw_402 : Cond.instanceMethod ⟨"Carcasswright$Packer", "<init>", "()V"⟩ ∈ ce_GW := gT_2 _ (List.mem_of_getElem? (i := 162) rfl) rfl
theorem gw_403 : Cond.code ⟨"Carcasswright$Packer", "<init>", "()V"⟩ prog_6_method_1_code 1 Option.none ∈ ce_GW := gT_2 _ (List.mem_of_getElem? (i := 163) rfl) rfl
theorem gw_404 : Cond.methodLink "Carcasswright$Packer" 3 ⟨"java/lang/Object", "<init>", "()V"⟩ ∈ ce_GW := gT_2 _ (List.mem_of_getElem? (i := 164) rfl) rfl
theorem gw_405 : Cond.fieldLink "Carcasswright$Packer" 9 "Carcasswright$Packer" "weights" "[I" ∈ ce_GW := gT_2 _ (List.mem_of_getElem? (i := 165) rfl) rfl
theorem gw_406 : Cond.fieldLink "Carcasswright$Packer" 15 "Carcasswright$Packer" "packs" "[I" ∈ ce_GW := gT_2 _ (List.mem_of_getElem? (i := 166) rfl) rfl
theorem gw_407 : Cond.fieldLink "Carcasswright$Packer" 18 "Carcasswright$Packer" "loads" "[I" ∈ ce_GW := gT_2 _ (List.mem_of_getElem? (i := 167) rfl) rfl
theorem gw_419 : Cond.classLink "Carcasswright" 52 "Carcasswright$Jobs" ∈ ce_GW := gT_2 _ (List.mem_of_getElem? (i := 179) rfl) rfl
theorem gw_420 : Cond.instantiable "Carcasswright$Jobs" 8 ∈ ce_GW := gT_2 _ (List.mem_of_getElem? (i := 180) rfl) rfl
theorem gw_422 : Cond.instanceMethod ⟨"Carcasswright$Jobs", "<init>", "()V"⟩ ∈ ce_GW := gT_2 _ (List.mem_of_getElem? (i := 182) rfl) rfl
theorem gw_423 : Cond.code ⟨"Carcasswright$Jobs", "<init>", "()V"⟩ prog_3_method_1_code 1 Option.none ∈ ce_GW := gT_2 _ (List.mem_of_getElem? (i := 183) rfl) rfl
theorem gw_424 : Cond.methodLink "Carcasswright$Jobs" 1 ⟨"java/lang/Object", "<init>", "()V"⟩ ∈ ce_GW := gT_2 _ (List.mem_of_getElem? (i := 184) rfl) rfl
theorem gw_425 : Cond.fieldLink "Carcasswright$Jobs" 9 "Carcasswright$Jobs" "colours" "[I" ∈ ce_GW := gT_2 _ (List.mem_of_getElem? (i := 185) rfl) rfl
theorem gw_426 : Cond.fieldLink "Carcasswright$Jobs" 13 "Carcasswright$Jobs" "hours" "[I" ∈ ce_GW := gT_2 _ (List.mem_of_getElem? (i := 186) rfl) rfl
theorem gw_427 : Cond.fieldLink "Carcasswright$Jobs" 16 "Carcasswright$Jobs" "dues" "[I" ∈ ce_GW := gT_2 _ (List.mem_of_getElem? (i := 187) rfl) rfl
theorem gw_428 : Cond.fieldLink "Carcasswright$Jobs" 19 "Carcasswright$Jobs" "order" "[I" ∈ ce_GW := gT_2 _ (List.mem_of_getElem? (i := 188) rfl) rfl
theorem gw_429 : Cond.fieldLink "Carcasswright$Jobs" 22 "Carcasswright$Jobs" "best" "[I" ∈ ce_GW := gT_2 _ (List.mem_of_getElem? (i := 189) rfl) rfl
theorem gw_433 : Cond.fieldLink "Carcasswright$Jobs" 25 "Carcasswright$Jobs" "setup" "I" ∈ ce_GW := gT_2 _ (List.mem_of_getElem? (i := 193) rfl) rfl
theorem gw_454 : Cond.fieldLink "Carcasswright" 10 "Carcasswright" "types" "LCarcasswright$Types;" ∈ ce_GW := gT_2 _ (List.mem_of_getElem? (i := 214) rfl) rfl
theorem gw_455 : Cond.fieldLink "Carcasswright" 25 "Carcasswright" "room" "LCarcasswright$Room;" ∈ ce_GW := gT_2 _ (List.mem_of_getElem? (i := 215) rfl) rfl
theorem gw_456 : Cond.fieldLink "Carcasswright" 32 "Carcasswright" "stock" "LCarcasswright$Stock;" ∈ ce_GW := gT_2 _ (List.mem_of_getElem? (i := 216) rfl) rfl
theorem gw_457 : Cond.fieldLink "Carcasswright" 41 "Carcasswright" "saw" "LCarcasswright$Saw;" ∈ ce_GW := gT_2 _ (List.mem_of_getElem? (i := 217) rfl) rfl
theorem gw_458 : Cond.fieldLink "Carcasswright" 48 "Carcasswright" "packer" "LCarcasswright$Packer;" ∈ ce_GW := gT_2 _ (List.mem_of_getElem? (i := 218) rfl) rfl
theorem gw_459 : Cond.fieldLink "Carcasswright" 55 "Carcasswright" "jobs" "LCarcasswright$Jobs;" ∈ ce_GW := gT_2 _ (List.mem_of_getElem? (i := 219) rfl) rfl
theorem gw_460 : Cond.fieldLink "Carcasswright" 59 "Carcasswright" "rates" "[I" ∈ ce_GW := gT_2 _ (List.mem_of_getElem? (i := 220) rfl) rfl
theorem gw_484 : Cond.methodLink "Carcasswright$Room" 54 ⟨"Carcasswright$Room", "wallAt", "(I)LCarcasswright$Wall;"⟩ ∈ ce_GW := gT_3 _ (List.mem_of_getElem? (i := 4) rfl) rfl
theorem gw_485 : Cond.instanceMethod ⟨"Carcasswright$Room", "wallAt", "(I)LCarcasswright$Wall;"⟩ ∈ ce_GW := gT_3 _ (List.mem_of_getElem? (i := 5) rfl) rfl
theorem gw_486 : Cond.selects "Carcasswright$Room" ⟨"Carcasswright$Room", "wallAt", "(I)LCarcasswright$Wall;"⟩ ⟨"Carcasswright$Room", "wallAt", "(I)LCarcasswright$Wall;"⟩ ∈ ce_GW := gT_3 _ (List.mem_of_getElem? (i := 6) rfl) rfl
theorem gw_487 : Cond.code ⟨"Carcasswright$Room", "wallAt", "(I)LCarcasswright$Wall;"⟩ prog_8_method_2_code 2 (Option.some (Jvm.ClassFile.FieldType.object "Carcasswright$Wall")) ∈ ce_GW := gT_3 _ (List.mem_of_getElem? (i := 7) rfl) rfl
theorem gw_593 : Cond.static ⟨"java/lang/Math", "max", "(II)I"⟩ ∈ ce_GW := gT_3 _ (List.mem_of_getElem? (i := 113) rfl) rfl
theorem gw_594 : Cond.code ⟨"java/lang/Math", "max", "(II)I"⟩ prog_39_method_65_code 2 (Option.some Jvm.ClassFile.FieldType.int) ∈ ce_GW := gT_3 _ (List.mem_of_getElem? (i := 114) rfl) rfl
theorem gw_604 : Cond.static ⟨"java/lang/Math", "min", "(II)I"⟩ ∈ ce_GW := gT_3 _ (List.mem_of_getElem? (i := 124) rfl) rfl
theorem gw_605 : Cond.code ⟨"java/lang/Math", "min", "(II)I"⟩ prog_39_method_69_code 2 (Option.some Jvm.ClassFile.FieldType.int) ∈ ce_GW := gT_3 _ (List.mem_of_getElem? (i := 125) rfl) rfl
theorem gw_713 : Cond.methodLink "CarcasswrightLaw" 174 ⟨"CarcasswrightLaw", "addWall", "(LCarcasswright;CI[J)I"⟩ ∈ ce_GW := gT_3 _ (List.mem_of_getElem? (i := 233) rfl) rfl
theorem gw_714 : Cond.static ⟨"CarcasswrightLaw", "addWall", "(LCarcasswright;CI[J)I"⟩ ∈ ce_GW := gT_3 _ (List.mem_of_getElem? (i := 234) rfl) rfl
theorem gw_715 : Cond.codeWith ⟨"CarcasswrightLaw", "addWall", "(LCarcasswright;CI[J)I"⟩ method_3_code 5 (Option.some Jvm.ClassFile.FieldType.int) [(0, 10, 13, 13), (0, 10, 17, 15)] ∈ ce_GW := gT_3 _ (List.mem_of_getElem? (i := 235) rfl) rfl
theorem gw_716 : Cond.classLink "CarcasswrightLaw" 13 "java/lang/IllegalArgumentException" ∈ ce_GW := gT_3 _ (List.mem_of_getElem? (i := 236) rfl) rfl
theorem gw_718 : Cond.methodLink "CarcasswrightLaw" 7 ⟨"Carcasswright", "addWall", "(CI)I"⟩ ∈ ce_GW := gT_3 _ (List.mem_of_getElem? (i := 238) rfl) rfl
theorem gw_719 : Cond.instanceMethod ⟨"Carcasswright", "addWall", "(CI)I"⟩ ∈ ce_GW := gT_3 _ (List.mem_of_getElem? (i := 239) rfl) rfl
theorem gw_720 : Cond.selects "Carcasswright" ⟨"Carcasswright", "addWall", "(CI)I"⟩ ⟨"Carcasswright", "addWall", "(CI)I"⟩ ∈ ce_GW := gT_4 _ (List.mem_of_getElem? (i := 0) rfl) rfl
theorem gw_721 : Cond.code ⟨"Carcasswright", "addWall", "(CI)I"⟩ prog_1_method_2_code 4 (Option.some Jvm.ClassFile.FieldType.int) ∈ ce_GW := gT_4 _ (List.mem_of_getElem? (i := 1) rfl) rfl
theorem gw_722 : Cond.methodLink "Carcasswright" 63 ⟨"Carcasswright", "isOutside", "(III)Z"⟩ ∈ ce_GW := gT_4 _ (List.mem_of_getElem? (i := 2) rfl) rfl
theorem gw_723 : Cond.static ⟨"Carcasswright", "isOutside", "(III)Z"⟩ ∈ ce_GW := gT_4 _ (List.mem_of_getElem? (i := 3) rfl) rfl
theorem gw_724 : Cond.code ⟨"Carcasswright", "isOutside", "(III)Z"⟩ prog_1_method_53_code 3 (Option.some Jvm.ClassFile.FieldType.boolean) ∈ ce_GW := gT_4 _ (List.mem_of_getElem? (i := 4) rfl) rfl
theorem gw_755 : Cond.methodLink "Carcasswright" 80 ⟨"Carcasswright$Room", "build", "(CI)I"⟩ ∈ ce_GW := gT_4 _ (List.mem_of_getElem? (i := 35) rfl) rfl
theorem gw_756 : Cond.instanceMethod ⟨"Carcasswright$Room", "build", "(CI)I"⟩ ∈ ce_GW := gT_4 _ (List.mem_of_getElem? (i := 36) rfl) rfl
theorem gw_757 : Cond.selects "Carcasswright$Room" ⟨"Carcasswright$Room", "build", "(CI)I"⟩ ⟨"Carcasswright$Room", "build", "(CI)I"⟩ ∈ ce_GW := gT_4 _ (List.mem_of_getElem? (i := 37) rfl) rfl
theorem gw_758 : Cond.code ⟨"Carcasswright$Room", "build", "(CI)I"⟩ prog_8_method_4_code 5 (Option.some Jvm.ClassFile.FieldType.int) ∈ ce_GW := gT_4 _ (List.mem_of_getElem? (i := 38) rfl) rfl
theorem gw_797 : Cond.methodLink "Carcasswright$Room" 81 ⟨"java/lang/Math", "max", "(II)I"⟩ ∈ ce_GW := gT_4 _ (List.mem_of_getElem? (i := 77) rfl) rfl
theorem gw_810 : Cond.classLink "CarcasswrightLaw" 27 "java/lang/IndexOutOfBoundsException" ∈ ce_GW := gT_4 _ (List.mem_of_getElem? (i := 90) rfl) rfl
theorem gw_1046 : Cond.methodLink "CarcasswrightLaw" 245 ⟨"CarcasswrightLaw", "free", "(LCarcasswright;IZ[J)I"⟩ ∈ ce_GW := gT_5 _ (List.mem_of_getElem? (i := 86) rfl) rfl
theorem gw_1047 : Cond.static ⟨"CarcasswrightLaw", "free", "(LCarcasswright;IZ[J)I"⟩ ∈ ce_GW := gT_5 _ (List.mem_of_getElem? (i := 87) rfl) rfl
theorem gw_1048 : Cond.codeWith ⟨"CarcasswrightLaw", "free", "(LCarcasswright;IZ[J)I"⟩ method_19_code 5 (Option.some Jvm.ClassFile.FieldType.int) [(0, 10, 13, 27)] ∈ ce_GW := gT_5 _ (List.mem_of_getElem? (i := 88) rfl) rfl
theorem gw_1049 : Cond.methodLink "CarcasswrightLaw" 78 ⟨"Carcasswright", "free", "(IZ)I"⟩ ∈ ce_GW := gT_5 _ (List.mem_of_getElem? (i := 89) rfl) rfl
theorem gw_1050 : Cond.instanceMethod ⟨"Carcasswright", "free", "(IZ)I"⟩ ∈ ce_GW := gT_5 _ (List.mem_of_getElem? (i := 90) rfl) rfl
theorem gw_1051 : Cond.selects "Carcasswright" ⟨"Carcasswright", "free", "(IZ)I"⟩ ⟨"Carcasswright", "free", "(IZ)I"⟩ ∈ ce_GW := gT_5 _ (List.mem_of_getElem? (i := 91) rfl) rfl
theorem gw_1052 : Cond.code ⟨"Carcasswright", "free", "(IZ)I"⟩ prog_1_method_20_code 3 (Option.some Jvm.ClassFile.FieldType.int) ∈ ce_GW := gT_5 _ (List.mem_of_getElem? (i := 92) rfl) rfl
theorem gw_1053 : Cond.methodLink "Carcasswright" 245 ⟨"Carcasswright$Room", "freeRows", "(IZZ)I"⟩ ∈ ce_GW := gT_5 _ (List.mem_of_getElem? (i := 93) rfl) rfl
theorem gw_1054 : Cond.instanceMethod ⟨"Carcasswright$Room", "freeRows", "(IZZ)I"⟩ ∈ ce_GW := gT_5 _ (List.mem_of_getElem? (i := 94) rfl) rfl
theorem gw_1055 : Cond.selects "Carcasswright$Room" ⟨"Carcasswright$Room", "freeRows", "(IZZ)I"⟩ ⟨"Carcasswright$Room", "freeRows", "(IZZ)I"⟩ ∈ ce_GW := gT_5 _ (List.mem_of_getElem? (i := 95) rfl) rfl
theorem gw_1056 : Cond.code ⟨"Carcasswright$Room", "freeRows", "(IZZ)I"⟩ prog_8_method_21_code 11 (Option.some Jvm.ClassFile.FieldType.int) ∈ ce_GW := gT_5 _ (List.mem_of_getElem? (i := 96) rfl) rfl
theorem gw_1057 : Cond.methodLink "Carcasswright$Room" 188 ⟨"Carcasswright$Room", "firstBehind", "(IZI)LCarcasswright$PlacedModule;"⟩ ∈ ce_GW := gT_5 _ (List.mem_of_getElem? (i := 97) rfl) rfl
theorem gw_1058 : Cond.instanceMethod ⟨"Carcasswright$Room", "firstBehind", "(IZI)LCarcasswright$PlacedModule;"⟩ ∈ ce_GW := gT_5 _ (List.mem_of_getElem? (i := 98) rfl) rfl
theorem gw_1059 : Cond.selects "Carcasswright$Room" ⟨"Carcasswright$Room", "firstBehind", "(IZI)LCarcasswright$PlacedModule;"⟩ ⟨"Carcasswright$Room", "firstBehind", "(IZI)LCarcasswright$PlacedModule;"⟩ ∈ ce_GW := gT_5 _ (List.mem_of_getElem? (i := 99) rfl) rfl
theorem gw_1060 : Cond.code ⟨"Carcasswright$Room", "firstBehind", "(IZI)LCarcasswright$PlacedModule;"⟩ prog_8_method_22_code 9 (Option.some (Jvm.ClassFile.FieldType.object "Carcasswright$PlacedModule")) ∈ ce_GW := gT_5 _ (List.mem_of_getElem? (i := 100) rfl) rfl
theorem gw_1485 : Cond.classLink "CarcasswrightLaw" 171 "CarcasswrightModel" ∈ ce_GW := gT_7 _ (List.mem_of_getElem? (i := 45) rfl) rfl
theorem gw_1486 : Cond.instantiable "CarcasswrightModel" 20 ∈ ce_GW := gT_7 _ (List.mem_of_getElem? (i := 46) rfl) rfl
theorem gw_1487 : Cond.methodLink "CarcasswrightLaw" 173 ⟨"CarcasswrightModel", "<init>", "()V"⟩ ∈ ce_GW := gT_7 _ (List.mem_of_getElem? (i := 47) rfl) rfl
theorem gw_1488 : Cond.instanceMethod ⟨"CarcasswrightModel", "<init>", "()V"⟩ ∈ ce_GW := gT_7 _ (List.mem_of_getElem? (i := 48) rfl) rfl
theorem gw_1489 : Cond.code ⟨"CarcasswrightModel", "<init>", "()V"⟩ prog_14_method_3_code 1 Option.none ∈ ce_GW := gT_7 _ (List.mem_of_getElem? (i := 49) rfl) rfl
theorem gw_1490 : Cond.methodLink "CarcasswrightModel" 1 ⟨"java/lang/Object", "<init>", "()V"⟩ ∈ ce_GW := gT_7 _ (List.mem_of_getElem? (i := 50) rfl) rfl
theorem gw_1491 : Cond.classLink "CarcasswrightModel" 7 "java/util/ArrayList" ∈ ce_GW := gT_7 _ (List.mem_of_getElem? (i := 51) rfl) rfl
theorem gw_1492 : Cond.instantiable "java/util/ArrayList" 3 ∈ ce_GW := gT_7 _ (List.mem_of_getElem? (i := 52) rfl) rfl
theorem gw_1493 : Cond.methodLink "CarcasswrightModel" 9 ⟨"java/util/ArrayList", "<init>", "()V"⟩ ∈ ce_GW := gT_7 _ (List.mem_of_getElem? (i := 53) rfl) rfl
theorem gw_1494 : Cond.instanceMethod ⟨"java/util/ArrayList", "<init>", "()V"⟩ ∈ ce_GW := gT_7 _ (List.mem_of_getElem? (i := 54) rfl) rfl
theorem gw_1495 : Cond.code ⟨"java/util/ArrayList", "<init>", "()V"⟩ prog_53_method_2_code 1 Option.none ∈ ce_GW := gT_7 _ (List.mem_of_getElem? (i := 55) rfl) rfl
theorem gw_1496 : Cond.methodLink "java/util/ArrayList" 1 ⟨"java/util/AbstractList", "<init>", "()V"⟩ ∈ ce_GW := gT_7 _ (List.mem_of_getElem? (i := 56) rfl) rfl
theorem gw_1497 : Cond.instanceMethod ⟨"java/util/AbstractList", "<init>", "()V"⟩ ∈ ce_GW := gT_7 _ (List.mem_of_getElem? (i := 57) rfl) rfl
theorem gw_1498 : Cond.code ⟨"java/util/AbstractList", "<init>", "()V"⟩ prog_52_method_1_code 1 Option.none ∈ ce_GW := gT_7 _ (List.mem_of_getElem? (i := 58) rfl) rfl
theorem gw_1499 : Cond.methodLink "java/util/AbstractList" 1 ⟨"java/util/AbstractCollection", "<init>", "()V"⟩ ∈ ce_GW := gT_7 _ (List.mem_of_getElem? (i := 59) rfl) rfl
theorem gw_1500 : Cond.instanceMethod ⟨"java/util/AbstractCollection", "<init>", "()V"⟩ ∈ ce_GW := gT_7 _ (List.mem_of_getElem? (i := 60) rfl) rfl
theorem gw_1501 : Cond.code ⟨"java/util/AbstractCollection", "<init>", "()V"⟩ prog_51_method_1_code 1 Option.none ∈ ce_GW := gT_7 _ (List.mem_of_getElem? (i := 61) rfl) rfl
theorem gw_1502 : Cond.methodLink "java/util/AbstractCollection" 1 ⟨"java/lang/Object", "<init>", "()V"⟩ ∈ ce_GW := gT_7 _ (List.mem_of_getElem? (i := 62) rfl) rfl
theorem gw_1503 : Cond.fieldLink "java/util/ArrayList" 39 "java/util/ArrayList" "DEFAULTCAPACITY_EMPTY_ELEMENTDATA" "[Ljava/lang/Object;" ∈ ce_GW := gT_7 _ (List.mem_of_getElem? (i := 63) rfl) rfl
theorem gw_1505 : Cond.fieldLink "java/util/ArrayList" 9 "java/util/ArrayList" "elementData" "[Ljava/lang/Object;" ∈ ce_GW := gT_7 _ (List.mem_of_getElem? (i := 65) rfl) rfl
theorem gw_1508 : Cond.fieldLink "java/util/ArrayList" 48 "java/util/ArrayList" "size" "I" ∈ ce_GW := gT_7 _ (List.mem_of_getElem? (i := 68) rfl) rfl
theorem gw_1509 : Cond.fieldLink "java/util/AbstractList" 7 "java/util/AbstractList" "modCount" "I" ∈ ce_GW := gT_7 _ (List.mem_of_getElem? (i := 69) rfl) rfl
theorem gw_1510 : Cond.fieldLink "java/util/ArrayList$Itr" 17 "java/util/ArrayList" "modCount" "I" ∈ ce_GW := gT_7 _ (List.mem_of_getElem? (i := 70) rfl) rfl
theorem gw_1511 : Cond.sameField "java/util/ArrayList" "java/util/AbstractList" "modCount" "I" ∈ ce_GW := gT_7 _ (List.mem_of_getElem? (i := 71) rfl) rfl
theorem gw_1512 : Cond.fieldLink "java/util/ArrayList" 63 "java/util/ArrayList" "modCount" "I" ∈ ce_GW := gT_7 _ (List.mem_of_getElem? (i := 72) rfl) rfl
theorem gw_1521 : Cond.fieldLink "CarcasswrightModel" 54 "CarcasswrightModel" "thrown" "I" ∈ ce_GW := gT_7 _ (List.mem_of_getElem? (i := 81) rfl) rfl
theorem gw_1522 : Cond.fieldLink "CarcasswrightModel" 10 "CarcasswrightModel" "walls" "Ljava/util/ArrayList;" ∈ ce_GW := gT_7 _ (List.mem_of_getElem? (i := 82) rfl) rfl
theorem gw_1523 : Cond.fieldLink "CarcasswrightModel" 16 "CarcasswrightModel" "obstacles" "Ljava/util/ArrayList;" ∈ ce_GW := gT_7 _ (List.mem_of_getElem? (i := 83) rfl) rfl
theorem gw_1524 : Cond.fieldLink "CarcasswrightModel" 21 "CarcasswrightModel" "text" "Ljava/lang/String;" ∈ ce_GW := gT_7 _ (List.mem_of_getElem? (i := 84) rfl) rfl
theorem gw_1525 : Cond.fieldLink "CarcasswrightModel" 25 "CarcasswrightModel" "types" "Ljava/util/ArrayList;" ∈ ce_GW := gT_7 _ (List.mem_of_getElem? (i := 85) rfl) rfl
theorem gw_1526 : Cond.fieldLink "CarcasswrightModel" 28 "CarcasswrightModel" "modules" "Ljava/util/ArrayList;" ∈ ce_GW := gT_7 _ (List.mem_of_getElem? (i := 86) rfl) rfl
theorem gw_1527 : Cond.fieldLink "CarcasswrightModel" 31 "CarcasswrightModel" "stock" "Ljava/util/ArrayList;" ∈ ce_GW := gT_7 _ (List.mem_of_getElem? (i := 87) rfl) rfl
theorem gw_1528 : Cond.fieldLink "CarcasswrightModel" 34 "CarcasswrightModel" "jobs" "Ljava/util/ArrayList;" ∈ ce_GW := gT_7 _ (List.mem_of_getElem? (i := 88) rfl) rfl
theorem gw_1529 : Cond.fieldLink "CarcasswrightModel" 37 "CarcasswrightModel" "rates" "[I" ∈ ce_GW := gT_7 _ (List.mem_of_getElem? (i := 89) rfl) rfl
theorem gw_1530 : Cond.fieldLink "CarcasswrightModel" 41 "CarcasswrightModel" "setup" "I" ∈ ce_GW := gT_7 _ (List.mem_of_getElem? (i := 90) rfl) rfl
theorem gw_1534 : Cond.fieldLink "CarcasswrightModel" 45 "CarcasswrightModel" "clashes" "Ljava/lang/String;" ∈ ce_GW := gT_7 _ (List.mem_of_getElem? (i := 94) rfl) rfl
theorem gw_1535 : Cond.fieldLink "CarcasswrightModel" 48 "CarcasswrightModel" "clashNumbers" "[I" ∈ ce_GW := gT_7 _ (List.mem_of_getElem? (i := 95) rfl) rfl
theorem gw_1540 : Cond.fieldLink "CarcasswrightModel" 51 "CarcasswrightModel" "order" "[I" ∈ ce_GW := gT_7 _ (List.mem_of_getElem? (i := 100) rfl) rfl
theorem gw_1583 : Cond.methodLink "CarcasswrightLaw" 180 ⟨"CarcasswrightModel", "thrown", "()I"⟩ ∈ ce_GW := gT_7 _ (List.mem_of_getElem? (i := 143) rfl) rfl
theorem gw_1584 : Cond.instanceMethod ⟨"CarcasswrightModel", "thrown", "()I"⟩ ∈ ce_GW := gT_7 _ (List.mem_of_getElem? (i := 144) rfl) rfl
theorem gw_1585 : Cond.selects "CarcasswrightModel" ⟨"CarcasswrightModel", "thrown", "()I"⟩ ⟨"CarcasswrightModel", "thrown", "()I"⟩ ∈ ce_GW := gT_7 _ (List.mem_of_getElem? (i := 145) rfl) rfl
theorem gw_1586 : Cond.code ⟨"CarcasswrightModel", "thrown", "()I"⟩ prog_14_method_4_code 1 (Option.some Jvm.ClassFile.FieldType.int) ∈ ce_GW := gT_7 _ (List.mem_of_getElem? (i := 146) rfl) rfl
theorem gw_1587 : Cond.methodLink "CarcasswrightLaw" 179 ⟨"CarcasswrightModel", "addWall", "(CI)I"⟩ ∈ ce_GW := gT_7 _ (List.mem_of_getElem? (i := 147) rfl) rfl
theorem gw_1588 : Cond.instanceMethod ⟨"CarcasswrightModel", "addWall", "(CI)I"⟩ ∈ ce_GW := gT_7 _ (List.mem_of_getElem? (i := 148) rfl) rfl
theorem gw_1589 : Cond.selects "CarcasswrightModel" ⟨"CarcasswrightModel", "addWall", "(CI)I"⟩ ⟨"CarcasswrightModel", "addWall", "(CI)I"⟩ ∈ ce_GW := gT_7 _ (List.mem_of_getElem? (i := 149) rfl) rfl
theorem gw_1590 : Cond.code ⟨"CarcasswrightModel", "addWall", "(CI)I"⟩ prog_14_method_6_code 3 (Option.some Jvm.ClassFile.FieldType.int) ∈ ce_GW := gT_7 _ (List.mem_of_getElem? (i := 150) rfl) rfl
theorem gw_1592 : Cond.methodLink "CarcasswrightModel" 59 ⟨"java/lang/String", "indexOf", "(I)I"⟩ ∈ ce_GW := gT_7 _ (List.mem_of_getElem? (i := 152) rfl) rfl
theorem gw_1593 : Cond.instanceMethod ⟨"java/lang/String", "indexOf", "(I)I"⟩ ∈ ce_GW := gT_7 _ (List.mem_of_getElem? (i := 153) rfl) rfl
theorem gw_1594 : Cond.selects "java/lang/String" ⟨"java/lang/String", "indexOf", "(I)I"⟩ ⟨"java/lang/String", "indexOf", "(I)I"⟩ ∈ ce_GW := gT_7 _ (List.mem_of_getElem? (i := 154) rfl) rfl
theorem gw_1595 : Cond.code ⟨"java/lang/String", "indexOf", "(I)I"⟩ prog_42_method_79_code 2 (Option.some Jvm.ClassFile.FieldType.int) ∈ ce_GW := gT_7 _ (List.mem_of_getElem? (i := 155) rfl) rfl
theorem gw_1596 : Cond.methodLink "java/lang/String" 633 ⟨"java/lang/String", "indexOf", "(II)I"⟩ ∈ ce_GW := gT_7 _ (List.mem_of_getElem? (i := 156) rfl) rfl
theorem gw_1597 : Cond.instanceMethod ⟨"java/lang/String", "indexOf", "(II)I"⟩ ∈ ce_GW := gT_7 _ (List.mem_of_getElem? (i := 157) rfl) rfl
theorem gw_1598 : Cond.selects "java/lang/String" ⟨"java/lang/String", "indexOf", "(II)I"⟩ ⟨"java/lang/String", "indexOf", "(II)I"⟩ ∈ ce_GW := gT_7 _ (List.mem_of_getElem? (i := 158) rfl) rfl
theorem gw_1599 : Cond.code ⟨"java/lang/String", "indexOf", "(II)I"⟩ prog_42_method_80_code 3 (Option.some Jvm.ClassFile.FieldType.int) ∈ ce_GW := gT_7 _ (List.mem_of_getElem? (i := 159) rfl) rfl
theorem gw_1600 : Cond.methodLink "java/lang/String" 492 ⟨"java/lang/String", "isLatin1", "()Z"⟩ ∈ ce_GW := gT_7 _ (List.mem_of_getElem? (i := 160) rfl) rfl
theorem gw_1601 : Cond.instanceMethod ⟨"java/lang/String", "isLatin1", "()Z"⟩ ∈ ce_GW := gT_7 _ (List.mem_of_getElem? (i := 161) rfl) rfl
theorem gw_1602 : Cond.selects "java/lang/String" ⟨"java/lang/String", "isLatin1", "()Z"⟩ ⟨"java/lang/String", "isLatin1", "()Z"⟩ ∈ ce_GW := gT_7 _ (List.mem_of_getElem? (i := 162) rfl) rfl
theorem gw_1603 : Cond.code ⟨"java/lang/String", "isLatin1", "()Z"⟩ prog_42_method_154_code 1 (Option.some Jvm.ClassFile.FieldType.boolean) ∈ ce_GW := gT_7 _ (List.mem_of_getElem? (i := 163) rfl) rfl
theorem gw_1604 : Cond.fieldLink "java/lang/String" 38 "java/lang/String" "COMPACT_STRINGS" "Z" ∈ ce_GW := gT_7 _ (List.mem_of_getElem? (i := 164) rfl) rfl
theorem gw_1606 : Cond.methodLink "java/lang/String" 505 ⟨"java/lang/String", "length", "()I"⟩ ∈ ce_GW := gT_7 _ (List.mem_of_getElem? (i := 166) rfl) rfl
theorem gw_1607 : Cond.instanceMethod ⟨"java/lang/String", "length", "()I"⟩ ∈ ce_GW := gT_7 _ (List.mem_of_getElem? (i := 167) rfl) rfl
theorem gw_1608 : Cond.selects "java/lang/String" ⟨"java/lang/String", "length", "()I"⟩ ⟨"java/lang/String", "length", "()I"⟩ ∈ ce_GW := gT_7 _ (List.mem_of_getElem? (i := 168) rfl) rfl
theorem gw_1609 : Cond.code ⟨"java/lang/String", "length", "()I"⟩ prog_42_method_54_code 1 (Option.some Jvm.ClassFile.FieldType.int) ∈ ce_GW := gT_7 _ (List.mem_of_getElem? (i := 169) rfl) rfl
theorem gw_1610 : Cond.methodLink "java/lang/String" 335 ⟨"java/lang/String", "coder", "()B"⟩ ∈ ce_GW := gT_7 _ (List.mem_of_getElem? (i := 170) rfl) rfl
theorem gw_1611 : Cond.instanceMethod ⟨"java/lang/String", "coder", "()B"⟩ ∈ ce_GW := gT_7 _ (List.mem_of_getElem? (i := 171) rfl) rfl
theorem gw_1612 : Cond.selects "java/lang/String" ⟨"java/lang/String", "coder", "()B"⟩ ⟨"java/lang/String", "coder", "()B"⟩ ∈ ce_GW := gT_7 _ (List.mem_of_getElem? (i := 172) rfl) rfl
theorem gw_1613 : Cond.code ⟨"java/lang/String", "coder", "()B"⟩ prog_42_method_152_code 1 (Option.some Jvm.ClassFile.FieldType.byte) ∈ ce_GW := gT_7 _ (List.mem_of_getElem? (i := 173) rfl) rfl
theorem gw_1614 : Cond.methodLink "java/lang/String" 637 ⟨"java/lang/StringLatin1", "indexOf", "([BIII)I"⟩ ∈ ce_GW := gT_7 _ (List.mem_of_getElem? (i := 174) rfl) rfl
theorem gw_1615 : Cond.static ⟨"java/lang/StringLatin1", "indexOf", "([BIII)I"⟩ ∈ ce_GW := gT_7 _ (List.mem_of_getElem? (i := 175) rfl) rfl
theorem gw_1616 : Cond.code ⟨"java/lang/StringLatin1", "indexOf", "([BIII)I"⟩ prog_44_method_22_code 4 (Option.some Jvm.ClassFile.FieldType.int) ∈ ce_GW := gT_7 _ (List.mem_of_getElem? (i := 176) rfl) rfl
theorem gw_1617 : Cond.methodLink "java/lang/StringLatin1" 88 ⟨"java/lang/StringLatin1", "canEncode", "(I)Z"⟩ ∈ ce_GW := gT_7 _ (List.mem_of_getElem? (i := 177) rfl) rfl
theorem gw_1618 : Cond.static ⟨"java/lang/StringLatin1", "canEncode", "(I)Z"⟩ ∈ ce_GW := gT_7 _ (List.mem_of_getElem? (i := 178) rfl) rfl
theorem gw_1619 : Cond.code ⟨"java/lang/StringLatin1", "canEncode", "(I)Z"⟩ prog_44_method_4_code 1 (Option.some Jvm.ClassFile.FieldType.boolean) ∈ ce_GW := gT_7 _ (List.mem_of_getElem? (i := 179) rfl) rfl
theorem gw_1620 : Cond.methodLink "java/lang/StringLatin1" 92 ⟨"java/lang/Math", "max", "(II)I"⟩ ∈ ce_GW := gT_7 _ (List.mem_of_getElem? (i := 180) rfl) rfl
theorem gw_1621 : Cond.methodLink "java/lang/StringLatin1" 38 ⟨"java/lang/Math", "min", "(II)I"⟩ ∈ ce_GW := gT_7 _ (List.mem_of_getElem? (i := 181) rfl) rfl
theorem gw_1622 : Cond.methodLink "java/lang/StringLatin1" 95 ⟨"java/lang/StringLatin1", "indexOfChar", "([BIII)I"⟩ ∈ ce_GW := gT_7 _ (List.mem_of_getElem? (i := 182) rfl) rfl
theorem gw_1623 : Cond.static ⟨"java/lang/StringLatin1", "indexOfChar", "([BIII)I"⟩ ∈ ce_GW := gT_7 _ (List.mem_of_getElem? (i := 183) rfl) rfl
theorem gw_1624 : Cond.code ⟨"java/lang/StringLatin1", "indexOfChar", "([BIII)I"⟩ prog_44_method_23_code 6 (Option.some Jvm.ClassFile.FieldType.int) ∈ ce_GW := gT_7 _ (List.mem_of_getElem? (i := 184) rfl) rfl
theorem gw_1674 : Cond.methodLink "CarcasswrightModel" 65 ⟨"CarcasswrightModel", "in", "(III)Z"⟩ ∈ ce_GW := gT_7 _ (List.mem_of_getElem? (i := 234) rfl) rfl
theorem gw_1675 : Cond.static ⟨"CarcasswrightModel", "in", "(III)Z"⟩ ∈ ce_GW := gT_7 _ (List.mem_of_getElem? (i := 235) rfl) rfl
theorem gw_1676 : Cond.code ⟨"CarcasswrightModel", "in", "(III)Z"⟩ prog_14_method_1_code 3 (Option.some Jvm.ClassFile.FieldType.boolean) ∈ ce_GW := gT_7 _ (List.mem_of_getElem? (i := 236) rfl) rfl
theorem gw_1677 : Cond.methodLink "CarcasswrightModel" 69 ⟨"java/util/ArrayList", "size", "()I"⟩ ∈ ce_GW := gT_7 _ (List.mem_of_getElem? (i := 237) rfl) rfl
theorem gw_1678 : Cond.instanceMethod ⟨"java/util/ArrayList", "size", "()I"⟩ ∈ ce_GW := gT_7 _ (List.mem_of_getElem? (i := 238) rfl) rfl
theorem gw_1679 : Cond.selects "java/util/ArrayList" ⟨"java/util/ArrayList", "size", "()I"⟩ ⟨"java/util/ArrayList", "size", "()I"⟩ ∈ ce_GW := gT_7 _ (List.mem_of_getElem? (i := 239) rfl) rfl
theorem gw_1680 : Cond.code ⟨"java/util/ArrayList", "size", "()I"⟩ prog_53_method_8_code 1 (Option.some Jvm.ClassFile.FieldType.int) ∈ ce_GW := gT_8 _ (List.mem_of_getElem? (i := 0) rfl) rfl
theorem gw_1681 : Cond.methodLink "CarcasswrightModel" 73 ⟨"java/util/ArrayList", "isEmpty", "()Z"⟩ ∈ ce_GW := gT_8 _ (List.mem_of_getElem? (i := 1) rfl) rfl
theorem gw_1682 : Cond.instanceMethod ⟨"java/util/ArrayList", "isEmpty", "()Z"⟩ ∈ ce_GW := gT_8 _ (List.mem_of_getElem? (i := 2) rfl) rfl
theorem gw_1683 : Cond.selects "java/util/ArrayList" ⟨"java/util/ArrayList", "isEmpty", "()Z"⟩ ⟨"java/util/ArrayList", "isEmpty", "()Z"⟩ ∈ ce_GW := gT_8 _ (List.mem_of_getElem? (i := 3) rfl) rfl
theorem gw_1684 : Cond.code ⟨"java/util/ArrayList", "isEmpty", "()Z"⟩ prog_53_method_9_code 1 (Option.some Jvm.ClassFile.FieldType.boolean) ∈ ce_GW := gT_8 _ (List.mem_of_getElem? (i := 4) rfl) rfl
theorem gw_1685 : Cond.classLink "CarcasswrightModel" 77 "CarcasswrightModel$Wall" ∈ ce_GW := gT_8 _ (List.mem_of_getElem? (i := 5) rfl) rfl
theorem gw_1686 : Cond.instantiable "CarcasswrightModel$Wall" 5 ∈ ce_GW := gT_8 _ (List.mem_of_getElem? (i := 6) rfl) rfl
theorem gw_1687 : Cond.methodLink "CarcasswrightModel" 79 ⟨"CarcasswrightModel$Wall", "<init>", "(CI)V"⟩ ∈ ce_GW := gT_8 _ (List.mem_of_getElem? (i := 7) rfl) rfl
theorem gw_1688 : Cond.instanceMethod ⟨"CarcasswrightModel$Wall", "<init>", "(CI)V"⟩ ∈ ce_GW := gT_8 _ (List.mem_of_getElem? (i := 8) rfl) rfl
theorem gw_1689 : Cond.code ⟨"CarcasswrightModel$Wall", "<init>", "(CI)V"⟩ prog_23_method_1_code 3 Option.none ∈ ce_GW := gT_8 _ (List.mem_of_getElem? (i := 9) rfl) rfl
theorem gw_1690 : Cond.methodLink "CarcasswrightModel$Wall" 1 ⟨"java/lang/Object", "<init>", "()V"⟩ ∈ ce_GW := gT_8 _ (List.mem_of_getElem? (i := 10) rfl) rfl
theorem gw_1691 : Cond.fieldLink "CarcasswrightModel$Wall" 7 "CarcasswrightModel$Wall" "way" "C" ∈ ce_GW := gT_8 _ (List.mem_of_getElem? (i := 11) rfl) rfl
theorem gw_1693 : Cond.fieldLink "CarcasswrightModel$Wall" 13 "CarcasswrightModel$Wall" "measured" "I" ∈ ce_GW := gT_8 _ (List.mem_of_getElem? (i := 13) rfl) rfl
theorem gw_1695 : Cond.fieldLink "CarcasswrightModel$Wall" 17 "CarcasswrightModel$Wall" "length" "I" ∈ ce_GW := gT_8 _ (List.mem_of_getElem? (i := 15) rfl) rfl
theorem gw_1710 : Cond.methodLink "CarcasswrightModel" 82 ⟨"java/util/ArrayList", "add", "(Ljava/lang/Object;)Z"⟩ ∈ ce_GW := gT_8 _ (List.mem_of_getElem? (i := 30) rfl) rfl
theorem gw_1711 : Cond.instanceMethod ⟨"java/util/ArrayList", "add", "(Ljava/lang/Object;)Z"⟩ ∈ ce_GW := gT_8 _ (List.mem_of_getElem? (i := 31) rfl) rfl
theorem gw_1712 : Cond.selects "java/util/ArrayList" ⟨"java/util/ArrayList", "add", "(Ljava/lang/Object;)Z"⟩ ⟨"java/util/ArrayList", "add", "(Ljava/lang/Object;)Z"⟩ ∈ ce_GW := gT_8 _ (List.mem_of_getElem? (i := 32) rfl) rfl
theorem gw_1713 : Cond.code ⟨"java/util/ArrayList", "add", "(Ljava/lang/Object;)Z"⟩ prog_53_method_25_code 2 (Option.some Jvm.ClassFile.FieldType.boolean) ∈ ce_GW := gT_8 _ (List.mem_of_getElem? (i := 33) rfl) rfl
theorem gw_1714 : Cond.methodLink "java/util/ArrayList" 131 ⟨"java/util/ArrayList", "add", "(Ljava/lang/Object;[Ljava/lang/Object;I)V"⟩ ∈ ce_GW := gT_8 _ (List.mem_of_getElem? (i := 34) rfl) rfl
theorem gw_1716 : Cond.instanceMethod ⟨"java/util/ArrayList", "add", "(Ljava/lang/Object;[Ljava/lang/Object;I)V"⟩ ∈ ce_GW := gT_8 _ (List.mem_of_getElem? (i := 36) rfl) rfl
theorem gw_1717 : Cond.code ⟨"java/util/ArrayList", "add", "(Ljava/lang/Object;[Ljava/lang/Object;I)V"⟩ prog_53_method_24_code 4 Option.none ∈ ce_GW := gT_8 _ (List.mem_of_getElem? (i := 37) rfl) rfl
theorem gw_1718 : Cond.methodLink "java/util/ArrayList" 129 ⟨"java/util/ArrayList", "grow", "()[Ljava/lang/Object;"⟩ ∈ ce_GW := gT_8 _ (List.mem_of_getElem? (i := 38) rfl) rfl
theorem gw_1720 : Cond.instanceMethod ⟨"java/util/ArrayList", "grow", "()[Ljava/lang/Object;"⟩ ∈ ce_GW := gT_8 _ (List.mem_of_getElem? (i := 40) rfl) rfl
theorem gw_1721 : Cond.code ⟨"java/util/ArrayList", "grow", "()[Ljava/lang/Object;"⟩ prog_53_method_7_code 1 (Option.some (Jvm.ClassFile.FieldType.array (Jvm.ClassFile.FieldType.object "java/lang/Object"))) ∈ ce_GW := gT_8 _ (List.mem_of_getElem? (i := 41) rfl) rfl
theorem gw_1722 : Cond.methodLink "java/util/ArrayList" 69 ⟨"java/util/ArrayList", "grow", "(I)[Ljava/lang/Object;"⟩ ∈ ce_GW := gT_8 _ (List.mem_of_getElem? (i := 42) rfl) rfl
theorem gw_1724 : Cond.instanceMethod ⟨"java/util/ArrayList", "grow", "(I)[Ljava/lang/Object;"⟩ ∈ ce_GW := gT_8 _ (List.mem_of_getElem? (i := 44) rfl) rfl
theorem gw_1725 : Cond.code ⟨"java/util/ArrayList", "grow", "(I)[Ljava/lang/Object;"⟩ prog_53_method_6_code 4 (Option.some (Jvm.ClassFile.FieldType.array (Jvm.ClassFile.FieldType.object "java/lang/Object"))) ∈ ce_GW := gT_8 _ (List.mem_of_getElem? (i := 45) rfl) rfl
theorem gw_1783 : Cond.methodLink "java/util/ArrayList" 79 ⟨"java/lang/Math", "max", "(II)I"⟩ ∈ ce_GW := gT_8 _ (List.mem_of_getElem? (i := 103) rfl) rfl
theorem gw_1784 : Cond.classLink "java/util/ArrayList" 7 "java/lang/Object" ∈ ce_GW := gT_8 _ (List.mem_of_getElem? (i := 104) rfl) rfl
theorem gw_1801 : Cond.classLink "java/util/ArrayList" 267 "java/util/ArrayList$Itr" ∈ ce_GW := gT_8 _ (List.mem_of_getElem? (i := 121) rfl) rfl
theorem gw_1802 : Cond.instantiable "java/util/ArrayList$Itr" 4 ∈ ce_GW := gT_8 _ (List.mem_of_getElem? (i := 122) rfl) rfl
theorem gw_1803 : Cond.methodLink "java/util/ArrayList" 269 ⟨"java/util/ArrayList$Itr", "<init>", "(Ljava/util/ArrayList;)V"⟩ ∈ ce_GW := gT_8 _ (List.mem_of_getElem? (i := 123) rfl) rfl
theorem gw_1804 : Cond.instanceMethod ⟨"java/util/ArrayList$Itr", "<init>", "(Ljava/util/ArrayList;)V"⟩ ∈ ce_GW := gT_8 _ (List.mem_of_getElem? (i := 124) rfl) rfl
theorem gw_1805 : Cond.code ⟨"java/util/ArrayList$Itr", "<init>", "(Ljava/util/ArrayList;)V"⟩ prog_54_method_1_code 2 Option.none ∈ ce_GW := gT_8 _ (List.mem_of_getElem? (i := 125) rfl) rfl
theorem gw_1806 : Cond.methodLink "java/util/ArrayList$Itr" 7 ⟨"java/lang/Object", "<init>", "()V"⟩ ∈ ce_GW := gT_8 _ (List.mem_of_getElem? (i := 126) rfl) rfl
theorem gw_1807 : Cond.fieldLink "java/util/ArrayList$Itr" 25 "java/util/ArrayList$Itr" "cursor" "I" ∈ ce_GW := gT_8 _ (List.mem_of_getElem? (i := 127) rfl) rfl
theorem gw_1808 : Cond.fieldLink "java/util/ArrayList$Itr" 13 "java/util/ArrayList$Itr" "lastRet" "I" ∈ ce_GW := gT_8 _ (List.mem_of_getElem? (i := 128) rfl) rfl
theorem gw_1809 : Cond.fieldLink "java/util/ArrayList$Itr" 22 "java/util/ArrayList$Itr" "expectedModCount" "I" ∈ ce_GW := gT_8 _ (List.mem_of_getElem? (i := 129) rfl) rfl
theorem gw_1810 : Cond.fieldLink "java/util/ArrayList$Itr" 1 "java/util/ArrayList$Itr" "this$0" "Ljava/util/ArrayList;" ∈ ce_GW := gT_8 _ (List.mem_of_getElem? (i := 130) rfl) rfl
theorem gw_1821 : Cond.methodLink "CarcasswrightModel" 90 ⟨"java/util/Iterator", "hasNext", "()Z"⟩ ∈ ce_GW := gT_8 _ (List.mem_of_getElem? (i := 141) rfl) rfl
theorem gw_1825 : Cond.selects "java/util/ArrayList$Itr" ⟨"java/util/Iterator", "hasNext", "()Z"⟩ ⟨"java/util/ArrayList$Itr", "hasNext", "()Z"⟩ ∈ ce_GW := gT_8 _ (List.mem_of_getElem? (i := 145) rfl) rfl
theorem gw_1827 : Cond.instanceMethod ⟨"java/util/ArrayList$Itr", "hasNext", "()Z"⟩ ∈ ce_GW := gT_8 _ (List.mem_of_getElem? (i := 147) rfl) rfl
theorem gw_1829 : Cond.code ⟨"java/util/ArrayList$Itr", "hasNext", "()Z"⟩ prog_54_method_2_code 1 (Option.some Jvm.ClassFile.FieldType.boolean) ∈ ce_GW := gT_8 _ (List.mem_of_getElem? (i := 149) rfl) rfl
theorem gw_1854 : Cond.methodLink "CarcasswrightModel" 117 ⟨"java/util/ArrayList", "get", "(I)Ljava/lang/Object;"⟩ ∈ ce_GW := gT_8 _ (List.mem_of_getElem? (i := 174) rfl) rfl
theorem gw_1855 : Cond.instanceMethod ⟨"java/util/ArrayList", "get", "(I)Ljava/lang/Object;"⟩ ∈ ce_GW := gT_8 _ (List.mem_of_getElem? (i := 175) rfl) rfl
theorem gw_1856 : Cond.selects "java/util/ArrayList" ⟨"java/util/ArrayList", "get", "(I)Ljava/lang/Object;"⟩ ⟨"java/util/ArrayList", "get", "(I)Ljava/lang/Object;"⟩ ∈ ce_GW := gT_8 _ (List.mem_of_getElem? (i := 176) rfl) rfl
theorem gw_1857 : Cond.code ⟨"java/util/ArrayList", "get", "(I)Ljava/lang/Object;"⟩ prog_53_method_20_code 2 (Option.some (Jvm.ClassFile.FieldType.object "java/lang/Object")) ∈ ce_GW := gT_8 _ (List.mem_of_getElem? (i := 177) rfl) rfl
theorem gw_1858 : Cond.methodLink "java/util/ArrayList" 118 ⟨"java/util/Objects", "checkIndex", "(II)I"⟩ ∈ ce_GW := gT_8 _ (List.mem_of_getElem? (i := 178) rfl) rfl
theorem gw_1859 : Cond.static ⟨"java/util/Objects", "checkIndex", "(II)I"⟩ ∈ ce_GW := gT_8 _ (List.mem_of_getElem? (i := 179) rfl) rfl
theorem gw_1860 : Cond.code ⟨"java/util/Objects", "checkIndex", "(II)I"⟩ prog_60_method_17_code 2 (Option.some Jvm.ClassFile.FieldType.int) ∈ ce_GW := gT_8 _ (List.mem_of_getElem? (i := 180) rfl) rfl
theorem gw_1861 : Cond.methodLink "java/util/Objects" 105 ⟨"jdk/internal/util/Preconditions", "checkIndex", "(IILjava/util/function/BiFunction;)I"⟩ ∈ ce_GW := gT_8 _ (List.mem_of_getElem? (i := 181) rfl) rfl
theorem gw_1862 : Cond.static ⟨"jdk/internal/util/Preconditions", "checkIndex", "(IILjava/util/function/BiFunction;)I"⟩ ∈ ce_GW := gT_8 _ (List.mem_of_getElem? (i := 182) rfl) rfl
theorem gw_1863 : Cond.code ⟨"jdk/internal/util/Preconditions", "checkIndex", "(IILjava/util/function/BiFunction;)I"⟩ prog_64_method_11_code 3 (Option.some Jvm.ClassFile.FieldType.int) ∈ ce_GW := gT_8 _ (List.mem_of_getElem? (i := 183) rfl) rfl
theorem gw_1864 : Cond.methodLink "java/util/ArrayList" 123 ⟨"java/util/ArrayList", "elementData", "(I)Ljava/lang/Object;"⟩ ∈ ce_GW := gT_8 _ (List.mem_of_getElem? (i := 184) rfl) rfl
theorem gw_1865 : Cond.instanceMethod ⟨"java/util/ArrayList", "elementData", "(I)Ljava/lang/Object;"⟩ ∈ ce_GW := gT_8 _ (List.mem_of_getElem? (i := 185) rfl) rfl
theorem gw_1866 : Cond.selects "java/util/ArrayList" ⟨"java/util/ArrayList", "elementData", "(I)Ljava/lang/Object;"⟩ ⟨"java/util/ArrayList", "elementData", "(I)Ljava/lang/Object;"⟩ ∈ ce_GW := gT_8 _ (List.mem_of_getElem? (i := 186) rfl) rfl
theorem gw_1867 : Cond.code ⟨"java/util/ArrayList", "elementData", "(I)Ljava/lang/Object;"⟩ prog_53_method_18_code 2 (Option.some (Jvm.ClassFile.FieldType.object "java/lang/Object")) ∈ ce_GW := gT_8 _ (List.mem_of_getElem? (i := 187) rfl) rfl
theorem gw_1868 : Cond.methodLink "CarcasswrightModel" 132 ⟨"java/lang/Math", "max", "(II)I"⟩ ∈ ce_GW := gT_8 _ (List.mem_of_getElem? (i := 188) rfl) rfl
theorem gw_1873 : Cond.methodLink "CarcasswrightModel" 136 ⟨"CarcasswrightModel", "noWall", "(I)Z"⟩ ∈ ce_GW := gT_8 _ (List.mem_of_getElem? (i := 193) rfl) rfl
theorem gw_1875 : Cond.instanceMethod ⟨"CarcasswrightModel", "noWall", "(I)Z"⟩ ∈ ce_GW := gT_8 _ (List.mem_of_getElem? (i := 195) rfl) rfl
theorem gw_1876 : Cond.code ⟨"CarcasswrightModel", "noWall", "(I)Z"⟩ prog_14_method_12_code 2 (Option.some Jvm.ClassFile.FieldType.boolean) ∈ ce_GW := gT_8 _ (List.mem_of_getElem? (i := 196) rfl) rfl
theorem gw_2141 : Cond.fieldLink "java/lang/String" 9 "java/lang/String" "value" "[B" ∈ ce_GW := gT_9 _ (List.mem_of_getElem? (i := 221) rfl) rfl
theorem gw_2142 : Cond.fieldLink "java/lang/String" 15 "java/lang/String" "coder" "B" ∈ ce_GW := gT_9 _ (List.mem_of_getElem? (i := 222) rfl) rfl
theorem gw_2854 : Cond.arrayClass Jvm.ClassFile.FieldType.long ∈ ce_GW := gT_12 _ (List.mem_of_getElem? (i := 214) rfl) rfl
theorem gw_2855 : Cond.arrayClass Jvm.ClassFile.FieldType.double ∈ ce_GW := gT_12 _ (List.mem_of_getElem? (i := 215) rfl) rfl
theorem gx_0 : ce_XS[0] ∈ ce_GW := List.mem_append_left _ (List.mem_of_getElem? (i := 0) rfl)
theorem gx_1 : ce_XS[1] ∈ ce_GW := List.mem_append_left _ (List.mem_of_getElem? (i := 1) rfl)
theorem gx_2 : ce_XS[2] ∈ ce_GW := List.mem_append_left _ (List.mem_of_getElem? (i := 2) rfl)
theorem gx_3 : ce_XS[3] ∈ ce_GW := List.mem_append_left _ (List.mem_of_getElem? (i := 3) rfl)
theorem gx_4 : ce_XS[4] ∈ ce_GW := List.mem_append_left _ (List.mem_of_getElem? (i := 4) rfl)
theorem gx_5 : ce_XS[5] ∈ ce_GW := List.mem_append_left _ (List.mem_of_getElem? (i := 5) rfl)
theorem gn_0 : Cond.castable "java/lang/IllegalArgumentException" "java/lang/IllegalArgumentException" ∈ ce_NG := List.mem_of_getElem? (i := 0) rfl
theorem gn_1 : Cond.castable "java/lang/IndexOutOfBoundsException" "java/lang/IndexOutOfBoundsException" ∈ ce_NG := List.mem_of_getElem? (i := 1) rfl
theorem gn_8 : Cond.methodLinkNest "Carcasswright$Types" 19 ⟨"Carcasswright$ModuleType", "<init>", "()V"⟩ "Carcasswright" ∈ ce_NG := List.mem_of_getElem? (i := 8) rfl
theorem gn_9 : Cond.methodLinkNest "Carcasswright$Room" 35 ⟨"Carcasswright$Wall", "<init>", "()V"⟩ "Carcasswright" ∈ ce_NG := List.mem_of_getElem? (i := 9) rfl
theorem gn_10 : Cond.methodLinkNest "Carcasswright$Room" 36 ⟨"Carcasswright$Obstacle", "<init>", "()V"⟩ "Carcasswright" ∈ ce_NG := List.mem_of_getElem? (i := 10) rfl
theorem gn_11 : Cond.methodLinkNest "Carcasswright$Stock" 15 ⟨"Carcasswright$Board", "<init>", "()V"⟩ "Carcasswright" ∈ ce_NG := List.mem_of_getElem? (i := 11) rfl
theorem gn_12 : Cond.methodLinkNest "Carcasswright$Saw" 40 ⟨"Carcasswright$Board", "<init>", "()V"⟩ "Carcasswright" ∈ ce_NG := List.mem_of_getElem? (i := 12) rfl
theorem gn_13 : Cond.methodLinkNest "Carcasswright" 47 ⟨"Carcasswright$Packer", "<init>", "()V"⟩ "Carcasswright" ∈ ce_NG := List.mem_of_getElem? (i := 13) rfl
theorem gn_14 : Cond.methodLinkNest "Carcasswright" 54 ⟨"Carcasswright$Jobs", "<init>", "()V"⟩ "Carcasswright" ∈ ce_NG := List.mem_of_getElem? (i := 14) rfl
theorem gn_21 : Cond.fieldLinkNest "java/util/ArrayList$Itr" 28 "java/util/ArrayList" "size" "I" "java/util/ArrayList" ∈ ce_NG := List.mem_of_getElem? (i := 21) rfl
theorem gn_27 : Cond.fieldLinkNest "CarcasswrightModel" 103 "CarcasswrightModel$Wall" "length" "I" "CarcasswrightModel" ∈ ce_NG := List.mem_of_getElem? (i := 27) rfl
end
section
theorem ce_dropc {α : Type} (l : List α) (m : α) (r : List α) : (l ++ m :: r).drop (l.length + 1) = r := by
  induction l with
  | nil => rfl
  | cons a t ih => exact ih
theorem th_split {own X : String} {ic : Nat} {names : List String} {w : Cond} (h : w ∈ Bundle.ownAtoms0 own ic X names) : w = Cond.methodLink own ic (Bundle.init0 X) ∨ w ∈ Bundle.throwableAtoms ++ Bundle.chain0Atoms X names ++ (Bundle.ownAtoms0 "" 0 X names).drop ((Bundle.throwableAtoms ++ Bundle.chain0Atoms X names).length + 1) := by
  unfold Bundle.ownAtoms0 at h ⊢
  rcases List.mem_append.mp h with h | h
  · exact Or.inr (List.mem_append_left _ h)
  · rcases List.mem_cons.mp h with e | e
    · exact Or.inl e
    · refine Or.inr (List.mem_append_right _ ?_)
      rw [ce_dropc]
      exact e
theorem th_0 {own : String} {ic : Nat} (h : Cond.methodLink own ic ⟨ce_ex 0, "<init>", "()V"⟩ ∈ ce_GW) : ∀ w ∈ vx_at0 own ic (ce_ex 0) ["java/lang/RuntimeException", "java/lang/Exception"], w ∈ ce_GW ∨ w ∈ ce_NG := by
  intro w hw
  obtain ⟨h1, h2⟩ := List.mem_filter.mp hw
  rcases th_split h1 with e | e
  · rw [e]; exact Or.inl h
  · have key : ∀ w ∈ (Bundle.throwableAtoms ++ Bundle.chain0Atoms (ce_ex 0) ["java/lang/RuntimeException", "java/lang/Exception"] ++ (Bundle.ownAtoms0 "" 0 (ce_ex 0) ["java/lang/RuntimeException", "java/lang/Exception"]).drop ((Bundle.throwableAtoms ++ Bundle.chain0Atoms (ce_ex 0) ["java/lang/RuntimeException", "java/lang/Exception"]).length + 1)).filter vx_no, w ∈ ce_GW ∨ w ∈ ce_NG := by decide +kernel
    exact key w (List.mem_filter.mpr ⟨e, h2⟩)
theorem th_1 {own : String} {ic : Nat} (h : Cond.methodLink own ic ⟨ce_ex 1, "<init>", "()V"⟩ ∈ ce_GW) : ∀ w ∈ vx_at0 own ic (ce_ex 1) ["java/lang/RuntimeException", "java/lang/Exception"], w ∈ ce_GW ∨ w ∈ ce_NG := by
  intro w hw
  obtain ⟨h1, h2⟩ := List.mem_filter.mp hw
  rcases th_split h1 with e | e
  · rw [e]; exact Or.inl h
  · have key : ∀ w ∈ (Bundle.throwableAtoms ++ Bundle.chain0Atoms (ce_ex 1) ["java/lang/RuntimeException", "java/lang/Exception"] ++ (Bundle.ownAtoms0 "" 0 (ce_ex 1) ["java/lang/RuntimeException", "java/lang/Exception"]).drop ((Bundle.throwableAtoms ++ Bundle.chain0Atoms (ce_ex 1) ["java/lang/RuntimeException", "java/lang/Exception"]).length + 1)).filter vx_no, w ∈ ce_GW ∨ w ∈ ce_NG := by decide +kernel
    exact key w (List.mem_filter.mpr ⟨e, h2⟩)
theorem th_2 {own : String} {ic : Nat} (h : Cond.methodLink own ic ⟨ce_ex 2, "<init>", "()V"⟩ ∈ ce_GW) : ∀ w ∈ vx_at0 own ic (ce_ex 2) ["java/lang/RuntimeException", "java/lang/Exception"], w ∈ ce_GW ∨ w ∈ ce_NG := by
  intro w hw
  obtain ⟨h1, h2⟩ := List.mem_filter.mp hw
  rcases th_split h1 with e | e
  · rw [e]; exact Or.inl h
  · have key : ∀ w ∈ (Bundle.throwableAtoms ++ Bundle.chain0Atoms (ce_ex 2) ["java/lang/RuntimeException", "java/lang/Exception"] ++ (Bundle.ownAtoms0 "" 0 (ce_ex 2) ["java/lang/RuntimeException", "java/lang/Exception"]).drop ((Bundle.throwableAtoms ++ Bundle.chain0Atoms (ce_ex 2) ["java/lang/RuntimeException", "java/lang/Exception"]).length + 1)).filter vx_no, w ∈ ce_GW ∨ w ∈ ce_NG := by decide +kernel
    exact key w (List.mem_filter.mpr ⟨e, h2⟩)
theorem th_3 {own : String} {ic : Nat} (h : Cond.methodLink own ic ⟨ce_ex 3, "<init>", "()V"⟩ ∈ ce_GW) : ∀ w ∈ vx_at0 own ic (ce_ex 3) ["java/lang/RuntimeException", "java/lang/Exception"], w ∈ ce_GW ∨ w ∈ ce_NG := by
  intro w hw
  obtain ⟨h1, h2⟩ := List.mem_filter.mp hw
  rcases th_split h1 with e | e
  · rw [e]; exact Or.inl h
  · have key : ∀ w ∈ (Bundle.throwableAtoms ++ Bundle.chain0Atoms (ce_ex 3) ["java/lang/RuntimeException", "java/lang/Exception"] ++ (Bundle.ownAtoms0 "" 0 (ce_ex 3) ["java/lang/RuntimeException", "java/lang/Exception"]).drop ((Bundle.throwableAtoms ++ Bundle.chain0Atoms (ce_ex 3) ["java/lang/RuntimeException", "java/lang/Exception"]).length + 1)).filter vx_no, w ∈ ce_GW ∨ w ∈ ce_NG := by decide +kernel
    exact key w (List.mem_filter.mpr ⟨e, h2⟩)
end
section
-- the rows that decode the steps (rows of the claim's printed names)
theorem dJ0_coder_7d493_0 : decode cJ0_coder_7d493 0 = .ok (.getstatic 38, 3) := by decide +kernel
theorem dJ0_coder_7d493_3 : decode cJ0_coder_7d493 3 = .ok (.ifCond .eq 10, 3) := by decide +kernel
theorem dJ0_coder_7d493_6 : decode cJ0_coder_7d493 6 = .ok (.aload_n 0, 1) := by decide +kernel
theorem dJ0_coder_7d493_7 : decode cJ0_coder_7d493 7 = .ok (.getfield 15, 3) := by decide +kernel
theorem dJ0_coder_7d493_10 : decode cJ0_coder_7d493 10 = .ok (.goto 4, 3) := by decide +kernel
theorem dJ0_coder_7d493_14 : decode cJ0_coder_7d493 14 = .ok (.ireturn, 1) := by decide +kernel
theorem dJ0_isLatin1_aae02_0 : decode cJ0_isLatin1_aae02 0 = .ok (.getstatic 38, 3) := by decide +kernel
theorem dJ0_isLatin1_aae02_3 : decode cJ0_isLatin1_aae02 3 = .ok (.ifCond .eq 14, 3) := by decide +kernel
theorem dJ0_isLatin1_aae02_6 : decode cJ0_isLatin1_aae02 6 = .ok (.aload_n 0, 1) := by decide +kernel
theorem dJ0_isLatin1_aae02_7 : decode cJ0_isLatin1_aae02 7 = .ok (.getfield 15, 3) := by decide +kernel
theorem dJ0_isLatin1_aae02_10 : decode cJ0_isLatin1_aae02 10 = .ok (.ifCond .ne 7, 3) := by decide +kernel
theorem dJ0_isLatin1_aae02_13 : decode cJ0_isLatin1_aae02 13 = .ok (.iconst 1, 1) := by decide +kernel
theorem dJ0_isLatin1_aae02_14 : decode cJ0_isLatin1_aae02 14 = .ok (.goto 4, 3) := by decide +kernel
theorem dJ0_isLatin1_aae02_18 : decode cJ0_isLatin1_aae02 18 = .ok (.ireturn, 1) := by decide +kernel
theorem dJ1_canEncode_9a6ad_0 : decode cJ1_canEncode_9a6ad 0 = .ok (.iload_n 0, 1) := by decide +kernel
theorem dJ1_canEncode_9a6ad_1 : decode cJ1_canEncode_9a6ad 1 = .ok (.ifCond .lt 14, 3) := by decide +kernel
theorem dJ1_canEncode_9a6ad_4 : decode cJ1_canEncode_9a6ad 4 = .ok (.iload_n 0, 1) := by decide +kernel
theorem dJ1_canEncode_9a6ad_5 : decode cJ1_canEncode_9a6ad 5 = .ok (.sipush 255, 3) := by decide +kernel
theorem dJ1_canEncode_9a6ad_8 : decode cJ1_canEncode_9a6ad 8 = .ok (.if_icmp .gt 7, 3) := by decide +kernel
theorem dJ1_canEncode_9a6ad_11 : decode cJ1_canEncode_9a6ad 11 = .ok (.iconst 1, 1) := by decide +kernel
theorem dJ1_canEncode_9a6ad_12 : decode cJ1_canEncode_9a6ad 12 = .ok (.goto 4, 3) := by decide +kernel
theorem dJ1_canEncode_9a6ad_16 : decode cJ1_canEncode_9a6ad 16 = .ok (.ireturn, 1) := by decide +kernel
theorem dJ1_indexOfChar_4cfef_0 : decode cJ1_indexOfChar_4cfef 0 = .ok (.iload_n 1, 1) := by decide +kernel
theorem dJ1_indexOfChar_4cfef_1 : decode cJ1_indexOfChar_4cfef 1 = .ok (.i2b, 1) := by decide +kernel
theorem dJ1_indexOfChar_4cfef_2 : decode cJ1_indexOfChar_4cfef 2 = .ok (.istore 4, 2) := by decide +kernel
theorem dJ1_indexOfChar_4cfef_4 : decode cJ1_indexOfChar_4cfef 4 = .ok (.iload_n 2, 1) := by decide +kernel
theorem dJ1_indexOfChar_4cfef_5 : decode cJ1_indexOfChar_4cfef 5 = .ok (.istore 5, 2) := by decide +kernel
theorem dJ1_indexOfChar_4cfef_7 : decode cJ1_indexOfChar_4cfef 7 = .ok (.iload 5, 2) := by decide +kernel
theorem dJ1_indexOfChar_4cfef_9 : decode cJ1_indexOfChar_4cfef 9 = .ok (.iload_n 3, 1) := by decide +kernel
theorem dJ1_indexOfChar_4cfef_10 : decode cJ1_indexOfChar_4cfef 10 = .ok (.if_icmp .ge 21, 3) := by decide +kernel
theorem dJ1_indexOfChar_4cfef_13 : decode cJ1_indexOfChar_4cfef 13 = .ok (.aload_n 0, 1) := by decide +kernel
theorem dJ1_indexOfChar_4cfef_14 : decode cJ1_indexOfChar_4cfef 14 = .ok (.iload 5, 2) := by decide +kernel
theorem dJ1_indexOfChar_4cfef_16 : decode cJ1_indexOfChar_4cfef 16 = .ok (.baload, 1) := by decide +kernel
theorem dJ1_indexOfChar_4cfef_17 : decode cJ1_indexOfChar_4cfef 17 = .ok (.iload 4, 2) := by decide +kernel
theorem dJ1_indexOfChar_4cfef_19 : decode cJ1_indexOfChar_4cfef 19 = .ok (.if_icmp .ne 6, 3) := by decide +kernel
theorem dJ1_indexOfChar_4cfef_22 : decode cJ1_indexOfChar_4cfef 22 = .ok (.iload 5, 2) := by decide +kernel
theorem dJ1_indexOfChar_4cfef_24 : decode cJ1_indexOfChar_4cfef 24 = .ok (.ireturn, 1) := by decide +kernel
theorem dJ3_checkIndex_8e157_0 : decode cJ3_checkIndex_8e157 0 = .ok (.iload_n 0, 1) := by decide +kernel
theorem dJ3_checkIndex_8e157_1 : decode cJ3_checkIndex_8e157 1 = .ok (.ifCond .lt 8, 3) := by decide +kernel
theorem dJ3_checkIndex_8e157_4 : decode cJ3_checkIndex_8e157 4 = .ok (.iload_n 0, 1) := by decide +kernel
theorem dJ3_checkIndex_8e157_5 : decode cJ3_checkIndex_8e157 5 = .ok (.iload_n 1, 1) := by decide +kernel
theorem dJ3_checkIndex_8e157_6 : decode cJ3_checkIndex_8e157 6 = .ok (.if_icmp .lt 10, 3) := by decide +kernel
theorem dJ3_checkIndex_8e157_16 : decode cJ3_checkIndex_8e157 16 = .ok (.iload_n 0, 1) := by decide +kernel
theorem dJ3_checkIndex_8e157_17 : decode cJ3_checkIndex_8e157 17 = .ok (.ireturn, 1) := by decide +kernel
theorem dJx35411_hasNext_aae02_0 : decode cJx35411_hasNext_aae02 0 = .ok (.aload_n 0, 1) := by decide +kernel
theorem dJx35411_hasNext_aae02_1 : decode cJx35411_hasNext_aae02 1 = .ok (.getfield 25, 3) := by decide +kernel
theorem dJx35411_hasNext_aae02_4 : decode cJx35411_hasNext_aae02 4 = .ok (.aload_n 0, 1) := by decide +kernel
theorem dJx35411_hasNext_aae02_5 : decode cJx35411_hasNext_aae02 5 = .ok (.getfield 1, 3) := by decide +kernel
theorem dJx35411_hasNext_aae02_8 : decode cJx35411_hasNext_aae02 8 = .ok (.getfield 28, 3) := by decide +kernel
theorem dJx35411_hasNext_aae02_11 : decode cJx35411_hasNext_aae02 11 = .ok (.if_icmp .eq 7, 3) := by decide +kernel
theorem dJx35411_hasNext_aae02_18 : decode cJx35411_hasNext_aae02 18 = .ok (.iconst 0, 1) := by decide +kernel
theorem dJx35411_hasNext_aae02_19 : decode cJx35411_hasNext_aae02 19 = .ok (.ireturn, 1) := by decide +kernel
theorem dJx35411_init_45d68_0 : decode cJx35411_init_45d68 0 = .ok (.aload_n 0, 1) := by decide +kernel
theorem dJx35411_init_45d68_1 : decode cJx35411_init_45d68 1 = .ok (.aload_n 1, 1) := by decide +kernel
theorem dJx35411_init_45d68_2 : decode cJx35411_init_45d68 2 = .ok (.putfield 1, 3) := by decide +kernel
theorem dJx35411_init_45d68_5 : decode cJx35411_init_45d68 5 = .ok (.aload_n 0, 1) := by decide +kernel
theorem dJx35411_init_45d68_6 : decode cJx35411_init_45d68 6 = .ok (.invokespecial 7, 3) := by decide +kernel
theorem dJx35411_init_45d68_9 : decode cJx35411_init_45d68 9 = .ok (.aload_n 0, 1) := by decide +kernel
theorem dJx35411_init_45d68_10 : decode cJx35411_init_45d68 10 = .ok (.iconst (-1), 1) := by decide +kernel
theorem dJx35411_init_45d68_11 : decode cJx35411_init_45d68 11 = .ok (.putfield 13, 3) := by decide +kernel
theorem dJx35411_init_45d68_14 : decode cJx35411_init_45d68 14 = .ok (.aload_n 0, 1) := by decide +kernel
theorem dJx35411_init_45d68_15 : decode cJx35411_init_45d68 15 = .ok (.aload_n 0, 1) := by decide +kernel
theorem dJx35411_init_45d68_16 : decode cJx35411_init_45d68 16 = .ok (.getfield 1, 3) := by decide +kernel
theorem dJx35411_init_45d68_19 : decode cJx35411_init_45d68 19 = .ok (.getfield 17, 3) := by decide +kernel
theorem dJx35411_init_45d68_22 : decode cJx35411_init_45d68 22 = .ok (.putfield 22, 3) := by decide +kernel
theorem dJx35411_init_45d68_25 : decode cJx35411_init_45d68 25 = .ok (.return_, 1) := by decide +kernel
theorem dJx4a65c_elementData_915e3_0 : decode cJx4a65c_elementData_915e3 0 = .ok (.aload_n 0, 1) := by decide +kernel
theorem dJx4a65c_elementData_915e3_1 : decode cJx4a65c_elementData_915e3 1 = .ok (.getfield 9, 3) := by decide +kernel
theorem dJx4a65c_elementData_915e3_4 : decode cJx4a65c_elementData_915e3 4 = .ok (.iload_n 1, 1) := by decide +kernel
theorem dJx4a65c_elementData_915e3_5 : decode cJx4a65c_elementData_915e3 5 = .ok (.aaload, 1) := by decide +kernel
theorem dJx4a65c_elementData_915e3_6 : decode cJx4a65c_elementData_915e3 6 = .ok (.areturn, 1) := by decide +kernel
theorem dJx4a65c_grow_92f84_0 : decode cJx4a65c_grow_92f84 0 = .ok (.aload_n 0, 1) := by decide +kernel
theorem dJx4a65c_grow_92f84_1 : decode cJx4a65c_grow_92f84 1 = .ok (.getfield 9, 3) := by decide +kernel
theorem dJx4a65c_grow_92f84_4 : decode cJx4a65c_grow_92f84 4 = .ok (.arraylength, 1) := by decide +kernel
theorem dJx4a65c_grow_92f84_5 : decode cJx4a65c_grow_92f84 5 = .ok (.istore_n 2, 1) := by decide +kernel
theorem dJx4a65c_grow_92f84_6 : decode cJx4a65c_grow_92f84 6 = .ok (.iload_n 2, 1) := by decide +kernel
theorem dJx4a65c_grow_92f84_7 : decode cJx4a65c_grow_92f84 7 = .ok (.ifCond .gt 13, 3) := by decide +kernel
theorem dJx4a65c_grow_92f84_10 : decode cJx4a65c_grow_92f84 10 = .ok (.aload_n 0, 1) := by decide +kernel
theorem dJx4a65c_grow_92f84_11 : decode cJx4a65c_grow_92f84 11 = .ok (.getfield 9, 3) := by decide +kernel
theorem dJx4a65c_grow_92f84_14 : decode cJx4a65c_grow_92f84 14 = .ok (.getstatic 39, 3) := by decide +kernel
theorem dJx4a65c_grow_92f84_17 : decode cJx4a65c_grow_92f84 17 = .ok (.if_acmp .eq 28, 3) := by decide +kernel
theorem dJx4a65c_grow_92f84_45 : decode cJx4a65c_grow_92f84 45 = .ok (.aload_n 0, 1) := by decide +kernel
theorem dJx4a65c_grow_92f84_46 : decode cJx4a65c_grow_92f84 46 = .ok (.bipush 10, 2) := by decide +kernel
theorem dJx4a65c_grow_92f84_48 : decode cJx4a65c_grow_92f84 48 = .ok (.iload_n 1, 1) := by decide +kernel
theorem dJx4a65c_grow_92f84_49 : decode cJx4a65c_grow_92f84 49 = .ok (.invokestatic 79, 3) := by decide +kernel
theorem dJx4a65c_grow_92f84_52 : decode cJx4a65c_grow_92f84 52 = .ok (.anewarray 7, 3) := by decide +kernel
theorem dJx4a65c_grow_92f84_55 : decode cJx4a65c_grow_92f84 55 = .ok (.dup_x1, 1) := by decide +kernel
theorem dJx4a65c_grow_92f84_56 : decode cJx4a65c_grow_92f84 56 = .ok (.putfield 9, 3) := by decide +kernel
theorem dJx4a65c_grow_92f84_59 : decode cJx4a65c_grow_92f84 59 = .ok (.areturn, 1) := by decide +kernel
theorem dJx4a65c_isEmpty_aae02_0 : decode cJx4a65c_isEmpty_aae02 0 = .ok (.aload_n 0, 1) := by decide +kernel
theorem dJx4a65c_isEmpty_aae02_1 : decode cJx4a65c_isEmpty_aae02 1 = .ok (.getfield 48, 3) := by decide +kernel
theorem dJx4a65c_isEmpty_aae02_4 : decode cJx4a65c_isEmpty_aae02 4 = .ok (.ifCond .ne 7, 3) := by decide +kernel
theorem dJx4a65c_isEmpty_aae02_7 : decode cJx4a65c_isEmpty_aae02 7 = .ok (.iconst 1, 1) := by decide +kernel
theorem dJx4a65c_isEmpty_aae02_8 : decode cJx4a65c_isEmpty_aae02 8 = .ok (.goto 4, 3) := by decide +kernel
theorem dJx4a65c_isEmpty_aae02_12 : decode cJx4a65c_isEmpty_aae02 12 = .ok (.ireturn, 1) := by decide +kernel
theorem dJx4a65c_size_8abf5_0 : decode cJx4a65c_size_8abf5 0 = .ok (.aload_n 0, 1) := by decide +kernel
theorem dJx4a65c_size_8abf5_1 : decode cJx4a65c_size_8abf5 1 = .ok (.getfield 48, 3) := by decide +kernel
theorem dJx4a65c_size_8abf5_4 : decode cJx4a65c_size_8abf5 4 = .ok (.ireturn, 1) := by decide +kernel
theorem dJxa1e45_init_da8c8_0 : decode cJxa1e45_init_da8c8 0 = .ok (.aload_n 0, 1) := by decide +kernel
theorem dJxa1e45_init_da8c8_1 : decode cJxa1e45_init_da8c8 1 = .ok (.invokespecial 1, 3) := by decide +kernel
theorem dJxa1e45_init_da8c8_4 : decode cJxa1e45_init_da8c8 4 = .ok (.return_, 1) := by decide +kernel
theorem dX0_init_0 : decode cX0_init 0 = .ok (.aload_n 0, 1) := by decide +kernel
theorem dX0_init_1 : decode cX0_init 1 = .ok (.invokespecial 3, 3) := by decide +kernel
theorem dX0_init_4 : decode cX0_init 4 = .ok (.return_, 1) := by decide +kernel
theorem dX10_init_0 : decode cX10_init 0 = .ok (.aload_n 0, 1) := by decide +kernel
theorem dX10_init_1 : decode cX10_init 1 = .ok (.invokespecial 1, 3) := by decide +kernel
theorem dX10_init_4 : decode cX10_init 4 = .ok (.aload_n 0, 1) := by decide +kernel
theorem dX10_init_5 : decode cX10_init 5 = .ok (.bipush 101, 2) := by decide +kernel
theorem dX10_init_7 : decode cX10_init 7 = .ok (.putfield 7, 3) := by decide +kernel
theorem dX10_init_10 : decode cX10_init 10 = .ok (.return_, 1) := by decide +kernel
theorem dX11_isOutside_0 : decode cX11_isOutside 0 = .ok (.iload_n 0, 1) := by decide +kernel
theorem dX11_isOutside_1 : decode cX11_isOutside 1 = .ok (.iload_n 1, 1) := by decide +kernel
theorem dX11_isOutside_2 : decode cX11_isOutside 2 = .ok (.if_icmp .lt 8, 3) := by decide +kernel
theorem dX11_isOutside_5 : decode cX11_isOutside 5 = .ok (.iload_n 0, 1) := by decide +kernel
theorem dX11_isOutside_6 : decode cX11_isOutside 6 = .ok (.iload_n 2, 1) := by decide +kernel
theorem dX11_isOutside_7 : decode cX11_isOutside 7 = .ok (.if_icmp .le 7, 3) := by decide +kernel
theorem dX11_isOutside_14 : decode cX11_isOutside 14 = .ok (.iconst 0, 1) := by decide +kernel
theorem dX11_isOutside_15 : decode cX11_isOutside 15 = .ok (.ireturn, 1) := by decide +kernel
theorem dX1_init_0 : decode cX1_init 0 = .ok (.aload_n 0, 1) := by decide +kernel
theorem dX1_init_1 : decode cX1_init 1 = .ok (.invokespecial 1, 3) := by decide +kernel
theorem dX1_init_4 : decode cX1_init 4 = .ok (.aload_n 0, 1) := by decide +kernel
theorem dX1_init_5 : decode cX1_init 5 = .ok (.bipush 6, 2) := by decide +kernel
theorem dX1_init_7 : decode cX1_init 7 = .ok (.newarray .int, 2) := by decide +kernel
theorem dX1_init_9 : decode cX1_init 9 = .ok (.putfield 9, 3) := by decide +kernel
theorem dX1_init_12 : decode cX1_init 12 = .ok (.aload_n 0, 1) := by decide +kernel
theorem dX1_init_13 : decode cX1_init 13 = .ok (.bipush 6, 2) := by decide +kernel
theorem dX1_init_15 : decode cX1_init 15 = .ok (.newarray .int, 2) := by decide +kernel
theorem dX1_init_17 : decode cX1_init 17 = .ok (.putfield 13, 3) := by decide +kernel
theorem dX1_init_20 : decode cX1_init 20 = .ok (.aload_n 0, 1) := by decide +kernel
theorem dX1_init_21 : decode cX1_init 21 = .ok (.bipush 6, 2) := by decide +kernel
theorem dX1_init_23 : decode cX1_init 23 = .ok (.newarray .int, 2) := by decide +kernel
theorem dX1_init_25 : decode cX1_init 25 = .ok (.putfield 16, 3) := by decide +kernel
theorem dX1_init_28 : decode cX1_init 28 = .ok (.aload_n 0, 1) := by decide +kernel
theorem dX1_init_29 : decode cX1_init 29 = .ok (.bipush 6, 2) := by decide +kernel
theorem dX1_init_31 : decode cX1_init 31 = .ok (.newarray .int, 2) := by decide +kernel
theorem dX1_init_33 : decode cX1_init 33 = .ok (.putfield 19, 3) := by decide +kernel
theorem dX1_init_36 : decode cX1_init 36 = .ok (.aload_n 0, 1) := by decide +kernel
theorem dX1_init_37 : decode cX1_init 37 = .ok (.bipush 6, 2) := by decide +kernel
theorem dX1_init_39 : decode cX1_init 39 = .ok (.newarray .int, 2) := by decide +kernel
theorem dX1_init_41 : decode cX1_init 41 = .ok (.putfield 22, 3) := by decide +kernel
theorem dX1_init_44 : decode cX1_init 44 = .ok (.aload_n 0, 1) := by decide +kernel
theorem dX1_init_45 : decode cX1_init 45 = .ok (.iconst 2, 1) := by decide +kernel
theorem dX1_init_46 : decode cX1_init 46 = .ok (.putfield 25, 3) := by decide +kernel
theorem dX1_init_49 : decode cX1_init 49 = .ok (.return_, 1) := by decide +kernel
theorem dX20_init_0 : decode cX20_init 0 = .ok (.aload_n 0, 1) := by decide +kernel
theorem dX20_init_1 : decode cX20_init 1 = .ok (.invokespecial 1, 3) := by decide +kernel
theorem dX20_init_4 : decode cX20_init 4 = .ok (.aload_n 0, 1) := by decide +kernel
theorem dX20_init_5 : decode cX20_init 5 = .ok (.iload_n 1, 1) := by decide +kernel
theorem dX20_init_6 : decode cX20_init 6 = .ok (.putfield 7, 3) := by decide +kernel
theorem dX20_init_9 : decode cX20_init 9 = .ok (.aload_n 0, 1) := by decide +kernel
theorem dX20_init_10 : decode cX20_init 10 = .ok (.iload_n 2, 1) := by decide +kernel
theorem dX20_init_11 : decode cX20_init 11 = .ok (.putfield 13, 3) := by decide +kernel
theorem dX20_init_14 : decode cX20_init 14 = .ok (.aload_n 0, 1) := by decide +kernel
theorem dX20_init_15 : decode cX20_init 15 = .ok (.iload_n 2, 1) := by decide +kernel
theorem dX20_init_16 : decode cX20_init 16 = .ok (.putfield 17, 3) := by decide +kernel
theorem dX20_init_19 : decode cX20_init 19 = .ok (.return_, 1) := by decide +kernel
theorem dX21_in_0 : decode cX21_in 0 = .ok (.iload_n 0, 1) := by decide +kernel
theorem dX21_in_1 : decode cX21_in 1 = .ok (.iload_n 1, 1) := by decide +kernel
theorem dX21_in_2 : decode cX21_in 2 = .ok (.if_icmp .lt 12, 3) := by decide +kernel
theorem dX21_in_5 : decode cX21_in 5 = .ok (.iload_n 0, 1) := by decide +kernel
theorem dX21_in_6 : decode cX21_in 6 = .ok (.iload_n 2, 1) := by decide +kernel
theorem dX21_in_7 : decode cX21_in 7 = .ok (.if_icmp .gt 7, 3) := by decide +kernel
theorem dX21_in_10 : decode cX21_in 10 = .ok (.iconst 1, 1) := by decide +kernel
theorem dX21_in_11 : decode cX21_in 11 = .ok (.goto 4, 3) := by decide +kernel
theorem dX21_in_15 : decode cX21_in 15 = .ok (.ireturn, 1) := by decide +kernel
theorem dX21_thrown_0 : decode cX21_thrown 0 = .ok (.aload_n 0, 1) := by decide +kernel
theorem dX21_thrown_1 : decode cX21_thrown 1 = .ok (.getfield 54, 3) := by decide +kernel
theorem dX21_thrown_4 : decode cX21_thrown 4 = .ok (.ireturn, 1) := by decide +kernel
theorem dX2_init_0 : decode cX2_init 0 = .ok (.aload_n 0, 1) := by decide +kernel
theorem dX2_init_1 : decode cX2_init 1 = .ok (.invokespecial 1, 3) := by decide +kernel
theorem dX2_init_4 : decode cX2_init 4 = .ok (.aload_n 0, 1) := by decide +kernel
theorem dX2_init_5 : decode cX2_init 5 = .ok (.bipush 98, 2) := by decide +kernel
theorem dX2_init_7 : decode cX2_init 7 = .ok (.putfield 7, 3) := by decide +kernel
theorem dX2_init_10 : decode cX2_init 10 = .ok (.return_, 1) := by decide +kernel
theorem dX3_init_0 : decode cX3_init 0 = .ok (.aload_n 0, 1) := by decide +kernel
theorem dX3_init_1 : decode cX3_init 1 = .ok (.invokespecial 1, 3) := by decide +kernel
theorem dX3_init_4 : decode cX3_init 4 = .ok (.return_, 1) := by decide +kernel
theorem dX4_init_0 : decode cX4_init 0 = .ok (.aload_n 0, 1) := by decide +kernel
theorem dX4_init_1 : decode cX4_init 1 = .ok (.invokespecial 3, 3) := by decide +kernel
theorem dX4_init_4 : decode cX4_init 4 = .ok (.aload_n 0, 1) := by decide +kernel
theorem dX4_init_5 : decode cX4_init 5 = .ok (.bipush 25, 2) := by decide +kernel
theorem dX4_init_7 : decode cX4_init 7 = .ok (.newarray .int, 2) := by decide +kernel
theorem dX4_init_9 : decode cX4_init 9 = .ok (.putfield 9, 3) := by decide +kernel
theorem dX4_init_12 : decode cX4_init 12 = .ok (.aload_n 0, 1) := by decide +kernel
theorem dX4_init_13 : decode cX4_init 13 = .ok (.bipush 25, 2) := by decide +kernel
theorem dX4_init_15 : decode cX4_init 15 = .ok (.newarray .int, 2) := by decide +kernel
theorem dX4_init_17 : decode cX4_init 17 = .ok (.putfield 15, 3) := by decide +kernel
theorem dX4_init_20 : decode cX4_init 20 = .ok (.aload_n 0, 1) := by decide +kernel
theorem dX4_init_21 : decode cX4_init 21 = .ok (.bipush 25, 2) := by decide +kernel
theorem dX4_init_23 : decode cX4_init 23 = .ok (.newarray .int, 2) := by decide +kernel
theorem dX4_init_25 : decode cX4_init 25 = .ok (.putfield 18, 3) := by decide +kernel
theorem dX4_init_28 : decode cX4_init 28 = .ok (.return_, 1) := by decide +kernel
theorem dX5_init_0 : decode cX5_init 0 = .ok (.aload_n 0, 1) := by decide +kernel
theorem dX5_init_1 : decode cX5_init 1 = .ok (.invokespecial 1, 3) := by decide +kernel
theorem dX5_init_4 : decode cX5_init 4 = .ok (.aload_n 0, 1) := by decide +kernel
theorem dX5_init_5 : decode cX5_init 5 = .ok (.aload_n 1, 1) := by decide +kernel
theorem dX5_init_6 : decode cX5_init 6 = .ok (.putfield 7, 3) := by decide +kernel
theorem dX5_init_9 : decode cX5_init 9 = .ok (.return_, 1) := by decide +kernel
theorem dX6_firstBehind_0 : decode cX6_firstBehind 0 = .ok (.aconst_null, 1) := by decide +kernel
theorem dX6_firstBehind_1 : decode cX6_firstBehind 1 = .ok (.astore 4, 2) := by decide +kernel
theorem dX6_firstBehind_3 : decode cX6_firstBehind 3 = .ok (.iload_n 2, 1) := by decide +kernel
theorem dX6_firstBehind_4 : decode cX6_firstBehind 4 = .ok (.ifCond .eq 8, 3) := by decide +kernel
theorem dX6_firstBehind_12 : decode cX6_firstBehind 12 = .ok (.bipush 117, 2) := by decide +kernel
theorem dX6_firstBehind_14 : decode cX6_firstBehind 14 = .ok (.istore 5, 2) := by decide +kernel
theorem dX6_firstBehind_16 : decode cX6_firstBehind 16 = .ok (.iconst 0, 1) := by decide +kernel
theorem dX6_firstBehind_17 : decode cX6_firstBehind 17 = .ok (.istore 6, 2) := by decide +kernel
theorem dX6_firstBehind_19 : decode cX6_firstBehind 19 = .ok (.iload 6, 2) := by decide +kernel
theorem dX6_firstBehind_21 : decode cX6_firstBehind 21 = .ok (.aload_n 0, 1) := by decide +kernel
theorem dX6_firstBehind_22 : decode cX6_firstBehind 22 = .ok (.getfield 51, 3) := by decide +kernel
theorem dX6_firstBehind_25 : decode cX6_firstBehind 25 = .ok (.if_icmp .ge 82, 3) := by decide +kernel
theorem dX6_firstBehind_107 : decode cX6_firstBehind 107 = .ok (.aload 4, 2) := by decide +kernel
theorem dX6_firstBehind_109 : decode cX6_firstBehind 109 = .ok (.areturn, 1) := by decide +kernel
theorem dX6_wallAt_0 : decode cX6_wallAt 0 = .ok (.iload_n 1, 1) := by decide +kernel
theorem dX6_wallAt_1 : decode cX6_wallAt 1 = .ok (.ifCond .lt 17, 3) := by decide +kernel
theorem dX6_wallAt_4 : decode cX6_wallAt 4 = .ok (.iload_n 1, 1) := by decide +kernel
theorem dX6_wallAt_5 : decode cX6_wallAt 5 = .ok (.aload_n 0, 1) := by decide +kernel
theorem dX6_wallAt_6 : decode cX6_wallAt 6 = .ok (.getfield 44, 3) := by decide +kernel
theorem dX6_wallAt_9 : decode cX6_wallAt 9 = .ok (.if_icmp .ge 9, 3) := by decide +kernel
theorem dX6_wallAt_12 : decode cX6_wallAt 12 = .ok (.iload_n 1, 1) := by decide +kernel
theorem dX6_wallAt_13 : decode cX6_wallAt 13 = .ok (.bipush 6, 2) := by decide +kernel
theorem dX6_wallAt_15 : decode cX6_wallAt 15 = .ok (.if_icmp .lt 11, 3) := by decide +kernel
theorem dX6_wallAt_26 : decode cX6_wallAt 26 = .ok (.aload_n 0, 1) := by decide +kernel
theorem dX6_wallAt_27 : decode cX6_wallAt 27 = .ok (.getfield 11, 3) := by decide +kernel
theorem dX6_wallAt_30 : decode cX6_wallAt 30 = .ok (.iload_n 1, 1) := by decide +kernel
theorem dX6_wallAt_31 : decode cX6_wallAt 31 = .ok (.aaload, 1) := by decide +kernel
theorem dX6_wallAt_32 : decode cX6_wallAt 32 = .ok (.areturn, 1) := by decide +kernel
theorem dX9_first_0 : decode cX9_first 0 = .ok (.aload_n 0, 1) := by decide +kernel
theorem dX9_first_1 : decode cX9_first 1 = .ok (.getfield 15, 3) := by decide +kernel
theorem dX9_first_4 : decode cX9_first 4 = .ok (.iconst 0, 1) := by decide +kernel
theorem dX9_first_5 : decode cX9_first 5 = .ok (.aaload, 1) := by decide +kernel
theorem dX9_first_6 : decode cX9_first 6 = .ok (.areturn, 1) := by decide +kernel
theorem dJ0_length_8abf5_0 : decode cJ0_length_8abf5 0 = .ok (.aload_n 0, 1) := by decide +kernel
theorem dJ0_length_8abf5_1 : decode cJ0_length_8abf5 1 = .ok (.getfield 9, 3) := by decide +kernel
theorem dJ0_length_8abf5_4 : decode cJ0_length_8abf5 4 = .ok (.arraylength, 1) := by decide +kernel
theorem dJ0_length_8abf5_5 : decode cJ0_length_8abf5 5 = .ok (.aload_n 0, 1) := by decide +kernel
theorem dJ0_length_8abf5_6 : decode cJ0_length_8abf5 6 = .ok (.invokevirtual 335, 3) := by decide +kernel
theorem dJ0_length_8abf5_9 : decode cJ0_length_8abf5 9 = .ok (.ishr, 1) := by decide +kernel
theorem dJ0_length_8abf5_10 : decode cJ0_length_8abf5 10 = .ok (.ireturn, 1) := by decide +kernel
theorem dJ15_checkIndex_7cf53_0 : decode cJ15_checkIndex_7cf53 0 = .ok (.iload_n 0, 1) := by decide +kernel
theorem dJ15_checkIndex_7cf53_1 : decode cJ15_checkIndex_7cf53 1 = .ok (.iload_n 1, 1) := by decide +kernel
theorem dJ15_checkIndex_7cf53_2 : decode cJ15_checkIndex_7cf53 2 = .ok (.aconst_null, 1) := by decide +kernel
theorem dJ15_checkIndex_7cf53_3 : decode cJ15_checkIndex_7cf53 3 = .ok (.invokestatic 105, 3) := by decide +kernel
theorem dJ15_checkIndex_7cf53_6 : decode cJ15_checkIndex_7cf53 6 = .ok (.ireturn, 1) := by decide +kernel
theorem dJ1_indexOf_4cfef_0 : decode cJ1_indexOf_4cfef 0 = .ok (.iload_n 1, 1) := by decide +kernel
theorem dJ1_indexOf_4cfef_1 : decode cJ1_indexOf_4cfef 1 = .ok (.invokestatic 88, 3) := by decide +kernel
theorem dJ1_indexOf_4cfef_4 : decode cJ1_indexOf_4cfef 4 = .ok (.ifCond .ne 5, 3) := by decide +kernel
theorem dJ1_indexOf_4cfef_9 : decode cJ1_indexOf_4cfef 9 = .ok (.iload_n 2, 1) := by decide +kernel
theorem dJ1_indexOf_4cfef_10 : decode cJ1_indexOf_4cfef 10 = .ok (.iconst 0, 1) := by decide +kernel
theorem dJ1_indexOf_4cfef_11 : decode cJ1_indexOf_4cfef 11 = .ok (.invokestatic 92, 3) := by decide +kernel
theorem dJ1_indexOf_4cfef_14 : decode cJ1_indexOf_4cfef 14 = .ok (.istore_n 2, 1) := by decide +kernel
theorem dJ1_indexOf_4cfef_15 : decode cJ1_indexOf_4cfef 15 = .ok (.iload_n 3, 1) := by decide +kernel
theorem dJ1_indexOf_4cfef_16 : decode cJ1_indexOf_4cfef 16 = .ok (.aload_n 0, 1) := by decide +kernel
theorem dJ1_indexOf_4cfef_17 : decode cJ1_indexOf_4cfef 17 = .ok (.arraylength, 1) := by decide +kernel
theorem dJ1_indexOf_4cfef_18 : decode cJ1_indexOf_4cfef 18 = .ok (.invokestatic 38, 3) := by decide +kernel
theorem dJ1_indexOf_4cfef_21 : decode cJ1_indexOf_4cfef 21 = .ok (.istore_n 3, 1) := by decide +kernel
theorem dJ1_indexOf_4cfef_22 : decode cJ1_indexOf_4cfef 22 = .ok (.iload_n 2, 1) := by decide +kernel
theorem dJ1_indexOf_4cfef_23 : decode cJ1_indexOf_4cfef 23 = .ok (.iload_n 3, 1) := by decide +kernel
theorem dJ1_indexOf_4cfef_24 : decode cJ1_indexOf_4cfef 24 = .ok (.if_icmp .lt 5, 3) := by decide +kernel
theorem dJ1_indexOf_4cfef_29 : decode cJ1_indexOf_4cfef 29 = .ok (.aload_n 0, 1) := by decide +kernel
theorem dJ1_indexOf_4cfef_30 : decode cJ1_indexOf_4cfef 30 = .ok (.iload_n 1, 1) := by decide +kernel
theorem dJ1_indexOf_4cfef_31 : decode cJ1_indexOf_4cfef 31 = .ok (.iload_n 2, 1) := by decide +kernel
theorem dJ1_indexOf_4cfef_32 : decode cJ1_indexOf_4cfef 32 = .ok (.iload_n 3, 1) := by decide +kernel
theorem dJ1_indexOf_4cfef_33 : decode cJ1_indexOf_4cfef 33 = .ok (.invokestatic 95, 3) := by decide +kernel
theorem dJ1_indexOf_4cfef_36 : decode cJ1_indexOf_4cfef 36 = .ok (.ireturn, 1) := by decide +kernel
theorem dJx4a65c_grow_d5877_0 : decode cJx4a65c_grow_d5877 0 = .ok (.aload_n 0, 1) := by decide +kernel
theorem dJx4a65c_grow_d5877_1 : decode cJx4a65c_grow_d5877 1 = .ok (.aload_n 0, 1) := by decide +kernel
theorem dJx4a65c_grow_d5877_2 : decode cJx4a65c_grow_d5877 2 = .ok (.getfield 48, 3) := by decide +kernel
theorem dJx4a65c_grow_d5877_5 : decode cJx4a65c_grow_d5877 5 = .ok (.iconst 1, 1) := by decide +kernel
theorem dJx4a65c_grow_d5877_6 : decode cJx4a65c_grow_d5877 6 = .ok (.iadd, 1) := by decide +kernel
theorem dJx4a65c_grow_d5877_7 : decode cJx4a65c_grow_d5877 7 = .ok (.invokevirtual 69, 3) := by decide +kernel
theorem dJx4a65c_grow_d5877_10 : decode cJx4a65c_grow_d5877 10 = .ok (.areturn, 1) := by decide +kernel
theorem dJx4a65c_iterator_32c93_0 : decode cJx4a65c_iterator_32c93 0 = .ok (.new 267, 3) := by decide +kernel
theorem dJx4a65c_iterator_32c93_3 : decode cJx4a65c_iterator_32c93 3 = .ok (.dup, 1) := by decide +kernel
theorem dJx4a65c_iterator_32c93_4 : decode cJx4a65c_iterator_32c93 4 = .ok (.aload_n 0, 1) := by decide +kernel
theorem dJx4a65c_iterator_32c93_5 : decode cJx4a65c_iterator_32c93 5 = .ok (.invokespecial 269, 3) := by decide +kernel
theorem dJx4a65c_iterator_32c93_8 : decode cJx4a65c_iterator_32c93 8 = .ok (.areturn, 1) := by decide +kernel
theorem dJxc12de_init_da8c8_0 : decode cJxc12de_init_da8c8 0 = .ok (.aload_n 0, 1) := by decide +kernel
theorem dJxc12de_init_da8c8_1 : decode cJxc12de_init_da8c8 1 = .ok (.invokespecial 1, 3) := by decide +kernel
theorem dJxc12de_init_da8c8_4 : decode cJxc12de_init_da8c8 4 = .ok (.aload_n 0, 1) := by decide +kernel
theorem dJxc12de_init_da8c8_5 : decode cJxc12de_init_da8c8 5 = .ok (.iconst 0, 1) := by decide +kernel
theorem dJxc12de_init_da8c8_6 : decode cJxc12de_init_da8c8 6 = .ok (.putfield 7, 3) := by decide +kernel
theorem dJxc12de_init_da8c8_9 : decode cJxc12de_init_da8c8 9 = .ok (.return_, 1) := by decide +kernel
theorem dX21_noWall_0 : decode cX21_noWall 0 = .ok (.aload_n 0, 1) := by decide +kernel
theorem dX21_noWall_1 : decode cX21_noWall 1 = .ok (.iload_n 1, 1) := by decide +kernel
theorem dX21_noWall_2 : decode cX21_noWall 2 = .ok (.iconst 0, 1) := by decide +kernel
theorem dX21_noWall_3 : decode cX21_noWall 3 = .ok (.aload_n 0, 1) := by decide +kernel
theorem dX21_noWall_4 : decode cX21_noWall 4 = .ok (.getfield 10, 3) := by decide +kernel
theorem dX21_noWall_7 : decode cX21_noWall 7 = .ok (.invokevirtual 69, 3) := by decide +kernel
theorem dX21_noWall_10 : decode cX21_noWall 10 = .ok (.iconst 1, 1) := by decide +kernel
theorem dX21_noWall_11 : decode cX21_noWall 11 = .ok (.isub, 1) := by decide +kernel
theorem dX21_noWall_12 : decode cX21_noWall 12 = .ok (.invokestatic 65, 3) := by decide +kernel
theorem dX21_noWall_15 : decode cX21_noWall 15 = .ok (.ifCond .eq 7, 3) := by decide +kernel
theorem dX21_noWall_18 : decode cX21_noWall 18 = .ok (.iconst 0, 1) := by decide +kernel
theorem dX21_noWall_19 : decode cX21_noWall 19 = .ok (.goto 4, 3) := by decide +kernel
theorem dX21_noWall_23 : decode cX21_noWall 23 = .ok (.putfield 54, 3) := by decide +kernel
theorem dX21_noWall_26 : decode cX21_noWall 26 = .ok (.aload_n 0, 1) := by decide +kernel
theorem dX21_noWall_27 : decode cX21_noWall 27 = .ok (.getfield 54, 3) := by decide +kernel
theorem dX21_noWall_30 : decode cX21_noWall 30 = .ok (.ifCond .le 7, 3) := by decide +kernel
theorem dX21_noWall_37 : decode cX21_noWall 37 = .ok (.iconst 0, 1) := by decide +kernel
theorem dX21_noWall_38 : decode cX21_noWall 38 = .ok (.ireturn, 1) := by decide +kernel
theorem dX6_build_0 : decode cX6_build 0 = .ok (.aload_n 0, 1) := by decide +kernel
theorem dX6_build_1 : decode cX6_build 1 = .ok (.getfield 44, 3) := by decide +kernel
theorem dX6_build_4 : decode cX6_build 4 = .ok (.istore_n 3, 1) := by decide +kernel
theorem dX6_build_5 : decode cX6_build 5 = .ok (.aload_n 0, 1) := by decide +kernel
theorem dX6_build_6 : decode cX6_build 6 = .ok (.dup, 1) := by decide +kernel
theorem dX6_build_7 : decode cX6_build 7 = .ok (.getfield 44, 3) := by decide +kernel
theorem dX6_build_10 : decode cX6_build 10 = .ok (.iconst 1, 1) := by decide +kernel
theorem dX6_build_11 : decode cX6_build 11 = .ok (.iadd, 1) := by decide +kernel
theorem dX6_build_12 : decode cX6_build 12 = .ok (.putfield 44, 3) := by decide +kernel
theorem dX6_build_15 : decode cX6_build 15 = .ok (.aload_n 0, 1) := by decide +kernel
theorem dX6_build_16 : decode cX6_build 16 = .ok (.iload_n 3, 1) := by decide +kernel
theorem dX6_build_17 : decode cX6_build 17 = .ok (.invokevirtual 54, 3) := by decide +kernel
theorem dX6_build_20 : decode cX6_build 20 = .ok (.astore 4, 2) := by decide +kernel
theorem dX6_build_22 : decode cX6_build 22 = .ok (.aload 4, 2) := by decide +kernel
theorem dX6_build_24 : decode cX6_build 24 = .ok (.iload_n 1, 1) := by decide +kernel
theorem dX6_build_25 : decode cX6_build 25 = .ok (.putfield 58, 3) := by decide +kernel
theorem dX6_build_28 : decode cX6_build 28 = .ok (.aload 4, 2) := by decide +kernel
theorem dX6_build_30 : decode cX6_build 30 = .ok (.iload_n 2, 1) := by decide +kernel
theorem dX6_build_31 : decode cX6_build 31 = .ok (.putfield 62, 3) := by decide +kernel
theorem dX6_build_34 : decode cX6_build 34 = .ok (.aload 4, 2) := by decide +kernel
theorem dX6_build_36 : decode cX6_build 36 = .ok (.iload_n 2, 1) := by decide +kernel
theorem dX6_build_37 : decode cX6_build 37 = .ok (.putfield 65, 3) := by decide +kernel
theorem dX6_build_40 : decode cX6_build 40 = .ok (.iload_n 3, 1) := by decide +kernel
theorem dX6_build_41 : decode cX6_build 41 = .ok (.ireturn, 1) := by decide +kernel
theorem dX6_freeRows_0 : decode cX6_freeRows 0 = .ok (.aload_n 0, 1) := by decide +kernel
theorem dX6_freeRows_1 : decode cX6_freeRows 1 = .ok (.iload_n 1, 1) := by decide +kernel
theorem dX6_freeRows_2 : decode cX6_freeRows 2 = .ok (.invokevirtual 54, 3) := by decide +kernel
theorem dX6_freeRows_5 : decode cX6_freeRows 5 = .ok (.getfield 65, 3) := by decide +kernel
theorem dX6_freeRows_8 : decode cX6_freeRows 8 = .ok (.istore 4, 2) := by decide +kernel
theorem dX6_freeRows_10 : decode cX6_freeRows 10 = .ok (.iconst 0, 1) := by decide +kernel
theorem dX6_freeRows_11 : decode cX6_freeRows 11 = .ok (.istore 5, 2) := by decide +kernel
theorem dX6_freeRows_13 : decode cX6_freeRows 13 = .ok (.iconst 0, 1) := by decide +kernel
theorem dX6_freeRows_14 : decode cX6_freeRows 14 = .ok (.istore 6, 2) := by decide +kernel
theorem dX6_freeRows_16 : decode cX6_freeRows 16 = .ok (.iconst 0, 1) := by decide +kernel
theorem dX6_freeRows_17 : decode cX6_freeRows 17 = .ok (.istore 7, 2) := by decide +kernel
theorem dX6_freeRows_19 : decode cX6_freeRows 19 = .ok (.iconst 0, 1) := by decide +kernel
theorem dX6_freeRows_20 : decode cX6_freeRows 20 = .ok (.istore 8, 2) := by decide +kernel
theorem dX6_freeRows_22 : decode cX6_freeRows 22 = .ok (.iload 8, 2) := by decide +kernel
theorem dX6_freeRows_24 : decode cX6_freeRows 24 = .ok (.aload_n 0, 1) := by decide +kernel
theorem dX6_freeRows_25 : decode cX6_freeRows 25 = .ok (.getfield 51, 3) := by decide +kernel
theorem dX6_freeRows_28 : decode cX6_freeRows 28 = .ok (.if_icmp .gt 70, 3) := by decide +kernel
theorem dX6_freeRows_31 : decode cX6_freeRows 31 = .ok (.aload_n 0, 1) := by decide +kernel
theorem dX6_freeRows_32 : decode cX6_freeRows 32 = .ok (.iload_n 1, 1) := by decide +kernel
theorem dX6_freeRows_33 : decode cX6_freeRows 33 = .ok (.iload_n 2, 1) := by decide +kernel
theorem dX6_freeRows_34 : decode cX6_freeRows 34 = .ok (.iload 7, 2) := by decide +kernel
theorem dX6_freeRows_36 : decode cX6_freeRows 36 = .ok (.invokevirtual 188, 3) := by decide +kernel
theorem dX6_freeRows_39 : decode cX6_freeRows 39 = .ok (.astore 9, 2) := by decide +kernel
theorem dX6_freeRows_41 : decode cX6_freeRows 41 = .ok (.aload 9, 2) := by decide +kernel
theorem dX6_freeRows_43 : decode cX6_freeRows 43 = .ok (.ifnonnull 8, 3) := by decide +kernel
theorem dX6_freeRows_46 : decode cX6_freeRows 46 = .ok (.iload 4, 2) := by decide +kernel
theorem dX6_freeRows_48 : decode cX6_freeRows 48 = .ok (.goto 8, 3) := by decide +kernel
theorem dX6_freeRows_56 : decode cX6_freeRows 56 = .ok (.iload 7, 2) := by decide +kernel
theorem dX6_freeRows_58 : decode cX6_freeRows 58 = .ok (.isub, 1) := by decide +kernel
theorem dX6_freeRows_59 : decode cX6_freeRows 59 = .ok (.istore 10, 2) := by decide +kernel
theorem dX6_freeRows_61 : decode cX6_freeRows 61 = .ok (.iload 5, 2) := by decide +kernel
theorem dX6_freeRows_63 : decode cX6_freeRows 63 = .ok (.iload 10, 2) := by decide +kernel
theorem dX6_freeRows_65 : decode cX6_freeRows 65 = .ok (.iadd, 1) := by decide +kernel
theorem dX6_freeRows_66 : decode cX6_freeRows 66 = .ok (.istore 5, 2) := by decide +kernel
theorem dX6_freeRows_68 : decode cX6_freeRows 68 = .ok (.iload 6, 2) := by decide +kernel
theorem dX6_freeRows_70 : decode cX6_freeRows 70 = .ok (.iload 10, 2) := by decide +kernel
theorem dX6_freeRows_72 : decode cX6_freeRows 72 = .ok (.invokestatic 81, 3) := by decide +kernel
theorem dX6_freeRows_75 : decode cX6_freeRows 75 = .ok (.istore 6, 2) := by decide +kernel
theorem dX6_freeRows_77 : decode cX6_freeRows 77 = .ok (.aload 9, 2) := by decide +kernel
theorem dX6_freeRows_79 : decode cX6_freeRows 79 = .ok (.ifnonnull 6, 3) := by decide +kernel
theorem dX6_freeRows_82 : decode cX6_freeRows 82 = .ok (.goto 16, 3) := by decide +kernel
theorem dX6_freeRows_98 : decode cX6_freeRows 98 = .ok (.iload_n 3, 1) := by decide +kernel
theorem dX6_freeRows_99 : decode cX6_freeRows 99 = .ok (.ifCond .eq 8, 3) := by decide +kernel
theorem dX6_freeRows_107 : decode cX6_freeRows 107 = .ok (.iload 5, 2) := by decide +kernel
theorem dX6_freeRows_109 : decode cX6_freeRows 109 = .ok (.ireturn, 1) := by decide +kernel
theorem dX6_init_0 : decode cX6_init 0 = .ok (.aload_n 0, 1) := by decide +kernel
theorem dX6_init_1 : decode cX6_init 1 = .ok (.invokespecial 1, 3) := by decide +kernel
theorem dX6_init_4 : decode cX6_init 4 = .ok (.aload_n 0, 1) := by decide +kernel
theorem dX6_init_5 : decode cX6_init 5 = .ok (.bipush 6, 2) := by decide +kernel
theorem dX6_init_7 : decode cX6_init 7 = .ok (.anewarray 9, 3) := by decide +kernel
theorem dX6_init_10 : decode cX6_init 10 = .ok (.putfield 11, 3) := by decide +kernel
theorem dX6_init_13 : decode cX6_init 13 = .ok (.aload_n 0, 1) := by decide +kernel
theorem dX6_init_14 : decode cX6_init 14 = .ok (.bipush 8, 2) := by decide +kernel
theorem dX6_init_16 : decode cX6_init 16 = .ok (.anewarray 15, 3) := by decide +kernel
theorem dX6_init_19 : decode cX6_init 19 = .ok (.putfield 17, 3) := by decide +kernel
theorem dX6_init_22 : decode cX6_init 22 = .ok (.aload_n 0, 1) := by decide +kernel
theorem dX6_init_23 : decode cX6_init 23 = .ok (.bipush 16, 2) := by decide +kernel
theorem dX6_init_25 : decode cX6_init 25 = .ok (.anewarray 21, 3) := by decide +kernel
theorem dX6_init_28 : decode cX6_init 28 = .ok (.putfield 23, 3) := by decide +kernel
theorem dX6_init_31 : decode cX6_init 31 = .ok (.aload_n 0, 1) := by decide +kernel
theorem dX6_init_32 : decode cX6_init 32 = .ok (.iconst 2, 1) := by decide +kernel
theorem dX6_init_33 : decode cX6_init 33 = .ok (.newarray .char, 2) := by decide +kernel
theorem dX6_init_35 : decode cX6_init 35 = .ok (.putfield 27, 3) := by decide +kernel
theorem dX6_init_38 : decode cX6_init 38 = .ok (.aload_n 0, 1) := by decide +kernel
theorem dX6_init_39 : decode cX6_init 39 = .ok (.iconst 2, 1) := by decide +kernel
theorem dX6_init_40 : decode cX6_init 40 = .ok (.newarray .int, 2) := by decide +kernel
theorem dX6_init_42 : decode cX6_init 42 = .ok (.putfield 31, 3) := by decide +kernel
theorem dX6_init_45 : decode cX6_init 45 = .ok (.iconst 0, 1) := by decide +kernel
theorem dX6_init_46 : decode cX6_init 46 = .ok (.istore_n 2, 1) := by decide +kernel
theorem dX6_init_47 : decode cX6_init 47 = .ok (.iload_n 2, 1) := by decide +kernel
theorem dX6_init_48 : decode cX6_init 48 = .ok (.bipush 6, 2) := by decide +kernel
theorem dX6_init_50 : decode cX6_init 50 = .ok (.if_icmp .ge 22, 3) := by decide +kernel
theorem dX6_init_53 : decode cX6_init 53 = .ok (.aload_n 0, 1) := by decide +kernel
theorem dX6_init_54 : decode cX6_init 54 = .ok (.getfield 11, 3) := by decide +kernel
theorem dX6_init_57 : decode cX6_init 57 = .ok (.iload_n 2, 1) := by decide +kernel
theorem dX6_init_58 : decode cX6_init 58 = .ok (.new 9, 3) := by decide +kernel
theorem dX6_init_61 : decode cX6_init 61 = .ok (.dup, 1) := by decide +kernel
theorem dX6_init_62 : decode cX6_init 62 = .ok (.invokespecial 35, 3) := by decide +kernel
theorem dX6_init_65 : decode cX6_init 65 = .ok (.aastore, 1) := by decide +kernel
theorem dX6_init_66 : decode cX6_init 66 = .ok (.iinc 2 1, 3) := by decide +kernel
theorem dX6_init_69 : decode cX6_init 69 = .ok (.goto (-22), 3) := by decide +kernel
theorem dX6_init_72 : decode cX6_init 72 = .ok (.iconst 0, 1) := by decide +kernel
theorem dX6_init_73 : decode cX6_init 73 = .ok (.istore_n 2, 1) := by decide +kernel
theorem dX6_init_74 : decode cX6_init 74 = .ok (.iload_n 2, 1) := by decide +kernel
theorem dX6_init_75 : decode cX6_init 75 = .ok (.bipush 8, 2) := by decide +kernel
theorem dX6_init_77 : decode cX6_init 77 = .ok (.if_icmp .ge 22, 3) := by decide +kernel
theorem dX6_init_80 : decode cX6_init 80 = .ok (.aload_n 0, 1) := by decide +kernel
theorem dX6_init_81 : decode cX6_init 81 = .ok (.getfield 17, 3) := by decide +kernel
theorem dX6_init_84 : decode cX6_init 84 = .ok (.iload_n 2, 1) := by decide +kernel
theorem dX6_init_85 : decode cX6_init 85 = .ok (.new 15, 3) := by decide +kernel
theorem dX6_init_88 : decode cX6_init 88 = .ok (.dup, 1) := by decide +kernel
theorem dX6_init_89 : decode cX6_init 89 = .ok (.invokespecial 36, 3) := by decide +kernel
theorem dX6_init_92 : decode cX6_init 92 = .ok (.aastore, 1) := by decide +kernel
theorem dX6_init_93 : decode cX6_init 93 = .ok (.iinc 2 1, 3) := by decide +kernel
theorem dX6_init_96 : decode cX6_init 96 = .ok (.goto (-22), 3) := by decide +kernel
theorem dX6_init_99 : decode cX6_init 99 = .ok (.iconst 0, 1) := by decide +kernel
theorem dX6_init_100 : decode cX6_init 100 = .ok (.istore_n 2, 1) := by decide +kernel
theorem dX6_init_101 : decode cX6_init 101 = .ok (.iload_n 2, 1) := by decide +kernel
theorem dX6_init_102 : decode cX6_init 102 = .ok (.bipush 16, 2) := by decide +kernel
theorem dX6_init_104 : decode cX6_init 104 = .ok (.if_icmp .ge 23, 3) := by decide +kernel
theorem dX6_init_107 : decode cX6_init 107 = .ok (.aload_n 0, 1) := by decide +kernel
theorem dX6_init_108 : decode cX6_init 108 = .ok (.getfield 23, 3) := by decide +kernel
theorem dX6_init_111 : decode cX6_init 111 = .ok (.iload_n 2, 1) := by decide +kernel
theorem dX6_init_112 : decode cX6_init 112 = .ok (.new 21, 3) := by decide +kernel
theorem dX6_init_115 : decode cX6_init 115 = .ok (.dup, 1) := by decide +kernel
theorem dX6_init_116 : decode cX6_init 116 = .ok (.aload_n 1, 1) := by decide +kernel
theorem dX6_init_117 : decode cX6_init 117 = .ok (.invokespecial 37, 3) := by decide +kernel
theorem dX6_init_120 : decode cX6_init 120 = .ok (.aastore, 1) := by decide +kernel
theorem dX6_init_121 : decode cX6_init 121 = .ok (.iinc 2 1, 3) := by decide +kernel
theorem dX6_init_124 : decode cX6_init 124 = .ok (.goto (-23), 3) := by decide +kernel
theorem dX6_init_127 : decode cX6_init 127 = .ok (.aload_n 0, 1) := by decide +kernel
theorem dX6_init_128 : decode cX6_init 128 = .ok (.new 21, 3) := by decide +kernel
theorem dX6_init_131 : decode cX6_init 131 = .ok (.dup, 1) := by decide +kernel
theorem dX6_init_132 : decode cX6_init 132 = .ok (.aload_n 1, 1) := by decide +kernel
theorem dX6_init_133 : decode cX6_init 133 = .ok (.invokespecial 37, 3) := by decide +kernel
theorem dX6_init_136 : decode cX6_init 136 = .ok (.putfield 40, 3) := by decide +kernel
theorem dX6_init_139 : decode cX6_init 139 = .ok (.return_, 1) := by decide +kernel
theorem dX7_init_0 : decode cX7_init 0 = .ok (.aload_n 0, 1) := by decide +kernel
theorem dX7_init_1 : decode cX7_init 1 = .ok (.invokespecial 3, 3) := by decide +kernel
theorem dX7_init_4 : decode cX7_init 4 = .ok (.aload_n 0, 1) := by decide +kernel
theorem dX7_init_5 : decode cX7_init 5 = .ok (.bipush 25, 2) := by decide +kernel
theorem dX7_init_7 : decode cX7_init 7 = .ok (.newarray .int, 2) := by decide +kernel
theorem dX7_init_9 : decode cX7_init 9 = .ok (.putfield 9, 3) := by decide +kernel
theorem dX7_init_12 : decode cX7_init 12 = .ok (.aload_n 0, 1) := by decide +kernel
theorem dX7_init_13 : decode cX7_init 13 = .ok (.bipush 25, 2) := by decide +kernel
theorem dX7_init_15 : decode cX7_init 15 = .ok (.newarray .int, 2) := by decide +kernel
theorem dX7_init_17 : decode cX7_init 17 = .ok (.putfield 15, 3) := by decide +kernel
theorem dX7_init_20 : decode cX7_init 20 = .ok (.aload_n 0, 1) := by decide +kernel
theorem dX7_init_21 : decode cX7_init 21 = .ok (.bipush 25, 2) := by decide +kernel
theorem dX7_init_23 : decode cX7_init 23 = .ok (.newarray .int, 2) := by decide +kernel
theorem dX7_init_25 : decode cX7_init 25 = .ok (.putfield 18, 3) := by decide +kernel
theorem dX7_init_28 : decode cX7_init 28 = .ok (.aload_n 0, 1) := by decide +kernel
theorem dX7_init_29 : decode cX7_init 29 = .ok (.bipush 25, 2) := by decide +kernel
theorem dX7_init_31 : decode cX7_init 31 = .ok (.newarray .int, 2) := by decide +kernel
theorem dX7_init_33 : decode cX7_init 33 = .ok (.putfield 21, 3) := by decide +kernel
theorem dX7_init_36 : decode cX7_init 36 = .ok (.aload_n 0, 1) := by decide +kernel
theorem dX7_init_37 : decode cX7_init 37 = .ok (.bipush 25, 2) := by decide +kernel
theorem dX7_init_39 : decode cX7_init 39 = .ok (.newarray .int, 2) := by decide +kernel
theorem dX7_init_41 : decode cX7_init 41 = .ok (.putfield 24, 3) := by decide +kernel
theorem dX7_init_44 : decode cX7_init 44 = .ok (.aload_n 0, 1) := by decide +kernel
theorem dX7_init_45 : decode cX7_init 45 = .ok (.bipush 25, 2) := by decide +kernel
theorem dX7_init_47 : decode cX7_init 47 = .ok (.newarray .int, 2) := by decide +kernel
theorem dX7_init_49 : decode cX7_init 49 = .ok (.putfield 27, 3) := by decide +kernel
theorem dX7_init_52 : decode cX7_init 52 = .ok (.aload_n 0, 1) := by decide +kernel
theorem dX7_init_53 : decode cX7_init 53 = .ok (.bipush 50, 2) := by decide +kernel
theorem dX7_init_55 : decode cX7_init 55 = .ok (.anewarray 30, 3) := by decide +kernel
theorem dX7_init_58 : decode cX7_init 58 = .ok (.putfield 32, 3) := by decide +kernel
theorem dX7_init_61 : decode cX7_init 61 = .ok (.aload_n 0, 1) := by decide +kernel
theorem dX7_init_62 : decode cX7_init 62 = .ok (.aload_n 1, 1) := by decide +kernel
theorem dX7_init_63 : decode cX7_init 63 = .ok (.putfield 36, 3) := by decide +kernel
theorem dX7_init_66 : decode cX7_init 66 = .ok (.iconst 0, 1) := by decide +kernel
theorem dX7_init_67 : decode cX7_init 67 = .ok (.istore_n 2, 1) := by decide +kernel
theorem dX7_init_68 : decode cX7_init 68 = .ok (.iload_n 2, 1) := by decide +kernel
theorem dX7_init_69 : decode cX7_init 69 = .ok (.bipush 50, 2) := by decide +kernel
theorem dX7_init_71 : decode cX7_init 71 = .ok (.if_icmp .ge 22, 3) := by decide +kernel
theorem dX7_init_74 : decode cX7_init 74 = .ok (.aload_n 0, 1) := by decide +kernel
theorem dX7_init_75 : decode cX7_init 75 = .ok (.getfield 32, 3) := by decide +kernel
theorem dX7_init_78 : decode cX7_init 78 = .ok (.iload_n 2, 1) := by decide +kernel
theorem dX7_init_79 : decode cX7_init 79 = .ok (.new 30, 3) := by decide +kernel
theorem dX7_init_82 : decode cX7_init 82 = .ok (.dup, 1) := by decide +kernel
theorem dX7_init_83 : decode cX7_init 83 = .ok (.invokespecial 40, 3) := by decide +kernel
theorem dX7_init_86 : decode cX7_init 86 = .ok (.aastore, 1) := by decide +kernel
theorem dX7_init_87 : decode cX7_init 87 = .ok (.iinc 2 1, 3) := by decide +kernel
theorem dX7_init_90 : decode cX7_init 90 = .ok (.goto (-22), 3) := by decide +kernel
theorem dX7_init_93 : decode cX7_init 93 = .ok (.return_, 1) := by decide +kernel
theorem dX8_init_0 : decode cX8_init 0 = .ok (.aload_n 0, 1) := by decide +kernel
theorem dX8_init_1 : decode cX8_init 1 = .ok (.invokespecial 1, 3) := by decide +kernel
theorem dX8_init_4 : decode cX8_init 4 = .ok (.aload_n 0, 1) := by decide +kernel
theorem dX8_init_5 : decode cX8_init 5 = .ok (.bipush 60, 2) := by decide +kernel
theorem dX8_init_7 : decode cX8_init 7 = .ok (.anewarray 9, 3) := by decide +kernel
theorem dX8_init_10 : decode cX8_init 10 = .ok (.putfield 11, 3) := by decide +kernel
theorem dX8_init_13 : decode cX8_init 13 = .ok (.iconst 0, 1) := by decide +kernel
theorem dX8_init_14 : decode cX8_init 14 = .ok (.istore_n 1, 1) := by decide +kernel
theorem dX8_init_15 : decode cX8_init 15 = .ok (.iload_n 1, 1) := by decide +kernel
theorem dX8_init_16 : decode cX8_init 16 = .ok (.bipush 60, 2) := by decide +kernel
theorem dX8_init_18 : decode cX8_init 18 = .ok (.if_icmp .ge 22, 3) := by decide +kernel
end
section
theorem dX8_init_21 : decode cX8_init 21 = .ok (.aload_n 0, 1) := by decide +kernel
theorem dX8_init_22 : decode cX8_init 22 = .ok (.getfield 11, 3) := by decide +kernel
theorem dX8_init_25 : decode cX8_init 25 = .ok (.iload_n 1, 1) := by decide +kernel
theorem dX8_init_26 : decode cX8_init 26 = .ok (.new 9, 3) := by decide +kernel
theorem dX8_init_29 : decode cX8_init 29 = .ok (.dup, 1) := by decide +kernel
theorem dX8_init_30 : decode cX8_init 30 = .ok (.invokespecial 15, 3) := by decide +kernel
theorem dX8_init_33 : decode cX8_init 33 = .ok (.aastore, 1) := by decide +kernel
theorem dX8_init_34 : decode cX8_init 34 = .ok (.iinc 1 1, 3) := by decide +kernel
theorem dX8_init_37 : decode cX8_init 37 = .ok (.goto (-22), 3) := by decide +kernel
theorem dX8_init_40 : decode cX8_init 40 = .ok (.return_, 1) := by decide +kernel
theorem dX9_init_0 : decode cX9_init 0 = .ok (.aload_n 0, 1) := by decide +kernel
theorem dX9_init_1 : decode cX9_init 1 = .ok (.invokespecial 1, 3) := by decide +kernel
theorem dX9_init_4 : decode cX9_init 4 = .ok (.aload_n 0, 1) := by decide +kernel
theorem dX9_init_5 : decode cX9_init 5 = .ok (.bipush 30, 2) := by decide +kernel
theorem dX9_init_7 : decode cX9_init 7 = .ok (.newarray .char, 2) := by decide +kernel
theorem dX9_init_9 : decode cX9_init 9 = .ok (.putfield 9, 3) := by decide +kernel
theorem dX9_init_12 : decode cX9_init 12 = .ok (.aload_n 0, 1) := by decide +kernel
theorem dX9_init_13 : decode cX9_init 13 = .ok (.bipush 8, 2) := by decide +kernel
theorem dX9_init_15 : decode cX9_init 15 = .ok (.anewarray 13, 3) := by decide +kernel
theorem dX9_init_18 : decode cX9_init 18 = .ok (.putfield 15, 3) := by decide +kernel
theorem dX9_init_21 : decode cX9_init 21 = .ok (.aload_n 0, 1) := by decide +kernel
theorem dX9_init_22 : decode cX9_init 22 = .ok (.new 13, 3) := by decide +kernel
theorem dX9_init_25 : decode cX9_init 25 = .ok (.dup, 1) := by decide +kernel
theorem dX9_init_26 : decode cX9_init 26 = .ok (.invokespecial 19, 3) := by decide +kernel
theorem dX9_init_29 : decode cX9_init 29 = .ok (.putfield 20, 3) := by decide +kernel
theorem dX9_init_32 : decode cX9_init 32 = .ok (.iconst 0, 1) := by decide +kernel
theorem dX9_init_33 : decode cX9_init 33 = .ok (.istore_n 1, 1) := by decide +kernel
theorem dX9_init_34 : decode cX9_init 34 = .ok (.iload_n 1, 1) := by decide +kernel
theorem dX9_init_35 : decode cX9_init 35 = .ok (.bipush 8, 2) := by decide +kernel
theorem dX9_init_37 : decode cX9_init 37 = .ok (.if_icmp .ge 22, 3) := by decide +kernel
theorem dX9_init_40 : decode cX9_init 40 = .ok (.aload_n 0, 1) := by decide +kernel
theorem dX9_init_41 : decode cX9_init 41 = .ok (.getfield 15, 3) := by decide +kernel
theorem dX9_init_44 : decode cX9_init 44 = .ok (.iload_n 1, 1) := by decide +kernel
theorem dX9_init_45 : decode cX9_init 45 = .ok (.new 13, 3) := by decide +kernel
theorem dX9_init_48 : decode cX9_init 48 = .ok (.dup, 1) := by decide +kernel
theorem dX9_init_49 : decode cX9_init 49 = .ok (.invokespecial 19, 3) := by decide +kernel
theorem dX9_init_52 : decode cX9_init 52 = .ok (.aastore, 1) := by decide +kernel
theorem dX9_init_53 : decode cX9_init 53 = .ok (.iinc 1 1, 3) := by decide +kernel
theorem dX9_init_56 : decode cX9_init 56 = .ok (.goto (-22), 3) := by decide +kernel
theorem dX9_init_59 : decode cX9_init 59 = .ok (.return_, 1) := by decide +kernel
theorem dJ0_indexOf_7cf53_0 : decode cJ0_indexOf_7cf53 0 = .ok (.aload_n 0, 1) := by decide +kernel
theorem dJ0_indexOf_7cf53_1 : decode cJ0_indexOf_7cf53 1 = .ok (.invokevirtual 492, 3) := by decide +kernel
theorem dJ0_indexOf_7cf53_4 : decode cJ0_indexOf_7cf53 4 = .ok (.ifCond .eq 19, 3) := by decide +kernel
theorem dJ0_indexOf_7cf53_7 : decode cJ0_indexOf_7cf53 7 = .ok (.aload_n 0, 1) := by decide +kernel
theorem dJ0_indexOf_7cf53_8 : decode cJ0_indexOf_7cf53 8 = .ok (.getfield 9, 3) := by decide +kernel
theorem dJ0_indexOf_7cf53_11 : decode cJ0_indexOf_7cf53 11 = .ok (.iload_n 1, 1) := by decide +kernel
theorem dJ0_indexOf_7cf53_12 : decode cJ0_indexOf_7cf53 12 = .ok (.iload_n 2, 1) := by decide +kernel
theorem dJ0_indexOf_7cf53_13 : decode cJ0_indexOf_7cf53 13 = .ok (.aload_n 0, 1) := by decide +kernel
theorem dJ0_indexOf_7cf53_14 : decode cJ0_indexOf_7cf53 14 = .ok (.invokevirtual 505, 3) := by decide +kernel
theorem dJ0_indexOf_7cf53_17 : decode cJ0_indexOf_7cf53 17 = .ok (.invokestatic 637, 3) := by decide +kernel
theorem dJ0_indexOf_7cf53_20 : decode cJ0_indexOf_7cf53 20 = .ok (.goto 16, 3) := by decide +kernel
theorem dJ0_indexOf_7cf53_36 : decode cJ0_indexOf_7cf53 36 = .ok (.ireturn, 1) := by decide +kernel
theorem dJx4a65c_add_72be8_0 : decode cJx4a65c_add_72be8 0 = .ok (.iload_n 3, 1) := by decide +kernel
theorem dJx4a65c_add_72be8_1 : decode cJx4a65c_add_72be8 1 = .ok (.aload_n 2, 1) := by decide +kernel
theorem dJx4a65c_add_72be8_2 : decode cJx4a65c_add_72be8 2 = .ok (.arraylength, 1) := by decide +kernel
theorem dJx4a65c_add_72be8_3 : decode cJx4a65c_add_72be8 3 = .ok (.if_icmp .ne 8, 3) := by decide +kernel
theorem dJx4a65c_add_72be8_6 : decode cJx4a65c_add_72be8 6 = .ok (.aload_n 0, 1) := by decide +kernel
theorem dJx4a65c_add_72be8_7 : decode cJx4a65c_add_72be8 7 = .ok (.invokevirtual 129, 3) := by decide +kernel
theorem dJx4a65c_add_72be8_10 : decode cJx4a65c_add_72be8 10 = .ok (.astore_n 2, 1) := by decide +kernel
theorem dJx4a65c_add_72be8_11 : decode cJx4a65c_add_72be8 11 = .ok (.aload_n 2, 1) := by decide +kernel
theorem dJx4a65c_add_72be8_12 : decode cJx4a65c_add_72be8 12 = .ok (.iload_n 3, 1) := by decide +kernel
theorem dJx4a65c_add_72be8_13 : decode cJx4a65c_add_72be8 13 = .ok (.aload_n 1, 1) := by decide +kernel
theorem dJx4a65c_add_72be8_14 : decode cJx4a65c_add_72be8 14 = .ok (.aastore, 1) := by decide +kernel
theorem dJx4a65c_add_72be8_15 : decode cJx4a65c_add_72be8 15 = .ok (.aload_n 0, 1) := by decide +kernel
theorem dJx4a65c_add_72be8_16 : decode cJx4a65c_add_72be8 16 = .ok (.iload_n 3, 1) := by decide +kernel
theorem dJx4a65c_add_72be8_17 : decode cJx4a65c_add_72be8 17 = .ok (.iconst 1, 1) := by decide +kernel
theorem dJx4a65c_add_72be8_18 : decode cJx4a65c_add_72be8 18 = .ok (.iadd, 1) := by decide +kernel
theorem dJx4a65c_add_72be8_19 : decode cJx4a65c_add_72be8 19 = .ok (.putfield 48, 3) := by decide +kernel
theorem dJx4a65c_add_72be8_22 : decode cJx4a65c_add_72be8 22 = .ok (.return_, 1) := by decide +kernel
theorem dJx4a65c_get_915e3_0 : decode cJx4a65c_get_915e3 0 = .ok (.iload_n 1, 1) := by decide +kernel
theorem dJx4a65c_get_915e3_1 : decode cJx4a65c_get_915e3 1 = .ok (.aload_n 0, 1) := by decide +kernel
theorem dJx4a65c_get_915e3_2 : decode cJx4a65c_get_915e3 2 = .ok (.getfield 48, 3) := by decide +kernel
theorem dJx4a65c_get_915e3_5 : decode cJx4a65c_get_915e3 5 = .ok (.invokestatic 118, 3) := by decide +kernel
theorem dJx4a65c_get_915e3_8 : decode cJx4a65c_get_915e3 8 = .ok (.pop, 1) := by decide +kernel
theorem dJx4a65c_get_915e3_9 : decode cJx4a65c_get_915e3 9 = .ok (.aload_n 0, 1) := by decide +kernel
theorem dJx4a65c_get_915e3_10 : decode cJx4a65c_get_915e3 10 = .ok (.iload_n 1, 1) := by decide +kernel
theorem dJx4a65c_get_915e3_11 : decode cJx4a65c_get_915e3 11 = .ok (.invokevirtual 123, 3) := by decide +kernel
theorem dJx4a65c_get_915e3_14 : decode cJx4a65c_get_915e3 14 = .ok (.areturn, 1) := by decide +kernel
theorem dJx4a65c_init_da8c8_0 : decode cJx4a65c_init_da8c8 0 = .ok (.aload_n 0, 1) := by decide +kernel
theorem dJx4a65c_init_da8c8_1 : decode cJx4a65c_init_da8c8 1 = .ok (.invokespecial 1, 3) := by decide +kernel
theorem dJx4a65c_init_da8c8_4 : decode cJx4a65c_init_da8c8 4 = .ok (.aload_n 0, 1) := by decide +kernel
theorem dJx4a65c_init_da8c8_5 : decode cJx4a65c_init_da8c8 5 = .ok (.getstatic 39, 3) := by decide +kernel
theorem dJx4a65c_init_da8c8_8 : decode cJx4a65c_init_da8c8 8 = .ok (.putfield 9, 3) := by decide +kernel
theorem dJx4a65c_init_da8c8_11 : decode cJx4a65c_init_da8c8 11 = .ok (.return_, 1) := by decide +kernel
theorem dX11_addWall_0 : decode cX11_addWall 0 = .ok (.iload_n 1, 1) := by decide +kernel
theorem dX11_addWall_1 : decode cX11_addWall 1 = .ok (.bipush 101, 2) := by decide +kernel
theorem dX11_addWall_3 : decode cX11_addWall 3 = .ok (.if_icmp .eq 21, 3) := by decide +kernel
theorem dX11_addWall_24 : decode cX11_addWall 24 = .ok (.iconst 1, 1) := by decide +kernel
theorem dX11_addWall_25 : decode cX11_addWall 25 = .ok (.goto 4, 3) := by decide +kernel
theorem dX11_addWall_29 : decode cX11_addWall 29 = .ok (.istore_n 3, 1) := by decide +kernel
theorem dX11_addWall_30 : decode cX11_addWall 30 = .ok (.iload_n 3, 1) := by decide +kernel
theorem dX11_addWall_31 : decode cX11_addWall 31 = .ok (.ifCond .eq 16, 3) := by decide +kernel
theorem dX11_addWall_34 : decode cX11_addWall 34 = .ok (.iload_n 2, 1) := by decide +kernel
theorem dX11_addWall_35 : decode cX11_addWall 35 = .ok (.sipush 500, 3) := by decide +kernel
theorem dX11_addWall_38 : decode cX11_addWall 38 = .ok (.sipush 9999, 3) := by decide +kernel
theorem dX11_addWall_41 : decode cX11_addWall 41 = .ok (.invokestatic 63, 3) := by decide +kernel
theorem dX11_addWall_44 : decode cX11_addWall 44 = .ok (.ifCond .eq 11, 3) := by decide +kernel
theorem dX11_addWall_55 : decode cX11_addWall 55 = .ok (.aload_n 0, 1) := by decide +kernel
theorem dX11_addWall_56 : decode cX11_addWall 56 = .ok (.getfield 25, 3) := by decide +kernel
theorem dX11_addWall_59 : decode cX11_addWall 59 = .ok (.getfield 70, 3) := by decide +kernel
theorem dX11_addWall_62 : decode cX11_addWall 62 = .ok (.bipush 6, 2) := by decide +kernel
theorem dX11_addWall_64 : decode cX11_addWall 64 = .ok (.if_icmp .ge 13, 3) := by decide +kernel
theorem dX11_addWall_67 : decode cX11_addWall 67 = .ok (.aload_n 0, 1) := by decide +kernel
theorem dX11_addWall_68 : decode cX11_addWall 68 = .ok (.getfield 25, 3) := by decide +kernel
theorem dX11_addWall_71 : decode cX11_addWall 71 = .ok (.getfield 74, 3) := by decide +kernel
theorem dX11_addWall_74 : decode cX11_addWall 74 = .ok (.ifCond .le 11, 3) := by decide +kernel
theorem dX11_addWall_85 : decode cX11_addWall 85 = .ok (.aload_n 0, 1) := by decide +kernel
theorem dX11_addWall_86 : decode cX11_addWall 86 = .ok (.getfield 25, 3) := by decide +kernel
theorem dX11_addWall_89 : decode cX11_addWall 89 = .ok (.iload_n 1, 1) := by decide +kernel
theorem dX11_addWall_90 : decode cX11_addWall 90 = .ok (.iload_n 2, 1) := by decide +kernel
theorem dX11_addWall_91 : decode cX11_addWall 91 = .ok (.invokevirtual 80, 3) := by decide +kernel
theorem dX11_addWall_94 : decode cX11_addWall 94 = .ok (.ireturn, 1) := by decide +kernel
theorem dX11_free_0 : decode cX11_free 0 = .ok (.aload_n 0, 1) := by decide +kernel
theorem dX11_free_1 : decode cX11_free 1 = .ok (.getfield 25, 3) := by decide +kernel
theorem dX11_free_4 : decode cX11_free 4 = .ok (.iload_n 1, 1) := by decide +kernel
theorem dX11_free_5 : decode cX11_free 5 = .ok (.iload_n 2, 1) := by decide +kernel
theorem dX11_free_6 : decode cX11_free 6 = .ok (.iconst 0, 1) := by decide +kernel
theorem dX11_free_7 : decode cX11_free 7 = .ok (.invokevirtual 245, 3) := by decide +kernel
theorem dX11_free_10 : decode cX11_free 10 = .ok (.ireturn, 1) := by decide +kernel
theorem dX11_init_0 : decode cX11_init 0 = .ok (.aload_n 0, 1) := by decide +kernel
theorem dX11_init_1 : decode cX11_init 1 = .ok (.invokespecial 1, 3) := by decide +kernel
theorem dX11_init_4 : decode cX11_init 4 = .ok (.aload_n 0, 1) := by decide +kernel
theorem dX11_init_5 : decode cX11_init 5 = .ok (.new 7, 3) := by decide +kernel
theorem dX11_init_8 : decode cX11_init 8 = .ok (.dup, 1) := by decide +kernel
theorem dX11_init_9 : decode cX11_init 9 = .ok (.invokespecial 9, 3) := by decide +kernel
theorem dX11_init_12 : decode cX11_init 12 = .ok (.putfield 10, 3) := by decide +kernel
theorem dX11_init_15 : decode cX11_init 15 = .ok (.aload_n 0, 1) := by decide +kernel
theorem dX11_init_16 : decode cX11_init 16 = .ok (.new 16, 3) := by decide +kernel
theorem dX11_init_19 : decode cX11_init 19 = .ok (.dup, 1) := by decide +kernel
theorem dX11_init_20 : decode cX11_init 20 = .ok (.aload_n 0, 1) := by decide +kernel
theorem dX11_init_21 : decode cX11_init 21 = .ok (.getfield 10, 3) := by decide +kernel
theorem dX11_init_24 : decode cX11_init 24 = .ok (.invokevirtual 18, 3) := by decide +kernel
theorem dX11_init_27 : decode cX11_init 27 = .ok (.invokespecial 22, 3) := by decide +kernel
theorem dX11_init_30 : decode cX11_init 30 = .ok (.putfield 25, 3) := by decide +kernel
theorem dX11_init_33 : decode cX11_init 33 = .ok (.aload_n 0, 1) := by decide +kernel
theorem dX11_init_34 : decode cX11_init 34 = .ok (.new 29, 3) := by decide +kernel
theorem dX11_init_37 : decode cX11_init 37 = .ok (.dup, 1) := by decide +kernel
theorem dX11_init_38 : decode cX11_init 38 = .ok (.invokespecial 31, 3) := by decide +kernel
theorem dX11_init_41 : decode cX11_init 41 = .ok (.putfield 32, 3) := by decide +kernel
theorem dX11_init_44 : decode cX11_init 44 = .ok (.aload_n 0, 1) := by decide +kernel
theorem dX11_init_45 : decode cX11_init 45 = .ok (.new 36, 3) := by decide +kernel
theorem dX11_init_48 : decode cX11_init 48 = .ok (.dup, 1) := by decide +kernel
theorem dX11_init_49 : decode cX11_init 49 = .ok (.aload_n 0, 1) := by decide +kernel
theorem dX11_init_50 : decode cX11_init 50 = .ok (.getfield 32, 3) := by decide +kernel
theorem dX11_init_53 : decode cX11_init 53 = .ok (.invokespecial 38, 3) := by decide +kernel
theorem dX11_init_56 : decode cX11_init 56 = .ok (.putfield 41, 3) := by decide +kernel
theorem dX11_init_59 : decode cX11_init 59 = .ok (.aload_n 0, 1) := by decide +kernel
theorem dX11_init_60 : decode cX11_init 60 = .ok (.new 45, 3) := by decide +kernel
theorem dX11_init_63 : decode cX11_init 63 = .ok (.dup, 1) := by decide +kernel
theorem dX11_init_64 : decode cX11_init 64 = .ok (.invokespecial 47, 3) := by decide +kernel
theorem dX11_init_67 : decode cX11_init 67 = .ok (.putfield 48, 3) := by decide +kernel
theorem dX11_init_70 : decode cX11_init 70 = .ok (.aload_n 0, 1) := by decide +kernel
theorem dX11_init_71 : decode cX11_init 71 = .ok (.new 52, 3) := by decide +kernel
theorem dX11_init_74 : decode cX11_init 74 = .ok (.dup, 1) := by decide +kernel
theorem dX11_init_75 : decode cX11_init 75 = .ok (.invokespecial 54, 3) := by decide +kernel
theorem dX11_init_78 : decode cX11_init 78 = .ok (.putfield 55, 3) := by decide +kernel
theorem dX11_init_81 : decode cX11_init 81 = .ok (.aload_n 0, 1) := by decide +kernel
theorem dX11_init_82 : decode cX11_init 82 = .ok (.iconst 3, 1) := by decide +kernel
theorem dX11_init_83 : decode cX11_init 83 = .ok (.newarray .int, 2) := by decide +kernel
theorem dX11_init_85 : decode cX11_init 85 = .ok (.dup, 1) := by decide +kernel
theorem dX11_init_86 : decode cX11_init 86 = .ok (.iconst 0, 1) := by decide +kernel
theorem dX11_init_87 : decode cX11_init 87 = .ok (.iconst 2, 1) := by decide +kernel
theorem dX11_init_88 : decode cX11_init 88 = .ok (.iastore, 1) := by decide +kernel
theorem dX11_init_89 : decode cX11_init 89 = .ok (.dup, 1) := by decide +kernel
theorem dX11_init_90 : decode cX11_init 90 = .ok (.iconst 1, 1) := by decide +kernel
theorem dX11_init_91 : decode cX11_init 91 = .ok (.iconst 5, 1) := by decide +kernel
theorem dX11_init_92 : decode cX11_init 92 = .ok (.iastore, 1) := by decide +kernel
theorem dX11_init_93 : decode cX11_init 93 = .ok (.dup, 1) := by decide +kernel
theorem dX11_init_94 : decode cX11_init 94 = .ok (.iconst 2, 1) := by decide +kernel
theorem dX11_init_95 : decode cX11_init 95 = .ok (.bipush 9, 2) := by decide +kernel
theorem dX11_init_97 : decode cX11_init 97 = .ok (.iastore, 1) := by decide +kernel
theorem dX11_init_98 : decode cX11_init 98 = .ok (.putfield 59, 3) := by decide +kernel
theorem dX11_init_101 : decode cX11_init 101 = .ok (.return_, 1) := by decide +kernel
theorem dJ0_indexOf_0f7a4_0 : decode cJ0_indexOf_0f7a4 0 = .ok (.aload_n 0, 1) := by decide +kernel
theorem dJ0_indexOf_0f7a4_1 : decode cJ0_indexOf_0f7a4 1 = .ok (.iload_n 1, 1) := by decide +kernel
theorem dJ0_indexOf_0f7a4_2 : decode cJ0_indexOf_0f7a4 2 = .ok (.iconst 0, 1) := by decide +kernel
theorem dJ0_indexOf_0f7a4_3 : decode cJ0_indexOf_0f7a4 3 = .ok (.invokevirtual 633, 3) := by decide +kernel
theorem dJ0_indexOf_0f7a4_6 : decode cJ0_indexOf_0f7a4 6 = .ok (.ireturn, 1) := by decide +kernel
theorem dJx4a65c_add_9ea2d_0 : decode cJx4a65c_add_9ea2d 0 = .ok (.aload_n 0, 1) := by decide +kernel
theorem dJx4a65c_add_9ea2d_1 : decode cJx4a65c_add_9ea2d 1 = .ok (.dup, 1) := by decide +kernel
theorem dJx4a65c_add_9ea2d_2 : decode cJx4a65c_add_9ea2d 2 = .ok (.getfield 63, 3) := by decide +kernel
theorem dJx4a65c_add_9ea2d_5 : decode cJx4a65c_add_9ea2d 5 = .ok (.iconst 1, 1) := by decide +kernel
theorem dJx4a65c_add_9ea2d_6 : decode cJx4a65c_add_9ea2d 6 = .ok (.iadd, 1) := by decide +kernel
theorem dJx4a65c_add_9ea2d_7 : decode cJx4a65c_add_9ea2d 7 = .ok (.putfield 63, 3) := by decide +kernel
theorem dJx4a65c_add_9ea2d_10 : decode cJx4a65c_add_9ea2d 10 = .ok (.aload_n 0, 1) := by decide +kernel
theorem dJx4a65c_add_9ea2d_11 : decode cJx4a65c_add_9ea2d 11 = .ok (.aload_n 1, 1) := by decide +kernel
theorem dJx4a65c_add_9ea2d_12 : decode cJx4a65c_add_9ea2d 12 = .ok (.aload_n 0, 1) := by decide +kernel
theorem dJx4a65c_add_9ea2d_13 : decode cJx4a65c_add_9ea2d 13 = .ok (.getfield 9, 3) := by decide +kernel
theorem dJx4a65c_add_9ea2d_16 : decode cJx4a65c_add_9ea2d 16 = .ok (.aload_n 0, 1) := by decide +kernel
theorem dJx4a65c_add_9ea2d_17 : decode cJx4a65c_add_9ea2d 17 = .ok (.getfield 48, 3) := by decide +kernel
theorem dJx4a65c_add_9ea2d_20 : decode cJx4a65c_add_9ea2d 20 = .ok (.invokevirtual 131, 3) := by decide +kernel
theorem dJx4a65c_add_9ea2d_23 : decode cJx4a65c_add_9ea2d 23 = .ok (.iconst 1, 1) := by decide +kernel
theorem dJx4a65c_add_9ea2d_24 : decode cJx4a65c_add_9ea2d 24 = .ok (.ireturn, 1) := by decide +kernel
theorem dL_addWall_0 : decode cL_addWall 0 = .ok (.aload_n 3, 1) := by decide +kernel
theorem dL_addWall_1 : decode cL_addWall 1 = .ok (.iconst 0, 1) := by decide +kernel
theorem dL_addWall_2 : decode cL_addWall 2 = .ok (.aload_n 0, 1) := by decide +kernel
theorem dL_addWall_3 : decode cL_addWall 3 = .ok (.iload_n 1, 1) := by decide +kernel
theorem dL_addWall_4 : decode cL_addWall 4 = .ok (.iload_n 2, 1) := by decide +kernel
theorem dL_addWall_5 : decode cL_addWall 5 = .ok (.invokevirtual 7, 3) := by decide +kernel
theorem dL_addWall_8 : decode cL_addWall 8 = .ok (.i2l, 1) := by decide +kernel
theorem dL_addWall_9 : decode cL_addWall 9 = .ok (.lastore, 1) := by decide +kernel
theorem dL_addWall_10 : decode cL_addWall 10 = .ok (.goto 11, 3) := by decide +kernel
theorem dL_addWall_13 : decode cL_addWall 13 = .ok (.astore 4, 2) := by decide +kernel
theorem dL_addWall_21 : decode cL_addWall 21 = .ok (.iconst 0, 1) := by decide +kernel
theorem dL_addWall_22 : decode cL_addWall 22 = .ok (.ireturn, 1) := by decide +kernel
theorem dL_free_0 : decode cL_free 0 = .ok (.aload_n 3, 1) := by decide +kernel
theorem dL_free_1 : decode cL_free 1 = .ok (.iconst 0, 1) := by decide +kernel
theorem dL_free_2 : decode cL_free 2 = .ok (.aload_n 0, 1) := by decide +kernel
theorem dL_free_3 : decode cL_free 3 = .ok (.iload_n 1, 1) := by decide +kernel
theorem dL_free_4 : decode cL_free 4 = .ok (.iload_n 2, 1) := by decide +kernel
theorem dL_free_5 : decode cL_free 5 = .ok (.invokevirtual 78, 3) := by decide +kernel
theorem dL_free_8 : decode cL_free 8 = .ok (.i2l, 1) := by decide +kernel
theorem dL_free_9 : decode cL_free 9 = .ok (.lastore, 1) := by decide +kernel
theorem dL_free_10 : decode cL_free 10 = .ok (.goto 7, 3) := by decide +kernel
theorem dL_free_13 : decode cL_free 13 = .ok (.astore 4, 2) := by decide +kernel
theorem dL_free_17 : decode cL_free 17 = .ok (.iconst 0, 1) := by decide +kernel
theorem dL_free_18 : decode cL_free 18 = .ok (.ireturn, 1) := by decide +kernel
theorem dX21_free_0 : decode cX21_free 0 = .ok (.aload_n 0, 1) := by decide +kernel
theorem dX21_free_1 : decode cX21_free 1 = .ok (.getfield 10, 3) := by decide +kernel
theorem dX21_free_4 : decode cX21_free 4 = .ok (.iload_n 1, 1) := by decide +kernel
theorem dX21_free_5 : decode cX21_free 5 = .ok (.invokevirtual 117, 3) := by decide +kernel
theorem dX21_free_8 : decode cX21_free 8 = .ok (.checkcast 77, 3) := by decide +kernel
theorem dX21_free_11 : decode cX21_free 11 = .ok (.astore 4, 2) := by decide +kernel
theorem dX21_free_13 : decode cX21_free 13 = .ok (.iconst 0, 1) := by decide +kernel
theorem dX21_free_14 : decode cX21_free 14 = .ok (.istore 5, 2) := by decide +kernel
theorem dX21_free_16 : decode cX21_free 16 = .ok (.iconst 0, 1) := by decide +kernel
theorem dX21_free_17 : decode cX21_free 17 = .ok (.istore 6, 2) := by decide +kernel
theorem dX21_free_19 : decode cX21_free 19 = .ok (.iconst 0, 1) := by decide +kernel
theorem dX21_free_20 : decode cX21_free 20 = .ok (.istore 7, 2) := by decide +kernel
theorem dX21_free_22 : decode cX21_free 22 = .ok (.iconst 0, 1) := by decide +kernel
theorem dX21_free_23 : decode cX21_free 23 = .ok (.istore 8, 2) := by decide +kernel
theorem dX21_free_25 : decode cX21_free 25 = .ok (.iload 8, 2) := by decide +kernel
theorem dX21_free_27 : decode cX21_free 27 = .ok (.aload 4, 2) := by decide +kernel
theorem dX21_free_29 : decode cX21_free 29 = .ok (.getfield 103, 3) := by decide +kernel
theorem dX21_free_32 : decode cX21_free 32 = .ok (.if_icmp .ge 169, 3) := by decide +kernel
theorem dX21_free_35 : decode cX21_free 35 = .ok (.iconst 1, 1) := by decide +kernel
theorem dX21_free_36 : decode cX21_free 36 = .ok (.istore 9, 2) := by decide +kernel
theorem dX21_free_38 : decode cX21_free 38 = .ok (.aload_n 0, 1) := by decide +kernel
theorem dX21_free_39 : decode cX21_free 39 = .ok (.getfield 28, 3) := by decide +kernel
theorem dX21_free_45 : decode cX21_free 45 = .ok (.astore 10, 2) := by decide +kernel
theorem dX21_free_47 : decode cX21_free 47 = .ok (.aload 10, 2) := by decide +kernel
theorem dX21_free_49 : decode cX21_free 49 = .ok (.invokeinterface 90 1, 5) := by decide +kernel
theorem dX21_free_54 : decode cX21_free 54 = .ok (.ifCond .eq 102, 3) := by decide +kernel
theorem dX21_free_156 : decode cX21_free 156 = .ok (.iload 9, 2) := by decide +kernel
theorem dX21_free_158 : decode cX21_free 158 = .ok (.ifCond .eq 10, 3) := by decide +kernel
theorem dX21_free_161 : decode cX21_free 161 = .ok (.iload 7, 2) := by decide +kernel
theorem dX21_free_163 : decode cX21_free 163 = .ok (.iconst 1, 1) := by decide +kernel
theorem dX21_free_164 : decode cX21_free 164 = .ok (.iadd, 1) := by decide +kernel
theorem dX21_free_165 : decode cX21_free 165 = .ok (.goto 4, 3) := by decide +kernel
theorem dX21_free_169 : decode cX21_free 169 = .ok (.istore 7, 2) := by decide +kernel
theorem dX21_free_171 : decode cX21_free 171 = .ok (.iload 5, 2) := by decide +kernel
theorem dX21_free_173 : decode cX21_free 173 = .ok (.iload 9, 2) := by decide +kernel
theorem dX21_free_175 : decode cX21_free 175 = .ok (.ifCond .eq 7, 3) := by decide +kernel
theorem dX21_free_178 : decode cX21_free 178 = .ok (.iconst 1, 1) := by decide +kernel
theorem dX21_free_179 : decode cX21_free 179 = .ok (.goto 4, 3) := by decide +kernel
theorem dX21_free_183 : decode cX21_free 183 = .ok (.iadd, 1) := by decide +kernel
theorem dX21_free_184 : decode cX21_free 184 = .ok (.istore 5, 2) := by decide +kernel
theorem dX21_free_186 : decode cX21_free 186 = .ok (.iload 6, 2) := by decide +kernel
theorem dX21_free_188 : decode cX21_free 188 = .ok (.iload 7, 2) := by decide +kernel
theorem dX21_free_190 : decode cX21_free 190 = .ok (.invokestatic 132, 3) := by decide +kernel
theorem dX21_free_193 : decode cX21_free 193 = .ok (.istore 6, 2) := by decide +kernel
theorem dX21_free_195 : decode cX21_free 195 = .ok (.iinc 8 1, 3) := by decide +kernel
theorem dX21_free_198 : decode cX21_free 198 = .ok (.goto (-173), 3) := by decide +kernel
theorem dX21_free_201 : decode cX21_free 201 = .ok (.iload_n 3, 1) := by decide +kernel
theorem dX21_free_202 : decode cX21_free 202 = .ok (.ifCond .eq 8, 3) := by decide +kernel
theorem dX21_free_210 : decode cX21_free 210 = .ok (.iload 5, 2) := by decide +kernel
theorem dX21_free_212 : decode cX21_free 212 = .ok (.ireturn, 1) := by decide +kernel
theorem dX21_init_0 : decode cX21_init 0 = .ok (.aload_n 0, 1) := by decide +kernel
theorem dX21_init_1 : decode cX21_init 1 = .ok (.invokespecial 1, 3) := by decide +kernel
theorem dX21_init_4 : decode cX21_init 4 = .ok (.aload_n 0, 1) := by decide +kernel
theorem dX21_init_5 : decode cX21_init 5 = .ok (.new 7, 3) := by decide +kernel
theorem dX21_init_8 : decode cX21_init 8 = .ok (.dup, 1) := by decide +kernel
theorem dX21_init_9 : decode cX21_init 9 = .ok (.invokespecial 9, 3) := by decide +kernel
theorem dX21_init_12 : decode cX21_init 12 = .ok (.putfield 10, 3) := by decide +kernel
theorem dX21_init_15 : decode cX21_init 15 = .ok (.aload_n 0, 1) := by decide +kernel
theorem dX21_init_16 : decode cX21_init 16 = .ok (.new 7, 3) := by decide +kernel
theorem dX21_init_19 : decode cX21_init 19 = .ok (.dup, 1) := by decide +kernel
theorem dX21_init_20 : decode cX21_init 20 = .ok (.invokespecial 9, 3) := by decide +kernel
theorem dX21_init_23 : decode cX21_init 23 = .ok (.putfield 16, 3) := by decide +kernel
theorem dX21_init_26 : decode cX21_init 26 = .ok (.aload_n 0, 1) := by decide +kernel
theorem dX21_init_27 : decode cX21_init 27 = .ok (.ldc 19, 2) := by decide +kernel
theorem dX21_init_29 : decode cX21_init 29 = .ok (.putfield 21, 3) := by decide +kernel
theorem dX21_init_32 : decode cX21_init 32 = .ok (.aload_n 0, 1) := by decide +kernel
theorem dX21_init_33 : decode cX21_init 33 = .ok (.new 7, 3) := by decide +kernel
theorem dX21_init_36 : decode cX21_init 36 = .ok (.dup, 1) := by decide +kernel
theorem dX21_init_37 : decode cX21_init 37 = .ok (.invokespecial 9, 3) := by decide +kernel
theorem dX21_init_40 : decode cX21_init 40 = .ok (.putfield 25, 3) := by decide +kernel
theorem dX21_init_43 : decode cX21_init 43 = .ok (.aload_n 0, 1) := by decide +kernel
theorem dX21_init_44 : decode cX21_init 44 = .ok (.new 7, 3) := by decide +kernel
theorem dX21_init_47 : decode cX21_init 47 = .ok (.dup, 1) := by decide +kernel
theorem dX21_init_48 : decode cX21_init 48 = .ok (.invokespecial 9, 3) := by decide +kernel
theorem dX21_init_51 : decode cX21_init 51 = .ok (.putfield 28, 3) := by decide +kernel
theorem dX21_init_54 : decode cX21_init 54 = .ok (.aload_n 0, 1) := by decide +kernel
theorem dX21_init_55 : decode cX21_init 55 = .ok (.new 7, 3) := by decide +kernel
theorem dX21_init_58 : decode cX21_init 58 = .ok (.dup, 1) := by decide +kernel
theorem dX21_init_59 : decode cX21_init 59 = .ok (.invokespecial 9, 3) := by decide +kernel
theorem dX21_init_62 : decode cX21_init 62 = .ok (.putfield 31, 3) := by decide +kernel
theorem dX21_init_65 : decode cX21_init 65 = .ok (.aload_n 0, 1) := by decide +kernel
theorem dX21_init_66 : decode cX21_init 66 = .ok (.new 7, 3) := by decide +kernel
theorem dX21_init_69 : decode cX21_init 69 = .ok (.dup, 1) := by decide +kernel
theorem dX21_init_70 : decode cX21_init 70 = .ok (.invokespecial 9, 3) := by decide +kernel
theorem dX21_init_73 : decode cX21_init 73 = .ok (.putfield 34, 3) := by decide +kernel
theorem dX21_init_76 : decode cX21_init 76 = .ok (.aload_n 0, 1) := by decide +kernel
theorem dX21_init_77 : decode cX21_init 77 = .ok (.iconst 3, 1) := by decide +kernel
theorem dX21_init_78 : decode cX21_init 78 = .ok (.newarray .int, 2) := by decide +kernel
theorem dX21_init_80 : decode cX21_init 80 = .ok (.dup, 1) := by decide +kernel
theorem dX21_init_81 : decode cX21_init 81 = .ok (.iconst 0, 1) := by decide +kernel
theorem dX21_init_82 : decode cX21_init 82 = .ok (.iconst 2, 1) := by decide +kernel
theorem dX21_init_83 : decode cX21_init 83 = .ok (.iastore, 1) := by decide +kernel
theorem dX21_init_84 : decode cX21_init 84 = .ok (.dup, 1) := by decide +kernel
theorem dX21_init_85 : decode cX21_init 85 = .ok (.iconst 1, 1) := by decide +kernel
theorem dX21_init_86 : decode cX21_init 86 = .ok (.iconst 5, 1) := by decide +kernel
theorem dX21_init_87 : decode cX21_init 87 = .ok (.iastore, 1) := by decide +kernel
theorem dX21_init_88 : decode cX21_init 88 = .ok (.dup, 1) := by decide +kernel
theorem dX21_init_89 : decode cX21_init 89 = .ok (.iconst 2, 1) := by decide +kernel
theorem dX21_init_90 : decode cX21_init 90 = .ok (.bipush 9, 2) := by decide +kernel
theorem dX21_init_92 : decode cX21_init 92 = .ok (.iastore, 1) := by decide +kernel
theorem dX21_init_93 : decode cX21_init 93 = .ok (.putfield 37, 3) := by decide +kernel
theorem dX21_init_96 : decode cX21_init 96 = .ok (.aload_n 0, 1) := by decide +kernel
theorem dX21_init_97 : decode cX21_init 97 = .ok (.iconst 2, 1) := by decide +kernel
theorem dX21_init_98 : decode cX21_init 98 = .ok (.putfield 41, 3) := by decide +kernel
theorem dX21_init_101 : decode cX21_init 101 = .ok (.aload_n 0, 1) := by decide +kernel
theorem dX21_init_102 : decode cX21_init 102 = .ok (.ldc 19, 2) := by decide +kernel
theorem dX21_init_104 : decode cX21_init 104 = .ok (.putfield 45, 3) := by decide +kernel
theorem dX21_init_107 : decode cX21_init 107 = .ok (.aload_n 0, 1) := by decide +kernel
theorem dX21_init_108 : decode cX21_init 108 = .ok (.iconst 2, 1) := by decide +kernel
theorem dX21_init_109 : decode cX21_init 109 = .ok (.newarray .int, 2) := by decide +kernel
theorem dX21_init_111 : decode cX21_init 111 = .ok (.putfield 48, 3) := by decide +kernel
theorem dX21_init_114 : decode cX21_init 114 = .ok (.aload_n 0, 1) := by decide +kernel
theorem dX21_init_115 : decode cX21_init 115 = .ok (.iconst 0, 1) := by decide +kernel
theorem dX21_init_116 : decode cX21_init 116 = .ok (.newarray .int, 2) := by decide +kernel
theorem dX21_init_118 : decode cX21_init 118 = .ok (.putfield 51, 3) := by decide +kernel
theorem dX21_init_121 : decode cX21_init 121 = .ok (.return_, 1) := by decide +kernel
theorem dX21_addWall_0 : decode cX21_addWall 0 = .ok (.aload_n 0, 1) := by decide +kernel
theorem dX21_addWall_1 : decode cX21_addWall 1 = .ok (.ldc 57, 2) := by decide +kernel
theorem dX21_addWall_3 : decode cX21_addWall 3 = .ok (.iload_n 1, 1) := by decide +kernel
theorem dX21_addWall_4 : decode cX21_addWall 4 = .ok (.invokevirtual 59, 3) := by decide +kernel
theorem dX21_addWall_7 : decode cX21_addWall 7 = .ok (.ifCond .lt 16, 3) := by decide +kernel
theorem dX21_addWall_10 : decode cX21_addWall 10 = .ok (.iload_n 2, 1) := by decide +kernel
theorem dX21_addWall_11 : decode cX21_addWall 11 = .ok (.sipush 500, 3) := by decide +kernel
theorem dX21_addWall_14 : decode cX21_addWall 14 = .ok (.sipush 9999, 3) := by decide +kernel
theorem dX21_addWall_17 : decode cX21_addWall 17 = .ok (.invokestatic 65, 3) := by decide +kernel
theorem dX21_addWall_20 : decode cX21_addWall 20 = .ok (.ifCond .ne 7, 3) := by decide +kernel
theorem dX21_addWall_27 : decode cX21_addWall 27 = .ok (.aload_n 0, 1) := by decide +kernel
theorem dX21_addWall_28 : decode cX21_addWall 28 = .ok (.getfield 10, 3) := by decide +kernel
theorem dX21_addWall_31 : decode cX21_addWall 31 = .ok (.invokevirtual 69, 3) := by decide +kernel
theorem dX21_addWall_34 : decode cX21_addWall 34 = .ok (.bipush 6, 2) := by decide +kernel
theorem dX21_addWall_36 : decode cX21_addWall 36 = .ok (.if_icmp .eq 13, 3) := by decide +kernel
theorem dX21_addWall_39 : decode cX21_addWall 39 = .ok (.aload_n 0, 1) := by decide +kernel
theorem dX21_addWall_40 : decode cX21_addWall 40 = .ok (.getfield 28, 3) := by decide +kernel
theorem dX21_addWall_43 : decode cX21_addWall 43 = .ok (.invokevirtual 73, 3) := by decide +kernel
theorem dX21_addWall_46 : decode cX21_addWall 46 = .ok (.ifCond .ne 7, 3) := by decide +kernel
theorem dX21_addWall_53 : decode cX21_addWall 53 = .ok (.iconst 0, 1) := by decide +kernel
theorem dX21_addWall_54 : decode cX21_addWall 54 = .ok (.putfield 54, 3) := by decide +kernel
theorem dX21_addWall_57 : decode cX21_addWall 57 = .ok (.aload_n 0, 1) := by decide +kernel
theorem dX21_addWall_58 : decode cX21_addWall 58 = .ok (.getfield 54, 3) := by decide +kernel
theorem dX21_addWall_61 : decode cX21_addWall 61 = .ok (.ifCond .le 5, 3) := by decide +kernel
theorem dX21_addWall_66 : decode cX21_addWall 66 = .ok (.aload_n 0, 1) := by decide +kernel
theorem dX21_addWall_67 : decode cX21_addWall 67 = .ok (.getfield 10, 3) := by decide +kernel
theorem dX21_addWall_70 : decode cX21_addWall 70 = .ok (.new 77, 3) := by decide +kernel
theorem dX21_addWall_73 : decode cX21_addWall 73 = .ok (.dup, 1) := by decide +kernel
theorem dX21_addWall_74 : decode cX21_addWall 74 = .ok (.iload_n 1, 1) := by decide +kernel
theorem dX21_addWall_75 : decode cX21_addWall 75 = .ok (.iload_n 2, 1) := by decide +kernel
theorem dX21_addWall_76 : decode cX21_addWall 76 = .ok (.invokespecial 79, 3) := by decide +kernel
theorem dX21_addWall_79 : decode cX21_addWall 79 = .ok (.invokevirtual 82, 3) := by decide +kernel
theorem dX21_addWall_82 : decode cX21_addWall 82 = .ok (.pop, 1) := by decide +kernel
theorem dX21_addWall_83 : decode cX21_addWall 83 = .ok (.aload_n 0, 1) := by decide +kernel
theorem dX21_addWall_84 : decode cX21_addWall 84 = .ok (.getfield 10, 3) := by decide +kernel
theorem dX21_addWall_87 : decode cX21_addWall 87 = .ok (.invokevirtual 69, 3) := by decide +kernel
theorem dX21_addWall_90 : decode cX21_addWall 90 = .ok (.iconst 1, 1) := by decide +kernel
theorem dX21_addWall_91 : decode cX21_addWall 91 = .ok (.isub, 1) := by decide +kernel
theorem dX21_addWall_92 : decode cX21_addWall 92 = .ok (.ireturn, 1) := by decide +kernel
theorem dX21_free__0 : decode cX21_free_ 0 = .ok (.aload_n 0, 1) := by decide +kernel
theorem dX21_free__1 : decode cX21_free_ 1 = .ok (.iload_n 1, 1) := by decide +kernel
theorem dX21_free__2 : decode cX21_free_ 2 = .ok (.invokevirtual 136, 3) := by decide +kernel
theorem dX21_free__5 : decode cX21_free_ 5 = .ok (.ifCond .eq 7, 3) := by decide +kernel
theorem dX21_free__12 : decode cX21_free_ 12 = .ok (.aload_n 0, 1) := by decide +kernel
theorem dX21_free__13 : decode cX21_free_ 13 = .ok (.iload_n 1, 1) := by decide +kernel
theorem dX21_free__14 : decode cX21_free_ 14 = .ok (.iload_n 2, 1) := by decide +kernel
theorem dX21_free__15 : decode cX21_free_ 15 = .ok (.iconst 0, 1) := by decide +kernel
theorem dX21_free__19 : decode cX21_free_ 19 = .ok (.ireturn, 1) := by decide +kernel
theorem dL_law_0 : decode cL_law 0 = .ok (.new 8, 3) := by decide +kernel
theorem dL_law_3 : decode cL_law 3 = .ok (.dup, 1) := by decide +kernel
theorem dL_law_4 : decode cL_law 4 = .ok (.invokespecial 170, 3) := by decide +kernel
theorem dL_law_7 : decode cL_law 7 = .ok (.astore_n 1, 1) := by decide +kernel
theorem dL_law_8 : decode cL_law 8 = .ok (.new 171, 3) := by decide +kernel
theorem dL_law_11 : decode cL_law 11 = .ok (.dup, 1) := by decide +kernel
theorem dL_law_12 : decode cL_law 12 = .ok (.invokespecial 173, 3) := by decide +kernel
theorem dL_law_15 : decode cL_law 15 = .ok (.astore_n 2, 1) := by decide +kernel
theorem dL_law_16 : decode cL_law 16 = .ok (.iconst 1, 1) := by decide +kernel
theorem dL_law_17 : decode cL_law 17 = .ok (.newarray .long, 2) := by decide +kernel
theorem dL_law_19 : decode cL_law 19 = .ok (.astore_n 3, 1) := by decide +kernel
theorem dL_law_20 : decode cL_law 20 = .ok (.iconst 1, 1) := by decide +kernel
theorem dL_law_21 : decode cL_law 21 = .ok (.newarray .double, 2) := by decide +kernel
theorem dL_law_23 : decode cL_law 23 = .ok (.astore 4, 2) := by decide +kernel
theorem dL_law_25 : decode cL_law 25 = .ok (.iconst 0, 1) := by decide +kernel
theorem dL_law_26 : decode cL_law 26 = .ok (.istore 5, 2) := by decide +kernel
theorem dL_law_28 : decode cL_law 28 = .ok (.iload 5, 2) := by decide +kernel
theorem dL_law_30 : decode cL_law 30 = .ok (.aload_n 0, 1) := by decide +kernel
theorem dL_law_31 : decode cL_law 31 = .ok (.arraylength, 1) := by decide +kernel
theorem dL_law_32 : decode cL_law 32 = .ok (.bipush 6, 2) := by decide +kernel
theorem dL_law_34 : decode cL_law 34 = .ok (.isub, 1) := by decide +kernel
theorem dL_law_35 : decode cL_law 35 = .ok (.if_icmp .gt 3290, 3) := by decide +kernel
theorem dL_law_38 : decode cL_law 38 = .ok (.aload_n 0, 1) := by decide +kernel
theorem dL_law_39 : decode cL_law 39 = .ok (.iload 5, 2) := by decide +kernel
theorem dL_law_41 : decode cL_law 41 = .ok (.iaload, 1) := by decide +kernel
theorem dL_law_42 : decode cL_law 42 = .ok (.bipush 63, 2) := by decide +kernel
theorem dL_law_44 : decode cL_law 44 = .ok (.iand, 1) := by decide +kernel
theorem dL_law_45 : decode cL_law 45 = .ok (.tableswitch 3274 0 50 #[219, 289, 333, 389, 402, 482, 586, 644, 657, 701, 745, 789, 859, 951, 1019, 1087, 1143, 1199, 1255, 1339, 1423, 1479, 1547, 1629, 1697, 1753, 1821, 1915, 1983, 2079, 2183, 2196, 2209, 2279, 2335, 2391, 2459, 2515, 2583, 2639, 2707, 2787, 2855, 2935, 2991, 3004, 3060, 3073, 3130, 3196, 3261], 219) := by decide +kernel
theorem dL_law_264 : decode cL_law 264 = .ok (.aload_n 1, 1) := by decide +kernel
theorem dL_law_265 : decode cL_law 265 = .ok (.aload_n 0, 1) := by decide +kernel
theorem dL_law_266 : decode cL_law 266 = .ok (.iload 5, 2) := by decide +kernel
theorem dL_law_268 : decode cL_law 268 = .ok (.iconst 1, 1) := by decide +kernel
theorem dL_law_269 : decode cL_law 269 = .ok (.iadd, 1) := by decide +kernel
theorem dL_law_270 : decode cL_law 270 = .ok (.iaload, 1) := by decide +kernel
theorem dL_law_271 : decode cL_law 271 = .ok (.i2c, 1) := by decide +kernel
theorem dL_law_272 : decode cL_law 272 = .ok (.aload_n 0, 1) := by decide +kernel
theorem dL_law_273 : decode cL_law 273 = .ok (.iload 5, 2) := by decide +kernel
theorem dL_law_275 : decode cL_law 275 = .ok (.iconst 2, 1) := by decide +kernel
theorem dL_law_276 : decode cL_law 276 = .ok (.iadd, 1) := by decide +kernel
theorem dL_law_277 : decode cL_law 277 = .ok (.iaload, 1) := by decide +kernel
theorem dL_law_278 : decode cL_law 278 = .ok (.aload_n 3, 1) := by decide +kernel
theorem dL_law_279 : decode cL_law 279 = .ok (.invokestatic 174, 3) := by decide +kernel
theorem dL_law_282 : decode cL_law 282 = .ok (.istore 6, 2) := by decide +kernel
theorem dL_law_284 : decode cL_law 284 = .ok (.aload_n 2, 1) := by decide +kernel
theorem dL_law_285 : decode cL_law 285 = .ok (.aload_n 0, 1) := by decide +kernel
theorem dL_law_286 : decode cL_law 286 = .ok (.iload 5, 2) := by decide +kernel
theorem dL_law_288 : decode cL_law 288 = .ok (.iconst 1, 1) := by decide +kernel
theorem dL_law_289 : decode cL_law 289 = .ok (.iadd, 1) := by decide +kernel
theorem dL_law_290 : decode cL_law 290 = .ok (.iaload, 1) := by decide +kernel
theorem dL_law_291 : decode cL_law 291 = .ok (.i2c, 1) := by decide +kernel
theorem dL_law_292 : decode cL_law 292 = .ok (.aload_n 0, 1) := by decide +kernel
theorem dL_law_293 : decode cL_law 293 = .ok (.iload 5, 2) := by decide +kernel
theorem dL_law_295 : decode cL_law 295 = .ok (.iconst 2, 1) := by decide +kernel
theorem dL_law_296 : decode cL_law 296 = .ok (.iadd, 1) := by decide +kernel
theorem dL_law_297 : decode cL_law 297 = .ok (.iaload, 1) := by decide +kernel
theorem dL_law_298 : decode cL_law 298 = .ok (.invokevirtual 179, 3) := by decide +kernel
theorem dL_law_301 : decode cL_law 301 = .ok (.istore 7, 2) := by decide +kernel
theorem dL_law_303 : decode cL_law 303 = .ok (.aload_n 2, 1) := by decide +kernel
theorem dL_law_304 : decode cL_law 304 = .ok (.invokevirtual 180, 3) := by decide +kernel
theorem dL_law_307 : decode cL_law 307 = .ok (.iload 6, 2) := by decide +kernel
theorem dL_law_309 : decode cL_law 309 = .ok (.if_icmp .eq 5, 3) := by decide +kernel
theorem dL_law_314 : decode cL_law 314 = .ok (.iload 6, 2) := by decide +kernel
theorem dL_law_316 : decode cL_law 316 = .ok (.ifCond .ne 15, 3) := by decide +kernel
theorem dL_law_319 : decode cL_law 319 = .ok (.aload_n 3, 1) := by decide +kernel
theorem dL_law_320 : decode cL_law 320 = .ok (.iconst 0, 1) := by decide +kernel
theorem dL_law_321 : decode cL_law 321 = .ok (.laload, 1) := by decide +kernel
theorem dL_law_322 : decode cL_law 322 = .ok (.iload 7, 2) := by decide +kernel
theorem dL_law_324 : decode cL_law 324 = .ok (.i2l, 1) := by decide +kernel
theorem dL_law_325 : decode cL_law 325 = .ok (.lcmp, 1) := by decide +kernel
theorem dL_law_326 : decode cL_law 326 = .ok (.ifCond .eq 5, 3) := by decide +kernel
theorem dL_law_331 : decode cL_law 331 = .ok (.goto 2988, 3) := by decide +kernel
theorem dL_law_1300 : decode cL_law 1300 = .ok (.aload_n 1, 1) := by decide +kernel
theorem dL_law_1301 : decode cL_law 1301 = .ok (.aload_n 0, 1) := by decide +kernel
theorem dL_law_1302 : decode cL_law 1302 = .ok (.iload 5, 2) := by decide +kernel
theorem dL_law_1304 : decode cL_law 1304 = .ok (.iconst 1, 1) := by decide +kernel
theorem dL_law_1305 : decode cL_law 1305 = .ok (.iadd, 1) := by decide +kernel
theorem dL_law_1306 : decode cL_law 1306 = .ok (.iaload, 1) := by decide +kernel
theorem dL_law_1307 : decode cL_law 1307 = .ok (.aload_n 0, 1) := by decide +kernel
theorem dL_law_1308 : decode cL_law 1308 = .ok (.iload 5, 2) := by decide +kernel
theorem dL_law_1310 : decode cL_law 1310 = .ok (.iconst 2, 1) := by decide +kernel
theorem dL_law_1311 : decode cL_law 1311 = .ok (.iadd, 1) := by decide +kernel
theorem dL_law_1312 : decode cL_law 1312 = .ok (.iaload, 1) := by decide +kernel
theorem dL_law_1313 : decode cL_law 1313 = .ok (.ifCond .eq 7, 3) := by decide +kernel
theorem dL_law_1320 : decode cL_law 1320 = .ok (.iconst 0, 1) := by decide +kernel
theorem dL_law_1321 : decode cL_law 1321 = .ok (.aload_n 3, 1) := by decide +kernel
theorem dL_law_1322 : decode cL_law 1322 = .ok (.invokestatic 245, 3) := by decide +kernel
theorem dL_law_1325 : decode cL_law 1325 = .ok (.istore 6, 2) := by decide +kernel
theorem dL_law_1327 : decode cL_law 1327 = .ok (.aload_n 2, 1) := by decide +kernel
theorem dL_law_1328 : decode cL_law 1328 = .ok (.aload_n 0, 1) := by decide +kernel
theorem dL_law_1329 : decode cL_law 1329 = .ok (.iload 5, 2) := by decide +kernel
theorem dL_law_1331 : decode cL_law 1331 = .ok (.iconst 1, 1) := by decide +kernel
theorem dL_law_1332 : decode cL_law 1332 = .ok (.iadd, 1) := by decide +kernel
theorem dL_law_1333 : decode cL_law 1333 = .ok (.iaload, 1) := by decide +kernel
theorem dL_law_1334 : decode cL_law 1334 = .ok (.aload_n 0, 1) := by decide +kernel
theorem dL_law_1335 : decode cL_law 1335 = .ok (.iload 5, 2) := by decide +kernel
theorem dL_law_1337 : decode cL_law 1337 = .ok (.iconst 2, 1) := by decide +kernel
theorem dL_law_1338 : decode cL_law 1338 = .ok (.iadd, 1) := by decide +kernel
theorem dL_law_1339 : decode cL_law 1339 = .ok (.iaload, 1) := by decide +kernel
theorem dL_law_1340 : decode cL_law 1340 = .ok (.ifCond .eq 7, 3) := by decide +kernel
theorem dL_law_1347 : decode cL_law 1347 = .ok (.iconst 0, 1) := by decide +kernel
theorem dL_law_1351 : decode cL_law 1351 = .ok (.istore 7, 2) := by decide +kernel
theorem dL_law_1353 : decode cL_law 1353 = .ok (.aload_n 2, 1) := by decide +kernel
theorem dL_law_1354 : decode cL_law 1354 = .ok (.invokevirtual 180, 3) := by decide +kernel
theorem dL_law_1357 : decode cL_law 1357 = .ok (.iload 6, 2) := by decide +kernel
theorem dL_law_1359 : decode cL_law 1359 = .ok (.if_icmp .eq 5, 3) := by decide +kernel
theorem dL_law_1364 : decode cL_law 1364 = .ok (.iload 6, 2) := by decide +kernel
theorem dL_law_1366 : decode cL_law 1366 = .ok (.ifCond .ne 15, 3) := by decide +kernel
theorem dL_law_1369 : decode cL_law 1369 = .ok (.aload_n 3, 1) := by decide +kernel
theorem dL_law_1370 : decode cL_law 1370 = .ok (.iconst 0, 1) := by decide +kernel
theorem dL_law_1371 : decode cL_law 1371 = .ok (.laload, 1) := by decide +kernel
theorem dL_law_1372 : decode cL_law 1372 = .ok (.iload 7, 2) := by decide +kernel
theorem dL_law_1374 : decode cL_law 1374 = .ok (.i2l, 1) := by decide +kernel
theorem dL_law_1375 : decode cL_law 1375 = .ok (.lcmp, 1) := by decide +kernel
theorem dL_law_1376 : decode cL_law 1376 = .ok (.ifCond .eq 5, 3) := by decide +kernel
theorem dL_law_1381 : decode cL_law 1381 = .ok (.goto 1938, 3) := by decide +kernel
theorem dL_law_3319 : decode cL_law 3319 = .ok (.iinc 5 6, 3) := by decide +kernel
theorem dL_law_3322 : decode cL_law 3322 = .ok (.goto (-3294), 3) := by decide +kernel
theorem dL_law_3325 : decode cL_law 3325 = .ok (.iconst 1, 1) := by decide +kernel
theorem dL_law_3326 : decode cL_law 3326 = .ok (.ireturn, 1) := by decide +kernel
end
section
abbrev P_J0_coder_7d493 : Nat → ce_N → Prop := ce_OKN "java/lang/String" "coder" cJ0_coder_7d493 1 (some .byte) 0 (some [])
noncomputable def tb_J0_coder_7d493_0 : List (Nat × ce_N) := [(0, ce_li (ce_push (.inl (.inl 1)) 3)),
  (3, ce_li (ce_if true false false 13 6)),
  (6, ce_li (ce_aload 0 7)),
  (7, ce_li (ce_gets 1 10)),
  (10, ce_li (ce_goto 14)),
  (14, ce_reti .byte)]
theorem tk_J0_coder_7d493_0 : ∀ x ∈ tb_J0_coder_7d493_0, P_J0_coder_7d493 x.1 x.2 :=
  ce_fc (P := P_J0_coder_7d493) (ok_li (ok_gets (sv := (.inl (.inl 1))) ce_z1 dJ0_coder_7d493_0 gw_1604 rfl)) (
  ce_fc (P := P_J0_coder_7d493) (ok_li (ok_if_eq dJ0_coder_7d493_3 (by decide))) (
  ce_fc (P := P_J0_coder_7d493) (ok_li (ok_aload_n dJ0_coder_7d493_6 rfl)) (
  ce_fc (P := P_J0_coder_7d493) (ok_li (ok_gets1 dJ0_coder_7d493_7 gw_2142)) (
  ce_fc (P := P_J0_coder_7d493) (ok_li (ok_goto dJ0_coder_7d493_10 (by decide))) (
  ce_fc (P := P_J0_coder_7d493) (ok_reti dJ0_coder_7d493_14 rfl) (
  ce_fn (P := P_J0_coder_7d493)))))))
noncomputable def ta_J0_coder_7d493 : Nat → Option ce_N := (ce_fd tb_J0_coder_7d493_0)
theorem tx_J0_coder_7d493 : ∀ pc f, ta_J0_coder_7d493 pc = some f → P_J0_coder_7d493 pc f := (ce_fd_ok (P := P_J0_coder_7d493) tk_J0_coder_7d493_0)
noncomputable def F_J0_coder_7d493 : ce_C := ce_M ta_J0_coder_7d493 1 0 0 1000000
theorem m_J0_coder_7d493 : ∀ l : Launch, l.stackTraces = false → ce_MS l yJ0_coder_7d493 (.code yJ0_coder_7d493 cJ0_coder_7d493 1 (some .byte)) 0 0 0 F_J0_coder_7d493 := fun l hl => ce_met hl (by decide +kernel) tx_J0_coder_7d493
theorem hp_J0_coder_7d493 : yJ0_coder_7d493.cls ≠ "java/lang/invoke/MethodHandle" ∧ yJ0_coder_7d493.cls ≠ "java/lang/invoke/VarHandle" ∧ (parseMethodDescriptor yJ0_coder_7d493.desc).map (fun d => d.parameters.length) = some 0 := by decide +kernel
abbrev P_J0_isLatin1_aae02 : Nat → ce_N → Prop := ce_OKN "java/lang/String" "isLatin1" cJ0_isLatin1_aae02 1 (some .boolean) 0 (some [])
noncomputable def tb_J0_isLatin1_aae02_0 : List (Nat × ce_N) := [(0, ce_li (ce_push (.inl (.inl 1)) 3)),
  (3, ce_li (ce_if true false false 17 6)),
  (6, ce_li (ce_aload 0 7)),
  (7, ce_li (ce_gets 1 10)),
  (10, ce_li (ce_if true false true 17 13)),
  (13, ce_li (ce_push (.inl (.inl (1))) 14)),
  (14, ce_li (ce_goto 18)),
  (18, ce_reti .boolean)]
theorem tk_J0_isLatin1_aae02_0 : ∀ x ∈ tb_J0_isLatin1_aae02_0, P_J0_isLatin1_aae02 x.1 x.2 :=
  ce_fc (P := P_J0_isLatin1_aae02) (ok_li (ok_gets (sv := (.inl (.inl 1))) ce_z1 dJ0_isLatin1_aae02_0 gw_1604 rfl)) (
  ce_fc (P := P_J0_isLatin1_aae02) (ok_li (ok_if_eq dJ0_isLatin1_aae02_3 (by decide))) (
  ce_fc (P := P_J0_isLatin1_aae02) (ok_li (ok_aload_n dJ0_isLatin1_aae02_6 rfl)) (
  ce_fc (P := P_J0_isLatin1_aae02) (ok_li (ok_gets1 dJ0_isLatin1_aae02_7 gw_2142)) (
  ce_fc (P := P_J0_isLatin1_aae02) (ok_li (ok_if_ne dJ0_isLatin1_aae02_10 (by decide))) (
  ce_fc (P := P_J0_isLatin1_aae02) (ok_li (ok_iconst dJ0_isLatin1_aae02_13)) (
  ce_fc (P := P_J0_isLatin1_aae02) (ok_li (ok_goto dJ0_isLatin1_aae02_14 (by decide))) (
  ce_fc (P := P_J0_isLatin1_aae02) (ok_reti dJ0_isLatin1_aae02_18 rfl) (
  ce_fn (P := P_J0_isLatin1_aae02)))))))))
noncomputable def ta_J0_isLatin1_aae02 : Nat → Option ce_N := (ce_fd tb_J0_isLatin1_aae02_0)
theorem tx_J0_isLatin1_aae02 : ∀ pc f, ta_J0_isLatin1_aae02 pc = some f → P_J0_isLatin1_aae02 pc f := (ce_fd_ok (P := P_J0_isLatin1_aae02) tk_J0_isLatin1_aae02_0)
noncomputable def F_J0_isLatin1_aae02 : ce_C := ce_M ta_J0_isLatin1_aae02 1 0 0 1000000
theorem m_J0_isLatin1_aae02 : ∀ l : Launch, l.stackTraces = false → ce_MS l yJ0_isLatin1_aae02 (.code yJ0_isLatin1_aae02 cJ0_isLatin1_aae02 1 (some .boolean)) 0 0 0 F_J0_isLatin1_aae02 := fun l hl => ce_met hl (by decide +kernel) tx_J0_isLatin1_aae02
theorem hp_J0_isLatin1_aae02 : yJ0_isLatin1_aae02.cls ≠ "java/lang/invoke/MethodHandle" ∧ yJ0_isLatin1_aae02.cls ≠ "java/lang/invoke/VarHandle" ∧ (parseMethodDescriptor yJ0_isLatin1_aae02.desc).map (fun d => d.parameters.length) = some 0 := by decide +kernel
abbrev P_J1_canEncode_9a6ad : Nat → ce_N → Prop := ce_OKN "java/lang/StringLatin1" "canEncode" cJ1_canEncode_9a6ad 1 (some .boolean) 0 (some [])
noncomputable def tb_J1_canEncode_9a6ad_0 : List (Nat × ce_N) := [(0, ce_li (ce_iload 0 1)),
  (1, ce_li (ce_if false false false 15 4)),
  (4, ce_li (ce_iload 0 5)),
  (5, ce_li (ce_push (.inl (.inl (255))) 8)),
  (8, ce_li (ce_icmp false true false 15 11)),
  (11, ce_li (ce_push (.inl (.inl (1))) 12)),
  (12, ce_li (ce_goto 16)),
  (16, ce_reti .boolean)]
theorem tk_J1_canEncode_9a6ad_0 : ∀ x ∈ tb_J1_canEncode_9a6ad_0, P_J1_canEncode_9a6ad x.1 x.2 :=
  ce_fc (P := P_J1_canEncode_9a6ad) (ok_li (ok_iload_n dJ1_canEncode_9a6ad_0 rfl)) (
  ce_fc (P := P_J1_canEncode_9a6ad) (ok_li (ok_if_lt dJ1_canEncode_9a6ad_1 (by decide))) (
  ce_fc (P := P_J1_canEncode_9a6ad) (ok_li (ok_iload_n dJ1_canEncode_9a6ad_4 rfl)) (
  ce_fc (P := P_J1_canEncode_9a6ad) (ok_li (ok_sipush dJ1_canEncode_9a6ad_5 (by decide))) (
  ce_fc (P := P_J1_canEncode_9a6ad) (ok_li (ok_icmp_gt dJ1_canEncode_9a6ad_8 (by decide))) (
  ce_fc (P := P_J1_canEncode_9a6ad) (ok_li (ok_iconst dJ1_canEncode_9a6ad_11)) (
  ce_fc (P := P_J1_canEncode_9a6ad) (ok_li (ok_goto dJ1_canEncode_9a6ad_12 (by decide))) (
  ce_fc (P := P_J1_canEncode_9a6ad) (ok_reti dJ1_canEncode_9a6ad_16 rfl) (
  ce_fn (P := P_J1_canEncode_9a6ad)))))))))
noncomputable def ta_J1_canEncode_9a6ad : Nat → Option ce_N := (ce_fd tb_J1_canEncode_9a6ad_0)
theorem tx_J1_canEncode_9a6ad : ∀ pc f, ta_J1_canEncode_9a6ad pc = some f → P_J1_canEncode_9a6ad pc f := (ce_fd_ok (P := P_J1_canEncode_9a6ad) tk_J1_canEncode_9a6ad_0)
noncomputable def F_J1_canEncode_9a6ad : ce_C := ce_M ta_J1_canEncode_9a6ad 1 0 0 1000000
theorem m_J1_canEncode_9a6ad : ∀ l : Launch, l.stackTraces = false → ce_MS l yJ1_canEncode_9a6ad (.code yJ1_canEncode_9a6ad cJ1_canEncode_9a6ad 1 (some .boolean)) 0 0 0 F_J1_canEncode_9a6ad := fun l hl => ce_met hl (by decide +kernel) tx_J1_canEncode_9a6ad
theorem hp_J1_canEncode_9a6ad : yJ1_canEncode_9a6ad.cls ≠ "java/lang/invoke/MethodHandle" ∧ yJ1_canEncode_9a6ad.cls ≠ "java/lang/invoke/VarHandle" ∧ (parseMethodDescriptor yJ1_canEncode_9a6ad.desc).map (fun d => d.parameters.length) = some 1 := by decide +kernel
abbrev P_J1_indexOfChar_4cfef : Nat → ce_N → Prop := ce_OKN "java/lang/StringLatin1" "indexOfChar" cJ1_indexOfChar_4cfef 6 (some .int) 0 (some [])
noncomputable def tb_J1_indexOfChar_4cfef_0 : List (Nat × ce_N) := [(0, ce_li (ce_iload 1 1)),
  (1, ce_li (ce_i2bF 2 1)),
  (2, ce_li (ce_istore 4 4 6)),
  (4, ce_li (ce_iload 2 5)),
  (5, ce_li (ce_istore 5 7 6)),
  (7, ce_li (ce_iload 5 9)),
  (9, ce_li (ce_iload 3 10)),
  (10, ce_li (ce_icmp false false true 31 13)),
  (13, ce_li (ce_aload 0 14)),
  (14, ce_li (ce_iload 5 16)),
  (16, ce_li (ce_bald 17)),
  (17, ce_li (ce_iload 4 19)),
  (19, ce_li (ce_icmp true false true 25 22)),
  (22, ce_li (ce_iload 5 24))]
theorem tk_J1_indexOfChar_4cfef_0 : ∀ x ∈ tb_J1_indexOfChar_4cfef_0, P_J1_indexOfChar_4cfef x.1 x.2 :=
  ce_fc (P := P_J1_indexOfChar_4cfef) (ok_li (ok_iload_n dJ1_indexOfChar_4cfef_0 rfl)) (
  ce_fc (P := P_J1_indexOfChar_4cfef) (ok_li (ok_i2bF dJ1_indexOfChar_4cfef_1)) (
  ce_fc (P := P_J1_indexOfChar_4cfef) (ok_li (ok_istore dJ1_indexOfChar_4cfef_2)) (
  ce_fc (P := P_J1_indexOfChar_4cfef) (ok_li (ok_iload_n dJ1_indexOfChar_4cfef_4 rfl)) (
  ce_fc (P := P_J1_indexOfChar_4cfef) (ok_li (ok_istore dJ1_indexOfChar_4cfef_5)) (
  ce_fc (P := P_J1_indexOfChar_4cfef) (ok_li (ok_iload dJ1_indexOfChar_4cfef_7)) (
  ce_fc (P := P_J1_indexOfChar_4cfef) (ok_li (ok_iload_n dJ1_indexOfChar_4cfef_9 rfl)) (
  ce_fc (P := P_J1_indexOfChar_4cfef) (ok_li (ok_icmp_ge dJ1_indexOfChar_4cfef_10 (by decide))) (
  ce_fc (P := P_J1_indexOfChar_4cfef) (ok_li (ok_aload_n dJ1_indexOfChar_4cfef_13 rfl)) (
  ce_fc (P := P_J1_indexOfChar_4cfef) (ok_li (ok_iload dJ1_indexOfChar_4cfef_14)) (
  ce_fc (P := P_J1_indexOfChar_4cfef) (ok_li (ok_bald dJ1_indexOfChar_4cfef_16)) (
  ce_fc (P := P_J1_indexOfChar_4cfef) (ok_li (ok_iload dJ1_indexOfChar_4cfef_17)) (
  ce_fc (P := P_J1_indexOfChar_4cfef) (ok_li (ok_icmp_ne dJ1_indexOfChar_4cfef_19 (by decide))) (
  ce_fc (P := P_J1_indexOfChar_4cfef) (ok_li (ok_iload dJ1_indexOfChar_4cfef_22)) (
  ce_fn (P := P_J1_indexOfChar_4cfef)))))))))))))))
noncomputable def tb_J1_indexOfChar_4cfef_1 : List (Nat × ce_N) := [(24, ce_reti .int)]
theorem tk_J1_indexOfChar_4cfef_1 : ∀ x ∈ tb_J1_indexOfChar_4cfef_1, P_J1_indexOfChar_4cfef x.1 x.2 :=
  ce_fc (P := P_J1_indexOfChar_4cfef) (ok_reti dJ1_indexOfChar_4cfef_24 rfl) (
  ce_fn (P := P_J1_indexOfChar_4cfef))
noncomputable def ta_J1_indexOfChar_4cfef : Nat → Option ce_N := (ce_tr 24 (ce_fd tb_J1_indexOfChar_4cfef_0) (ce_fd tb_J1_indexOfChar_4cfef_1))
theorem tx_J1_indexOfChar_4cfef : ∀ pc f, ta_J1_indexOfChar_4cfef pc = some f → P_J1_indexOfChar_4cfef pc f := (ce_tr_ok (P := P_J1_indexOfChar_4cfef) (ce_fd_ok (P := P_J1_indexOfChar_4cfef) tk_J1_indexOfChar_4cfef_0) (ce_fd_ok (P := P_J1_indexOfChar_4cfef) tk_J1_indexOfChar_4cfef_1))
noncomputable def F_J1_indexOfChar_4cfef : ce_C := ce_M ta_J1_indexOfChar_4cfef 6 0 0 1000000
theorem m_J1_indexOfChar_4cfef : ∀ l : Launch, l.stackTraces = false → ce_MS l yJ1_indexOfChar_4cfef (.code yJ1_indexOfChar_4cfef cJ1_indexOfChar_4cfef 6 (some .int)) 0 0 0 F_J1_indexOfChar_4cfef := fun l hl => ce_met hl (by decide +kernel) tx_J1_indexOfChar_4cfef
theorem hp_J1_indexOfChar_4cfef : yJ1_indexOfChar_4cfef.cls ≠ "java/lang/invoke/MethodHandle" ∧ yJ1_indexOfChar_4cfef.cls ≠ "java/lang/invoke/VarHandle" ∧ (parseMethodDescriptor yJ1_indexOfChar_4cfef.desc).map (fun d => d.parameters.length) = some 4 := by decide +kernel
abbrev P_J3_checkIndex_8e157 : Nat → ce_N → Prop := ce_OKN "jdk/internal/util/Preconditions" "checkIndex" cJ3_checkIndex_8e157 3 (some .int) 0 (some [])
noncomputable def tb_J3_checkIndex_8e157_0 : List (Nat × ce_N) := [(0, ce_li (ce_iload 0 1)),
  (1, ce_li (ce_if false false false 9 4)),
  (4, ce_li (ce_iload 0 5)),
  (5, ce_li (ce_iload 1 6)),
  (6, ce_li (ce_icmp false false false 16 9)),
  (16, ce_li (ce_iload 0 17)),
  (17, ce_reti .int)]
theorem tk_J3_checkIndex_8e157_0 : ∀ x ∈ tb_J3_checkIndex_8e157_0, P_J3_checkIndex_8e157 x.1 x.2 :=
  ce_fc (P := P_J3_checkIndex_8e157) (ok_li (ok_iload_n dJ3_checkIndex_8e157_0 rfl)) (
  ce_fc (P := P_J3_checkIndex_8e157) (ok_li (ok_if_lt dJ3_checkIndex_8e157_1 (by decide))) (
  ce_fc (P := P_J3_checkIndex_8e157) (ok_li (ok_iload_n dJ3_checkIndex_8e157_4 rfl)) (
  ce_fc (P := P_J3_checkIndex_8e157) (ok_li (ok_iload_n dJ3_checkIndex_8e157_5 rfl)) (
  ce_fc (P := P_J3_checkIndex_8e157) (ok_li (ok_icmp_lt dJ3_checkIndex_8e157_6 (by decide))) (
  ce_fc (P := P_J3_checkIndex_8e157) (ok_li (ok_iload_n dJ3_checkIndex_8e157_16 rfl)) (
  ce_fc (P := P_J3_checkIndex_8e157) (ok_reti dJ3_checkIndex_8e157_17 rfl) (
  ce_fn (P := P_J3_checkIndex_8e157))))))))
noncomputable def ta_J3_checkIndex_8e157 : Nat → Option ce_N := (ce_fd tb_J3_checkIndex_8e157_0)
theorem tx_J3_checkIndex_8e157 : ∀ pc f, ta_J3_checkIndex_8e157 pc = some f → P_J3_checkIndex_8e157 pc f := (ce_fd_ok (P := P_J3_checkIndex_8e157) tk_J3_checkIndex_8e157_0)
noncomputable def F_J3_checkIndex_8e157 : ce_C := ce_M ta_J3_checkIndex_8e157 3 0 0 1000000
theorem m_J3_checkIndex_8e157 : ∀ l : Launch, l.stackTraces = false → ce_MS l yJ3_checkIndex_8e157 (.code yJ3_checkIndex_8e157 cJ3_checkIndex_8e157 3 (some .int)) 0 0 0 F_J3_checkIndex_8e157 := fun l hl => ce_met hl (by decide +kernel) tx_J3_checkIndex_8e157
theorem hp_J3_checkIndex_8e157 : yJ3_checkIndex_8e157.cls ≠ "java/lang/invoke/MethodHandle" ∧ yJ3_checkIndex_8e157.cls ≠ "java/lang/invoke/VarHandle" ∧ (parseMethodDescriptor yJ3_checkIndex_8e157.desc).map (fun d => d.parameters.length) = some 3 := by decide +kernel
abbrev P_Jx35411_hasNext_aae02 : Nat → ce_N → Prop := ce_OKN "java/util/ArrayList$Itr" "hasNext" cJx35411_hasNext_aae02 1 (some .boolean) 0 (some [])
noncomputable def tb_Jx35411_hasNext_aae02_0 : List (Nat × ce_N) := [(0, ce_li (ce_aload 0 1)),
  (1, ce_li (ce_getf 2 0 4)),
  (4, ce_li (ce_aload 0 5)),
  (5, ce_li (ce_getf 2 3 8)),
  (8, ce_li (ce_getf 3 2 11)),
  (11, ce_li (ce_icmp true false false 18 14)),
  (18, ce_li (ce_push (.inl (.inl (0))) 19)),
  (19, ce_reti .boolean)]
theorem tk_Jx35411_hasNext_aae02_0 : ∀ x ∈ tb_Jx35411_hasNext_aae02_0, P_Jx35411_hasNext_aae02 x.1 x.2 :=
  ce_fc (P := P_Jx35411_hasNext_aae02) (ok_li (ok_aload_n dJx35411_hasNext_aae02_0 rfl)) (
  ce_fc (P := P_Jx35411_hasNext_aae02) (ok_li (ok_getf (ci := 2) (k := 0) (C := RJx35411) (T := TJx35411) (N := 4) dJx35411_hasNext_aae02_1 rfl ce_uJx35411 (by decide) gw_1807 (fun _ _ _ _ h => h))) (
  ce_fc (P := P_Jx35411_hasNext_aae02) (ok_li (ok_aload_n dJx35411_hasNext_aae02_4 rfl)) (
  ce_fc (P := P_Jx35411_hasNext_aae02) (ok_li (ok_getf (ci := 2) (k := 3) (C := RJx35411) (T := TJx35411) (N := 4) dJx35411_hasNext_aae02_5 rfl ce_uJx35411 (by decide) gw_1810 (fun _ _ _ _ h => h))) (
  ce_fc (P := P_Jx35411_hasNext_aae02) (ok_li (ok_getfN (ci := 3) (k := 2) (C := RJx4a65c) (T := TJx4a65c) (N := 3) dJx35411_hasNext_aae02_8 rfl ce_uJx4a65c (by decide) gn_21 (fun _ _ _ _ h => h))) (
  ce_fc (P := P_Jx35411_hasNext_aae02) (ok_li (ok_icmp_eq dJx35411_hasNext_aae02_11 (by decide))) (
  ce_fc (P := P_Jx35411_hasNext_aae02) (ok_li (ok_iconst dJx35411_hasNext_aae02_18)) (
  ce_fc (P := P_Jx35411_hasNext_aae02) (ok_reti dJx35411_hasNext_aae02_19 rfl) (
  ce_fn (P := P_Jx35411_hasNext_aae02)))))))))
noncomputable def ta_Jx35411_hasNext_aae02 : Nat → Option ce_N := (ce_fd tb_Jx35411_hasNext_aae02_0)
theorem tx_Jx35411_hasNext_aae02 : ∀ pc f, ta_Jx35411_hasNext_aae02 pc = some f → P_Jx35411_hasNext_aae02 pc f := (ce_fd_ok (P := P_Jx35411_hasNext_aae02) tk_Jx35411_hasNext_aae02_0)
noncomputable def F_Jx35411_hasNext_aae02 : ce_C := ce_M ta_Jx35411_hasNext_aae02 1 0 0 1000000
theorem m_Jx35411_hasNext_aae02 : ∀ l : Launch, l.stackTraces = false → ce_MS l ce_yI (.code ce_yI cJx35411_hasNext_aae02 1 (some .boolean)) 0 0 0 F_Jx35411_hasNext_aae02 := fun l hl => ce_met hl (by decide +kernel) tx_Jx35411_hasNext_aae02
theorem hp_Jx35411_hasNext_aae02 : ce_yI.cls ≠ "java/lang/invoke/MethodHandle" ∧ ce_yI.cls ≠ "java/lang/invoke/VarHandle" ∧ (parseMethodDescriptor ce_yI.desc).map (fun d => d.parameters.length) = some 0 := by decide +kernel
abbrev P_Jx35411_init_45d68 : Nat → ce_N → Prop := ce_OKN "java/util/ArrayList$Itr" "<init>" cJx35411_init_45d68 2 none 0 (some [])
noncomputable def tb_Jx35411_init_45d68_0 : List (Nat × ce_N) := [(0, ce_li (ce_aload 0 1)),
  (1, ce_li (ce_aload 1 2)),
  (2, ce_li (ce_putf (tyJx35411 3) 2 3 5)),
  (5, ce_li (ce_aload 0 6)),
  (6, ce_li (ce_oi 9)),
  (9, ce_li (ce_aload 0 10)),
  (10, ce_li (ce_push (.inl (.inl (-1))) 11)),
  (11, ce_li (ce_putf (tyJx35411 1) 2 1 14)),
  (14, ce_li (ce_aload 0 15)),
  (15, ce_li (ce_aload 0 16)),
  (16, ce_li (ce_getf 2 3 19)),
  (19, ce_li (ce_getf 3 0 22)),
  (22, ce_li (ce_putf (tyJx35411 2) 2 2 25)),
  (25, ce_ret0)]
theorem tk_Jx35411_init_45d68_0 : ∀ x ∈ tb_Jx35411_init_45d68_0, P_Jx35411_init_45d68 x.1 x.2 :=
  ce_fc (P := P_Jx35411_init_45d68) (ok_li (ok_aload_n dJx35411_init_45d68_0 rfl)) (
  ce_fc (P := P_Jx35411_init_45d68) (ok_li (ok_aload_n dJx35411_init_45d68_1 rfl)) (
  ce_fc (P := P_Jx35411_init_45d68) (ok_li (ok_putf (ci := 2) (k := 3) (C := RJx35411) (T := TJx35411) (N := 4) (ty0 := tyJx35411) dJx35411_init_45d68_2 rfl ce_uJx35411 (by decide) gw_1810 (fun _ _ _ _ h => h) tyJx35411_ok nmJx35411 (Or.inr ⟨rfl, rfl, rfl⟩))) (
  ce_fc (P := P_Jx35411_init_45d68) (ok_li (ok_aload_n dJx35411_init_45d68_5 rfl)) (
  ce_fc (P := P_Jx35411_init_45d68) (ok_li (ok_oi dJx35411_init_45d68_6 gw_1806 gw_57 gw_58)) (
  ce_fc (P := P_Jx35411_init_45d68) (ok_li (ok_aload_n dJx35411_init_45d68_9 rfl)) (
  ce_fc (P := P_Jx35411_init_45d68) (ok_li (ok_iconst dJx35411_init_45d68_10)) (
  ce_fc (P := P_Jx35411_init_45d68) (ok_li (ok_putf (ci := 2) (k := 1) (C := RJx35411) (T := TJx35411) (N := 4) (ty0 := tyJx35411) dJx35411_init_45d68_11 rfl ce_uJx35411 (by decide) gw_1808 (fun _ _ _ _ h => h) tyJx35411_ok nmJx35411 (Or.inl rfl))) (
  ce_fc (P := P_Jx35411_init_45d68) (ok_li (ok_aload_n dJx35411_init_45d68_14 rfl)) (
  ce_fc (P := P_Jx35411_init_45d68) (ok_li (ok_aload_n dJx35411_init_45d68_15 rfl)) (
  ce_fc (P := P_Jx35411_init_45d68) (ok_li (ok_getf (ci := 2) (k := 3) (C := RJx35411) (T := TJx35411) (N := 4) dJx35411_init_45d68_16 rfl ce_uJx35411 (by decide) gw_1810 (fun _ _ _ _ h => h))) (
  ce_fc (P := P_Jx35411_init_45d68) (ok_li (ok_getf (ci := 3) (k := 0) (C := RJx4a65c) (T := TJx4a65c) (N := 3) dJx35411_init_45d68_19 rfl ce_uJx4a65c (by decide) gw_1510 (fun s args hw x h => u_same (hw _ gw_1511) x h))) (
  ce_fc (P := P_Jx35411_init_45d68) (ok_li (ok_putf (ci := 2) (k := 2) (C := RJx35411) (T := TJx35411) (N := 4) (ty0 := tyJx35411) dJx35411_init_45d68_22 rfl ce_uJx35411 (by decide) gw_1809 (fun _ _ _ _ h => h) tyJx35411_ok nmJx35411 (Or.inl rfl))) (
  ce_fc (P := P_Jx35411_init_45d68) (ok_ret0 dJx35411_init_45d68_25 rfl) (
  ce_fn (P := P_Jx35411_init_45d68)))))))))))))))
noncomputable def ta_Jx35411_init_45d68 : Nat → Option ce_N := (ce_fd tb_Jx35411_init_45d68_0)
theorem tx_Jx35411_init_45d68 : ∀ pc f, ta_Jx35411_init_45d68 pc = some f → P_Jx35411_init_45d68 pc f := (ce_fd_ok (P := P_Jx35411_init_45d68) tk_Jx35411_init_45d68_0)
noncomputable def F_Jx35411_init_45d68 : ce_C := ce_M ta_Jx35411_init_45d68 2 0 0 1000000
theorem m_Jx35411_init_45d68 : ∀ l : Launch, l.stackTraces = false → ce_MS l yJx35411_init_45d68 (.code yJx35411_init_45d68 cJx35411_init_45d68 2 none) 0 0 0 F_Jx35411_init_45d68 := fun l hl => ce_met hl (by decide +kernel) tx_Jx35411_init_45d68
theorem hp_Jx35411_init_45d68 : yJx35411_init_45d68.cls ≠ "java/lang/invoke/MethodHandle" ∧ yJx35411_init_45d68.cls ≠ "java/lang/invoke/VarHandle" ∧ (parseMethodDescriptor yJx35411_init_45d68.desc).map (fun d => d.parameters.length) = some 1 := by decide +kernel
abbrev P_Jx4a65c_elementData_915e3 : Nat → ce_N → Prop := ce_OKN "java/util/ArrayList" "elementData" cJx4a65c_elementData_915e3 2 (some (.object "java/lang/Object")) 0 (some [])
noncomputable def tb_Jx4a65c_elementData_915e3_0 : List (Nat × ce_N) := [(0, ce_li (ce_aload 0 1)),
  (1, ce_li (ce_getf 3 1 4)),
  (4, ce_li (ce_iload 1 5)),
  (5, ce_li (ce_aald 6)),
  (6, ce_reta)]
theorem tk_Jx4a65c_elementData_915e3_0 : ∀ x ∈ tb_Jx4a65c_elementData_915e3_0, P_Jx4a65c_elementData_915e3 x.1 x.2 :=
  ce_fc (P := P_Jx4a65c_elementData_915e3) (ok_li (ok_aload_n dJx4a65c_elementData_915e3_0 rfl)) (
  ce_fc (P := P_Jx4a65c_elementData_915e3) (ok_li (ok_getf (ci := 3) (k := 1) (C := RJx4a65c) (T := TJx4a65c) (N := 3) dJx4a65c_elementData_915e3_1 rfl ce_uJx4a65c (by decide) gw_1505 (fun _ _ _ _ h => h))) (
  ce_fc (P := P_Jx4a65c_elementData_915e3) (ok_li (ok_iload_n dJx4a65c_elementData_915e3_4 rfl)) (
  ce_fc (P := P_Jx4a65c_elementData_915e3) (ok_li (ok_aald dJx4a65c_elementData_915e3_5)) (
  ce_fc (P := P_Jx4a65c_elementData_915e3) (ok_reta dJx4a65c_elementData_915e3_6 rfl (Or.inl ⟨_, rfl⟩)) (
  ce_fn (P := P_Jx4a65c_elementData_915e3))))))
noncomputable def ta_Jx4a65c_elementData_915e3 : Nat → Option ce_N := (ce_fd tb_Jx4a65c_elementData_915e3_0)
theorem tx_Jx4a65c_elementData_915e3 : ∀ pc f, ta_Jx4a65c_elementData_915e3 pc = some f → P_Jx4a65c_elementData_915e3 pc f := (ce_fd_ok (P := P_Jx4a65c_elementData_915e3) tk_Jx4a65c_elementData_915e3_0)
noncomputable def F_Jx4a65c_elementData_915e3 : ce_C := ce_M ta_Jx4a65c_elementData_915e3 2 0 0 1000000
theorem m_Jx4a65c_elementData_915e3 : ∀ l : Launch, l.stackTraces = false → ce_MS l yJx4a65c_elementData_915e3 (.code yJx4a65c_elementData_915e3 cJx4a65c_elementData_915e3 2 (some (.object "java/lang/Object"))) 0 0 0 F_Jx4a65c_elementData_915e3 := fun l hl => ce_met hl (by decide +kernel) tx_Jx4a65c_elementData_915e3
theorem hp_Jx4a65c_elementData_915e3 : yJx4a65c_elementData_915e3.cls ≠ "java/lang/invoke/MethodHandle" ∧ yJx4a65c_elementData_915e3.cls ≠ "java/lang/invoke/VarHandle" ∧ (parseMethodDescriptor yJx4a65c_elementData_915e3.desc).map (fun d => d.parameters.length) = some 1 := by decide +kernel
abbrev P_Jx4a65c_grow_92f84 : Nat → ce_N → Prop := ce_OKN "java/util/ArrayList" "grow" cJx4a65c_grow_92f84 4 (some (.array (.object "java/lang/Object"))) 0 (some [])
noncomputable def tb_Jx4a65c_grow_92f84_0 : List (Nat × ce_N) := [(0, ce_li (ce_aload 0 1)),
  (1, ce_li (ce_getf 3 1 4)),
  (4, ce_li (ce_alen 5)),
  (5, ce_li (ce_istore 2 6 4)),
  (6, ce_li (ce_iload 2 7)),
  (7, ce_li (ce_if false true false 20 10)),
  (10, ce_li (ce_aload 0 11)),
  (11, ce_li (ce_getf 3 1 14)),
  (14, ce_li (ce_push (.inr (.inr (.inl (.inr 1)))) 17)),
  (17, ce_li (ce_acmp false 45 20)),
  (45, ce_li (ce_aload 0 46)),
  (46, ce_li (ce_push (.inl (.inl (10))) 48)),
  (48, ce_li (ce_iload 1 49)),
  (49, ce_li (ce_mm true 52))]
theorem tk_Jx4a65c_grow_92f84_0 : ∀ x ∈ tb_Jx4a65c_grow_92f84_0, P_Jx4a65c_grow_92f84 x.1 x.2 :=
  ce_fc (P := P_Jx4a65c_grow_92f84) (ok_li (ok_aload_n dJx4a65c_grow_92f84_0 rfl)) (
  ce_fc (P := P_Jx4a65c_grow_92f84) (ok_li (ok_getf (ci := 3) (k := 1) (C := RJx4a65c) (T := TJx4a65c) (N := 3) dJx4a65c_grow_92f84_1 rfl ce_uJx4a65c (by decide) gw_1505 (fun _ _ _ _ h => h))) (
  ce_fc (P := P_Jx4a65c_grow_92f84) (ok_li (ok_alen dJx4a65c_grow_92f84_4)) (
  ce_fc (P := P_Jx4a65c_grow_92f84) (ok_li (ok_istore_n dJx4a65c_grow_92f84_5 rfl)) (
  ce_fc (P := P_Jx4a65c_grow_92f84) (ok_li (ok_iload_n dJx4a65c_grow_92f84_6 rfl)) (
  ce_fc (P := P_Jx4a65c_grow_92f84) (ok_li (ok_if_gt dJx4a65c_grow_92f84_7 (by decide))) (
  ce_fc (P := P_Jx4a65c_grow_92f84) (ok_li (ok_aload_n dJx4a65c_grow_92f84_10 rfl)) (
  ce_fc (P := P_Jx4a65c_grow_92f84) (ok_li (ok_getf (ci := 3) (k := 1) (C := RJx4a65c) (T := TJx4a65c) (N := 3) dJx4a65c_grow_92f84_11 rfl ce_uJx4a65c (by decide) gw_1505 (fun _ _ _ _ h => h))) (
  ce_fc (P := P_Jx4a65c_grow_92f84) (ok_li (ok_gets (sv := (.inr (.inr (.inl (.inr 1))))) ce_z6 dJx4a65c_grow_92f84_14 gw_1503 rfl)) (
  ce_fc (P := P_Jx4a65c_grow_92f84) (ok_li (ok_acmp_eq dJx4a65c_grow_92f84_17 (by decide))) (
  ce_fc (P := P_Jx4a65c_grow_92f84) (ok_li (ok_aload_n dJx4a65c_grow_92f84_45 rfl)) (
  ce_fc (P := P_Jx4a65c_grow_92f84) (ok_li (ok_bipush dJx4a65c_grow_92f84_46 (by decide))) (
  ce_fc (P := P_Jx4a65c_grow_92f84) (ok_li (ok_iload_n dJx4a65c_grow_92f84_48 rfl)) (
  ce_fc (P := P_Jx4a65c_grow_92f84) (ok_li (ok_mmax dJx4a65c_grow_92f84_49 gw_1783 gw_593 gw_25 gw_594)) (
  ce_fn (P := P_Jx4a65c_grow_92f84)))))))))))))))
noncomputable def tb_Jx4a65c_grow_92f84_1 : List (Nat × ce_N) := [(52, ce_li (ce_newa 6 3 55)),
  (55, ce_li (ce_dup_x1 56)),
  (56, ce_li (ce_putf (tyJx4a65c 1) 3 1 59)),
  (59, ce_reta)]
theorem tk_Jx4a65c_grow_92f84_1 : ∀ x ∈ tb_Jx4a65c_grow_92f84_1, P_Jx4a65c_grow_92f84 x.1 x.2 :=
  ce_fc (P := P_Jx4a65c_grow_92f84) (ok_li (ok_newq (C := "java/lang/Object") (t := 6) dJx4a65c_grow_92f84_52 gw_1784 (by decide) (fun _ => rfl) (fun z ad n => ce_refs (by decide) (by decide) (by decide) z ad n))) (
  ce_fc (P := P_Jx4a65c_grow_92f84) (ok_li (ok_dup_x1 dJx4a65c_grow_92f84_55)) (
  ce_fc (P := P_Jx4a65c_grow_92f84) (ok_li (ok_putf (ci := 3) (k := 1) (C := RJx4a65c) (T := TJx4a65c) (N := 3) (ty0 := tyJx4a65c) dJx4a65c_grow_92f84_56 rfl ce_uJx4a65c (by decide) gw_1505 (fun _ _ _ _ h => h) tyJx4a65c_ok nmJx4a65c (Or.inl rfl))) (
  ce_fc (P := P_Jx4a65c_grow_92f84) (ok_reta dJx4a65c_grow_92f84_59 rfl (Or.inr ⟨_, rfl⟩)) (
  ce_fn (P := P_Jx4a65c_grow_92f84)))))
noncomputable def ta_Jx4a65c_grow_92f84 : Nat → Option ce_N := (ce_tr 52 (ce_fd tb_Jx4a65c_grow_92f84_0) (ce_fd tb_Jx4a65c_grow_92f84_1))
theorem tx_Jx4a65c_grow_92f84 : ∀ pc f, ta_Jx4a65c_grow_92f84 pc = some f → P_Jx4a65c_grow_92f84 pc f := (ce_tr_ok (P := P_Jx4a65c_grow_92f84) (ce_fd_ok (P := P_Jx4a65c_grow_92f84) tk_Jx4a65c_grow_92f84_0) (ce_fd_ok (P := P_Jx4a65c_grow_92f84) tk_Jx4a65c_grow_92f84_1))
noncomputable def F_Jx4a65c_grow_92f84 : ce_C := ce_M ta_Jx4a65c_grow_92f84 4 1 10 1000000
theorem m_Jx4a65c_grow_92f84 : ∀ l : Launch, l.stackTraces = false → ce_MS l yJx4a65c_grow_92f84 (.code yJx4a65c_grow_92f84 cJx4a65c_grow_92f84 4 (some (.array (.object "java/lang/Object")))) 0 1 10 F_Jx4a65c_grow_92f84 := fun l hl => ce_met hl (by decide +kernel) tx_Jx4a65c_grow_92f84
theorem hp_Jx4a65c_grow_92f84 : yJx4a65c_grow_92f84.cls ≠ "java/lang/invoke/MethodHandle" ∧ yJx4a65c_grow_92f84.cls ≠ "java/lang/invoke/VarHandle" ∧ (parseMethodDescriptor yJx4a65c_grow_92f84.desc).map (fun d => d.parameters.length) = some 1 := by decide +kernel
abbrev P_Jx4a65c_isEmpty_aae02 : Nat → ce_N → Prop := ce_OKN "java/util/ArrayList" "isEmpty" cJx4a65c_isEmpty_aae02 1 (some .boolean) 0 (some [])
noncomputable def tb_Jx4a65c_isEmpty_aae02_0 : List (Nat × ce_N) := [(0, ce_li (ce_aload 0 1)),
  (1, ce_li (ce_getf 3 2 4)),
  (4, ce_li (ce_if true false true 11 7)),
  (7, ce_li (ce_push (.inl (.inl (1))) 8)),
  (8, ce_li (ce_goto 12)),
  (12, ce_reti .boolean)]
theorem tk_Jx4a65c_isEmpty_aae02_0 : ∀ x ∈ tb_Jx4a65c_isEmpty_aae02_0, P_Jx4a65c_isEmpty_aae02 x.1 x.2 :=
  ce_fc (P := P_Jx4a65c_isEmpty_aae02) (ok_li (ok_aload_n dJx4a65c_isEmpty_aae02_0 rfl)) (
  ce_fc (P := P_Jx4a65c_isEmpty_aae02) (ok_li (ok_getf (ci := 3) (k := 2) (C := RJx4a65c) (T := TJx4a65c) (N := 3) dJx4a65c_isEmpty_aae02_1 rfl ce_uJx4a65c (by decide) gw_1508 (fun _ _ _ _ h => h))) (
  ce_fc (P := P_Jx4a65c_isEmpty_aae02) (ok_li (ok_if_ne dJx4a65c_isEmpty_aae02_4 (by decide))) (
  ce_fc (P := P_Jx4a65c_isEmpty_aae02) (ok_li (ok_iconst dJx4a65c_isEmpty_aae02_7)) (
  ce_fc (P := P_Jx4a65c_isEmpty_aae02) (ok_li (ok_goto dJx4a65c_isEmpty_aae02_8 (by decide))) (
  ce_fc (P := P_Jx4a65c_isEmpty_aae02) (ok_reti dJx4a65c_isEmpty_aae02_12 rfl) (
  ce_fn (P := P_Jx4a65c_isEmpty_aae02)))))))
noncomputable def ta_Jx4a65c_isEmpty_aae02 : Nat → Option ce_N := (ce_fd tb_Jx4a65c_isEmpty_aae02_0)
theorem tx_Jx4a65c_isEmpty_aae02 : ∀ pc f, ta_Jx4a65c_isEmpty_aae02 pc = some f → P_Jx4a65c_isEmpty_aae02 pc f := (ce_fd_ok (P := P_Jx4a65c_isEmpty_aae02) tk_Jx4a65c_isEmpty_aae02_0)
noncomputable def F_Jx4a65c_isEmpty_aae02 : ce_C := ce_M ta_Jx4a65c_isEmpty_aae02 1 0 0 1000000
theorem m_Jx4a65c_isEmpty_aae02 : ∀ l : Launch, l.stackTraces = false → ce_MS l yJx4a65c_isEmpty_aae02 (.code yJx4a65c_isEmpty_aae02 cJx4a65c_isEmpty_aae02 1 (some .boolean)) 0 0 0 F_Jx4a65c_isEmpty_aae02 := fun l hl => ce_met hl (by decide +kernel) tx_Jx4a65c_isEmpty_aae02
theorem hp_Jx4a65c_isEmpty_aae02 : yJx4a65c_isEmpty_aae02.cls ≠ "java/lang/invoke/MethodHandle" ∧ yJx4a65c_isEmpty_aae02.cls ≠ "java/lang/invoke/VarHandle" ∧ (parseMethodDescriptor yJx4a65c_isEmpty_aae02.desc).map (fun d => d.parameters.length) = some 0 := by decide +kernel
abbrev P_Jx4a65c_size_8abf5 : Nat → ce_N → Prop := ce_OKN "java/util/ArrayList" "size" cJx4a65c_size_8abf5 1 (some .int) 0 (some [])
noncomputable def tb_Jx4a65c_size_8abf5_0 : List (Nat × ce_N) := [(0, ce_li (ce_aload 0 1)),
  (1, ce_li (ce_getf 3 2 4)),
  (4, ce_reti .int)]
theorem tk_Jx4a65c_size_8abf5_0 : ∀ x ∈ tb_Jx4a65c_size_8abf5_0, P_Jx4a65c_size_8abf5 x.1 x.2 :=
  ce_fc (P := P_Jx4a65c_size_8abf5) (ok_li (ok_aload_n dJx4a65c_size_8abf5_0 rfl)) (
  ce_fc (P := P_Jx4a65c_size_8abf5) (ok_li (ok_getf (ci := 3) (k := 2) (C := RJx4a65c) (T := TJx4a65c) (N := 3) dJx4a65c_size_8abf5_1 rfl ce_uJx4a65c (by decide) gw_1508 (fun _ _ _ _ h => h))) (
  ce_fc (P := P_Jx4a65c_size_8abf5) (ok_reti dJx4a65c_size_8abf5_4 rfl) (
  ce_fn (P := P_Jx4a65c_size_8abf5))))
noncomputable def ta_Jx4a65c_size_8abf5 : Nat → Option ce_N := (ce_fd tb_Jx4a65c_size_8abf5_0)
theorem tx_Jx4a65c_size_8abf5 : ∀ pc f, ta_Jx4a65c_size_8abf5 pc = some f → P_Jx4a65c_size_8abf5 pc f := (ce_fd_ok (P := P_Jx4a65c_size_8abf5) tk_Jx4a65c_size_8abf5_0)
noncomputable def F_Jx4a65c_size_8abf5 : ce_C := ce_M ta_Jx4a65c_size_8abf5 1 0 0 1000000
theorem m_Jx4a65c_size_8abf5 : ∀ l : Launch, l.stackTraces = false → ce_MS l yJx4a65c_size_8abf5 (.code yJx4a65c_size_8abf5 cJx4a65c_size_8abf5 1 (some .int)) 0 0 0 F_Jx4a65c_size_8abf5 := fun l hl => ce_met hl (by decide +kernel) tx_Jx4a65c_size_8abf5
theorem hp_Jx4a65c_size_8abf5 : yJx4a65c_size_8abf5.cls ≠ "java/lang/invoke/MethodHandle" ∧ yJx4a65c_size_8abf5.cls ≠ "java/lang/invoke/VarHandle" ∧ (parseMethodDescriptor yJx4a65c_size_8abf5.desc).map (fun d => d.parameters.length) = some 0 := by decide +kernel
abbrev P_Jxa1e45_init_da8c8 : Nat → ce_N → Prop := ce_OKN "java/util/AbstractCollection" "<init>" cJxa1e45_init_da8c8 1 none 0 (some [])
noncomputable def tb_Jxa1e45_init_da8c8_0 : List (Nat × ce_N) := [(0, ce_li (ce_aload 0 1)),
  (1, ce_li (ce_oi 4)),
  (4, ce_ret0)]
theorem tk_Jxa1e45_init_da8c8_0 : ∀ x ∈ tb_Jxa1e45_init_da8c8_0, P_Jxa1e45_init_da8c8 x.1 x.2 :=
  ce_fc (P := P_Jxa1e45_init_da8c8) (ok_li (ok_aload_n dJxa1e45_init_da8c8_0 rfl)) (
  ce_fc (P := P_Jxa1e45_init_da8c8) (ok_li (ok_oi dJxa1e45_init_da8c8_1 gw_1502 gw_57 gw_58)) (
  ce_fc (P := P_Jxa1e45_init_da8c8) (ok_ret0 dJxa1e45_init_da8c8_4 rfl) (
  ce_fn (P := P_Jxa1e45_init_da8c8))))
noncomputable def ta_Jxa1e45_init_da8c8 : Nat → Option ce_N := (ce_fd tb_Jxa1e45_init_da8c8_0)
theorem tx_Jxa1e45_init_da8c8 : ∀ pc f, ta_Jxa1e45_init_da8c8 pc = some f → P_Jxa1e45_init_da8c8 pc f := (ce_fd_ok (P := P_Jxa1e45_init_da8c8) tk_Jxa1e45_init_da8c8_0)
noncomputable def F_Jxa1e45_init_da8c8 : ce_C := ce_M ta_Jxa1e45_init_da8c8 1 0 0 1000000
theorem m_Jxa1e45_init_da8c8 : ∀ l : Launch, l.stackTraces = false → ce_MS l yJxa1e45_init_da8c8 (.code yJxa1e45_init_da8c8 cJxa1e45_init_da8c8 1 none) 0 0 0 F_Jxa1e45_init_da8c8 := fun l hl => ce_met hl (by decide +kernel) tx_Jxa1e45_init_da8c8
theorem hp_Jxa1e45_init_da8c8 : yJxa1e45_init_da8c8.cls ≠ "java/lang/invoke/MethodHandle" ∧ yJxa1e45_init_da8c8.cls ≠ "java/lang/invoke/VarHandle" ∧ (parseMethodDescriptor yJxa1e45_init_da8c8.desc).map (fun d => d.parameters.length) = some 0 := by decide +kernel
abbrev P_X0_init : Nat → ce_N → Prop := ce_OKN "Carcasswright$Board" "<init>" cX0_init 1 none 0 (some [])
noncomputable def tb_X0_init_0 : List (Nat × ce_N) := [(0, ce_li (ce_aload 0 1)),
  (1, ce_li (ce_oi 4)),
  (4, ce_ret0)]
theorem tk_X0_init_0 : ∀ x ∈ tb_X0_init_0, P_X0_init x.1 x.2 :=
  ce_fc (P := P_X0_init) (ok_li (ok_aload_n dX0_init_0 rfl)) (
  ce_fc (P := P_X0_init) (ok_li (ok_oi dX0_init_1 gw_296 gw_57 gw_58)) (
  ce_fc (P := P_X0_init) (ok_ret0 dX0_init_4 rfl) (
  ce_fn (P := P_X0_init))))
noncomputable def ta_X0_init : Nat → Option ce_N := (ce_fd tb_X0_init_0)
theorem tx_X0_init : ∀ pc f, ta_X0_init pc = some f → P_X0_init pc f := (ce_fd_ok (P := P_X0_init) tk_X0_init_0)
noncomputable def F_X0_init : ce_C := ce_M ta_X0_init 1 0 0 1000000
theorem m_X0_init : ∀ l : Launch, l.stackTraces = false → ce_MS l yX0_init (.code yX0_init cX0_init 1 none) 0 0 0 F_X0_init := fun l hl => ce_met hl (by decide +kernel) tx_X0_init
theorem hp_X0_init : yX0_init.cls ≠ "java/lang/invoke/MethodHandle" ∧ yX0_init.cls ≠ "java/lang/invoke/VarHandle" ∧ (parseMethodDescriptor yX0_init.desc).map (fun d => d.parameters.length) = some 0 := by decide +kernel
abbrev P_X10_init : Nat → ce_N → Prop := ce_OKN "Carcasswright$Wall" "<init>" cX10_init 1 none 0 (some [])
noncomputable def tb_X10_init_0 : List (Nat × ce_N) := [(0, ce_li (ce_aload 0 1)),
  (1, ce_li (ce_oi 4)),
  (4, ce_li (ce_aload 0 5)),
  (5, ce_li (ce_push (.inl (.inl (101))) 7)),
  (7, ce_li (ce_putf (tyX10 0) 14 0 10)),
  (10, ce_ret0)]
theorem tk_X10_init_0 : ∀ x ∈ tb_X10_init_0, P_X10_init x.1 x.2 :=
  ce_fc (P := P_X10_init) (ok_li (ok_aload_n dX10_init_0 rfl)) (
  ce_fc (P := P_X10_init) (ok_li (ok_oi dX10_init_1 gw_169 gw_57 gw_58)) (
  ce_fc (P := P_X10_init) (ok_li (ok_aload_n dX10_init_4 rfl)) (
  ce_fc (P := P_X10_init) (ok_li (ok_bipush dX10_init_5 (by decide))) (
  ce_fc (P := P_X10_init) (ok_li (ok_putf (ci := 14) (k := 0) (C := RX10) (T := TX10) (N := 6) (ty0 := tyX10) dX10_init_7 rfl ce_uX10 (by decide) gw_170 (fun _ _ _ _ h => h) tyX10_ok nmX10 (Or.inl rfl))) (
  ce_fc (P := P_X10_init) (ok_ret0 dX10_init_10 rfl) (
  ce_fn (P := P_X10_init)))))))
noncomputable def ta_X10_init : Nat → Option ce_N := (ce_fd tb_X10_init_0)
theorem tx_X10_init : ∀ pc f, ta_X10_init pc = some f → P_X10_init pc f := (ce_fd_ok (P := P_X10_init) tk_X10_init_0)
noncomputable def F_X10_init : ce_C := ce_M ta_X10_init 1 0 0 1000000
theorem m_X10_init : ∀ l : Launch, l.stackTraces = false → ce_MS l yX10_init (.code yX10_init cX10_init 1 none) 0 0 0 F_X10_init := fun l hl => ce_met hl (by decide +kernel) tx_X10_init
theorem hp_X10_init : yX10_init.cls ≠ "java/lang/invoke/MethodHandle" ∧ yX10_init.cls ≠ "java/lang/invoke/VarHandle" ∧ (parseMethodDescriptor yX10_init.desc).map (fun d => d.parameters.length) = some 0 := by decide +kernel
abbrev P_X11_isOutside : Nat → ce_N → Prop := ce_OKN "Carcasswright" "isOutside" cX11_isOutside 3 (some .boolean) 0 (some [])
noncomputable def tb_X11_isOutside_0 : List (Nat × ce_N) := [(0, ce_li (ce_iload 0 1)),
  (1, ce_li (ce_iload 1 2)),
  (2, ce_li (ce_icmp false false false 10 5)),
  (5, ce_li (ce_iload 0 6)),
  (6, ce_li (ce_iload 2 7)),
  (7, ce_li (ce_icmp false true true 14 10)),
  (14, ce_li (ce_push (.inl (.inl (0))) 15)),
  (15, ce_reti .boolean)]
theorem tk_X11_isOutside_0 : ∀ x ∈ tb_X11_isOutside_0, P_X11_isOutside x.1 x.2 :=
  ce_fc (P := P_X11_isOutside) (ok_li (ok_iload_n dX11_isOutside_0 rfl)) (
  ce_fc (P := P_X11_isOutside) (ok_li (ok_iload_n dX11_isOutside_1 rfl)) (
  ce_fc (P := P_X11_isOutside) (ok_li (ok_icmp_lt dX11_isOutside_2 (by decide))) (
  ce_fc (P := P_X11_isOutside) (ok_li (ok_iload_n dX11_isOutside_5 rfl)) (
  ce_fc (P := P_X11_isOutside) (ok_li (ok_iload_n dX11_isOutside_6 rfl)) (
  ce_fc (P := P_X11_isOutside) (ok_li (ok_icmp_le dX11_isOutside_7 (by decide))) (
  ce_fc (P := P_X11_isOutside) (ok_li (ok_iconst dX11_isOutside_14)) (
  ce_fc (P := P_X11_isOutside) (ok_reti dX11_isOutside_15 rfl) (
  ce_fn (P := P_X11_isOutside)))))))))
noncomputable def ta_X11_isOutside : Nat → Option ce_N := (ce_fd tb_X11_isOutside_0)
theorem tx_X11_isOutside : ∀ pc f, ta_X11_isOutside pc = some f → P_X11_isOutside pc f := (ce_fd_ok (P := P_X11_isOutside) tk_X11_isOutside_0)
noncomputable def F_X11_isOutside : ce_C := ce_M ta_X11_isOutside 3 0 0 1000000
theorem m_X11_isOutside : ∀ l : Launch, l.stackTraces = false → ce_MS l yX11_isOutside (.code yX11_isOutside cX11_isOutside 3 (some .boolean)) 0 0 0 F_X11_isOutside := fun l hl => ce_met hl (by decide +kernel) tx_X11_isOutside
theorem hp_X11_isOutside : yX11_isOutside.cls ≠ "java/lang/invoke/MethodHandle" ∧ yX11_isOutside.cls ≠ "java/lang/invoke/VarHandle" ∧ (parseMethodDescriptor yX11_isOutside.desc).map (fun d => d.parameters.length) = some 3 := by decide +kernel
abbrev P_X1_init : Nat → ce_N → Prop := ce_OKN "Carcasswright$Jobs" "<init>" cX1_init 1 none 0 (some [])
noncomputable def tb_X1_init_0 : List (Nat × ce_N) := [(0, ce_li (ce_aload 0 1)),
  (1, ce_li (ce_oi 4)),
  (4, ce_li (ce_aload 0 5)),
  (5, ce_li (ce_push (.inl (.inl (6))) 7)),
  (7, ce_li (ce_newa 0 2 9)),
  (9, ce_li (ce_putf (tyX1 0) 5 0 12)),
  (12, ce_li (ce_aload 0 13)),
  (13, ce_li (ce_push (.inl (.inl (6))) 15)),
  (15, ce_li (ce_newa 0 2 17)),
  (17, ce_li (ce_putf (tyX1 1) 5 1 20)),
  (20, ce_li (ce_aload 0 21)),
  (21, ce_li (ce_push (.inl (.inl (6))) 23)),
  (23, ce_li (ce_newa 0 2 25)),
  (25, ce_li (ce_putf (tyX1 2) 5 2 28))]
theorem tk_X1_init_0 : ∀ x ∈ tb_X1_init_0, P_X1_init x.1 x.2 :=
  ce_fc (P := P_X1_init) (ok_li (ok_aload_n dX1_init_0 rfl)) (
  ce_fc (P := P_X1_init) (ok_li (ok_oi dX1_init_1 gw_424 gw_57 gw_58)) (
  ce_fc (P := P_X1_init) (ok_li (ok_aload_n dX1_init_4 rfl)) (
  ce_fc (P := P_X1_init) (ok_li (ok_bipush dX1_init_5 (by decide))) (
  ce_fc (P := P_X1_init) (ok_li (ok_newa_int dX1_init_7 gw_193)) (
  ce_fc (P := P_X1_init) (ok_li (ok_putf (ci := 5) (k := 0) (C := RX1) (T := TX1) (N := 8) (ty0 := tyX1) dX1_init_9 rfl ce_uX1 (by decide) gw_425 (fun _ _ _ _ h => h) tyX1_ok nmX1 (Or.inr ⟨rfl, rfl, rfl⟩))) (
  ce_fc (P := P_X1_init) (ok_li (ok_aload_n dX1_init_12 rfl)) (
  ce_fc (P := P_X1_init) (ok_li (ok_bipush dX1_init_13 (by decide))) (
  ce_fc (P := P_X1_init) (ok_li (ok_newa_int dX1_init_15 gw_193)) (
  ce_fc (P := P_X1_init) (ok_li (ok_putf (ci := 5) (k := 1) (C := RX1) (T := TX1) (N := 8) (ty0 := tyX1) dX1_init_17 rfl ce_uX1 (by decide) gw_426 (fun _ _ _ _ h => h) tyX1_ok nmX1 (Or.inr ⟨rfl, rfl, rfl⟩))) (
  ce_fc (P := P_X1_init) (ok_li (ok_aload_n dX1_init_20 rfl)) (
  ce_fc (P := P_X1_init) (ok_li (ok_bipush dX1_init_21 (by decide))) (
  ce_fc (P := P_X1_init) (ok_li (ok_newa_int dX1_init_23 gw_193)) (
  ce_fc (P := P_X1_init) (ok_li (ok_putf (ci := 5) (k := 2) (C := RX1) (T := TX1) (N := 8) (ty0 := tyX1) dX1_init_25 rfl ce_uX1 (by decide) gw_427 (fun _ _ _ _ h => h) tyX1_ok nmX1 (Or.inr ⟨rfl, rfl, rfl⟩))) (
  ce_fn (P := P_X1_init)))))))))))))))
noncomputable def tb_X1_init_1 : List (Nat × ce_N) := [(28, ce_li (ce_aload 0 29)),
  (29, ce_li (ce_push (.inl (.inl (6))) 31)),
  (31, ce_li (ce_newa 0 2 33)),
  (33, ce_li (ce_putf (tyX1 3) 5 3 36)),
  (36, ce_li (ce_aload 0 37)),
  (37, ce_li (ce_push (.inl (.inl (6))) 39)),
  (39, ce_li (ce_newa 0 2 41)),
  (41, ce_li (ce_putf (tyX1 4) 5 4 44)),
  (44, ce_li (ce_aload 0 45)),
  (45, ce_li (ce_push (.inl (.inl (2))) 46)),
  (46, ce_li (ce_putf (tyX1 6) 5 6 49)),
  (49, ce_ret0)]
theorem tk_X1_init_1 : ∀ x ∈ tb_X1_init_1, P_X1_init x.1 x.2 :=
  ce_fc (P := P_X1_init) (ok_li (ok_aload_n dX1_init_28 rfl)) (
  ce_fc (P := P_X1_init) (ok_li (ok_bipush dX1_init_29 (by decide))) (
  ce_fc (P := P_X1_init) (ok_li (ok_newa_int dX1_init_31 gw_193)) (
  ce_fc (P := P_X1_init) (ok_li (ok_putf (ci := 5) (k := 3) (C := RX1) (T := TX1) (N := 8) (ty0 := tyX1) dX1_init_33 rfl ce_uX1 (by decide) gw_428 (fun _ _ _ _ h => h) tyX1_ok nmX1 (Or.inr ⟨rfl, rfl, rfl⟩))) (
  ce_fc (P := P_X1_init) (ok_li (ok_aload_n dX1_init_36 rfl)) (
  ce_fc (P := P_X1_init) (ok_li (ok_bipush dX1_init_37 (by decide))) (
  ce_fc (P := P_X1_init) (ok_li (ok_newa_int dX1_init_39 gw_193)) (
  ce_fc (P := P_X1_init) (ok_li (ok_putf (ci := 5) (k := 4) (C := RX1) (T := TX1) (N := 8) (ty0 := tyX1) dX1_init_41 rfl ce_uX1 (by decide) gw_429 (fun _ _ _ _ h => h) tyX1_ok nmX1 (Or.inr ⟨rfl, rfl, rfl⟩))) (
  ce_fc (P := P_X1_init) (ok_li (ok_aload_n dX1_init_44 rfl)) (
  ce_fc (P := P_X1_init) (ok_li (ok_iconst dX1_init_45)) (
  ce_fc (P := P_X1_init) (ok_li (ok_putf (ci := 5) (k := 6) (C := RX1) (T := TX1) (N := 8) (ty0 := tyX1) dX1_init_46 rfl ce_uX1 (by decide) gw_433 (fun _ _ _ _ h => h) tyX1_ok nmX1 (Or.inl rfl))) (
  ce_fc (P := P_X1_init) (ok_ret0 dX1_init_49 rfl) (
  ce_fn (P := P_X1_init)))))))))))))
noncomputable def ta_X1_init : Nat → Option ce_N := (ce_tr 28 (ce_fd tb_X1_init_0) (ce_fd tb_X1_init_1))
theorem tx_X1_init : ∀ pc f, ta_X1_init pc = some f → P_X1_init pc f := (ce_tr_ok (P := P_X1_init) (ce_fd_ok (P := P_X1_init) tk_X1_init_0) (ce_fd_ok (P := P_X1_init) tk_X1_init_1))
noncomputable def F_X1_init : ce_C := ce_M ta_X1_init 1 5 30 1000000
theorem m_X1_init : ∀ l : Launch, l.stackTraces = false → ce_MS l yX1_init (.code yX1_init cX1_init 1 none) 0 5 30 F_X1_init := fun l hl => ce_met hl (by decide +kernel) tx_X1_init
theorem hp_X1_init : yX1_init.cls ≠ "java/lang/invoke/MethodHandle" ∧ yX1_init.cls ≠ "java/lang/invoke/VarHandle" ∧ (parseMethodDescriptor yX1_init.desc).map (fun d => d.parameters.length) = some 0 := by decide +kernel
abbrev P_X20_init : Nat → ce_N → Prop := ce_OKN "CarcasswrightModel$Wall" "<init>" cX20_init 3 none 0 (some [])
noncomputable def tb_X20_init_0 : List (Nat × ce_N) := [(0, ce_li (ce_aload 0 1)),
  (1, ce_li (ce_oi 4)),
  (4, ce_li (ce_aload 0 5)),
  (5, ce_li (ce_iload 1 6)),
  (6, ce_li (ce_putf (tyX20 0) 19 0 9)),
  (9, ce_li (ce_aload 0 10)),
  (10, ce_li (ce_iload 2 11)),
  (11, ce_li (ce_putf (tyX20 1) 19 1 14)),
  (14, ce_li (ce_aload 0 15)),
  (15, ce_li (ce_iload 2 16)),
  (16, ce_li (ce_putf (tyX20 2) 19 2 19)),
  (19, ce_ret0)]
theorem tk_X20_init_0 : ∀ x ∈ tb_X20_init_0, P_X20_init x.1 x.2 :=
  ce_fc (P := P_X20_init) (ok_li (ok_aload_n dX20_init_0 rfl)) (
  ce_fc (P := P_X20_init) (ok_li (ok_oi dX20_init_1 gw_1690 gw_57 gw_58)) (
  ce_fc (P := P_X20_init) (ok_li (ok_aload_n dX20_init_4 rfl)) (
  ce_fc (P := P_X20_init) (ok_li (ok_iload_n dX20_init_5 rfl)) (
  ce_fc (P := P_X20_init) (ok_li (ok_putf (ci := 19) (k := 0) (C := RX20) (T := TX20) (N := 5) (ty0 := tyX20) dX20_init_6 rfl ce_uX20 (by decide) gw_1691 (fun _ _ _ _ h => h) tyX20_ok nmX20 (Or.inr ⟨rfl, rfl, rfl⟩))) (
  ce_fc (P := P_X20_init) (ok_li (ok_aload_n dX20_init_9 rfl)) (
  ce_fc (P := P_X20_init) (ok_li (ok_iload_n dX20_init_10 rfl)) (
  ce_fc (P := P_X20_init) (ok_li (ok_putf (ci := 19) (k := 1) (C := RX20) (T := TX20) (N := 5) (ty0 := tyX20) dX20_init_11 rfl ce_uX20 (by decide) gw_1693 (fun _ _ _ _ h => h) tyX20_ok nmX20 (Or.inr ⟨rfl, rfl, rfl⟩))) (
  ce_fc (P := P_X20_init) (ok_li (ok_aload_n dX20_init_14 rfl)) (
  ce_fc (P := P_X20_init) (ok_li (ok_iload_n dX20_init_15 rfl)) (
  ce_fc (P := P_X20_init) (ok_li (ok_putf (ci := 19) (k := 2) (C := RX20) (T := TX20) (N := 5) (ty0 := tyX20) dX20_init_16 rfl ce_uX20 (by decide) gw_1695 (fun _ _ _ _ h => h) tyX20_ok nmX20 (Or.inl rfl))) (
  ce_fc (P := P_X20_init) (ok_ret0 dX20_init_19 rfl) (
  ce_fn (P := P_X20_init)))))))))))))
noncomputable def ta_X20_init : Nat → Option ce_N := (ce_fd tb_X20_init_0)
theorem tx_X20_init : ∀ pc f, ta_X20_init pc = some f → P_X20_init pc f := (ce_fd_ok (P := P_X20_init) tk_X20_init_0)
noncomputable def F_X20_init : ce_C := ce_M ta_X20_init 3 0 0 1000000
theorem m_X20_init : ∀ l : Launch, l.stackTraces = false → ce_MS l yX20_init (.code yX20_init cX20_init 3 none) 0 0 0 F_X20_init := fun l hl => ce_met hl (by decide +kernel) tx_X20_init
theorem hp_X20_init : yX20_init.cls ≠ "java/lang/invoke/MethodHandle" ∧ yX20_init.cls ≠ "java/lang/invoke/VarHandle" ∧ (parseMethodDescriptor yX20_init.desc).map (fun d => d.parameters.length) = some 2 := by decide +kernel
abbrev P_X21_in : Nat → ce_N → Prop := ce_OKN "CarcasswrightModel" "in" cX21_in 3 (some .boolean) 0 (some [])
noncomputable def tb_X21_in_0 : List (Nat × ce_N) := [(0, ce_li (ce_iload 0 1)),
  (1, ce_li (ce_iload 1 2)),
  (2, ce_li (ce_icmp false false false 14 5)),
  (5, ce_li (ce_iload 0 6)),
  (6, ce_li (ce_iload 2 7)),
  (7, ce_li (ce_icmp false true false 14 10)),
  (10, ce_li (ce_push (.inl (.inl (1))) 11)),
  (11, ce_li (ce_goto 15)),
  (15, ce_reti .boolean)]
theorem tk_X21_in_0 : ∀ x ∈ tb_X21_in_0, P_X21_in x.1 x.2 :=
  ce_fc (P := P_X21_in) (ok_li (ok_iload_n dX21_in_0 rfl)) (
  ce_fc (P := P_X21_in) (ok_li (ok_iload_n dX21_in_1 rfl)) (
  ce_fc (P := P_X21_in) (ok_li (ok_icmp_lt dX21_in_2 (by decide))) (
  ce_fc (P := P_X21_in) (ok_li (ok_iload_n dX21_in_5 rfl)) (
  ce_fc (P := P_X21_in) (ok_li (ok_iload_n dX21_in_6 rfl)) (
  ce_fc (P := P_X21_in) (ok_li (ok_icmp_gt dX21_in_7 (by decide))) (
  ce_fc (P := P_X21_in) (ok_li (ok_iconst dX21_in_10)) (
  ce_fc (P := P_X21_in) (ok_li (ok_goto dX21_in_11 (by decide))) (
  ce_fc (P := P_X21_in) (ok_reti dX21_in_15 rfl) (
  ce_fn (P := P_X21_in))))))))))
noncomputable def ta_X21_in : Nat → Option ce_N := (ce_fd tb_X21_in_0)
theorem tx_X21_in : ∀ pc f, ta_X21_in pc = some f → P_X21_in pc f := (ce_fd_ok (P := P_X21_in) tk_X21_in_0)
noncomputable def F_X21_in : ce_C := ce_M ta_X21_in 3 0 0 1000000
theorem m_X21_in : ∀ l : Launch, l.stackTraces = false → ce_MS l yX21_in (.code yX21_in cX21_in 3 (some .boolean)) 0 0 0 F_X21_in := fun l hl => ce_met hl (by decide +kernel) tx_X21_in
theorem hp_X21_in : yX21_in.cls ≠ "java/lang/invoke/MethodHandle" ∧ yX21_in.cls ≠ "java/lang/invoke/VarHandle" ∧ (parseMethodDescriptor yX21_in.desc).map (fun d => d.parameters.length) = some 3 := by decide +kernel
abbrev P_X21_thrown : Nat → ce_N → Prop := ce_OKN "CarcasswrightModel" "thrown" cX21_thrown 1 (some .int) 0 (some [])
noncomputable def tb_X21_thrown_0 : List (Nat × ce_N) := [(0, ce_li (ce_aload 0 1)),
  (1, ce_li (ce_getf 20 0 4)),
  (4, ce_reti .int)]
theorem tk_X21_thrown_0 : ∀ x ∈ tb_X21_thrown_0, P_X21_thrown x.1 x.2 :=
  ce_fc (P := P_X21_thrown) (ok_li (ok_aload_n dX21_thrown_0 rfl)) (
  ce_fc (P := P_X21_thrown) (ok_li (ok_getf (ci := 20) (k := 0) (C := RX21) (T := TX21) (N := 20) dX21_thrown_1 rfl ce_uX21 (by decide) gw_1521 (fun _ _ _ _ h => h))) (
  ce_fc (P := P_X21_thrown) (ok_reti dX21_thrown_4 rfl) (
  ce_fn (P := P_X21_thrown))))
noncomputable def ta_X21_thrown : Nat → Option ce_N := (ce_fd tb_X21_thrown_0)
theorem tx_X21_thrown : ∀ pc f, ta_X21_thrown pc = some f → P_X21_thrown pc f := (ce_fd_ok (P := P_X21_thrown) tk_X21_thrown_0)
noncomputable def F_X21_thrown : ce_C := ce_M ta_X21_thrown 1 0 0 1000000
theorem m_X21_thrown : ∀ l : Launch, l.stackTraces = false → ce_MS l yX21_thrown (.code yX21_thrown cX21_thrown 1 (some .int)) 0 0 0 F_X21_thrown := fun l hl => ce_met hl (by decide +kernel) tx_X21_thrown
theorem hp_X21_thrown : yX21_thrown.cls ≠ "java/lang/invoke/MethodHandle" ∧ yX21_thrown.cls ≠ "java/lang/invoke/VarHandle" ∧ (parseMethodDescriptor yX21_thrown.desc).map (fun d => d.parameters.length) = some 0 := by decide +kernel
abbrev P_X2_init : Nat → ce_N → Prop := ce_OKN "Carcasswright$ModuleType" "<init>" cX2_init 1 none 0 (some [])
noncomputable def tb_X2_init_0 : List (Nat × ce_N) := [(0, ce_li (ce_aload 0 1)),
  (1, ce_li (ce_oi 4)),
  (4, ce_li (ce_aload 0 5)),
  (5, ce_li (ce_push (.inl (.inl (98))) 7)),
  (7, ce_li (ce_putf (tyX2 0) 6 0 10)),
  (10, ce_ret0)]
theorem tk_X2_init_0 : ∀ x ∈ tb_X2_init_0, P_X2_init x.1 x.2 :=
  ce_fc (P := P_X2_init) (ok_li (ok_aload_n dX2_init_0 rfl)) (
  ce_fc (P := P_X2_init) (ok_li (ok_oi dX2_init_1 gw_71 gw_57 gw_58)) (
  ce_fc (P := P_X2_init) (ok_li (ok_aload_n dX2_init_4 rfl)) (
  ce_fc (P := P_X2_init) (ok_li (ok_bipush dX2_init_5 (by decide))) (
  ce_fc (P := P_X2_init) (ok_li (ok_putf (ci := 6) (k := 0) (C := RX2) (T := TX2) (N := 9) (ty0 := tyX2) dX2_init_7 rfl ce_uX2 (by decide) gw_72 (fun _ _ _ _ h => h) tyX2_ok nmX2 (Or.inl rfl))) (
  ce_fc (P := P_X2_init) (ok_ret0 dX2_init_10 rfl) (
  ce_fn (P := P_X2_init)))))))
noncomputable def ta_X2_init : Nat → Option ce_N := (ce_fd tb_X2_init_0)
theorem tx_X2_init : ∀ pc f, ta_X2_init pc = some f → P_X2_init pc f := (ce_fd_ok (P := P_X2_init) tk_X2_init_0)
noncomputable def F_X2_init : ce_C := ce_M ta_X2_init 1 0 0 1000000
theorem m_X2_init : ∀ l : Launch, l.stackTraces = false → ce_MS l yX2_init (.code yX2_init cX2_init 1 none) 0 0 0 F_X2_init := fun l hl => ce_met hl (by decide +kernel) tx_X2_init
theorem hp_X2_init : yX2_init.cls ≠ "java/lang/invoke/MethodHandle" ∧ yX2_init.cls ≠ "java/lang/invoke/VarHandle" ∧ (parseMethodDescriptor yX2_init.desc).map (fun d => d.parameters.length) = some 0 := by decide +kernel
abbrev P_X3_init : Nat → ce_N → Prop := ce_OKN "Carcasswright$Obstacle" "<init>" cX3_init 1 none 0 (some [])
noncomputable def tb_X3_init_0 : List (Nat × ce_N) := [(0, ce_li (ce_aload 0 1)),
  (1, ce_li (ce_oi 4)),
  (4, ce_ret0)]
theorem tk_X3_init_0 : ∀ x ∈ tb_X3_init_0, P_X3_init x.1 x.2 :=
  ce_fc (P := P_X3_init) (ok_li (ok_aload_n dX3_init_0 rfl)) (
  ce_fc (P := P_X3_init) (ok_li (ok_oi dX3_init_1 gw_198 gw_57 gw_58)) (
  ce_fc (P := P_X3_init) (ok_ret0 dX3_init_4 rfl) (
  ce_fn (P := P_X3_init))))
noncomputable def ta_X3_init : Nat → Option ce_N := (ce_fd tb_X3_init_0)
theorem tx_X3_init : ∀ pc f, ta_X3_init pc = some f → P_X3_init pc f := (ce_fd_ok (P := P_X3_init) tk_X3_init_0)
noncomputable def F_X3_init : ce_C := ce_M ta_X3_init 1 0 0 1000000
theorem m_X3_init : ∀ l : Launch, l.stackTraces = false → ce_MS l yX3_init (.code yX3_init cX3_init 1 none) 0 0 0 F_X3_init := fun l hl => ce_met hl (by decide +kernel) tx_X3_init
theorem hp_X3_init : yX3_init.cls ≠ "java/lang/invoke/MethodHandle" ∧ yX3_init.cls ≠ "java/lang/invoke/VarHandle" ∧ (parseMethodDescriptor yX3_init.desc).map (fun d => d.parameters.length) = some 0 := by decide +kernel
abbrev P_X4_init : Nat → ce_N → Prop := ce_OKN "Carcasswright$Packer" "<init>" cX4_init 1 none 0 (some [])
noncomputable def tb_X4_init_0 : List (Nat × ce_N) := [(0, ce_li (ce_aload 0 1)),
  (1, ce_li (ce_oi 4)),
  (4, ce_li (ce_aload 0 5)),
  (5, ce_li (ce_push (.inl (.inl (25))) 7)),
  (7, ce_li (ce_newa 0 2 9)),
  (9, ce_li (ce_putf (tyX4 0) 8 0 12)),
  (12, ce_li (ce_aload 0 13)),
  (13, ce_li (ce_push (.inl (.inl (25))) 15)),
  (15, ce_li (ce_newa 0 2 17)),
  (17, ce_li (ce_putf (tyX4 1) 8 1 20)),
  (20, ce_li (ce_aload 0 21)),
  (21, ce_li (ce_push (.inl (.inl (25))) 23)),
  (23, ce_li (ce_newa 0 2 25)),
  (25, ce_li (ce_putf (tyX4 2) 8 2 28))]
theorem tk_X4_init_0 : ∀ x ∈ tb_X4_init_0, P_X4_init x.1 x.2 :=
  ce_fc (P := P_X4_init) (ok_li (ok_aload_n dX4_init_0 rfl)) (
  ce_fc (P := P_X4_init) (ok_li (ok_oi dX4_init_1 gw_404 gw_57 gw_58)) (
  ce_fc (P := P_X4_init) (ok_li (ok_aload_n dX4_init_4 rfl)) (
  ce_fc (P := P_X4_init) (ok_li (ok_bipush dX4_init_5 (by decide))) (
  ce_fc (P := P_X4_init) (ok_li (ok_newa_int dX4_init_7 gw_193)) (
  ce_fc (P := P_X4_init) (ok_li (ok_putf (ci := 8) (k := 0) (C := RX4) (T := TX4) (N := 4) (ty0 := tyX4) dX4_init_9 rfl ce_uX4 (by decide) gw_405 (fun _ _ _ _ h => h) tyX4_ok nmX4 (Or.inr ⟨rfl, rfl, rfl⟩))) (
  ce_fc (P := P_X4_init) (ok_li (ok_aload_n dX4_init_12 rfl)) (
  ce_fc (P := P_X4_init) (ok_li (ok_bipush dX4_init_13 (by decide))) (
  ce_fc (P := P_X4_init) (ok_li (ok_newa_int dX4_init_15 gw_193)) (
  ce_fc (P := P_X4_init) (ok_li (ok_putf (ci := 8) (k := 1) (C := RX4) (T := TX4) (N := 4) (ty0 := tyX4) dX4_init_17 rfl ce_uX4 (by decide) gw_406 (fun _ _ _ _ h => h) tyX4_ok nmX4 (Or.inr ⟨rfl, rfl, rfl⟩))) (
  ce_fc (P := P_X4_init) (ok_li (ok_aload_n dX4_init_20 rfl)) (
  ce_fc (P := P_X4_init) (ok_li (ok_bipush dX4_init_21 (by decide))) (
  ce_fc (P := P_X4_init) (ok_li (ok_newa_int dX4_init_23 gw_193)) (
  ce_fc (P := P_X4_init) (ok_li (ok_putf (ci := 8) (k := 2) (C := RX4) (T := TX4) (N := 4) (ty0 := tyX4) dX4_init_25 rfl ce_uX4 (by decide) gw_407 (fun _ _ _ _ h => h) tyX4_ok nmX4 (Or.inr ⟨rfl, rfl, rfl⟩))) (
  ce_fn (P := P_X4_init)))))))))))))))
noncomputable def tb_X4_init_1 : List (Nat × ce_N) := [(28, ce_ret0)]
theorem tk_X4_init_1 : ∀ x ∈ tb_X4_init_1, P_X4_init x.1 x.2 :=
  ce_fc (P := P_X4_init) (ok_ret0 dX4_init_28 rfl) (
  ce_fn (P := P_X4_init))
noncomputable def ta_X4_init : Nat → Option ce_N := (ce_tr 28 (ce_fd tb_X4_init_0) (ce_fd tb_X4_init_1))
theorem tx_X4_init : ∀ pc f, ta_X4_init pc = some f → P_X4_init pc f := (ce_tr_ok (P := P_X4_init) (ce_fd_ok (P := P_X4_init) tk_X4_init_0) (ce_fd_ok (P := P_X4_init) tk_X4_init_1))
noncomputable def F_X4_init : ce_C := ce_M ta_X4_init 1 3 75 1000000
theorem m_X4_init : ∀ l : Launch, l.stackTraces = false → ce_MS l yX4_init (.code yX4_init cX4_init 1 none) 0 3 75 F_X4_init := fun l hl => ce_met hl (by decide +kernel) tx_X4_init
theorem hp_X4_init : yX4_init.cls ≠ "java/lang/invoke/MethodHandle" ∧ yX4_init.cls ≠ "java/lang/invoke/VarHandle" ∧ (parseMethodDescriptor yX4_init.desc).map (fun d => d.parameters.length) = some 0 := by decide +kernel
abbrev P_X5_init : Nat → ce_N → Prop := ce_OKN "Carcasswright$PlacedModule" "<init>" cX5_init 2 none 0 (some [])
noncomputable def tb_X5_init_0 : List (Nat × ce_N) := [(0, ce_li (ce_aload 0 1)),
  (1, ce_li (ce_oi 4)),
  (4, ce_li (ce_aload 0 5)),
  (5, ce_li (ce_aload 1 6)),
  (6, ce_li (ce_putf (tyX5 0) 9 0 9)),
  (9, ce_ret0)]
theorem tk_X5_init_0 : ∀ x ∈ tb_X5_init_0, P_X5_init x.1 x.2 :=
  ce_fc (P := P_X5_init) (ok_li (ok_aload_n dX5_init_0 rfl)) (
  ce_fc (P := P_X5_init) (ok_li (ok_oi dX5_init_1 gw_219 gw_57 gw_58)) (
  ce_fc (P := P_X5_init) (ok_li (ok_aload_n dX5_init_4 rfl)) (
  ce_fc (P := P_X5_init) (ok_li (ok_aload_n dX5_init_5 rfl)) (
  ce_fc (P := P_X5_init) (ok_li (ok_putf (ci := 9) (k := 0) (C := RX5) (T := TX5) (N := 5) (ty0 := tyX5) dX5_init_6 rfl ce_uX5 (by decide) gw_220 (fun _ _ _ _ h => h) tyX5_ok nmX5 (Or.inl rfl))) (
  ce_fc (P := P_X5_init) (ok_ret0 dX5_init_9 rfl) (
  ce_fn (P := P_X5_init)))))))
noncomputable def ta_X5_init : Nat → Option ce_N := (ce_fd tb_X5_init_0)
theorem tx_X5_init : ∀ pc f, ta_X5_init pc = some f → P_X5_init pc f := (ce_fd_ok (P := P_X5_init) tk_X5_init_0)
noncomputable def F_X5_init : ce_C := ce_M ta_X5_init 2 0 0 1000000
theorem m_X5_init : ∀ l : Launch, l.stackTraces = false → ce_MS l yX5_init (.code yX5_init cX5_init 2 none) 0 0 0 F_X5_init := fun l hl => ce_met hl (by decide +kernel) tx_X5_init
theorem hp_X5_init : yX5_init.cls ≠ "java/lang/invoke/MethodHandle" ∧ yX5_init.cls ≠ "java/lang/invoke/VarHandle" ∧ (parseMethodDescriptor yX5_init.desc).map (fun d => d.parameters.length) = some 1 := by decide +kernel
abbrev P_X6_firstBehind : Nat → ce_N → Prop := ce_OKN "Carcasswright$Room" "firstBehind" cX6_firstBehind 9 (some (.object "Carcasswright$PlacedModule")) 0 (some [])
noncomputable def tb_X6_firstBehind_0 : List (Nat × ce_N) := [(0, ce_li (ce_push (.inr (.inr (.inr .null))) 1)),
  (1, ce_li (ce_astore 4 3 9)),
  (3, ce_li (ce_iload 2 4)),
  (4, ce_li (ce_if true false false 12 7)),
  (12, ce_li (ce_push (.inl (.inl (117))) 14)),
  (14, ce_li (ce_istore 5 16 9)),
  (16, ce_li (ce_push (.inl (.inl (0))) 17)),
  (17, ce_li (ce_istore 6 19 9)),
  (19, ce_li (ce_iload 6 21)),
  (21, ce_li (ce_aload 0 22)),
  (22, ce_li (ce_getf 10 8 25)),
  (25, ce_li (ce_icmp false false true 107 28)),
  (107, ce_li (ce_aload 4 109)),
  (109, ce_reta)]
theorem tk_X6_firstBehind_0 : ∀ x ∈ tb_X6_firstBehind_0, P_X6_firstBehind x.1 x.2 :=
  ce_fc (P := P_X6_firstBehind) (ok_li (ok_null dX6_firstBehind_0)) (
  ce_fc (P := P_X6_firstBehind) (ok_li (ok_astore dX6_firstBehind_1)) (
  ce_fc (P := P_X6_firstBehind) (ok_li (ok_iload_n dX6_firstBehind_3 rfl)) (
  ce_fc (P := P_X6_firstBehind) (ok_li (ok_if_eq dX6_firstBehind_4 (by decide))) (
  ce_fc (P := P_X6_firstBehind) (ok_li (ok_bipush dX6_firstBehind_12 (by decide))) (
  ce_fc (P := P_X6_firstBehind) (ok_li (ok_istore dX6_firstBehind_14)) (
  ce_fc (P := P_X6_firstBehind) (ok_li (ok_iconst dX6_firstBehind_16)) (
  ce_fc (P := P_X6_firstBehind) (ok_li (ok_istore dX6_firstBehind_17)) (
  ce_fc (P := P_X6_firstBehind) (ok_li (ok_iload dX6_firstBehind_19)) (
  ce_fc (P := P_X6_firstBehind) (ok_li (ok_aload_n dX6_firstBehind_21 rfl)) (
  ce_fc (P := P_X6_firstBehind) (ok_li (ok_getf (ci := 10) (k := 8) (C := RX6) (T := TX6) (N := 10) dX6_firstBehind_22 rfl ce_uX6 (by decide) gw_260 (fun _ _ _ _ h => h))) (
  ce_fc (P := P_X6_firstBehind) (ok_li (ok_icmp_ge dX6_firstBehind_25 (by decide))) (
  ce_fc (P := P_X6_firstBehind) (ok_li (ok_aload dX6_firstBehind_107)) (
  ce_fc (P := P_X6_firstBehind) (ok_reta dX6_firstBehind_109 rfl (Or.inl ⟨_, rfl⟩)) (
  ce_fn (P := P_X6_firstBehind)))))))))))))))
noncomputable def ta_X6_firstBehind : Nat → Option ce_N := (ce_fd tb_X6_firstBehind_0)
theorem tx_X6_firstBehind : ∀ pc f, ta_X6_firstBehind pc = some f → P_X6_firstBehind pc f := (ce_fd_ok (P := P_X6_firstBehind) tk_X6_firstBehind_0)
noncomputable def F_X6_firstBehind : ce_C := ce_M ta_X6_firstBehind 9 0 0 1000000
theorem m_X6_firstBehind : ∀ l : Launch, l.stackTraces = false → ce_MS l yX6_firstBehind (.code yX6_firstBehind cX6_firstBehind 9 (some (.object "Carcasswright$PlacedModule"))) 0 0 0 F_X6_firstBehind := fun l hl => ce_met hl (by decide +kernel) tx_X6_firstBehind
theorem hp_X6_firstBehind : yX6_firstBehind.cls ≠ "java/lang/invoke/MethodHandle" ∧ yX6_firstBehind.cls ≠ "java/lang/invoke/VarHandle" ∧ (parseMethodDescriptor yX6_firstBehind.desc).map (fun d => d.parameters.length) = some 3 := by decide +kernel
abbrev P_X6_wallAt : Nat → ce_N → Prop := ce_OKN "Carcasswright$Room" "wallAt" cX6_wallAt 2 (some (.object "Carcasswright$Wall")) 0 (some [])
noncomputable def tb_X6_wallAt_0 : List (Nat × ce_N) := [(0, ce_li (ce_iload 1 1)),
  (1, ce_li (ce_if false false false 18 4)),
  (4, ce_li (ce_iload 1 5)),
  (5, ce_li (ce_aload 0 6)),
  (6, ce_li (ce_getf 10 6 9)),
  (9, ce_li (ce_icmp false false true 18 12)),
  (12, ce_li (ce_iload 1 13)),
  (13, ce_li (ce_push (.inl (.inl (6))) 15)),
  (15, ce_li (ce_icmp false false false 26 18)),
  (26, ce_li (ce_aload 0 27)),
  (27, ce_li (ce_getf 10 0 30)),
  (30, ce_li (ce_iload 1 31)),
  (31, ce_li (ce_aald 32)),
  (32, ce_reta)]
theorem tk_X6_wallAt_0 : ∀ x ∈ tb_X6_wallAt_0, P_X6_wallAt x.1 x.2 :=
  ce_fc (P := P_X6_wallAt) (ok_li (ok_iload_n dX6_wallAt_0 rfl)) (
  ce_fc (P := P_X6_wallAt) (ok_li (ok_if_lt dX6_wallAt_1 (by decide))) (
  ce_fc (P := P_X6_wallAt) (ok_li (ok_iload_n dX6_wallAt_4 rfl)) (
  ce_fc (P := P_X6_wallAt) (ok_li (ok_aload_n dX6_wallAt_5 rfl)) (
  ce_fc (P := P_X6_wallAt) (ok_li (ok_getf (ci := 10) (k := 6) (C := RX6) (T := TX6) (N := 10) dX6_wallAt_6 rfl ce_uX6 (by decide) gw_255 (fun _ _ _ _ h => h))) (
  ce_fc (P := P_X6_wallAt) (ok_li (ok_icmp_ge dX6_wallAt_9 (by decide))) (
  ce_fc (P := P_X6_wallAt) (ok_li (ok_iload_n dX6_wallAt_12 rfl)) (
  ce_fc (P := P_X6_wallAt) (ok_li (ok_bipush dX6_wallAt_13 (by decide))) (
  ce_fc (P := P_X6_wallAt) (ok_li (ok_icmp_lt dX6_wallAt_15 (by decide))) (
  ce_fc (P := P_X6_wallAt) (ok_li (ok_aload_n dX6_wallAt_26 rfl)) (
  ce_fc (P := P_X6_wallAt) (ok_li (ok_getf (ci := 10) (k := 0) (C := RX6) (T := TX6) (N := 10) dX6_wallAt_27 rfl ce_uX6 (by decide) gw_247 (fun _ _ _ _ h => h))) (
  ce_fc (P := P_X6_wallAt) (ok_li (ok_iload_n dX6_wallAt_30 rfl)) (
  ce_fc (P := P_X6_wallAt) (ok_li (ok_aald dX6_wallAt_31)) (
  ce_fc (P := P_X6_wallAt) (ok_reta dX6_wallAt_32 rfl (Or.inl ⟨_, rfl⟩)) (
  ce_fn (P := P_X6_wallAt)))))))))))))))
noncomputable def ta_X6_wallAt : Nat → Option ce_N := (ce_fd tb_X6_wallAt_0)
theorem tx_X6_wallAt : ∀ pc f, ta_X6_wallAt pc = some f → P_X6_wallAt pc f := (ce_fd_ok (P := P_X6_wallAt) tk_X6_wallAt_0)
noncomputable def F_X6_wallAt : ce_C := ce_M ta_X6_wallAt 2 0 0 1000000
theorem m_X6_wallAt : ∀ l : Launch, l.stackTraces = false → ce_MS l yX6_wallAt (.code yX6_wallAt cX6_wallAt 2 (some (.object "Carcasswright$Wall"))) 0 0 0 F_X6_wallAt := fun l hl => ce_met hl (by decide +kernel) tx_X6_wallAt
theorem hp_X6_wallAt : yX6_wallAt.cls ≠ "java/lang/invoke/MethodHandle" ∧ yX6_wallAt.cls ≠ "java/lang/invoke/VarHandle" ∧ (parseMethodDescriptor yX6_wallAt.desc).map (fun d => d.parameters.length) = some 1 := by decide +kernel
abbrev P_X9_first : Nat → ce_N → Prop := ce_OKN "Carcasswright$Types" "first" cX9_first 1 (some (.object "Carcasswright$ModuleType")) 0 (some [])
noncomputable def tb_X9_first_0 : List (Nat × ce_N) := [(0, ce_li (ce_aload 0 1)),
  (1, ce_li (ce_getf 13 1 4)),
  (4, ce_li (ce_push (.inl (.inl (0))) 5)),
  (5, ce_li (ce_aald 6)),
  (6, ce_reta)]
theorem tk_X9_first_0 : ∀ x ∈ tb_X9_first_0, P_X9_first x.1 x.2 :=
  ce_fc (P := P_X9_first) (ok_li (ok_aload_n dX9_first_0 rfl)) (
  ce_fc (P := P_X9_first) (ok_li (ok_getf (ci := 13) (k := 1) (C := RX9) (T := TX9) (N := 10) dX9_first_1 rfl ce_uX9 (by decide) gw_115 (fun _ _ _ _ h => h))) (
  ce_fc (P := P_X9_first) (ok_li (ok_iconst dX9_first_4)) (
  ce_fc (P := P_X9_first) (ok_li (ok_aald dX9_first_5)) (
  ce_fc (P := P_X9_first) (ok_reta dX9_first_6 rfl (Or.inl ⟨_, rfl⟩)) (
  ce_fn (P := P_X9_first))))))
noncomputable def ta_X9_first : Nat → Option ce_N := (ce_fd tb_X9_first_0)
theorem tx_X9_first : ∀ pc f, ta_X9_first pc = some f → P_X9_first pc f := (ce_fd_ok (P := P_X9_first) tk_X9_first_0)
noncomputable def F_X9_first : ce_C := ce_M ta_X9_first 1 0 0 1000000
theorem m_X9_first : ∀ l : Launch, l.stackTraces = false → ce_MS l yX9_first (.code yX9_first cX9_first 1 (some (.object "Carcasswright$ModuleType"))) 0 0 0 F_X9_first := fun l hl => ce_met hl (by decide +kernel) tx_X9_first
theorem hp_X9_first : yX9_first.cls ≠ "java/lang/invoke/MethodHandle" ∧ yX9_first.cls ≠ "java/lang/invoke/VarHandle" ∧ (parseMethodDescriptor yX9_first.desc).map (fun d => d.parameters.length) = some 0 := by decide +kernel
abbrev P_J0_length_8abf5 : Nat → ce_N → Prop := ce_OKN "java/lang/String" "length" cJ0_length_8abf5 1 (some .int) 1 (some [])
noncomputable def tb_J0_length_8abf5_0 : List (Nat × ce_N) := [(0, ce_li (ce_aload 0 1)),
  (1, ce_li (ce_gets 0 4)),
  (4, ce_li (ce_alen 5)),
  (5, ce_li (ce_aload 0 6)),
  (6, ce_call 1 0 0 9 (.inr true) (ce_CV 0 F_J0_coder_7d493)),
  (9, ce_li (ce_bin ce_shr 10)),
  (10, ce_reti .int)]
theorem tk_J0_length_8abf5_0 : ∀ x ∈ tb_J0_length_8abf5_0, P_J0_length_8abf5 x.1 x.2 :=
  ce_fc (P := P_J0_length_8abf5) (ok_li (ok_aload_n dJ0_length_8abf5_0 rfl)) (
  ce_fc (P := P_J0_length_8abf5) (ok_li (ok_gets0 dJ0_length_8abf5_1 gw_2141)) (
  ce_fc (P := P_J0_length_8abf5) (ok_li (ok_alen dJ0_length_8abf5_4)) (
  ce_fc (P := P_J0_length_8abf5) (ok_li (ok_aload_n dJ0_length_8abf5_5 rfl)) (
  ce_fc (P := P_J0_length_8abf5) (ok_call (ru_V (ci := 0) (C := RJ0) (Tf := TJ0) (N := 4) m_J0_coder_7d493 (by decide) (by decide) rfl gw_1613 gw_1610 gw_1611 gw_1612 gw_23 ⟨rfl, hp_J0_coder_7d493⟩ dJ0_length_8abf5_6) ca_t) (
  ce_fc (P := P_J0_length_8abf5) (ok_li (ok_ishr dJ0_length_8abf5_9)) (
  ce_fc (P := P_J0_length_8abf5) (ok_reti dJ0_length_8abf5_10 rfl) (
  ce_fn (P := P_J0_length_8abf5))))))))
noncomputable def ta_J0_length_8abf5 : Nat → Option ce_N := (ce_fd tb_J0_length_8abf5_0)
theorem tx_J0_length_8abf5 : ∀ pc f, ta_J0_length_8abf5 pc = some f → P_J0_length_8abf5 pc f := (ce_fd_ok (P := P_J0_length_8abf5) tk_J0_length_8abf5_0)
noncomputable def F_J0_length_8abf5 : ce_C := ce_M ta_J0_length_8abf5 1 0 0 1000000
theorem m_J0_length_8abf5 : ∀ l : Launch, l.stackTraces = false → ce_MS l yJ0_length_8abf5 (.code yJ0_length_8abf5 cJ0_length_8abf5 1 (some .int)) 1 0 0 F_J0_length_8abf5 := fun l hl => ce_met hl (by decide +kernel) tx_J0_length_8abf5
theorem hp_J0_length_8abf5 : yJ0_length_8abf5.cls ≠ "java/lang/invoke/MethodHandle" ∧ yJ0_length_8abf5.cls ≠ "java/lang/invoke/VarHandle" ∧ (parseMethodDescriptor yJ0_length_8abf5.desc).map (fun d => d.parameters.length) = some 0 := by decide +kernel
abbrev P_J15_checkIndex_7cf53 : Nat → ce_N → Prop := ce_OKN "java/util/Objects" "checkIndex" cJ15_checkIndex_7cf53 2 (some .int) 1 (some [])
noncomputable def tb_J15_checkIndex_7cf53_0 : List (Nat × ce_N) := [(0, ce_li (ce_iload 0 1)),
  (1, ce_li (ce_iload 1 2)),
  (2, ce_li (ce_push (.inr (.inr (.inr .null))) 3)),
  (3, ce_call 3 0 0 6 (.inr true) F_J3_checkIndex_8e157),
  (6, ce_reti .int)]
theorem tk_J15_checkIndex_7cf53_0 : ∀ x ∈ tb_J15_checkIndex_7cf53_0, P_J15_checkIndex_7cf53 x.1 x.2 :=
  ce_fc (P := P_J15_checkIndex_7cf53) (ok_li (ok_iload_n dJ15_checkIndex_7cf53_0 rfl)) (
  ce_fc (P := P_J15_checkIndex_7cf53) (ok_li (ok_iload_n dJ15_checkIndex_7cf53_1 rfl)) (
  ce_fc (P := P_J15_checkIndex_7cf53) (ok_li (ok_null dJ15_checkIndex_7cf53_2)) (
  ce_fc (P := P_J15_checkIndex_7cf53) (ok_call (ru_S m_J3_checkIndex_8e157 (by decide) (by decide) gw_1863 gw_1861 gw_1862 gw_27 hp_J3_checkIndex_8e157 dJ15_checkIndex_7cf53_3) ca_t) (
  ce_fc (P := P_J15_checkIndex_7cf53) (ok_reti dJ15_checkIndex_7cf53_6 rfl) (
  ce_fn (P := P_J15_checkIndex_7cf53))))))
noncomputable def ta_J15_checkIndex_7cf53 : Nat → Option ce_N := (ce_fd tb_J15_checkIndex_7cf53_0)
theorem tx_J15_checkIndex_7cf53 : ∀ pc f, ta_J15_checkIndex_7cf53 pc = some f → P_J15_checkIndex_7cf53 pc f := (ce_fd_ok (P := P_J15_checkIndex_7cf53) tk_J15_checkIndex_7cf53_0)
noncomputable def F_J15_checkIndex_7cf53 : ce_C := ce_M ta_J15_checkIndex_7cf53 2 0 0 1000000
theorem m_J15_checkIndex_7cf53 : ∀ l : Launch, l.stackTraces = false → ce_MS l yJ15_checkIndex_7cf53 (.code yJ15_checkIndex_7cf53 cJ15_checkIndex_7cf53 2 (some .int)) 1 0 0 F_J15_checkIndex_7cf53 := fun l hl => ce_met hl (by decide +kernel) tx_J15_checkIndex_7cf53
theorem hp_J15_checkIndex_7cf53 : yJ15_checkIndex_7cf53.cls ≠ "java/lang/invoke/MethodHandle" ∧ yJ15_checkIndex_7cf53.cls ≠ "java/lang/invoke/VarHandle" ∧ (parseMethodDescriptor yJ15_checkIndex_7cf53.desc).map (fun d => d.parameters.length) = some 2 := by decide +kernel
abbrev P_J1_indexOf_4cfef : Nat → ce_N → Prop := ce_OKN "java/lang/StringLatin1" "indexOf" cJ1_indexOf_4cfef 4 (some .int) 1 (some [])
noncomputable def tb_J1_indexOf_4cfef_0 : List (Nat × ce_N) := [(0, ce_li (ce_iload 1 1)),
  (1, ce_call 1 0 0 4 (.inr true) F_J1_canEncode_9a6ad),
  (4, ce_li (ce_if true false true 9 7)),
  (9, ce_li (ce_iload 2 10)),
  (10, ce_li (ce_push (.inl (.inl (0))) 11)),
  (11, ce_li (ce_mm true 14)),
  (14, ce_li (ce_istore 2 15 4)),
  (15, ce_li (ce_iload 3 16)),
  (16, ce_li (ce_aload 0 17)),
  (17, ce_li (ce_alen 18)),
  (18, ce_li (ce_mm false 21)),
  (21, ce_li (ce_istore 3 22 4)),
  (22, ce_li (ce_iload 2 23)),
  (23, ce_li (ce_iload 3 24))]
theorem tk_J1_indexOf_4cfef_0 : ∀ x ∈ tb_J1_indexOf_4cfef_0, P_J1_indexOf_4cfef x.1 x.2 :=
  ce_fc (P := P_J1_indexOf_4cfef) (ok_li (ok_iload_n dJ1_indexOf_4cfef_0 rfl)) (
  ce_fc (P := P_J1_indexOf_4cfef) (ok_call (ru_S m_J1_canEncode_9a6ad (by decide) (by decide) gw_1619 gw_1617 gw_1618 gw_24 hp_J1_canEncode_9a6ad dJ1_indexOf_4cfef_1) ca_t) (
  ce_fc (P := P_J1_indexOf_4cfef) (ok_li (ok_if_ne dJ1_indexOf_4cfef_4 (by decide))) (
  ce_fc (P := P_J1_indexOf_4cfef) (ok_li (ok_iload_n dJ1_indexOf_4cfef_9 rfl)) (
  ce_fc (P := P_J1_indexOf_4cfef) (ok_li (ok_iconst dJ1_indexOf_4cfef_10)) (
  ce_fc (P := P_J1_indexOf_4cfef) (ok_li (ok_mmax dJ1_indexOf_4cfef_11 gw_1620 gw_593 gw_25 gw_594)) (
  ce_fc (P := P_J1_indexOf_4cfef) (ok_li (ok_istore_n dJ1_indexOf_4cfef_14 rfl)) (
  ce_fc (P := P_J1_indexOf_4cfef) (ok_li (ok_iload_n dJ1_indexOf_4cfef_15 rfl)) (
  ce_fc (P := P_J1_indexOf_4cfef) (ok_li (ok_aload_n dJ1_indexOf_4cfef_16 rfl)) (
  ce_fc (P := P_J1_indexOf_4cfef) (ok_li (ok_alen dJ1_indexOf_4cfef_17)) (
  ce_fc (P := P_J1_indexOf_4cfef) (ok_li (ok_mmin dJ1_indexOf_4cfef_18 gw_1621 gw_604 gw_25 gw_605)) (
  ce_fc (P := P_J1_indexOf_4cfef) (ok_li (ok_istore_n dJ1_indexOf_4cfef_21 rfl)) (
  ce_fc (P := P_J1_indexOf_4cfef) (ok_li (ok_iload_n dJ1_indexOf_4cfef_22 rfl)) (
  ce_fc (P := P_J1_indexOf_4cfef) (ok_li (ok_iload_n dJ1_indexOf_4cfef_23 rfl)) (
  ce_fn (P := P_J1_indexOf_4cfef)))))))))))))))
noncomputable def tb_J1_indexOf_4cfef_1 : List (Nat × ce_N) := [(24, ce_li (ce_icmp false false false 29 27)),
  (29, ce_li (ce_aload 0 30)),
  (30, ce_li (ce_iload 1 31)),
  (31, ce_li (ce_iload 2 32)),
  (32, ce_li (ce_iload 3 33)),
  (33, ce_call 4 0 0 36 (.inr true) F_J1_indexOfChar_4cfef),
  (36, ce_reti .int)]
theorem tk_J1_indexOf_4cfef_1 : ∀ x ∈ tb_J1_indexOf_4cfef_1, P_J1_indexOf_4cfef x.1 x.2 :=
  ce_fc (P := P_J1_indexOf_4cfef) (ok_li (ok_icmp_lt dJ1_indexOf_4cfef_24 (by decide))) (
  ce_fc (P := P_J1_indexOf_4cfef) (ok_li (ok_aload_n dJ1_indexOf_4cfef_29 rfl)) (
  ce_fc (P := P_J1_indexOf_4cfef) (ok_li (ok_iload_n dJ1_indexOf_4cfef_30 rfl)) (
  ce_fc (P := P_J1_indexOf_4cfef) (ok_li (ok_iload_n dJ1_indexOf_4cfef_31 rfl)) (
  ce_fc (P := P_J1_indexOf_4cfef) (ok_li (ok_iload_n dJ1_indexOf_4cfef_32 rfl)) (
  ce_fc (P := P_J1_indexOf_4cfef) (ok_call (ru_S m_J1_indexOfChar_4cfef (by decide) (by decide) gw_1624 gw_1622 gw_1623 gw_24 hp_J1_indexOfChar_4cfef dJ1_indexOf_4cfef_33) ca_t) (
  ce_fc (P := P_J1_indexOf_4cfef) (ok_reti dJ1_indexOf_4cfef_36 rfl) (
  ce_fn (P := P_J1_indexOf_4cfef))))))))
noncomputable def ta_J1_indexOf_4cfef : Nat → Option ce_N := (ce_tr 24 (ce_fd tb_J1_indexOf_4cfef_0) (ce_fd tb_J1_indexOf_4cfef_1))
theorem tx_J1_indexOf_4cfef : ∀ pc f, ta_J1_indexOf_4cfef pc = some f → P_J1_indexOf_4cfef pc f := (ce_tr_ok (P := P_J1_indexOf_4cfef) (ce_fd_ok (P := P_J1_indexOf_4cfef) tk_J1_indexOf_4cfef_0) (ce_fd_ok (P := P_J1_indexOf_4cfef) tk_J1_indexOf_4cfef_1))
noncomputable def F_J1_indexOf_4cfef : ce_C := ce_M ta_J1_indexOf_4cfef 4 0 0 1000000
theorem m_J1_indexOf_4cfef : ∀ l : Launch, l.stackTraces = false → ce_MS l yJ1_indexOf_4cfef (.code yJ1_indexOf_4cfef cJ1_indexOf_4cfef 4 (some .int)) 1 0 0 F_J1_indexOf_4cfef := fun l hl => ce_met hl (by decide +kernel) tx_J1_indexOf_4cfef
theorem hp_J1_indexOf_4cfef : yJ1_indexOf_4cfef.cls ≠ "java/lang/invoke/MethodHandle" ∧ yJ1_indexOf_4cfef.cls ≠ "java/lang/invoke/VarHandle" ∧ (parseMethodDescriptor yJ1_indexOf_4cfef.desc).map (fun d => d.parameters.length) = some 4 := by decide +kernel
abbrev P_Jx4a65c_grow_d5877 : Nat → ce_N → Prop := ce_OKN "java/util/ArrayList" "grow" cJx4a65c_grow_d5877 1 (some (.array (.object "java/lang/Object"))) 1 (some [])
noncomputable def tb_Jx4a65c_grow_d5877_0 : List (Nat × ce_N) := [(0, ce_li (ce_aload 0 1)),
  (1, ce_li (ce_aload 0 2)),
  (2, ce_li (ce_getf 3 2 5)),
  (5, ce_li (ce_push (.inl (.inl (1))) 6)),
  (6, ce_li (ce_bin ce_addo 7)),
  (7, ce_call 2 1 10 10 (.inr true) (ce_CV 3 F_Jx4a65c_grow_92f84)),
  (10, ce_reta)]
theorem tk_Jx4a65c_grow_d5877_0 : ∀ x ∈ tb_Jx4a65c_grow_d5877_0, P_Jx4a65c_grow_d5877 x.1 x.2 :=
  ce_fc (P := P_Jx4a65c_grow_d5877) (ok_li (ok_aload_n dJx4a65c_grow_d5877_0 rfl)) (
  ce_fc (P := P_Jx4a65c_grow_d5877) (ok_li (ok_aload_n dJx4a65c_grow_d5877_1 rfl)) (
  ce_fc (P := P_Jx4a65c_grow_d5877) (ok_li (ok_getf (ci := 3) (k := 2) (C := RJx4a65c) (T := TJx4a65c) (N := 3) dJx4a65c_grow_d5877_2 rfl ce_uJx4a65c (by decide) gw_1508 (fun _ _ _ _ h => h))) (
  ce_fc (P := P_Jx4a65c_grow_d5877) (ok_li (ok_iconst dJx4a65c_grow_d5877_5)) (
  ce_fc (P := P_Jx4a65c_grow_d5877) (ok_li (ok_iadd dJx4a65c_grow_d5877_6)) (
  ce_fc (P := P_Jx4a65c_grow_d5877) (ok_call (ru_V (ci := 3) (C := RJx4a65c) (Tf := TJx4a65c) (N := 3) m_Jx4a65c_grow_92f84 (by decide) (by decide) rfl gw_1725 gw_1722 gw_1724 gp_6 gw_16 ⟨rfl, hp_Jx4a65c_grow_92f84⟩ dJx4a65c_grow_d5877_7) ca_t) (
  ce_fc (P := P_Jx4a65c_grow_d5877) (ok_reta dJx4a65c_grow_d5877_10 rfl (Or.inr ⟨_, rfl⟩)) (
  ce_fn (P := P_Jx4a65c_grow_d5877))))))))
noncomputable def ta_Jx4a65c_grow_d5877 : Nat → Option ce_N := (ce_fd tb_Jx4a65c_grow_d5877_0)
theorem tx_Jx4a65c_grow_d5877 : ∀ pc f, ta_Jx4a65c_grow_d5877 pc = some f → P_Jx4a65c_grow_d5877 pc f := (ce_fd_ok (P := P_Jx4a65c_grow_d5877) tk_Jx4a65c_grow_d5877_0)
noncomputable def F_Jx4a65c_grow_d5877 : ce_C := ce_M ta_Jx4a65c_grow_d5877 1 1 10 1000000
theorem m_Jx4a65c_grow_d5877 : ∀ l : Launch, l.stackTraces = false → ce_MS l yJx4a65c_grow_d5877 (.code yJx4a65c_grow_d5877 cJx4a65c_grow_d5877 1 (some (.array (.object "java/lang/Object")))) 1 1 10 F_Jx4a65c_grow_d5877 := fun l hl => ce_met hl (by decide +kernel) tx_Jx4a65c_grow_d5877
theorem hp_Jx4a65c_grow_d5877 : yJx4a65c_grow_d5877.cls ≠ "java/lang/invoke/MethodHandle" ∧ yJx4a65c_grow_d5877.cls ≠ "java/lang/invoke/VarHandle" ∧ (parseMethodDescriptor yJx4a65c_grow_d5877.desc).map (fun d => d.parameters.length) = some 0 := by decide +kernel
abbrev P_Jx4a65c_iterator_32c93 : Nat → ce_N → Prop := ce_OKN "java/util/ArrayList" "iterator" cJx4a65c_iterator_32c93 1 (some (.object "java/util/Iterator")) 1 (some [])
noncomputable def tb_Jx4a65c_iterator_32c93_0 : List (Nat × ce_N) := [(0, ce_li (ce_new 2 4 dl_Jx35411 3)),
  (3, ce_li (ce_dup 4)),
  (4, ce_li (ce_aload 0 5)),
  (5, ce_call 2 0 0 8 (.inr true) (ce_CI F_Jx35411_init_45d68)),
  (8, ce_reta)]
theorem tk_Jx4a65c_iterator_32c93_0 : ∀ x ∈ tb_Jx4a65c_iterator_32c93_0, P_Jx4a65c_iterator_32c93 x.1 x.2 :=
  ce_fc (P := P_Jx4a65c_iterator_32c93) (ok_li (ok_new (ci := 2) (C := RJx35411) (T := TJx35411) (N := 4) (ty0 := tyJx35411) dJx4a65c_iterator_32c93_0 rfl ce_uJx35411 tyJx35411_ok gw_1801 gw_1802 gw_34 dv_Jx35411 rfl)) (
  ce_fc (P := P_Jx4a65c_iterator_32c93) (ok_li (ok_dup dJx4a65c_iterator_32c93_3)) (
  ce_fc (P := P_Jx4a65c_iterator_32c93) (ok_li (ok_aload_n dJx4a65c_iterator_32c93_4 rfl)) (
  ce_fc (P := P_Jx4a65c_iterator_32c93) (ok_call (ru_I m_Jx35411_init_45d68 (by decide) (by decide) gw_1805 gw_1803 gw_1804 gw_34 rfl hp_Jx35411_init_45d68 dJx4a65c_iterator_32c93_5) ca_t) (
  ce_fc (P := P_Jx4a65c_iterator_32c93) (ok_reta dJx4a65c_iterator_32c93_8 rfl (Or.inl ⟨_, rfl⟩)) (
  ce_fn (P := P_Jx4a65c_iterator_32c93))))))
noncomputable def ta_Jx4a65c_iterator_32c93 : Nat → Option ce_N := (ce_fd tb_Jx4a65c_iterator_32c93_0)
theorem tx_Jx4a65c_iterator_32c93 : ∀ pc f, ta_Jx4a65c_iterator_32c93 pc = some f → P_Jx4a65c_iterator_32c93 pc f := (ce_fd_ok (P := P_Jx4a65c_iterator_32c93) tk_Jx4a65c_iterator_32c93_0)
noncomputable def F_Jx4a65c_iterator_32c93 : ce_C := ce_M ta_Jx4a65c_iterator_32c93 1 1 4 1000000
theorem m_Jx4a65c_iterator_32c93 : ∀ l : Launch, l.stackTraces = false → ce_MS l yJx4a65c_iterator_32c93 (.code yJx4a65c_iterator_32c93 cJx4a65c_iterator_32c93 1 (some (.object "java/util/Iterator"))) 1 1 4 F_Jx4a65c_iterator_32c93 := fun l hl => ce_met hl (by decide +kernel) tx_Jx4a65c_iterator_32c93
theorem hp_Jx4a65c_iterator_32c93 : yJx4a65c_iterator_32c93.cls ≠ "java/lang/invoke/MethodHandle" ∧ yJx4a65c_iterator_32c93.cls ≠ "java/lang/invoke/VarHandle" ∧ (parseMethodDescriptor yJx4a65c_iterator_32c93.desc).map (fun d => d.parameters.length) = some 0 := by decide +kernel
abbrev P_Jxc12de_init_da8c8 : Nat → ce_N → Prop := ce_OKN "java/util/AbstractList" "<init>" cJxc12de_init_da8c8 1 none 1 (some [])
noncomputable def tb_Jxc12de_init_da8c8_0 : List (Nat × ce_N) := [(0, ce_li (ce_aload 0 1)),
  (1, ce_call 1 0 0 4 (.inr true) (ce_CI F_Jxa1e45_init_da8c8)),
  (4, ce_li (ce_aload 0 5)),
  (5, ce_li (ce_push (.inl (.inl (0))) 6)),
  (6, ce_li (ce_putf (tyJx4a65c 0) 3 0 9)),
  (9, ce_ret0)]
theorem tk_Jxc12de_init_da8c8_0 : ∀ x ∈ tb_Jxc12de_init_da8c8_0, P_Jxc12de_init_da8c8 x.1 x.2 :=
  ce_fc (P := P_Jxc12de_init_da8c8) (ok_li (ok_aload_n dJxc12de_init_da8c8_0 rfl)) (
  ce_fc (P := P_Jxc12de_init_da8c8) (ok_call (ru_I m_Jxa1e45_init_da8c8 (by decide) (by decide) gw_1501 gw_1499 gw_1500 gw_14 rfl hp_Jxa1e45_init_da8c8 dJxc12de_init_da8c8_1) ca_t) (
  ce_fc (P := P_Jxc12de_init_da8c8) (ok_li (ok_aload_n dJxc12de_init_da8c8_4 rfl)) (
  ce_fc (P := P_Jxc12de_init_da8c8) (ok_li (ok_iconst dJxc12de_init_da8c8_5)) (
  ce_fc (P := P_Jxc12de_init_da8c8) (ok_li (ok_putf (ci := 3) (k := 0) (C := RJx4a65c) (T := TJx4a65c) (N := 3) (ty0 := tyJx4a65c) dJxc12de_init_da8c8_6 rfl ce_uJx4a65c (by decide) gw_1509 (fun _ _ _ _ h => h) tyJx4a65c_ok nmJx4a65c (Or.inl rfl))) (
  ce_fc (P := P_Jxc12de_init_da8c8) (ok_ret0 dJxc12de_init_da8c8_9 rfl) (
  ce_fn (P := P_Jxc12de_init_da8c8)))))))
noncomputable def ta_Jxc12de_init_da8c8 : Nat → Option ce_N := (ce_fd tb_Jxc12de_init_da8c8_0)
theorem tx_Jxc12de_init_da8c8 : ∀ pc f, ta_Jxc12de_init_da8c8 pc = some f → P_Jxc12de_init_da8c8 pc f := (ce_fd_ok (P := P_Jxc12de_init_da8c8) tk_Jxc12de_init_da8c8_0)
noncomputable def F_Jxc12de_init_da8c8 : ce_C := ce_M ta_Jxc12de_init_da8c8 1 0 0 1000000
theorem m_Jxc12de_init_da8c8 : ∀ l : Launch, l.stackTraces = false → ce_MS l yJxc12de_init_da8c8 (.code yJxc12de_init_da8c8 cJxc12de_init_da8c8 1 none) 1 0 0 F_Jxc12de_init_da8c8 := fun l hl => ce_met hl (by decide +kernel) tx_Jxc12de_init_da8c8
theorem hp_Jxc12de_init_da8c8 : yJxc12de_init_da8c8.cls ≠ "java/lang/invoke/MethodHandle" ∧ yJxc12de_init_da8c8.cls ≠ "java/lang/invoke/VarHandle" ∧ (parseMethodDescriptor yJxc12de_init_da8c8.desc).map (fun d => d.parameters.length) = some 0 := by decide +kernel
abbrev P_X21_noWall : Nat → ce_N → Prop := ce_OKN "CarcasswrightModel" "noWall" cX21_noWall 2 (some .boolean) 1 (some [])
noncomputable def tb_X21_noWall_0 : List (Nat × ce_N) := [(0, ce_li (ce_aload 0 1)),
  (1, ce_li (ce_iload 1 2)),
  (2, ce_li (ce_push (.inl (.inl (0))) 3)),
  (3, ce_li (ce_aload 0 4)),
  (4, ce_li (ce_getf 20 1 7)),
  (7, ce_call 1 0 0 10 (.inr true) (ce_CV 3 F_Jx4a65c_size_8abf5)),
  (10, ce_li (ce_push (.inl (.inl (1))) 11)),
  (11, ce_li (ce_bin ce_subo 12)),
  (12, ce_call 3 0 0 15 (.inr true) F_X21_in),
  (15, ce_li (ce_if true false false 22 18)),
  (18, ce_li (ce_push (.inl (.inl (0))) 19)),
  (19, ce_li (ce_goto 23)),
  (23, ce_li (ce_putf (tyX21 0) 20 0 26)),
  (26, ce_li (ce_aload 0 27))]
theorem tk_X21_noWall_0 : ∀ x ∈ tb_X21_noWall_0, P_X21_noWall x.1 x.2 :=
  ce_fc (P := P_X21_noWall) (ok_li (ok_aload_n dX21_noWall_0 rfl)) (
  ce_fc (P := P_X21_noWall) (ok_li (ok_iload_n dX21_noWall_1 rfl)) (
  ce_fc (P := P_X21_noWall) (ok_li (ok_iconst dX21_noWall_2)) (
  ce_fc (P := P_X21_noWall) (ok_li (ok_aload_n dX21_noWall_3 rfl)) (
  ce_fc (P := P_X21_noWall) (ok_li (ok_getf (ci := 20) (k := 1) (C := RX21) (T := TX21) (N := 20) dX21_noWall_4 rfl ce_uX21 (by decide) gw_1522 (fun _ _ _ _ h => h))) (
  ce_fc (P := P_X21_noWall) (ok_call (ru_V (ci := 3) (C := RJx4a65c) (Tf := TJx4a65c) (N := 3) m_Jx4a65c_size_8abf5 (by decide) (by decide) rfl gw_1680 gw_1677 gw_1678 gw_1679 gw_16 ⟨rfl, hp_Jx4a65c_size_8abf5⟩ dX21_noWall_7) ca_t) (
  ce_fc (P := P_X21_noWall) (ok_li (ok_iconst dX21_noWall_10)) (
  ce_fc (P := P_X21_noWall) (ok_li (ok_isub dX21_noWall_11)) (
  ce_fc (P := P_X21_noWall) (ok_call (ru_S m_X21_in (by decide) (by decide) gw_1676 gw_1674 gw_1675 gw_13 hp_X21_in dX21_noWall_12) ca_t) (
  ce_fc (P := P_X21_noWall) (ok_li (ok_if_eq dX21_noWall_15 (by decide))) (
  ce_fc (P := P_X21_noWall) (ok_li (ok_iconst dX21_noWall_18)) (
  ce_fc (P := P_X21_noWall) (ok_li (ok_goto dX21_noWall_19 (by decide))) (
  ce_fc (P := P_X21_noWall) (ok_li (ok_putf (ci := 20) (k := 0) (C := RX21) (T := TX21) (N := 20) (ty0 := tyX21) dX21_noWall_23 rfl ce_uX21 (by decide) gw_1521 (fun _ _ _ _ h => h) tyX21_ok nmX21 (Or.inl rfl))) (
  ce_fc (P := P_X21_noWall) (ok_li (ok_aload_n dX21_noWall_26 rfl)) (
  ce_fn (P := P_X21_noWall)))))))))))))))
noncomputable def tb_X21_noWall_1 : List (Nat × ce_N) := [(27, ce_li (ce_getf 20 0 30)),
  (30, ce_li (ce_if false true true 37 33)),
  (37, ce_li (ce_push (.inl (.inl (0))) 38)),
  (38, ce_reti .boolean)]
theorem tk_X21_noWall_1 : ∀ x ∈ tb_X21_noWall_1, P_X21_noWall x.1 x.2 :=
  ce_fc (P := P_X21_noWall) (ok_li (ok_getf (ci := 20) (k := 0) (C := RX21) (T := TX21) (N := 20) dX21_noWall_27 rfl ce_uX21 (by decide) gw_1521 (fun _ _ _ _ h => h))) (
  ce_fc (P := P_X21_noWall) (ok_li (ok_if_le dX21_noWall_30 (by decide))) (
  ce_fc (P := P_X21_noWall) (ok_li (ok_iconst dX21_noWall_37)) (
  ce_fc (P := P_X21_noWall) (ok_reti dX21_noWall_38 rfl) (
  ce_fn (P := P_X21_noWall)))))
noncomputable def ta_X21_noWall : Nat → Option ce_N := (ce_tr 27 (ce_fd tb_X21_noWall_0) (ce_fd tb_X21_noWall_1))
theorem tx_X21_noWall : ∀ pc f, ta_X21_noWall pc = some f → P_X21_noWall pc f := (ce_tr_ok (P := P_X21_noWall) (ce_fd_ok (P := P_X21_noWall) tk_X21_noWall_0) (ce_fd_ok (P := P_X21_noWall) tk_X21_noWall_1))
noncomputable def F_X21_noWall : ce_C := ce_M ta_X21_noWall 2 0 0 1000000
theorem m_X21_noWall : ∀ l : Launch, l.stackTraces = false → ce_MS l yX21_noWall (.code yX21_noWall cX21_noWall 2 (some .boolean)) 1 0 0 F_X21_noWall := fun l hl => ce_met hl (by decide +kernel) tx_X21_noWall
theorem hp_X21_noWall : yX21_noWall.cls ≠ "java/lang/invoke/MethodHandle" ∧ yX21_noWall.cls ≠ "java/lang/invoke/VarHandle" ∧ (parseMethodDescriptor yX21_noWall.desc).map (fun d => d.parameters.length) = some 1 := by decide +kernel
abbrev P_X6_build : Nat → ce_N → Prop := ce_OKN "Carcasswright$Room" "build" cX6_build 5 (some .int) 1 (some [])
noncomputable def tb_X6_build_0 : List (Nat × ce_N) := [(0, ce_li (ce_aload 0 1)),
  (1, ce_li (ce_getf 10 6 4)),
  (4, ce_li (ce_istore 3 5 5)),
  (5, ce_li (ce_aload 0 6)),
  (6, ce_li (ce_dup 7)),
  (7, ce_li (ce_getf 10 6 10)),
  (10, ce_li (ce_push (.inl (.inl (1))) 11)),
  (11, ce_li (ce_bin ce_addo 12)),
  (12, ce_li (ce_putf (tyX6 6) 10 6 15)),
  (15, ce_li (ce_aload 0 16)),
  (16, ce_li (ce_iload 3 17)),
  (17, ce_call 2 0 0 20 (.inr true) (ce_CV 10 F_X6_wallAt)),
  (20, ce_li (ce_astore 4 22 5)),
  (22, ce_li (ce_aload 4 24))]
theorem tk_X6_build_0 : ∀ x ∈ tb_X6_build_0, P_X6_build x.1 x.2 :=
  ce_fc (P := P_X6_build) (ok_li (ok_aload_n dX6_build_0 rfl)) (
  ce_fc (P := P_X6_build) (ok_li (ok_getf (ci := 10) (k := 6) (C := RX6) (T := TX6) (N := 10) dX6_build_1 rfl ce_uX6 (by decide) gw_255 (fun _ _ _ _ h => h))) (
  ce_fc (P := P_X6_build) (ok_li (ok_istore_n dX6_build_4 rfl)) (
  ce_fc (P := P_X6_build) (ok_li (ok_aload_n dX6_build_5 rfl)) (
  ce_fc (P := P_X6_build) (ok_li (ok_dup dX6_build_6)) (
  ce_fc (P := P_X6_build) (ok_li (ok_getf (ci := 10) (k := 6) (C := RX6) (T := TX6) (N := 10) dX6_build_7 rfl ce_uX6 (by decide) gw_255 (fun _ _ _ _ h => h))) (
  ce_fc (P := P_X6_build) (ok_li (ok_iconst dX6_build_10)) (
  ce_fc (P := P_X6_build) (ok_li (ok_iadd dX6_build_11)) (
  ce_fc (P := P_X6_build) (ok_li (ok_putf (ci := 10) (k := 6) (C := RX6) (T := TX6) (N := 10) (ty0 := tyX6) dX6_build_12 rfl ce_uX6 (by decide) gw_255 (fun _ _ _ _ h => h) tyX6_ok nmX6 (Or.inl rfl))) (
  ce_fc (P := P_X6_build) (ok_li (ok_aload_n dX6_build_15 rfl)) (
  ce_fc (P := P_X6_build) (ok_li (ok_iload_n dX6_build_16 rfl)) (
  ce_fc (P := P_X6_build) (ok_call (ru_V (ci := 10) (C := RX6) (Tf := TX6) (N := 10) m_X6_wallAt (by decide) (by decide) rfl gw_487 gw_484 gw_485 gw_486 gw_4 ⟨rfl, hp_X6_wallAt⟩ dX6_build_17) ca_t) (
  ce_fc (P := P_X6_build) (ok_li (ok_astore dX6_build_20)) (
  ce_fc (P := P_X6_build) (ok_li (ok_aload dX6_build_22)) (
  ce_fn (P := P_X6_build)))))))))))))))
noncomputable def tb_X6_build_1 : List (Nat × ce_N) := [(24, ce_li (ce_iload 1 25)),
  (25, ce_li (ce_putf (tyX10 0) 14 0 28)),
  (28, ce_li (ce_aload 4 30)),
  (30, ce_li (ce_iload 2 31)),
  (31, ce_li (ce_putf (tyX10 1) 14 1 34)),
  (34, ce_li (ce_aload 4 36)),
  (36, ce_li (ce_iload 2 37)),
  (37, ce_li (ce_putf (tyX10 2) 14 2 40)),
  (40, ce_li (ce_iload 3 41)),
  (41, ce_reti .int)]
theorem tk_X6_build_1 : ∀ x ∈ tb_X6_build_1, P_X6_build x.1 x.2 :=
  ce_fc (P := P_X6_build) (ok_li (ok_iload_n dX6_build_24 rfl)) (
  ce_fc (P := P_X6_build) (ok_li (ok_putf (ci := 14) (k := 0) (C := RX10) (T := TX10) (N := 6) (ty0 := tyX10) dX6_build_25 rfl ce_uX10 (by decide) gw_171 (fun _ _ _ _ h => h) tyX10_ok nmX10 (Or.inl rfl))) (
  ce_fc (P := P_X6_build) (ok_li (ok_aload dX6_build_28)) (
  ce_fc (P := P_X6_build) (ok_li (ok_iload_n dX6_build_30 rfl)) (
  ce_fc (P := P_X6_build) (ok_li (ok_putf (ci := 14) (k := 1) (C := RX10) (T := TX10) (N := 6) (ty0 := tyX10) dX6_build_31 rfl ce_uX10 (by decide) gw_172 (fun _ _ _ _ h => h) tyX10_ok nmX10 (Or.inl rfl))) (
  ce_fc (P := P_X6_build) (ok_li (ok_aload dX6_build_34)) (
  ce_fc (P := P_X6_build) (ok_li (ok_iload_n dX6_build_36 rfl)) (
  ce_fc (P := P_X6_build) (ok_li (ok_putf (ci := 14) (k := 2) (C := RX10) (T := TX10) (N := 6) (ty0 := tyX10) dX6_build_37 rfl ce_uX10 (by decide) gw_174 (fun _ _ _ _ h => h) tyX10_ok nmX10 (Or.inl rfl))) (
  ce_fc (P := P_X6_build) (ok_li (ok_iload_n dX6_build_40 rfl)) (
  ce_fc (P := P_X6_build) (ok_reti dX6_build_41 rfl) (
  ce_fn (P := P_X6_build)))))))))))
noncomputable def ta_X6_build : Nat → Option ce_N := (ce_tr 24 (ce_fd tb_X6_build_0) (ce_fd tb_X6_build_1))
theorem tx_X6_build : ∀ pc f, ta_X6_build pc = some f → P_X6_build pc f := (ce_tr_ok (P := P_X6_build) (ce_fd_ok (P := P_X6_build) tk_X6_build_0) (ce_fd_ok (P := P_X6_build) tk_X6_build_1))
noncomputable def F_X6_build : ce_C := ce_M ta_X6_build 5 0 0 1000000
theorem m_X6_build : ∀ l : Launch, l.stackTraces = false → ce_MS l yX6_build (.code yX6_build cX6_build 5 (some .int)) 1 0 0 F_X6_build := fun l hl => ce_met hl (by decide +kernel) tx_X6_build
theorem hp_X6_build : yX6_build.cls ≠ "java/lang/invoke/MethodHandle" ∧ yX6_build.cls ≠ "java/lang/invoke/VarHandle" ∧ (parseMethodDescriptor yX6_build.desc).map (fun d => d.parameters.length) = some 2 := by decide +kernel
abbrev P_X6_freeRows : Nat → ce_N → Prop := ce_OKN "Carcasswright$Room" "freeRows" cX6_freeRows 11 (some .int) 1 (some [])
noncomputable def tb_X6_freeRows_0 : List (Nat × ce_N) := [(0, ce_li (ce_aload 0 1)),
  (1, ce_li (ce_iload 1 2)),
  (2, ce_call 2 0 0 5 (.inr true) (ce_CV 10 F_X6_wallAt)),
  (5, ce_li (ce_getf 14 2 8)),
  (8, ce_li (ce_istore 4 10 11)),
  (10, ce_li (ce_push (.inl (.inl (0))) 11)),
  (11, ce_li (ce_istore 5 13 11)),
  (13, ce_li (ce_push (.inl (.inl (0))) 14)),
  (14, ce_li (ce_istore 6 16 11)),
  (16, ce_li (ce_push (.inl (.inl (0))) 17)),
  (17, ce_li (ce_istore 7 19 11)),
  (19, ce_li (ce_push (.inl (.inl (0))) 20)),
  (20, ce_li (ce_istore 8 22 11)),
  (22, ce_li (ce_iload 8 24))]
theorem tk_X6_freeRows_0 : ∀ x ∈ tb_X6_freeRows_0, P_X6_freeRows x.1 x.2 :=
  ce_fc (P := P_X6_freeRows) (ok_li (ok_aload_n dX6_freeRows_0 rfl)) (
  ce_fc (P := P_X6_freeRows) (ok_li (ok_iload_n dX6_freeRows_1 rfl)) (
  ce_fc (P := P_X6_freeRows) (ok_call (ru_V (ci := 10) (C := RX6) (Tf := TX6) (N := 10) m_X6_wallAt (by decide) (by decide) rfl gw_487 gw_484 gw_485 gw_486 gw_4 ⟨rfl, hp_X6_wallAt⟩ dX6_freeRows_2) ca_t) (
  ce_fc (P := P_X6_freeRows) (ok_li (ok_getf (ci := 14) (k := 2) (C := RX10) (T := TX10) (N := 6) dX6_freeRows_5 rfl ce_uX10 (by decide) gw_174 (fun _ _ _ _ h => h))) (
  ce_fc (P := P_X6_freeRows) (ok_li (ok_istore dX6_freeRows_8)) (
  ce_fc (P := P_X6_freeRows) (ok_li (ok_iconst dX6_freeRows_10)) (
  ce_fc (P := P_X6_freeRows) (ok_li (ok_istore dX6_freeRows_11)) (
  ce_fc (P := P_X6_freeRows) (ok_li (ok_iconst dX6_freeRows_13)) (
  ce_fc (P := P_X6_freeRows) (ok_li (ok_istore dX6_freeRows_14)) (
  ce_fc (P := P_X6_freeRows) (ok_li (ok_iconst dX6_freeRows_16)) (
  ce_fc (P := P_X6_freeRows) (ok_li (ok_istore dX6_freeRows_17)) (
  ce_fc (P := P_X6_freeRows) (ok_li (ok_iconst dX6_freeRows_19)) (
  ce_fc (P := P_X6_freeRows) (ok_li (ok_istore dX6_freeRows_20)) (
  ce_fc (P := P_X6_freeRows) (ok_li (ok_iload dX6_freeRows_22)) (
  ce_fn (P := P_X6_freeRows)))))))))))))))
noncomputable def tb_X6_freeRows_1 : List (Nat × ce_N) := [(24, ce_li (ce_aload 0 25)),
  (25, ce_li (ce_getf 10 8 28)),
  (28, ce_li (ce_icmp false true false 98 31)),
  (31, ce_li (ce_aload 0 32)),
  (32, ce_li (ce_iload 1 33)),
  (33, ce_li (ce_iload 2 34)),
  (34, ce_li (ce_iload 7 36)),
  (36, ce_call 4 0 0 39 (.inr true) (ce_CV 10 F_X6_firstBehind)),
  (39, ce_li (ce_astore 9 41 11)),
  (41, ce_li (ce_aload 9 43)),
  (43, ce_li (ce_ifnn 51 46)),
  (46, ce_li (ce_iload 4 48)),
  (48, ce_li (ce_goto 56)),
  (56, ce_li (ce_iload 7 58))]
theorem tk_X6_freeRows_1 : ∀ x ∈ tb_X6_freeRows_1, P_X6_freeRows x.1 x.2 :=
  ce_fc (P := P_X6_freeRows) (ok_li (ok_aload_n dX6_freeRows_24 rfl)) (
  ce_fc (P := P_X6_freeRows) (ok_li (ok_getf (ci := 10) (k := 8) (C := RX6) (T := TX6) (N := 10) dX6_freeRows_25 rfl ce_uX6 (by decide) gw_260 (fun _ _ _ _ h => h))) (
  ce_fc (P := P_X6_freeRows) (ok_li (ok_icmp_gt dX6_freeRows_28 (by decide))) (
  ce_fc (P := P_X6_freeRows) (ok_li (ok_aload_n dX6_freeRows_31 rfl)) (
  ce_fc (P := P_X6_freeRows) (ok_li (ok_iload_n dX6_freeRows_32 rfl)) (
  ce_fc (P := P_X6_freeRows) (ok_li (ok_iload_n dX6_freeRows_33 rfl)) (
  ce_fc (P := P_X6_freeRows) (ok_li (ok_iload dX6_freeRows_34)) (
  ce_fc (P := P_X6_freeRows) (ok_call (ru_V (ci := 10) (C := RX6) (Tf := TX6) (N := 10) m_X6_firstBehind (by decide) (by decide) rfl gw_1060 gw_1057 gw_1058 gw_1059 gw_4 ⟨rfl, hp_X6_firstBehind⟩ dX6_freeRows_36) ca_t) (
  ce_fc (P := P_X6_freeRows) (ok_li (ok_astore dX6_freeRows_39)) (
  ce_fc (P := P_X6_freeRows) (ok_li (ok_aload dX6_freeRows_41)) (
  ce_fc (P := P_X6_freeRows) (ok_li (ok_ifnn dX6_freeRows_43 (by decide))) (
  ce_fc (P := P_X6_freeRows) (ok_li (ok_iload dX6_freeRows_46)) (
  ce_fc (P := P_X6_freeRows) (ok_li (ok_goto dX6_freeRows_48 (by decide))) (
  ce_fc (P := P_X6_freeRows) (ok_li (ok_iload dX6_freeRows_56)) (
  ce_fn (P := P_X6_freeRows)))))))))))))))
noncomputable def tb_X6_freeRows_2 : List (Nat × ce_N) := [(58, ce_li (ce_bin ce_subo 59)),
  (59, ce_li (ce_istore 10 61 11)),
  (61, ce_li (ce_iload 5 63)),
  (63, ce_li (ce_iload 10 65)),
  (65, ce_li (ce_bin ce_addo 66)),
  (66, ce_li (ce_istore 5 68 11)),
  (68, ce_li (ce_iload 6 70)),
  (70, ce_li (ce_iload 10 72)),
  (72, ce_li (ce_mm true 75)),
  (75, ce_li (ce_istore 6 77 11)),
  (77, ce_li (ce_aload 9 79)),
  (79, ce_li (ce_ifnn 85 82)),
  (82, ce_li (ce_goto 98)),
  (98, ce_li (ce_iload 3 99))]
theorem tk_X6_freeRows_2 : ∀ x ∈ tb_X6_freeRows_2, P_X6_freeRows x.1 x.2 :=
  ce_fc (P := P_X6_freeRows) (ok_li (ok_isub dX6_freeRows_58)) (
  ce_fc (P := P_X6_freeRows) (ok_li (ok_istore dX6_freeRows_59)) (
  ce_fc (P := P_X6_freeRows) (ok_li (ok_iload dX6_freeRows_61)) (
  ce_fc (P := P_X6_freeRows) (ok_li (ok_iload dX6_freeRows_63)) (
  ce_fc (P := P_X6_freeRows) (ok_li (ok_iadd dX6_freeRows_65)) (
  ce_fc (P := P_X6_freeRows) (ok_li (ok_istore dX6_freeRows_66)) (
  ce_fc (P := P_X6_freeRows) (ok_li (ok_iload dX6_freeRows_68)) (
  ce_fc (P := P_X6_freeRows) (ok_li (ok_iload dX6_freeRows_70)) (
  ce_fc (P := P_X6_freeRows) (ok_li (ok_mmax dX6_freeRows_72 gw_797 gw_593 gw_25 gw_594)) (
  ce_fc (P := P_X6_freeRows) (ok_li (ok_istore dX6_freeRows_75)) (
  ce_fc (P := P_X6_freeRows) (ok_li (ok_aload dX6_freeRows_77)) (
  ce_fc (P := P_X6_freeRows) (ok_li (ok_ifnn dX6_freeRows_79 (by decide))) (
  ce_fc (P := P_X6_freeRows) (ok_li (ok_goto dX6_freeRows_82 (by decide))) (
  ce_fc (P := P_X6_freeRows) (ok_li (ok_iload_n dX6_freeRows_98 rfl)) (
  ce_fn (P := P_X6_freeRows)))))))))))))))
noncomputable def tb_X6_freeRows_3 : List (Nat × ce_N) := [(99, ce_li (ce_if true false false 107 102)),
  (107, ce_li (ce_iload 5 109)),
  (109, ce_reti .int)]
theorem tk_X6_freeRows_3 : ∀ x ∈ tb_X6_freeRows_3, P_X6_freeRows x.1 x.2 :=
  ce_fc (P := P_X6_freeRows) (ok_li (ok_if_eq dX6_freeRows_99 (by decide))) (
  ce_fc (P := P_X6_freeRows) (ok_li (ok_iload dX6_freeRows_107)) (
  ce_fc (P := P_X6_freeRows) (ok_reti dX6_freeRows_109 rfl) (
  ce_fn (P := P_X6_freeRows))))
noncomputable def ta_X6_freeRows : Nat → Option ce_N := (ce_tr 58 (ce_tr 24 (ce_fd tb_X6_freeRows_0) (ce_fd tb_X6_freeRows_1)) (ce_tr 99 (ce_fd tb_X6_freeRows_2) (ce_fd tb_X6_freeRows_3)))
theorem tx_X6_freeRows : ∀ pc f, ta_X6_freeRows pc = some f → P_X6_freeRows pc f := (ce_tr_ok (P := P_X6_freeRows) (ce_tr_ok (P := P_X6_freeRows) (ce_fd_ok (P := P_X6_freeRows) tk_X6_freeRows_0) (ce_fd_ok (P := P_X6_freeRows) tk_X6_freeRows_1)) (ce_tr_ok (P := P_X6_freeRows) (ce_fd_ok (P := P_X6_freeRows) tk_X6_freeRows_2) (ce_fd_ok (P := P_X6_freeRows) tk_X6_freeRows_3)))
noncomputable def F_X6_freeRows : ce_C := ce_M ta_X6_freeRows 11 0 0 1000000
theorem m_X6_freeRows : ∀ l : Launch, l.stackTraces = false → ce_MS l yX6_freeRows (.code yX6_freeRows cX6_freeRows 11 (some .int)) 1 0 0 F_X6_freeRows := fun l hl => ce_met hl (by decide +kernel) tx_X6_freeRows
theorem hp_X6_freeRows : yX6_freeRows.cls ≠ "java/lang/invoke/MethodHandle" ∧ yX6_freeRows.cls ≠ "java/lang/invoke/VarHandle" ∧ (parseMethodDescriptor yX6_freeRows.desc).map (fun d => d.parameters.length) = some 3 := by decide +kernel
abbrev P_X6_init : Nat → ce_N → Prop := ce_OKN "Carcasswright$Room" "<init>" cX6_init 3 none 1 (some [])
noncomputable def tb_X6_init_0 : List (Nat × ce_N) := [(0, ce_li (ce_aload 0 1)),
  (1, ce_li (ce_oi 4)),
  (4, ce_li (ce_aload 0 5)),
  (5, ce_li (ce_push (.inl (.inl (6))) 7)),
  (7, ce_li (ce_newa 7 3 10)),
  (10, ce_li (ce_putf (tyX6 0) 10 0 13)),
  (13, ce_li (ce_aload 0 14)),
  (14, ce_li (ce_push (.inl (.inl (8))) 16)),
  (16, ce_li (ce_newa 8 3 19)),
  (19, ce_li (ce_putf (tyX6 1) 10 1 22)),
  (22, ce_li (ce_aload 0 23)),
  (23, ce_li (ce_push (.inl (.inl (16))) 25)),
  (25, ce_li (ce_newa 9 3 28)),
  (28, ce_li (ce_putf (tyX6 2) 10 2 31))]
theorem tk_X6_init_0 : ∀ x ∈ tb_X6_init_0, P_X6_init x.1 x.2 :=
  ce_fc (P := P_X6_init) (ok_li (ok_aload_n dX6_init_0 rfl)) (
  ce_fc (P := P_X6_init) (ok_li (ok_oi dX6_init_1 gw_158 gw_57 gw_58)) (
  ce_fc (P := P_X6_init) (ok_li (ok_aload_n dX6_init_4 rfl)) (
  ce_fc (P := P_X6_init) (ok_li (ok_bipush dX6_init_5 (by decide))) (
  ce_fc (P := P_X6_init) (ok_li (ok_newq (C := "Carcasswright$Wall") (t := 7) dX6_init_7 gw_159 (by decide) (fun _ => rfl) (fun z ad n => ce_refs (by decide) (by decide) (by decide) z ad n))) (
  ce_fc (P := P_X6_init) (ok_li (ok_putf (ci := 10) (k := 0) (C := RX6) (T := TX6) (N := 10) (ty0 := tyX6) dX6_init_10 rfl ce_uX6 (by decide) gw_247 (fun _ _ _ _ h => h) tyX6_ok nmX6 (Or.inr ⟨rfl, rfl, rfl⟩))) (
  ce_fc (P := P_X6_init) (ok_li (ok_aload_n dX6_init_13 rfl)) (
  ce_fc (P := P_X6_init) (ok_li (ok_bipush dX6_init_14 (by decide))) (
  ce_fc (P := P_X6_init) (ok_li (ok_newq (C := "Carcasswright$Obstacle") (t := 8) dX6_init_16 gw_161 (by decide) (fun _ => rfl) (fun z ad n => ce_refs (by decide) (by decide) (by decide) z ad n))) (
  ce_fc (P := P_X6_init) (ok_li (ok_putf (ci := 10) (k := 1) (C := RX6) (T := TX6) (N := 10) (ty0 := tyX6) dX6_init_19 rfl ce_uX6 (by decide) gw_248 (fun _ _ _ _ h => h) tyX6_ok nmX6 (Or.inr ⟨rfl, rfl, rfl⟩))) (
  ce_fc (P := P_X6_init) (ok_li (ok_aload_n dX6_init_22 rfl)) (
  ce_fc (P := P_X6_init) (ok_li (ok_bipush dX6_init_23 (by decide))) (
  ce_fc (P := P_X6_init) (ok_li (ok_newq (C := "Carcasswright$PlacedModule") (t := 9) dX6_init_25 gw_163 (by decide) (fun _ => rfl) (fun z ad n => ce_refs (by decide) (by decide) (by decide) z ad n))) (
  ce_fc (P := P_X6_init) (ok_li (ok_putf (ci := 10) (k := 2) (C := RX6) (T := TX6) (N := 10) (ty0 := tyX6) dX6_init_28 rfl ce_uX6 (by decide) gw_249 (fun _ _ _ _ h => h) tyX6_ok nmX6 (Or.inr ⟨rfl, rfl, rfl⟩))) (
  ce_fn (P := P_X6_init)))))))))))))))
noncomputable def tb_X6_init_1 : List (Nat × ce_N) := [(31, ce_li (ce_aload 0 32)),
  (32, ce_li (ce_push (.inl (.inl (2))) 33)),
  (33, ce_li (ce_newa 1 2 35)),
  (35, ce_li (ce_putf (tyX6 4) 10 4 38)),
  (38, ce_li (ce_aload 0 39)),
  (39, ce_li (ce_push (.inl (.inl (2))) 40)),
  (40, ce_li (ce_newa 0 2 42)),
  (42, ce_li (ce_putf (tyX6 5) 10 5 45)),
  (45, ce_li (ce_push (.inl (.inl (0))) 46)),
  (46, ce_li (ce_istore 2 47 3)),
  (47, ce_li (ce_iload 2 48)),
  (48, ce_li (ce_push (.inl (.inl (6))) 50)),
  (50, ce_li (ce_icmp false false true 72 53)),
  (53, ce_li (ce_aload 0 54))]
theorem tk_X6_init_1 : ∀ x ∈ tb_X6_init_1, P_X6_init x.1 x.2 :=
  ce_fc (P := P_X6_init) (ok_li (ok_aload_n dX6_init_31 rfl)) (
  ce_fc (P := P_X6_init) (ok_li (ok_iconst dX6_init_32)) (
  ce_fc (P := P_X6_init) (ok_li (ok_newa_char dX6_init_33 gw_113)) (
  ce_fc (P := P_X6_init) (ok_li (ok_putf (ci := 10) (k := 4) (C := RX6) (T := TX6) (N := 10) (ty0 := tyX6) dX6_init_35 rfl ce_uX6 (by decide) gw_251 (fun _ _ _ _ h => h) tyX6_ok nmX6 (Or.inr ⟨rfl, rfl, rfl⟩))) (
  ce_fc (P := P_X6_init) (ok_li (ok_aload_n dX6_init_38 rfl)) (
  ce_fc (P := P_X6_init) (ok_li (ok_iconst dX6_init_39)) (
  ce_fc (P := P_X6_init) (ok_li (ok_newa_int dX6_init_40 gw_193)) (
  ce_fc (P := P_X6_init) (ok_li (ok_putf (ci := 10) (k := 5) (C := RX6) (T := TX6) (N := 10) (ty0 := tyX6) dX6_init_42 rfl ce_uX6 (by decide) gw_253 (fun _ _ _ _ h => h) tyX6_ok nmX6 (Or.inr ⟨rfl, rfl, rfl⟩))) (
  ce_fc (P := P_X6_init) (ok_li (ok_iconst dX6_init_45)) (
  ce_fc (P := P_X6_init) (ok_li (ok_istore_n dX6_init_46 rfl)) (
  ce_fc (P := P_X6_init) (ok_li (ok_iload_n dX6_init_47 rfl)) (
  ce_fc (P := P_X6_init) (ok_li (ok_bipush dX6_init_48 (by decide))) (
  ce_fc (P := P_X6_init) (ok_li (ok_icmp_ge dX6_init_50 (by decide))) (
  ce_fc (P := P_X6_init) (ok_li (ok_aload_n dX6_init_53 rfl)) (
  ce_fn (P := P_X6_init)))))))))))))))
noncomputable def tb_X6_init_2 : List (Nat × ce_N) := [(54, ce_li (ce_getf 10 0 57)),
  (57, ce_li (ce_iload 2 58)),
  (58, ce_li (ce_new 14 6 dl_X10 61)),
  (61, ce_li (ce_dup 62)),
  (62, ce_call 1 0 0 65 (.inr true) (ce_CI F_X10_init)),
  (65, ce_li (ce_aast 66)),
  (66, ce_li (ce_iinc 2 (1) 69 3)),
  (69, ce_li (ce_goto 47)),
  (72, ce_li (ce_push (.inl (.inl (0))) 73)),
  (73, ce_li (ce_istore 2 74 3)),
  (74, ce_li (ce_iload 2 75)),
  (75, ce_li (ce_push (.inl (.inl (8))) 77)),
  (77, ce_li (ce_icmp false false true 99 80)),
  (80, ce_li (ce_aload 0 81))]
theorem tk_X6_init_2 : ∀ x ∈ tb_X6_init_2, P_X6_init x.1 x.2 :=
  ce_fc (P := P_X6_init) (ok_li (ok_getf (ci := 10) (k := 0) (C := RX6) (T := TX6) (N := 10) dX6_init_54 rfl ce_uX6 (by decide) gw_247 (fun _ _ _ _ h => h))) (
  ce_fc (P := P_X6_init) (ok_li (ok_iload_n dX6_init_57 rfl)) (
  ce_fc (P := P_X6_init) (ok_li (ok_new (ci := 14) (C := RX10) (T := TX10) (N := 6) (ty0 := tyX10) dX6_init_58 rfl ce_uX10 tyX10_ok gw_159 gw_165 gw_5 dv_X10 rfl)) (
  ce_fc (P := P_X6_init) (ok_li (ok_dup dX6_init_61)) (
  ce_fc (P := P_X6_init) (ok_call (ru_IN m_X10_init (by decide) (by decide) gw_168 gn_9 gw_167 gw_5 rfl hp_X10_init dX6_init_62) ca_t) (
  ce_fc (P := P_X6_init) (ok_li (ok_aast dX6_init_65)) (
  ce_fc (P := P_X6_init) (ok_li (ok_iinc dX6_init_66)) (
  ce_fc (P := P_X6_init) (ok_li (ok_goto dX6_init_69 (by decide))) (
  ce_fc (P := P_X6_init) (ok_li (ok_iconst dX6_init_72)) (
  ce_fc (P := P_X6_init) (ok_li (ok_istore_n dX6_init_73 rfl)) (
  ce_fc (P := P_X6_init) (ok_li (ok_iload_n dX6_init_74 rfl)) (
  ce_fc (P := P_X6_init) (ok_li (ok_bipush dX6_init_75 (by decide))) (
  ce_fc (P := P_X6_init) (ok_li (ok_icmp_ge dX6_init_77 (by decide))) (
  ce_fc (P := P_X6_init) (ok_li (ok_aload_n dX6_init_80 rfl)) (
  ce_fn (P := P_X6_init)))))))))))))))
noncomputable def tb_X6_init_3 : List (Nat × ce_N) := [(81, ce_li (ce_getf 10 1 84)),
  (84, ce_li (ce_iload 2 85)),
  (85, ce_li (ce_new 7 5 dl_X3 88)),
  (88, ce_li (ce_dup 89)),
  (89, ce_call 1 0 0 92 (.inr true) (ce_CI F_X3_init)),
  (92, ce_li (ce_aast 93)),
  (93, ce_li (ce_iinc 2 (1) 96 3)),
  (96, ce_li (ce_goto 74)),
  (99, ce_li (ce_push (.inl (.inl (0))) 100)),
  (100, ce_li (ce_istore 2 101 3)),
  (101, ce_li (ce_iload 2 102)),
  (102, ce_li (ce_push (.inl (.inl (16))) 104)),
  (104, ce_li (ce_icmp false false true 127 107)),
  (107, ce_li (ce_aload 0 108))]
theorem tk_X6_init_3 : ∀ x ∈ tb_X6_init_3, P_X6_init x.1 x.2 :=
  ce_fc (P := P_X6_init) (ok_li (ok_getf (ci := 10) (k := 1) (C := RX6) (T := TX6) (N := 10) dX6_init_81 rfl ce_uX6 (by decide) gw_248 (fun _ _ _ _ h => h))) (
  ce_fc (P := P_X6_init) (ok_li (ok_iload_n dX6_init_84 rfl)) (
  ce_fc (P := P_X6_init) (ok_li (ok_new (ci := 7) (C := RX3) (T := TX3) (N := 5) (ty0 := tyX3) dX6_init_85 rfl ce_uX3 tyX3_ok gw_161 gw_194 gw_6 dv_X3 rfl)) (
  ce_fc (P := P_X6_init) (ok_li (ok_dup dX6_init_88)) (
  ce_fc (P := P_X6_init) (ok_call (ru_IN m_X3_init (by decide) (by decide) gw_197 gn_10 gw_196 gw_6 rfl hp_X3_init dX6_init_89) ca_t) (
  ce_fc (P := P_X6_init) (ok_li (ok_aast dX6_init_92)) (
  ce_fc (P := P_X6_init) (ok_li (ok_iinc dX6_init_93)) (
  ce_fc (P := P_X6_init) (ok_li (ok_goto dX6_init_96 (by decide))) (
  ce_fc (P := P_X6_init) (ok_li (ok_iconst dX6_init_99)) (
  ce_fc (P := P_X6_init) (ok_li (ok_istore_n dX6_init_100 rfl)) (
  ce_fc (P := P_X6_init) (ok_li (ok_iload_n dX6_init_101 rfl)) (
  ce_fc (P := P_X6_init) (ok_li (ok_bipush dX6_init_102 (by decide))) (
  ce_fc (P := P_X6_init) (ok_li (ok_icmp_ge dX6_init_104 (by decide))) (
  ce_fc (P := P_X6_init) (ok_li (ok_aload_n dX6_init_107 rfl)) (
  ce_fn (P := P_X6_init)))))))))))))))
noncomputable def tb_X6_init_4 : List (Nat × ce_N) := [(108, ce_li (ce_getf 10 2 111)),
  (111, ce_li (ce_iload 2 112)),
  (112, ce_li (ce_new 9 5 dl_X5 115)),
  (115, ce_li (ce_dup 116)),
  (116, ce_li (ce_aload 1 117)),
  (117, ce_call 2 0 0 120 (.inr true) (ce_CI F_X5_init)),
  (120, ce_li (ce_aast 121)),
  (121, ce_li (ce_iinc 2 (1) 124 3)),
  (124, ce_li (ce_goto 101)),
  (127, ce_li (ce_aload 0 128)),
  (128, ce_li (ce_new 9 5 dl_X5 131)),
  (131, ce_li (ce_dup 132)),
  (132, ce_li (ce_aload 1 133)),
  (133, ce_call 2 0 0 136 (.inr true) (ce_CI F_X5_init))]
theorem tk_X6_init_4 : ∀ x ∈ tb_X6_init_4, P_X6_init x.1 x.2 :=
  ce_fc (P := P_X6_init) (ok_li (ok_getf (ci := 10) (k := 2) (C := RX6) (T := TX6) (N := 10) dX6_init_108 rfl ce_uX6 (by decide) gw_249 (fun _ _ _ _ h => h))) (
  ce_fc (P := P_X6_init) (ok_li (ok_iload_n dX6_init_111 rfl)) (
  ce_fc (P := P_X6_init) (ok_li (ok_new (ci := 9) (C := RX5) (T := TX5) (N := 5) (ty0 := tyX5) dX6_init_112 rfl ce_uX5 tyX5_ok gw_163 gw_215 gw_7 dv_X5 rfl)) (
  ce_fc (P := P_X6_init) (ok_li (ok_dup dX6_init_115)) (
  ce_fc (P := P_X6_init) (ok_li (ok_aload_n dX6_init_116 rfl)) (
  ce_fc (P := P_X6_init) (ok_call (ru_I m_X5_init (by decide) (by decide) gw_218 gw_216 gw_217 gw_7 rfl hp_X5_init dX6_init_117) ca_t) (
  ce_fc (P := P_X6_init) (ok_li (ok_aast dX6_init_120)) (
  ce_fc (P := P_X6_init) (ok_li (ok_iinc dX6_init_121)) (
  ce_fc (P := P_X6_init) (ok_li (ok_goto dX6_init_124 (by decide))) (
  ce_fc (P := P_X6_init) (ok_li (ok_aload_n dX6_init_127 rfl)) (
  ce_fc (P := P_X6_init) (ok_li (ok_new (ci := 9) (C := RX5) (T := TX5) (N := 5) (ty0 := tyX5) dX6_init_128 rfl ce_uX5 tyX5_ok gw_163 gw_215 gw_7 dv_X5 rfl)) (
  ce_fc (P := P_X6_init) (ok_li (ok_dup dX6_init_131)) (
  ce_fc (P := P_X6_init) (ok_li (ok_aload_n dX6_init_132 rfl)) (
  ce_fc (P := P_X6_init) (ok_call (ru_I m_X5_init (by decide) (by decide) gw_218 gw_216 gw_217 gw_7 rfl hp_X5_init dX6_init_133) ca_t) (
  ce_fn (P := P_X6_init)))))))))))))))
noncomputable def tb_X6_init_5 : List (Nat × ce_N) := [(136, ce_li (ce_putf (tyX6 3) 10 3 139)),
  (139, ce_ret0)]
theorem tk_X6_init_5 : ∀ x ∈ tb_X6_init_5, P_X6_init x.1 x.2 :=
  ce_fc (P := P_X6_init) (ok_li (ok_putf (ci := 10) (k := 3) (C := RX6) (T := TX6) (N := 10) (ty0 := tyX6) dX6_init_136 rfl ce_uX6 (by decide) gw_250 (fun _ _ _ _ h => h) tyX6_ok nmX6 (Or.inr ⟨rfl, rfl, rfl⟩))) (
  ce_fc (P := P_X6_init) (ok_ret0 dX6_init_139 rfl) (
  ce_fn (P := P_X6_init)))
noncomputable def ta_X6_init : Nat → Option ce_N := (ce_tr 81 (ce_tr 31 (ce_fd tb_X6_init_0) (ce_tr 54 (ce_fd tb_X6_init_1) (ce_fd tb_X6_init_2))) (ce_tr 108 (ce_fd tb_X6_init_3) (ce_tr 136 (ce_fd tb_X6_init_4) (ce_fd tb_X6_init_5))))
theorem tx_X6_init : ∀ pc f, ta_X6_init pc = some f → P_X6_init pc f := (ce_tr_ok (P := P_X6_init) (ce_tr_ok (P := P_X6_init) (ce_fd_ok (P := P_X6_init) tk_X6_init_0) (ce_tr_ok (P := P_X6_init) (ce_fd_ok (P := P_X6_init) tk_X6_init_1) (ce_fd_ok (P := P_X6_init) tk_X6_init_2))) (ce_tr_ok (P := P_X6_init) (ce_fd_ok (P := P_X6_init) tk_X6_init_3) (ce_tr_ok (P := P_X6_init) (ce_fd_ok (P := P_X6_init) tk_X6_init_4) (ce_fd_ok (P := P_X6_init) tk_X6_init_5))))
noncomputable def F_X6_init : ce_C := ce_M ta_X6_init 3 36 195 1000000
theorem m_X6_init : ∀ l : Launch, l.stackTraces = false → ce_MS l yX6_init (.code yX6_init cX6_init 3 none) 1 36 195 F_X6_init := fun l hl => ce_met hl (by decide +kernel) tx_X6_init
theorem hp_X6_init : yX6_init.cls ≠ "java/lang/invoke/MethodHandle" ∧ yX6_init.cls ≠ "java/lang/invoke/VarHandle" ∧ (parseMethodDescriptor yX6_init.desc).map (fun d => d.parameters.length) = some 1 := by decide +kernel
abbrev P_X7_init : Nat → ce_N → Prop := ce_OKN "Carcasswright$Saw" "<init>" cX7_init 3 none 1 (some [])
noncomputable def tb_X7_init_0 : List (Nat × ce_N) := [(0, ce_li (ce_aload 0 1)),
  (1, ce_li (ce_oi 4)),
  (4, ce_li (ce_aload 0 5)),
  (5, ce_li (ce_push (.inl (.inl (25))) 7)),
  (7, ce_li (ce_newa 0 2 9)),
  (9, ce_li (ce_putf (tyX7 1) 11 1 12)),
  (12, ce_li (ce_aload 0 13)),
  (13, ce_li (ce_push (.inl (.inl (25))) 15)),
  (15, ce_li (ce_newa 0 2 17)),
  (17, ce_li (ce_putf (tyX7 2) 11 2 20)),
  (20, ce_li (ce_aload 0 21)),
  (21, ce_li (ce_push (.inl (.inl (25))) 23)),
  (23, ce_li (ce_newa 0 2 25)),
  (25, ce_li (ce_putf (tyX7 4) 11 4 28))]
theorem tk_X7_init_0 : ∀ x ∈ tb_X7_init_0, P_X7_init x.1 x.2 :=
  ce_fc (P := P_X7_init) (ok_li (ok_aload_n dX7_init_0 rfl)) (
  ce_fc (P := P_X7_init) (ok_li (ok_oi dX7_init_1 gw_355 gw_57 gw_58)) (
  ce_fc (P := P_X7_init) (ok_li (ok_aload_n dX7_init_4 rfl)) (
  ce_fc (P := P_X7_init) (ok_li (ok_bipush dX7_init_5 (by decide))) (
  ce_fc (P := P_X7_init) (ok_li (ok_newa_int dX7_init_7 gw_193)) (
  ce_fc (P := P_X7_init) (ok_li (ok_putf (ci := 11) (k := 1) (C := RX7) (T := TX7) (N := 13) (ty0 := tyX7) dX7_init_9 rfl ce_uX7 (by decide) gw_359 (fun _ _ _ _ h => h) tyX7_ok nmX7 (Or.inr ⟨rfl, rfl, rfl⟩))) (
  ce_fc (P := P_X7_init) (ok_li (ok_aload_n dX7_init_12 rfl)) (
  ce_fc (P := P_X7_init) (ok_li (ok_bipush dX7_init_13 (by decide))) (
  ce_fc (P := P_X7_init) (ok_li (ok_newa_int dX7_init_15 gw_193)) (
  ce_fc (P := P_X7_init) (ok_li (ok_putf (ci := 11) (k := 2) (C := RX7) (T := TX7) (N := 13) (ty0 := tyX7) dX7_init_17 rfl ce_uX7 (by decide) gw_360 (fun _ _ _ _ h => h) tyX7_ok nmX7 (Or.inr ⟨rfl, rfl, rfl⟩))) (
  ce_fc (P := P_X7_init) (ok_li (ok_aload_n dX7_init_20 rfl)) (
  ce_fc (P := P_X7_init) (ok_li (ok_bipush dX7_init_21 (by decide))) (
  ce_fc (P := P_X7_init) (ok_li (ok_newa_int dX7_init_23 gw_193)) (
  ce_fc (P := P_X7_init) (ok_li (ok_putf (ci := 11) (k := 4) (C := RX7) (T := TX7) (N := 13) (ty0 := tyX7) dX7_init_25 rfl ce_uX7 (by decide) gw_362 (fun _ _ _ _ h => h) tyX7_ok nmX7 (Or.inr ⟨rfl, rfl, rfl⟩))) (
  ce_fn (P := P_X7_init)))))))))))))))
noncomputable def tb_X7_init_1 : List (Nat × ce_N) := [(28, ce_li (ce_aload 0 29)),
  (29, ce_li (ce_push (.inl (.inl (25))) 31)),
  (31, ce_li (ce_newa 0 2 33)),
  (33, ce_li (ce_putf (tyX7 7) 11 7 36)),
  (36, ce_li (ce_aload 0 37)),
  (37, ce_li (ce_push (.inl (.inl (25))) 39)),
  (39, ce_li (ce_newa 0 2 41)),
  (41, ce_li (ce_putf (tyX7 8) 11 8 44)),
  (44, ce_li (ce_aload 0 45)),
  (45, ce_li (ce_push (.inl (.inl (25))) 47)),
  (47, ce_li (ce_newa 0 2 49)),
  (49, ce_li (ce_putf (tyX7 9) 11 9 52)),
  (52, ce_li (ce_aload 0 53)),
  (53, ce_li (ce_push (.inl (.inl (50))) 55))]
theorem tk_X7_init_1 : ∀ x ∈ tb_X7_init_1, P_X7_init x.1 x.2 :=
  ce_fc (P := P_X7_init) (ok_li (ok_aload_n dX7_init_28 rfl)) (
  ce_fc (P := P_X7_init) (ok_li (ok_bipush dX7_init_29 (by decide))) (
  ce_fc (P := P_X7_init) (ok_li (ok_newa_int dX7_init_31 gw_193)) (
  ce_fc (P := P_X7_init) (ok_li (ok_putf (ci := 11) (k := 7) (C := RX7) (T := TX7) (N := 13) (ty0 := tyX7) dX7_init_33 rfl ce_uX7 (by decide) gw_366 (fun _ _ _ _ h => h) tyX7_ok nmX7 (Or.inr ⟨rfl, rfl, rfl⟩))) (
  ce_fc (P := P_X7_init) (ok_li (ok_aload_n dX7_init_36 rfl)) (
  ce_fc (P := P_X7_init) (ok_li (ok_bipush dX7_init_37 (by decide))) (
  ce_fc (P := P_X7_init) (ok_li (ok_newa_int dX7_init_39 gw_193)) (
  ce_fc (P := P_X7_init) (ok_li (ok_putf (ci := 11) (k := 8) (C := RX7) (T := TX7) (N := 13) (ty0 := tyX7) dX7_init_41 rfl ce_uX7 (by decide) gw_367 (fun _ _ _ _ h => h) tyX7_ok nmX7 (Or.inr ⟨rfl, rfl, rfl⟩))) (
  ce_fc (P := P_X7_init) (ok_li (ok_aload_n dX7_init_44 rfl)) (
  ce_fc (P := P_X7_init) (ok_li (ok_bipush dX7_init_45 (by decide))) (
  ce_fc (P := P_X7_init) (ok_li (ok_newa_int dX7_init_47 gw_193)) (
  ce_fc (P := P_X7_init) (ok_li (ok_putf (ci := 11) (k := 9) (C := RX7) (T := TX7) (N := 13) (ty0 := tyX7) dX7_init_49 rfl ce_uX7 (by decide) gw_368 (fun _ _ _ _ h => h) tyX7_ok nmX7 (Or.inr ⟨rfl, rfl, rfl⟩))) (
  ce_fc (P := P_X7_init) (ok_li (ok_aload_n dX7_init_52 rfl)) (
  ce_fc (P := P_X7_init) (ok_li (ok_bipush dX7_init_53 (by decide))) (
  ce_fn (P := P_X7_init)))))))))))))))
noncomputable def tb_X7_init_2 : List (Nat × ce_N) := [(55, ce_li (ce_newa 11 3 58)),
  (58, ce_li (ce_putf (tyX7 11) 11 11 61)),
  (61, ce_li (ce_aload 0 62)),
  (62, ce_li (ce_aload 1 63)),
  (63, ce_li (ce_putf (tyX7 0) 11 0 66)),
  (66, ce_li (ce_push (.inl (.inl (0))) 67)),
  (67, ce_li (ce_istore 2 68 3)),
  (68, ce_li (ce_iload 2 69)),
  (69, ce_li (ce_push (.inl (.inl (50))) 71)),
  (71, ce_li (ce_icmp false false true 93 74)),
  (74, ce_li (ce_aload 0 75)),
  (75, ce_li (ce_getf 11 11 78)),
  (78, ce_li (ce_iload 2 79)),
  (79, ce_li (ce_new 4 7 dl_X0 82))]
theorem tk_X7_init_2 : ∀ x ∈ tb_X7_init_2, P_X7_init x.1 x.2 :=
  ce_fc (P := P_X7_init) (ok_li (ok_newq (C := "Carcasswright$Board") (t := 11) dX7_init_55 gw_356 (by decide) (fun _ => rfl) (fun z ad n => ce_refs (by decide) (by decide) (by decide) z ad n))) (
  ce_fc (P := P_X7_init) (ok_li (ok_putf (ci := 11) (k := 11) (C := RX7) (T := TX7) (N := 13) (ty0 := tyX7) dX7_init_58 rfl ce_uX7 (by decide) gw_370 (fun _ _ _ _ h => h) tyX7_ok nmX7 (Or.inr ⟨rfl, rfl, rfl⟩))) (
  ce_fc (P := P_X7_init) (ok_li (ok_aload_n dX7_init_61 rfl)) (
  ce_fc (P := P_X7_init) (ok_li (ok_aload_n dX7_init_62 rfl)) (
  ce_fc (P := P_X7_init) (ok_li (ok_putf (ci := 11) (k := 0) (C := RX7) (T := TX7) (N := 13) (ty0 := tyX7) dX7_init_63 rfl ce_uX7 (by decide) gw_358 (fun _ _ _ _ h => h) tyX7_ok nmX7 (Or.inr ⟨rfl, rfl, rfl⟩))) (
  ce_fc (P := P_X7_init) (ok_li (ok_iconst dX7_init_66)) (
  ce_fc (P := P_X7_init) (ok_li (ok_istore_n dX7_init_67 rfl)) (
  ce_fc (P := P_X7_init) (ok_li (ok_iload_n dX7_init_68 rfl)) (
  ce_fc (P := P_X7_init) (ok_li (ok_bipush dX7_init_69 (by decide))) (
  ce_fc (P := P_X7_init) (ok_li (ok_icmp_ge dX7_init_71 (by decide))) (
  ce_fc (P := P_X7_init) (ok_li (ok_aload_n dX7_init_74 rfl)) (
  ce_fc (P := P_X7_init) (ok_li (ok_getf (ci := 11) (k := 11) (C := RX7) (T := TX7) (N := 13) dX7_init_75 rfl ce_uX7 (by decide) gw_370 (fun _ _ _ _ h => h))) (
  ce_fc (P := P_X7_init) (ok_li (ok_iload_n dX7_init_78 rfl)) (
  ce_fc (P := P_X7_init) (ok_li (ok_new (ci := 4) (C := RX0) (T := TX0) (N := 7) (ty0 := tyX0) dX7_init_79 rfl ce_uX0 tyX0_ok gw_356 gw_292 gw_9 dv_X0 rfl)) (
  ce_fn (P := P_X7_init)))))))))))))))
noncomputable def tb_X7_init_3 : List (Nat × ce_N) := [(82, ce_li (ce_dup 83)),
  (83, ce_call 1 0 0 86 (.inr true) (ce_CI F_X0_init)),
  (86, ce_li (ce_aast 87)),
  (87, ce_li (ce_iinc 2 (1) 90 3)),
  (90, ce_li (ce_goto 68)),
  (93, ce_ret0)]
theorem tk_X7_init_3 : ∀ x ∈ tb_X7_init_3, P_X7_init x.1 x.2 :=
  ce_fc (P := P_X7_init) (ok_li (ok_dup dX7_init_82)) (
  ce_fc (P := P_X7_init) (ok_call (ru_IN m_X0_init (by decide) (by decide) gw_295 gn_12 gw_294 gw_9 rfl hp_X0_init dX7_init_83) ca_t) (
  ce_fc (P := P_X7_init) (ok_li (ok_aast dX7_init_86)) (
  ce_fc (P := P_X7_init) (ok_li (ok_iinc dX7_init_87)) (
  ce_fc (P := P_X7_init) (ok_li (ok_goto dX7_init_90 (by decide))) (
  ce_fc (P := P_X7_init) (ok_ret0 dX7_init_93 rfl) (
  ce_fn (P := P_X7_init)))))))
noncomputable def ta_X7_init : Nat → Option ce_N := (ce_tr 55 (ce_tr 28 (ce_fd tb_X7_init_0) (ce_fd tb_X7_init_1)) (ce_tr 82 (ce_fd tb_X7_init_2) (ce_fd tb_X7_init_3)))
theorem tx_X7_init : ∀ pc f, ta_X7_init pc = some f → P_X7_init pc f := (ce_tr_ok (P := P_X7_init) (ce_tr_ok (P := P_X7_init) (ce_fd_ok (P := P_X7_init) tk_X7_init_0) (ce_fd_ok (P := P_X7_init) tk_X7_init_1)) (ce_tr_ok (P := P_X7_init) (ce_fd_ok (P := P_X7_init) tk_X7_init_2) (ce_fd_ok (P := P_X7_init) tk_X7_init_3)))
noncomputable def F_X7_init : ce_C := ce_M ta_X7_init 3 57 550 1000000
theorem m_X7_init : ∀ l : Launch, l.stackTraces = false → ce_MS l yX7_init (.code yX7_init cX7_init 3 none) 1 57 550 F_X7_init := fun l hl => ce_met hl (by decide +kernel) tx_X7_init
theorem hp_X7_init : yX7_init.cls ≠ "java/lang/invoke/MethodHandle" ∧ yX7_init.cls ≠ "java/lang/invoke/VarHandle" ∧ (parseMethodDescriptor yX7_init.desc).map (fun d => d.parameters.length) = some 1 := by decide +kernel
abbrev P_X8_init : Nat → ce_N → Prop := ce_OKN "Carcasswright$Stock" "<init>" cX8_init 2 none 1 (some [])
noncomputable def tb_X8_init_0 : List (Nat × ce_N) := [(0, ce_li (ce_aload 0 1)),
  (1, ce_li (ce_oi 4)),
  (4, ce_li (ce_aload 0 5)),
  (5, ce_li (ce_push (.inl (.inl (60))) 7)),
  (7, ce_li (ce_newa 11 3 10)),
  (10, ce_li (ce_putf (tyX8 0) 12 0 13)),
  (13, ce_li (ce_push (.inl (.inl (0))) 14)),
  (14, ce_li (ce_istore 1 15 2)),
  (15, ce_li (ce_iload 1 16)),
  (16, ce_li (ce_push (.inl (.inl (60))) 18)),
  (18, ce_li (ce_icmp false false true 40 21)),
  (21, ce_li (ce_aload 0 22)),
  (22, ce_li (ce_getf 12 0 25)),
  (25, ce_li (ce_iload 1 26))]
theorem tk_X8_init_0 : ∀ x ∈ tb_X8_init_0, P_X8_init x.1 x.2 :=
  ce_fc (P := P_X8_init) (ok_li (ok_aload_n dX8_init_0 rfl)) (
  ce_fc (P := P_X8_init) (ok_li (ok_oi dX8_init_1 gw_289 gw_57 gw_58)) (
  ce_fc (P := P_X8_init) (ok_li (ok_aload_n dX8_init_4 rfl)) (
  ce_fc (P := P_X8_init) (ok_li (ok_bipush dX8_init_5 (by decide))) (
  ce_fc (P := P_X8_init) (ok_li (ok_newq (C := "Carcasswright$Board") (t := 11) dX8_init_7 gw_290 (by decide) (fun _ => rfl) (fun z ad n => ce_refs (by decide) (by decide) (by decide) z ad n))) (
  ce_fc (P := P_X8_init) (ok_li (ok_putf (ci := 12) (k := 0) (C := RX8) (T := TX8) (N := 5) (ty0 := tyX8) dX8_init_10 rfl ce_uX8 (by decide) gw_332 (fun _ _ _ _ h => h) tyX8_ok nmX8 (Or.inr ⟨rfl, rfl, rfl⟩))) (
  ce_fc (P := P_X8_init) (ok_li (ok_iconst dX8_init_13)) (
  ce_fc (P := P_X8_init) (ok_li (ok_istore_n dX8_init_14 rfl)) (
  ce_fc (P := P_X8_init) (ok_li (ok_iload_n dX8_init_15 rfl)) (
  ce_fc (P := P_X8_init) (ok_li (ok_bipush dX8_init_16 (by decide))) (
  ce_fc (P := P_X8_init) (ok_li (ok_icmp_ge dX8_init_18 (by decide))) (
  ce_fc (P := P_X8_init) (ok_li (ok_aload_n dX8_init_21 rfl)) (
  ce_fc (P := P_X8_init) (ok_li (ok_getf (ci := 12) (k := 0) (C := RX8) (T := TX8) (N := 5) dX8_init_22 rfl ce_uX8 (by decide) gw_332 (fun _ _ _ _ h => h))) (
  ce_fc (P := P_X8_init) (ok_li (ok_iload_n dX8_init_25 rfl)) (
  ce_fn (P := P_X8_init)))))))))))))))
noncomputable def tb_X8_init_1 : List (Nat × ce_N) := [(26, ce_li (ce_new 4 7 dl_X0 29)),
  (29, ce_li (ce_dup 30)),
  (30, ce_call 1 0 0 33 (.inr true) (ce_CI F_X0_init)),
  (33, ce_li (ce_aast 34)),
  (34, ce_li (ce_iinc 1 (1) 37 2)),
  (37, ce_li (ce_goto 15)),
  (40, ce_ret0)]
theorem tk_X8_init_1 : ∀ x ∈ tb_X8_init_1, P_X8_init x.1 x.2 :=
  ce_fc (P := P_X8_init) (ok_li (ok_new (ci := 4) (C := RX0) (T := TX0) (N := 7) (ty0 := tyX0) dX8_init_26 rfl ce_uX0 tyX0_ok gw_290 gw_292 gw_9 dv_X0 rfl)) (
  ce_fc (P := P_X8_init) (ok_li (ok_dup dX8_init_29)) (
  ce_fc (P := P_X8_init) (ok_call (ru_IN m_X0_init (by decide) (by decide) gw_295 gn_11 gw_294 gw_9 rfl hp_X0_init dX8_init_30) ca_t) (
  ce_fc (P := P_X8_init) (ok_li (ok_aast dX8_init_33)) (
  ce_fc (P := P_X8_init) (ok_li (ok_iinc dX8_init_34)) (
  ce_fc (P := P_X8_init) (ok_li (ok_goto dX8_init_37 (by decide))) (
  ce_fc (P := P_X8_init) (ok_ret0 dX8_init_40 rfl) (
  ce_fn (P := P_X8_init))))))))
noncomputable def ta_X8_init : Nat → Option ce_N := (ce_tr 26 (ce_fd tb_X8_init_0) (ce_fd tb_X8_init_1))
theorem tx_X8_init : ∀ pc f, ta_X8_init pc = some f → P_X8_init pc f := (ce_tr_ok (P := P_X8_init) (ce_fd_ok (P := P_X8_init) tk_X8_init_0) (ce_fd_ok (P := P_X8_init) tk_X8_init_1))
noncomputable def F_X8_init : ce_C := ce_M ta_X8_init 2 61 480 1000000
theorem m_X8_init : ∀ l : Launch, l.stackTraces = false → ce_MS l yX8_init (.code yX8_init cX8_init 2 none) 1 61 480 F_X8_init := fun l hl => ce_met hl (by decide +kernel) tx_X8_init
theorem hp_X8_init : yX8_init.cls ≠ "java/lang/invoke/MethodHandle" ∧ yX8_init.cls ≠ "java/lang/invoke/VarHandle" ∧ (parseMethodDescriptor yX8_init.desc).map (fun d => d.parameters.length) = some 0 := by decide +kernel
abbrev P_X9_init : Nat → ce_N → Prop := ce_OKN "Carcasswright$Types" "<init>" cX9_init 2 none 1 (some [])
noncomputable def tb_X9_init_0 : List (Nat × ce_N) := [(0, ce_li (ce_aload 0 1)),
  (1, ce_li (ce_oi 4)),
  (4, ce_li (ce_aload 0 5)),
  (5, ce_li (ce_push (.inl (.inl (30))) 7)),
  (7, ce_li (ce_newa 1 2 9)),
  (9, ce_li (ce_putf (tyX9 0) 13 0 12)),
  (12, ce_li (ce_aload 0 13)),
  (13, ce_li (ce_push (.inl (.inl (8))) 15)),
  (15, ce_li (ce_newa 10 3 18)),
  (18, ce_li (ce_putf (tyX9 1) 13 1 21)),
  (21, ce_li (ce_aload 0 22)),
  (22, ce_li (ce_new 6 9 dl_X2 25)),
  (25, ce_li (ce_dup 26)),
  (26, ce_call 1 0 0 29 (.inr true) (ce_CI F_X2_init))]
theorem tk_X9_init_0 : ∀ x ∈ tb_X9_init_0, P_X9_init x.1 x.2 :=
  ce_fc (P := P_X9_init) (ok_li (ok_aload_n dX9_init_0 rfl)) (
  ce_fc (P := P_X9_init) (ok_li (ok_oi dX9_init_1 gw_64 gw_57 gw_58)) (
  ce_fc (P := P_X9_init) (ok_li (ok_aload_n dX9_init_4 rfl)) (
  ce_fc (P := P_X9_init) (ok_li (ok_bipush dX9_init_5 (by decide))) (
  ce_fc (P := P_X9_init) (ok_li (ok_newa_char dX9_init_7 gw_113)) (
  ce_fc (P := P_X9_init) (ok_li (ok_putf (ci := 13) (k := 0) (C := RX9) (T := TX9) (N := 10) (ty0 := tyX9) dX9_init_9 rfl ce_uX9 (by decide) gw_114 (fun _ _ _ _ h => h) tyX9_ok nmX9 (Or.inr ⟨rfl, rfl, rfl⟩))) (
  ce_fc (P := P_X9_init) (ok_li (ok_aload_n dX9_init_12 rfl)) (
  ce_fc (P := P_X9_init) (ok_li (ok_bipush dX9_init_13 (by decide))) (
  ce_fc (P := P_X9_init) (ok_li (ok_newq (C := "Carcasswright$ModuleType") (t := 10) dX9_init_15 gw_65 (by decide) (fun _ => rfl) (fun z ad n => ce_refs (by decide) (by decide) (by decide) z ad n))) (
  ce_fc (P := P_X9_init) (ok_li (ok_putf (ci := 13) (k := 1) (C := RX9) (T := TX9) (N := 10) (ty0 := tyX9) dX9_init_18 rfl ce_uX9 (by decide) gw_115 (fun _ _ _ _ h => h) tyX9_ok nmX9 (Or.inr ⟨rfl, rfl, rfl⟩))) (
  ce_fc (P := P_X9_init) (ok_li (ok_aload_n dX9_init_21 rfl)) (
  ce_fc (P := P_X9_init) (ok_li (ok_new (ci := 6) (C := RX2) (T := TX2) (N := 9) (ty0 := tyX2) dX9_init_22 rfl ce_uX2 tyX2_ok gw_65 gw_67 gw_3 dv_X2 rfl)) (
  ce_fc (P := P_X9_init) (ok_li (ok_dup dX9_init_25)) (
  ce_fc (P := P_X9_init) (ok_call (ru_IN m_X2_init (by decide) (by decide) gw_70 gn_8 gw_69 gw_3 rfl hp_X2_init dX9_init_26) ca_t) (
  ce_fn (P := P_X9_init)))))))))))))))
noncomputable def tb_X9_init_1 : List (Nat × ce_N) := [(29, ce_li (ce_putf (tyX9 2) 13 2 32)),
  (32, ce_li (ce_push (.inl (.inl (0))) 33)),
  (33, ce_li (ce_istore 1 34 2)),
  (34, ce_li (ce_iload 1 35)),
  (35, ce_li (ce_push (.inl (.inl (8))) 37)),
  (37, ce_li (ce_icmp false false true 59 40)),
  (40, ce_li (ce_aload 0 41)),
  (41, ce_li (ce_getf 13 1 44)),
  (44, ce_li (ce_iload 1 45)),
  (45, ce_li (ce_new 6 9 dl_X2 48)),
  (48, ce_li (ce_dup 49)),
  (49, ce_call 1 0 0 52 (.inr true) (ce_CI F_X2_init)),
  (52, ce_li (ce_aast 53)),
  (53, ce_li (ce_iinc 1 (1) 56 2))]
theorem tk_X9_init_1 : ∀ x ∈ tb_X9_init_1, P_X9_init x.1 x.2 :=
  ce_fc (P := P_X9_init) (ok_li (ok_putf (ci := 13) (k := 2) (C := RX9) (T := TX9) (N := 10) (ty0 := tyX9) dX9_init_29 rfl ce_uX9 (by decide) gw_116 (fun _ _ _ _ h => h) tyX9_ok nmX9 (Or.inr ⟨rfl, rfl, rfl⟩))) (
  ce_fc (P := P_X9_init) (ok_li (ok_iconst dX9_init_32)) (
  ce_fc (P := P_X9_init) (ok_li (ok_istore_n dX9_init_33 rfl)) (
  ce_fc (P := P_X9_init) (ok_li (ok_iload_n dX9_init_34 rfl)) (
  ce_fc (P := P_X9_init) (ok_li (ok_bipush dX9_init_35 (by decide))) (
  ce_fc (P := P_X9_init) (ok_li (ok_icmp_ge dX9_init_37 (by decide))) (
  ce_fc (P := P_X9_init) (ok_li (ok_aload_n dX9_init_40 rfl)) (
  ce_fc (P := P_X9_init) (ok_li (ok_getf (ci := 13) (k := 1) (C := RX9) (T := TX9) (N := 10) dX9_init_41 rfl ce_uX9 (by decide) gw_115 (fun _ _ _ _ h => h))) (
  ce_fc (P := P_X9_init) (ok_li (ok_iload_n dX9_init_44 rfl)) (
  ce_fc (P := P_X9_init) (ok_li (ok_new (ci := 6) (C := RX2) (T := TX2) (N := 9) (ty0 := tyX2) dX9_init_45 rfl ce_uX2 tyX2_ok gw_65 gw_67 gw_3 dv_X2 rfl)) (
  ce_fc (P := P_X9_init) (ok_li (ok_dup dX9_init_48)) (
  ce_fc (P := P_X9_init) (ok_call (ru_IN m_X2_init (by decide) (by decide) gw_70 gn_8 gw_69 gw_3 rfl hp_X2_init dX9_init_49) ca_t) (
  ce_fc (P := P_X9_init) (ok_li (ok_aast dX9_init_52)) (
  ce_fc (P := P_X9_init) (ok_li (ok_iinc dX9_init_53)) (
  ce_fn (P := P_X9_init)))))))))))))))
noncomputable def tb_X9_init_2 : List (Nat × ce_N) := [(56, ce_li (ce_goto 34)),
  (59, ce_ret0)]
theorem tk_X9_init_2 : ∀ x ∈ tb_X9_init_2, P_X9_init x.1 x.2 :=
  ce_fc (P := P_X9_init) (ok_li (ok_goto dX9_init_56 (by decide))) (
  ce_fc (P := P_X9_init) (ok_ret0 dX9_init_59 rfl) (
  ce_fn (P := P_X9_init)))
noncomputable def ta_X9_init : Nat → Option ce_N := (ce_tr 29 (ce_fd tb_X9_init_0) (ce_tr 56 (ce_fd tb_X9_init_1) (ce_fd tb_X9_init_2)))
theorem tx_X9_init : ∀ pc f, ta_X9_init pc = some f → P_X9_init pc f := (ce_tr_ok (P := P_X9_init) (ce_fd_ok (P := P_X9_init) tk_X9_init_0) (ce_tr_ok (P := P_X9_init) (ce_fd_ok (P := P_X9_init) tk_X9_init_1) (ce_fd_ok (P := P_X9_init) tk_X9_init_2)))
noncomputable def F_X9_init : ce_C := ce_M ta_X9_init 2 11 119 1000000
theorem m_X9_init : ∀ l : Launch, l.stackTraces = false → ce_MS l yX9_init (.code yX9_init cX9_init 2 none) 1 11 119 F_X9_init := fun l hl => ce_met hl (by decide +kernel) tx_X9_init
theorem hp_X9_init : yX9_init.cls ≠ "java/lang/invoke/MethodHandle" ∧ yX9_init.cls ≠ "java/lang/invoke/VarHandle" ∧ (parseMethodDescriptor yX9_init.desc).map (fun d => d.parameters.length) = some 0 := by decide +kernel
abbrev P_J0_indexOf_7cf53 : Nat → ce_N → Prop := ce_OKN "java/lang/String" "indexOf" cJ0_indexOf_7cf53 3 (some .int) 2 (some [])
noncomputable def tb_J0_indexOf_7cf53_0 : List (Nat × ce_N) := [(0, ce_li (ce_aload 0 1)),
  (1, ce_call 1 0 0 4 (.inr true) (ce_CV 0 F_J0_isLatin1_aae02)),
  (4, ce_li (ce_if true false false 23 7)),
  (7, ce_li (ce_aload 0 8)),
  (8, ce_li (ce_gets 0 11)),
  (11, ce_li (ce_iload 1 12)),
  (12, ce_li (ce_iload 2 13)),
  (13, ce_li (ce_aload 0 14)),
  (14, ce_call 1 0 0 17 (.inr true) (ce_CV 0 F_J0_length_8abf5)),
  (17, ce_call 4 0 0 20 (.inr true) F_J1_indexOf_4cfef),
  (20, ce_li (ce_goto 36)),
  (36, ce_reti .int)]
theorem tk_J0_indexOf_7cf53_0 : ∀ x ∈ tb_J0_indexOf_7cf53_0, P_J0_indexOf_7cf53 x.1 x.2 :=
  ce_fc (P := P_J0_indexOf_7cf53) (ok_li (ok_aload_n dJ0_indexOf_7cf53_0 rfl)) (
  ce_fc (P := P_J0_indexOf_7cf53) (ok_call (ru_V (ci := 0) (C := RJ0) (Tf := TJ0) (N := 4) m_J0_isLatin1_aae02 (by decide) (by decide) rfl gw_1603 gw_1600 gw_1601 gw_1602 gw_23 ⟨rfl, hp_J0_isLatin1_aae02⟩ dJ0_indexOf_7cf53_1) ca_t) (
  ce_fc (P := P_J0_indexOf_7cf53) (ok_li (ok_if_eq dJ0_indexOf_7cf53_4 (by decide))) (
  ce_fc (P := P_J0_indexOf_7cf53) (ok_li (ok_aload_n dJ0_indexOf_7cf53_7 rfl)) (
  ce_fc (P := P_J0_indexOf_7cf53) (ok_li (ok_gets0 dJ0_indexOf_7cf53_8 gw_2141)) (
  ce_fc (P := P_J0_indexOf_7cf53) (ok_li (ok_iload_n dJ0_indexOf_7cf53_11 rfl)) (
  ce_fc (P := P_J0_indexOf_7cf53) (ok_li (ok_iload_n dJ0_indexOf_7cf53_12 rfl)) (
  ce_fc (P := P_J0_indexOf_7cf53) (ok_li (ok_aload_n dJ0_indexOf_7cf53_13 rfl)) (
  ce_fc (P := P_J0_indexOf_7cf53) (ok_call (ru_V (ci := 0) (C := RJ0) (Tf := TJ0) (N := 4) m_J0_length_8abf5 (by decide) (by decide) rfl gw_1609 gw_1606 gw_1607 gw_1608 gw_23 ⟨rfl, hp_J0_length_8abf5⟩ dJ0_indexOf_7cf53_14) ca_t) (
  ce_fc (P := P_J0_indexOf_7cf53) (ok_call (ru_S m_J1_indexOf_4cfef (by decide) (by decide) gw_1616 gw_1614 gw_1615 gw_24 hp_J1_indexOf_4cfef dJ0_indexOf_7cf53_17) ca_t) (
  ce_fc (P := P_J0_indexOf_7cf53) (ok_li (ok_goto dJ0_indexOf_7cf53_20 (by decide))) (
  ce_fc (P := P_J0_indexOf_7cf53) (ok_reti dJ0_indexOf_7cf53_36 rfl) (
  ce_fn (P := P_J0_indexOf_7cf53)))))))))))))
noncomputable def ta_J0_indexOf_7cf53 : Nat → Option ce_N := (ce_fd tb_J0_indexOf_7cf53_0)
theorem tx_J0_indexOf_7cf53 : ∀ pc f, ta_J0_indexOf_7cf53 pc = some f → P_J0_indexOf_7cf53 pc f := (ce_fd_ok (P := P_J0_indexOf_7cf53) tk_J0_indexOf_7cf53_0)
noncomputable def F_J0_indexOf_7cf53 : ce_C := ce_M ta_J0_indexOf_7cf53 3 0 0 1000000
theorem m_J0_indexOf_7cf53 : ∀ l : Launch, l.stackTraces = false → ce_MS l yJ0_indexOf_7cf53 (.code yJ0_indexOf_7cf53 cJ0_indexOf_7cf53 3 (some .int)) 2 0 0 F_J0_indexOf_7cf53 := fun l hl => ce_met hl (by decide +kernel) tx_J0_indexOf_7cf53
theorem hp_J0_indexOf_7cf53 : yJ0_indexOf_7cf53.cls ≠ "java/lang/invoke/MethodHandle" ∧ yJ0_indexOf_7cf53.cls ≠ "java/lang/invoke/VarHandle" ∧ (parseMethodDescriptor yJ0_indexOf_7cf53.desc).map (fun d => d.parameters.length) = some 2 := by decide +kernel
abbrev P_Jx4a65c_add_72be8 : Nat → ce_N → Prop := ce_OKN "java/util/ArrayList" "add" cJx4a65c_add_72be8 4 none 2 (some [])
noncomputable def tb_Jx4a65c_add_72be8_0 : List (Nat × ce_N) := [(0, ce_li (ce_iload 3 1)),
  (1, ce_li (ce_aload 2 2)),
  (2, ce_li (ce_alen 3)),
  (3, ce_li (ce_icmp true false true 11 6)),
  (6, ce_li (ce_aload 0 7)),
  (7, ce_call 1 1 10 10 (.inr true) (ce_CV 3 F_Jx4a65c_grow_d5877)),
  (10, ce_li (ce_astore 2 11 4)),
  (11, ce_li (ce_aload 2 12)),
  (12, ce_li (ce_iload 3 13)),
  (13, ce_li (ce_aload 1 14)),
  (14, ce_li (ce_aast 15)),
  (15, ce_li (ce_aload 0 16)),
  (16, ce_li (ce_iload 3 17)),
  (17, ce_li (ce_push (.inl (.inl (1))) 18))]
theorem tk_Jx4a65c_add_72be8_0 : ∀ x ∈ tb_Jx4a65c_add_72be8_0, P_Jx4a65c_add_72be8 x.1 x.2 :=
  ce_fc (P := P_Jx4a65c_add_72be8) (ok_li (ok_iload_n dJx4a65c_add_72be8_0 rfl)) (
  ce_fc (P := P_Jx4a65c_add_72be8) (ok_li (ok_aload_n dJx4a65c_add_72be8_1 rfl)) (
  ce_fc (P := P_Jx4a65c_add_72be8) (ok_li (ok_alen dJx4a65c_add_72be8_2)) (
  ce_fc (P := P_Jx4a65c_add_72be8) (ok_li (ok_icmp_ne dJx4a65c_add_72be8_3 (by decide))) (
  ce_fc (P := P_Jx4a65c_add_72be8) (ok_li (ok_aload_n dJx4a65c_add_72be8_6 rfl)) (
  ce_fc (P := P_Jx4a65c_add_72be8) (ok_call (ru_V (ci := 3) (C := RJx4a65c) (Tf := TJx4a65c) (N := 3) m_Jx4a65c_grow_d5877 (by decide) (by decide) rfl gw_1721 gw_1718 gw_1720 gp_5 gw_16 ⟨rfl, hp_Jx4a65c_grow_d5877⟩ dJx4a65c_add_72be8_7) ca_t) (
  ce_fc (P := P_Jx4a65c_add_72be8) (ok_li (ok_astore_n dJx4a65c_add_72be8_10 rfl)) (
  ce_fc (P := P_Jx4a65c_add_72be8) (ok_li (ok_aload_n dJx4a65c_add_72be8_11 rfl)) (
  ce_fc (P := P_Jx4a65c_add_72be8) (ok_li (ok_iload_n dJx4a65c_add_72be8_12 rfl)) (
  ce_fc (P := P_Jx4a65c_add_72be8) (ok_li (ok_aload_n dJx4a65c_add_72be8_13 rfl)) (
  ce_fc (P := P_Jx4a65c_add_72be8) (ok_li (ok_aast dJx4a65c_add_72be8_14)) (
  ce_fc (P := P_Jx4a65c_add_72be8) (ok_li (ok_aload_n dJx4a65c_add_72be8_15 rfl)) (
  ce_fc (P := P_Jx4a65c_add_72be8) (ok_li (ok_iload_n dJx4a65c_add_72be8_16 rfl)) (
  ce_fc (P := P_Jx4a65c_add_72be8) (ok_li (ok_iconst dJx4a65c_add_72be8_17)) (
  ce_fn (P := P_Jx4a65c_add_72be8)))))))))))))))
noncomputable def tb_Jx4a65c_add_72be8_1 : List (Nat × ce_N) := [(18, ce_li (ce_bin ce_addo 19)),
  (19, ce_li (ce_putf (tyJx4a65c 2) 3 2 22)),
  (22, ce_ret0)]
theorem tk_Jx4a65c_add_72be8_1 : ∀ x ∈ tb_Jx4a65c_add_72be8_1, P_Jx4a65c_add_72be8 x.1 x.2 :=
  ce_fc (P := P_Jx4a65c_add_72be8) (ok_li (ok_iadd dJx4a65c_add_72be8_18)) (
  ce_fc (P := P_Jx4a65c_add_72be8) (ok_li (ok_putf (ci := 3) (k := 2) (C := RJx4a65c) (T := TJx4a65c) (N := 3) (ty0 := tyJx4a65c) dJx4a65c_add_72be8_19 rfl ce_uJx4a65c (by decide) gw_1508 (fun _ _ _ _ h => h) tyJx4a65c_ok nmJx4a65c (Or.inl rfl))) (
  ce_fc (P := P_Jx4a65c_add_72be8) (ok_ret0 dJx4a65c_add_72be8_22 rfl) (
  ce_fn (P := P_Jx4a65c_add_72be8))))
noncomputable def ta_Jx4a65c_add_72be8 : Nat → Option ce_N := (ce_tr 18 (ce_fd tb_Jx4a65c_add_72be8_0) (ce_fd tb_Jx4a65c_add_72be8_1))
theorem tx_Jx4a65c_add_72be8 : ∀ pc f, ta_Jx4a65c_add_72be8 pc = some f → P_Jx4a65c_add_72be8 pc f := (ce_tr_ok (P := P_Jx4a65c_add_72be8) (ce_fd_ok (P := P_Jx4a65c_add_72be8) tk_Jx4a65c_add_72be8_0) (ce_fd_ok (P := P_Jx4a65c_add_72be8) tk_Jx4a65c_add_72be8_1))
noncomputable def F_Jx4a65c_add_72be8 : ce_C := ce_M ta_Jx4a65c_add_72be8 4 1 10 1000000
theorem m_Jx4a65c_add_72be8 : ∀ l : Launch, l.stackTraces = false → ce_MS l yJx4a65c_add_72be8 (.code yJx4a65c_add_72be8 cJx4a65c_add_72be8 4 none) 2 1 10 F_Jx4a65c_add_72be8 := fun l hl => ce_met hl (by decide +kernel) tx_Jx4a65c_add_72be8
theorem hp_Jx4a65c_add_72be8 : yJx4a65c_add_72be8.cls ≠ "java/lang/invoke/MethodHandle" ∧ yJx4a65c_add_72be8.cls ≠ "java/lang/invoke/VarHandle" ∧ (parseMethodDescriptor yJx4a65c_add_72be8.desc).map (fun d => d.parameters.length) = some 3 := by decide +kernel
abbrev P_Jx4a65c_get_915e3 : Nat → ce_N → Prop := ce_OKN "java/util/ArrayList" "get" cJx4a65c_get_915e3 2 (some (.object "java/lang/Object")) 2 (some [])
noncomputable def tb_Jx4a65c_get_915e3_0 : List (Nat × ce_N) := [(0, ce_li (ce_iload 1 1)),
  (1, ce_li (ce_aload 0 2)),
  (2, ce_li (ce_getf 3 2 5)),
  (5, ce_call 2 0 0 8 (.inr true) F_J15_checkIndex_7cf53),
  (8, ce_li (ce_pop 9)),
  (9, ce_li (ce_aload 0 10)),
  (10, ce_li (ce_iload 1 11)),
  (11, ce_call 2 0 0 14 (.inr true) (ce_CV 3 F_Jx4a65c_elementData_915e3)),
  (14, ce_reta)]
theorem tk_Jx4a65c_get_915e3_0 : ∀ x ∈ tb_Jx4a65c_get_915e3_0, P_Jx4a65c_get_915e3 x.1 x.2 :=
  ce_fc (P := P_Jx4a65c_get_915e3) (ok_li (ok_iload_n dJx4a65c_get_915e3_0 rfl)) (
  ce_fc (P := P_Jx4a65c_get_915e3) (ok_li (ok_aload_n dJx4a65c_get_915e3_1 rfl)) (
  ce_fc (P := P_Jx4a65c_get_915e3) (ok_li (ok_getf (ci := 3) (k := 2) (C := RJx4a65c) (T := TJx4a65c) (N := 3) dJx4a65c_get_915e3_2 rfl ce_uJx4a65c (by decide) gw_1508 (fun _ _ _ _ h => h))) (
  ce_fc (P := P_Jx4a65c_get_915e3) (ok_call (ru_S m_J15_checkIndex_7cf53 (by decide) (by decide) gw_1860 gw_1858 gw_1859 gw_36 hp_J15_checkIndex_7cf53 dJx4a65c_get_915e3_5) ca_t) (
  ce_fc (P := P_Jx4a65c_get_915e3) (ok_li (ok_pop dJx4a65c_get_915e3_8)) (
  ce_fc (P := P_Jx4a65c_get_915e3) (ok_li (ok_aload_n dJx4a65c_get_915e3_9 rfl)) (
  ce_fc (P := P_Jx4a65c_get_915e3) (ok_li (ok_iload_n dJx4a65c_get_915e3_10 rfl)) (
  ce_fc (P := P_Jx4a65c_get_915e3) (ok_call (ru_V (ci := 3) (C := RJx4a65c) (Tf := TJx4a65c) (N := 3) m_Jx4a65c_elementData_915e3 (by decide) (by decide) rfl gw_1867 gw_1864 gw_1865 gw_1866 gw_16 ⟨rfl, hp_Jx4a65c_elementData_915e3⟩ dJx4a65c_get_915e3_11) ca_t) (
  ce_fc (P := P_Jx4a65c_get_915e3) (ok_reta dJx4a65c_get_915e3_14 rfl (Or.inl ⟨_, rfl⟩)) (
  ce_fn (P := P_Jx4a65c_get_915e3))))))))))
noncomputable def ta_Jx4a65c_get_915e3 : Nat → Option ce_N := (ce_fd tb_Jx4a65c_get_915e3_0)
theorem tx_Jx4a65c_get_915e3 : ∀ pc f, ta_Jx4a65c_get_915e3 pc = some f → P_Jx4a65c_get_915e3 pc f := (ce_fd_ok (P := P_Jx4a65c_get_915e3) tk_Jx4a65c_get_915e3_0)
noncomputable def F_Jx4a65c_get_915e3 : ce_C := ce_M ta_Jx4a65c_get_915e3 2 0 0 1000000
theorem m_Jx4a65c_get_915e3 : ∀ l : Launch, l.stackTraces = false → ce_MS l yJx4a65c_get_915e3 (.code yJx4a65c_get_915e3 cJx4a65c_get_915e3 2 (some (.object "java/lang/Object"))) 2 0 0 F_Jx4a65c_get_915e3 := fun l hl => ce_met hl (by decide +kernel) tx_Jx4a65c_get_915e3
theorem hp_Jx4a65c_get_915e3 : yJx4a65c_get_915e3.cls ≠ "java/lang/invoke/MethodHandle" ∧ yJx4a65c_get_915e3.cls ≠ "java/lang/invoke/VarHandle" ∧ (parseMethodDescriptor yJx4a65c_get_915e3.desc).map (fun d => d.parameters.length) = some 1 := by decide +kernel
abbrev P_Jx4a65c_init_da8c8 : Nat → ce_N → Prop := ce_OKN "java/util/ArrayList" "<init>" cJx4a65c_init_da8c8 1 none 2 (some [])
noncomputable def tb_Jx4a65c_init_da8c8_0 : List (Nat × ce_N) := [(0, ce_li (ce_aload 0 1)),
  (1, ce_call 1 0 0 4 (.inr true) (ce_CI F_Jxc12de_init_da8c8)),
  (4, ce_li (ce_aload 0 5)),
  (5, ce_li (ce_push (.inr (.inr (.inl (.inr 1)))) 8)),
  (8, ce_li (ce_putf (tyJx4a65c 1) 3 1 11)),
  (11, ce_ret0)]
theorem tk_Jx4a65c_init_da8c8_0 : ∀ x ∈ tb_Jx4a65c_init_da8c8_0, P_Jx4a65c_init_da8c8 x.1 x.2 :=
  ce_fc (P := P_Jx4a65c_init_da8c8) (ok_li (ok_aload_n dJx4a65c_init_da8c8_0 rfl)) (
  ce_fc (P := P_Jx4a65c_init_da8c8) (ok_call (ru_I m_Jxc12de_init_da8c8 (by decide) (by decide) gw_1498 gw_1496 gw_1497 gw_15 rfl hp_Jxc12de_init_da8c8 dJx4a65c_init_da8c8_1) ca_t) (
  ce_fc (P := P_Jx4a65c_init_da8c8) (ok_li (ok_aload_n dJx4a65c_init_da8c8_4 rfl)) (
  ce_fc (P := P_Jx4a65c_init_da8c8) (ok_li (ok_gets (sv := (.inr (.inr (.inl (.inr 1))))) ce_z6 dJx4a65c_init_da8c8_5 gw_1503 rfl)) (
  ce_fc (P := P_Jx4a65c_init_da8c8) (ok_li (ok_putf (ci := 3) (k := 1) (C := RJx4a65c) (T := TJx4a65c) (N := 3) (ty0 := tyJx4a65c) dJx4a65c_init_da8c8_8 rfl ce_uJx4a65c (by decide) gw_1505 (fun _ _ _ _ h => h) tyJx4a65c_ok nmJx4a65c (Or.inl rfl))) (
  ce_fc (P := P_Jx4a65c_init_da8c8) (ok_ret0 dJx4a65c_init_da8c8_11 rfl) (
  ce_fn (P := P_Jx4a65c_init_da8c8)))))))
noncomputable def ta_Jx4a65c_init_da8c8 : Nat → Option ce_N := (ce_fd tb_Jx4a65c_init_da8c8_0)
theorem tx_Jx4a65c_init_da8c8 : ∀ pc f, ta_Jx4a65c_init_da8c8 pc = some f → P_Jx4a65c_init_da8c8 pc f := (ce_fd_ok (P := P_Jx4a65c_init_da8c8) tk_Jx4a65c_init_da8c8_0)
noncomputable def F_Jx4a65c_init_da8c8 : ce_C := ce_M ta_Jx4a65c_init_da8c8 1 0 0 1000000
theorem m_Jx4a65c_init_da8c8 : ∀ l : Launch, l.stackTraces = false → ce_MS l yJx4a65c_init_da8c8 (.code yJx4a65c_init_da8c8 cJx4a65c_init_da8c8 1 none) 2 0 0 F_Jx4a65c_init_da8c8 := fun l hl => ce_met hl (by decide +kernel) tx_Jx4a65c_init_da8c8
theorem hp_Jx4a65c_init_da8c8 : yJx4a65c_init_da8c8.cls ≠ "java/lang/invoke/MethodHandle" ∧ yJx4a65c_init_da8c8.cls ≠ "java/lang/invoke/VarHandle" ∧ (parseMethodDescriptor yJx4a65c_init_da8c8.desc).map (fun d => d.parameters.length) = some 0 := by decide +kernel
abbrev P_X11_addWall : Nat → ce_N → Prop := ce_OKN "Carcasswright" "addWall" cX11_addWall 4 (some .int) 2 (some [])
noncomputable def tb_X11_addWall_0 : List (Nat × ce_N) := [(0, ce_li (ce_iload 1 1)),
  (1, ce_li (ce_push (.inl (.inl (101))) 3)),
  (3, ce_li (ce_icmp true false false 24 6)),
  (24, ce_li (ce_push (.inl (.inl (1))) 25)),
  (25, ce_li (ce_goto 29)),
  (29, ce_li (ce_istore 3 30 4)),
  (30, ce_li (ce_iload 3 31)),
  (31, ce_li (ce_if true false false 47 34)),
  (34, ce_li (ce_iload 2 35)),
  (35, ce_li (ce_push (.inl (.inl (500))) 38)),
  (38, ce_li (ce_push (.inl (.inl (9999))) 41)),
  (41, ce_call 3 0 0 44 (.inr true) F_X11_isOutside),
  (44, ce_li (ce_if true false false 55 47)),
  (55, ce_li (ce_aload 0 56))]
theorem tk_X11_addWall_0 : ∀ x ∈ tb_X11_addWall_0, P_X11_addWall x.1 x.2 :=
  ce_fc (P := P_X11_addWall) (ok_li (ok_iload_n dX11_addWall_0 rfl)) (
  ce_fc (P := P_X11_addWall) (ok_li (ok_bipush dX11_addWall_1 (by decide))) (
  ce_fc (P := P_X11_addWall) (ok_li (ok_icmp_eq dX11_addWall_3 (by decide))) (
  ce_fc (P := P_X11_addWall) (ok_li (ok_iconst dX11_addWall_24)) (
  ce_fc (P := P_X11_addWall) (ok_li (ok_goto dX11_addWall_25 (by decide))) (
  ce_fc (P := P_X11_addWall) (ok_li (ok_istore_n dX11_addWall_29 rfl)) (
  ce_fc (P := P_X11_addWall) (ok_li (ok_iload_n dX11_addWall_30 rfl)) (
  ce_fc (P := P_X11_addWall) (ok_li (ok_if_eq dX11_addWall_31 (by decide))) (
  ce_fc (P := P_X11_addWall) (ok_li (ok_iload_n dX11_addWall_34 rfl)) (
  ce_fc (P := P_X11_addWall) (ok_li (ok_sipush dX11_addWall_35 (by decide))) (
  ce_fc (P := P_X11_addWall) (ok_li (ok_sipush dX11_addWall_38 (by decide))) (
  ce_fc (P := P_X11_addWall) (ok_call (ru_S m_X11_isOutside (by decide) (by decide) gw_724 gw_722 gw_723 gw_1 hp_X11_isOutside dX11_addWall_41) ca_t) (
  ce_fc (P := P_X11_addWall) (ok_li (ok_if_eq dX11_addWall_44 (by decide))) (
  ce_fc (P := P_X11_addWall) (ok_li (ok_aload_n dX11_addWall_55 rfl)) (
  ce_fn (P := P_X11_addWall)))))))))))))))
noncomputable def tb_X11_addWall_1 : List (Nat × ce_N) := [(56, ce_li (ce_getf 15 1 59)),
  (59, ce_li (ce_getf 10 6 62)),
  (62, ce_li (ce_push (.inl (.inl (6))) 64)),
  (64, ce_li (ce_icmp false false true 77 67)),
  (67, ce_li (ce_aload 0 68)),
  (68, ce_li (ce_getf 15 1 71)),
  (71, ce_li (ce_getf 10 8 74)),
  (74, ce_li (ce_if false true true 85 77)),
  (85, ce_li (ce_aload 0 86)),
  (86, ce_li (ce_getf 15 1 89)),
  (89, ce_li (ce_iload 1 90)),
  (90, ce_li (ce_iload 2 91)),
  (91, ce_call 3 0 0 94 (.inr true) (ce_CV 10 F_X6_build)),
  (94, ce_reti .int)]
theorem tk_X11_addWall_1 : ∀ x ∈ tb_X11_addWall_1, P_X11_addWall x.1 x.2 :=
  ce_fc (P := P_X11_addWall) (ok_li (ok_getf (ci := 15) (k := 1) (C := RX11) (T := TX11) (N := 7) dX11_addWall_56 rfl ce_uX11 (by decide) gw_455 (fun _ _ _ _ h => h))) (
  ce_fc (P := P_X11_addWall) (ok_li (ok_getf (ci := 10) (k := 6) (C := RX6) (T := TX6) (N := 10) dX11_addWall_59 rfl ce_uX6 (by decide) gw_256 (fun _ _ _ _ h => h))) (
  ce_fc (P := P_X11_addWall) (ok_li (ok_bipush dX11_addWall_62 (by decide))) (
  ce_fc (P := P_X11_addWall) (ok_li (ok_icmp_ge dX11_addWall_64 (by decide))) (
  ce_fc (P := P_X11_addWall) (ok_li (ok_aload_n dX11_addWall_67 rfl)) (
  ce_fc (P := P_X11_addWall) (ok_li (ok_getf (ci := 15) (k := 1) (C := RX11) (T := TX11) (N := 7) dX11_addWall_68 rfl ce_uX11 (by decide) gw_455 (fun _ _ _ _ h => h))) (
  ce_fc (P := P_X11_addWall) (ok_li (ok_getf (ci := 10) (k := 8) (C := RX6) (T := TX6) (N := 10) dX11_addWall_71 rfl ce_uX6 (by decide) gw_259 (fun _ _ _ _ h => h))) (
  ce_fc (P := P_X11_addWall) (ok_li (ok_if_le dX11_addWall_74 (by decide))) (
  ce_fc (P := P_X11_addWall) (ok_li (ok_aload_n dX11_addWall_85 rfl)) (
  ce_fc (P := P_X11_addWall) (ok_li (ok_getf (ci := 15) (k := 1) (C := RX11) (T := TX11) (N := 7) dX11_addWall_86 rfl ce_uX11 (by decide) gw_455 (fun _ _ _ _ h => h))) (
  ce_fc (P := P_X11_addWall) (ok_li (ok_iload_n dX11_addWall_89 rfl)) (
  ce_fc (P := P_X11_addWall) (ok_li (ok_iload_n dX11_addWall_90 rfl)) (
  ce_fc (P := P_X11_addWall) (ok_call (ru_V (ci := 10) (C := RX6) (Tf := TX6) (N := 10) m_X6_build (by decide) (by decide) rfl gw_758 gw_755 gw_756 gw_757 gw_4 ⟨rfl, hp_X6_build⟩ dX11_addWall_91) ca_t) (
  ce_fc (P := P_X11_addWall) (ok_reti dX11_addWall_94 rfl) (
  ce_fn (P := P_X11_addWall)))))))))))))))
noncomputable def ta_X11_addWall : Nat → Option ce_N := (ce_tr 56 (ce_fd tb_X11_addWall_0) (ce_fd tb_X11_addWall_1))
theorem tx_X11_addWall : ∀ pc f, ta_X11_addWall pc = some f → P_X11_addWall pc f := (ce_tr_ok (P := P_X11_addWall) (ce_fd_ok (P := P_X11_addWall) tk_X11_addWall_0) (ce_fd_ok (P := P_X11_addWall) tk_X11_addWall_1))
noncomputable def F_X11_addWall : ce_C := ce_M ta_X11_addWall 4 0 0 1000000
theorem m_X11_addWall : ∀ l : Launch, l.stackTraces = false → ce_MS l yX11_addWall (.code yX11_addWall cX11_addWall 4 (some .int)) 2 0 0 F_X11_addWall := fun l hl => ce_met hl (by decide +kernel) tx_X11_addWall
theorem hp_X11_addWall : yX11_addWall.cls ≠ "java/lang/invoke/MethodHandle" ∧ yX11_addWall.cls ≠ "java/lang/invoke/VarHandle" ∧ (parseMethodDescriptor yX11_addWall.desc).map (fun d => d.parameters.length) = some 2 := by decide +kernel
abbrev P_X11_free : Nat → ce_N → Prop := ce_OKN "Carcasswright" "free" cX11_free 3 (some .int) 2 (some [])
noncomputable def tb_X11_free_0 : List (Nat × ce_N) := [(0, ce_li (ce_aload 0 1)),
  (1, ce_li (ce_getf 15 1 4)),
  (4, ce_li (ce_iload 1 5)),
  (5, ce_li (ce_iload 2 6)),
  (6, ce_li (ce_push (.inl (.inl (0))) 7)),
  (7, ce_call 4 0 0 10 (.inr true) (ce_CV 10 F_X6_freeRows)),
  (10, ce_reti .int)]
theorem tk_X11_free_0 : ∀ x ∈ tb_X11_free_0, P_X11_free x.1 x.2 :=
  ce_fc (P := P_X11_free) (ok_li (ok_aload_n dX11_free_0 rfl)) (
  ce_fc (P := P_X11_free) (ok_li (ok_getf (ci := 15) (k := 1) (C := RX11) (T := TX11) (N := 7) dX11_free_1 rfl ce_uX11 (by decide) gw_455 (fun _ _ _ _ h => h))) (
  ce_fc (P := P_X11_free) (ok_li (ok_iload_n dX11_free_4 rfl)) (
  ce_fc (P := P_X11_free) (ok_li (ok_iload_n dX11_free_5 rfl)) (
  ce_fc (P := P_X11_free) (ok_li (ok_iconst dX11_free_6)) (
  ce_fc (P := P_X11_free) (ok_call (ru_V (ci := 10) (C := RX6) (Tf := TX6) (N := 10) m_X6_freeRows (by decide) (by decide) rfl gw_1056 gw_1053 gw_1054 gw_1055 gw_4 ⟨rfl, hp_X6_freeRows⟩ dX11_free_7) ca_t) (
  ce_fc (P := P_X11_free) (ok_reti dX11_free_10 rfl) (
  ce_fn (P := P_X11_free))))))))
noncomputable def ta_X11_free : Nat → Option ce_N := (ce_fd tb_X11_free_0)
theorem tx_X11_free : ∀ pc f, ta_X11_free pc = some f → P_X11_free pc f := (ce_fd_ok (P := P_X11_free) tk_X11_free_0)
noncomputable def F_X11_free : ce_C := ce_M ta_X11_free 3 0 0 1000000
theorem m_X11_free : ∀ l : Launch, l.stackTraces = false → ce_MS l yX11_free (.code yX11_free cX11_free 3 (some .int)) 2 0 0 F_X11_free := fun l hl => ce_met hl (by decide +kernel) tx_X11_free
theorem hp_X11_free : yX11_free.cls ≠ "java/lang/invoke/MethodHandle" ∧ yX11_free.cls ≠ "java/lang/invoke/VarHandle" ∧ (parseMethodDescriptor yX11_free.desc).map (fun d => d.parameters.length) = some 2 := by decide +kernel
end
section
abbrev P_X11_init : Nat → ce_N → Prop := ce_OKN "Carcasswright" "<init>" cX11_init 1 none 2 (some [])
noncomputable def tb_X11_init_0 : List (Nat × ce_N) := [(0, ce_li (ce_aload 0 1)),
  (1, ce_li (ce_oi 4)),
  (4, ce_li (ce_aload 0 5)),
  (5, ce_li (ce_new 13 10 dl_X9 8)),
  (8, ce_li (ce_dup 9)),
  (9, ce_call 1 11 119 12 (.inr true) (ce_CI F_X9_init)),
  (12, ce_li (ce_putf (tyX11 0) 15 0 15)),
  (15, ce_li (ce_aload 0 16)),
  (16, ce_li (ce_new 10 10 dl_X6 19)),
  (19, ce_li (ce_dup 20)),
  (20, ce_li (ce_aload 0 21)),
  (21, ce_li (ce_getf 15 0 24)),
  (24, ce_call 1 0 0 27 (.inr true) (ce_CV 13 F_X9_first)),
  (27, ce_call 2 36 195 30 (.inr true) (ce_CI F_X6_init))]
theorem tk_X11_init_0 : ∀ x ∈ tb_X11_init_0, P_X11_init x.1 x.2 :=
  ce_fc (P := P_X11_init) (ok_li (ok_aload_n dX11_init_0 rfl)) (
  ce_fc (P := P_X11_init) (ok_li (ok_oi dX11_init_1 gw_56 gw_57 gw_58)) (
  ce_fc (P := P_X11_init) (ok_li (ok_aload_n dX11_init_4 rfl)) (
  ce_fc (P := P_X11_init) (ok_li (ok_new (ci := 13) (C := RX9) (T := TX9) (N := 10) (ty0 := tyX9) dX11_init_5 rfl ce_uX9 tyX9_ok gw_59 gw_60 gw_2 dv_X9 rfl)) (
  ce_fc (P := P_X11_init) (ok_li (ok_dup dX11_init_8)) (
  ce_fc (P := P_X11_init) (ok_call (ru_I m_X9_init (by decide) (by decide) gw_63 gw_61 gw_62 gw_2 rfl hp_X9_init dX11_init_9) ca_t) (
  ce_fc (P := P_X11_init) (ok_li (ok_putf (ci := 15) (k := 0) (C := RX11) (T := TX11) (N := 7) (ty0 := tyX11) dX11_init_12 rfl ce_uX11 (by decide) gw_454 (fun _ _ _ _ h => h) tyX11_ok nmX11 (Or.inr ⟨rfl, rfl, rfl⟩))) (
  ce_fc (P := P_X11_init) (ok_li (ok_aload_n dX11_init_15 rfl)) (
  ce_fc (P := P_X11_init) (ok_li (ok_new (ci := 10) (C := RX6) (T := TX6) (N := 10) (ty0 := tyX6) dX11_init_16 rfl ce_uX6 tyX6_ok gw_149 gw_150 gw_4 dv_X6 rfl)) (
  ce_fc (P := P_X11_init) (ok_li (ok_dup dX11_init_19)) (
  ce_fc (P := P_X11_init) (ok_li (ok_aload_n dX11_init_20 rfl)) (
  ce_fc (P := P_X11_init) (ok_li (ok_getf (ci := 15) (k := 0) (C := RX11) (T := TX11) (N := 7) dX11_init_21 rfl ce_uX11 (by decide) gw_454 (fun _ _ _ _ h => h))) (
  ce_fc (P := P_X11_init) (ok_call (ru_V (ci := 13) (C := RX9) (Tf := TX9) (N := 10) m_X9_first (by decide) (by decide) rfl gw_154 gw_151 gw_152 gw_153 gw_2 ⟨rfl, hp_X9_first⟩ dX11_init_24) ca_t) (
  ce_fc (P := P_X11_init) (ok_call (ru_I m_X6_init (by decide) (by decide) gw_157 gw_155 gw_156 gw_4 rfl hp_X6_init dX11_init_27) ca_t) (
  ce_fn (P := P_X11_init)))))))))))))))
noncomputable def tb_X11_init_1 : List (Nat × ce_N) := [(30, ce_li (ce_putf (tyX11 1) 15 1 33)),
  (33, ce_li (ce_aload 0 34)),
  (34, ce_li (ce_new 12 5 dl_X8 37)),
  (37, ce_li (ce_dup 38)),
  (38, ce_call 1 61 480 41 (.inr true) (ce_CI F_X8_init)),
  (41, ce_li (ce_putf (tyX11 2) 15 2 44)),
  (44, ce_li (ce_aload 0 45)),
  (45, ce_li (ce_new 11 13 dl_X7 48)),
  (48, ce_li (ce_dup 49)),
  (49, ce_li (ce_aload 0 50)),
  (50, ce_li (ce_getf 15 2 53)),
  (53, ce_call 2 57 550 56 (.inr true) (ce_CI F_X7_init)),
  (56, ce_li (ce_putf (tyX11 3) 15 3 59)),
  (59, ce_li (ce_aload 0 60))]
theorem tk_X11_init_1 : ∀ x ∈ tb_X11_init_1, P_X11_init x.1 x.2 :=
  ce_fc (P := P_X11_init) (ok_li (ok_putf (ci := 15) (k := 1) (C := RX11) (T := TX11) (N := 7) (ty0 := tyX11) dX11_init_30 rfl ce_uX11 (by decide) gw_455 (fun _ _ _ _ h => h) tyX11_ok nmX11 (Or.inr ⟨rfl, rfl, rfl⟩))) (
  ce_fc (P := P_X11_init) (ok_li (ok_aload_n dX11_init_33 rfl)) (
  ce_fc (P := P_X11_init) (ok_li (ok_new (ci := 12) (C := RX8) (T := TX8) (N := 5) (ty0 := tyX8) dX11_init_34 rfl ce_uX8 tyX8_ok gw_284 gw_285 gw_8 dv_X8 rfl)) (
  ce_fc (P := P_X11_init) (ok_li (ok_dup dX11_init_37)) (
  ce_fc (P := P_X11_init) (ok_call (ru_I m_X8_init (by decide) (by decide) gw_288 gw_286 gw_287 gw_8 rfl hp_X8_init dX11_init_38) ca_t) (
  ce_fc (P := P_X11_init) (ok_li (ok_putf (ci := 15) (k := 2) (C := RX11) (T := TX11) (N := 7) (ty0 := tyX11) dX11_init_41 rfl ce_uX11 (by decide) gw_456 (fun _ _ _ _ h => h) tyX11_ok nmX11 (Or.inr ⟨rfl, rfl, rfl⟩))) (
  ce_fc (P := P_X11_init) (ok_li (ok_aload_n dX11_init_44 rfl)) (
  ce_fc (P := P_X11_init) (ok_li (ok_new (ci := 11) (C := RX7) (T := TX7) (N := 13) (ty0 := tyX7) dX11_init_45 rfl ce_uX7 tyX7_ok gw_350 gw_351 gw_10 dv_X7 rfl)) (
  ce_fc (P := P_X11_init) (ok_li (ok_dup dX11_init_48)) (
  ce_fc (P := P_X11_init) (ok_li (ok_aload_n dX11_init_49 rfl)) (
  ce_fc (P := P_X11_init) (ok_li (ok_getf (ci := 15) (k := 2) (C := RX11) (T := TX11) (N := 7) dX11_init_50 rfl ce_uX11 (by decide) gw_456 (fun _ _ _ _ h => h))) (
  ce_fc (P := P_X11_init) (ok_call (ru_I m_X7_init (by decide) (by decide) gw_354 gw_352 gw_353 gw_10 rfl hp_X7_init dX11_init_53) ca_t) (
  ce_fc (P := P_X11_init) (ok_li (ok_putf (ci := 15) (k := 3) (C := RX11) (T := TX11) (N := 7) (ty0 := tyX11) dX11_init_56 rfl ce_uX11 (by decide) gw_457 (fun _ _ _ _ h => h) tyX11_ok nmX11 (Or.inr ⟨rfl, rfl, rfl⟩))) (
  ce_fc (P := P_X11_init) (ok_li (ok_aload_n dX11_init_59 rfl)) (
  ce_fn (P := P_X11_init)))))))))))))))
noncomputable def tb_X11_init_2 : List (Nat × ce_N) := [(60, ce_li (ce_new 8 4 dl_X4 63)),
  (63, ce_li (ce_dup 64)),
  (64, ce_call 1 3 75 67 (.inr true) (ce_CI F_X4_init)),
  (67, ce_li (ce_putf (tyX11 4) 15 4 70)),
  (70, ce_li (ce_aload 0 71)),
  (71, ce_li (ce_new 5 8 dl_X1 74)),
  (74, ce_li (ce_dup 75)),
  (75, ce_call 1 5 30 78 (.inr true) (ce_CI F_X1_init)),
  (78, ce_li (ce_putf (tyX11 5) 15 5 81)),
  (81, ce_li (ce_aload 0 82)),
  (82, ce_li (ce_push (.inl (.inl (3))) 83)),
  (83, ce_li (ce_newa 0 2 85)),
  (85, ce_li (ce_dup 86)),
  (86, ce_li (ce_push (.inl (.inl (0))) 87))]
theorem tk_X11_init_2 : ∀ x ∈ tb_X11_init_2, P_X11_init x.1 x.2 :=
  ce_fc (P := P_X11_init) (ok_li (ok_new (ci := 8) (C := RX4) (T := TX4) (N := 4) (ty0 := tyX4) dX11_init_60 rfl ce_uX4 tyX4_ok gw_399 gw_400 gw_11 dv_X4 rfl)) (
  ce_fc (P := P_X11_init) (ok_li (ok_dup dX11_init_63)) (
  ce_fc (P := P_X11_init) (ok_call (ru_IN m_X4_init (by decide) (by decide) gw_403 gn_13 gw_402 gw_11 rfl hp_X4_init dX11_init_64) ca_t) (
  ce_fc (P := P_X11_init) (ok_li (ok_putf (ci := 15) (k := 4) (C := RX11) (T := TX11) (N := 7) (ty0 := tyX11) dX11_init_67 rfl ce_uX11 (by decide) gw_458 (fun _ _ _ _ h => h) tyX11_ok nmX11 (Or.inr ⟨rfl, rfl, rfl⟩))) (
  ce_fc (P := P_X11_init) (ok_li (ok_aload_n dX11_init_70 rfl)) (
  ce_fc (P := P_X11_init) (ok_li (ok_new (ci := 5) (C := RX1) (T := TX1) (N := 8) (ty0 := tyX1) dX11_init_71 rfl ce_uX1 tyX1_ok gw_419 gw_420 gw_12 dv_X1 rfl)) (
  ce_fc (P := P_X11_init) (ok_li (ok_dup dX11_init_74)) (
  ce_fc (P := P_X11_init) (ok_call (ru_IN m_X1_init (by decide) (by decide) gw_423 gn_14 gw_422 gw_12 rfl hp_X1_init dX11_init_75) ca_t) (
  ce_fc (P := P_X11_init) (ok_li (ok_putf (ci := 15) (k := 5) (C := RX11) (T := TX11) (N := 7) (ty0 := tyX11) dX11_init_78 rfl ce_uX11 (by decide) gw_459 (fun _ _ _ _ h => h) tyX11_ok nmX11 (Or.inr ⟨rfl, rfl, rfl⟩))) (
  ce_fc (P := P_X11_init) (ok_li (ok_aload_n dX11_init_81 rfl)) (
  ce_fc (P := P_X11_init) (ok_li (ok_iconst dX11_init_82)) (
  ce_fc (P := P_X11_init) (ok_li (ok_newa_int dX11_init_83 gw_193)) (
  ce_fc (P := P_X11_init) (ok_li (ok_dup dX11_init_85)) (
  ce_fc (P := P_X11_init) (ok_li (ok_iconst dX11_init_86)) (
  ce_fn (P := P_X11_init)))))))))))))))
noncomputable def tb_X11_init_3 : List (Nat × ce_N) := [(87, ce_li (ce_push (.inl (.inl (2))) 88)),
  (88, ce_li (ce_iast 0 89 88)),
  (89, ce_li (ce_dup 90)),
  (90, ce_li (ce_push (.inl (.inl (1))) 91)),
  (91, ce_li (ce_push (.inl (.inl (5))) 92)),
  (92, ce_li (ce_iast 0 93 92)),
  (93, ce_li (ce_dup 94)),
  (94, ce_li (ce_push (.inl (.inl (2))) 95)),
  (95, ce_li (ce_push (.inl (.inl (9))) 97)),
  (97, ce_li (ce_iast 0 98 97)),
  (98, ce_li (ce_putf (tyX11 6) 15 6 101)),
  (101, ce_ret0)]
theorem tk_X11_init_3 : ∀ x ∈ tb_X11_init_3, P_X11_init x.1 x.2 :=
  ce_fc (P := P_X11_init) (ok_li (ok_iconst dX11_init_87)) (
  ce_fc (P := P_X11_init) (ok_li (ok_iastore dX11_init_88)) (
  ce_fc (P := P_X11_init) (ok_li (ok_dup dX11_init_89)) (
  ce_fc (P := P_X11_init) (ok_li (ok_iconst dX11_init_90)) (
  ce_fc (P := P_X11_init) (ok_li (ok_iconst dX11_init_91)) (
  ce_fc (P := P_X11_init) (ok_li (ok_iastore dX11_init_92)) (
  ce_fc (P := P_X11_init) (ok_li (ok_dup dX11_init_93)) (
  ce_fc (P := P_X11_init) (ok_li (ok_iconst dX11_init_94)) (
  ce_fc (P := P_X11_init) (ok_li (ok_bipush dX11_init_95 (by decide))) (
  ce_fc (P := P_X11_init) (ok_li (ok_iastore dX11_init_97)) (
  ce_fc (P := P_X11_init) (ok_li (ok_putf (ci := 15) (k := 6) (C := RX11) (T := TX11) (N := 7) (ty0 := tyX11) dX11_init_98 rfl ce_uX11 (by decide) gw_460 (fun _ _ _ _ h => h) tyX11_ok nmX11 (Or.inr ⟨rfl, rfl, rfl⟩))) (
  ce_fc (P := P_X11_init) (ok_ret0 dX11_init_101 rfl) (
  ce_fn (P := P_X11_init)))))))))))))
noncomputable def ta_X11_init : Nat → Option ce_N := (ce_tr 60 (ce_tr 30 (ce_fd tb_X11_init_0) (ce_fd tb_X11_init_1)) (ce_tr 87 (ce_fd tb_X11_init_2) (ce_fd tb_X11_init_3)))
theorem tx_X11_init : ∀ pc f, ta_X11_init pc = some f → P_X11_init pc f := (ce_tr_ok (P := P_X11_init) (ce_tr_ok (P := P_X11_init) (ce_fd_ok (P := P_X11_init) tk_X11_init_0) (ce_fd_ok (P := P_X11_init) tk_X11_init_1)) (ce_tr_ok (P := P_X11_init) (ce_fd_ok (P := P_X11_init) tk_X11_init_2) (ce_fd_ok (P := P_X11_init) tk_X11_init_3)))
noncomputable def F_X11_init : ce_C := ce_M ta_X11_init 1 180 1502 1000000
theorem m_X11_init : ∀ l : Launch, l.stackTraces = false → ce_MS l yX11_init (.code yX11_init cX11_init 1 none) 2 180 1502 F_X11_init := fun l hl => ce_met hl (by decide +kernel) tx_X11_init
theorem hp_X11_init : yX11_init.cls ≠ "java/lang/invoke/MethodHandle" ∧ yX11_init.cls ≠ "java/lang/invoke/VarHandle" ∧ (parseMethodDescriptor yX11_init.desc).map (fun d => d.parameters.length) = some 0 := by decide +kernel
abbrev P_J0_indexOf_0f7a4 : Nat → ce_N → Prop := ce_OKN "java/lang/String" "indexOf" cJ0_indexOf_0f7a4 2 (some .int) 3 (some [])
noncomputable def tb_J0_indexOf_0f7a4_0 : List (Nat × ce_N) := [(0, ce_li (ce_aload 0 1)),
  (1, ce_li (ce_iload 1 2)),
  (2, ce_li (ce_push (.inl (.inl (0))) 3)),
  (3, ce_call 3 0 0 6 (.inr true) (ce_CV 0 F_J0_indexOf_7cf53)),
  (6, ce_reti .int)]
theorem tk_J0_indexOf_0f7a4_0 : ∀ x ∈ tb_J0_indexOf_0f7a4_0, P_J0_indexOf_0f7a4 x.1 x.2 :=
  ce_fc (P := P_J0_indexOf_0f7a4) (ok_li (ok_aload_n dJ0_indexOf_0f7a4_0 rfl)) (
  ce_fc (P := P_J0_indexOf_0f7a4) (ok_li (ok_iload_n dJ0_indexOf_0f7a4_1 rfl)) (
  ce_fc (P := P_J0_indexOf_0f7a4) (ok_li (ok_iconst dJ0_indexOf_0f7a4_2)) (
  ce_fc (P := P_J0_indexOf_0f7a4) (ok_call (ru_V (ci := 0) (C := RJ0) (Tf := TJ0) (N := 4) m_J0_indexOf_7cf53 (by decide) (by decide) rfl gw_1599 gw_1596 gw_1597 gw_1598 gw_23 ⟨rfl, hp_J0_indexOf_7cf53⟩ dJ0_indexOf_0f7a4_3) ca_t) (
  ce_fc (P := P_J0_indexOf_0f7a4) (ok_reti dJ0_indexOf_0f7a4_6 rfl) (
  ce_fn (P := P_J0_indexOf_0f7a4))))))
noncomputable def ta_J0_indexOf_0f7a4 : Nat → Option ce_N := (ce_fd tb_J0_indexOf_0f7a4_0)
theorem tx_J0_indexOf_0f7a4 : ∀ pc f, ta_J0_indexOf_0f7a4 pc = some f → P_J0_indexOf_0f7a4 pc f := (ce_fd_ok (P := P_J0_indexOf_0f7a4) tk_J0_indexOf_0f7a4_0)
noncomputable def F_J0_indexOf_0f7a4 : ce_C := ce_M ta_J0_indexOf_0f7a4 2 0 0 1000000
theorem m_J0_indexOf_0f7a4 : ∀ l : Launch, l.stackTraces = false → ce_MS l yJ0_indexOf_0f7a4 (.code yJ0_indexOf_0f7a4 cJ0_indexOf_0f7a4 2 (some .int)) 3 0 0 F_J0_indexOf_0f7a4 := fun l hl => ce_met hl (by decide +kernel) tx_J0_indexOf_0f7a4
theorem hp_J0_indexOf_0f7a4 : yJ0_indexOf_0f7a4.cls ≠ "java/lang/invoke/MethodHandle" ∧ yJ0_indexOf_0f7a4.cls ≠ "java/lang/invoke/VarHandle" ∧ (parseMethodDescriptor yJ0_indexOf_0f7a4.desc).map (fun d => d.parameters.length) = some 1 := by decide +kernel
abbrev P_Jx4a65c_add_9ea2d : Nat → ce_N → Prop := ce_OKN "java/util/ArrayList" "add" cJx4a65c_add_9ea2d 2 (some .boolean) 3 (some [])
noncomputable def tb_Jx4a65c_add_9ea2d_0 : List (Nat × ce_N) := [(0, ce_li (ce_aload 0 1)),
  (1, ce_li (ce_dup 2)),
  (2, ce_li (ce_getf 3 0 5)),
  (5, ce_li (ce_push (.inl (.inl (1))) 6)),
  (6, ce_li (ce_bin ce_addo 7)),
  (7, ce_li (ce_putf (tyJx4a65c 0) 3 0 10)),
  (10, ce_li (ce_aload 0 11)),
  (11, ce_li (ce_aload 1 12)),
  (12, ce_li (ce_aload 0 13)),
  (13, ce_li (ce_getf 3 1 16)),
  (16, ce_li (ce_aload 0 17)),
  (17, ce_li (ce_getf 3 2 20)),
  (20, ce_call 4 1 10 23 (.inr true) (ce_CV 3 F_Jx4a65c_add_72be8)),
  (23, ce_li (ce_push (.inl (.inl (1))) 24))]
theorem tk_Jx4a65c_add_9ea2d_0 : ∀ x ∈ tb_Jx4a65c_add_9ea2d_0, P_Jx4a65c_add_9ea2d x.1 x.2 :=
  ce_fc (P := P_Jx4a65c_add_9ea2d) (ok_li (ok_aload_n dJx4a65c_add_9ea2d_0 rfl)) (
  ce_fc (P := P_Jx4a65c_add_9ea2d) (ok_li (ok_dup dJx4a65c_add_9ea2d_1)) (
  ce_fc (P := P_Jx4a65c_add_9ea2d) (ok_li (ok_getf (ci := 3) (k := 0) (C := RJx4a65c) (T := TJx4a65c) (N := 3) dJx4a65c_add_9ea2d_2 rfl ce_uJx4a65c (by decide) gw_1512 (fun s args hw x h => u_same (hw _ gw_1511) x h))) (
  ce_fc (P := P_Jx4a65c_add_9ea2d) (ok_li (ok_iconst dJx4a65c_add_9ea2d_5)) (
  ce_fc (P := P_Jx4a65c_add_9ea2d) (ok_li (ok_iadd dJx4a65c_add_9ea2d_6)) (
  ce_fc (P := P_Jx4a65c_add_9ea2d) (ok_li (ok_putf (ci := 3) (k := 0) (C := RJx4a65c) (T := TJx4a65c) (N := 3) (ty0 := tyJx4a65c) dJx4a65c_add_9ea2d_7 rfl ce_uJx4a65c (by decide) gw_1512 (fun s args hw x h => u_same (hw _ gw_1511) x h) tyJx4a65c_ok nmJx4a65c (Or.inl rfl))) (
  ce_fc (P := P_Jx4a65c_add_9ea2d) (ok_li (ok_aload_n dJx4a65c_add_9ea2d_10 rfl)) (
  ce_fc (P := P_Jx4a65c_add_9ea2d) (ok_li (ok_aload_n dJx4a65c_add_9ea2d_11 rfl)) (
  ce_fc (P := P_Jx4a65c_add_9ea2d) (ok_li (ok_aload_n dJx4a65c_add_9ea2d_12 rfl)) (
  ce_fc (P := P_Jx4a65c_add_9ea2d) (ok_li (ok_getf (ci := 3) (k := 1) (C := RJx4a65c) (T := TJx4a65c) (N := 3) dJx4a65c_add_9ea2d_13 rfl ce_uJx4a65c (by decide) gw_1505 (fun _ _ _ _ h => h))) (
  ce_fc (P := P_Jx4a65c_add_9ea2d) (ok_li (ok_aload_n dJx4a65c_add_9ea2d_16 rfl)) (
  ce_fc (P := P_Jx4a65c_add_9ea2d) (ok_li (ok_getf (ci := 3) (k := 2) (C := RJx4a65c) (T := TJx4a65c) (N := 3) dJx4a65c_add_9ea2d_17 rfl ce_uJx4a65c (by decide) gw_1508 (fun _ _ _ _ h => h))) (
  ce_fc (P := P_Jx4a65c_add_9ea2d) (ok_call (ru_V (ci := 3) (C := RJx4a65c) (Tf := TJx4a65c) (N := 3) m_Jx4a65c_add_72be8 (by decide) (by decide) rfl gw_1717 gw_1714 gw_1716 gp_4 gw_16 ⟨rfl, hp_Jx4a65c_add_72be8⟩ dJx4a65c_add_9ea2d_20) ca_t) (
  ce_fc (P := P_Jx4a65c_add_9ea2d) (ok_li (ok_iconst dJx4a65c_add_9ea2d_23)) (
  ce_fn (P := P_Jx4a65c_add_9ea2d)))))))))))))))
noncomputable def tb_Jx4a65c_add_9ea2d_1 : List (Nat × ce_N) := [(24, ce_reti .boolean)]
theorem tk_Jx4a65c_add_9ea2d_1 : ∀ x ∈ tb_Jx4a65c_add_9ea2d_1, P_Jx4a65c_add_9ea2d x.1 x.2 :=
  ce_fc (P := P_Jx4a65c_add_9ea2d) (ok_reti dJx4a65c_add_9ea2d_24 rfl) (
  ce_fn (P := P_Jx4a65c_add_9ea2d))
noncomputable def ta_Jx4a65c_add_9ea2d : Nat → Option ce_N := (ce_tr 24 (ce_fd tb_Jx4a65c_add_9ea2d_0) (ce_fd tb_Jx4a65c_add_9ea2d_1))
theorem tx_Jx4a65c_add_9ea2d : ∀ pc f, ta_Jx4a65c_add_9ea2d pc = some f → P_Jx4a65c_add_9ea2d pc f := (ce_tr_ok (P := P_Jx4a65c_add_9ea2d) (ce_fd_ok (P := P_Jx4a65c_add_9ea2d) tk_Jx4a65c_add_9ea2d_0) (ce_fd_ok (P := P_Jx4a65c_add_9ea2d) tk_Jx4a65c_add_9ea2d_1))
noncomputable def F_Jx4a65c_add_9ea2d : ce_C := ce_M ta_Jx4a65c_add_9ea2d 2 1 10 1000000
theorem m_Jx4a65c_add_9ea2d : ∀ l : Launch, l.stackTraces = false → ce_MS l yJx4a65c_add_9ea2d (.code yJx4a65c_add_9ea2d cJx4a65c_add_9ea2d 2 (some .boolean)) 3 1 10 F_Jx4a65c_add_9ea2d := fun l hl => ce_met hl (by decide +kernel) tx_Jx4a65c_add_9ea2d
theorem hp_Jx4a65c_add_9ea2d : yJx4a65c_add_9ea2d.cls ≠ "java/lang/invoke/MethodHandle" ∧ yJx4a65c_add_9ea2d.cls ≠ "java/lang/invoke/VarHandle" ∧ (parseMethodDescriptor yJx4a65c_add_9ea2d.desc).map (fun d => d.parameters.length) = some 1 := by decide +kernel
abbrev P_L_addWall : Nat → ce_N → Prop := ce_OKN "CarcasswrightLaw" "addWall" cL_addWall 5 (some .int) 3 (some [(0, 10, 13, 13), (0, 10, 17, 15)])
noncomputable def tb_L_addWall_0 : List (Nat × ce_N) := [(0, ce_li (ce_aload 3 1)),
  (1, ce_li (ce_push (.inl (.inl (0))) 2)),
  (2, ce_li (ce_aload 0 3)),
  (3, ce_li (ce_iload 1 4)),
  (4, ce_li (ce_iload 2 5)),
  (5, ce_call 3 0 0 8 (.inl (0, 15, 4)) (ce_CV 15 F_X11_addWall)),
  (8, ce_li (ce_i2l 9)),
  (9, ce_li (ce_last 10)),
  (10, ce_li (ce_goto 21)),
  (21, ce_li (ce_push (.inl (.inl (0))) 22)),
  (22, ce_reti .int)]
theorem tk_L_addWall_0 : ∀ x ∈ tb_L_addWall_0, P_L_addWall x.1 x.2 :=
  ce_fc (P := P_L_addWall) (ok_li (ok_aload_n dL_addWall_0 rfl)) (
  ce_fc (P := P_L_addWall) (ok_li (ok_iconst dL_addWall_1)) (
  ce_fc (P := P_L_addWall) (ok_li (ok_aload_n dL_addWall_2 rfl)) (
  ce_fc (P := P_L_addWall) (ok_li (ok_iload_n dL_addWall_3 rfl)) (
  ce_fc (P := P_L_addWall) (ok_li (ok_iload_n dL_addWall_4 rfl)) (
  ce_fc (P := P_L_addWall) (ok_call (ca := .inl (0, 15, 4)) (hh := some [(0, 10, 13, 13), (0, 10, 17, 15)]) (ru_V (ci := 15) (C := RX11) (Tf := TX11) (N := 7) m_X11_addWall (by decide) (by decide) rfl gw_721 gw_718 gw_719 gw_720 gw_1 ⟨rfl, hp_X11_addWall⟩ dL_addWall_5) (⟨_, _, _, (0 : Fin 4), rfl, rfl, by decide, by decide, gw_716, gn_0, Or.inr ⟨dL_addWall_13, rfl⟩, by decide⟩)) (
  ce_fc (P := P_L_addWall) (ok_li (ok_i2l dL_addWall_8)) (
  ce_fc (P := P_L_addWall) (ok_li (ok_last dL_addWall_9)) (
  ce_fc (P := P_L_addWall) (ok_li (ok_goto dL_addWall_10 (by decide))) (
  ce_fc (P := P_L_addWall) (ok_li (ok_iconst dL_addWall_21)) (
  ce_fc (P := P_L_addWall) (ok_reti dL_addWall_22 rfl) (
  ce_fn (P := P_L_addWall))))))))))))
noncomputable def ta_L_addWall : Nat → Option ce_N := (ce_fd tb_L_addWall_0)
theorem tx_L_addWall : ∀ pc f, ta_L_addWall pc = some f → P_L_addWall pc f := (ce_fd_ok (P := P_L_addWall) tk_L_addWall_0)
noncomputable def F_L_addWall : ce_C := ce_M ta_L_addWall 5 0 0 1000000
theorem m_L_addWall : ∀ l : Launch, l.stackTraces = false → ce_MS l yL_addWall (.codeWith yL_addWall cL_addWall 5 (some .int) [(0, 10, 13, 13), (0, 10, 17, 15)]) 3 0 0 F_L_addWall := fun l hl => ce_metW hl (by decide +kernel) tx_L_addWall
theorem hp_L_addWall : yL_addWall.cls ≠ "java/lang/invoke/MethodHandle" ∧ yL_addWall.cls ≠ "java/lang/invoke/VarHandle" ∧ (parseMethodDescriptor yL_addWall.desc).map (fun d => d.parameters.length) = some 4 := by decide +kernel
abbrev P_L_free : Nat → ce_N → Prop := ce_OKN "CarcasswrightLaw" "free" cL_free 5 (some .int) 3 (some [(0, 10, 13, 27)])
noncomputable def tb_L_free_0 : List (Nat × ce_N) := [(0, ce_li (ce_aload 3 1)),
  (1, ce_li (ce_push (.inl (.inl (0))) 2)),
  (2, ce_li (ce_aload 0 3)),
  (3, ce_li (ce_iload 1 4)),
  (4, ce_li (ce_iload 2 5)),
  (5, ce_call 3 0 0 8 (.inl (1, 15, 4)) (ce_CV 15 F_X11_free)),
  (8, ce_li (ce_i2l 9)),
  (9, ce_li (ce_last 10)),
  (10, ce_li (ce_goto 17)),
  (17, ce_li (ce_push (.inl (.inl (0))) 18)),
  (18, ce_reti .int)]
theorem tk_L_free_0 : ∀ x ∈ tb_L_free_0, P_L_free x.1 x.2 :=
  ce_fc (P := P_L_free) (ok_li (ok_aload_n dL_free_0 rfl)) (
  ce_fc (P := P_L_free) (ok_li (ok_iconst dL_free_1)) (
  ce_fc (P := P_L_free) (ok_li (ok_aload_n dL_free_2 rfl)) (
  ce_fc (P := P_L_free) (ok_li (ok_iload_n dL_free_3 rfl)) (
  ce_fc (P := P_L_free) (ok_li (ok_iload_n dL_free_4 rfl)) (
  ce_fc (P := P_L_free) (ok_call (ca := .inl (1, 15, 4)) (hh := some [(0, 10, 13, 27)]) (ru_V (ci := 15) (C := RX11) (Tf := TX11) (N := 7) m_X11_free (by decide) (by decide) rfl gw_1052 gw_1049 gw_1050 gw_1051 gw_1 ⟨rfl, hp_X11_free⟩ dL_free_5) (⟨_, _, _, (0 : Fin 4), rfl, rfl, by decide, by decide, gw_810, gn_1, Or.inr ⟨dL_free_13, rfl⟩, by decide⟩)) (
  ce_fc (P := P_L_free) (ok_li (ok_i2l dL_free_8)) (
  ce_fc (P := P_L_free) (ok_li (ok_last dL_free_9)) (
  ce_fc (P := P_L_free) (ok_li (ok_goto dL_free_10 (by decide))) (
  ce_fc (P := P_L_free) (ok_li (ok_iconst dL_free_17)) (
  ce_fc (P := P_L_free) (ok_reti dL_free_18 rfl) (
  ce_fn (P := P_L_free))))))))))))
noncomputable def ta_L_free : Nat → Option ce_N := (ce_fd tb_L_free_0)
theorem tx_L_free : ∀ pc f, ta_L_free pc = some f → P_L_free pc f := (ce_fd_ok (P := P_L_free) tk_L_free_0)
noncomputable def F_L_free : ce_C := ce_M ta_L_free 5 0 0 1000000
theorem m_L_free : ∀ l : Launch, l.stackTraces = false → ce_MS l yL_free (.codeWith yL_free cL_free 5 (some .int) [(0, 10, 13, 27)]) 3 0 0 F_L_free := fun l hl => ce_metW hl (by decide +kernel) tx_L_free
theorem hp_L_free : yL_free.cls ≠ "java/lang/invoke/MethodHandle" ∧ yL_free.cls ≠ "java/lang/invoke/VarHandle" ∧ (parseMethodDescriptor yL_free.desc).map (fun d => d.parameters.length) = some 4 := by decide +kernel
abbrev P_X21_free : Nat → ce_N → Prop := ce_OKN "CarcasswrightModel" "free" cX21_free 13 (some .int) 3 (some [])
noncomputable def tb_X21_free_0 : List (Nat × ce_N) := [(0, ce_li (ce_aload 0 1)),
  (1, ce_li (ce_getf 20 1 4)),
  (4, ce_li (ce_iload 1 5)),
  (5, ce_call 2 0 0 8 (.inr true) (ce_CV 3 F_Jx4a65c_get_915e3)),
  (8, ce_li (ce_castO 19 11)),
  (11, ce_li (ce_astore 4 13 13)),
  (13, ce_li (ce_push (.inl (.inl (0))) 14)),
  (14, ce_li (ce_istore 5 16 13)),
  (16, ce_li (ce_push (.inl (.inl (0))) 17)),
  (17, ce_li (ce_istore 6 19 13)),
  (19, ce_li (ce_push (.inl (.inl (0))) 20)),
  (20, ce_li (ce_istore 7 22 13)),
  (22, ce_li (ce_push (.inl (.inl (0))) 23)),
  (23, ce_li (ce_istore 8 25 13))]
theorem tk_X21_free_0 : ∀ x ∈ tb_X21_free_0, P_X21_free x.1 x.2 :=
  ce_fc (P := P_X21_free) (ok_li (ok_aload_n dX21_free_0 rfl)) (
  ce_fc (P := P_X21_free) (ok_li (ok_getf (ci := 20) (k := 1) (C := RX21) (T := TX21) (N := 20) dX21_free_1 rfl ce_uX21 (by decide) gw_1522 (fun _ _ _ _ h => h))) (
  ce_fc (P := P_X21_free) (ok_li (ok_iload_n dX21_free_4 rfl)) (
  ce_fc (P := P_X21_free) (ok_call (ru_V (ci := 3) (C := RJx4a65c) (Tf := TJx4a65c) (N := 3) m_Jx4a65c_get_915e3 (by decide) (by decide) rfl gw_1857 gw_1854 gw_1855 gw_1856 gw_16 ⟨rfl, hp_Jx4a65c_get_915e3⟩ dX21_free_5) ca_t) (
  ce_fc (P := P_X21_free) (ok_li (ok_castO (ci := 19) (T := TX20) (N := 5) rfl dX21_free_8 gw_1685)) (
  ce_fc (P := P_X21_free) (ok_li (ok_astore dX21_free_11)) (
  ce_fc (P := P_X21_free) (ok_li (ok_iconst dX21_free_13)) (
  ce_fc (P := P_X21_free) (ok_li (ok_istore dX21_free_14)) (
  ce_fc (P := P_X21_free) (ok_li (ok_iconst dX21_free_16)) (
  ce_fc (P := P_X21_free) (ok_li (ok_istore dX21_free_17)) (
  ce_fc (P := P_X21_free) (ok_li (ok_iconst dX21_free_19)) (
  ce_fc (P := P_X21_free) (ok_li (ok_istore dX21_free_20)) (
  ce_fc (P := P_X21_free) (ok_li (ok_iconst dX21_free_22)) (
  ce_fc (P := P_X21_free) (ok_li (ok_istore dX21_free_23)) (
  ce_fn (P := P_X21_free)))))))))))))))
noncomputable def tb_X21_free_1 : List (Nat × ce_N) := [(25, ce_li (ce_iload 8 27)),
  (27, ce_li (ce_aload 4 29)),
  (29, ce_li (ce_getf 19 2 32)),
  (32, ce_li (ce_icmp false false true 201 35)),
  (35, ce_li (ce_push (.inl (.inl (1))) 36)),
  (36, ce_li (ce_istore 9 38 13)),
  (38, ce_li (ce_aload 0 39)),
  (39, ce_li (ce_getf 20 5 42)),
  (45, ce_li (ce_astore 10 47 13)),
  (47, ce_li (ce_aload 10 49)),
  (49, ce_call 1 0 0 54 (.inr true) (ce_CV 2 F_Jx35411_hasNext_aae02)),
  (54, ce_li (ce_if true false false 156 57)),
  (156, ce_li (ce_iload 9 158)),
  (158, ce_li (ce_if true false false 168 161))]
theorem tk_X21_free_1 : ∀ x ∈ tb_X21_free_1, P_X21_free x.1 x.2 :=
  ce_fc (P := P_X21_free) (ok_li (ok_iload dX21_free_25)) (
  ce_fc (P := P_X21_free) (ok_li (ok_aload dX21_free_27)) (
  ce_fc (P := P_X21_free) (ok_li (ok_getfN (ci := 19) (k := 2) (C := RX20) (T := TX20) (N := 5) dX21_free_29 rfl ce_uX20 (by decide) gn_27 (fun _ _ _ _ h => h))) (
  ce_fc (P := P_X21_free) (ok_li (ok_icmp_ge dX21_free_32 (by decide))) (
  ce_fc (P := P_X21_free) (ok_li (ok_iconst dX21_free_35)) (
  ce_fc (P := P_X21_free) (ok_li (ok_istore dX21_free_36)) (
  ce_fc (P := P_X21_free) (ok_li (ok_aload_n dX21_free_38 rfl)) (
  ce_fc (P := P_X21_free) (ok_li (ok_getf (ci := 20) (k := 5) (C := RX21) (T := TX21) (N := 20) dX21_free_39 rfl ce_uX21 (by decide) gw_1526 (fun _ _ _ _ h => h))) (
  ce_fc (P := P_X21_free) (ok_li (ok_astore dX21_free_45)) (
  ce_fc (P := P_X21_free) (ok_li (ok_aload dX21_free_47)) (
  ce_fc (P := P_X21_free) (ok_call (ru_F (ci := 2) (Tf := TJx35411) (N := 4) m_Jx35411_hasNext_aae02 (by decide) (by decide) rfl gw_1829 gw_1821 gw_1825 gw_1827 gw_34 hp_Jx35411_hasNext_aae02.2.2 dX21_free_49) ca_t) (
  ce_fc (P := P_X21_free) (ok_li (ok_if_eq dX21_free_54 (by decide))) (
  ce_fc (P := P_X21_free) (ok_li (ok_iload dX21_free_156)) (
  ce_fc (P := P_X21_free) (ok_li (ok_if_eq dX21_free_158 (by decide))) (
  ce_fn (P := P_X21_free)))))))))))))))
noncomputable def tb_X21_free_2 : List (Nat × ce_N) := [(161, ce_li (ce_iload 7 163)),
  (163, ce_li (ce_push (.inl (.inl (1))) 164)),
  (164, ce_li (ce_bin ce_addo 165)),
  (165, ce_li (ce_goto 169)),
  (169, ce_li (ce_istore 7 171 13)),
  (171, ce_li (ce_iload 5 173)),
  (173, ce_li (ce_iload 9 175)),
  (175, ce_li (ce_if true false false 182 178)),
  (178, ce_li (ce_push (.inl (.inl (1))) 179)),
  (179, ce_li (ce_goto 183)),
  (183, ce_li (ce_bin ce_addo 184)),
  (184, ce_li (ce_istore 5 186 13)),
  (186, ce_li (ce_iload 6 188)),
  (188, ce_li (ce_iload 7 190))]
theorem tk_X21_free_2 : ∀ x ∈ tb_X21_free_2, P_X21_free x.1 x.2 :=
  ce_fc (P := P_X21_free) (ok_li (ok_iload dX21_free_161)) (
  ce_fc (P := P_X21_free) (ok_li (ok_iconst dX21_free_163)) (
  ce_fc (P := P_X21_free) (ok_li (ok_iadd dX21_free_164)) (
  ce_fc (P := P_X21_free) (ok_li (ok_goto dX21_free_165 (by decide))) (
  ce_fc (P := P_X21_free) (ok_li (ok_istore dX21_free_169)) (
  ce_fc (P := P_X21_free) (ok_li (ok_iload dX21_free_171)) (
  ce_fc (P := P_X21_free) (ok_li (ok_iload dX21_free_173)) (
  ce_fc (P := P_X21_free) (ok_li (ok_if_eq dX21_free_175 (by decide))) (
  ce_fc (P := P_X21_free) (ok_li (ok_iconst dX21_free_178)) (
  ce_fc (P := P_X21_free) (ok_li (ok_goto dX21_free_179 (by decide))) (
  ce_fc (P := P_X21_free) (ok_li (ok_iadd dX21_free_183)) (
  ce_fc (P := P_X21_free) (ok_li (ok_istore dX21_free_184)) (
  ce_fc (P := P_X21_free) (ok_li (ok_iload dX21_free_186)) (
  ce_fc (P := P_X21_free) (ok_li (ok_iload dX21_free_188)) (
  ce_fn (P := P_X21_free)))))))))))))))
noncomputable def tb_X21_free_3 : List (Nat × ce_N) := [(190, ce_li (ce_mmx 193)),
  (193, ce_li (ce_istore 6 195 13)),
  (195, ce_li (ce_iinc 8 (1) 198 13)),
  (198, ce_li (ce_goto 25)),
  (201, ce_li (ce_iload 3 202)),
  (202, ce_li (ce_if true false false 210 205)),
  (210, ce_li (ce_iload 5 212)),
  (212, ce_reti .int)]
theorem tk_X21_free_3 : ∀ x ∈ tb_X21_free_3, P_X21_free x.1 x.2 :=
  ce_fc (P := P_X21_free) (ok_li (ok_mmx dX21_free_190 gw_1868 gw_593 gw_25 gw_594)) (
  ce_fc (P := P_X21_free) (ok_li (ok_istore dX21_free_193)) (
  ce_fc (P := P_X21_free) (ok_li (ok_iinc dX21_free_195)) (
  ce_fc (P := P_X21_free) (ok_li (ok_goto dX21_free_198 (by decide))) (
  ce_fc (P := P_X21_free) (ok_li (ok_iload_n dX21_free_201 rfl)) (
  ce_fc (P := P_X21_free) (ok_li (ok_if_eq dX21_free_202 (by decide))) (
  ce_fc (P := P_X21_free) (ok_li (ok_iload dX21_free_210)) (
  ce_fc (P := P_X21_free) (ok_reti dX21_free_212 rfl) (
  ce_fn (P := P_X21_free)))))))))
noncomputable def ta_X21_free : Nat → Option ce_N := (ce_tr 161 (ce_tr 25 (ce_fd tb_X21_free_0) (ce_fd tb_X21_free_1)) (ce_tr 190 (ce_fd tb_X21_free_2) (ce_fd tb_X21_free_3)))
theorem tx_X21_free : ∀ pc f, ta_X21_free pc = some f → P_X21_free pc f := (ce_tr_ok (P := P_X21_free) (ce_tr_ok (P := P_X21_free) (ce_fd_ok (P := P_X21_free) tk_X21_free_0) (ce_fd_ok (P := P_X21_free) tk_X21_free_1)) (ce_tr_ok (P := P_X21_free) (ce_fd_ok (P := P_X21_free) tk_X21_free_2) (ce_fd_ok (P := P_X21_free) tk_X21_free_3)))
noncomputable def F_X21_free : ce_C := ce_M ta_X21_free 13 9999 39996 1000000
theorem m_X21_free : ∀ l : Launch, l.stackTraces = false → ce_MS l yX21_free (.code yX21_free cX21_free 13 (some .int)) 3 9999 39996 F_X21_free := fun l hl => ce_met hl (by decide +kernel) tx_X21_free
theorem hp_X21_free : yX21_free.cls ≠ "java/lang/invoke/MethodHandle" ∧ yX21_free.cls ≠ "java/lang/invoke/VarHandle" ∧ (parseMethodDescriptor yX21_free.desc).map (fun d => d.parameters.length) = some 3 := by decide +kernel
abbrev P_X21_init : Nat → ce_N → Prop := ce_OKN "CarcasswrightModel" "<init>" cX21_init 1 none 3 (some [])
noncomputable def tb_X21_init_0 : List (Nat × ce_N) := [(0, ce_li (ce_aload 0 1)),
  (1, ce_li (ce_oi 4)),
  (4, ce_li (ce_aload 0 5)),
  (5, ce_li (ce_new 3 3 dl_Jx4a65c 8)),
  (8, ce_li (ce_dup 9)),
  (9, ce_call 1 0 0 12 (.inr true) (ce_CI F_Jx4a65c_init_da8c8)),
  (12, ce_li (ce_putf (tyX21 1) 20 1 15)),
  (15, ce_li (ce_aload 0 16)),
  (16, ce_li (ce_new 3 3 dl_Jx4a65c 19)),
  (19, ce_li (ce_dup 20)),
  (20, ce_call 1 0 0 23 (.inr true) (ce_CI F_Jx4a65c_init_da8c8)),
  (23, ce_li (ce_putf (tyX21 2) 20 2 26)),
  (26, ce_li (ce_aload 0 27)),
  (27, ce_li (ce_push (.inr (.inr (.inl (.inr 2)))) 29))]
theorem tk_X21_init_0 : ∀ x ∈ tb_X21_init_0, P_X21_init x.1 x.2 :=
  ce_fc (P := P_X21_init) (ok_li (ok_aload_n dX21_init_0 rfl)) (
  ce_fc (P := P_X21_init) (ok_li (ok_oi dX21_init_1 gw_1490 gw_57 gw_58)) (
  ce_fc (P := P_X21_init) (ok_li (ok_aload_n dX21_init_4 rfl)) (
  ce_fc (P := P_X21_init) (ok_li (ok_new (ci := 3) (C := RJx4a65c) (T := TJx4a65c) (N := 3) (ty0 := tyJx4a65c) dX21_init_5 rfl ce_uJx4a65c tyJx4a65c_ok gw_1491 gw_1492 gw_16 dv_Jx4a65c rfl)) (
  ce_fc (P := P_X21_init) (ok_li (ok_dup dX21_init_8)) (
  ce_fc (P := P_X21_init) (ok_call (ru_I m_Jx4a65c_init_da8c8 (by decide) (by decide) gw_1495 gw_1493 gw_1494 gw_16 rfl hp_Jx4a65c_init_da8c8 dX21_init_9) ca_t) (
  ce_fc (P := P_X21_init) (ok_li (ok_putf (ci := 20) (k := 1) (C := RX21) (T := TX21) (N := 20) (ty0 := tyX21) dX21_init_12 rfl ce_uX21 (by decide) gw_1522 (fun _ _ _ _ h => h) tyX21_ok nmX21 (Or.inr ⟨rfl, rfl, rfl⟩))) (
  ce_fc (P := P_X21_init) (ok_li (ok_aload_n dX21_init_15 rfl)) (
  ce_fc (P := P_X21_init) (ok_li (ok_new (ci := 3) (C := RJx4a65c) (T := TJx4a65c) (N := 3) (ty0 := tyJx4a65c) dX21_init_16 rfl ce_uJx4a65c tyJx4a65c_ok gw_1491 gw_1492 gw_16 dv_Jx4a65c rfl)) (
  ce_fc (P := P_X21_init) (ok_li (ok_dup dX21_init_19)) (
  ce_fc (P := P_X21_init) (ok_call (ru_I m_Jx4a65c_init_da8c8 (by decide) (by decide) gw_1495 gw_1493 gw_1494 gw_16 rfl hp_Jx4a65c_init_da8c8 dX21_init_20) ca_t) (
  ce_fc (P := P_X21_init) (ok_li (ok_putf (ci := 20) (k := 2) (C := RX21) (T := TX21) (N := 20) (ty0 := tyX21) dX21_init_23 rfl ce_uX21 (by decide) gw_1523 (fun _ _ _ _ h => h) tyX21_ok nmX21 (Or.inr ⟨rfl, rfl, rfl⟩))) (
  ce_fc (P := P_X21_init) (ok_li (ok_aload_n dX21_init_26 rfl)) (
  ce_fc (P := P_X21_init) (ok_li (ok_ldcS ce_s2 dX21_init_27)) (
  ce_fn (P := P_X21_init)))))))))))))))
noncomputable def tb_X21_init_1 : List (Nat × ce_N) := [(29, ce_li (ce_putf (tyX21 3) 20 3 32)),
  (32, ce_li (ce_aload 0 33)),
  (33, ce_li (ce_new 3 3 dl_Jx4a65c 36)),
  (36, ce_li (ce_dup 37)),
  (37, ce_call 1 0 0 40 (.inr true) (ce_CI F_Jx4a65c_init_da8c8)),
  (40, ce_li (ce_putf (tyX21 4) 20 4 43)),
  (43, ce_li (ce_aload 0 44)),
  (44, ce_li (ce_new 3 3 dl_Jx4a65c 47)),
  (47, ce_li (ce_dup 48)),
  (48, ce_call 1 0 0 51 (.inr true) (ce_CI F_Jx4a65c_init_da8c8)),
  (51, ce_li (ce_putf (tyX21 5) 20 5 54)),
  (54, ce_li (ce_aload 0 55)),
  (55, ce_li (ce_new 3 3 dl_Jx4a65c 58)),
  (58, ce_li (ce_dup 59))]
theorem tk_X21_init_1 : ∀ x ∈ tb_X21_init_1, P_X21_init x.1 x.2 :=
  ce_fc (P := P_X21_init) (ok_li (ok_putf (ci := 20) (k := 3) (C := RX21) (T := TX21) (N := 20) (ty0 := tyX21) dX21_init_29 rfl ce_uX21 (by decide) gw_1524 (fun _ _ _ _ h => h) tyX21_ok nmX21 (Or.inl rfl))) (
  ce_fc (P := P_X21_init) (ok_li (ok_aload_n dX21_init_32 rfl)) (
  ce_fc (P := P_X21_init) (ok_li (ok_new (ci := 3) (C := RJx4a65c) (T := TJx4a65c) (N := 3) (ty0 := tyJx4a65c) dX21_init_33 rfl ce_uJx4a65c tyJx4a65c_ok gw_1491 gw_1492 gw_16 dv_Jx4a65c rfl)) (
  ce_fc (P := P_X21_init) (ok_li (ok_dup dX21_init_36)) (
  ce_fc (P := P_X21_init) (ok_call (ru_I m_Jx4a65c_init_da8c8 (by decide) (by decide) gw_1495 gw_1493 gw_1494 gw_16 rfl hp_Jx4a65c_init_da8c8 dX21_init_37) ca_t) (
  ce_fc (P := P_X21_init) (ok_li (ok_putf (ci := 20) (k := 4) (C := RX21) (T := TX21) (N := 20) (ty0 := tyX21) dX21_init_40 rfl ce_uX21 (by decide) gw_1525 (fun _ _ _ _ h => h) tyX21_ok nmX21 (Or.inr ⟨rfl, rfl, rfl⟩))) (
  ce_fc (P := P_X21_init) (ok_li (ok_aload_n dX21_init_43 rfl)) (
  ce_fc (P := P_X21_init) (ok_li (ok_new (ci := 3) (C := RJx4a65c) (T := TJx4a65c) (N := 3) (ty0 := tyJx4a65c) dX21_init_44 rfl ce_uJx4a65c tyJx4a65c_ok gw_1491 gw_1492 gw_16 dv_Jx4a65c rfl)) (
  ce_fc (P := P_X21_init) (ok_li (ok_dup dX21_init_47)) (
  ce_fc (P := P_X21_init) (ok_call (ru_I m_Jx4a65c_init_da8c8 (by decide) (by decide) gw_1495 gw_1493 gw_1494 gw_16 rfl hp_Jx4a65c_init_da8c8 dX21_init_48) ca_t) (
  ce_fc (P := P_X21_init) (ok_li (ok_putf (ci := 20) (k := 5) (C := RX21) (T := TX21) (N := 20) (ty0 := tyX21) dX21_init_51 rfl ce_uX21 (by decide) gw_1526 (fun _ _ _ _ h => h) tyX21_ok nmX21 (Or.inr ⟨rfl, rfl, rfl⟩))) (
  ce_fc (P := P_X21_init) (ok_li (ok_aload_n dX21_init_54 rfl)) (
  ce_fc (P := P_X21_init) (ok_li (ok_new (ci := 3) (C := RJx4a65c) (T := TJx4a65c) (N := 3) (ty0 := tyJx4a65c) dX21_init_55 rfl ce_uJx4a65c tyJx4a65c_ok gw_1491 gw_1492 gw_16 dv_Jx4a65c rfl)) (
  ce_fc (P := P_X21_init) (ok_li (ok_dup dX21_init_58)) (
  ce_fn (P := P_X21_init)))))))))))))))
noncomputable def tb_X21_init_2 : List (Nat × ce_N) := [(59, ce_call 1 0 0 62 (.inr true) (ce_CI F_Jx4a65c_init_da8c8)),
  (62, ce_li (ce_putf (tyX21 6) 20 6 65)),
  (65, ce_li (ce_aload 0 66)),
  (66, ce_li (ce_new 3 3 dl_Jx4a65c 69)),
  (69, ce_li (ce_dup 70)),
  (70, ce_call 1 0 0 73 (.inr true) (ce_CI F_Jx4a65c_init_da8c8)),
  (73, ce_li (ce_putf (tyX21 7) 20 7 76)),
  (76, ce_li (ce_aload 0 77)),
  (77, ce_li (ce_push (.inl (.inl (3))) 78)),
  (78, ce_li (ce_newa 0 2 80)),
  (80, ce_li (ce_dup 81)),
  (81, ce_li (ce_push (.inl (.inl (0))) 82)),
  (82, ce_li (ce_push (.inl (.inl (2))) 83)),
  (83, ce_li (ce_iast 0 84 83))]
theorem tk_X21_init_2 : ∀ x ∈ tb_X21_init_2, P_X21_init x.1 x.2 :=
  ce_fc (P := P_X21_init) (ok_call (ru_I m_Jx4a65c_init_da8c8 (by decide) (by decide) gw_1495 gw_1493 gw_1494 gw_16 rfl hp_Jx4a65c_init_da8c8 dX21_init_59) ca_t) (
  ce_fc (P := P_X21_init) (ok_li (ok_putf (ci := 20) (k := 6) (C := RX21) (T := TX21) (N := 20) (ty0 := tyX21) dX21_init_62 rfl ce_uX21 (by decide) gw_1527 (fun _ _ _ _ h => h) tyX21_ok nmX21 (Or.inl rfl))) (
  ce_fc (P := P_X21_init) (ok_li (ok_aload_n dX21_init_65 rfl)) (
  ce_fc (P := P_X21_init) (ok_li (ok_new (ci := 3) (C := RJx4a65c) (T := TJx4a65c) (N := 3) (ty0 := tyJx4a65c) dX21_init_66 rfl ce_uJx4a65c tyJx4a65c_ok gw_1491 gw_1492 gw_16 dv_Jx4a65c rfl)) (
  ce_fc (P := P_X21_init) (ok_li (ok_dup dX21_init_69)) (
  ce_fc (P := P_X21_init) (ok_call (ru_I m_Jx4a65c_init_da8c8 (by decide) (by decide) gw_1495 gw_1493 gw_1494 gw_16 rfl hp_Jx4a65c_init_da8c8 dX21_init_70) ca_t) (
  ce_fc (P := P_X21_init) (ok_li (ok_putf (ci := 20) (k := 7) (C := RX21) (T := TX21) (N := 20) (ty0 := tyX21) dX21_init_73 rfl ce_uX21 (by decide) gw_1528 (fun _ _ _ _ h => h) tyX21_ok nmX21 (Or.inr ⟨rfl, rfl, rfl⟩))) (
  ce_fc (P := P_X21_init) (ok_li (ok_aload_n dX21_init_76 rfl)) (
  ce_fc (P := P_X21_init) (ok_li (ok_iconst dX21_init_77)) (
  ce_fc (P := P_X21_init) (ok_li (ok_newa_int dX21_init_78 gw_193)) (
  ce_fc (P := P_X21_init) (ok_li (ok_dup dX21_init_80)) (
  ce_fc (P := P_X21_init) (ok_li (ok_iconst dX21_init_81)) (
  ce_fc (P := P_X21_init) (ok_li (ok_iconst dX21_init_82)) (
  ce_fc (P := P_X21_init) (ok_li (ok_iastore dX21_init_83)) (
  ce_fn (P := P_X21_init)))))))))))))))
noncomputable def tb_X21_init_3 : List (Nat × ce_N) := [(84, ce_li (ce_dup 85)),
  (85, ce_li (ce_push (.inl (.inl (1))) 86)),
  (86, ce_li (ce_push (.inl (.inl (5))) 87)),
  (87, ce_li (ce_iast 0 88 87)),
  (88, ce_li (ce_dup 89)),
  (89, ce_li (ce_push (.inl (.inl (2))) 90)),
  (90, ce_li (ce_push (.inl (.inl (9))) 92)),
  (92, ce_li (ce_iast 0 93 92)),
  (93, ce_li (ce_putf (tyX21 8) 20 8 96)),
  (96, ce_li (ce_aload 0 97)),
  (97, ce_li (ce_push (.inl (.inl (2))) 98)),
  (98, ce_li (ce_putf (tyX21 9) 20 9 101)),
  (101, ce_li (ce_aload 0 102)),
  (102, ce_li (ce_push (.inr (.inr (.inl (.inr 2)))) 104))]
theorem tk_X21_init_3 : ∀ x ∈ tb_X21_init_3, P_X21_init x.1 x.2 :=
  ce_fc (P := P_X21_init) (ok_li (ok_dup dX21_init_84)) (
  ce_fc (P := P_X21_init) (ok_li (ok_iconst dX21_init_85)) (
  ce_fc (P := P_X21_init) (ok_li (ok_iconst dX21_init_86)) (
  ce_fc (P := P_X21_init) (ok_li (ok_iastore dX21_init_87)) (
  ce_fc (P := P_X21_init) (ok_li (ok_dup dX21_init_88)) (
  ce_fc (P := P_X21_init) (ok_li (ok_iconst dX21_init_89)) (
  ce_fc (P := P_X21_init) (ok_li (ok_bipush dX21_init_90 (by decide))) (
  ce_fc (P := P_X21_init) (ok_li (ok_iastore dX21_init_92)) (
  ce_fc (P := P_X21_init) (ok_li (ok_putf (ci := 20) (k := 8) (C := RX21) (T := TX21) (N := 20) (ty0 := tyX21) dX21_init_93 rfl ce_uX21 (by decide) gw_1529 (fun _ _ _ _ h => h) tyX21_ok nmX21 (Or.inr ⟨rfl, rfl, rfl⟩))) (
  ce_fc (P := P_X21_init) (ok_li (ok_aload_n dX21_init_96 rfl)) (
  ce_fc (P := P_X21_init) (ok_li (ok_iconst dX21_init_97)) (
  ce_fc (P := P_X21_init) (ok_li (ok_putf (ci := 20) (k := 9) (C := RX21) (T := TX21) (N := 20) (ty0 := tyX21) dX21_init_98 rfl ce_uX21 (by decide) gw_1530 (fun _ _ _ _ h => h) tyX21_ok nmX21 (Or.inl rfl))) (
  ce_fc (P := P_X21_init) (ok_li (ok_aload_n dX21_init_101 rfl)) (
  ce_fc (P := P_X21_init) (ok_li (ok_ldcS ce_s2 dX21_init_102)) (
  ce_fn (P := P_X21_init)))))))))))))))
noncomputable def tb_X21_init_4 : List (Nat × ce_N) := [(104, ce_li (ce_putf (tyX21 13) 20 13 107)),
  (107, ce_li (ce_aload 0 108)),
  (108, ce_li (ce_push (.inl (.inl (2))) 109)),
  (109, ce_li (ce_newa 0 2 111)),
  (111, ce_li (ce_putf (tyX21 14) 20 14 114)),
  (114, ce_li (ce_aload 0 115)),
  (115, ce_li (ce_push (.inl (.inl (0))) 116)),
  (116, ce_li (ce_newa 0 2 118)),
  (118, ce_li (ce_putf (tyX21 19) 20 19 121)),
  (121, ce_ret0)]
theorem tk_X21_init_4 : ∀ x ∈ tb_X21_init_4, P_X21_init x.1 x.2 :=
  ce_fc (P := P_X21_init) (ok_li (ok_putf (ci := 20) (k := 13) (C := RX21) (T := TX21) (N := 20) (ty0 := tyX21) dX21_init_104 rfl ce_uX21 (by decide) gw_1534 (fun _ _ _ _ h => h) tyX21_ok nmX21 (Or.inl rfl))) (
  ce_fc (P := P_X21_init) (ok_li (ok_aload_n dX21_init_107 rfl)) (
  ce_fc (P := P_X21_init) (ok_li (ok_iconst dX21_init_108)) (
  ce_fc (P := P_X21_init) (ok_li (ok_newa_int dX21_init_109 gw_193)) (
  ce_fc (P := P_X21_init) (ok_li (ok_putf (ci := 20) (k := 14) (C := RX21) (T := TX21) (N := 20) (ty0 := tyX21) dX21_init_111 rfl ce_uX21 (by decide) gw_1535 (fun _ _ _ _ h => h) tyX21_ok nmX21 (Or.inl rfl))) (
  ce_fc (P := P_X21_init) (ok_li (ok_aload_n dX21_init_114 rfl)) (
  ce_fc (P := P_X21_init) (ok_li (ok_iconst dX21_init_115)) (
  ce_fc (P := P_X21_init) (ok_li (ok_newa_int dX21_init_116 gw_193)) (
  ce_fc (P := P_X21_init) (ok_li (ok_putf (ci := 20) (k := 19) (C := RX21) (T := TX21) (N := 20) (ty0 := tyX21) dX21_init_118 rfl ce_uX21 (by decide) gw_1540 (fun _ _ _ _ h => h) tyX21_ok nmX21 (Or.inl rfl))) (
  ce_fc (P := P_X21_init) (ok_ret0 dX21_init_121 rfl) (
  ce_fn (P := P_X21_init)))))))))))
noncomputable def ta_X21_init : Nat → Option ce_N := (ce_tr 59 (ce_tr 29 (ce_fd tb_X21_init_0) (ce_fd tb_X21_init_1)) (ce_tr 84 (ce_fd tb_X21_init_2) (ce_tr 104 (ce_fd tb_X21_init_3) (ce_fd tb_X21_init_4))))
theorem tx_X21_init : ∀ pc f, ta_X21_init pc = some f → P_X21_init pc f := (ce_tr_ok (P := P_X21_init) (ce_tr_ok (P := P_X21_init) (ce_fd_ok (P := P_X21_init) tk_X21_init_0) (ce_fd_ok (P := P_X21_init) tk_X21_init_1)) (ce_tr_ok (P := P_X21_init) (ce_fd_ok (P := P_X21_init) tk_X21_init_2) (ce_tr_ok (P := P_X21_init) (ce_fd_ok (P := P_X21_init) tk_X21_init_3) (ce_fd_ok (P := P_X21_init) tk_X21_init_4))))
noncomputable def F_X21_init : ce_C := ce_M ta_X21_init 1 9 23 1000000
theorem m_X21_init : ∀ l : Launch, l.stackTraces = false → ce_MS l yX21_init (.code yX21_init cX21_init 1 none) 3 9 23 F_X21_init := fun l hl => ce_met hl (by decide +kernel) tx_X21_init
theorem hp_X21_init : yX21_init.cls ≠ "java/lang/invoke/MethodHandle" ∧ yX21_init.cls ≠ "java/lang/invoke/VarHandle" ∧ (parseMethodDescriptor yX21_init.desc).map (fun d => d.parameters.length) = some 0 := by decide +kernel
abbrev P_X21_addWall : Nat → ce_N → Prop := ce_OKN "CarcasswrightModel" "addWall" cX21_addWall 3 (some .int) 4 (some [])
noncomputable def tb_X21_addWall_0 : List (Nat × ce_N) := [(0, ce_li (ce_aload 0 1)),
  (1, ce_li (ce_push (.inr (.inr (.inl (.inr 4)))) 3)),
  (3, ce_li (ce_iload 1 4)),
  (4, ce_call 2 0 0 7 (.inr true) (ce_CV 0 F_J0_indexOf_0f7a4)),
  (7, ce_li (ce_if false false false 23 10)),
  (10, ce_li (ce_iload 2 11)),
  (11, ce_li (ce_push (.inl (.inl (500))) 14)),
  (14, ce_li (ce_push (.inl (.inl (9999))) 17)),
  (17, ce_call 3 0 0 20 (.inr true) F_X21_in),
  (20, ce_li (ce_if true false true 27 23)),
  (27, ce_li (ce_aload 0 28)),
  (28, ce_li (ce_getf 20 1 31)),
  (31, ce_call 1 0 0 34 (.inr true) (ce_CV 3 F_Jx4a65c_size_8abf5)),
  (34, ce_li (ce_push (.inl (.inl (6))) 36))]
theorem tk_X21_addWall_0 : ∀ x ∈ tb_X21_addWall_0, P_X21_addWall x.1 x.2 :=
  ce_fc (P := P_X21_addWall) (ok_li (ok_aload_n dX21_addWall_0 rfl)) (
  ce_fc (P := P_X21_addWall) (ok_li (ok_ldcS ce_s4 dX21_addWall_1)) (
  ce_fc (P := P_X21_addWall) (ok_li (ok_iload_n dX21_addWall_3 rfl)) (
  ce_fc (P := P_X21_addWall) (ok_call (ru_V (ci := 0) (C := RJ0) (Tf := TJ0) (N := 4) m_J0_indexOf_0f7a4 (by decide) (by decide) rfl gw_1595 gw_1592 gw_1593 gw_1594 gw_23 ⟨rfl, hp_J0_indexOf_0f7a4⟩ dX21_addWall_4) ca_t) (
  ce_fc (P := P_X21_addWall) (ok_li (ok_if_lt dX21_addWall_7 (by decide))) (
  ce_fc (P := P_X21_addWall) (ok_li (ok_iload_n dX21_addWall_10 rfl)) (
  ce_fc (P := P_X21_addWall) (ok_li (ok_sipush dX21_addWall_11 (by decide))) (
  ce_fc (P := P_X21_addWall) (ok_li (ok_sipush dX21_addWall_14 (by decide))) (
  ce_fc (P := P_X21_addWall) (ok_call (ru_S m_X21_in (by decide) (by decide) gw_1676 gw_1674 gw_1675 gw_13 hp_X21_in dX21_addWall_17) ca_t) (
  ce_fc (P := P_X21_addWall) (ok_li (ok_if_ne dX21_addWall_20 (by decide))) (
  ce_fc (P := P_X21_addWall) (ok_li (ok_aload_n dX21_addWall_27 rfl)) (
  ce_fc (P := P_X21_addWall) (ok_li (ok_getf (ci := 20) (k := 1) (C := RX21) (T := TX21) (N := 20) dX21_addWall_28 rfl ce_uX21 (by decide) gw_1522 (fun _ _ _ _ h => h))) (
  ce_fc (P := P_X21_addWall) (ok_call (ru_V (ci := 3) (C := RJx4a65c) (Tf := TJx4a65c) (N := 3) m_Jx4a65c_size_8abf5 (by decide) (by decide) rfl gw_1680 gw_1677 gw_1678 gw_1679 gw_16 ⟨rfl, hp_Jx4a65c_size_8abf5⟩ dX21_addWall_31) ca_t) (
  ce_fc (P := P_X21_addWall) (ok_li (ok_bipush dX21_addWall_34 (by decide))) (
  ce_fn (P := P_X21_addWall)))))))))))))))
noncomputable def tb_X21_addWall_1 : List (Nat × ce_N) := [(36, ce_li (ce_icmp true false false 49 39)),
  (39, ce_li (ce_aload 0 40)),
  (40, ce_li (ce_getf 20 5 43)),
  (43, ce_call 1 0 0 46 (.inr true) (ce_CV 3 F_Jx4a65c_isEmpty_aae02)),
  (46, ce_li (ce_if true false true 53 49)),
  (53, ce_li (ce_push (.inl (.inl (0))) 54)),
  (54, ce_li (ce_putf (tyX21 0) 20 0 57)),
  (57, ce_li (ce_aload 0 58)),
  (58, ce_li (ce_getf 20 0 61)),
  (61, ce_li (ce_if false true true 66 64)),
  (66, ce_li (ce_aload 0 67)),
  (67, ce_li (ce_getf 20 1 70)),
  (70, ce_li (ce_new 19 5 dl_X20 73)),
  (73, ce_li (ce_dup 74))]
theorem tk_X21_addWall_1 : ∀ x ∈ tb_X21_addWall_1, P_X21_addWall x.1 x.2 :=
  ce_fc (P := P_X21_addWall) (ok_li (ok_icmp_eq dX21_addWall_36 (by decide))) (
  ce_fc (P := P_X21_addWall) (ok_li (ok_aload_n dX21_addWall_39 rfl)) (
  ce_fc (P := P_X21_addWall) (ok_li (ok_getf (ci := 20) (k := 5) (C := RX21) (T := TX21) (N := 20) dX21_addWall_40 rfl ce_uX21 (by decide) gw_1526 (fun _ _ _ _ h => h))) (
  ce_fc (P := P_X21_addWall) (ok_call (ru_V (ci := 3) (C := RJx4a65c) (Tf := TJx4a65c) (N := 3) m_Jx4a65c_isEmpty_aae02 (by decide) (by decide) rfl gw_1684 gw_1681 gw_1682 gw_1683 gw_16 ⟨rfl, hp_Jx4a65c_isEmpty_aae02⟩ dX21_addWall_43) ca_t) (
  ce_fc (P := P_X21_addWall) (ok_li (ok_if_ne dX21_addWall_46 (by decide))) (
  ce_fc (P := P_X21_addWall) (ok_li (ok_iconst dX21_addWall_53)) (
  ce_fc (P := P_X21_addWall) (ok_li (ok_putf (ci := 20) (k := 0) (C := RX21) (T := TX21) (N := 20) (ty0 := tyX21) dX21_addWall_54 rfl ce_uX21 (by decide) gw_1521 (fun _ _ _ _ h => h) tyX21_ok nmX21 (Or.inl rfl))) (
  ce_fc (P := P_X21_addWall) (ok_li (ok_aload_n dX21_addWall_57 rfl)) (
  ce_fc (P := P_X21_addWall) (ok_li (ok_getf (ci := 20) (k := 0) (C := RX21) (T := TX21) (N := 20) dX21_addWall_58 rfl ce_uX21 (by decide) gw_1521 (fun _ _ _ _ h => h))) (
  ce_fc (P := P_X21_addWall) (ok_li (ok_if_le dX21_addWall_61 (by decide))) (
  ce_fc (P := P_X21_addWall) (ok_li (ok_aload_n dX21_addWall_66 rfl)) (
  ce_fc (P := P_X21_addWall) (ok_li (ok_getf (ci := 20) (k := 1) (C := RX21) (T := TX21) (N := 20) dX21_addWall_67 rfl ce_uX21 (by decide) gw_1522 (fun _ _ _ _ h => h))) (
  ce_fc (P := P_X21_addWall) (ok_li (ok_new (ci := 19) (C := RX20) (T := TX20) (N := 5) (ty0 := tyX20) dX21_addWall_70 rfl ce_uX20 tyX20_ok gw_1685 gw_1686 gw_29 dv_X20 rfl)) (
  ce_fc (P := P_X21_addWall) (ok_li (ok_dup dX21_addWall_73)) (
  ce_fn (P := P_X21_addWall)))))))))))))))
noncomputable def tb_X21_addWall_2 : List (Nat × ce_N) := [(74, ce_li (ce_iload 1 75)),
  (75, ce_li (ce_iload 2 76)),
  (76, ce_call 3 0 0 79 (.inr true) (ce_CI F_X20_init)),
  (79, ce_call 2 1 10 82 (.inr true) (ce_CV 3 F_Jx4a65c_add_9ea2d)),
  (82, ce_li (ce_pop 83)),
  (83, ce_li (ce_aload 0 84)),
  (84, ce_li (ce_getf 20 1 87)),
  (87, ce_call 1 0 0 90 (.inr true) (ce_CV 3 F_Jx4a65c_size_8abf5)),
  (90, ce_li (ce_push (.inl (.inl (1))) 91)),
  (91, ce_li (ce_bin ce_subo 92)),
  (92, ce_reti .int)]
theorem tk_X21_addWall_2 : ∀ x ∈ tb_X21_addWall_2, P_X21_addWall x.1 x.2 :=
  ce_fc (P := P_X21_addWall) (ok_li (ok_iload_n dX21_addWall_74 rfl)) (
  ce_fc (P := P_X21_addWall) (ok_li (ok_iload_n dX21_addWall_75 rfl)) (
  ce_fc (P := P_X21_addWall) (ok_call (ru_I m_X20_init (by decide) (by decide) gw_1689 gw_1687 gw_1688 gw_29 rfl hp_X20_init dX21_addWall_76) ca_t) (
  ce_fc (P := P_X21_addWall) (ok_call (ru_V (ci := 3) (C := RJx4a65c) (Tf := TJx4a65c) (N := 3) m_Jx4a65c_add_9ea2d (by decide) (by decide) rfl gw_1713 gw_1710 gw_1711 gw_1712 gw_16 ⟨rfl, hp_Jx4a65c_add_9ea2d⟩ dX21_addWall_79) ca_t) (
  ce_fc (P := P_X21_addWall) (ok_li (ok_pop dX21_addWall_82)) (
  ce_fc (P := P_X21_addWall) (ok_li (ok_aload_n dX21_addWall_83 rfl)) (
  ce_fc (P := P_X21_addWall) (ok_li (ok_getf (ci := 20) (k := 1) (C := RX21) (T := TX21) (N := 20) dX21_addWall_84 rfl ce_uX21 (by decide) gw_1522 (fun _ _ _ _ h => h))) (
  ce_fc (P := P_X21_addWall) (ok_call (ru_V (ci := 3) (C := RJx4a65c) (Tf := TJx4a65c) (N := 3) m_Jx4a65c_size_8abf5 (by decide) (by decide) rfl gw_1680 gw_1677 gw_1678 gw_1679 gw_16 ⟨rfl, hp_Jx4a65c_size_8abf5⟩ dX21_addWall_87) ca_t) (
  ce_fc (P := P_X21_addWall) (ok_li (ok_iconst dX21_addWall_90)) (
  ce_fc (P := P_X21_addWall) (ok_li (ok_isub dX21_addWall_91)) (
  ce_fc (P := P_X21_addWall) (ok_reti dX21_addWall_92 rfl) (
  ce_fn (P := P_X21_addWall))))))))))))
noncomputable def ta_X21_addWall : Nat → Option ce_N := (ce_tr 36 (ce_fd tb_X21_addWall_0) (ce_tr 74 (ce_fd tb_X21_addWall_1) (ce_fd tb_X21_addWall_2)))
theorem tx_X21_addWall : ∀ pc f, ta_X21_addWall pc = some f → P_X21_addWall pc f := (ce_tr_ok (P := P_X21_addWall) (ce_fd_ok (P := P_X21_addWall) tk_X21_addWall_0) (ce_tr_ok (P := P_X21_addWall) (ce_fd_ok (P := P_X21_addWall) tk_X21_addWall_1) (ce_fd_ok (P := P_X21_addWall) tk_X21_addWall_2)))
noncomputable def F_X21_addWall : ce_C := ce_M ta_X21_addWall 3 2 15 1000000
theorem m_X21_addWall : ∀ l : Launch, l.stackTraces = false → ce_MS l yX21_addWall (.code yX21_addWall cX21_addWall 3 (some .int)) 4 2 15 F_X21_addWall := fun l hl => ce_met hl (by decide +kernel) tx_X21_addWall
theorem hp_X21_addWall : yX21_addWall.cls ≠ "java/lang/invoke/MethodHandle" ∧ yX21_addWall.cls ≠ "java/lang/invoke/VarHandle" ∧ (parseMethodDescriptor yX21_addWall.desc).map (fun d => d.parameters.length) = some 2 := by decide +kernel
abbrev P_X21_free_ : Nat → ce_N → Prop := ce_OKN "CarcasswrightModel" "free" cX21_free_ 3 (some .int) 4 (some [])
noncomputable def tb_X21_free__0 : List (Nat × ce_N) := [(0, ce_li (ce_aload 0 1)),
  (1, ce_li (ce_iload 1 2)),
  (2, ce_call 2 0 0 5 (.inr true) (ce_CV 20 F_X21_noWall)),
  (5, ce_li (ce_if true false false 12 8)),
  (12, ce_li (ce_aload 0 13)),
  (13, ce_li (ce_iload 1 14)),
  (14, ce_li (ce_iload 2 15)),
  (15, ce_li (ce_push (.inl (.inl (0))) 16)),
  (19, ce_reti .int)]
theorem tk_X21_free__0 : ∀ x ∈ tb_X21_free__0, P_X21_free_ x.1 x.2 :=
  ce_fc (P := P_X21_free_) (ok_li (ok_aload_n dX21_free__0 rfl)) (
  ce_fc (P := P_X21_free_) (ok_li (ok_iload_n dX21_free__1 rfl)) (
  ce_fc (P := P_X21_free_) (ok_call (ru_V (ci := 20) (C := RX21) (Tf := TX21) (N := 20) m_X21_noWall (by decide) (by decide) rfl gw_1876 gw_1873 gw_1875 gp_11 gw_13 ⟨rfl, hp_X21_noWall⟩ dX21_free__2) ca_t) (
  ce_fc (P := P_X21_free_) (ok_li (ok_if_eq dX21_free__5 (by decide))) (
  ce_fc (P := P_X21_free_) (ok_li (ok_aload_n dX21_free__12 rfl)) (
  ce_fc (P := P_X21_free_) (ok_li (ok_iload_n dX21_free__13 rfl)) (
  ce_fc (P := P_X21_free_) (ok_li (ok_iload_n dX21_free__14 rfl)) (
  ce_fc (P := P_X21_free_) (ok_li (ok_iconst dX21_free__15)) (
  ce_fc (P := P_X21_free_) (ok_reti dX21_free__19 rfl) (
  ce_fn (P := P_X21_free_))))))))))
noncomputable def ta_X21_free_ : Nat → Option ce_N := (ce_fd tb_X21_free__0)
theorem tx_X21_free_ : ∀ pc f, ta_X21_free_ pc = some f → P_X21_free_ pc f := (ce_fd_ok (P := P_X21_free_) tk_X21_free__0)
noncomputable def F_X21_free_ : ce_C := ce_M ta_X21_free_ 3 9999 39996 1000000
theorem m_X21_free_ : ∀ l : Launch, l.stackTraces = false → ce_MS l yX21_free_ (.code yX21_free_ cX21_free_ 3 (some .int)) 4 9999 39996 F_X21_free_ := fun l hl => ce_met hl (by decide +kernel) tx_X21_free_
theorem hp_X21_free_ : yX21_free_.cls ≠ "java/lang/invoke/MethodHandle" ∧ yX21_free_.cls ≠ "java/lang/invoke/VarHandle" ∧ (parseMethodDescriptor yX21_free_.desc).map (fun d => d.parameters.length) = some 2 := by decide +kernel
abbrev P_L_law (nm : String) : Nat → ce_N → Prop := ce_OKN "CarcasswrightLaw" nm cL_law 9 (some .boolean) 5 none
noncomputable def tb_L_law_0 : List (Nat × ce_N) := [(0, ce_li (ce_new 15 7 dl_X11 3)),
  (3, ce_li (ce_dup 4)),
  (4, ce_call 1 180 1502 7 (.inr false) (ce_CI F_X11_init)),
  (7, ce_li (ce_astore 1 8 9)),
  (8, ce_li (ce_new 20 20 dl_X21 11)),
  (11, ce_li (ce_dup 12)),
  (12, ce_call 1 9 23 15 (.inr false) (ce_CI F_X21_init)),
  (15, ce_li (ce_astore 2 16 9)),
  (16, ce_li (ce_push (.inl (.inl (1))) 17)),
  (17, ce_li (ce_newa 4 2 19)),
  (19, ce_li (ce_astore 3 20 9)),
  (20, ce_li (ce_push (.inl (.inl (1))) 21)),
  (21, ce_li (ce_newa 5 2 23)),
  (23, ce_li (ce_astore 4 25 9))]
theorem tk_L_law_0 {nm : String} : ∀ x ∈ tb_L_law_0, P_L_law nm x.1 x.2 :=
  ce_fc (P := P_L_law nm) (ok_li (ok_new (ci := 15) (C := RX11) (T := TX11) (N := 7) (ty0 := tyX11) dL_law_0 rfl ce_uX11 tyX11_ok gw_51 gw_52 gw_1 dv_X11 rfl)) (
  ce_fc (P := P_L_law nm) (ok_li (ok_dup dL_law_3)) (
  ce_fc (P := P_L_law nm) (ok_call (ru_I m_X11_init (by decide) (by decide) gw_55 gw_53 gw_54 gw_1 rfl hp_X11_init dL_law_4) ca_f) (
  ce_fc (P := P_L_law nm) (ok_li (ok_astore_n dL_law_7 rfl)) (
  ce_fc (P := P_L_law nm) (ok_li (ok_new (ci := 20) (C := RX21) (T := TX21) (N := 20) (ty0 := tyX21) dL_law_8 rfl ce_uX21 tyX21_ok gw_1485 gw_1486 gw_13 dv_X21 rfl)) (
  ce_fc (P := P_L_law nm) (ok_li (ok_dup dL_law_11)) (
  ce_fc (P := P_L_law nm) (ok_call (ru_I m_X21_init (by decide) (by decide) gw_1489 gw_1487 gw_1488 gw_13 rfl hp_X21_init dL_law_12) ca_f) (
  ce_fc (P := P_L_law nm) (ok_li (ok_astore_n dL_law_15 rfl)) (
  ce_fc (P := P_L_law nm) (ok_li (ok_iconst dL_law_16)) (
  ce_fc (P := P_L_law nm) (ok_li (ok_newa_long dL_law_17 gw_2854)) (
  ce_fc (P := P_L_law nm) (ok_li (ok_astore_n dL_law_19 rfl)) (
  ce_fc (P := P_L_law nm) (ok_li (ok_iconst dL_law_20)) (
  ce_fc (P := P_L_law nm) (ok_li (ok_newa_double dL_law_21 gw_2855)) (
  ce_fc (P := P_L_law nm) (ok_li (ok_astore dL_law_23)) (
  ce_fn (P := P_L_law nm)))))))))))))))
noncomputable def tb_L_law_1 : List (Nat × ce_N) := [(25, ce_li (ce_push (.inl (.inl (0))) 26)),
  (26, ce_li (ce_istore 5 28 9)),
  (28, ce_li (ce_iload 5 30)),
  (30, ce_li (ce_aload 0 31)),
  (31, ce_li (ce_alen 32)),
  (32, ce_li (ce_push (.inl (.inl (6))) 34)),
  (34, ce_li (ce_bin ce_subo 35)),
  (35, ce_li (ce_icmp false true false 3325 38)),
  (38, ce_li (ce_aload 0 39)),
  (39, ce_li (ce_iload 5 41)),
  (41, ce_li (ce_iald 42 41)),
  (42, ce_li (ce_push (.inl (.inl (63))) 44)),
  (44, ce_li (ce_bin ce_and 45)),
  (45, ce_li (ce_tsw 3319 [264, 334, 378, 434, 447, 527, 631, 689, 702, 746, 790, 834, 904, 996, 1064, 1132, 1188, 1244, 1300, 1384, 1468, 1524, 1592, 1674, 1742, 1798, 1866, 1960, 2028, 2124, 2228, 2241, 2254, 2324, 2380, 2436, 2504, 2560, 2628, 2684, 2752, 2832, 2900, 2980, 3036, 3049, 3105, 3118, 3175, 3241, 3306]))]
theorem tk_L_law_1 {nm : String} : ∀ x ∈ tb_L_law_1, P_L_law nm x.1 x.2 :=
  ce_fc (P := P_L_law nm) (ok_li (ok_iconst dL_law_25)) (
  ce_fc (P := P_L_law nm) (ok_li (ok_istore dL_law_26)) (
  ce_fc (P := P_L_law nm) (ok_li (ok_iload dL_law_28)) (
  ce_fc (P := P_L_law nm) (ok_li (ok_aload_n dL_law_30 rfl)) (
  ce_fc (P := P_L_law nm) (ok_li (ok_alen dL_law_31)) (
  ce_fc (P := P_L_law nm) (ok_li (ok_bipush dL_law_32 (by decide))) (
  ce_fc (P := P_L_law nm) (ok_li (ok_isub dL_law_34)) (
  ce_fc (P := P_L_law nm) (ok_li (ok_icmp_gt dL_law_35 (by decide))) (
  ce_fc (P := P_L_law nm) (ok_li (ok_aload_n dL_law_38 rfl)) (
  ce_fc (P := P_L_law nm) (ok_li (ok_iload dL_law_39)) (
  ce_fc (P := P_L_law nm) (ok_li (ok_iald dL_law_41)) (
  ce_fc (P := P_L_law nm) (ok_li (ok_bipush dL_law_42 (by decide))) (
  ce_fc (P := P_L_law nm) (ok_li (ok_iand dL_law_44)) (
  ce_fc (P := P_L_law nm) (ok_li (ok_tsw dL_law_45 (by decide) (by decide) (by decide))) (
  ce_fn (P := P_L_law nm)))))))))))))))
noncomputable def tb_L_law_2 : List (Nat × ce_N) := [(264, ce_li (ce_aload 1 265)),
  (265, ce_li (ce_aload 0 266)),
  (266, ce_li (ce_iload 5 268)),
  (268, ce_li (ce_push (.inl (.inl (1))) 269)),
  (269, ce_li (ce_bin ce_addo 270)),
  (270, ce_li (ce_iald 271 270)),
  (271, ce_li (ce_i2c 272)),
  (272, ce_li (ce_aload 0 273)),
  (273, ce_li (ce_iload 5 275)),
  (275, ce_li (ce_push (.inl (.inl (2))) 276)),
  (276, ce_li (ce_bin ce_addo 277)),
  (277, ce_li (ce_iald 278 277)),
  (278, ce_li (ce_aload 3 279)),
  (279, ce_call 4 0 0 282 (.inr false) F_L_addWall)]
theorem tk_L_law_2 {nm : String} : ∀ x ∈ tb_L_law_2, P_L_law nm x.1 x.2 :=
  ce_fc (P := P_L_law nm) (ok_li (ok_aload_n dL_law_264 rfl)) (
  ce_fc (P := P_L_law nm) (ok_li (ok_aload_n dL_law_265 rfl)) (
  ce_fc (P := P_L_law nm) (ok_li (ok_iload dL_law_266)) (
  ce_fc (P := P_L_law nm) (ok_li (ok_iconst dL_law_268)) (
  ce_fc (P := P_L_law nm) (ok_li (ok_iadd dL_law_269)) (
  ce_fc (P := P_L_law nm) (ok_li (ok_iald dL_law_270)) (
  ce_fc (P := P_L_law nm) (ok_li (ok_i2c dL_law_271)) (
  ce_fc (P := P_L_law nm) (ok_li (ok_aload_n dL_law_272 rfl)) (
  ce_fc (P := P_L_law nm) (ok_li (ok_iload dL_law_273)) (
  ce_fc (P := P_L_law nm) (ok_li (ok_iconst dL_law_275)) (
  ce_fc (P := P_L_law nm) (ok_li (ok_iadd dL_law_276)) (
  ce_fc (P := P_L_law nm) (ok_li (ok_iald dL_law_277)) (
  ce_fc (P := P_L_law nm) (ok_li (ok_aload_n dL_law_278 rfl)) (
  ce_fc (P := P_L_law nm) (ok_call (ru_SX m_L_addWall (by decide) (by decide) gw_715 gw_713 gw_714 gw_0 hp_L_addWall dL_law_279) ca_f) (
  ce_fn (P := P_L_law nm)))))))))))))))
noncomputable def tb_L_law_3 : List (Nat × ce_N) := [(282, ce_li (ce_istore 6 284 9)),
  (284, ce_li (ce_aload 2 285)),
  (285, ce_li (ce_aload 0 286)),
  (286, ce_li (ce_iload 5 288)),
  (288, ce_li (ce_push (.inl (.inl (1))) 289)),
  (289, ce_li (ce_bin ce_addo 290)),
  (290, ce_li (ce_iald 291 290)),
  (291, ce_li (ce_i2c 292)),
  (292, ce_li (ce_aload 0 293)),
  (293, ce_li (ce_iload 5 295)),
  (295, ce_li (ce_push (.inl (.inl (2))) 296)),
  (296, ce_li (ce_bin ce_addo 297)),
  (297, ce_li (ce_iald 298 297)),
  (298, ce_call 3 2 15 301 (.inr false) (ce_CV 20 F_X21_addWall))]
theorem tk_L_law_3 {nm : String} : ∀ x ∈ tb_L_law_3, P_L_law nm x.1 x.2 :=
  ce_fc (P := P_L_law nm) (ok_li (ok_istore dL_law_282)) (
  ce_fc (P := P_L_law nm) (ok_li (ok_aload_n dL_law_284 rfl)) (
  ce_fc (P := P_L_law nm) (ok_li (ok_aload_n dL_law_285 rfl)) (
  ce_fc (P := P_L_law nm) (ok_li (ok_iload dL_law_286)) (
  ce_fc (P := P_L_law nm) (ok_li (ok_iconst dL_law_288)) (
  ce_fc (P := P_L_law nm) (ok_li (ok_iadd dL_law_289)) (
  ce_fc (P := P_L_law nm) (ok_li (ok_iald dL_law_290)) (
  ce_fc (P := P_L_law nm) (ok_li (ok_i2c dL_law_291)) (
  ce_fc (P := P_L_law nm) (ok_li (ok_aload_n dL_law_292 rfl)) (
  ce_fc (P := P_L_law nm) (ok_li (ok_iload dL_law_293)) (
  ce_fc (P := P_L_law nm) (ok_li (ok_iconst dL_law_295)) (
  ce_fc (P := P_L_law nm) (ok_li (ok_iadd dL_law_296)) (
  ce_fc (P := P_L_law nm) (ok_li (ok_iald dL_law_297)) (
  ce_fc (P := P_L_law nm) (ok_call (ru_V (ci := 20) (C := RX21) (Tf := TX21) (N := 20) m_X21_addWall (by decide) (by decide) rfl gw_1590 gw_1587 gw_1588 gw_1589 gw_13 ⟨rfl, hp_X21_addWall⟩ dL_law_298) ca_f) (
  ce_fn (P := P_L_law nm)))))))))))))))
noncomputable def tb_L_law_4 : List (Nat × ce_N) := [(301, ce_li (ce_istore 7 303 9)),
  (303, ce_li (ce_aload 2 304)),
  (304, ce_call 1 0 0 307 (.inr false) (ce_CV 20 F_X21_thrown)),
  (307, ce_li (ce_iload 6 309)),
  (309, ce_li (ce_icmp true false false 314 312)),
  (314, ce_li (ce_iload 6 316)),
  (316, ce_li (ce_if true false true 331 319)),
  (319, ce_li (ce_aload 3 320)),
  (320, ce_li (ce_push (.inl (.inl (0))) 321)),
  (321, ce_li (ce_lald 322)),
  (322, ce_li (ce_iload 7 324)),
  (324, ce_li (ce_i2l 325)),
  (325, ce_li (ce_lcmp 326)),
  (326, ce_li (ce_if true false false 331 329))]
theorem tk_L_law_4 {nm : String} : ∀ x ∈ tb_L_law_4, P_L_law nm x.1 x.2 :=
  ce_fc (P := P_L_law nm) (ok_li (ok_istore dL_law_301)) (
  ce_fc (P := P_L_law nm) (ok_li (ok_aload_n dL_law_303 rfl)) (
  ce_fc (P := P_L_law nm) (ok_call (ru_V (ci := 20) (C := RX21) (Tf := TX21) (N := 20) m_X21_thrown (by decide) (by decide) rfl gw_1586 gw_1583 gw_1584 gw_1585 gw_13 ⟨rfl, hp_X21_thrown⟩ dL_law_304) ca_f) (
  ce_fc (P := P_L_law nm) (ok_li (ok_iload dL_law_307)) (
  ce_fc (P := P_L_law nm) (ok_li (ok_icmp_eq dL_law_309 (by decide))) (
  ce_fc (P := P_L_law nm) (ok_li (ok_iload dL_law_314)) (
  ce_fc (P := P_L_law nm) (ok_li (ok_if_ne dL_law_316 (by decide))) (
  ce_fc (P := P_L_law nm) (ok_li (ok_aload_n dL_law_319 rfl)) (
  ce_fc (P := P_L_law nm) (ok_li (ok_iconst dL_law_320)) (
  ce_fc (P := P_L_law nm) (ok_li (ok_lald dL_law_321)) (
  ce_fc (P := P_L_law nm) (ok_li (ok_iload dL_law_322)) (
  ce_fc (P := P_L_law nm) (ok_li (ok_i2l dL_law_324)) (
  ce_fc (P := P_L_law nm) (ok_li (ok_lcmp dL_law_325)) (
  ce_fc (P := P_L_law nm) (ok_li (ok_if_eq dL_law_326 (by decide))) (
  ce_fn (P := P_L_law nm)))))))))))))))
noncomputable def tb_L_law_5 : List (Nat × ce_N) := [(331, ce_li (ce_goto 3319)),
  (1300, ce_li (ce_aload 1 1301)),
  (1301, ce_li (ce_aload 0 1302)),
  (1302, ce_li (ce_iload 5 1304)),
  (1304, ce_li (ce_push (.inl (.inl (1))) 1305)),
  (1305, ce_li (ce_bin ce_addo 1306)),
  (1306, ce_li (ce_iald 1307 1306)),
  (1307, ce_li (ce_aload 0 1308)),
  (1308, ce_li (ce_iload 5 1310)),
  (1310, ce_li (ce_push (.inl (.inl (2))) 1311)),
  (1311, ce_li (ce_bin ce_addo 1312)),
  (1312, ce_li (ce_iald 1313 1312)),
  (1313, ce_li (ce_if true false false 1320 1316)),
  (1320, ce_li (ce_push (.inl (.inl (0))) 1321))]
theorem tk_L_law_5 {nm : String} : ∀ x ∈ tb_L_law_5, P_L_law nm x.1 x.2 :=
  ce_fc (P := P_L_law nm) (ok_li (ok_goto dL_law_331 (by decide))) (
  ce_fc (P := P_L_law nm) (ok_li (ok_aload_n dL_law_1300 rfl)) (
  ce_fc (P := P_L_law nm) (ok_li (ok_aload_n dL_law_1301 rfl)) (
  ce_fc (P := P_L_law nm) (ok_li (ok_iload dL_law_1302)) (
  ce_fc (P := P_L_law nm) (ok_li (ok_iconst dL_law_1304)) (
  ce_fc (P := P_L_law nm) (ok_li (ok_iadd dL_law_1305)) (
  ce_fc (P := P_L_law nm) (ok_li (ok_iald dL_law_1306)) (
  ce_fc (P := P_L_law nm) (ok_li (ok_aload_n dL_law_1307 rfl)) (
  ce_fc (P := P_L_law nm) (ok_li (ok_iload dL_law_1308)) (
  ce_fc (P := P_L_law nm) (ok_li (ok_iconst dL_law_1310)) (
  ce_fc (P := P_L_law nm) (ok_li (ok_iadd dL_law_1311)) (
  ce_fc (P := P_L_law nm) (ok_li (ok_iald dL_law_1312)) (
  ce_fc (P := P_L_law nm) (ok_li (ok_if_eq dL_law_1313 (by decide))) (
  ce_fc (P := P_L_law nm) (ok_li (ok_iconst dL_law_1320)) (
  ce_fn (P := P_L_law nm)))))))))))))))
noncomputable def tb_L_law_6 : List (Nat × ce_N) := [(1321, ce_li (ce_aload 3 1322)),
  (1322, ce_call 4 0 0 1325 (.inr false) F_L_free),
  (1325, ce_li (ce_istore 6 1327 9)),
  (1327, ce_li (ce_aload 2 1328)),
  (1328, ce_li (ce_aload 0 1329)),
  (1329, ce_li (ce_iload 5 1331)),
  (1331, ce_li (ce_push (.inl (.inl (1))) 1332)),
  (1332, ce_li (ce_bin ce_addo 1333)),
  (1333, ce_li (ce_iald 1334 1333)),
  (1334, ce_li (ce_aload 0 1335)),
  (1335, ce_li (ce_iload 5 1337)),
  (1337, ce_li (ce_push (.inl (.inl (2))) 1338)),
  (1338, ce_li (ce_bin ce_addo 1339)),
  (1339, ce_li (ce_iald 1340 1339))]
theorem tk_L_law_6 {nm : String} : ∀ x ∈ tb_L_law_6, P_L_law nm x.1 x.2 :=
  ce_fc (P := P_L_law nm) (ok_li (ok_aload_n dL_law_1321 rfl)) (
  ce_fc (P := P_L_law nm) (ok_call (ru_SX m_L_free (by decide) (by decide) gw_1048 gw_1046 gw_1047 gw_0 hp_L_free dL_law_1322) ca_f) (
  ce_fc (P := P_L_law nm) (ok_li (ok_istore dL_law_1325)) (
  ce_fc (P := P_L_law nm) (ok_li (ok_aload_n dL_law_1327 rfl)) (
  ce_fc (P := P_L_law nm) (ok_li (ok_aload_n dL_law_1328 rfl)) (
  ce_fc (P := P_L_law nm) (ok_li (ok_iload dL_law_1329)) (
  ce_fc (P := P_L_law nm) (ok_li (ok_iconst dL_law_1331)) (
  ce_fc (P := P_L_law nm) (ok_li (ok_iadd dL_law_1332)) (
  ce_fc (P := P_L_law nm) (ok_li (ok_iald dL_law_1333)) (
  ce_fc (P := P_L_law nm) (ok_li (ok_aload_n dL_law_1334 rfl)) (
  ce_fc (P := P_L_law nm) (ok_li (ok_iload dL_law_1335)) (
  ce_fc (P := P_L_law nm) (ok_li (ok_iconst dL_law_1337)) (
  ce_fc (P := P_L_law nm) (ok_li (ok_iadd dL_law_1338)) (
  ce_fc (P := P_L_law nm) (ok_li (ok_iald dL_law_1339)) (
  ce_fn (P := P_L_law nm)))))))))))))))
noncomputable def tb_L_law_7 : List (Nat × ce_N) := [(1340, ce_li (ce_if true false false 1347 1343)),
  (1347, ce_li (ce_push (.inl (.inl (0))) 1348)),
  (1351, ce_li (ce_istore 7 1353 9)),
  (1353, ce_li (ce_aload 2 1354)),
  (1354, ce_call 1 0 0 1357 (.inr false) (ce_CV 20 F_X21_thrown)),
  (1357, ce_li (ce_iload 6 1359)),
  (1359, ce_li (ce_icmp true false false 1364 1362)),
  (1364, ce_li (ce_iload 6 1366)),
  (1366, ce_li (ce_if true false true 1381 1369)),
  (1369, ce_li (ce_aload 3 1370)),
  (1370, ce_li (ce_push (.inl (.inl (0))) 1371)),
  (1371, ce_li (ce_lald 1372)),
  (1372, ce_li (ce_iload 7 1374)),
  (1374, ce_li (ce_i2l 1375))]
theorem tk_L_law_7 {nm : String} : ∀ x ∈ tb_L_law_7, P_L_law nm x.1 x.2 :=
  ce_fc (P := P_L_law nm) (ok_li (ok_if_eq dL_law_1340 (by decide))) (
  ce_fc (P := P_L_law nm) (ok_li (ok_iconst dL_law_1347)) (
  ce_fc (P := P_L_law nm) (ok_li (ok_istore dL_law_1351)) (
  ce_fc (P := P_L_law nm) (ok_li (ok_aload_n dL_law_1353 rfl)) (
  ce_fc (P := P_L_law nm) (ok_call (ru_V (ci := 20) (C := RX21) (Tf := TX21) (N := 20) m_X21_thrown (by decide) (by decide) rfl gw_1586 gw_1583 gw_1584 gw_1585 gw_13 ⟨rfl, hp_X21_thrown⟩ dL_law_1354) ca_f) (
  ce_fc (P := P_L_law nm) (ok_li (ok_iload dL_law_1357)) (
  ce_fc (P := P_L_law nm) (ok_li (ok_icmp_eq dL_law_1359 (by decide))) (
  ce_fc (P := P_L_law nm) (ok_li (ok_iload dL_law_1364)) (
  ce_fc (P := P_L_law nm) (ok_li (ok_if_ne dL_law_1366 (by decide))) (
  ce_fc (P := P_L_law nm) (ok_li (ok_aload_n dL_law_1369 rfl)) (
  ce_fc (P := P_L_law nm) (ok_li (ok_iconst dL_law_1370)) (
  ce_fc (P := P_L_law nm) (ok_li (ok_lald dL_law_1371)) (
  ce_fc (P := P_L_law nm) (ok_li (ok_iload dL_law_1372)) (
  ce_fc (P := P_L_law nm) (ok_li (ok_i2l dL_law_1374)) (
  ce_fn (P := P_L_law nm)))))))))))))))
noncomputable def tb_L_law_8 : List (Nat × ce_N) := [(1375, ce_li (ce_lcmp 1376)),
  (1376, ce_li (ce_if true false false 1381 1379)),
  (1381, ce_li (ce_goto 3319)),
  (3319, ce_li (ce_iinc 5 (6) 3322 9)),
  (3322, ce_li (ce_goto 28)),
  (3325, ce_li (ce_push (.inl (.inl (1))) 3326)),
  (3326, ce_reti .boolean)]
theorem tk_L_law_8 {nm : String} : ∀ x ∈ tb_L_law_8, P_L_law nm x.1 x.2 :=
  ce_fc (P := P_L_law nm) (ok_li (ok_lcmp dL_law_1375)) (
  ce_fc (P := P_L_law nm) (ok_li (ok_if_eq dL_law_1376 (by decide))) (
  ce_fc (P := P_L_law nm) (ok_li (ok_goto dL_law_1381 (by decide))) (
  ce_fc (P := P_L_law nm) (ok_li (ok_iinc dL_law_3319)) (
  ce_fc (P := P_L_law nm) (ok_li (ok_goto dL_law_3322 (by decide))) (
  ce_fc (P := P_L_law nm) (ok_li (ok_iconst dL_law_3325)) (
  ce_fc (P := P_L_law nm) (ok_reti dL_law_3326 rfl) (
  ce_fn (P := P_L_law nm))))))))
noncomputable def ta_L_law : Nat → Option ce_N := (ce_tr 301 (ce_tr 264 (ce_tr 25 (ce_fd tb_L_law_0) (ce_fd tb_L_law_1)) (ce_tr 282 (ce_fd tb_L_law_2) (ce_fd tb_L_law_3))) (ce_tr 1321 (ce_tr 331 (ce_fd tb_L_law_4) (ce_fd tb_L_law_5)) (ce_tr 1340 (ce_fd tb_L_law_6) (ce_tr 1375 (ce_fd tb_L_law_7) (ce_fd tb_L_law_8)))))
theorem tx_L_law {nm : String} : ∀ pc f, ta_L_law pc = some f → P_L_law nm pc f := (ce_tr_ok (P := P_L_law nm) (ce_tr_ok (P := P_L_law nm) (ce_tr_ok (P := P_L_law nm) (ce_fd_ok (P := P_L_law nm) tk_L_law_0) (ce_fd_ok (P := P_L_law nm) tk_L_law_1)) (ce_tr_ok (P := P_L_law nm) (ce_fd_ok (P := P_L_law nm) tk_L_law_2) (ce_fd_ok (P := P_L_law nm) tk_L_law_3))) (ce_tr_ok (P := P_L_law nm) (ce_tr_ok (P := P_L_law nm) (ce_fd_ok (P := P_L_law nm) tk_L_law_4) (ce_fd_ok (P := P_L_law nm) tk_L_law_5)) (ce_tr_ok (P := P_L_law nm) (ce_fd_ok (P := P_L_law nm) tk_L_law_6) (ce_tr_ok (P := P_L_law nm) (ce_fd_ok (P := P_L_law nm) tk_L_law_7) (ce_fd_ok (P := P_L_law nm) tk_L_law_8)))))
end
