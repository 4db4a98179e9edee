/-! A SMALL SYMBOLIC MACHINE over the claim's bytecode, and why it is right: a value is a number, a number that the script tells (a term), a reference by number, or a constant; the heap is a list of cells. -/
abbrev ce_SI : Type := Int ⊕ Term
abbrev ce_SV : Type := ce_SI ⊕ (ce_SI ⊕ ((Nat ⊕ Nat) ⊕ Value))
abbrev ce_SE : Type := (Nat × List ce_SV) ⊕ (Nat × List ce_SV)
abbrev ce_F : Type := List (Term × Nat × Int)
/-- facts, cells, and how many cells and slots may still come -/
abbrev ce_G : Type := ce_F × List ce_SE × Nat × Nat
/-- locals and stack -/
abbrev ce_L : Type := List (Nat × ce_SV) × List ce_SV
/-- the script, the old things, the array classes, the object classes and slots, where new cells begin -/
abbrev ce_U : Type := (Nat → Int32) × (Nat → Value) × (Nat → ClassId) × va_G × Nat × Nat
abbrev ce_xs (z : ce_U) : Nat → Int32 := z.1
abbrev ce_ev (z : ce_U) : Nat → Value := z.2.1
abbrev ce_cA (z : ce_U) : Nat → ClassId := z.2.2.1
abbrev ce_D (z : ce_U) : va_G := z.2.2.2.1
abbrev ce_b (z : ce_U) : Nat := z.2.2.2.2.1
abbrev ce_len (z : ce_U) : Nat := z.2.2.2.2.2
abbrev ce_A (z : ce_U) : Nat → Prop := fun q => ce_b z ≤ q
def ce_I (z : ce_U) : Term → Int32
  | .arg i => ce_xs z i
  | .int v => v
  | .add a b => ce_I z a + ce_I z b
  | .sub a b => ce_I z a - ce_I z b
  | .mul a b => ce_I z a * ce_I z b
  | .div a b => ce_I z a >>> (ce_I z b &&& 31)
  | .elem a b => ce_I z a <<< (ce_I z b &&& 31)
  | .length a => ((ce_I z a).toUInt32 % 65536).toInt32
  | .old a => (ce_I z a).toInt8.toInt32
  | .sum a => ce_I z a &&& 63
  | _ => 0
def ce_Lg (z : ce_U) : Term → Int64
  | .long v => v
  | .old a => (ce_I z a).toInt64
  | .add a b => ce_Lg z a + ce_Lg z b
  | .mul a b => ce_Lg z a * ce_Lg z b
  | _ => 0
def ce_vi (z : ce_U) : ce_SI → Int32
  | .inl n => Int32.ofInt n
  | .inr t => ce_I z t
def ce_vl (z : ce_U) : ce_SI → Int64
  | .inl n => Int64.ofInt n
  | .inr t => ce_Lg z t
def ce_v (z : ce_U) (ad : Nat → Nat) : ce_SV → Value
  | .inl i => .int (ce_vi z i)
  | .inr (.inl i) => .long (ce_vl z i)
  | .inr (.inr (.inl (.inl k))) => .ref (ad k)
  | .inr (.inr (.inl (.inr j))) => ce_ev z j
  | .inr (.inr (.inr v)) => v
def ce_iv : Value → Int32
  | .int x => x
  | _ => 0
def ce_lv : Value → Int64
  | .long x => x
  | _ => 0
def ce_rv : Value → Option Nat
  | .ref a => some a
  | _ => none
abbrev ce_0 : ce_SV := .inl (.inl 0)
def ce_ar (z : ce_U) (ad : Nat → Nat) (ty : Nat) (es : List ce_SV) : (Nat → Int32) ⊕ (Nat → Int64) ⊕ (Nat → UInt32) ⊕ (Nat → UInt64) ⊕ (Nat → Option Nat) :=
  if ty < 4 then .inl (fun j => ce_iv (ce_v z ad (es.getD j ce_0)))
  else if ty = 4 then .inr (.inl (fun j => ce_lv (ce_v z ad (es.getD j ce_0))))
  else if ty = 5 then .inr (.inr (.inr (.inl (fun _ => 0))))
  else .inr (.inr (.inr (.inr (fun j => ce_rv (ce_v z ad (es.getD j ce_0))))))
def ce_e (z : ce_U) (ad : Nat → Nat) : ce_SE → va_E
  | .inl x => .inr (x.1, x.2.map (ce_v z ad))
  | .inr x => .inl (ce_cA z x.1, x.2.length, ce_ar z ad x.1 x.2)
def ce_w (z : ce_U) (ad : Nat → Nat) : Nat → List ce_SE → va_W
  | _, [] => []
  | k, e :: r => (ad k, ce_e z ad e) :: ce_w z ad (k + 1) r
theorem ce_w_get {z : ce_U} {ad : Nat → Nat} (cs : List ce_SE) : ∀ (k i : Nat), (ce_w z ad k cs)[i]? = (cs[i]?).map (fun e => (ad (k + i), ce_e z ad e)) := by
  induction cs with
  | nil => intro k i; simp [ce_w]
  | cons e r ih =>
    intro k i
    cases i with
    | zero => simp [ce_w]
    | succ i => simp only [ce_w, List.getElem?_cons_succ]; rw [ih, show k + 1 + i = k + (i + 1) by omega]
theorem ce_w_set {z : ce_U} {ad : Nat → Nat} (cs : List ce_SE) : ∀ (k i : Nat) (e : ce_SE), ce_w z ad k (cs.set i e) = (ce_w z ad k cs).set i (ad (k + i), ce_e z ad e) := by
  induction cs with
  | nil => intro k i e; simp [ce_w]
  | cons e0 r ih =>
    intro k i e
    cases i with
    | zero => simp [ce_w]
    | succ i => simp only [ce_w, List.set_cons_succ]; rw [ih, show k + 1 + i = k + (i + 1) by omega]
theorem ce_w_app {z : ce_U} {ad : Nat → Nat} (cs : List ce_SE) (e : ce_SE) : ∀ (k : Nat), ce_w z ad k (cs ++ [e]) = ce_w z ad k cs ++ [(ad (k + cs.length), ce_e z ad e)] := by
  induction cs with
  | nil => intro k; simp [ce_w]
  | cons e0 r ih => intro k; simp only [ce_w, List.cons_append, List.length_cons]; rw [ih, show k + 1 + r.length = k + (r.length + 1) by omega]
/-- no reference beyond the cells -/
def ce_wv (n : Nat) : ce_SV → Bool
  | .inr (.inr (.inl (.inl k))) => Nat.blt k n
  | _ => true
def ce_we (n : Nat) : ce_SE → Bool
  | .inl x => x.2.all (ce_wv n)
  | .inr x => x.2.all (ce_wv n)
theorem ce_v_congr {z : ce_U} {ad ad' : Nat → Nat} {n : Nat} (h : ∀ i, i < n → ad' i = ad i) {v : ce_SV} (hv : ce_wv n v = true) : ce_v z ad' v = ce_v z ad v := by
  match v, hv with
  | .inl i, _ => rfl
  | .inr (.inl i), _ => rfl
  | .inr (.inr (.inl (.inl k))), hv => exact congrArg Value.ref (h k (Nat.lt_of_lt_of_le (Nat.lt_of_succ_le (Nat.le_of_ble_eq_true hv)) (Nat.le_refl n)))
  | .inr (.inr (.inl (.inr j))), _ => rfl
  | .inr (.inr (.inr v)), _ => rfl
theorem ce_map_congr {z : ce_U} {ad ad' : Nat → Nat} {n : Nat} (h : ∀ i, i < n → ad' i = ad i) {l : List ce_SV} (hl : l.all (ce_wv n) = true) : l.map (ce_v z ad') = l.map (ce_v z ad) :=
  List.map_congr_left fun v hv => ce_v_congr h (List.all_eq_true.mp hl v hv)
theorem ce_getD_congr {z : ce_U} {ad ad' : Nat → Nat} {n : Nat} (h : ∀ i, i < n → ad' i = ad i) {l : List ce_SV} (hl : l.all (ce_wv n) = true) (j : Nat) : ce_v z ad' (l.getD j ce_0) = ce_v z ad (l.getD j ce_0) := by
  rw [List.getD_eq_getElem?_getD]
  cases hj : l[j]? with
  | none => rfl
  | some v => exact ce_v_congr h (List.all_eq_true.mp hl v (List.mem_of_getElem? hj))
theorem ce_e_congr {z : ce_U} {ad ad' : Nat → Nat} {n : Nat} (h : ∀ i, i < n → ad' i = ad i) {e : ce_SE} (he : ce_we n e = true) : ce_e z ad' e = ce_e z ad e := by
  match e, he with
  | .inl x, he => exact congrArg (fun l => (Sum.inr (x.1, l) : va_E)) (ce_map_congr h he)
  | .inr x, he =>
    have hf : (fun j => ce_v z ad' (x.2.getD j ce_0)) = fun j => ce_v z ad (x.2.getD j ce_0) := funext fun j => ce_getD_congr h he j
    have hg : ∀ {β : Type} (g : Value → β), (fun j => g (ce_v z ad' (x.2.getD j ce_0))) = fun j => g (ce_v z ad (x.2.getD j ce_0)) := fun g => funext fun j => congrArg g (congrFun hf j)
    unfold ce_e ce_ar
    simp only [hg]
theorem ce_w_congr {z : ce_U} {ad ad' : Nat → Nat} {n : Nat} (h : ∀ i, i < n → ad' i = ad i) (cs : List ce_SE) : ∀ k, k + cs.length ≤ n → cs.all (ce_we n) = true → ce_w z ad' k cs = ce_w z ad k cs := by
  induction cs with
  | nil => intros; rfl
  | cons e r ih =>
    intro k hk ha
    simp only [List.all_cons, Bool.and_eq_true] at ha
    simp only [List.length_cons] at hk
    simp only [ce_w]
    rw [ih (k + 1) (by omega) ha.2, ce_e_congr h ha.1, h k (by omega)]
theorem ce_wv_mono {n n' : Nat} (h : n ≤ n') {v : ce_SV} (hv : ce_wv n v = true) : ce_wv n' v = true := by
  match v, hv with
  | .inl i, _ => rfl
  | .inr (.inl i), _ => rfl
  | .inr (.inr (.inl (.inl k))), hv => exact Nat.ble_eq_true_of_le (Nat.le_trans (Nat.le_of_ble_eq_true hv) h)
  | .inr (.inr (.inl (.inr j))), _ => rfl
  | .inr (.inr (.inr v)), _ => rfl
theorem ce_we_mono {n n' : Nat} (h : n ≤ n') {e : ce_SE} (he : ce_we n e = true) : ce_we n' e = true := by
  match e, he with
  | .inl x, he => exact List.all_eq_true.mpr fun v hv => ce_wv_mono h (List.all_eq_true.mp he v hv)
  | .inr x, he => exact List.all_eq_true.mpr fun v hv => ce_wv_mono h (List.all_eq_true.mp he v hv)
def ce_fa (z : ce_U) (f : Term × Nat × Int) : Prop :=
  if f.2.1 = 0 then f.2.2 ≤ (ce_I z f.1).toInt else if f.2.1 = 1 then (ce_I z f.1).toInt ≤ f.2.2 else (ce_I z f.1).toInt ≠ f.2.2
def ce_sat (z : ce_U) (F : ce_F) : Prop := ∀ f ∈ F, ce_fa z f
def ce_ty (z : ce_U) : List (ClassId × FieldType) := [(ce_cA z 0, .int), (ce_cA z 1, .char), (ce_cA z 2, .byte), (ce_cA z 3, .boolean), (ce_cA z 4, .long), (ce_cA z 5, .double), (ce_cA z 6, .object "java/lang/Object"), (ce_cA z 7, .object "Carcasswright$Wall"), (ce_cA z 8, .object "Carcasswright$Obstacle"), (ce_cA z 9, .object "Carcasswright$PlacedModule"), (ce_cA z 10, .object "Carcasswright$ModuleType"), (ce_cA z 11, .object "Carcasswright$Board")]
def ce_Inv (z : ce_U) (ad : Nat → Nat) (G : ce_G) (H : Heap) : Prop :=
  va_P (ce_D z) ce_cl (ce_w z ad 0 G.2.1) H ∧ va_D (ce_A z) (ce_w z ad 0 G.2.1) ∧ G.2.1.all (ce_we G.2.1.length) = true ∧ ce_sat z G.1
