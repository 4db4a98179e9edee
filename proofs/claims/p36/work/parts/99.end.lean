/-! for a WHOLE round alone, in which the kit's witness (start1) and 'lists_1' stand ahead of the rows: such a start is there, so the claim is false and nothing is left open.
The witness's world is made for any script; the tables' words speak of the tables alone, so they hold for the refuting script as they do for its own. -/
def rf_a : Array Value := (rf_xs.map Value.int).toArray
def rf_about : State := start1.aboutOf rf_a
def rf_on : Cond → Bool
  | .arrayClass .. => true
  | .arrayOver .. => true
  | .interfaceEntry .. => true
  | c => c.onTables
theorem rf_on_vm {A B : Array Value} {U V : State} (vm : Vm) : ∀ c : Cond, rf_on c = true → c.before A (U.setVm vm) = c.before B (V.setVm vm) := by
  intro c hc
  cases c <;> first | rfl | (simp [rf_on, Cond.onTables] at hc)
theorem rf_tabs : ((Cond.code x code maxLocals ret :: tables_1).all fun c => rf_on c || c.before start1.args0 rf_about) = true := by decide +kernel
theorem rf_words : ∀ c ∈ (Cond.code x code maxLocals ret :: tables_1), c.before start1.args0 rf_about = true := by
  intro c hc
  have h1 := List.all_eq_true.mp rf_tabs c hc
  simp only [Bool.or_eq_true] at h1
  rcases h1 with h1 | h1
  · have h2 := start1.words c hc
    have h3 := rf_on_vm (A := start1.args0) (B := start1.args0) (U := start1.about) (V := rf_about) start1.about.vm c h1
    exact h3.symm.trans h2
  · exact h1
set_option maxRecDepth 16384 in
theorem rf_ints : rf_about.IntsAt 0 rf_xs := ⟨({ cls := 66, slots := rf_a, vm := .none } : Cell), by rfl, by simp [rf_a], ⟨(fun k h => by cases h), _, rfl, 65, rfl⟩, by rw [rf_xslen]; decide⟩
set_option maxRecDepth 16384 in
theorem rf_there : rf_start launch0 start1.p0 start1.e0 rf_about ⟨0, 0⟩ start1.args0 Lib.HandBits.below0 :=
  ⟨rfl, lists_1, launch0.admits_env _ _ _, fairChoices_fair.cas, fairChoices_fair.clock, rfl, by decide +kernel, by decide +kernel,
    (Spec.applies_iff rfl).mpr ⟨rfl, rfl, rfl, by decide +kernel, by decide +kernel, by decide +kernel, launch0.hasRoom_least _ rf_R (by decide +kernel) (by decide +kernel) (by decide +kernel) (by decide +kernel) (by decide +kernel) (by decide +kernel), atoms_intro rf_words⟩,
    (show rest_1_c.before start1.args0 rf_about = true by decide +kernel), (show (Cond.and given_1 narrow_1).before start1.args0 rf_about = true by decide +kernel), 0, rfl, rf_ints⟩
/-- the claim is false -/
theorem rf_closed : ¬ Claimed_1_1 := rf_false rf_there
/-- the owed statement is false -/
theorem rf_owed : ¬ (Claimed_1_1 ∧ Claimed_1_2) := fun h => rf_closed h.1
theorem i_vc : Claimed_1_1 ∧ Claimed_1_2 := sorry
