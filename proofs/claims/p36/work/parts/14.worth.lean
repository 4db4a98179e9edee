theorem ce_dropc {α : Type} (l : List α) (m : α) (r : List α) : (l ++ m :: r).drop (l.length + 1) = r := by
  induction l with
  | nil => rfl
  | cons a t ih => exact ih
theorem th_split {own X : String} {ic : Nat} {names : List String} {w : Cond} (h : w ∈ Bundle.ownAtoms0 own ic X names) : w = Cond.methodLink own ic (Bundle.init0 X) ∨ w ∈ Bundle.throwableAtoms ++ Bundle.chain0Atoms X names ++ (Bundle.ownAtoms0 "" 0 X names).drop ((Bundle.throwableAtoms ++ Bundle.chain0Atoms X names).length + 1) := by
  unfold Bundle.ownAtoms0 at h ⊢
  rcases List.mem_append.mp h with h | h
  · exact Or.inr (List.mem_append_left _ h)
  · rcases List.mem_cons.mp h with e | e
    · exact Or.inl e
    · refine Or.inr (List.mem_append_right _ ?_)
      rw [ce_dropc]
      exact e
theorem th_0 {own : String} {ic : Nat} (h : Cond.methodLink own ic ⟨ce_ex 0, "<init>", "()V"⟩ ∈ ce_GW) : ∀ w ∈ vx_at0 own ic (ce_ex 0) ["java/lang/RuntimeException", "java/lang/Exception"], w ∈ ce_GW ∨ w ∈ ce_NG := by
  intro w hw
  obtain ⟨h1, h2⟩ := List.mem_filter.mp hw
  rcases th_split h1 with e | e
  · rw [e]; exact Or.inl h
  · have key : ∀ w ∈ (Bundle.throwableAtoms ++ Bundle.chain0Atoms (ce_ex 0) ["java/lang/RuntimeException", "java/lang/Exception"] ++ (Bundle.ownAtoms0 "" 0 (ce_ex 0) ["java/lang/RuntimeException", "java/lang/Exception"]).drop ((Bundle.throwableAtoms ++ Bundle.chain0Atoms (ce_ex 0) ["java/lang/RuntimeException", "java/lang/Exception"]).length + 1)).filter vx_no, w ∈ ce_GW ∨ w ∈ ce_NG := by decide +kernel
    exact key w (List.mem_filter.mpr ⟨e, h2⟩)
theorem th_1 {own : String} {ic : Nat} (h : Cond.methodLink own ic ⟨ce_ex 1, "<init>", "()V"⟩ ∈ ce_GW) : ∀ w ∈ vx_at0 own ic (ce_ex 1) ["java/lang/RuntimeException", "java/lang/Exception"], w ∈ ce_GW ∨ w ∈ ce_NG := by
  intro w hw
  obtain ⟨h1, h2⟩ := List.mem_filter.mp hw
  rcases th_split h1 with e | e
  · rw [e]; exact Or.inl h
  · have key : ∀ w ∈ (Bundle.throwableAtoms ++ Bundle.chain0Atoms (ce_ex 1) ["java/lang/RuntimeException", "java/lang/Exception"] ++ (Bundle.ownAtoms0 "" 0 (ce_ex 1) ["java/lang/RuntimeException", "java/lang/Exception"]).drop ((Bundle.throwableAtoms ++ Bundle.chain0Atoms (ce_ex 1) ["java/lang/RuntimeException", "java/lang/Exception"]).length + 1)).filter vx_no, w ∈ ce_GW ∨ w ∈ ce_NG := by decide +kernel
    exact key w (List.mem_filter.mpr ⟨e, h2⟩)
theorem th_2 {own : String} {ic : Nat} (h : Cond.methodLink own ic ⟨ce_ex 2, "<init>", "()V"⟩ ∈ ce_GW) : ∀ w ∈ vx_at0 own ic (ce_ex 2) ["java/lang/RuntimeException", "java/lang/Exception"], w ∈ ce_GW ∨ w ∈ ce_NG := by
  intro w hw
  obtain ⟨h1, h2⟩ := List.mem_filter.mp hw
  rcases th_split h1 with e | e
  · rw [e]; exact Or.inl h
  · have key : ∀ w ∈ (Bundle.throwableAtoms ++ Bundle.chain0Atoms (ce_ex 2) ["java/lang/RuntimeException", "java/lang/Exception"] ++ (Bundle.ownAtoms0 "" 0 (ce_ex 2) ["java/lang/RuntimeException", "java/lang/Exception"]).drop ((Bundle.throwableAtoms ++ Bundle.chain0Atoms (ce_ex 2) ["java/lang/RuntimeException", "java/lang/Exception"]).length + 1)).filter vx_no, w ∈ ce_GW ∨ w ∈ ce_NG := by decide +kernel
    exact key w (List.mem_filter.mpr ⟨e, h2⟩)
theorem th_3 {own : String} {ic : Nat} (h : Cond.methodLink own ic ⟨ce_ex 3, "<init>", "()V"⟩ ∈ ce_GW) : ∀ w ∈ vx_at0 own ic (ce_ex 3) ["java/lang/RuntimeException", "java/lang/Exception"], w ∈ ce_GW ∨ w ∈ ce_NG := by
  intro w hw
  obtain ⟨h1, h2⟩ := List.mem_filter.mp hw
  rcases th_split h1 with e | e
  · rw [e]; exact Or.inl h
  · have key : ∀ w ∈ (Bundle.throwableAtoms ++ Bundle.chain0Atoms (ce_ex 3) ["java/lang/RuntimeException", "java/lang/Exception"] ++ (Bundle.ownAtoms0 "" 0 (ce_ex 3) ["java/lang/RuntimeException", "java/lang/Exception"]).drop ((Bundle.throwableAtoms ++ Bundle.chain0Atoms (ce_ex 3) ["java/lang/RuntimeException", "java/lang/Exception"]).length + 1)).filter vx_no, w ∈ ce_GW ∨ w ∈ ce_NG := by decide +kernel
    exact key w (List.mem_filter.mpr ⟨e, h2⟩)
