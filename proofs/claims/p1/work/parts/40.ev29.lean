-- the long one: addBoards
theorem ek_29 : ce_law6 29 = true := by decide +kernel
