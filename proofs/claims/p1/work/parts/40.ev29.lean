-- the long one: addBoards (memory: its run is to be cut)
theorem ek_29 : ce_law6 29 = true := by sorry
