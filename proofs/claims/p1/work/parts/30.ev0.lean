-- what the runs end with, reckoned: scripts of fewer than 6 ints
theorem el_0 : ce_law (ce_Fl 0) = true := by decide +kernel
theorem el_1 : ce_law (ce_Fl 1) = true := by decide +kernel
theorem el_2 : ce_law (ce_Fl 2) = true := by decide +kernel
theorem el_3 : ce_law (ce_Fl 3) = true := by decide +kernel
theorem el_4 : ce_law (ce_Fl 4) = true := by decide +kernel
theorem el_5 : ce_law (ce_Fl 5) = true := by decide +kernel
