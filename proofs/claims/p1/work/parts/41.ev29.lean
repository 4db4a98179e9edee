-- addBoards: by how many
theorem em_11 : ce_law7 (ce_Fm 11) = true := by decide +kernel
theorem em_12 : ce_law7 (ce_Fm 12) = true := by decide +kernel
theorem em_13 : ce_law7 (ce_Fm 13) = true := by decide +kernel
theorem em_14 : ce_law7 (ce_Fm 14) = true := by decide +kernel
theorem em_15 : ce_law7 (ce_Fm 15) = true := by decide +kernel
