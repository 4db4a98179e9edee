-- addBoards: by how many
theorem em_16 : ce_law7 (ce_Fm 16) = true := by decide +kernel
theorem em_17 : ce_law7 (ce_Fm 17) = true := by decide +kernel
theorem em_18 : ce_law7 (ce_Fm 18) = true := by decide +kernel
theorem em_19 : ce_law7 (ce_Fm 19) = true := by decide +kernel
theorem em_20 : ce_law7 (ce_Fm 20) = true := by decide +kernel
