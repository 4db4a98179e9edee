-- addBoards: by how many
theorem em_lo : ce_law7 ((.arg 5, 1, 0) :: ce_Fk 29) = true := by decide +kernel
theorem em_hi : ce_law7 ((.arg 5, 0, 21) :: ce_Fk 29) = true := by decide +kernel
theorem em_1 : ce_law7 (ce_Fm 1) = true := by decide +kernel
theorem em_2 : ce_law7 (ce_Fm 2) = true := by decide +kernel
theorem em_3 : ce_law7 (ce_Fm 3) = true := by decide +kernel
theorem em_4 : ce_law7 (ce_Fm 4) = true := by decide +kernel
theorem em_5 : ce_law7 (ce_Fm 5) = true := by decide +kernel
theorem em_6 : ce_law7 (ce_Fm 6) = true := by decide +kernel
theorem em_7 : ce_law7 (ce_Fm 7) = true := by decide +kernel
theorem em_8 : ce_law7 (ce_Fm 8) = true := by decide +kernel
theorem em_9 : ce_law7 (ce_Fm 9) = true := by decide +kernel
theorem em_10 : ce_law7 (ce_Fm 10) = true := by decide +kernel
