theorem pm_mPs_12a : ((List.range 8).map (fun i => 288 + i)).all pm_mP = true := by decide +kernel
theorem pm_mPs_12b : ((List.range 8).map (fun i => 296 + i)).all pm_mP = true := by decide +kernel
