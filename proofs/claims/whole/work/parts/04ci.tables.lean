theorem pm_mPs_14a : ((List.range 8).map (fun i => 336 + i)).all pm_mP = true := by decide +kernel
theorem pm_mPs_14b : ((List.range 8).map (fun i => 344 + i)).all pm_mP = true := by decide +kernel
