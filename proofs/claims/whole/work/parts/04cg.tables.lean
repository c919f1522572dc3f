theorem pm_mPs_13a : ((List.range 8).map (fun i => 312 + i)).all pm_mP = true := by decide +kernel
theorem pm_mPs_13b : ((List.range 8).map (fun i => 320 + i)).all pm_mP = true := by decide +kernel
