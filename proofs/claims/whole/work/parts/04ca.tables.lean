theorem pm_mPs_10a : ((List.range 8).map (fun i => 240 + i)).all pm_mP = true := by decide +kernel
theorem pm_mPs_10b : ((List.range 8).map (fun i => 248 + i)).all pm_mP = true := by decide +kernel
