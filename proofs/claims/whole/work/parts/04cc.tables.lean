theorem pm_mPs_11a : ((List.range 8).map (fun i => 264 + i)).all pm_mP = true := by decide +kernel
theorem pm_mPs_11b : ((List.range 8).map (fun i => 272 + i)).all pm_mP = true := by decide +kernel
