theorem pm_mPs_8 : ((List.range 24).map (fun i => 192 + i)).all pm_mP = true := by decide +kernel
theorem pm_mPs_9 : ((List.range 24).map (fun i => 216 + i)).all pm_mP = true := by decide +kernel
