theorem pm_mPs_4 : ((List.range 24).map (fun i => 96 + i)).all pm_mP = true := by decide +kernel
theorem pm_mPs_5 : ((List.range 24).map (fun i => 120 + i)).all pm_mP = true := by decide +kernel
theorem pm_mPs_6 : ((List.range 24).map (fun i => 144 + i)).all pm_mP = true := by decide +kernel
theorem pm_mPs_7 : ((List.range 24).map (fun i => 168 + i)).all pm_mP = true := by decide +kernel
