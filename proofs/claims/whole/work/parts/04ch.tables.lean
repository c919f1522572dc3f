theorem pm_mPs_13c : ((List.range 8).map (fun i => 328 + i)).all pm_mP = true := by decide +kernel
theorem pm_mPs_13 : ((List.range 24).map (fun i => 312 + i)).all pm_mP = true := by
  have e : (List.range 24).map (fun i => 312 + i) = (List.range 8).map (fun i => 312 + i) ++ ((List.range 8).map (fun i => 320 + i) ++ (List.range 8).map (fun i => 328 + i)) := by decide
  rw [e, List.all_append, List.all_append, pm_mPs_13a, pm_mPs_13b, pm_mPs_13c]
  rfl
