theorem pm_mPs_12c : ((List.range 8).map (fun i => 304 + i)).all pm_mP = true := by decide +kernel
theorem pm_mPs_12 : ((List.range 24).map (fun i => 288 + i)).all pm_mP = true := by
  have e : (List.range 24).map (fun i => 288 + i) = (List.range 8).map (fun i => 288 + i) ++ ((List.range 8).map (fun i => 296 + i) ++ (List.range 8).map (fun i => 304 + i)) := by decide
  rw [e, List.all_append, List.all_append, pm_mPs_12a, pm_mPs_12b, pm_mPs_12c]
  rfl
