theorem pm_mPs_11c : ((List.range 8).map (fun i => 280 + i)).all pm_mP = true := by decide +kernel
theorem pm_mPs_11 : ((List.range 24).map (fun i => 264 + i)).all pm_mP = true := by
  have e : (List.range 24).map (fun i => 264 + i) = (List.range 8).map (fun i => 264 + i) ++ ((List.range 8).map (fun i => 272 + i) ++ (List.range 8).map (fun i => 280 + i)) := by decide
  rw [e, List.all_append, List.all_append, pm_mPs_11a, pm_mPs_11b, pm_mPs_11c]
  rfl
