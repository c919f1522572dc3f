theorem pm_mPs_14c : ((List.range 8).map (fun i => 352 + i)).all pm_mP = true := by decide +kernel
theorem pm_mPs_14 : ((List.range 24).map (fun i => 336 + i)).all pm_mP = true := by
  have e : (List.range 24).map (fun i => 336 + i) = (List.range 8).map (fun i => 336 + i) ++ ((List.range 8).map (fun i => 344 + i) ++ (List.range 8).map (fun i => 352 + i)) := by decide
  rw [e, List.all_append, List.all_append, pm_mPs_14a, pm_mPs_14b, pm_mPs_14c]
  rfl
