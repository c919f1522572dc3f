theorem pm_mPs_10c : ((List.range 8).map (fun i => 256 + i)).all pm_mP = true := by decide +kernel
theorem pm_mPs_10 : ((List.range 24).map (fun i => 240 + i)).all pm_mP = true := by
  have e : (List.range 24).map (fun i => 240 + i) = (List.range 8).map (fun i => 240 + i) ++ ((List.range 8).map (fun i => 248 + i) ++ (List.range 8).map (fun i => 256 + i)) := by decide
  rw [e, List.all_append, List.all_append, pm_mPs_10a, pm_mPs_10b, pm_mPs_10c]
  rfl
