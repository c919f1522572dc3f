theorem pm_tPs_8 : pm_ttf_8.all pm_tP = true := by decide +kernel
theorem pm_tPs_9 : pm_ttf_9.all pm_tP = true := by decide +kernel
theorem pm_tPs_10 : pm_ttf_10.all pm_tP = true := by decide +kernel
theorem pm_tPs_11 : pm_ttf_11.all pm_tP = true := by decide +kernel
theorem pm_tPs_12 : pm_ttf_12.all pm_tP = true := by decide +kernel
theorem pm_tPs_13 : pm_ttf_13.all pm_tP = true := by decide +kernel
theorem pm_tPs_14 : pm_ttf_14.all pm_tP = true := by decide +kernel
theorem pm_tPs_15 : pm_ttf_15.all pm_tP = true := by decide +kernel
theorem pm_tPs : pm_ttf.all pm_tP = true := by
  unfold pm_ttf
  simp only [List.all_append, Bool.and_eq_true]
  exact ⟨pm_tPs_0, pm_tPs_1, pm_tPs_2, pm_tPs_3, pm_tPs_4, pm_tPs_5, pm_tPs_6, pm_tPs_7, pm_tPs_8, pm_tPs_9, pm_tPs_10, pm_tPs_11, pm_tPs_12, pm_tPs_13, pm_tPs_14, pm_tPs_15⟩

