def pm_tP (q : (Nat × Nat) × (Nat × Nat × Nat × Bool) × ((Nat × Nat) × (Nat × Nat) × (Nat × Nat))) : Bool :=
  decide (q.2.1.1 < 373 ∧ q.2.1.1 ≠ 361) &&
  (if q.2.1.2.2.2 = true then decide ((pm_tb q.2.2.1.1)[q.2.2.1.2]? = some (.methodLinkNest (pm_cl q.1.1) q.1.2 (pm_y q.2.1.1) "PassagePapers")) else pm_wd q.2.2.1 (.methodLink (pm_cl q.1.1) q.1.2 (pm_y q.2.1.1))) &&
  (if q.2.1.2.2.1 = 0 then (pm_wd q.2.2.2.1 (.static (pm_y q.2.1.1)) && pm_wd q.2.2.2.2 (.initialized (pm_y q.2.1.1).cls)) else pm_wd q.2.2.2.1 (.instanceMethod (pm_y q.2.1.1))) &&
  (if q.2.1.2.2.1 = 1 then pm_wd q.2.2.2.2 (.selects (pm_y q.2.1.1).cls (pm_y q.2.1.1) (pm_y q.2.1.1)) else true) &&
  (if q.2.1.2.2.1 = 2 then decide ((pm_y q.2.1.1).name = "<init>" ∧ pm_rt q.2.1.1 = none ∧ pm_hh q.2.1.1 = []) else true) && decide (q.2.1.2.2.1 ≤ 2) &&
  (match parseMethodDescriptor (pm_y q.2.1.1).desc with
  | some sg => decide (sg.parameters.length = q.2.1.2.1)
  | none => false)
theorem pm_tPs_0 : pm_ttf_0.all pm_tP = true := by decide +kernel
theorem pm_tPs_1 : pm_ttf_1.all pm_tP = true := by decide +kernel
theorem pm_tPs_2 : pm_ttf_2.all pm_tP = true := by decide +kernel
theorem pm_tPs_3 : pm_ttf_3.all pm_tP = true := by decide +kernel
theorem pm_tPs_4 : pm_ttf_4.all pm_tP = true := by decide +kernel
theorem pm_tPs_5 : pm_ttf_5.all pm_tP = true := by decide +kernel
theorem pm_tPs_6 : pm_ttf_6.all pm_tP = true := by decide +kernel
theorem pm_tPs_7 : pm_ttf_7.all pm_tP = true := by decide +kernel
