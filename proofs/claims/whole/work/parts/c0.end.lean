/-! THE OWED STATEMENT -/
theorem i_vc : Claimed_1_1 ∧ Claimed_1_2 := pm_claim (fun X hX => by
  obtain ⟨ν, h⟩ := law361 hX
  exact h _ rfl)
