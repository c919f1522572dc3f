theorem pm_mPs_15 : ((List.range 13).map (fun i => 360 + i)).all pm_mP = true := by decide +kernel
theorem pm_mPs {m : Nat} (h : m < 373) : pm_mP m = true := by
  have key : ∀ (a n : Nat), ((List.range n).map (fun i => a + i)).all pm_mP = true → a ≤ m → m < a + n → pm_mP m = true := fun a n h1 h2 h3 =>
    List.all_eq_true.mp h1 m (List.mem_map.mpr ⟨m - a, List.mem_range.mpr (by omega), by omega⟩)
  by_cases h0 : m < 24
  · exact key 0 24 pm_mPs_0 (by omega) (by omega)
  by_cases h1 : m < 48
  · exact key 24 24 pm_mPs_1 (by omega) (by omega)
  by_cases h2 : m < 72
  · exact key 48 24 pm_mPs_2 (by omega) (by omega)
  by_cases h3 : m < 96
  · exact key 72 24 pm_mPs_3 (by omega) (by omega)
  by_cases h4 : m < 120
  · exact key 96 24 pm_mPs_4 (by omega) (by omega)
  by_cases h5 : m < 144
  · exact key 120 24 pm_mPs_5 (by omega) (by omega)
  by_cases h6 : m < 168
  · exact key 144 24 pm_mPs_6 (by omega) (by omega)
  by_cases h7 : m < 192
  · exact key 168 24 pm_mPs_7 (by omega) (by omega)
  by_cases h8 : m < 216
  · exact key 192 24 pm_mPs_8 (by omega) (by omega)
  by_cases h9 : m < 240
  · exact key 216 24 pm_mPs_9 (by omega) (by omega)
  by_cases h10 : m < 264
  · exact key 240 24 pm_mPs_10 (by omega) (by omega)
  by_cases h11 : m < 288
  · exact key 264 24 pm_mPs_11 (by omega) (by omega)
  by_cases h12 : m < 312
  · exact key 288 24 pm_mPs_12 (by omega) (by omega)
  by_cases h13 : m < 336
  · exact key 312 24 pm_mPs_13 (by omega) (by omega)
  by_cases h14 : m < 360
  · exact key 336 24 pm_mPs_14 (by omega) (by omega)
  exact key 360 13 pm_mPs_15 (by omega) (by omega)

