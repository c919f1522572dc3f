/-! THE TAPE: the beginning, on both sides -/
section Tw
variable {I : Nat → Nat → Int32} {J : Nat → Nat → Int64}
theorem e126 {c : Nat → Nat} {L T : Nat} (h1 : I 1 1 = nI T) (hT : T ≤ 600) (hL : L ≤ T) (hc : ∀ i, i < T → c i < 256 ∧ I 2 i = nI (c i)) : ∃ I', f126 (nI L) I J = some ((), I', J) ∧ pm_CF c L (pm_sk c L 0) I' := by
  obtain ⟨I', e, t, p⟩ := e128 (J := J) (c := c) (L := L) (s := 0) (I := pm_w (pm_w (pm_w (pm_w I 1 7 0) 1 8 (-1)) 1 2 (nI L)) 1 5 0) ⟨by rw [zt_w2 (by omega), zt_ws], by omega, fun i hi => by
    rw [zt_wc (by omega), zt_wc (by omega), zt_wc (by omega), zt_wc (by omega)]
    exact hc i (by omega)⟩ (by omega) (by rw [zt_ws]; rfl)
  have g := (fr_128 _ _ _ e).1
  rw [Nat.sub_zero] at p
  refine ⟨I', ?_, t, p, ?_, ?_⟩
  · have e7 : f127 I J = some ((), pm_w (pm_w I 1 7 0) 1 8 (-1), J) := rfl
    unfold f126
    rw [e7, zt_bind]
    dsimp only
    rw [pm_lt_eq, zt_w2 (by omega), zt_w2 (by omega), h1, min_nI (by omega) (by omega), show Nat.min L T = L from Nat.min_eq_left hL, pm_lt_eq, e, zt_bind]
  · rw [g 1 7 (by decide) (by decide), zt_w2 (by omega), zt_w2 (by omega), zt_w2 (by omega), zt_ws]
  · rw [g 1 8 (by decide) (by decide), zt_w2 (by omega), zt_w2 (by omega), zt_ws]
theorem e223 {c : Nat → Nat} {L : Nat} (hL : L ≤ 600) (hc : ∀ i, i < L → c i < 256 ∧ I 129 i = nI (c i)) : ∃ I', f223 (nI L) I J = some ((), I', J) ∧ pm_MF c L 0 I' ∧ I' 127 2 = 0 ∧ I' 127 8 = -1 := by
  unfold f223
  rw [pm_lt_eq, pm_lt_eq, pm_lt_eq, pm_lt_eq, pm_lt_eq, pm_lt_eq]
  refine ⟨_, rfl, ⟨⟨?_, hL, fun i hi => ?_⟩, by omega, ?_, ?_⟩, ?_, ?_⟩
  · rw [zt_w2 (by omega), zt_w2 (by omega), zt_w2 (by omega), zt_ws]
  · rw [zt_wc (by omega), zt_wc (by omega), zt_wc (by omega), zt_wc (by omega), zt_wc (by omega), zt_wc (by omega)]
    exact hc i hi
  · rw [zt_w2 (by omega), zt_w2 (by omega), zt_ws]; rfl
  · rw [zt_w2 (by omega), zt_ws]
  · rw [zt_w2 (by omega), zt_w2 (by omega), zt_w2 (by omega), zt_w2 (by omega), zt_w2 (by omega), zt_ws]
  · rw [zt_w2 (by omega), zt_w2 (by omega), zt_w2 (by omega), zt_w2 (by omega), zt_ws]
end Tw
