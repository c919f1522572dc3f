/-! THE TAPE: numbers and signs, on both sides -/
section Ts
variable {I : Nat → Nat → Int32} {J : Nat → Nat → Int64}
/-- the class, well at a place; the class, at fault -/
def pm_CF (c : Nat → Nat) (L i : Nat) (I : Nat → Nat → Int32) : Prop := pm_CT c L I ∧ pm_CP c L i I ∧ I 1 7 = 0 ∧ I 1 8 = -1
def pm_CX (k p : Nat) (I : Nat → Nat → Int32) : Prop := I 1 3 = 0 ∧ I 1 7 = nI k ∧ I 1 8 = nI p ∧ 1 ≤ k ∧ k ≤ 3
theorem e133 {c : Nat → Nat} {L i k : Nat} (h : pm_CF c L i I) (hk : 1 ≤ k ∧ k ≤ 3) : ∃ I', f133 (nI k) I J = some ((), I', J) ∧ pm_CX k i I' := by
  unfold f133
  rw [if_pos h.2.2.1, pm_lt_eq, pm_lt_eq, pm_lt_eq]
  refine ⟨_, rfl, ?_⟩
  unfold pm_CX
  rw [zt_ws, zt_w2 (by omega), zt_w2 (by omega), zt_ws, zt_w2 (by omega), zt_ws, zt_w2 (by omega)]
  exact ⟨rfl, rfl, h.2.1.2.1, hk⟩
theorem e133x {k p : Nat} {z : Int32} (h : pm_CX k p I) : ∃ I', f133 z I J = some ((), I', J) ∧ pm_CX k p I' := by
  obtain ⟨h1, h2, h3, h4, h5⟩ := h
  unfold f133
  rw [if_neg (by rw [h2, ← nI_0, zt_eq (by omega) (by omega)]; omega), pm_lt_eq]
  refine ⟨_, rfl, ?_⟩
  unfold pm_CX
  rw [zt_ws, zt_w2 (by omega), zt_w2 (by omega)]
  exact ⟨rfl, h2, h3, h4, h5⟩
theorem stp_b {c : Nat → Nat} {L i : Nat} (hi : i ≤ L) : pm_stp c L i ≤ L := by
  unfold pm_stp
  have h := rn_b c L (pm_kd c L i) (L - i) i
  by_cases a : pm_kd c L i = 4
  · rw [if_pos a]
    unfold pm_kd at a
    by_cases b : i < L
    · omega
    · rw [if_neg b] at a
      omega
  · rw [if_neg a]
    split <;> omega
theorem CF_step {c : Nat → Nat} {L i : Nat} (h : pm_CF c L i I) (hi : i ≤ L) : ∃ I', f128 I J = some ((), I', J) ∧ pm_CF c L (pm_sk c (L - pm_stp c L i) (pm_stp c L i)) I' := by
  obtain ⟨I', e, t, p⟩ := e128 (J := J) h.1 (stp_b hi) h.2.1.2.2.1
  have g := (fr_128 _ _ _ e).1
  exact ⟨I', e, t, p, by rw [g 1 7 (by decide) (by decide)]; exact h.2.2.1, by rw [g 1 8 (by decide) (by decide)]; exact h.2.2.2⟩
theorem e134 {c : Nat → Nat} {L i lo hi : Nat} (h : pm_CF c L i I) (hi' : i ≤ L) (hl : lo ≤ 9999) (hh : hi ≤ 9999) : (pm_nk c L lo hi i = 0 → ∃ I', f134 (nI lo) (nI hi) I J = some (nI (pm_nmv c L (L - i) i 0), I', J) ∧ pm_CF c L (pm_sk c (L - pm_stp c L i) (pm_stp c L i)) I') ∧ (pm_nk c L lo hi i ≠ 0 → ∃ I', f134 (nI lo) (nI hi) I J = some (0, I', J) ∧ pm_CX (pm_nk c L lo hi i) i I') := by
  obtain ⟨p3, p4, p5, p6⟩ := h.2.1
  have kc := kd_c c L i
  unfold f134
  by_cases k : pm_kd c L i = 2
  · rw [p3, k, if_pos (by rfl), p6]
    have ev : pm_vl c L i = Nat.min 1000000 (pm_nmv c L (L - i) i 0) := by unfold pm_vl; rw [if_pos k]
    have eb : pm_vl c L i ≤ 1000000 := by rw [ev]; exact Nat.min_le_left _ _
    have ec : (pm_vl c L i = pm_nmv c L (L - i) i 0) ∨ (9999 < pm_vl c L i ∧ 9999 < pm_nmv c L (L - i) i 0) := by
      rw [ev]
      rcases Nat.le_total 1000000 (pm_nmv c L (L - i) i 0) with q | q
      · rw [show Nat.min 1000000 (pm_nmv c L (L - i) i 0) = 1000000 from Nat.min_eq_left q]; omega
      · exact Or.inl (Nat.min_eq_right q)
    have en : pm_nk c L lo hi i = (if pm_nmv c L (L - i) i 0 < lo then 2 else if hi < pm_nmv c L (L - i) i 0 then 2 else 0) := by unfold pm_nk; rw [if_pos k]
    rw [nI_toInt (by omega), nI_toInt (by omega), nI_toInt (by omega)]
    obtain ⟨I2, e2, x2⟩ := e133 (J := J) (k := 2) h (by omega)
    have e2' : f133 2 I J = some ((), I2, J) := e2
    by_cases a : pm_nmv c L (L - i) i 0 < lo
    · rw [if_pos a] at en
      rw [en, if_pos (by omega), e2', zt_bind]
      exact ⟨fun q => by omega, fun _ => ⟨I2, rfl, x2⟩⟩
    · rw [if_neg a] at en
      rw [if_neg (by omega)]
      by_cases b : hi < pm_nmv c L (L - i) i 0
      · rw [if_pos b] at en
        rw [en, if_pos (by omega), e2', zt_bind]
        exact ⟨fun q => by omega, fun _ => ⟨I2, rfl, x2⟩⟩
      · rw [if_neg b] at en
        obtain ⟨I3, e3, x3⟩ := CF_step (J := J) h hi'
        rw [en, if_neg (by omega), e3, zt_bind]
        refine ⟨fun _ => ⟨I3, ?_, x3⟩, fun q => absurd rfl q⟩
        dsimp only
        rw [show pm_vl c L i = pm_nmv c L (L - i) i 0 by omega]
  · have en : pm_nk c L lo hi i = 1 := by unfold pm_nk; rw [if_neg k]
    obtain ⟨I2, e2, x2⟩ := e133 (J := J) (k := 1) h (by omega)
    have e2' : f133 1 I J = some ((), I2, J) := e2
    rw [p3, if_neg (by rw [zt_lit 2, zt_eq (by omega) (by omega)]; exact k), en, e2', zt_bind]
    exact ⟨fun q => by omega, fun _ => ⟨I2, rfl, x2⟩⟩
theorem e134x {k p : Nat} {lo hi : Int32} (h : pm_CX k p I) : ∃ I', f134 lo hi I J = some (0, I', J) ∧ pm_CX k p I' := by
  obtain ⟨I2, e2, x2⟩ := e133x (J := J) (z := 1) h
  refine ⟨I2, ?_, x2⟩
  unfold f134
  rw [h.1, if_neg (by decide), e2, zt_bind]
theorem e135 {c : Nat → Nat} {L i s : Nat} (h : pm_CF c L i I) (hi' : i ≤ L) (hs : s < 256) : ((pm_kd c L i = 4 ∧ c i = s) → ∃ I', f135 (nI s) I J = some ((), I', J) ∧ pm_CF c L (pm_sk c (L - (i + 1)) (i + 1)) I') ∧ (¬ (pm_kd c L i = 4 ∧ c i = s) → ∃ I', f135 (nI s) I J = some ((), I', J) ∧ pm_CX 1 i I') := by
  obtain ⟨p3, p4, p5, p6⟩ := h.2.1
  have kc := kd_c c L i
  obtain ⟨I2, e2, x2⟩ := e133 (J := J) (k := 1) h (by omega)
  have e2' : f133 1 I J = some ((), I2, J) := e2
  have hv : v136 (nI s) I = decide (pm_kd c L i = 4 ∧ c i = s) := by
    unfold v136
    rw [p3, p4, v129n h.1 hi']
    by_cases k : pm_kd c L i = 4
    · have hL : i < L := by
        unfold pm_kd at k
        by_cases b : i < L
        · exact b
        · rw [if_neg b] at k
          omega
      have c2 := (h.1.2.2 i hL).1
      rw [if_pos (show nI (pm_kd c L i) = 4 by rw [k]; rfl), if_pos hL]
      by_cases q : c i = s
      · rw [if_pos (by rw [q]), decide_eq_true ⟨k, q⟩]
      · rw [if_neg (by rw [zt_eq (by omega) (by omega)]; exact q), decide_eq_false (fun w => q w.2)]
    · rw [if_neg (by rw [zt_lit 4, zt_eq (by omega) (by omega)]; exact k), decide_eq_false (fun w => k w.1)]
  unfold f135
  rw [hv]
  by_cases w : pm_kd c L i = 4 ∧ c i = s
  · obtain ⟨I3, e3, x3⟩ := CF_step (J := J) h hi'
    have es : pm_stp c L i = i + 1 := by unfold pm_stp; rw [if_pos w.1]
    rw [es] at x3
    rw [decide_eq_true w, if_pos rfl, e3, zt_bind]
    exact ⟨fun _ => ⟨I3, rfl, x3⟩, fun q => absurd w q⟩
  · rw [decide_eq_false w, if_neg (by decide), e2', zt_bind]
    exact ⟨fun q => absurd q w, fun _ => ⟨I2, rfl, x2⟩⟩
theorem e135x {k p : Nat} {s : Int32} (h : pm_CX k p I) : ∃ I', f135 s I J = some ((), I', J) ∧ pm_CX k p I' := by
  obtain ⟨I2, e2, x2⟩ := e133x (J := J) (z := 1) h
  refine ⟨I2, ?_, x2⟩
  have hv : v136 s I = false := by
    unfold v136
    rw [h.1, if_neg (by decide)]
  unfold f135
  rw [hv, if_neg (by decide), e2, zt_bind]
end Ts
