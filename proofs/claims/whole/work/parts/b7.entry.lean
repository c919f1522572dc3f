/-! THE LAW FROM ITS ENTRY -/
theorem isn_sp (r : Option (pm_R × pm_M)) (h : pm_isn r = true) : ∃ μ, r = some (.inl none, μ) := by
  cases r with
  | none => cases h
  | some q =>
    obtain ⟨a, μ⟩ := q
    cases a with
    | inl v =>
      cases v with
      | none => exact ⟨μ, rfl⟩
      | some _ => cases h
    | inr _ => cases h
theorem u1e : pm_u1r = some (.inl none, pm_u1) := by
  have h := u1a
  rw [Bool.and_eq_true, Bool.and_eq_true] at h
  obtain ⟨μ, e⟩ := isn_sp _ h.1.1
  unfold pm_u1
  rw [e]
theorem u2e : pm_u2r = some (.inl none, pm_u2) := by
  have h := u2a
  rw [Bool.and_eq_true, Bool.and_eq_true, Bool.and_eq_true] at h
  obtain ⟨μ, e⟩ := isn_sp _ h.1.1.1
  unfold pm_u2
  rw [e]
section En
variable {μ : pm_M} {I : Nat → Nat → Int32} {P : Nat → Nat → Value}
theorem chk_i (h : pm_chk μ = true) (hI : ∀ a, a ≠ 157 → I a = μ.1 a) (j : Nat) (q : Nat × Nat × Int32) (hq : pm_ivs[j]? = some q) : I q.1 q.2.1 = q.2.2 := by
  unfold pm_chk at h
  rw [Bool.and_eq_true, Bool.and_eq_true] at h
  have hm := List.mem_of_getElem? hq
  have h1 := List.all_eq_true.mp h.2.2 q hm
  have h2 : (pm_ivs.all (fun q => decide (q.1 ≠ 157))) = true := by decide +kernel
  have h3 := of_decide_eq_true (List.all_eq_true.mp h2 q hm)
  rw [hI q.1 h3]
  exact of_decide_eq_true h1
theorem chk_r (h : pm_chk μ = true) (hP : ∀ a, a ≠ 157 → P a = μ.2.2.1 a) (j : Nat) (q : Nat × Nat × Nat) (hq : pm_rvs[j]? = some q) : P q.1 q.2.1 = .ref q.2.2 := by
  unfold pm_chk at h
  rw [Bool.and_eq_true, Bool.and_eq_true] at h
  have hm := List.mem_of_getElem? hq
  have h1 := List.all_eq_true.mp h.2.1 q hm
  have h2 : (pm_rvs.all (fun q => decide (q.1 ≠ 157))) = true := by decide +kernel
  have h3 := of_decide_eq_true (List.all_eq_true.mp h2 q hm)
  rw [hP q.1 h3]
  exact veq_sp h1
theorem spt_l : pm_spt.length ≤ 157 ∨ pm_spt.getD 157 [] = [] := by decide +kernel
theorem chk_s (h : pm_chk μ = true) (hP : ∀ a, a ≠ 157 → P a = μ.2.2.1 a) (a f q : Nat) (hs : pm_sp a f = .ref q) : P a f = .ref q := by
  unfold pm_chk at h
  rw [Bool.and_eq_true, Bool.and_eq_true] at h
  have ha : a < pm_spt.length := by
    rcases Nat.lt_or_ge a pm_spt.length with y | y
    · exact y
    · unfold pm_sp at hs
      rw [List.getD_eq_getElem?_getD, List.getD_eq_getElem?_getD, List.getElem?_eq_none y] at hs
      cases f <;> cases hs
  have hf : f < (pm_spt.getD a []).length := by
    rcases Nat.lt_or_ge f (pm_spt.getD a []).length with y | y
    · exact y
    · unfold pm_sp at hs
      rw [List.getD_eq_getElem?_getD (l := pm_spt.getD a []), List.getElem?_eq_none y] at hs
      cases hs
  have h1 := List.all_eq_true.mp h.1 a (List.mem_range.mpr ha)
  have h2 := List.all_eq_true.mp h1 f (List.mem_range.mpr hf)
  rw [hs] at h2
  have a7 : a ≠ 157 := by
    intro e
    subst e
    rcases spt_l with y | y
    · omega
    · rw [y] at hf
      exact absurd hf (Nat.not_lt_zero _)
  rw [hP a a7]
  exact veq_sp h2
theorem W_0 (h : pm_chk μ = true) (hP : ∀ a, a ≠ 157 → P a = μ.2.2.1 a) : pm_W P 15 121 113 124 := by
  have V := chk_r h hP
  refine ⟨chk_s h hP, V 0 (3, 6, 15) rfl, V 1 (0, 9, 121) rfl, V 2 (0, 8, 113) rfl, V 3 (0, 10, 124) rfl, ?_, ?_, ?_, ?_, ?_, ?_, ?_⟩
  · exact ⟨rfl, ⟨rfl, rfl, rfl, rfl, rfl, rfl, rfl⟩, V 4 (15, 0, 16) rfl, V 5 (15, 1, 17) rfl, V 6 (15, 2, 18) rfl, V 7 (15, 3, 19) rfl, V 8 (15, 4, 20) rfl, V 9 (15, 5, 21) rfl, V 10 (15, 6, 22) rfl⟩
  · exact ⟨rfl, rfl, rfl, V 18 (121, 0, 122) rfl, V 19 (121, 1, 123) rfl⟩
  · exact ⟨rfl, ⟨rfl, rfl, rfl, rfl, rfl, rfl, rfl⟩, V 11 (113, 0, 114) rfl, V 12 (113, 1, 115) rfl, V 13 (113, 2, 116) rfl, V 14 (113, 3, 117) rfl, V 15 (113, 4, 118) rfl, V 16 (113, 5, 119) rfl, V 17 (113, 6, 120) rfl⟩
  · exact ⟨rfl, rfl, rfl, V 20 (124, 0, 125) rfl, V 21 (124, 1, 126) rfl⟩
  · exact ⟨rfl, rfl, rfl, V 22 (6, 0, 7) rfl, V 23 (6, 1, 8) rfl⟩
  · exact ⟨rfl, rfl, rfl, V 24 (9, 0, 10) rfl, V 25 (9, 1, 11) rfl⟩
  · exact ⟨rfl, rfl, rfl, V 26 (94, 0, 95) rfl, V 27 (94, 1, 96) rfl⟩
theorem RR_0 (h : pm_chk μ = true) (hI : ∀ a, a ≠ 157 → I a = μ.1 a) : pm_RR 15 121 I := by
  have V := chk_i h hI
  have A : ∀ i, i < 48 → pm_ivs[5 + i]? = some (5, i, if 8 ≤ i ∧ i < 16 then (-1 : Int32) else 0) ∧ pm_ivs[107 + i]? = some (143, i, if 8 ≤ i ∧ i < 16 then (-1 : Int32) else 0) := by decide +kernel
  have B : ∀ p, p < 8 → pm_ivs[155 + p]? = some (143, 48 + p, (-1 : Int32)) ∧ pm_ivs[61 + p]? = some (5, 56 + p, (-1 : Int32)) := by decide +kernel
  have C : ∀ i, i < 7 → pm_ivs[72 + i]? = some (7, i, nI (pm_pk i)) ∧ pm_ivs[80 + i]? = some (10, i, nI (pm_pk i)) := by decide +kernel
  have DR : pm_DR 0 0 (fun _ _ => 8) := ⟨fun p hp => absurd hp (Nat.not_lt_zero _), fun p hp => absurd hp (Nat.not_lt_zero _), (by decide : 8 ≤ 20)⟩
  refine ⟨0, 0, fun _ _ => 8, 7, pm_pk, 7, pm_pk, ⟨⟨⟨.inl rfl, V 87 (15, 7, 0) rfl, V 88 (15, 8, 0) rfl, V 89 (15, 10, 8) rfl, by omega, by omega, fun p hp => absurd hp (Nat.not_lt_zero _), fun p hp => absurd hp (Nat.not_lt_zero _)⟩, DR, ⟨V 71 (6, 2, 7) rfl, fun i hi => V _ _ (C i hi).1⟩, ⟨V 79 (9, 2, 7) rfl, fun i hi => V _ _ (C i hi).2⟩, wf_pk, wf_pk⟩, ?_, ?_, ?_⟩, ?_, ?_, ?_, ?_, ?_⟩
  · exact ⟨⟨V 96 (127, 18, 0) rfl, V 97 (127, 19, 0) rfl, V 98 (127, 20, 8) rfl, by omega, by omega, fun p hp => absurd hp (Nat.not_lt_zero _), fun p hp => absurd hp (Nat.not_lt_zero _)⟩, DR, .inl ⟨V 105 (138, 0, 0) rfl, rfl, rfl⟩, .inl ⟨V 106 (138, 1, 0) rfl, rfl, rfl⟩, wf_pk, wf_pk⟩
  · refine ⟨⟨fun i hi => ?_, fun p hp => ⟨?_, fun h0 => absurd h0 (Nat.not_lt_zero _)⟩, ?_, ?_⟩, 0, 60, by omega, by omega, V 69 (5, 64, 0) rfl, V 70 (5, 65, 60) rfl, fun p hp => absurd hp (Nat.not_lt_zero _)⟩
    · exact (V _ _ (A i hi).2).trans (V _ _ (A i hi).1).symm
    · exact (V _ _ (B p hp).1).trans (V _ _ (B p hp).2).symm
    · exact (V 171 (143, 64, 0) rfl).trans (V 69 (5, 64, 0) rfl).symm
    · exact (V 172 (143, 65, 60) rfl).trans (V 70 (5, 65, 60) rfl).symm
  · exact ⟨⟨0, by omega, V 90 (23, 3, 0) rfl, V 99 (127, 32, 0) rfl, fun i hi => absurd hi (Nat.not_lt_zero _)⟩, ⟨0, by omega, V 91 (23, 4, 0) rfl, V 102 (127, 58, 0) rfl, fun i hi => absurd hi (Nat.not_lt_zero _)⟩⟩
  · exact ⟨.inl rfl, 0, by omega, V 92 (121, 2, 0) rfl, V 101 (127, 45, 0) rfl, fun i hi => absurd hi (Nat.not_lt_zero _)⟩
  · exact ⟨⟨0, by omega, V 3 (1, 1, 0) rfl, V 94 (127, 2, 0) rfl, fun i hi => absurd hi (Nat.not_lt_zero _)⟩, (V 4 (1, 8, -1) rfl).trans (V 95 (127, 8, -1) rfl).symm⟩
  · exact (V 0 (0, 11, 0) rfl).trans (V 100 (127, 33, 0) rfl).symm
  · exact (V 1 (0, 12, 0) rfl).trans (V 103 (128, 0, 0) rfl).symm
  · exact (V 2 (0, 13, 0) rfl).trans (V 104 (128, 1, 0) rfl).symm
theorem ent361 {X : (Nat → Int32) × Nat} {μ1 μ2 : pm_M} (hX : X.2 ≤ 3584) (h1 : pm_ex 20000 59 158 0 (pm_en 158 [.ref 0]) [] (pm_mk pm_u0 11 14) = some (.inl none, μ1)) (hT1 : μ1.2.2.2.1 = pm_T0.take 127) (he1 : μ1.2.2.2.2 = 0) (h2 : pm_ex 20000 59 215 0 (pm_en 215 [.ref 127]) [] (pm_mk μ1 12 59) = some (.inl none, μ2)) (hT2 : μ2.2.2.2.1 = pm_T0.take 157) (he2 : μ2.2.2.2.2 = 0) (hc : pm_chk μ2 = true) : ∃ ν, pm_Fx X 60 361 0 [.retAddr 0, pm_jk, pm_jk, pm_jk, pm_jk, pm_jk, pm_jk, pm_jk] [] pm_u0 (.inl (some (.int 1))) ν := by
  have l1 : μ1.2.2.2.1.length = 127 := by rw [hT1]; rfl
  have l2 : μ2.2.2.2.1.length = 157 := by rw [hT2]; rfl
  have s1 : pm_sm μ1.2.2.2.1 ≤ 100000 := by rw [hT1]; decide +kernel
  have s2 : pm_sm μ2.2.2.2.1 ≤ 100000 := by rw [hT2]; decide +kernel
  have m2 : pm_mk μ2 21 (1 : Int32).toNatClampNeg = (va_up μ2.1 157 (fun _ => 0), va_up μ2.2.1 157 (fun _ => 0), va_up μ2.2.2.1 157 (fun _ => .null), pm_T0, 0) := by
    unfold pm_mk
    rw [l2, hT2, he2]
    rfl
  obtain ⟨ν, kk⟩ := hd361 (d := 0) hX X.2 0 0 (va_up μ2.1 157 (fun _ => 0)) (va_up μ2.2.1 157 (fun _ => 0)) (va_up μ2.2.2.1 157 (fun _ => .null)) 15 121 113 124 pm_jk pm_jk pm_jk (by omega) (by omega) (by omega) (W_0 hc (fun a ha => if_neg ha)) (by unfold pm_prs; omega) (RR_0 hc (fun a ha => if_neg ha))
  refine ⟨ν, ?_⟩
  refine r_nw (ci := 11) (nf := 14) c361_0 (by rw [k361]; decide +kernel) (by decide) (by decide) ?_
  refine r_dpr c361_3 ?_
  refine cz1 q361_4 (μ1 := μ1) ⟨rfl, rfl, by rw [ml158]; decide, pm_ex_ok 20000 59 158 0 _ [] _ _ _ h1⟩ rfl ?_
  refine rs1 c361_7 rfl ?_
  refine r_nw (ci := 12) (nf := 59) c361_8 (by rw [k361]; decide +kernel) (by decide) (by unfold pm_ok; rw [he1, l1, decide_eq_true rfl, decide_eq_true (by omega), decide_eq_true (by omega)]; rfl) ?_
  rw [l1]
  refine r_dpr c361_11 ?_
  refine cz1 q361_12 (μ1 := μ2) ⟨?_, rfl, by rw [ml215]; decide, pm_ex_ok 20000 59 215 0 _ [] _ _ _ h2⟩ rfl ?_
  · show pm_rc 215 (μ1.2.2.2.1 ++ [(12, 59)]) 2 [.ref 127] = true
    rw [hT1]
    decide +kernel
  refine rs2 c361_15 rfl ?_
  refine r_ic c361_16 kI1 ?_
  refine r_nal c361_17 (by decide) (by unfold pm_ok; rw [he2, l2, decide_eq_true rfl, decide_eq_true (by omega), decide_eq_true (by rw [show (1 : Int32).toNatClampNeg = 1 from rfl]; omega)]; rfl) ?_
  rw [l2, m2]
  refine rs3 c361_19 rfl ?_
  refine r_ic c361_20 kI0 ?_
  refine is4 c361_21 rfl ?_
  rw [nI_0] at kk
  exact kk
end En
theorem law361 {X : (Nat → Int32) × Nat} (hX : X.2 ≤ 3584) : ∃ ν, pm_Fx X 60 361 0 [.retAddr 0, pm_jk, pm_jk, pm_jk, pm_jk, pm_jk, pm_jk, pm_jk] [] pm_u0 (.inl (some (.int 1))) ν := by
  have h := u1a
  rw [Bool.and_eq_true, Bool.and_eq_true] at h
  have g := u2a
  rw [Bool.and_eq_true, Bool.and_eq_true, Bool.and_eq_true] at g
  exact ent361 hX u1e (of_decide_eq_true h.1.2) (of_decide_eq_true h.2) u2e (of_decide_eq_true g.1.1.2) (of_decide_eq_true g.1.2) g.2
