/-! A WEEK GOES BY, the class -/
section Sa
variable {J : Nat → Nat → Int64} {r : Nat}
theorem v30n {I : Nat → Nat → Int32} {i s : Nat} (hi : i < 8) : v30 (nI i) (nI s) I = decide (I 5 i = nI s) := by
  unfold v30
  rw [show pm_sget (I 5) 0 (nI i) = I 5 (0 * 8 + i) from zt_sg (f := 0) (by omega) (by omega), show 0 * 8 + i = i by omega]
  by_cases c : I 5 i = nI s
  · rw [if_pos c, decide_eq_true c]
  · rw [if_neg c, decide_eq_false c]
theorem CQ_5 {n t l0 l1 : Nat} {D : Nat → Nat → Nat} {k0 k1 : Nat → Nat} {I I' : Nat → Nat → Int32} (h : pm_CQ r n t D l0 k0 l1 k1 I) (g : pm_ag [5, 8, 12] [] I I') : pm_CQ r n t D l0 k0 l1 k1 I' := CQ_ag h g (by decide)
theorem l50b {n t l0 l1 : Nat} {D : Nat → Nat → Nat} {k0 k1 : Nat → Nat} {w : Nat → Int32} : ∀ (d i fu : Nat) (I : Nat → Nat → Int32), i + d = n → d < fu → pm_CQ r n t D l0 k0 l1 k1 I → I 5 = pm_p3 l0 k0 D n w i → ∃ I', f50_L r fu 1 (nI i) I J = some (true, I', J) ∧ I' 5 = pm_p3 l0 k0 D n w n ∧ pm_ag [5, 8, 12] [] I I' := by
  intro d
  induction d with
  | zero =>
    intro i fu I hi hf hQ hs
    obtain ⟨fu, rfl⟩ : ∃ k, fu = k + 1 := ⟨fu - 1, by omega⟩
    have h8 := hQ.1.2.2.2.2.1
    refine ⟨I, ?_, ?_, ag_refl⟩
    · rw [f50_L, hQ.1.2.1, if_neg (by rw [nI_toInt (by omega), nI_toInt (by omega)]; omega)]
    · rw [show i = n by omega] at hs; exact hs
  | succ d ih =>
    intro i fu I hi hf hQ hs
    obtain ⟨fu, rfl⟩ : ∃ k, fu = k + 1 := ⟨fu - 1, by omega⟩
    have h8 := hQ.1.2.2.2.2.1
    have hn := hQ.1.2.1
    have v2 : v30 (nI i) 2 I = decide (I 5 i = nI 2) := v30n (s := 2) (by omega)
    rw [f50_L, hn, if_pos (by rw [nI_toInt (by omega), nI_toInt (by omega)]; omega), v2, nI_1]
    by_cases c : I 5 i = nI 2
    · obtain ⟨I1, e1⟩ := e47 (J := J) hQ.1 hQ.2.1 (show i < n by omega) hQ.2.2.1 hQ.2.2.2.2.1
      have g1 := (fr_47 _ _ _ e1).1
      have g5 : I1 5 = I 5 := ag_cell g1 (by decide) (by intro f; simp)
      have G1 : pm_ag [5, 8, 12] [] I I1 := ag_mono g1 (by decide) (by decide)
      rw [decide_eq_true c, if_pos rfl, e1, zt_bind]
      dsimp only
      by_cases c2 : pm_oW l0 k0 D n (I 5) i = nI 0
      · have e2 : f49 (nI i) I1 J = some ((), pm_w (pm_w I1 5 i (nI 3)) 5 (8 + i) pm_m1, J) := by
          unfold f49
          rw [pm_lt_eq, pm_lt_eq, show ∀ (x : Int32), pm_sset I1 0 (nI i) x = pm_w I1 5 (0 * 8 + i) x from fun x => zt_ss (f := 0) (by omega) (by omega), show ∀ (I : Nat → Nat → Int32) (x : Int32), pm_sset I 1 (nI i) x = pm_w I 5 (1 * 8 + i) x from fun I x => zt_ss (f := 1) (by omega) (by omega), show 0 * 8 + i = i by omega, show 1 * 8 + i = 8 + i by omega]
          rfl
        have s2 : pm_w (pm_w I1 5 i (nI 3)) 5 (8 + i) pm_m1 5 = pm_p3 l0 k0 D n w (i + 1) := by
          rw [zt_wr, zt_wr, pm_p3, pm_e3, ← hs, if_pos ⟨c, c2⟩, g5]
        obtain ⟨I', r1, r2, r3⟩ := ih (i + 1) fu _ (by omega) (by omega) (CQ_5 hQ (ag_w (ag_w G1 (by simp)) (by simp))) s2
        refine ⟨I', ?_, r2, ag_trans (ag_w (ag_w G1 (by simp)) (by simp)) r3 (fun _ h => h) (fun _ h => h)⟩
        rw [if_pos (show pm_oW l0 k0 D n (I 5) i = 0 from c2), e2, zt_bind]
        exact r1
      · have s2 : I1 5 = pm_p3 l0 k0 D n w (i + 1) := by
          rw [pm_p3, pm_e3, ← hs, if_neg (fun h => c2 h.2), g5]
        obtain ⟨I', r1, r2, r3⟩ := ih (i + 1) fu _ (by omega) (by omega) (CQ_5 hQ G1) s2
        refine ⟨I', ?_, r2, ag_trans G1 r3 (fun _ h => h) (fun _ h => h)⟩
        rw [if_neg (show ¬ pm_oW l0 k0 D n (I 5) i = 0 from c2)]
        exact r1
    · have s2 : I 5 = pm_p3 l0 k0 D n w (i + 1) := by
        rw [pm_p3, pm_e3, ← hs, if_neg (fun h => c h.1)]
      obtain ⟨I', r1, r2, r3⟩ := ih (i + 1) fu _ (by omega) (by omega) hQ s2
      refine ⟨I', ?_, r2, r3⟩
      rw [decide_eq_false c, if_neg (by decide)]
      exact r1
theorem l50a {n t l0 l1 : Nat} {D : Nat → Nat → Nat} {k0 k1 : Nat → Nat} {w : Nat → Int32} : ∀ (d i fu : Nat) (I : Nat → Nat → Int32), i + d = n → d + n + 1 < fu → pm_CQ r n t D l0 k0 l1 k1 I → I 5 = pm_p1 w i → ∃ I', f50_L r fu 0 (nI i) I J = some (true, I', J) ∧ I' 5 = pm_pass l0 k0 D n w ∧ pm_ag [5, 8, 12] [] I I' := by
  intro d
  induction d with
  | zero =>
    intro i fu I hi hf hQ hs
    obtain ⟨fu, rfl⟩ : ∃ k, fu = k + 1 := ⟨fu - 1, by omega⟩
    have h8 := hQ.1.2.2.2.2.1
    have ei : i = n := by omega
    subst ei
    have e3 : ∀ x : Int32, f103 x I J = some ((), pm_w I 5 64 x, J) := fun x => by
      unfold f103
      rw [pm_lt_eq, zt_lit 64, zt_pw (by omega) (by omega)]
    have v7 : v107 I = I 5 64 := by
      unfold v107
      rw [zt_lit 64, zt_at (by omega) (by omega)]
    have G : pm_ag [5, 8, 12] [] I (pm_w I 5 64 (I 5 64 + 1)) := ag_w ag_refl (by simp)
    obtain ⟨I', r1, r2, r3⟩ := l50b (J := J) (w := pm_p2 w i) i 0 fu (pm_w I 5 64 (I 5 64 + 1)) (by omega) (by omega) (CQ_5 hQ G) (by rw [zt_wr, pm_p3, pm_p2, hs]; rfl)
    refine ⟨I', ?_, r2, ag_trans G r3 (fun _ h => h) (fun _ h => h)⟩
    rw [nI_0] at r1
    rw [f50_L, hQ.1.2.1, if_neg (by omega), v7, e3, zt_bind]
    exact r1
  | succ d ih =>
    intro i fu I hi hf hQ hs
    obtain ⟨fu, rfl⟩ : ∃ k, fu = k + 1 := ⟨fu - 1, by omega⟩
    have h8 := hQ.1.2.2.2.2.1
    have hn := hQ.1.2.1
    have v0 : v30 (nI i) 0 I = decide (I 5 i = nI 0) := v30n (s := 0) (by omega)
    have v2 : v30 (nI i) 2 I = decide (I 5 i = nI 2) := v30n (s := 2) (by omega)
    rw [f50_L, hn, if_pos (by rw [nI_toInt (by omega), nI_toInt (by omega)]; omega), v0, v2, nI_1]
    have go : ∀ I1 : Nat → Nat → Int32, pm_ag [5, 8, 12] [] I I1 → I1 5 = pm_p1 w (i + 1) → ∃ I', f50_L r fu 0 (nI (i + 1)) I1 J = some (true, I', J) ∧ I' 5 = pm_pass l0 k0 D n w ∧ pm_ag [5, 8, 12] [] I I' := by
      intro I1 G s1
      obtain ⟨I', r1, r2, r3⟩ := ih (i + 1) fu I1 (by omega) (by omega) (CQ_5 hQ G) s1
      exact ⟨I', r1, r2, ag_trans G r3 (fun _ h => h) (fun _ h => h)⟩
    by_cases c0 : I 5 i = nI 0
    · have c2 : ¬ I 5 i = nI 2 := by rw [c0, zt_eq (by omega) (by omega)]; omega
      have v8 : v108 I = I 5 65 := by
        unfold v108
        rw [zt_lit 65, zt_at (by omega) (by omega)]
      rw [decide_eq_true c0, if_pos rfl]
      by_cases c3 : 0 < (I 5 65).toInt
      · have e1 : f51 (nI i) I J = some ((), pm_w I 5 65 (I 5 65 - nI 1), J) := by
          unfold f51 f104
          rw [v8, if_pos c3, pm_lt_eq, zt_lit 65, zt_pw (by omega) (by omega), zt_bind]
          rfl
        rw [e1, zt_bind]
        refine go _ (ag_w ag_refl (by simp)) ?_
        rw [zt_wr, pm_p1, pm_e1, ← hs, if_neg c2, if_pos c0, if_pos c3]
      · have e1 : f51 (nI i) I J = some ((), pm_w I 5 (32 + i) (I 5 (32 + i) + nI 1), J) := by
          unfold f51
          rw [v8, if_neg c3, pm_lt_eq, show pm_sget (I 5) 4 (nI i) = I 5 (4 * 8 + i) from zt_sg (f := 4) (by omega) (by omega), show ∀ x : Int32, pm_sset I 4 (nI i) x = pm_w I 5 (4 * 8 + i) x from fun x => zt_ss (f := 4) (by omega) (by omega), show 4 * 8 + i = 32 + i by omega]
          rfl
        rw [e1, zt_bind]
        refine go _ (ag_w ag_refl (by simp)) ?_
        rw [zt_wr, pm_p1, pm_e1, ← hs, if_neg c2, if_pos c0, if_neg c3]
    · rw [decide_eq_false c0, if_neg (show ¬ false = true by decide)]
      by_cases c2 : I 5 i = nI 2
      · rw [decide_eq_true c2, if_pos rfl, pm_lt_eq, show pm_sget (I 5) 2 (nI i) = I 5 (2 * 8 + i) from zt_sg (f := 2) (by omega) (by omega), show ∀ x : Int32, pm_sset I 2 (nI i) x = pm_w I 5 (2 * 8 + i) x from fun x => zt_ss (f := 2) (by omega) (by omega), show 2 * 8 + i = 16 + i by omega]
        refine go _ (ag_w ag_refl (by simp)) ?_
        rw [zt_wr, pm_p1, pm_e1, ← hs, if_pos c2]
        rfl
      · rw [decide_eq_false c2, if_neg (show ¬ false = true by decide)]
        refine go I ag_refl ?_
        rw [pm_p1, pm_e1, ← hs, if_neg c2, if_neg c0]
theorem e50 {n t l0 l1 : Nat} {D : Nat → Nat → Nat} {k0 k1 : Nat → Nat} {I : Nat → Nat → Int32} (hQ : pm_CQ r n t D l0 k0 l1 k1 I) (hi : pm_inv n (I 5)) : ∃ I', f50 r I J = some (!decide (I 5 64 = nI 900), I', J) ∧ I' 5 = (if I 5 64 = nI 900 then I 5 else pm_pass l0 k0 D n (I 5)) ∧ pm_ag [5, 8, 12] [] I I' := by
  have h8 := hQ.1.2.2.2.2.1
  obtain ⟨wk, st, h1, h2, h3, h4, h5⟩ := hi
  have v7 : v107 I = I 5 64 := by
    unfold v107
    rw [zt_lit 64, zt_at (by omega) (by omega)]
  have i9 : ((900 : Int32)).toInt = 900 := by decide
  have q : I 5 64 = nI 900 ↔ wk = 900 := by rw [h3, zt_eq (by omega) (by omega)]
  unfold f50
  rw [v7]
  by_cases c : I 5 64 = nI 900
  · have c' := q.mp c
    rw [if_neg (show ¬ (I 5 64).toInt < (900 : Int32).toInt by rw [h3, nI_toInt (by omega), i9]; omega), if_pos c, decide_eq_true c]
    exact ⟨I, rfl, rfl, ag_refl⟩
  · have c' : wk ≠ 900 := fun e => c (q.mpr e)
    obtain ⟨I', r1, r2, r3⟩ := l50a (J := J) (w := I 5) n 0 pm_FU I (by omega) (by unfold pm_FU; omega) hQ rfl
    rw [nI_0] at r1
    rw [if_pos (show (I 5 64).toInt < (900 : Int32).toInt by rw [h3, nI_toInt (by omega), i9]; omega), if_neg c, decide_eq_false c]
    exact ⟨I', r1, r2, r3⟩
end Sa
