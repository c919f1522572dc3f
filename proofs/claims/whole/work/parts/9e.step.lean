/-! STEPS: the class does them so -/
section Sb
variable {I : Nat → Nat → Int32} {J : Nat → Nat → Int64} {r : Nat}
theorem l40 {n : Nat} {w : Nat → Int32} (h8 : n ≤ 8) (hr : r = 15 ∨ r = 113) : ∀ (d i fu : Nat) (I : Nat → Nat → Int32), i + d = n → d < fu → I r 7 = nI n → I 5 = pm_lnd w i → ∃ I', f40_29 r fu (nI i) I J = some (true, I', J) ∧ I' 5 = pm_lnd w n := by
  intro d
  induction d with
  | zero =>
    intro i fu I hi hf hn hs
    obtain ⟨fu, rfl⟩ : ∃ k, fu = k + 1 := ⟨fu - 1, by omega⟩
    refine ⟨I, ?_, by rw [hs, show i = n by omega]⟩
    rw [f40_29, hn, if_neg (by rw [nI_toInt (by omega), nI_toInt (by omega)]; omega)]
  | succ d ih =>
    intro i fu I hi hf hn hs
    obtain ⟨fu, rfl⟩ : ∃ k, fu = k + 1 := ⟨fu - 1, by omega⟩
    have v0 : v30 (nI i) 0 I = decide (I 5 i = nI 0) := v30n (s := 0) (by omega)
    rw [f40_29, hn, if_pos (by rw [nI_toInt (by omega), nI_toInt (by omega)]; omega), v0, nI_1]
    by_cases c : I 5 i = nI 0
    · rw [decide_eq_true c, if_pos rfl, pm_lt_eq, show ∀ x : Int32, pm_sset I 0 (nI i) x = pm_w I 5 (0 * 8 + i) x from fun x => zt_ss (f := 0) (by omega) (by omega), show 0 * 8 + i = i by omega]
      refine ih (i + 1) fu _ (by omega) (by omega) (by rw [zt_wc (by omega)]; exact hn) ?_
      rw [zt_wr, pm_lnd, ← hs, if_pos c]
      rfl
    · rw [decide_eq_false c, if_neg (by decide)]
      refine ih (i + 1) fu I (by omega) (by omega) hn ?_
      rw [pm_lnd, ← hs, if_neg c]
theorem c_go {n t l0 l1 K a b : Nat} {D : Nat → Nat → Nat} {k0 k1 : Nat → Nat} (hQ : pm_CQ r n t D l0 k0 l1 k1 I) (hi : pm_inv n (I 5)) (hs : pm_sk2 n t K a b) : ∃ I', f39 r (nI K) (nI a) (nI b) I J = some ((pm_go l0 k0 D n K a b (I 5)).1, I', J) ∧ I' 5 = (pm_go l0 k0 D n K a b (I 5)).2 := by
  obtain ⟨k8, ka, kb, kc⟩ := hs
  have h8 := hQ.1.2.2.2.2.1
  have ht := hQ.1.2.2.2.2.2.1
  have hr := hQ.1.1
  have hn := hQ.1.2.1
  have i99 : ((99 : Int32)).toInt = 99 := by decide
  have v7 : ∀ I : Nat → Nat → Int32, v107 I = I 5 64 := fun I => by
    unfold v107
    rw [zt_lit 64, zt_at (by omega) (by omega)]
  have hK : K = 0 ∨ K = 1 ∨ K = 2 ∨ K = 3 ∨ K = 4 ∨ K = 5 ∨ K = 6 ∨ K = 7 := by omega
  rcases hK with rfl | rfl | rfl | rfl | rfl | rfl | rfl | rfl
  · have e1 : f36 r 0 I J = some (nI (pm_cnt (fun p => decide (I 5 p = nI 0)) n), I, J) := e36 hn h8
    have cl := cn_le (fun p => decide (I 5 p = nI 0)) n
    have d20 := hQ.2.1.2.2
    unfold f39 pm_go f40
    rw [if_pos (show nI 0 = 0 from rfl), if_pos rfl, e1, zt_bind]
    dsimp only
    by_cases c : pm_cnt (fun p => decide (I 5 p = nI 0)) n = 0
    · rw [if_pos (show nI (pm_cnt (fun p => decide (I 5 p = nI 0)) n) = 0 by rw [c]; rfl), if_pos (Or.inl c), zt_bind]
      exact ⟨I, rfl, rfl⟩
    · rw [if_neg (show ¬ nI (pm_cnt (fun p => decide (I 5 p = nI 0)) n) = 0 by rw [← nI_0, zt_eq (by omega) (by omega)]; exact c), v7, hQ.1.2.2.2.1, nI_toInt (by omega)]
      by_cases c2 : (I 5 64).toInt < (D 8 0 : Nat)
      · rw [if_pos c2, if_pos (Or.inr c2), zt_bind]
        exact ⟨I, rfl, rfl⟩
      · obtain ⟨I', r1, r2⟩ := l40 (J := J) (w := I 5) h8 hr n 0 pm_FU I (by omega) (by unfold pm_FU; omega) hn rfl
        rw [nI_0] at r1
        rw [if_neg c2, if_neg (by omega), r1, zt_bind]
        exact ⟨I', rfl, r2⟩
  · have ha := ka (by omega) (by omega)
    have hb := kb rfl
    have e1 := e42 (J := J) (x := nI b) hn h8
    have v1 : v30 (nI a) 1 I = decide (I 5 a = nI 1) := v30n (s := 1) (by omega)
    have cl := cn_le (fun p => decide (I 5 p = nI 2) && decide (I 5 (8 + p) = nI b)) n
    have d7 := (hQ.2.1.2.1 b hb).2.2.2
    unfold f39 pm_go f41
    rw [if_neg (show ¬ nI 1 = 0 by decide), if_pos (show nI 1 = 1 from rfl), if_neg (show ¬ (1 : Nat) = 0 by decide), if_pos rfl, v1]
    by_cases c : I 5 a = nI 1
    · rw [decide_eq_true c, if_pos rfl, e1, zt_bind]
      dsimp only
      rw [zt_at (by omega) (by omega), (hQ.1.2.2.2.2.2.2.2 b hb).2.2, nI_toInt (by omega), nI_toInt (by omega)]
      by_cases c2 : pm_cnt (fun p => decide (I 5 p = nI 2) && decide (I 5 (8 + p) = nI b)) n < D 7 b
      · rw [if_pos (by omega), if_pos ⟨c, c2⟩, pm_lt_eq, pm_lt_eq, pm_lt_eq, pm_lt_eq, v7, show ∀ (I : Nat → Nat → Int32) (x : Int32), pm_sset I 0 (nI a) x = pm_w I 5 (0 * 8 + a) x from fun I x => zt_ss (f := 0) (by omega) (by omega), show ∀ (I : Nat → Nat → Int32) (x : Int32), pm_sset I 1 (nI a) x = pm_w I 5 (1 * 8 + a) x from fun I x => zt_ss (f := 1) (by omega) (by omega), show ∀ (I : Nat → Nat → Int32) (x : Int32), pm_sset I 2 (nI a) x = pm_w I 5 (2 * 8 + a) x from fun I x => zt_ss (f := 2) (by omega) (by omega), show ∀ (I : Nat → Nat → Int32) (x : Int32), pm_sset I 7 (nI a) x = pm_w I 5 (7 * 8 + a) x from fun I x => zt_ss (f := 7) (by omega) (by omega), zt_bind]
        refine ⟨_, rfl, ?_⟩
        dsimp only
        rw [zt_wr, zt_wr, zt_wr, zt_wr, zt_un (by omega), zt_un (by omega), zt_un (by omega), show 0 * 8 + a = a by omega, show 1 * 8 + a = 8 + a by omega, show 2 * 8 + a = 16 + a by omega, show 7 * 8 + a = 56 + a by omega]
        rfl
      · rw [if_neg (by omega), if_neg (fun z => c2 z.2), zt_bind]
        exact ⟨I, rfl, rfl⟩
    · rw [decide_eq_false c, if_neg (show ¬ false = true by decide), if_neg (fun z => c z.1), zt_bind]
      exact ⟨I, rfl, rfl⟩
  · have ha := ka (by omega) (by omega)
    have v2 : v30 (nI a) 2 I = decide (I 5 a = nI 2) := v30n (s := 2) (by omega)
    have s3 : pm_sget (I 5) 3 (nI a) = I 5 (24 + a) := zt_sg (f := 3) (by omega) (by omega)
    unfold f39 pm_go f43
    rw [if_neg (show ¬ nI 2 = 0 by decide), if_neg (show ¬ nI 2 = 1 by decide), if_pos (show nI 2 = 2 from rfl), if_neg (show ¬ (2 : Nat) = 0 by decide), if_neg (show ¬ (2 : Nat) = 1 by decide), if_pos rfl, v2, s3, i99]
    by_cases c : I 5 a = nI 2
    · rw [decide_eq_true c, if_pos rfl]
      by_cases c2 : (I 5 (24 + a)).toInt < 99
      · rw [if_pos c2, if_pos ⟨c, c2⟩, pm_lt_eq, show ∀ x : Int32, pm_sset I 3 (nI a) x = pm_w I 5 (24 + a) x from fun x => zt_ss (f := 3) (by omega) (by omega), zt_bind]
        refine ⟨_, rfl, ?_⟩
        rw [zt_wr]
        rfl
      · rw [if_neg c2, if_neg (fun z => c2 z.2), zt_bind]
        exact ⟨I, rfl, rfl⟩
    · rw [decide_eq_false c, if_neg (show ¬ false = true by decide), if_neg (fun z => c z.1), zt_bind]
      exact ⟨I, rfl, rfl⟩
  · have ha := ka (by omega) (by omega)
    have s3 : pm_sget (I 5) 3 (nI a) = I 5 (24 + a) := zt_sg (f := 3) (by omega) (by omega)
    unfold f39 pm_go f44
    rw [if_neg (show ¬ nI 3 = 0 by decide), if_neg (show ¬ nI 3 = 1 by decide), if_neg (show ¬ nI 3 = 2 by decide), if_pos (show nI 3 = 3 from rfl), if_neg (show ¬ (3 : Nat) = 0 by decide), if_neg (show ¬ (3 : Nat) = 1 by decide), if_neg (show ¬ (3 : Nat) = 2 by decide), if_pos rfl, s3]
    by_cases c : I 5 (24 + a) = nI 0
    · rw [if_pos (show I 5 (24 + a) = 0 from c), if_pos c, zt_bind]
      exact ⟨I, rfl, rfl⟩
    · rw [if_neg (show ¬ I 5 (24 + a) = 0 from c), if_neg c, pm_lt_eq, show ∀ x : Int32, pm_sset I 3 (nI a) x = pm_w I 5 (24 + a) x from fun x => zt_ss (f := 3) (by omega) (by omega), zt_bind]
      refine ⟨_, rfl, ?_⟩
      rw [zt_wr]
      rfl
  · have ha := ka (by omega) (by omega)
    have v3 : v30 (nI a) 3 I = decide (I 5 a = nI 3) := v30n (s := 3) (by omega)
    have s5 : pm_sget (I 5) 5 (nI a) = I 5 (40 + a) := zt_sg (f := 5) (by omega) (by omega)
    unfold f39 pm_go f45
    rw [if_neg (show ¬ nI 4 = 0 by decide), if_neg (show ¬ nI 4 = 1 by decide), if_neg (show ¬ nI 4 = 2 by decide), if_neg (show ¬ nI 4 = 3 by decide), if_pos (show nI 4 = 4 from rfl), if_neg (show ¬ (4 : Nat) = 0 by decide), if_neg (show ¬ (4 : Nat) = 1 by decide), if_neg (show ¬ (4 : Nat) = 2 by decide), if_neg (show ¬ (4 : Nat) = 3 by decide), if_pos rfl, v3, s5]
    by_cases c : I 5 a = nI 3
    · rw [decide_eq_true c, if_pos rfl, if_pos (Or.inl c), zt_bind]
      exact ⟨I, rfl, rfl⟩
    · rw [decide_eq_false c, if_neg (show ¬ false = true by decide)]
      by_cases c2 : I 5 (40 + a) = nI 1
      · rw [if_pos (show I 5 (40 + a) = 1 from c2), if_pos (Or.inr c2), zt_bind]
        exact ⟨I, rfl, rfl⟩
      · rw [if_neg (show ¬ I 5 (40 + a) = 1 from c2), if_neg (fun z => z.elim c c2), pm_lt_eq, show ∀ x : Int32, pm_sset I 5 (nI a) x = pm_w I 5 (40 + a) x from fun x => zt_ss (f := 5) (by omega) (by omega), zt_bind]
        refine ⟨_, rfl, ?_⟩
        rw [zt_wr]
        rfl
  · have ha := ka (by omega) (by omega)
    have v3 : v30 (nI a) 3 I = decide (I 5 a = nI 3) := v30n (s := 3) (by omega)
    have s5 : pm_sget (I 5) 5 (nI a) = I 5 (40 + a) := zt_sg (f := 5) (by omega) (by omega)
    unfold f39 pm_go f45
    rw [if_neg (show ¬ nI 5 = 0 by decide), if_neg (show ¬ nI 5 = 1 by decide), if_neg (show ¬ nI 5 = 2 by decide), if_neg (show ¬ nI 5 = 3 by decide), if_neg (show ¬ nI 5 = 4 by decide), if_pos (show nI 5 = 5 from rfl), if_neg (show ¬ (5 : Nat) = 0 by decide), if_neg (show ¬ (5 : Nat) = 1 by decide), if_neg (show ¬ (5 : Nat) = 2 by decide), if_neg (show ¬ (5 : Nat) = 3 by decide), if_neg (show ¬ (5 : Nat) = 4 by decide), if_pos rfl, v3, s5]
    by_cases c : I 5 a = nI 3
    · rw [decide_eq_true c, if_pos rfl, if_pos (Or.inl c), zt_bind]
      exact ⟨I, rfl, rfl⟩
    · rw [decide_eq_false c, if_neg (show ¬ false = true by decide)]
      by_cases c2 : I 5 (40 + a) = nI 0
      · rw [if_pos (show I 5 (40 + a) = 0 from c2), if_pos (Or.inr c2), zt_bind]
        exact ⟨I, rfl, rfl⟩
      · rw [if_neg (show ¬ I 5 (40 + a) = 0 from c2), if_neg (fun z => z.elim c c2), pm_lt_eq, show ∀ x : Int32, pm_sset I 5 (nI a) x = pm_w I 5 (40 + a) x from fun x => zt_ss (f := 5) (by omega) (by omega), zt_bind]
        refine ⟨_, rfl, ?_⟩
        rw [zt_wr]
        rfl
  · have ha := ka (by omega) (by omega)
    obtain ⟨I1, e1⟩ := e47 (J := J) hQ.1 hQ.2.1 ha hQ.2.2.1 hQ.2.2.2.2.1
    have g1 := (fr_47 _ _ _ e1).1
    have g5 : I1 5 = I 5 := ag_cell g1 (by decide) (by intro f; simp)
    have e8 : v48 (nI a) (pm_oW l0 k0 D n (I 5) a / nI 4) I1 = pm_cpy l0 k0 D n (I 5) a := by
      rw [e48 (by omega), g5]
      rfl
    have e8' : v48 (nI a) (pm_oW l0 k0 D n (I 5) a / 4) I1 = pm_cpy l0 k0 D n (I 5) a := e8
    have s6 : pm_sget (I1 5) 6 (nI a) = I 5 (48 + a) := by
      rw [show pm_sget (I1 5) 6 (nI a) = I1 5 (48 + a) from zt_sg (f := 6) (by omega) (by omega), g5]
    unfold f39 pm_go f46
    rw [if_neg (show ¬ nI 6 = 0 by decide), if_neg (show ¬ nI 6 = 1 by decide), if_neg (show ¬ nI 6 = 2 by decide), if_neg (show ¬ nI 6 = 3 by decide), if_neg (show ¬ nI 6 = 4 by decide), if_neg (show ¬ nI 6 = 5 by decide), if_pos (show nI 6 = 6 from rfl), if_neg (show ¬ (6 : Nat) = 0 by decide), if_neg (show ¬ (6 : Nat) = 1 by decide), if_neg (show ¬ (6 : Nat) = 2 by decide), if_neg (show ¬ (6 : Nat) = 3 by decide), if_neg (show ¬ (6 : Nat) = 4 by decide), if_neg (show ¬ (6 : Nat) = 5 by decide), if_pos rfl, e1, zt_bind]
    dsimp only
    rw [e8']
    by_cases c : pm_cpy l0 k0 D n (I 5) a = true
    · have e9 : ∀ I : Nat → Nat → Int32, f49 (nI a) I J = some ((), pm_w (pm_w I 5 a (nI 3)) 5 (8 + a) pm_m1, J) := fun I => by
        unfold f49
        rw [pm_lt_eq, pm_lt_eq, show ∀ (I : Nat → Nat → Int32) (x : Int32), pm_sset I 0 (nI a) x = pm_w I 5 (0 * 8 + a) x from fun I x => zt_ss (f := 0) (by omega) (by omega), show ∀ (I : Nat → Nat → Int32) (x : Int32), pm_sset I 1 (nI a) x = pm_w I 5 (1 * 8 + a) x from fun I x => zt_ss (f := 1) (by omega) (by omega), show 0 * 8 + a = a by omega, show 1 * 8 + a = 8 + a by omega]
        rfl
      rw [if_pos c, if_pos c, pm_lt_eq, s6, show ∀ x : Int32, pm_sset I1 6 (nI a) x = pm_w I1 5 (48 + a) x from fun x => zt_ss (f := 6) (by omega) (by omega), e9, zt_bind, zt_bind]
      refine ⟨_, rfl, ?_⟩
      dsimp only
      rw [zt_wr, zt_wr, zt_wr, g5]
      rfl
    · rw [if_neg c, if_neg c, zt_bind]
      exact ⟨I1, rfl, g5⟩
  · obtain ⟨I1, e1, s1, _⟩ := e50 (J := J) hQ hi
    unfold f39 pm_go
    rw [if_neg (show ¬ nI 7 = 0 by decide), if_neg (show ¬ nI 7 = 1 by decide), if_neg (show ¬ nI 7 = 2 by decide), if_neg (show ¬ nI 7 = 3 by decide), if_neg (show ¬ nI 7 = 4 by decide), if_neg (show ¬ nI 7 = 5 by decide), if_neg (show ¬ nI 7 = 6 by decide), if_pos (show nI 7 = 7 from rfl), if_neg (show ¬ (7 : Nat) = 0 by decide), if_neg (show ¬ (7 : Nat) = 1 by decide), if_neg (show ¬ (7 : Nat) = 2 by decide), if_neg (show ¬ (7 : Nat) = 3 by decide), if_neg (show ¬ (7 : Nat) = 4 by decide), if_neg (show ¬ (7 : Nat) = 5 by decide), if_neg (show ¬ (7 : Nat) = 6 by decide), e1, zt_bind]
    by_cases c : I 5 64 = nI 900
    · rw [if_pos c] at s1
      rw [decide_eq_true c, if_pos c]
      exact ⟨I1, rfl, s1⟩
    · rw [if_neg c] at s1
      rw [decide_eq_false c, if_neg c]
      exact ⟨I1, rfl, s1⟩
end Sb
