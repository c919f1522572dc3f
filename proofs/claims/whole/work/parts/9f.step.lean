/-! STEPS: the reference does them so -/
theorem ms_p {n a : Nat} {v w : Nat → Int32} {x : Int32} (h : pm_ms n v w) (ha : a < 8) : pm_ms n (upd v (48 + a) x) (upd w (56 + a) x) := by
  obtain ⟨h1, h2, h3, h4⟩ := h
  refine ⟨fun j hj => by rw [zt_un (by omega), zt_un (by omega)]; exact h1 j hj, fun p hp => ⟨?_, fun hn => ?_⟩, by rw [zt_un (by omega), zt_un (by omega)]; exact h3, by rw [zt_un (by omega), zt_un (by omega)]; exact h4⟩
  · by_cases e : p = a
    · rw [e, zt_us, zt_us]
    · rw [zt_un (by omega), zt_un (by omega)]; exact (h2 p hp).1
  · rw [zt_un (by omega), zt_un (by omega)]; exact (h2 p hp).2 hn
theorem ms_k {n a : Nat} {v w : Nat → Int32} {x : Int32} (h : pm_ms n v w) (ha : a < 8) : pm_ms n (upd v (56 + a) x) (upd w (48 + a) x) := by
  obtain ⟨h1, h2, h3, h4⟩ := h
  refine ⟨fun j hj => by rw [zt_un (by omega), zt_un (by omega)]; exact h1 j hj, fun p hp => ⟨?_, fun hn => ?_⟩, by rw [zt_un (by omega), zt_un (by omega)]; exact h3, by rw [zt_un (by omega), zt_un (by omega)]; exact h4⟩
  · rw [zt_un (by omega), zt_un (by omega)]; exact (h2 p hp).1
  · by_cases e : p = a
    · rw [e, zt_us, zt_us]
    · rw [zt_un (by omega), zt_un (by omega)]; exact (h2 p hp).2 hn
section Sc2
variable {I : Nat → Nat → Int32} {J : Nat → Nat → Int64}
theorem l256 {n : Nat} {w : Nat → Int32} (h8 : n ≤ 8) : ∀ (d i fu : Nat) (I : Nat → Nat → Int32), i + d = n → d < fu → I 127 18 = nI n → pm_ms n (I 144) (pm_lnd w i) → ∃ I', f256_26 fu (nI i) I J = some (true, I', J) ∧ pm_ms n (I' 144) (pm_lnd w n) := by
  intro d
  induction d with
  | zero =>
    intro i fu I hi hf hn hs
    obtain ⟨fu, rfl⟩ : ∃ k, fu = k + 1 := ⟨fu - 1, by omega⟩
    refine ⟨I, ?_, by rw [show i = n by omega] at hs; exact hs⟩
    rw [f256_26, hn, if_neg (by rw [nI_toInt (by omega), nI_toInt (by omega)]; omega)]
  | succ d ih =>
    intro i fu I hi hf hn hs
    obtain ⟨fu, rfl⟩ : ∃ k, fu = k + 1 := ⟨fu - 1, by omega⟩
    have z0 : (0 : Int32) + nI i = nI i := by rw [show (0 : Int32) + nI i = nI (0 + i) from nI_add 0 i, Nat.zero_add]
    have a0 := hs.1 i (by omega)
    rw [f256_26, hn, if_pos (by rw [nI_toInt (by omega), nI_toInt (by omega)]; omega), z0, zt_in (by omega) (by omega), zt_gd, zt_gd, nI_clamp (by omega), a0, pm_lt_eq, nI_1]
    by_cases c : pm_lnd w i i = nI 0
    · rw [if_pos (show pm_lnd w i i = 0 from c)]
      refine ih (i + 1) fu _ (by omega) (by omega) (by rw [zt_wc (by omega)]; exact hn) ?_
      rw [zt_wr, pm_lnd, if_pos c]
      exact ms_up hs (by omega)
    · rw [if_neg (show ¬ pm_lnd w i i = 0 from c)]
      refine ih (i + 1) fu I (by omega) (by omega) hn ?_
      rw [pm_lnd, if_neg c]
      exact hs
theorem m_go {n t l0 l1 K a b : Nat} {D : Nat → Nat → Nat} {k0 k1 : Nat → Nat} {w : Nat → Int32} (hQ : pm_MQ n t D l0 k0 l1 k1 I) (hi : pm_inv n w) (hs : pm_sk2 n t K a b) (hru : I 127 40 = nI 0) (hm : pm_ms n (I 144) w) : ∃ I', f255 (nI K) (nI a) (nI b) I J = some ((pm_go l0 k0 D n K a b w).1, I', J) ∧ pm_ms n (I' 144) (pm_go l0 k0 D n K a b w).2 := by
  obtain ⟨k8, ka, kb, kc⟩ := hs
  have h8 := hQ.1.2.2.2.1
  have ht := hQ.1.2.2.2.2.1
  have hn := hQ.1.1
  have y64 : (64 : Int32).toNatClampNeg = 64 := by decide
  have i64 : pm_in 64 66 = true := by decide
  have i99 : ((99 : Int32)).toInt = 99 := by decide
  obtain ⟨wk, st, h1, h2, h3, h4, h5⟩ := id hi
  have hK : K = 0 ∨ K = 1 ∨ K = 2 ∨ K = 3 ∨ K = 4 ∨ K = 5 ∨ K = 6 ∨ K = 7 := by omega
  rcases hK with rfl | rfl | rfl | rfl | rfl | rfl | rfl | rfl
  · have e1 : f257 0 I J = some (nI (pm_cnt (fun p => decide (I 144 p = nI 0)) n), I, J) := e257 hn h8
    rw [cn_ms h8 hm] at e1
    have cl := cn_le (fun p => decide (w p = nI 0)) n
    have d20 := hQ.2.1.2.2
    unfold f255 pm_go f256
    rw [if_pos (show nI 0 = 0 from rfl), if_pos rfl, e1, zt_bind]
    dsimp only
    by_cases c : pm_cnt (fun p => decide (w p = nI 0)) n = 0
    · rw [if_pos (show nI (pm_cnt (fun p => decide (w p = nI 0)) n) = 0 by rw [c]; rfl), if_pos (Or.inl c), zt_bind]
      exact ⟨I, rfl, hm⟩
    · rw [if_neg (show ¬ nI (pm_cnt (fun p => decide (w p = nI 0)) n) = 0 by rw [← nI_0, zt_eq (by omega) (by omega)]; exact c), i64, zt_gd, y64, hm.2.2.1, hQ.1.2.2.1, show (nI (D 8 0)).toInt = (D 8 0 : Nat) from nI_toInt (by omega)]
      by_cases c2 : (w 64).toInt < (D 8 0 : Nat)
      · rw [if_pos c2, if_pos (Or.inr c2), zt_bind]
        exact ⟨I, rfl, hm⟩
      · obtain ⟨I', r1, r2⟩ := l256 (J := J) (w := w) h8 n 0 pm_FU I (by omega) (by unfold pm_FU; omega) hn hm
        rw [nI_0] at r1
        rw [if_neg c2, if_neg (by omega), r1, zt_bind]
        exact ⟨I', rfl, r2⟩
  · have ha := ka (by omega) (by omega)
    have hb := kb rfl
    have e1 := e259 (J := J) (x := nI b) hn h8
    have ce : pm_cnt (fun p => decide (I 144 p = nI 2) && decide (I 144 (8 + p) = nI b)) n = pm_cnt (fun p => decide (w p = nI 2) && decide (w (8 + p) = nI b)) n := cn_cong (fun i hi => by rw [hm.1 i (by omega), hm.1 (8 + i) (by omega)])
    rw [ce] at e1
    have cl := cn_le (fun p => decide (w p = nI 2) && decide (w (8 + p) = nI b)) n
    have d7 := (hQ.2.1.2.1 b hb).2.2.2
    have z0 : (0 : Int32) + nI a = nI a := by rw [show (0 : Int32) + nI a = nI (0 + a) from nI_add 0 a, Nat.zero_add]
    have z8 : (8 : Int32) + nI a = nI (8 + a) := nI_add 8 a
    have z16 : (16 : Int32) + nI a = nI (16 + a) := nI_add 16 a
    have z48 : (48 : Int32) + nI a = nI (48 + a) := nI_add 48 a
    have z3 : (3 : Int32) * nI b + 2 = nI (3 * b + 2) := i3m b 2
    unfold f255 pm_go f258
    rw [if_neg (show ¬ nI 1 = 0 by decide), if_pos (show nI 1 = 1 from rfl), if_neg (show ¬ (1 : Nat) = 0 by decide), if_pos rfl, z0, z8, z16, z48, z3, zt_in (by omega) (by omega), zt_gd, nI_clamp (by omega), hm.1 a (by omega)]
    by_cases c : w a = nI 1
    · rw [if_pos (show w a = 1 from c), e1, zt_bind]
      dsimp only
      rw [zt_in (by omega) (by omega), zt_gd, nI_clamp (by omega), (hQ.1.2.2.2.2.2.2 b hb).2.2, nI_toInt (by omega), nI_toInt (by omega)]
      by_cases c2 : pm_cnt (fun p => decide (w p = nI 2) && decide (w (8 + p) = nI b)) n < D 7 b
      · rw [if_pos (by omega), if_pos ⟨c, c2⟩]
        simp (disch := omega) only [zt_in, zt_gd, nI_clamp, pm_lt, i64, y64]
        rw [zt_bind]
        refine ⟨_, rfl, ?_⟩
        dsimp only
        rw [zt_wr, zt_wr, zt_wr, zt_wr, zt_un (by omega), zt_un (by omega), zt_un (by omega), hm.2.2.1]
        exact ms_p (ms_up (ms_up (ms_up hm (by omega)) (by omega)) (by omega)) (by omega)
      · rw [if_neg (by omega), if_neg (fun z => c2 z.2), zt_bind]
        exact ⟨I, rfl, hm⟩
    · rw [if_neg (show ¬ w a = 1 from c), if_neg (fun z => c z.1), zt_bind]
      exact ⟨I, rfl, hm⟩
  · have ha := ka (by omega) (by omega)
    have kc2 := kc rfl
    obtain ⟨s3, a3, b3⟩ := (h5 a ha).2.2.1
    have z0 : (0 : Int32) + nI a = nI a := by rw [show (0 : Int32) + nI a = nI (0 + a) from nI_add 0 a, Nat.zero_add]
    have z24 : (24 : Int32) + nI a = nI (24 + a) := nI_add 24 a
    unfold f255 pm_go
    rw [if_neg (show ¬ nI 2 = 0 by decide), if_neg (show ¬ nI 2 = 1 by decide), if_neg (show ¬ nI 2 = 4 by decide), if_neg (show ¬ nI 2 = 5 by decide), if_neg (show ¬ nI 2 = 6 by decide), if_neg (show ¬ nI 2 = 7 by decide), if_neg (show ¬ (2 : Nat) = 0 by decide), if_neg (show ¬ (2 : Nat) = 1 by decide), if_pos rfl, z24, z0, if_pos (show nI 2 = 2 from rfl), if_neg (show ¬ nI 2 = 3 by decide), zt_in (by omega) (by omega), zt_gd, zt_in (by omega) (by omega), zt_gd, zt_gd, zt_gd, nI_clamp (by omega), nI_clamp (by omega), hm.1 a (by omega), hm.1 (24 + a) (by omega), b3, nI_add, i99, nI_toInt (by omega), nI_toInt (by omega)]
    by_cases c : w a = nI 2
    · rw [if_pos (show w a = 2 from c)]
      by_cases c2 : s3 = 99
      · rw [if_pos (show nI s3 = 99 by rw [c2]; rfl), if_neg (show ¬ (w a = nI 2 ∧ ((s3 : Nat) : Int) < 99) by omega)]
        exact ⟨I, rfl, hm⟩
      · rw [if_neg (show ¬ nI s3 = 99 by rw [zt_lit 99, zt_eq (by omega) (by omega)]; exact c2), if_pos (show w a = nI 2 ∧ ((s3 : Nat) : Int) < 99 from ⟨c, by omega⟩), min_nI (by omega) (by omega)]
        by_cases c3 : 99 < s3 + b
        · rw [if_pos (by omega), pm_lt_eq]
          refine ⟨_, rfl, ?_⟩
          rw [zt_wr, show Nat.min 99 (s3 + b) = 99 from Nat.min_eq_left (by omega)]
          exact ms_up hm (by omega)
        · rw [if_neg (by omega), pm_lt_eq]
          refine ⟨_, rfl, ?_⟩
          rw [zt_wr, show Nat.min 99 (s3 + b) = s3 + b from Nat.min_eq_right (by omega)]
          exact ms_up hm (by omega)
    · rw [if_neg (show ¬ w a = 2 from c), if_neg (fun z => c z.1)]
      exact ⟨I, rfl, hm⟩
  · have ha := ka (by omega) (by omega)
    have z24 : (24 : Int32) + nI a = nI (24 + a) := nI_add 24 a
    unfold f255 pm_go
    rw [if_neg (show ¬ nI 3 = 0 by decide), if_neg (show ¬ nI 3 = 1 by decide), if_neg (show ¬ nI 3 = 4 by decide), if_neg (show ¬ nI 3 = 5 by decide), if_neg (show ¬ nI 3 = 6 by decide), if_neg (show ¬ nI 3 = 7 by decide), if_neg (show ¬ (3 : Nat) = 0 by decide), if_neg (show ¬ (3 : Nat) = 1 by decide), if_neg (show ¬ (3 : Nat) = 2 by decide), if_pos rfl, z24, if_neg (show ¬ nI 3 = 2 by decide), if_pos (show nI 3 = 3 from rfl), zt_in (by omega) (by omega), zt_gd, zt_gd, nI_clamp (by omega), hm.1 (24 + a) (by omega)]
    by_cases c : w (24 + a) = nI 0
    · rw [if_pos (show w (24 + a) = 0 from c), if_pos c]
      exact ⟨I, rfl, hm⟩
    · rw [if_neg (show ¬ w (24 + a) = 0 from c), if_neg c, pm_lt_eq]
      refine ⟨_, rfl, ?_⟩
      rw [zt_wr]
      exact ms_up hm (by omega)
  · have ha := ka (by omega) (by omega)
    have z0 : (0 : Int32) + nI a = nI a := by rw [show (0 : Int32) + nI a = nI (0 + a) from nI_add 0 a, Nat.zero_add]
    have z40 : (40 : Int32) + nI a = nI (40 + a) := nI_add 40 a
    unfold f255 pm_go f260
    rw [if_neg (show ¬ nI 4 = 0 by decide), if_neg (show ¬ nI 4 = 1 by decide), if_pos (show nI 4 = 4 from rfl), if_pos (show nI 4 = 4 from rfl), if_neg (show ¬ (4 : Nat) = 0 by decide), if_neg (show ¬ (4 : Nat) = 1 by decide), if_neg (show ¬ (4 : Nat) = 2 by decide), if_neg (show ¬ (4 : Nat) = 3 by decide), if_pos rfl, z0, z40, zt_in (by omega) (by omega), zt_gd, zt_in (by omega) (by omega), zt_gd, zt_gd, nI_clamp (by omega), nI_clamp (by omega), hm.1 a (by omega), hm.1 (40 + a) (by omega)]
    by_cases c : w a = nI 3
    · rw [if_pos (show w a = 3 from c), if_pos (Or.inl c), zt_bind]
      exact ⟨I, rfl, hm⟩
    · rw [if_neg (show ¬ w a = 3 from c)]
      by_cases c2 : w (40 + a) = nI 1
      · rw [if_pos (show w (40 + a) = 1 from c2), if_pos (Or.inr c2), zt_bind]
        exact ⟨I, rfl, hm⟩
      · rw [if_neg (show ¬ w (40 + a) = 1 from c2), if_neg (fun z => z.elim c c2), pm_lt_eq, zt_bind]
        refine ⟨_, rfl, ?_⟩
        dsimp only
        rw [zt_wr]
        exact ms_up hm (by omega)
  · have ha := ka (by omega) (by omega)
    have z0 : (0 : Int32) + nI a = nI a := by rw [show (0 : Int32) + nI a = nI (0 + a) from nI_add 0 a, Nat.zero_add]
    have z40 : (40 : Int32) + nI a = nI (40 + a) := nI_add 40 a
    unfold f255 pm_go f260
    rw [if_neg (show ¬ nI 5 = 0 by decide), if_neg (show ¬ nI 5 = 1 by decide), if_neg (show ¬ nI 5 = 4 by decide), if_pos (show nI 5 = 5 from rfl), if_neg (show ¬ nI 5 = 4 by decide), if_neg (show ¬ (5 : Nat) = 0 by decide), if_neg (show ¬ (5 : Nat) = 1 by decide), if_neg (show ¬ (5 : Nat) = 2 by decide), if_neg (show ¬ (5 : Nat) = 3 by decide), if_neg (show ¬ (5 : Nat) = 4 by decide), if_pos rfl, z0, z40, zt_in (by omega) (by omega), zt_gd, zt_in (by omega) (by omega), zt_gd, zt_gd, nI_clamp (by omega), nI_clamp (by omega), hm.1 a (by omega), hm.1 (40 + a) (by omega)]
    by_cases c : w a = nI 3
    · rw [if_pos (show w a = 3 from c), if_pos (Or.inl c), zt_bind]
      exact ⟨I, rfl, hm⟩
    · rw [if_neg (show ¬ w a = 3 from c)]
      by_cases c2 : w (40 + a) = nI 0
      · rw [if_pos (show w (40 + a) = 0 from c2), if_pos (Or.inr c2), zt_bind]
        exact ⟨I, rfl, hm⟩
      · rw [if_neg (show ¬ w (40 + a) = 0 from c2), if_neg (fun z => z.elim c c2), pm_lt_eq, zt_bind]
        refine ⟨_, rfl, ?_⟩
        dsimp only
        rw [zt_wr]
        exact ms_up hm (by omega)
  · have ha := ka (by omega) (by omega)
    obtain ⟨I1, e1⟩ := e262 (J := J) (x := 0) hQ.1 hQ.2.1 ha (by omega) hru hQ.2.2.1 hQ.2.2.2.2.1 hm
    have g1 := (fr_262 _ _ _ e1).1
    have m1 : pm_ms n (I1 144) w := by rw [ag_cell g1 (by decide) (by intro f; simp)]; exact hm
    have Q1 := MQ_ag hQ g1 (by decide)
    obtain ⟨I2, e2⟩ := e263 (J := J) (x := 0) Q1.1 Q1.2.1 ha (by omega) (by rw [g1 127 40 (by decide) (by simp)]; exact hru) Q1.2.2.1 Q1.2.2.2.2.1 m1
    have g2 := (fr_263 _ _ _ e2).1
    have g144 : I2 144 = I1 144 := ag_cell g2 (by decide) (by intro f; simp)
    have z56 : (56 : Int32) + nI a = nI (56 + a) := nI_add 56 a
    have e9 : ∀ I : Nat → Nat → Int32, f271 (nI a) I J = some ((), pm_w (pm_w I 144 a (nI 3)) 144 (8 + a) pm_m1, J) := fun I => by
      unfold f271
      simp (disch := omega) only [zt_lit, zt_m1, nI_add, Nat.zero_add, zt_in, zt_gd, nI_clamp, pm_lt]
    unfold f255 pm_go f261
    rw [if_neg (show ¬ nI 6 = 0 by decide), if_neg (show ¬ nI 6 = 1 by decide), if_neg (show ¬ nI 6 = 4 by decide), if_neg (show ¬ nI 6 = 5 by decide), if_pos (show nI 6 = 6 from rfl), if_neg (show ¬ (6 : Nat) = 0 by decide), if_neg (show ¬ (6 : Nat) = 1 by decide), if_neg (show ¬ (6 : Nat) = 2 by decide), if_neg (show ¬ (6 : Nat) = 3 by decide), if_neg (show ¬ (6 : Nat) = 4 by decide), if_neg (show ¬ (6 : Nat) = 5 by decide), if_pos rfl, e1, zt_bind]
    dsimp only
    by_cases c : pm_cpy l0 k0 D n w a = true
    · rw [if_pos c, if_pos c, z56, zt_in (by omega) (by omega), zt_gd, e2, zt_bind]
      dsimp only
      rw [zt_gd, pm_lt_eq, nI_clamp (by omega), e9, zt_bind, zt_bind]
      refine ⟨_, rfl, ?_⟩
      dsimp only
      rw [zt_wr, zt_wr, zt_wr, g144, (m1.2.1 a (by omega)).2 ha]
      exact ms_up (ms_up (ms_k m1 (by omega)) (by omega)) (by omega)
    · rw [if_neg c, if_neg c, zt_bind]
      exact ⟨I1, rfl, m1⟩
  · unfold f255 pm_go
    rw [if_neg (show ¬ nI 7 = 0 by decide), if_neg (show ¬ nI 7 = 1 by decide), if_neg (show ¬ nI 7 = 4 by decide), if_neg (show ¬ nI 7 = 5 by decide), if_neg (show ¬ nI 7 = 6 by decide), if_pos (show nI 7 = 7 from rfl), if_neg (show ¬ (7 : Nat) = 0 by decide), if_neg (show ¬ (7 : Nat) = 1 by decide), if_neg (show ¬ (7 : Nat) = 2 by decide), if_neg (show ¬ (7 : Nat) = 3 by decide), if_neg (show ¬ (7 : Nat) = 4 by decide), if_neg (show ¬ (7 : Nat) = 5 by decide), if_neg (show ¬ (7 : Nat) = 6 by decide), i64, zt_gd, y64, hm.2.2.1]
    by_cases c : w 64 = nI 900
    · rw [if_pos (show w 64 = 900 from c), if_pos c]
      exact ⟨I, rfl, hm⟩
    · obtain ⟨I1, e1, s1, _⟩ := e272 (J := J) (x := 0) (by omega) hQ hru hm
      rw [if_neg (show ¬ w 64 = 900 from c), if_neg c, e1, zt_bind]
      exact ⟨I1, rfl, s1⟩
end Sc2
