/-! THE REGISTER: the call -/
def pm_D0 : Nat → Nat → Nat := fun a _ => if a = 9 then 60 else if a = 8 then 8 else 0
theorem DR_0 : pm_DR 0 0 pm_D0 ∧ pm_D0 9 0 ≤ 400 := ⟨⟨fun p hp => by omega, fun b hb => by omega, by decide⟩, by decide⟩
section Rh
variable {I : Nat → Nat → Int32} {J : Nat → Nat → Int64} {r k r2 : Nat}
theorem e86 {c : Nat → Nat} {L i : Nat} (h : pm_CF c L i I) (hi : i ≤ L) (hk : k = 15 ∨ k = 113) : (∀ q p, pm_rgs c L 61 i 0 0 0 pm_D0 = .inl (q, p) → ∃ I', f86 k I J = some ((), I', J) ∧ pm_CX q p I') ∧ (∀ n' t' D', pm_rgs c L 61 i 0 0 0 pm_D0 = .inr (n', t', D') → ∃ I' i', f86 k I J = some ((), I', J) ∧ pm_CF c L i' I' ∧ pm_CD k n' t' D' I') := by
  have g := l86 (J := J) (k := k) (c := c) (L := L) 61 i 0 0 0 pm_FU pm_D0 (pm_w (pm_w (pm_w (pm_w I k 7 0) k 8 0) k 9 60) k 10 8) (by omega) (by unfold pm_FU; omega) hi (CF_w (CF_w (CF_w (CF_w h (by omega)) (by omega)) (by omega)) (by omega)) ⟨⟨hk, by omega, by omega⟩, ⟨by rw [zt_w2 (by omega), zt_w2 (by omega), zt_w2 (by omega), zt_ws]; rfl, by rw [zt_w2 (by omega), zt_w2 (by omega), zt_ws]; rfl, by rw [zt_w2 (by omega), zt_ws]; rfl, by rw [zt_ws]; rfl⟩, fun p hp => by omega, fun b hb => by omega⟩
  rw [nI_0] at g
  unfold f86
  rw [pm_lt_eq, pm_lt_eq, pm_lt_eq, pm_lt_eq]
  exact g
theorem c_reg {c : Nat → Nat} {L T : Nat} (h1 : I 1 1 = nI T) (hT : T ≤ 600) (hL : L ≤ T) (hc : ∀ i, i < T → c i < 256 ∧ I 2 i = nI (c i)) (hr : r2 = 15 ∨ r2 = 113) (hk : k = 121 ∨ k = 124) : (∀ q p, pm_rgs c L 61 (pm_sk c L 0) 0 0 0 pm_D0 = .inl (q, p) → ∃ I', f172 k r2 (nI L) I J = some (.inl (nI q - 10, false), I', J) ∧ I' 1 1 = nI 0 ∧ I' 1 8 = nI p ∧ pm_ag [r2 + 1, r2 + 2, r2 + 3, r2 + 4, r2 + 5, r2 + 6, r2 + 7] [(1, 1), (1, 2), (1, 3), (1, 4), (1, 5), (1, 6), (1, 7), (1, 8), (r2, 7), (r2, 8), (r2, 9), (r2, 10)] I I') ∧ (∀ n t D, pm_rgs c L 61 (pm_sk c L 0) 0 0 0 pm_D0 = .inr (n, t, D) → ∃ I', f172 k r2 (nI L) I J = some (.inl (nI n, true), I', J) ∧ I' 1 1 = nI 0 ∧ I' 1 8 = -1 ∧ pm_CD r2 n t D I' ∧ pm_CL 6 7 pm_pk I' ∧ pm_CL 9 7 pm_pk I' ∧ (∀ j, j < 64 → I' 5 j = pm_r0 (fun p => I' (r2 + 4) p) j) ∧ I' 5 64 = 0 ∧ I' 5 65 = nI (D 9 0) ∧ I' k 2 = nI 0 ∧ I' 23 3 = nI 0 ∧ I' 23 4 = nI 0 ∧ I' 0 11 = 0 ∧ pm_ag [5, 7, 10, r2 + 1, r2 + 2, r2 + 3, r2 + 4, r2 + 5, r2 + 6, r2 + 7] [(0, 11), (1, 1), (1, 2), (1, 3), (1, 4), (1, 5), (1, 6), (1, 7), (1, 8), (6, 2), (9, 2), (r2, 7), (r2, 8), (r2, 9), (r2, 10), (k, 2), (23, 3), (23, 4)] I I') := by
  obtain ⟨I2, e2, f2⟩ := e126 (J := J) h1 hT hL hc
  have g2 := (fr_126 _ _ _ e2).1
  have hs := sk_b c L 0
  obtain ⟨a1, a2⟩ := e86 (J := J) (k := r2) f2 (by omega) hr
  have gate : f173 (nI L) 600 I J = some (.inl (), I, J) := e173g (M := 600) h1 hT hL (by omega) (by omega)
  have e7 : ∀ I3 : Nat → Nat → Int32, f137 I3 J = some ((), pm_w I3 1 1 0, J) := fun _ => rfl
  unfold f172
  rw [gate, zt_xl, e2, zt_bind]
  dsimp only
  refine ⟨fun q p z => ?_, fun n t D z => ?_⟩
  · obtain ⟨I3, e3, x3⟩ := a1 q p z
    have g3 := (fr_86 _ _ _ e3).1
    have x4 := CX_1 x3
    refine ⟨pm_w I3 1 1 0, ?_, zt_ws, x4.2.2.1, ag_w (ag_trans (ag_mono g2 (by simp) (by simp)) g3 (by simp) (by simp)) (by simp)⟩
    rw [e3, zt_bind]
    dsimp only
    rw [e7, zt_bind]
    dsimp only
    rw [v138x x4, if_pos rfl]
    unfold v139
    rw [x4.2.1]
  · obtain ⟨I3, i', e3, f3, d3⟩ := a2 n t D z
    have g3 := (fr_86 _ _ _ e3).1
    have f4 := CF_1 f3
    have d4 : pm_CD r2 n t D (pm_w I3 1 1 0) := CD_1 d3 (fun a ha => zt_wc (by omega))
    obtain ⟨I5, e5, c5, c5', r5, s5, t5⟩ := e38 (I := pm_w I3 1 1 0) (J := J) hr
    have g5 := (fr_38 _ _ _ e5).1
    have e9 : f9 k I5 J = some ((), pm_w I5 k 2 0, J) := rfl
    have e6 : f6 (pm_w I5 k 2 0) J = some ((), pm_w (pm_w (pm_w I5 k 2 0) 23 3 0) 23 4 0, J) := rfl
    obtain ⟨I8, hI8⟩ : ∃ I8, I8 = pm_w (pm_w (pm_w (pm_w I5 k 2 0) 23 3 0) 23 4 0) 0 11 0 := ⟨_, rfl⟩
    have o8 : ∀ a, a ≠ 0 → a ≠ 23 → a ≠ k → I8 a = I5 a := fun a h1 h2 h3 => by rw [hI8, zt_wc h1, zt_wc h2, zt_wc h2, zt_wc h3]
    have o5 : ∀ a, a ≠ 5 → a ≠ 6 → a ≠ 7 → a ≠ 9 → a ≠ 10 → I5 a = pm_w I3 1 1 0 a := fun a h1 h2 h3 h4 h5 => ag_cell g5 (by simp; omega) (by intro f; simp; omega)
    have rr : ∀ j, j ≤ 7 → I8 (r2 + j) = pm_w I3 1 1 0 (r2 + j) := fun j hj => by rw [o8 _ (by omega) (by omega) (by omega), o5 _ (by omega) (by omega) (by omega) (by omega) (by omega)]
    have rr0 : I8 r2 = pm_w I3 1 1 0 r2 := rr 0 (by omega)
    have D8 : pm_CD r2 n t D I8 := by
      unfold pm_CD
      rw [rr0, rr 1 (by omega), rr 2 (by omega), rr 3 (by omega), rr 4 (by omega), rr 5 (by omega), rr 6 (by omega), rr 7 (by omega)]
      exact d4
    have G : pm_ag [5, 7, 10, r2 + 1, r2 + 2, r2 + 3, r2 + 4, r2 + 5, r2 + 6, r2 + 7] [(0, 11), (1, 1), (1, 2), (1, 3), (1, 4), (1, 5), (1, 6), (1, 7), (1, 8), (6, 2), (9, 2), (r2, 7), (r2, 8), (r2, 9), (r2, 10), (k, 2), (23, 3), (23, 4)] I I8 := by
      rw [hI8]
      exact ag_w (ag_w (ag_w (ag_w (ag_trans (ag_w (ag_trans (ag_mono g2 (by simp) (by simp)) g3 (by simp) (by simp)) (by simp)) g5 (by simp) (by simp)) (by simp)) (by simp)) (by simp)) (by simp)
    refine ⟨I8, ?_, ?_, ?_, D8, CL_ag c5 (o8 6 (by decide) (by decide) (by omega)) (o8 7 (by decide) (by decide) (by omega)), CL_ag c5' (o8 9 (by decide) (by decide) (by omega)) (o8 10 (by decide) (by decide) (by omega)), fun j hj => ?_, ?_, ?_, ?_, ?_, ?_, ?_, G⟩
    · rw [e3, zt_bind]
      dsimp only
      rw [e7, zt_bind]
      dsimp only
      rw [v138f f4, if_neg (by decide), e5, zt_bind]
      dsimp only
      rw [e9, zt_bind]
      dsimp only
      rw [e6, zt_bind, ← hI8]
      rw [D8.2.1.1]
    · rw [o8 1 (by decide) (by decide) (by omega), o5 1 (by decide) (by decide) (by decide) (by decide) (by decide), zt_ws]; rfl
    · rw [o8 1 (by decide) (by decide) (by omega), o5 1 (by decide) (by decide) (by decide) (by decide) (by decide)]; exact f4.2.2.2
    · rw [o8 5 (by decide) (by decide) (by omega), r5 j hj, rr 4 (by omega)]
    · rw [o8 5 (by decide) (by decide) (by omega), s5]
    · rw [o8 5 (by decide) (by decide) (by omega), t5]; exact d4.2.1.2.2.1
    · rw [hI8, zt_wc (by omega), zt_wc (by omega), zt_wc (by omega), zt_ws]; rfl
    · rw [hI8, zt_wc (by omega), zt_w2 (by omega), zt_ws]; rfl
    · rw [hI8, zt_wc (by omega), zt_ws]; rfl
    · rw [hI8, zt_ws]
theorem m_reg {c : Nat → Nat} {L T : Nat} (h2 : I 127 2 = nI T) (hT : T ≤ 600) (hL : L ≤ T) (hc : ∀ i, i < T → c i < 256 ∧ I 129 i = nI (c i)) : (∀ q p, pm_rgs c L 61 (pm_sk c L 0) 0 0 0 pm_D0 = .inl (q, p) → ∃ I', f221 (nI L) I J = some (nI q - 10, I', J) ∧ I' 127 8 = nI p ∧ I' 127 2 = nI 0 ∧ I' 127 0 = nI 0 ∧ pm_ag [130, 131] [(127, 0), (127, 2), (127, 3), (127, 4), (127, 5), (127, 6), (127, 7), (127, 8), (127, 14), (127, 15), (127, 16), (127, 17)] I I') ∧ (∀ n t D, pm_rgs c L 61 (pm_sk c L 0) 0 0 0 pm_D0 = .inr (n, t, D) → ∃ I', f221 (nI L) I J = some (nI n, I', J) ∧ I' 127 8 = -1 ∧ I' 127 2 = nI 0 ∧ I' 127 0 = nI 0 ∧ pm_MR n t D I' ∧ I' 138 0 = nI 0 ∧ I' 138 1 = nI 0 ∧ I' 127 45 = nI 0 ∧ I' 127 32 = nI 0 ∧ I' 127 58 = nI 0 ∧ I' 127 33 = nI 0 ∧ (∀ j, j < 48 → I' 143 j = if 8 ≤ j ∧ j < 16 then -1 else 0) ∧ (∀ q, q < 8 → I' 143 (48 + q) = -1) ∧ (∀ q, q < n → I' 143 (56 + q) = nI (D 4 q)) ∧ I' 143 64 = 0 ∧ I' 143 65 = nI (D 9 0) ∧ pm_ag [130, 131, 132, 133, 138, 143] [(127, 0), (127, 2), (127, 3), (127, 4), (127, 5), (127, 6), (127, 7), (127, 8), (127, 14), (127, 15), (127, 16), (127, 17), (127, 18), (127, 19), (127, 20), (127, 32), (127, 33), (127, 45), (127, 58)] I I') := by
  obtain ⟨I2, e2, m2, z2, _⟩ := e223 (I := pm_w I 127 0 0) (J := J) (c := c) (L := L) (by omega) (fun i hi => by rw [zt_wc (by omega)]; exact hc i (by omega))
  have g2 := (fr_223 _ _ _ e2).1
  have eg : f222 1 1 1 (pm_w I 127 0 0) J = some (true, pm_w I 127 0 0, J) := e222g (by rw [zt_ws]; rfl)
  obtain ⟨I3, hI3⟩ : ∃ I3, I3 = pm_w (pm_w (pm_w (pm_w I2 127 14 0) 127 15 0) 127 16 60) 127 17 8 := ⟨_, rfl⟩
  have e3 : f216 I2 J = some ((), I3, J) := by rw [hI3]; rfl
  have g3 := (fr_216 _ _ _ e3).1
  have m3 : pm_MF c L 0 I3 := by rw [hI3]; exact MF_g (MF_g (MF_g (MF_g m2 (by omega)) (by omega)) (by omega)) (by omega)
  have D3 : pm_MD 0 0 pm_D0 I3 := by
    refine ⟨⟨by omega, by omega⟩, ⟨?_, ?_, ?_, ?_⟩, fun p hp => by omega, fun b hb => by omega⟩
    · rw [hI3, zt_w2 (by omega), zt_w2 (by omega), zt_w2 (by omega), zt_ws]; rfl
    · rw [hI3, zt_w2 (by omega), zt_w2 (by omega), zt_ws]; rfl
    · rw [hI3, zt_w2 (by omega), zt_ws]; rfl
    · rw [hI3, zt_ws]; rfl
  have body : f221 (nI L) I J = f221_44 pm_FU 0 I3 J := by
    unfold f221
    rw [pm_lt_eq, if_neg (show ¬ (nI L).toInt < 0 by rw [nI_toInt (by omega)]; omega), zt_w2 (by omega), h2, if_neg (show ¬ (nI T).toInt < (nI L).toInt by rw [nI_toInt (by omega), nI_toInt (by omega)]; omega), eg, zt_bind]
    dsimp only
    rw [if_pos rfl, e2, zt_bind]
    dsimp only
    rw [e3, zt_bind]
  obtain ⟨a1, a2⟩ := w221 (J := J) (c := c) (L := L) 61 (pm_sk c L 0) 0 0 0 0 pm_FU pm_D0 I3 (by omega) (by omega) (by unfold pm_FU; omega) (by rw [Nat.sub_zero]) m3 D3
  rw [nI_0] at a1 a2
  rw [body]
  have G3 : pm_ag [130, 131] [(127, 0), (127, 2), (127, 3), (127, 4), (127, 5), (127, 6), (127, 7), (127, 8), (127, 14), (127, 15), (127, 16), (127, 17)] I I3 := ag_trans (ag_trans (ag_w ag_refl (by simp)) g2 (by simp) (zt_subF rfl)) g3 (by simp) (zt_subF rfl)
  have y2 : I3 127 2 = nI 0 := by rw [g3 127 2 (by decide) (by decide), z2]; rfl
  have y0 : I3 127 0 = nI 0 := by rw [g3 127 0 (by decide) (by decide), g2 127 0 (by decide) (by decide), zt_ws]; rfl
  refine ⟨fun q p z => ?_, fun n t D z => ?_⟩
  · obtain ⟨I4, e4, p4, g4⟩ := a1 q p z
    exact ⟨I4, e4, p4, by rw [g4 127 2 (by decide) (by decide)]; exact y2, by rw [g4 127 0 (by decide) (by decide)]; exact y0, ag_trans G3 g4 (by simp) (zt_subF rfl)⟩
  · obtain ⟨I4, e4, p4, d4, g4⟩ := a2 n t D z
    obtain ⟨hDR, h9⟩ := rgs_D 61 _ 0 0 0 pm_D0 DR_0.1 DR_0.2 n t D z
    obtain ⟨I5, e5, q1, q2, q3, q4, q5, q6, q7, q8, q9, q10, q11, q12⟩ := e217 (J := J) d4 hDR
    have g5 := (fr_217 _ _ _ e5).1
    refine ⟨I5, ?_, ?_, ?_, ?_, q1, q2, q3, q4, q5, q6, q7, q8, q9, q10, q11, q12, ag_trans (ag_trans (ag_mono G3 (by simp) (zt_subF rfl)) g4 (by simp) (zt_subF rfl)) g5 (zt_sub rfl) (zt_subF rfl)⟩
    · rw [e4, e5, zt_bind]
    · rw [g5 127 8 (by decide) (by decide)]; exact p4
    · rw [g5 127 2 (by decide) (by decide), g4 127 2 (by decide) (by decide)]; exact y2
    · rw [g5 127 0 (by decide) (by decide), g4 127 0 (by decide) (by decide)]; exact y0
theorem K1 {x : Int32} (hRR : pm_RR r k I) (hr : (r = 15 ∧ r2 = 113) ∨ (r = 113 ∧ r2 = 15)) : pm_K2 (fun s => pm_RR (if s = true then r2 else r) k) (fun I J => f172 k r2 x I J) (fun I J => f221 x I J) I J := by
  obtain ⟨n0, t0, D0, l0, k0, l1, k1, h⟩ := hRR
  obtain ⟨c, T, hT, t1, t2, hc1, hc2⟩ := tp_of h.2.2.1
  have hk := h.2.1.1
  have r2c : r2 = 15 ∨ r2 = 113 := by omega
  by_cases bad : x.toInt < 0 ∨ (600 : Int) < x.toInt ∨ (T : Int) < x.toInt
  · obtain ⟨Ia, Ib, n1, n2, n3, n4, n5⟩ := il_x (c := 1) h (Or.inl rfl)
    have n3' : ∀ J, f222 0 1 1 (pm_w Ia 127 0 0) J = some (false, Ib, J) := n3
    refine Or.inr ⟨Ia, J, ?_, aj_refl, fun J' => ⟨0, Ib, ?_, n4, n5⟩⟩
    · show f172 k r2 x I J = _
      have e := e173b (J := J) (M := 600) t1 hT (by omega) bad
      have e' : f173 x 600 I J = some (.inr 2, pm_w I 0 13 (I 0 13 + nI 1), J) := e
      have ea : Ia = pm_w I 0 13 (I 0 13 + nI 1) := by
        have := n1 J
        rw [e174b] at this
        cases this
        rfl
      unfold f172
      rw [e', zt_xr, ea]
    · show f221 x Ia J' = _
      unfold f221
      rw [pm_lt_eq, n3', zt_bind, zt_w2 (by omega), n2, t2, nI_toInt (by omega)]
      dsimp only
      rw [if_neg (show ¬ false = true by decide)]
      by_cases a : x.toInt < 0
      · rw [if_pos a]
      · rw [if_neg a, if_pos (by omega)]
  · obtain ⟨L, hL31, rfl⟩ := zt_i0 (x := x) (fun q => bad (Or.inl q))
    rw [nI_toInt hL31] at bad
    have hLT : L ≤ T := by omega
    obtain ⟨a1, a2⟩ := c_reg (J := J) (k := k) (r2 := r2) t1 hT hLT hc1 r2c hk
    cases z : pm_rgs c L 61 (pm_sk c L 0) 0 0 0 pm_D0 with
    | inl f =>
      obtain ⟨q, p⟩ := f
      obtain ⟨I1, e1, o1, o8, g1⟩ := a1 q p z
      refine Or.inl ⟨(nI q - 10, false), I1, J, e1, aj_refl, fun J' => ?_⟩
      have c127 : I1 127 = I 127 := ag_cell g1 (by simp; omega) (by intro f; simp; omega)
      have c129 : I1 129 = I 129 := ag_cell g1 (by simp; omega) (by intro f; simp; omega)
      obtain ⟨b1, _⟩ := m_reg (I := I1) (J := J') (by rw [c127]; exact t2) hT hLT (by rw [c129]; exact hc2)
      obtain ⟨I2, e2, p8, p2, p0, g2⟩ := b1 q p z
      have c1 : I2 1 = I1 1 := ag_cell g2 (by decide) (by intro f; simp)
      have cc : ∀ a, a ≠ 0 → a ≠ 1 → a ≠ 127 → a ≠ 130 → a ≠ 131 → (a < r2 ∨ r2 + 7 < a) → I2 a = I a := fun a h0 h1 h2 h3 h4 h5 => by
        rw [ag_cell g2 (by simp; omega) (by intro f; simp; omega), ag_cell g1 (by simp; omega) (by intro f; simp; omega)]
      have cf : ∀ f, f = 18 ∨ f = 19 ∨ f = 20 ∨ f = 32 ∨ f = 33 ∨ f = 45 ∨ f = 58 → I2 127 f = I 127 f := fun f hf => by
        rw [g2 127 f (by simp) (by simp; omega), c127]
      have c0 : ∀ f, I2 0 f = I 0 f := fun f => by rw [g2 0 f (by simp) (by simp), g1 0 f (by simp) (by simp; omega)]
      obtain ⟨⟨⟨u1, u2, u3, u4, u5, u6⟩, ⟨v1, v2, v3, v4, v5, v6⟩, hrow, har⟩, hbk, htp, w1, w2, w3⟩ := id h
      refine ⟨I2, e2, p0, ?_⟩
      show pm_RR (if false = true then r2 else r) k I2
      rw [if_neg (by decide)]
      refine R0_R ⟨⟨⟨CR_cell u1 (fun j hj => cc _ (by omega) (by omega) (by omega) (by omega) (by omega) (by omega)), u2, CL_ag u3 (cc _ (by omega) (by omega) (by omega) (by omega) (by omega) (by omega)) (cc _ (by omega) (by omega) (by omega) (by omega) (by omega) (by omega)), CL_ag u4 (cc _ (by omega) (by omega) (by omega) (by omega) (by omega) (by omega)) (cc _ (by omega) (by omega) (by omega) (by omega) (by omega) (by omega)), u5, u6⟩, ⟨MR_cell v1 (cf 18 (by omega)) (cf 19 (by omega)) (cf 20 (by omega)) (cc _ (by omega) (by omega) (by omega) (by omega) (by omega) (by omega)) (cc _ (by omega) (by omega) (by omega) (by omega) (by omega) (by omega)), v2, ML_cell v3 (cc _ (by omega) (by omega) (by omega) (by omega) (by omega) (by omega)) (cc _ (by omega) (by omega) (by omega) (by omega) (by omega) (by omega)) (cc _ (by omega) (by omega) (by omega) (by omega) (by omega) (by omega)), ML_cell v4 (cc _ (by omega) (by omega) (by omega) (by omega) (by omega) (by omega)) (cc _ (by omega) (by omega) (by omega) (by omega) (by omega) (by omega)) (cc _ (by omega) (by omega) (by omega) (by omega) (by omega) (by omega)), v5, v6⟩, row_c hrow (cc _ (by omega) (by omega) (by omega) (by omega) (by omega) (by omega)) (cc _ (by omega) (by omega) (by omega) (by omega) (by omega) (by omega)), ?_⟩, ?_, tp_new (p := nI p) (by rw [c1]; exact o1) p2 (by rw [c1]; exact o8) p8, ?_, ?_, ?_⟩
      · obtain ⟨⟨a, b1, b2, b3, b4⟩, m, y1, y2, y3, y4⟩ := har
        have c23 : I2 23 = I 23 := cc 23 (by omega) (by omega) (by omega) (by omega) (by omega) (by omega)
        refine ⟨⟨a, b1, by rw [c23]; exact b2, by rw [cf 32 (by omega)]; exact b3, fun i hi => row_c (b4 i hi) (cc _ (by omega) (by omega) (by omega) (by omega) (by omega) (by omega)) (by rw [cc 145 (by omega) (by omega) (by omega) (by omega) (by omega) (by omega)])⟩, m, y1, by rw [c23]; exact y2, by rw [cf 58 (by omega)]; exact y3, fun j hj => ?_⟩
        obtain ⟨s, x1, x2, x3, x4, x5⟩ := y4 j hj
        have c156 : I2 156 = I 156 := cc 156 (by omega) (by omega) (by omega) (by omega) (by omega) (by omega)
        refine ⟨s, x1, by rw [cc 93 (by omega) (by omega) (by omega) (by omega) (by omega) (by omega)]; exact x2, by rw [c156]; exact x3, row_c x4 (cc _ (by omega) (by omega) (by omega) (by omega) (by omega) (by omega)) (by rw [c156]), fun i hi => row_c (x5 i hi) (cc _ (by omega) (by omega) (by omega) (by omega) (by omega) (by omega)) (by rw [c156])⟩
      · unfold pm_Rbk
        rw [cc k (by omega) (by omega) (by omega) (by omega) (by omega) (by omega), cc (k + 1) (by omega) (by omega) (by omega) (by omega) (by omega) (by omega), cc (k + 2) (by omega) (by omega) (by omega) (by omega) (by omega) (by omega), cc 147 (by omega) (by omega) (by omega) (by omega) (by omega) (by omega), cf 45 (by omega)]
        exact hbk
      · rw [c0, cf 33 (by omega)]; exact w1
      · rw [c0, cc 128 (by omega) (by omega) (by omega) (by omega) (by omega) (by omega)]; exact w2
      · rw [c0, cc 128 (by omega) (by omega) (by omega) (by omega) (by omega) (by omega)]; exact w3
    | inr f =>
      obtain ⟨n, t, D⟩ := f
      obtain ⟨hDR, h9⟩ := rgs_D 61 _ 0 0 0 pm_D0 DR_0.1 DR_0.2 n t D z
      obtain ⟨I1, e1, o1, o8, cd, cl0, cl1, rw1, rw64, rw65, bk2, x3, x4, x11, g1⟩ := a2 n t D z
      refine Or.inl ⟨(nI n, true), I1, J, e1, aj_refl, fun J' => ?_⟩
      have c127 : I1 127 = I 127 := ag_cell g1 (by simp; omega) (by intro f; simp; omega)
      have c129 : I1 129 = I 129 := ag_cell g1 (by simp; omega) (by intro f; simp; omega)
      obtain ⟨_, b2⟩ := m_reg (I := I1) (J := J') (by rw [c127]; exact t2) hT hLT (by rw [c129]; exact hc2)
      obtain ⟨I2, e2, p8, p2, p0, mr, l138, l1381, y45, y32, y58, y33, s48, s56, sc, s64, s65, g2⟩ := b2 n t D z
      have cc : ∀ a, a < 127 → I2 a = I1 a := fun a ha => ag_cell g2 (by simp; omega) (by intro f; simp; omega)
      obtain ⟨⟨hk2, hn8, ht5⟩, ⟨d7, d8, d9, d10⟩, dn, dt⟩ := cd
      have c0 : ∀ f, f ≠ 11 → I2 0 f = I 0 f := fun f hf => by rw [cc 0 (by omega), g1 0 f (by simp) (by simp; omega)]
      have c128 : I2 128 = I 128 := by rw [ag_cell g2 (by simp) (by intro f; simp), ag_cell g1 (by simp; omega) (by intro f; simp; omega)]
      refine ⟨I2, e2, p0, ?_⟩
      show pm_RR (if true = true then r2 else r) k I2
      rw [if_pos rfl]
      refine ⟨n, t, D, 7, pm_pk, 7, pm_pk, ⟨⟨⟨hk2, by rw [cc r2 (by omega)]; exact d7, by rw [cc r2 (by omega)]; exact d8, by rw [cc r2 (by omega)]; exact d10, hn8, ht5, fun p hp => ?_, fun b hb => ?_⟩, hDR, CL_ag cl0 (cc _ (by omega)) (cc _ (by omega)), CL_ag cl1 (cc _ (by omega)) (cc _ (by omega)), wf_pk, wf_pk⟩, ⟨mr, hDR, Or.inl ⟨l138, rfl, rfl⟩, Or.inl ⟨l1381, rfl, rfl⟩, wf_pk, wf_pk⟩, ⟨⟨fun j hj => ?_, fun p hp => ⟨?_, fun hpn => ?_⟩, ?_, ?_⟩, 0, D 9 0, by omega, h9, ?_, ?_, fun p hp => ⟨⟨0, by omega, ?_⟩, ⟨0, by omega, ?_⟩, ⟨0, by omega, ?_⟩, fun q => ?_⟩⟩, ⟨0, by omega, ?_, y32, fun i hi => by omega⟩, ⟨0, by omega, ?_, y58, fun i hi => by omega⟩⟩, ⟨hk, 0, by omega, ?_, y45, fun i hi => by omega⟩, tp_new (p := -1) ?_ p2 ?_ p8, ?_, ?_, ?_⟩
      · rw [cc _ (by omega), cc _ (by omega), cc _ (by omega)]
        exact ⟨(dn p hp).1, (dn p hp).2.1, (dn p hp).2.2.1⟩
      · rw [cc _ (by omega), cc _ (by omega), cc _ (by omega)]
        exact dt b hb
      · rw [s48 j hj, cc 5 (by omega), rw1 j (by omega)]
        unfold pm_r0
        by_cases q : 8 ≤ j ∧ j < 16
        · rw [if_pos q, if_pos (by omega)]
        · rw [if_neg q, if_neg (by omega), if_neg (by omega)]
      · rw [s56 p hp, cc 5 (by omega), rw1 (56 + p) (by omega)]
        unfold pm_r0
        rw [if_pos (by omega)]
      · rw [sc p hpn, cc 5 (by omega), rw1 (48 + p) (by omega)]
        unfold pm_r0
        rw [if_neg (by omega), if_pos (by omega), show (48 + p) % 8 = p by omega]
        exact (dn p hpn).2.2.2.symm
      · rw [s64, cc 5 (by omega), rw64]
      · rw [s65, cc 5 (by omega), rw65]
      · rw [cc 5 (by omega), rw64]; rfl
      · rw [cc 5 (by omega), rw65]
      · rw [cc 5 (by omega), rw1 p (by omega)]
        unfold pm_r0
        rw [if_neg (by omega), if_neg (by omega)]; rfl
      · rw [cc 5 (by omega), rw1 (16 + p) (by omega)]
        unfold pm_r0
        rw [if_neg (by omega), if_neg (by omega)]; rfl
      · rw [cc 5 (by omega), rw1 (24 + p) (by omega)]
        unfold pm_r0
        rw [if_neg (by omega), if_neg (by omega)]; rfl
      · rw [cc 5 (by omega), rw1 p (by omega)] at q
        unfold pm_r0 at q
        rw [if_neg (by omega), if_neg (by omega), ← nI_0, zt_eq (by omega) (by omega)] at q
        omega
      · rw [cc 23 (by omega)]; exact x3
      · rw [cc 23 (by omega)]; exact x4
      · rw [cc k (by omega)]; exact bk2
      · rw [cc 1 (by omega)]; exact o1
      · rw [cc 1 (by omega)]; exact o8
      · rw [cc 0 (by omega), x11, y33]; rfl
      · rw [c0 12 (by decide), c128]; exact h.2.2.2.2.1
      · rw [c0 13 (by decide), c128]; exact h.2.2.2.2.2
end Rh
