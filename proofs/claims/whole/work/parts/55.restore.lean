/-! RESTORE -/
section Rs
variable {I : Nat → Nat → Int32} {J : Nat → Nat → Int64} {r k : Nat}
theorem l5 {m a : Nat} (hm : m < 3) (ha : a ≤ 16) : ∀ (d i fu : Nat) (I : Nat → Nat → Int32), i + d = a → d < fu → I 23 3 = nI a → f5_66 fu (nI (17 * m + 16)) (nI i) (pm_cpj I m i) J = some ((), pm_cpj I m a, J) := by
  intro d
  induction d with
  | zero =>
    intro i fu I hi hf h3
    obtain ⟨fu, rfl⟩ : ∃ k, fu = k + 1 := ⟨fu - 1, by omega⟩
    have e : i = a := by omega
    subst e
    have m1 : pm_cpj I m i 23 = I 23 := cpj_out (by omega)
    rw [f5_66, m1, h3, if_neg (by omega)]
  | succ d ih =>
    intro i fu I hi hf h3
    obtain ⟨fu, rfl⟩ : ∃ k, fu = k + 1 := ⟨fu - 1, by omega⟩
    have m1 : pm_cpj I m i 23 = I 23 := cpj_out (by omega)
    have s := ih (i + 1) fu I (by omega) (by omega) h3
    have cs := cpj_s (I := I) (m := m) (show i < 16 by omega)
    rw [f5_66]
    simp (disch := omega) only [m1, h3, zt_lit, zt_lt, if_pos, zt_mi, nI_add, zt_in, zt_gd, nI_clamp, Nat.min_self, pm_lt, Nat.add_sub_cancel, cs]
    exact s
theorem e5 {m a : Nat} (hm : m < 3) (ha : a ≤ 16) (h4 : I 23 4 = nI (m + 1)) (h93 : I 93 m = nI a) : f5 I J = some ((), pm_cpj (pm_w (pm_cpw (pm_w I 23 4 (nI m)) (42 + (17 * m + 16)) 5 66) 23 3 (nI a)) m a, J) := by
  have s := l5 (J := J) hm ha a 0 pm_FU (pm_w (pm_cpw (pm_w I 23 4 (nI m)) (42 + (17 * m + 16)) 5 66) 23 3 (nI a)) (by omega) (by unfold pm_FU; omega) zt_ws
  rw [cpj_0, nI_0] at s
  have e0 : I 23 4 - 1 = nI m := by rw [h4, zt_lit 1, zt_mi (by omega)]; rfl
  have e1 : (I 23 4 - 1) * 17 + 16 = nI (17 * m + 16) := by rw [e0, zt_lit 17, zt_lit 16, pk_mul, nI_add, Nat.mul_comm]
  have c4 : pm_cpw (pm_w I 23 4 (nI m)) (42 + (17 * m + 16)) 5 66 23 4 = nI m := by unfold pm_cpw; rw [va_up_ne _ _ (by omega), zt_ws]
  have c93 : pm_cpw (pm_w I 23 4 (nI m)) (42 + (17 * m + 16)) 5 66 93 = I 93 := by unfold pm_cpw; rw [va_up_ne _ _ (by omega), zt_wc (by omega)]
  unfold f5 f105
  rw [e1, e0, zt_lit 16, if_neg (by rw [nI_toInt (by omega), nI_toInt (by omega)]; omega), if_pos (by rw [nI_toInt (by omega), nI_toInt (by omega)]; omega), pm_lt_eq, zt_in (by omega) (by omega), zt_gd, nI_clamp (by omega), pm_lt_eq, zt_bind, Nat.min_self]
  show pm_lt (pm_w (pm_cpw (pm_w I 23 4 (nI m)) (42 + (17 * m + 16)) 5 66) 23 3 (pm_at (pm_cpw (pm_w I 23 4 (nI m)) (42 + (17 * m + 16)) 5 66 93) 3 (pm_cpw (pm_w I 23 4 (nI m)) (42 + (17 * m + 16)) 5 66 23 4))) (fun I9 => f5_66 pm_FU (nI (17 * m + 16)) 0 I9 J) = _
  rw [c4, c93, zt_at (by omega) (by omega), h93, pm_lt_eq]
  exact s
theorem K38 (hRR : pm_RR r k I) : pm_KP r k (fun I J => f169 I J) (fun I J => f327 I J) I J := by
  obtain ⟨n, t, D, l0, k0, l1, k1, h⟩ := hRR
  have h8 := h.1.1.1.2.2.2.2.1
  obtain ⟨_, m, m1, m2, m3, m4⟩ := h.1.2.2.2
  by_cases c : 0 < m
  · obtain ⟨m, rfl⟩ : ∃ j, m = j + 1 := ⟨m - 1, by omega⟩
    obtain ⟨a, d1, d2, d3, d4, d5⟩ := m4 m (by omega)
    generalize hI1 : pm_w (pm_cpj (pm_w (pm_cpw (pm_w I 23 4 (nI m)) (42 + (17 * m + 16)) 5 66) 23 3 (nI a)) m a) 0 11 0 = I1
    have cell : ∀ c, c ≠ 0 → c ≠ 5 → c ≠ 23 → (c < 25 ∨ 41 ≤ c) → I1 c = I c := fun c h1 h2 h3 h4 => by
      rw [← hI1, zt_wc h1, cpj_out (by omega), zt_wc h3]
      unfold pm_cpw
      rw [va_up_ne _ _ h2, zt_wc h3]
    refine ⟨nI m, I1, J, ?_, aj_refl, fun J' => ?_⟩
    · show f169 I J = _
      unfold f169
      rw [m2, if_pos (by rw [nI_toInt (by omega)]; omega), e5 (by omega) d1 m2 d2, zt_bind]
      show pm_lt (pm_w _ 0 11 0) (fun I6 => some (I6 23 4, I6, J)) = _
      rw [pm_lt_eq, hI1, ← hI1, zt_wc (by omega), cpj_out (by omega), zt_wf (by omega)]
      unfold pm_cpw
      rw [va_up_ne _ _ (by omega), zt_ws]
    · have i127 : I1 127 = I 127 := cell 127 (by omega) (by omega) (by omega) (by omega)
      have i143 : I1 143 = I 143 := cell 143 (by omega) (by omega) (by omega) (by omega)
      have i145 : I1 145 = I 145 := cell 145 (by omega) (by omega) (by omega) (by omega)
      have i156 : I1 156 = I 156 := cell 156 (by omega) (by omega) (by omega) (by omega)
      have e1 : f325 (nI m) 0 (pm_w (pm_w I1 127 0 0) 127 58 (nI m)) J' = some ((), pm_w (va_up (va_up (pm_w (pm_w I1 127 0 0) 127 58 (nI m)) 143 (pm_fil (fun z => I 156 (1123 * m + z)) (I 143) 66)) 145 (pm_fil (fun z => I 156 (1123 * m + 66 + z)) (I 145) 1056)) 127 32 (nI a), J') := by
        unfold f325
        rw [zt_lit 1123, pk_mul, zt_lit 66, e326r (by omega) (by omega) (by omega), zt_bind, zt_lit 1056]
        show (f326 (nI (1123 * m + 66)) 145 1056 (nI 1056) 0 _ J').bind _ = _
        rw [e326r (by omega) (by omega) (by omega), zt_bind]
        have d3' : I 156 (1123 * m + 66 + 1056) = nI a := d3
        simp (disch := omega) only [va_up_self, va_up_ne, zt_wc, i143, i145, i156, zt_lit, if_true, zt_in, zt_gd, nI_clamp, pm_lt, d3']
      generalize hI2 : pm_w (pm_w (va_up (va_up (pm_w (pm_w I1 127 0 0) 127 58 (nI m)) 143 (pm_fil (fun z => I 156 (1123 * m + z)) (I 143) 66)) 145 (pm_fil (fun z => I 156 (1123 * m + 66 + z)) (I 145) 1056)) 127 32 (nI a)) 127 33 0 = I2
      have g2 : pm_ag [143, 145] [(127, 0), (127, 58), (127, 32), (127, 33)] I1 I2 := by rw [← hI2]; exact ag_w (ag_w (ag_up (ag_up (ag_w (ag_w ag_refl (by simp)) (by simp)) (by simp)) (by simp)) (by simp)) (by simp)
      refine ⟨I2, ?_, ?_⟩
      · show f327 I1 J' = _
        unfold f327
        have q : nI (m + 1) - 1 = nI m := zt_mi (a := m + 1) (b := 1) (by omega)
        rw [pm_lt_eq, zt_w2 (by omega), i127, m3, if_neg (by rw [zt_lit 0, nI_eq (by omega) (by omega)]; omega), pm_lt_eq, q, zt_ws, e1, zt_bind]
        show pm_lt (pm_w _ 127 33 0) (fun I8 => some (I8 127 58, I8, J')) = _
        rw [pm_lt_eq, hI2, ← hI2, zt_w2 (by omega), zt_w2 (by omega), va_up_ne _ _ (by omega), va_up_ne _ _ (by omega), zt_ws]
      · have fin : ∀ c, c ≠ 143 → c ≠ 145 → c ≠ 127 → I2 c = I1 c := fun c h1 h2 h3 => ag_cell g2 (by simp; omega) (by intro f; simp; omega)
        have all : ∀ c, c ≠ 0 → c ≠ 5 → c ≠ 23 → (c < 25 ∨ 41 ≤ c) → c ≠ 143 → c ≠ 145 → c ≠ 127 → I2 c = I c := fun c h1 h2 h3 h4 h5 h6 h7 => by rw [fin c h5 h6 h7]; exact cell c h1 h2 h3 h4
        have f127 : ∀ f, f ≠ 0 → f ≠ 58 → f ≠ 32 → f ≠ 33 → I2 127 f = I 127 f := fun f h1 h2 h3 h4 => by rw [g2 127 f (by simp) (by simp; omega), i127]
        have f0 : ∀ f, f ≠ 11 → I2 0 f = I 0 f := fun f hf => by
          rw [fin 0 (by omega) (by omega) (by omega), ← hI1, zt_wf hf, cpj_out (by omega), zt_wc (by omega)]
          unfold pm_cpw
          rw [va_up_ne _ _ (by omega), zt_wc (by omega)]
        have ag : pm_ag [5, 23, 25, 26, 27, 28, 29, 30, 31, 32, 33, 34, 35, 36, 37, 38, 39, 40, 143, 145] [(0, 11), (127, 0), (127, 58), (127, 32), (127, 33)] I I2 := by
          intro c f hc hf
          simp only [List.mem_cons, List.not_mem_nil, or_false, Prod.mk.injEq] at hc hf
          by_cases e : c = 127
          · subst e; exact f127 f (by omega) (by omega) (by omega) (by omega)
          · by_cases e0 : c = 0
            · subst e0; exact f0 f (by omega)
            · rw [all c e0 (by omega) (by omega) (by omega) (by omega) (by omega) e]
        have r5 : ∀ i, i < 66 → I2 5 i = I (42 + (17 * m + 16)) i := fun i hi => by
          rw [fin 5 (by omega) (by omega) (by omega), ← hI1, zt_wc (by omega), cpj_out (by omega), zt_wc (by omega)]
          unfold pm_cpw va_cpy
          rw [va_up_self, if_pos (by omega), zt_wc (by omega)]
          congr 1
          omega
        have r143 : ∀ i, i < 66 → I2 143 i = I 156 (1123 * m + i) := fun i hi => by
          rw [← hI2, zt_wc (by omega), zt_wc (by omega), va_up_ne _ _ (by omega), va_up_self, fil_in hi]
        refine R0_R (r := r) (k := k) (n := n) (t := t) (D := D) (l0 := l0) (k0 := k0) (l1 := l1) (k1 := k1) ⟨⟨CQ_ag h.1.1 ag (by decide), MQ_ag h.1.2.1 ag (by decide), row_eq h8 d4 r5 r143, ?_⟩, Rbk_ag h.2.1 ag (by decide), Rtp_ag h.2.2.1 ag (by decide), ?_, ?_, ?_⟩
        · have j156 := all 156 (by omega) (by omega) (by omega) (by omega) (by omega) (by omega) (by omega)
          refine ⟨⟨a, d1, ?_, ?_, fun i hi => row_eq h8 (d5 i hi) (fun z hz => ?_) (fun z hz => ?_)⟩, m, by omega, ?_, ?_, fun j hj => ?_⟩
          · rw [fin 23 (by omega) (by omega) (by omega), ← hI1, zt_wc (by omega), cpj_out (by omega), zt_ws]
          · rw [← hI2, zt_w2 (by omega), zt_ws]
          · rw [fin _ (by omega) (by omega) (by omega), ← hI1, zt_wc (by omega), cpj_in hi hz, zt_wc (by omega)]
            unfold pm_cpw
            rw [va_up_ne _ _ (by omega), zt_wc (by omega)]
          · show I2 145 (66 * i + z) = I 156 (1123 * m + (66 + (66 * i + z)))
            rw [← hI2, zt_wc (by omega), zt_wc (by omega), va_up_self, fil_in (by omega)]
            congr 1
            omega
          · rw [fin 23 (by omega) (by omega) (by omega), ← hI1, zt_wc (by omega), cpj_out (by omega), zt_wf (by omega)]
            unfold pm_cpw
            rw [va_up_ne _ _ (by omega), zt_ws]
          · rw [← hI2, zt_w2 (by omega), zt_w2 (by omega), va_up_ne _ _ (by omega), va_up_ne _ _ (by omega), zt_ws]
          · obtain ⟨c', b1, b2, b3, b4, b5⟩ := m4 j (by omega)
            have ac := fun c (h : 41 ≤ c ∧ c ≤ 93) => all c (by omega) (by omega) (by omega) (by omega) (by omega) (by omega) (by omega)
            exact ⟨c', b1, by rw [ac 93 (by omega)]; exact b2, by rw [j156]; exact b3, row_c b4 (ac _ (by omega)) (by rw [j156]), fun i hi => row_c (b5 i hi) (ac _ (by omega)) (by rw [j156])⟩
        · rw [fin 0 (by omega) (by omega) (by omega), ← hI1, zt_ws, ← hI2, zt_ws]
        · rw [ag 0 12 (by decide) (by decide), ag 128 0 (by decide) (by decide)]; exact h.2.2.2.2.1
        · rw [ag 0 13 (by decide) (by decide), ag 128 1 (by decide) (by decide)]; exact h.2.2.2.2.2
  · have e : m = 0 := by omega
    subst e
    refine ⟨-1, I, J, ?_, aj_refl, fun J' => ⟨pm_w I 127 0 0, ?_, R0_R (R0_t0 h)⟩⟩
    · show f169 I J = _
      unfold f169
      rw [m2, if_neg (by decide)]
    · show f327 I J' = _
      unfold f327
      rw [pm_lt_eq, zt_w2 (by omega), m3, if_pos (by decide)]
end Rs
