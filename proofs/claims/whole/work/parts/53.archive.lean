/-! UNDO, IMAGE, RESTORE -/
theorem row_eq {n : Nat} {v w v' w' : Nat → Int32} (h8 : n ≤ 8) (h : pm_row n v w) (hv : ∀ i, i < 66 → v' i = v i) (hw : ∀ i, i < 66 → w' i = w i) : pm_row n v' w' := by
  obtain ⟨⟨m1, m2, m3, m4⟩, wk, st, a1, a2, a3, a4, a5⟩ := h
  refine ⟨⟨fun i hi => by rw [hw i (by omega), hv i (by omega)]; exact m1 i hi, fun p hp => ?_, by rw [hw 64 (by omega), hv 64 (by omega)]; exact m3, by rw [hw 65 (by omega), hv 65 (by omega)]; exact m4⟩, wk, st, a1, a2, by rw [hv 64 (by omega)]; exact a3, by rw [hv 65 (by omega)]; exact a4, fun p hp => ?_⟩
  · rw [hw _ (by omega), hv _ (by omega), hw _ (by omega), hv _ (by omega)]; exact m2 p hp
  · rw [hv p (by omega), hv (16 + p) (by omega), hv (24 + p) (by omega), hv (56 + p) (by omega)]; exact a5 p hp
theorem Rbk_ag {k : Nat} {I I' : Nat → Nat → Int32} {A : List Nat} {F : List (Nat × Nat)} (h : pm_Rbk k I) (g : pm_ag A F I I') (ok : pm_okA [121, 122, 123, 124, 125, 126, 147] [(127, 45)] A F = true) : pm_Rbk k I' := by
  obtain ⟨q, q2⟩ := ag_p ok g
  obtain ⟨hk, b, b1, b2, b3, b4⟩ := h
  have e0 : I' k = I k := q _ (by rcases hk with rfl | rfl <;> decide)
  have e1 : I' (k + 1) = I (k + 1) := q _ (by rcases hk with rfl | rfl <;> decide)
  have e2 : I' (k + 2) = I (k + 2) := q _ (by rcases hk with rfl | rfl <;> decide)
  unfold pm_Rbk
  rw [e0, e1, e2, q 147 (by decide), q2 127 45 (by decide)]
  exact ⟨hk, b, b1, b2, b3, b4⟩
theorem Rtp_ag {I I' : Nat → Nat → Int32} {A : List Nat} {F : List (Nat × Nat)} (h : pm_Rtp I) (g : pm_ag A F I I') (ok : pm_okA [2, 129] [(1, 1), (1, 8), (127, 2), (127, 8)] A F = true) : pm_Rtp I' := by
  obtain ⟨q, q2⟩ := ag_p ok g
  unfold pm_Rtp
  rw [q2 1 1 (by decide), q2 1 8 (by decide), q2 127 2 (by decide), q2 127 8 (by decide), q 2 (by decide), q 129 (by decide)]
  exact h
/-- the archive, by what it reads -/
theorem Rar_c {n : Nat} {I I' : Nat → Nat → Int32} (h : pm_Rar n I) (h1 : ∀ c, (25 ≤ c ∧ c ≤ 93) → I' c = I c) (h2 : I' 23 3 = I 23 3) (h3 : I' 23 4 = I 23 4) (h4 : I' 127 32 = I 127 32) (h5 : I' 127 58 = I 127 58) (h6 : I' 145 = I 145) (h7 : I' 156 = I 156) : pm_Rar n I' := by
  obtain ⟨⟨a, a1, a2, a3, a4⟩, m, e1, e2, e3, e4⟩ := h
  refine ⟨⟨a, a1, by rw [h2]; exact a2, by rw [h4]; exact a3, fun i hi => row_c (a4 i hi) (h1 _ (by omega)) (by rw [h6])⟩, m, e1, by rw [h3]; exact e2, by rw [h5]; exact e3, fun j hj => ?_⟩
  obtain ⟨c, d1, d2, d3, d4, d5⟩ := e4 j hj
  exact ⟨c, d1, by rw [h1 93 (by omega)]; exact d2, by rw [h7]; exact d3, row_c d4 (h1 _ (by omega)) (by rw [h7]), fun i hi => row_c (d5 i hi) (h1 _ (by omega)) (by rw [h7])⟩
section Ar
variable {I : Nat → Nat → Int32} {J : Nat → Nat → Int64} {r k : Nat}
theorem l274 {b : Nat} (hb : b < 16) : ∀ (d j fu : Nat) (I : Nat → Nat → Int32), j + d = 66 → d < fu → I 127 32 = nI b → f274_26 fu (nI j) (va_up I 143 (pm_fil (fun q => I 145 (66 * b + q)) (I 143) j)) J = some (nI b, pm_w (va_up I 143 (pm_fil (fun q => I 145 (66 * b + q)) (I 143) 66)) 127 33 0, J) := by
  intro d
  induction d with
  | zero =>
    intro j fu I hj hf h32
    obtain ⟨fu, rfl⟩ : ∃ k, fu = k + 1 := ⟨fu - 1, by omega⟩
    have e : j = 66 := by omega
    subst e
    rw [f274_26, zt_lit 66, if_neg (by omega), pm_lt_eq, zt_w2 (by omega), va_up_ne _ _ (by omega), h32]
  | succ d ih =>
    intro j fu I hj hf h32
    obtain ⟨fu, rfl⟩ : ∃ k, fu = k + 1 := ⟨fu - 1, by omega⟩
    have s := ih (j + 1) fu I (by omega) (by omega) h32
    have m1 := va_up_ne I (pm_fil (fun q => I 145 (66 * b + q)) (I 143) j) (show 127 ≠ 143 by omega)
    have m2 := va_up_ne I (pm_fil (fun q => I 145 (66 * b + q)) (I 143) j) (show 145 ≠ 143 by omega)
    have fs : upd (pm_fil (fun q => I 145 (66 * b + q)) (I 143) j) j (I 145 (66 * b + j)) = pm_fil (fun q => I 145 (66 * b + q)) (I 143) (j + 1) := fil_s (f := fun q => I 145 (66 * b + q))
    rw [f274_26]
    simp (disch := omega) only [zt_lit, zt_lt, if_pos, m1, m2, h32, pk_mul, nI_add, zt_in, zt_gd, nI_clamp, pm_lt, w_up, fs]
    exact s
theorem K6 (hRR : pm_RR r k I) : pm_KP r k (fun I J => f163 I J) (fun I J => f274 I J) I J := by
  obtain ⟨n, t, D, l0, k0, l1, k1, h⟩ := hRR
  have h8 := h.1.1.1.2.2.2.2.1
  obtain ⟨⟨a, a1, a2, a3, a4⟩, hm⟩ := h.1.2.2.2
  by_cases c : 0 < a
  · have b1 : a - 1 < 16 := by omega
    refine ⟨nI (a - 1), pm_w (pm_cpw (pm_w I 23 3 (nI (a - 1))) (25 + (a - 1)) 5 66) 0 11 0, J, ?_, aj_refl, fun J' => ?_⟩
    · show f163 I J = _
      have e : f2 I J = some ((), pm_cpw (pm_w I 23 3 (nI (a - 1))) (25 + (a - 1)) 5 66, J) := by
        unfold f2 f105
        simp (disch := omega) only [a2, zt_lt0, c, if_true, zt_lt, if_neg, zt_lit, zt_mi, pm_lt, zt_ws, zt_in, zt_gd, nI_clamp, Nat.min_self, zt_bind]
      unfold f163
      rw [a2, if_pos (by rw [nI_toInt (by omega)]; omega), e, zt_bind]
      show pm_lt (pm_w (pm_cpw (pm_w I 23 3 (nI (a - 1))) (25 + (a - 1)) 5 66) 0 11 0) (fun I6 => some (I6 23 3, I6, J)) = _
      rw [pm_lt_eq, zt_wc (by omega)]
      unfold pm_cpw
      rw [va_up_ne _ _ (by omega), zt_ws]
    · generalize hI1 : pm_w (pm_cpw (pm_w I 23 3 (nI (a - 1))) (25 + (a - 1)) 5 66) 0 11 0 = I1
      have g1 : pm_ag [5] [(23, 3), (0, 11)] I I1 := by rw [← hI1]; exact ag_w (ag_cp (ag_w ag_refl (by simp)) (by simp)) (by simp)
      have s := l274 (J := J') b1 66 0 pm_FU (pm_w (pm_w I1 127 0 0) 127 32 (nI (a - 1))) (by omega) (by unfold pm_FU; omega) zt_ws
      rw [fil_0, va_same] at s
      generalize hI2 : pm_w (va_up (pm_w (pm_w I1 127 0 0) 127 32 (nI (a - 1))) 143 (pm_fil (fun q => pm_w (pm_w I1 127 0 0) 127 32 (nI (a - 1)) 145 (66 * (a - 1) + q)) (pm_w (pm_w I1 127 0 0) 127 32 (nI (a - 1)) 143) 66)) 127 33 0 = I2 at s
      have g2 : pm_ag [143] [(127, 0), (127, 32), (127, 33)] I1 I2 := by rw [← hI2]; exact ag_w (ag_up (ag_w (ag_w ag_refl (by simp)) (by simp)) (by simp)) (by simp)
      have g : pm_ag [5, 143] [(23, 3), (0, 11), (127, 0), (127, 32), (127, 33)] I I2 := ag_trans (ag_mono g1 (zt_sub rfl) (zt_subF rfl)) g2 (zt_sub rfl) (zt_subF rfl)
      refine ⟨I2, ?_, ?_⟩
      · show f274 I1 J' = _
        unfold f274
        have i32 : I1 127 32 = nI a := by rw [g1 127 32 (by decide) (by decide)]; exact a3
        rw [pm_lt_eq, zt_w2 (by omega), i32, if_neg (by rw [zt_lit 0, nI_eq (by omega) (by omega)]; omega), pm_lt_eq]
        have q : nI a - 1 = nI (a - 1) := zt_mi (b := 1) (by omega)
        rw [q]
        rw [nI_0] at s
        exact s
      · have r5 : ∀ i, i < 66 → I2 5 i = I (25 + (a - 1)) i := fun i hi => by
          rw [ag_cell g2 (by decide) (by intro f; simp), ← hI1, zt_wc (by omega)]
          unfold pm_cpw va_cpy
          rw [va_up_self, if_pos (by omega), zt_wc (by omega)]
          congr 1
          omega
        have r143 : ∀ i, i < 66 → I2 143 i = I 145 (66 * (a - 1) + i) := fun i hi => by
          rw [← hI2, zt_wc (by omega), va_up_self, fil_in hi, zt_wc (by omega), zt_wc (by omega), ag_cell g1 (by decide) (by intro f; simp)]
        have cc : ∀ c, (25 ≤ c ∧ c ≤ 93) → I2 c = I c := fun c hc => ag_cell g (by simp; omega) (by intro f; simp; omega)
        refine R0_R (r := r) (k := k) (n := n) (t := t) (D := D) (l0 := l0) (k0 := k0) (l1 := l1) (k1 := k1) ⟨⟨CQ_ag h.1.1 g (by decide), MQ_ag h.1.2.1 g (by decide), row_eq h8 (a4 (a - 1) (by omega)) r5 r143, ?_⟩, Rbk_ag h.2.1 g (by decide), Rtp_ag h.2.2.1 g (by decide), ?_, ?_, ?_⟩
        · obtain ⟨m, e1, e2, e3, e4⟩ := hm
          have i1 : I2 145 = I 145 := ag_cell g (by decide) (by intro f; simp)
          have i2 : I2 156 = I 156 := ag_cell g (by decide) (by intro f; simp)
          refine ⟨⟨a - 1, by omega, ?_, ?_, fun i hi => row_c (a4 i (by omega)) (cc _ (by omega)) (by rw [i1])⟩, m, e1, by rw [g 23 4 (by decide) (by decide)]; exact e2, by rw [g 127 58 (by decide) (by decide)]; exact e3, fun j hj => ?_⟩
          · rw [g2 23 3 (by decide) (by decide), ← hI1, zt_wc (by omega)]
            unfold pm_cpw
            rw [va_up_ne _ _ (by omega), zt_ws]
          · rw [← hI2, zt_w2 (by omega), va_up_ne _ _ (by omega), zt_ws]
          · obtain ⟨c, d1, d2, d3, d4, d5⟩ := e4 j hj
            exact ⟨c, d1, by rw [cc 93 (by omega)]; exact d2, by rw [i2]; exact d3, row_c d4 (cc _ (by omega)) (by rw [i2]), fun i hi => row_c (d5 i hi) (cc _ (by omega)) (by rw [i2])⟩
        · rw [g2 0 11 (by decide) (by decide), ← hI1, zt_ws, ← hI2, zt_ws]
        · rw [g 0 12 (by decide) (by decide), g 128 0 (by decide) (by decide)]; exact h.2.2.2.2.1
        · rw [g 0 13 (by decide) (by decide), g 128 1 (by decide) (by decide)]; exact h.2.2.2.2.2
  · have e : a = 0 := by omega
    subst e
    refine ⟨-1, I, J, ?_, aj_refl, fun J' => ⟨pm_w I 127 0 0, ?_, R0_R (R0_t0 h)⟩⟩
    · show f163 I J = _
      unfold f163
      rw [a2, if_neg (by decide)]
    · show f274 I J' = _
      unfold f274
      rw [pm_lt_eq, zt_w2 (by omega), a3, if_pos (by decide)]
end Ar
