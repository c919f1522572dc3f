/-! FEED -/
def pm_b4 (x : Int32) (j : Nat) : Nat := x.toBitVec.toNat / 2 ^ (24 - 8 * j) % 256
theorem b4_lt (x : Int32) (j : Nat) : pm_b4 x j < 256 := Nat.mod_lt _ (by omega)
theorem b4_bv (x : BitVec 32) (s : Nat) (hs : s ≤ 24) : x.sshiftRight s &&& 255#32 = (x >>> s) &&& 255#32 := by
  have z : ∀ i, i < 32 → 8 ≤ i → (255#32).getLsbD i = false := by decide
  apply BitVec.eq_of_getLsbD_eq
  intro i hi
  rw [BitVec.getLsbD_and, BitVec.getLsbD_and, BitVec.getLsbD_sshiftRight, BitVec.getLsbD_ushiftRight]
  by_cases c : 8 ≤ i
  · rw [z i hi c, Bool.and_false, Bool.and_false]
  · rw [if_pos (by omega), decide_eq_false (show ¬ 32 ≤ i by omega)]
    rfl
theorem b4_t (x : BitVec 32) (s : Nat) : ((x >>> s) &&& 255#32).toNat = (BitVec.ofNat 32 (x.toNat / 2 ^ s % 256)).toNat := by
  rw [BitVec.toNat_and, BitVec.toNat_ushiftRight, BitVec.toNat_ofNat, Nat.shiftRight_eq_div_pow]
  show x.toNat / 2 ^ s &&& (2 ^ 8 - 1) = _
  rw [Nat.and_two_pow_sub_one_eq_mod, BitVec.toNat_ofNat]
  omega
theorem b4_c (x : Int32) {j : Nat} (hj : j < 4) : ((x.toUInt32 >>> ((nI (24 - 8 * j)).toUInt32 &&& Int32.toUInt32 31)).toInt32) &&& 255 = nI (pm_b4 x j) := by
  apply Int32.toBitVec_inj.mp
  apply BitVec.eq_of_toNat_eq
  have c : j = 0 ∨ j = 1 ∨ j = 2 ∨ j = 3 := by omega
  rcases c with rfl | rfl | rfl | rfl
  · exact b4_t x.toBitVec 24
  · exact b4_t x.toBitVec 16
  · exact b4_t x.toBitVec 8
  · exact b4_t x.toBitVec 0
theorem b4_m (x : Int32) {j : Nat} (hj : j < 4) : (x >>> (nI (24 - 8 * j) &&& 31)) &&& 255 = nI (pm_b4 x j) := by
  apply Int32.toBitVec_inj.mp
  apply BitVec.eq_of_toNat_eq
  have c : j = 0 ∨ j = 1 ∨ j = 2 ∨ j = 3 := by omega
  rcases c with rfl | rfl | rfl | rfl
  · show (x.toBitVec.sshiftRight 24 &&& 255#32).toNat = _
    rw [b4_bv _ _ (by omega)]
    exact b4_t x.toBitVec 24
  · show (x.toBitVec.sshiftRight 16 &&& 255#32).toNat = _
    rw [b4_bv _ _ (by omega)]
    exact b4_t x.toBitVec 16
  · show (x.toBitVec.sshiftRight 8 &&& 255#32).toNat = _
    rw [b4_bv _ _ (by omega)]
    exact b4_t x.toBitVec 8
  · show (x.toBitVec.sshiftRight 0 &&& 255#32).toNat = _
    rw [b4_bv _ _ (by omega)]
    exact b4_t x.toBitVec 0
section Fd
variable {I : Nat → Nat → Int32} {J : Nat → Nat → Int64} {r k : Nat}
theorem l124 {x : Int32} {L : Nat} (hL : L + 4 ≤ 600) : ∀ (d j fu : Nat) (I : Nat → Nat → Int32), j + d = 4 → d < fu → I 1 1 = nI (L + j) → (∀ i, i < j → I 2 (L + i) = nI (pm_b4 x i)) → ∃ I', f124_3 fu x (if j < 4 then nI (24 - 8 * j) else -8) I J = some ((), I', J) ∧ I' 1 1 = nI (L + 4) ∧ (∀ i, i < 4 → I' 2 (L + i) = nI (pm_b4 x i)) ∧ (∀ i, i < L → I' 2 i = I 2 i) := by
  intro d
  induction d with
  | zero =>
    intro j fu I hj hf h1 h2
    obtain ⟨fu, rfl⟩ : ∃ k, fu = k + 1 := ⟨fu - 1, by omega⟩
    have e : j = 4 := by omega
    subst e
    refine ⟨I, ?_, h1, h2, fun _ _ => rfl⟩
    rw [if_neg (by omega), f124_3, if_pos (by decide)]
  | succ d ih =>
    intro j fu I hj hf h1 h2
    obtain ⟨fu, rfl⟩ : ∃ k, fu = k + 1 := ⟨fu - 1, by omega⟩
    obtain ⟨I', r1, r2, r3, r4⟩ := ih (j + 1) fu (pm_w (pm_w I 2 (L + j) (nI (pm_b4 x j))) 1 1 (nI (L + (j + 1)))) (by omega) (by omega) zt_ws (fun i hi => by
      rw [zt_wc (by omega), zt_wr]
      by_cases e : i = j
      · subst e; exact zt_us
      · rw [zt_un (by omega)]; exact h2 i (by omega))
    refine ⟨I', ?_, r2, r3, fun i hi => ?_⟩
    · have nx : nI (24 - 8 * j) + (-8) = if j + 1 < 4 then nI (24 - 8 * (j + 1)) else -8 := by
        have c : j = 0 ∨ j = 1 ∨ j = 2 ∨ j = 3 := by omega
        rcases c with rfl | rfl | rfl | rfl <;> decide
      rw [if_pos (by omega), f124_3, if_neg (by rw [nI_toInt (by omega)]; omega), h1, if_pos (by rw [nI_toInt (by omega), nI_toInt (by omega)]; omega), b4_c x (by omega), zt_pw (by omega) (by omega), pm_lt_eq, zt_wc (by omega), h1, nI_1, pm_lt_eq, nx]
      exact r1
    · rw [r4 i hi, zt_wc (by omega), zt_wf (by omega)]
theorem e124 {x : Int32} {L : Nat} (hL : L + 4 ≤ 600) (h1 : I 1 1 = nI L) : ∃ I', f124 x I J = some ((), I', J) ∧ I' 1 1 = nI (L + 4) ∧ (∀ i, i < 4 → I' 2 (L + i) = nI (pm_b4 x i)) ∧ (∀ i, i < L → I' 2 i = I 2 i) := by
  obtain ⟨I', r1, r2⟩ := l124 (J := J) (x := x) hL 4 0 pm_FU I (by omega) (by unfold pm_FU; omega) h1 (fun i hi => by omega)
  exact ⟨I', r1, r2⟩
def pm_xk (x1 x2 x3 x4 x5 : Int32) (i : Nat) : Int32 := if i < 4 then x1 else if i < 8 then x2 else if i < 12 then x3 else if i < 16 then x4 else x5
theorem e161 {x1 x2 x3 x4 x5 : Int32} {L : Nat} (hL : L + 20 ≤ 600) (h1 : I 1 1 = nI L) : ∃ I', f161 x1 x2 x3 x4 x5 I J = some (nI (L + 20), I', J) ∧ I' 1 1 = nI (L + 20) ∧ (∀ i, i < 20 → I' 2 (L + i) = nI (pm_b4 (pm_xk x1 x2 x3 x4 x5 i) (i % 4))) ∧ (∀ i, i < L → I' 2 i = I 2 i) := by
  obtain ⟨I1, a1, a2, a3, a4⟩ := e124 (J := J) (x := x1) (L := L) (by omega) h1
  obtain ⟨I2, b1, b2, b3, b4⟩ := e124 (J := J) (x := x2) (L := L + 4) (by omega) a2
  obtain ⟨I3, c1, c2, c3, c4⟩ := e124 (J := J) (x := x3) (L := L + 4 + 4) (by omega) b2
  obtain ⟨I4, d1, d2, d3, d4⟩ := e124 (J := J) (x := x4) (L := L + 4 + 4 + 4) (by omega) c2
  obtain ⟨I5, f1, f2, f3, f4⟩ := e124 (J := J) (x := x5) (L := L + 4 + 4 + 4 + 4) (by omega) d2
  refine ⟨I5, ?_, f2, fun i hi => ?_, fun i hi => ?_⟩
  · unfold f161
    rw [h1, zt_lit 20, zt_lit 600, nI_add, if_neg (by rw [nI_toInt (by omega), nI_toInt (by omega)]; omega)]
    simp only [a1, b1, c1, d1, f1, zt_bind]
    rw [f2]
  · unfold pm_xk
    by_cases q1 : i < 4
    · rw [if_pos q1, f4 _ (by omega), d4 _ (by omega), c4 _ (by omega), b4 _ (by omega), a3 i q1, Nat.mod_eq_of_lt q1]
    · rw [if_neg q1]
      by_cases q2 : i < 8
      · rw [if_pos q2, f4 _ (by omega), d4 _ (by omega), c4 _ (by omega), show L + i = L + 4 + (i % 4) by omega, b3 _ (by omega)]
      · rw [if_neg q2]
        by_cases q3 : i < 12
        · rw [if_pos q3, f4 _ (by omega), d4 _ (by omega), show L + i = L + 4 + 4 + (i % 4) by omega, c3 _ (by omega)]
        · rw [if_neg q3]
          by_cases q4 : i < 16
          · rw [if_pos q4, f4 _ (by omega), show L + i = L + 4 + 4 + 4 + (i % 4) by omega, d3 _ (by omega)]
          · rw [if_neg q4, show L + i = L + 4 + 4 + 4 + 4 + (i % 4) by omega, f3 _ (by omega)]
  · rw [f4 _ (by omega), d4 _ (by omega), c4 _ (by omega), b4 _ (by omega), a4 _ hi]
theorem l219 {x1 x2 x3 x4 x5 : Int32} {L : Nat} (hL : L + 20 ≤ 600) : ∀ (d j fu : Nat) (I : Nat → Nat → Int32), j + d = 20 → d < fu → I 127 2 = nI (L + j) → (∀ i, i < j → I 129 (L + i) = nI (pm_b4 (pm_xk x1 x2 x3 x4 x5 i) (i % 4))) → ∃ I', f219_23 fu x1 x2 x3 x4 x5 (nI j) I J = some (nI (L + 20), I', J) ∧ I' 127 2 = nI (L + 20) ∧ (∀ i, i < 20 → I' 129 (L + i) = nI (pm_b4 (pm_xk x1 x2 x3 x4 x5 i) (i % 4))) ∧ (∀ i, i < L → I' 129 i = I 129 i) := by
  intro d
  induction d with
  | zero =>
    intro j fu I hj hf h1 h2
    obtain ⟨fu, rfl⟩ : ∃ k, fu = k + 1 := ⟨fu - 1, by omega⟩
    have e : j = 20 := by omega
    subst e
    refine ⟨I, ?_, h1, h2, fun _ _ => rfl⟩
    rw [f219_23, zt_lit 20, if_neg (by omega), h1]
  | succ d ih =>
    intro j fu I hj hf h1 h2
    obtain ⟨fu, rfl⟩ : ∃ k, fu = k + 1 := ⟨fu - 1, by omega⟩
    obtain ⟨I', r1, r2, r3, r4⟩ := ih (j + 1) fu (pm_w (pm_w I 129 (L + j) (nI (pm_b4 (pm_xk x1 x2 x3 x4 x5 j) (j % 4)))) 127 2 (nI (L + (j + 1)))) (by omega) (by omega) zt_ws (fun i hi => by
      rw [zt_wc (by omega), zt_wr]
      by_cases e : i = j
      · subst e; exact zt_us
      · rw [zt_un (by omega)]; exact h2 i (by omega))
    refine ⟨I', ?_, r2, r3, fun i hi => ?_⟩
    · have sh : (24 : Int32) - 8 * (nI j - nI j / 4 * 4) = nI (24 - 8 * (j % 4)) := by
        rw [zt_lit 4, pk_rem (by omega) (by omega) (by omega), zt_lit 8, pk_mul, zt_lit 24, zt_mi (by omega)]
      have bm := fun x => b4_m x (show j % 4 < 4 by omega)
      rw [f219_23, sh]
      simp only [bm]
      unfold pm_xk at r1
      by_cases q1 : j < 4
      · rw [if_pos q1] at r1
        simp (disch := omega) only [h1, zt_lit, zt_lt, if_pos, zt_in, zt_gd, nI_clamp, pm_lt, zt_w2, nI_add]
        exact r1
      · rw [if_neg q1] at r1
        by_cases q2 : j < 8
        · rw [if_pos q2] at r1
          simp (disch := omega) only [h1, zt_lit, zt_lt, if_pos, if_neg, zt_in, zt_gd, nI_clamp, pm_lt, zt_w2, nI_add]
          exact r1
        · rw [if_neg q2] at r1
          by_cases q3 : j < 12
          · rw [if_pos q3] at r1
            simp (disch := omega) only [h1, zt_lit, zt_lt, if_pos, if_neg, zt_in, zt_gd, nI_clamp, pm_lt, zt_w2, nI_add]
            exact r1
          · rw [if_neg q3] at r1
            by_cases q4 : j < 16
            · rw [if_pos q4] at r1
              simp (disch := omega) only [h1, zt_lit, zt_lt, if_pos, if_neg, zt_in, zt_gd, nI_clamp, pm_lt, zt_w2, nI_add]
              exact r1
            · rw [if_neg q4] at r1
              simp (disch := omega) only [h1, zt_lit, zt_lt, if_pos, if_neg, zt_in, zt_gd, nI_clamp, pm_lt, zt_w2, nI_add]
              exact r1
    · rw [r4 i hi, zt_wc (by omega), zt_wf (by omega)]
theorem K0 {x1 x2 x3 x4 x5 : Int32} (hRR : pm_RR r k I) : pm_KP r k (fun I J => f161 x1 x2 x3 x4 x5 I J) (fun I J => f219 x1 x2 x3 x4 x5 I J) I J := by
  obtain ⟨n, t, D, l0, k0, l1, k1, h⟩ := hRR
  obtain ⟨⟨L, t1, t2, t3, t4⟩, t5⟩ := h.2.2.1
  by_cases c : L + 20 ≤ 600
  · obtain ⟨I1, e1, a1, a2, a3⟩ := e161 (J := J) (x1 := x1) (x2 := x2) (x3 := x3) (x4 := x4) (x5 := x5) c t2
    have g1 := (fr_161 _ _ _ e1).1
    refine ⟨nI (L + 20), I1, J, e1, aj_refl, fun J' => ?_⟩
    have i2 : I1 127 2 = nI L := by rw [g1 127 2 (by decide) (by decide)]; exact t3
    obtain ⟨I2, e2, b1, b2, b3⟩ := l219 (J := J') (x1 := x1) (x2 := x2) (x3 := x3) (x4 := x4) (x5 := x5) c 20 0 pm_FU (pm_w I1 127 0 0) (by omega) (by unfold pm_FU; omega) (by rw [zt_w2 (by omega)]; exact i2) (fun i hi => by omega)
    have ef : f219 x1 x2 x3 x4 x5 I1 J' = some (nI (L + 20), I2, J') := by
      unfold f219
      rw [pm_lt_eq, zt_w2 (by omega), i2, zt_lit 20, zt_lit 600, nI_add, if_neg (by rw [nI_toInt (by omega), nI_toInt (by omega)]; omega)]
      rw [nI_0] at e2
      exact e2
    have g2 := (fr_219 _ _ _ ef).1
    have g : pm_ag [2, 129] [(1, 1), (127, 0), (127, 2)] I I2 := ag_trans (ag_mono g1 (zt_sub rfl) (zt_subF rfl)) g2 (zt_sub rfl) (zt_subF rfl)
    refine ⟨I2, ef, R0_R (r := r) (k := k) (n := n) (t := t) (D := D) (l0 := l0) (k0 := k0) (l1 := l1) (k1 := k1) ⟨⟨CQ_ag h.1.1 g (by decide), MQ_ag h.1.2.1 g (by decide), row_c h.1.2.2.1 (ag_cell g (by decide) (by intro f; simp)) (ag_cell g (by decide) (by intro f; simp)), Rar_c h.1.2.2.2 (fun c hc => ag_cell g (by simp; omega) (by intro f; simp; omega)) (g 23 3 (by decide) (by decide)) (g 23 4 (by decide) (by decide)) (g 127 32 (by decide) (by decide)) (g 127 58 (by decide) (by decide)) (ag_cell g (by decide) (by intro f; simp)) (ag_cell g (by decide) (by intro f; simp))⟩, Rbk_ag h.2.1 g (by decide), ⟨⟨L + 20, c, ?_, b1, fun i hi => ?_⟩, ?_⟩, ?_, ?_, ?_⟩⟩
    · rw [g2 1 1 (by decide) (by decide)]; exact a1
    · have i2' : I2 2 = I1 2 := ag_cell g2 (by decide) (by intro f; simp)
      rw [i2']
      by_cases q : i < L
      · obtain ⟨v, v1, v2, v3⟩ := t4 i q
        refine ⟨v, v1, by rw [a3 i q]; exact v2, ?_⟩
        rw [b3 i q, zt_wc (by omega), ag_cell g1 (by decide) (by intro f; simp)]
        exact v3
      · obtain ⟨z, rfl⟩ : ∃ z, i = L + z := ⟨i - L, by omega⟩
        exact ⟨_, b4_lt _ _, a2 z (by omega), b2 z (by omega)⟩
    · rw [g 1 8 (by decide) (by decide), g 127 8 (by decide) (by decide)]; exact t5
    · rw [g 0 11 (by decide) (by decide), g 127 33 (by decide) (by decide)]; exact h.2.2.2.1
    · rw [g 0 12 (by decide) (by decide), g 128 0 (by decide) (by decide)]; exact h.2.2.2.2.1
    · rw [g 0 13 (by decide) (by decide), g 128 1 (by decide) (by decide)]; exact h.2.2.2.2.2
  · refine ⟨-1, I, J, ?_, aj_refl, fun J' => ⟨pm_w I 127 0 0, ?_, R0_R (R0_t0 h)⟩⟩
    · show f161 x1 x2 x3 x4 x5 I J = _
      unfold f161
      rw [t2, zt_lit 20, zt_lit 600, nI_add, if_pos (by rw [nI_toInt (by omega), nI_toInt (by omega)]; omega)]
    · show f219 x1 x2 x3 x4 x5 I J' = _
      unfold f219
      rw [pm_lt_eq, zt_w2 (by omega), t3, zt_lit 20, zt_lit 600, nI_add, if_pos (by rw [nI_toInt (by omega), nI_toInt (by omega)]; omega)]
end Fd
