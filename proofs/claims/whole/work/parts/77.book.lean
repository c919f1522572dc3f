/-! THE BOOK: what stays of the relation; the class's call -/
/-- the cells of register, laws, rows and archive -/
def pm_prQ (a : Nat) : Bool := (decide (5 ≤ a) && decide (a ≤ 7)) || decide (a = 9) || decide (a = 10) || (decide (15 ≤ a) && decide (a ≤ 22)) || (decide (25 ≤ a) && decide (a ≤ 93)) || (decide (113 ≤ a) && decide (a ≤ 120)) || decide (a = 132) || decide (a = 133) || (decide (136 ≤ a) && decide (a ≤ 138)) || decide (a = 143) || decide (a = 145) || decide (a = 156)
def pm_pqF : List (Nat × Nat) := [(23, 3), (23, 4), (127, 18), (127, 19), (127, 20), (127, 32), (127, 58)]
theorem R0_nw {r k k' n t l0 l1 : Nat} {D : Nat → Nat → Nat} {k0 k1 : Nat → Nat} {I I' : Nat → Nat → Int32} (h : pm_R0 r k n t D l0 k0 l1 k1 I) (P : ∀ a, pm_prQ a = true → I' a = I a) (F : ∀ a f, (a, f) ∈ pm_pqF → I' a f = I a f) (hb : pm_Rbk k' I') (ht : pm_Rtp I') (h1 : I' 0 11 = I' 127 33) (c1 : I' 0 12 = I' 128 0) (c2 : I' 0 13 = I' 128 1) : pm_R0 r k' n t D l0 k0 l1 k1 I' := by
  obtain ⟨⟨⟨q1, q2, q3, q4, q5, q6⟩, ⟨m1, m2, m3, m4, m5, m6⟩, hrow, har⟩, _, _, _, _, _⟩ := h
  refine ⟨⟨⟨CR_cell q1 (fun j hj => P _ ?_), q2, CL_ag q3 (P _ rfl) (P _ rfl), CL_ag q4 (P _ rfl) (P _ rfl), q5, q6⟩, ⟨MR_cell m1 (F _ _ (by decide)) (F _ _ (by decide)) (F _ _ (by decide)) (P _ rfl) (P _ rfl), m2, ML_cell m3 (P _ rfl) (P _ rfl) (P _ rfl), ML_cell m4 (P _ rfl) (P _ rfl) (P _ rfl), m5, m6⟩, row_c hrow (P _ rfl) (P _ rfl), ?_⟩, hb, ht, h1, c1, c2⟩
  · have := q1.1
    simp [pm_prQ]
    omega
  · obtain ⟨⟨a, a1, a2, a3, a4⟩, m, e1, e2, e3, e4⟩ := har
    refine ⟨⟨a, a1, by rw [F 23 3 (by decide)]; exact a2, by rw [F 127 32 (by decide)]; exact a3, fun i hi => row_c (a4 i hi) (P _ (by simp [pm_prQ]; omega)) (by rw [P 145 rfl])⟩, m, e1, by rw [F 23 4 (by decide)]; exact e2, by rw [F 127 58 (by decide)]; exact e3, fun j hj => ?_⟩
    obtain ⟨c, d1, d2, d3, d4, d5⟩ := e4 j hj
    refine ⟨c, d1, by rw [P 93 rfl]; exact d2, by rw [P 156 rfl]; exact d3, row_c d4 (P _ (by simp [pm_prQ]; omega)) (by rw [P 156 rfl]), fun i hi => row_c (d5 i hi) (P _ (by simp [pm_prQ]; omega)) (by rw [P 156 rfl])⟩
section Bs
variable {I : Nat → Nat → Int32} {J : Nat → Nat → Int64} {k : Nat}
theorem e10 {c : Nat → Nat} {L i : Nat} {X Y : Nat → Nat} (h : pm_CF c L i I) (hi : i ≤ L) (hk : k = 121 ∨ k = 124) : (∀ q p, pm_bks c L 9 i 0 X Y = .inl (q, p) → ∃ I', f10 k I J = some ((), I', J) ∧ pm_CX q p I') ∧ (∀ m' X' Y', pm_bks c L 9 i 0 X Y = .inr (m', X', Y') → ∃ I' i', f10 k I J = some ((), I', J) ∧ pm_CF c L i' I' ∧ pm_BK k m' X' Y' I') := by
  have g := l10 (J := J) (k := k) (c := c) (L := L) 9 i 0 pm_FU X Y (pm_w I k 2 0) (by omega) (by unfold pm_FU; omega) hi (CF_w h (by omega)) ⟨hk, by omega, by rw [zt_ws]; rfl, fun i hi => by omega⟩
  rw [nI_0] at g
  unfold f10
  rw [pm_lt_eq]
  exact g
theorem e173g {L T M : Nat} (h1 : I 1 1 = nI T) (hT : T ≤ 600) (hL : L ≤ T) (hM : L ≤ M) (hM2 : M ≤ 600) : f173 (nI L) (nI M) I J = some (.inl (), I, J) := by
  unfold f173
  rw [h1, nI_toInt (by omega), nI_toInt (by omega), nI_toInt (by omega), if_neg (by omega), if_neg (by omega), if_neg (by omega), e174g, zt_xl]
theorem e173b {T M : Nat} {x : Int32} (h1 : I 1 1 = nI T) (hT : T ≤ 600) (hM2 : M ≤ 600) (hx : x.toInt < 0 ∨ (M : Int) < x.toInt ∨ (T : Int) < x.toInt) : f173 x (nI M) I J = some (.inr 2, pm_w I 0 13 (I 0 13 + nI 1), J) := by
  unfold f173
  rw [h1, nI_toInt (by omega), nI_toInt (by omega), e174b, zt_xr]
  by_cases a : x.toInt < 0
  · rw [if_pos a]
  · rw [if_neg a]
    by_cases b : (M : Int) < x.toInt
    · rw [if_pos b]
    · rw [if_neg b, if_pos (by omega)]
theorem v138f {c : Nat → Nat} {L i : Nat} (h : pm_CF c L i I) : v138 I = false := by
  unfold v138
  rw [h.2.2.1]
  rfl
theorem v138x {q p : Nat} (h : pm_CX q p I) : v138 I = true := by
  obtain ⟨h1, h2, h3, h4, h5⟩ := h
  unfold v138
  rw [h2, if_neg (by rw [← nI_0, zt_eq (by omega) (by omega)]; omega)]
theorem CF_1 {c : Nat → Nat} {L i : Nat} (h : pm_CF c L i I) : pm_CF c L i (pm_w I 1 1 0) := by
  unfold pm_CF pm_CT pm_CP
  rw [zt_w2 (by omega), zt_w2 (by omega), zt_w2 (by omega), zt_w2 (by omega), zt_w2 (by omega), zt_w2 (by omega), zt_w2 (by omega), zt_wc (show 2 ≠ 1 by decide)]
  exact h
theorem CX_1 {q p : Nat} (h : pm_CX q p I) : pm_CX q p (pm_w I 1 1 0) := by
  unfold pm_CX
  rw [zt_w2 (by omega), zt_w2 (by omega), zt_w2 (by omega)]
  exact h
theorem e177 {c : Nat → Nat} {L T : Nat} {X Y : Nat → Nat} (h1 : I 1 1 = nI T) (hT : T ≤ 600) (hL : L ≤ T) (h100 : L ≤ 100) (hc : ∀ i, i < T → c i < 256 ∧ I 2 i = nI (c i)) (hk : k = 121 ∨ k = 124) : (∀ q p, pm_bks c L 9 (pm_sk c L 0) 0 X Y = .inl (q, p) → ∃ I', f177 k (nI L) I J = some (.inl (nI q - 10, false), I', J) ∧ I' 1 1 = nI 0 ∧ I' 1 8 = nI p ∧ pm_ag [k + 1, k + 2] [(1, 1), (1, 2), (1, 3), (1, 4), (1, 5), (1, 6), (1, 7), (1, 8), (k, 2)] I I') ∧ (∀ m' X' Y', pm_bks c L 9 (pm_sk c L 0) 0 X Y = .inr (m', X', Y') → ∃ I', f177 k (nI L) I J = some (.inl (nI m', true), I', J) ∧ I' 1 1 = nI 0 ∧ I' 1 8 = -1 ∧ pm_BK k m' X' Y' I' ∧ pm_ag [k + 1, k + 2] [(1, 1), (1, 2), (1, 3), (1, 4), (1, 5), (1, 6), (1, 7), (1, 8), (k, 2)] I I') := by
  obtain ⟨I2, e2, f2⟩ := e126 (J := J) h1 hT hL hc
  have g2 := (fr_126 _ _ _ e2).1
  have hs := sk_b c L 0
  obtain ⟨a1, a2⟩ := e10 (J := J) (X := X) (Y := Y) f2 (by omega) hk
  have gate : f173 (nI L) 100 I J = some (.inl (), I, J) := e173g (M := 100) h1 hT hL h100 (by omega)
  have e7 : ∀ I3 : Nat → Nat → Int32, f137 I3 J = some ((), pm_w I3 1 1 0, J) := fun _ => rfl
  unfold f177
  rw [gate, zt_xl, e2, zt_bind]
  dsimp only
  refine ⟨fun q p w => ?_, fun m' X' Y' w => ?_⟩
  · obtain ⟨I3, e3, x3⟩ := a1 q p w
    have g3 := (fr_10 _ _ _ e3).1
    have x4 := CX_1 x3
    refine ⟨pm_w I3 1 1 0, ?_, zt_ws, x4.2.2.1, ag_w (ag_trans (ag_mono g2 (by simp) (zt_subF rfl)) g3 (by simp) (by simp)) (by simp)⟩
    rw [e3, zt_bind]
    dsimp only
    rw [e7, zt_bind]
    dsimp only
    rw [v138x x4, if_pos rfl]
    unfold v139
    rw [x4.2.1]
  · obtain ⟨I3, i', e3, f3, b3⟩ := a2 m' X' Y' w
    have g3 := (fr_10 _ _ _ e3).1
    have f4 := CF_1 f3
    have b4 : pm_BK k m' X' Y' (pm_w I3 1 1 0) := by
      unfold pm_BK
      rw [zt_wc (by omega), zt_wc (by omega), zt_wc (by omega)]
      exact b3
    refine ⟨pm_w I3 1 1 0, ?_, zt_ws, f4.2.2.2, b4, ag_w (ag_trans (ag_mono g2 (by simp) (zt_subF rfl)) g3 (by simp) (by simp)) (by simp)⟩
    rw [e3, zt_bind]
    dsimp only
    rw [e7, zt_bind]
    dsimp only
    rw [v138f f4, if_neg (by decide), b4.2.2.1]
end Bs
