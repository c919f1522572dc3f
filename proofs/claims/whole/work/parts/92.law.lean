/-! THE LAW: the call comes out alike -/
section Le
variable {I : Nat → Nat → Int32} {J : Nat → Nat → Int64} {r k : Nat}
theorem c_law {c : Nat → Nat} {L T w : Nat} (hw : w < 2) (h1 : I 1 1 = nI T) (hT : T ≤ 600) (hL : L ≤ T) (h150 : L ≤ 150) (hc : ∀ i, i < T → c i < 256 ∧ I 2 i = nI (c i)) : (∀ q p, pm_lA c L = .inl (q, p) → ∃ I', f175 (nI w) (nI L) I J = some (.inl (nI q - 10), I', J) ∧ I' 1 1 = nI 0 ∧ I' 1 8 = nI p ∧ pm_ag [95] [(1, 1), (1, 2), (1, 3), (1, 4), (1, 5), (1, 6), (1, 7), (1, 8), (94, 2)] I I') ∧ (∀ l k, pm_lA c L = .inr (l, k) → ∃ I', f175 (nI w) (nI L) I J = some (.inl 1, I', J) ∧ I' 1 1 = nI 0 ∧ I' 1 8 = -1 ∧ pm_CL (6 + 3 * w) l k I' ∧ pm_ag [95, 7 + 3 * w] [(1, 1), (1, 2), (1, 3), (1, 4), (1, 5), (1, 6), (1, 7), (1, 8), (94, 2), (6 + 3 * w, 2)] I I') := by
  obtain ⟨I2, e2, f2⟩ := e126 (J := J) h1 hT hL hc
  have g2 := (fr_126 _ _ _ e2).1
  obtain ⟨a1, a2⟩ := e20 (J := J) h150 f2
  have gate : f173 (nI L) 150 I J = some (.inl (), I, J) := e173g (M := 150) h1 hT hL h150 (by omega)
  have e7 : ∀ I3 : Nat → Nat → Int32, f137 I3 J = some ((), pm_w I3 1 1 0, J) := fun _ => rfl
  have ew : (if nI w = 0 then 6 else 9) = 6 + 3 * w := by
    have q : w = 0 ∨ w = 1 := by omega
    rcases q with rfl | rfl <;> rfl
  have body : f175 (nI w) (nI L) I J = (f20 94 I2 J).bind (fun (ov16, I17, J18) => (f137 I17 J18).bind (fun (ov20, I21, J22) => (if (v138 I21) = true then some (.inl (v139 I21), I21, J22) else (f26 (if nI w = 0 then 6 else 9) 94 I21 J22).bind (fun (ov26, I27, J28) => some (.inl 1, I27, J28))))) := by
    have q : w = 0 ∨ w = 1 := by omega
    unfold f175
    rcases q with rfl | rfl
    · rw [if_pos (show nI 0 = 0 from rfl), e174g, zt_xl, gate, zt_xl, e2, zt_bind]
    · rw [if_neg (show ¬ nI 1 = 0 by decide), if_pos (show nI 1 = 1 from rfl), e174g, zt_xl, gate, zt_xl, e2, zt_bind]
  rw [body, ew]
  refine ⟨fun q p z => ?_, fun l k z => ?_⟩
  · obtain ⟨I3, e3, x3⟩ := a1 q p z
    have g3 := (fr_20 _ _ _ e3).1
    have x4 := CX_1 x3
    refine ⟨pm_w I3 1 1 0, ?_, zt_ws, x4.2.2.1, ag_w (ag_trans (ag_mono g2 (by simp) (zt_subF rfl)) g3 (by simp) (by simp)) (by simp)⟩
    rw [e3, zt_bind]
    dsimp only
    rw [e7, zt_bind]
    dsimp only
    rw [v138x x4, if_pos rfl]
    unfold v139
    rw [x4.2.1]
  · obtain ⟨I3, i', e3, f3, b3⟩ := a2 l k z
    have g3 := (fr_20 _ _ _ e3).1
    have f4 := CF_1 f3
    have b4 : pm_CL 94 l k (pm_w I3 1 1 0) := CL_ag b3 (zt_wc (by omega)) (zt_wc (by omega))
    have hl := (lA_wf h150 z).1.1
    obtain ⟨I5, e5, c5⟩ := e26 (J := J) (w := 6 + 3 * w) b4 hl (by omega)
    have g5 := (fr_26 _ _ _ e5).1
    have G : pm_ag [95, 7 + 3 * w] [(1, 1), (1, 2), (1, 3), (1, 4), (1, 5), (1, 6), (1, 7), (1, 8), (94, 2), (6 + 3 * w, 2)] I I5 := ag_trans (ag_w (ag_trans (ag_mono g2 (by simp) (zt_subF (A := [(1, 2), (1, 3), (1, 4), (1, 5), (1, 6), (1, 7), (1, 8)]) (B := [(1, 1), (1, 2), (1, 3), (1, 4), (1, 5), (1, 6), (1, 7), (1, 8), (94, 2), (6 + 3 * w, 2)]) rfl)) g3 (by simp) (by simp)) (by simp)) g5 (by simp; omega) (by simp)
    refine ⟨I5, ?_, ?_, ?_, c5, G⟩
    · rw [e3, zt_bind]
      dsimp only
      rw [e7, zt_bind]
      dsimp only
      rw [v138f f4, if_neg (by decide), e5, zt_bind]
    · rw [ag_cell g5 (by simp) (by intro f; simp; omega), zt_ws]; rfl
    · rw [ag_cell g5 (by simp) (by intro f; simp; omega)]; exact f4.2.2.2
theorem m_law {c : Nat → Nat} {L T w : Nat} (hw : w < 2) (h2 : I 127 2 = nI T) (hT : T ≤ 600) (hL : L ≤ T) (h150 : L ≤ 150) (hc : ∀ i, i < T → c i < 256 ∧ I 129 i = nI (c i)) : (∀ q p, pm_lA c L = .inl (q, p) → ∃ I', f240 (nI w) (nI L) I J = some (nI q - 10, I', J) ∧ I' 127 8 = nI p ∧ I' 127 2 = nI 0 ∧ I' 127 0 = nI 0 ∧ I' 136 = I 136 ∧ I' 137 = I 137 ∧ I' 138 = I 138 ∧ pm_ag [134, 135, 136, 137, 138] [(127, 0), (127, 2), (127, 3), (127, 4), (127, 5), (127, 6), (127, 7), (127, 8), (127, 27)] I I') ∧ (∀ l k, pm_lA c L = .inr (l, k) → ∃ I', f240 (nI w) (nI L) I J = some (1, I', J) ∧ I' 127 8 = -1 ∧ I' 127 2 = nI 0 ∧ I' 127 0 = nI 0 ∧ I' 138 w = nI l ∧ (∀ j, j ≠ w → I' 138 j = I 138 j) ∧ (∀ j, j < l → pm_mc (k j) (I' 136 (150 * w + j)) (I' 137 (150 * w + j))) ∧ (∀ j, (j < 150 * w ∨ 150 * w + l ≤ j) → I' 136 j = I 136 j ∧ I' 137 j = I 137 j) ∧ pm_ag [134, 135, 136, 137, 138] [(127, 0), (127, 2), (127, 3), (127, 4), (127, 5), (127, 6), (127, 7), (127, 8), (127, 27)] I I') := by
  have i150 : ((150 : Int32)).toInt = 150 := by decide
  obtain ⟨I2, e2, m2, z2, _⟩ := e223 (I := pm_w I 127 0 0) (J := J) (c := c) (L := L) (by omega) (fun i hi => by rw [zt_wc (by omega)]; exact hc i (by omega))
  have g2 := (fr_223 _ _ _ e2).1
  have s2 : I2 127 7 = nI 0 := by
    unfold f223 at e2
    simp only [pm_lt] at e2
    cases e2
    rw [zt_ws]; rfl
  have eg : f222 1 1 1 (pm_w I 127 0 0) J = some (true, pm_w I 127 0 0, J) := e222g (by rw [zt_ws]; rfl)
  have m3 : pm_MF c L 0 (pm_w I2 127 27 0) := MF_g m2 (by omega)
  obtain ⟨a1, a2⟩ := e242 (J := J) h150 m3 (by rw [zt_w2 (by omega)]; exact s2) (by rw [zt_ws]; rfl)
  have body : f240 (nI w) (nI L) I J = (f242 (pm_w I2 127 27 0) J).bind (fun (ov196, I197, J198) => (if (v224 I197) = true then (f225 I197 J198).bind (fun (ov208, I209, J210) => (if ov208 = true then (f232 1 (I209 127 4) I209 J210).bind (fun (ov220, I221, J222) => (f239 1 I221 J222).bind (fun (ov224, I225, J226) => (if (I225 127 5) = (-1) then pm_gd (pm_in (nI w) 2) (pm_lt (pm_w I225 138 (nI w).toNatClampNeg (I225 127 27)) (fun I230 => f240_115 pm_FU (nI w) ov224 0 I230 J226)) else some (ov224, I225, J226)))) else (f239 1 I209 J210).bind (fun (ov213, I214, J215) => (if (I214 127 5) = (-1) then pm_gd (pm_in (nI w) 2) (pm_lt (pm_w I214 138 (nI w).toNatClampNeg (I214 127 27)) (fun I219 => f240_115 pm_FU (nI w) ov213 0 I219 J215)) else some (ov213, I214, J215))))) else (f239 1 I197 J198).bind (fun (ov201, I202, J203) => (if (I202 127 5) = (-1) then pm_gd (pm_in (nI w) 2) (pm_lt (pm_w I202 138 (nI w).toNatClampNeg (I202 127 27)) (fun I207 => f240_115 pm_FU (nI w) ov201 0 I207 J203)) else some (ov201, I202, J203))))) := by
    have v : v241 (nI w) 0 1 (pm_w I 127 0 0) = true := v241g (a := 0) (b := 1) (by omega) (by omega) (by omega)
    unfold f240
    rw [pm_lt_eq, v, if_pos rfl, if_neg (show ¬ (nI L).toInt < 0 by rw [nI_toInt (by omega)]; omega), zt_w2 (by omega), h2, if_neg (show ¬ (nI T).toInt < (nI L).toInt by rw [nI_toInt (by omega), nI_toInt (by omega)]; omega), if_neg (show ¬ (150 : Int32).toInt < (nI L).toInt by rw [nI_toInt (by omega), i150]; omega), eg, zt_bind]
    dsimp only
    rw [if_pos rfl, e2, zt_bind]
    dsimp only
    rw [pm_lt_eq]
  rw [body]
  have xx : ∀ (q p : Nat) (I4 : Nat → Nat → Int32), pm_MX q p I4 → pm_ag [134, 135] [(127, 0), (127, 2), (127, 3), (127, 4), (127, 5), (127, 6), (127, 7), (127, 8), (127, 27)] I I4 → I4 127 2 = nI 0 → I4 127 0 = nI 0 → ∃ I', (f239 1 I4 J).bind (fun (ov201, I202, J203) => (if (I202 127 5) = (-1) then pm_gd (pm_in (nI w) 2) (pm_lt (pm_w I202 138 (nI w).toNatClampNeg (I202 127 27)) (fun I207 => f240_115 pm_FU (nI w) ov201 0 I207 J203)) else some (ov201, I202, J203))) = some (nI q - 10, I', J) ∧ I' 127 8 = nI p ∧ I' 127 2 = nI 0 ∧ I' 127 0 = nI 0 ∧ I' 136 = I 136 ∧ I' 137 = I 137 ∧ I' 138 = I 138 ∧ pm_ag [134, 135, 136, 137, 138] [(127, 0), (127, 2), (127, 3), (127, 4), (127, 5), (127, 6), (127, 7), (127, 8), (127, 27)] I I' := by
    intro q p I4 x4 g4 y2 y0
    refine ⟨pm_w I4 127 8 (I4 127 5), ?_, by rw [zt_ws]; exact x4.1, by rw [zt_w2 (by omega)]; exact y2, by rw [zt_w2 (by omega)]; exact y0, ?_, ?_, ?_, ag_w (ag_mono g4 (by simp) (by simp)) (by simp)⟩
    · rw [e239x x4, zt_bind]
      dsimp only
      rw [if_neg (MX_n (MX_8 x4))]
    · rw [zt_wc (by omega), ag_cell g4 (by decide) (by intro f; simp)]
    · rw [zt_wc (by omega), ag_cell g4 (by decide) (by intro f; simp)]
    · rw [zt_wc (by omega), ag_cell g4 (by decide) (by intro f; simp)]
  have G3 : pm_ag [134, 135] [(127, 0), (127, 2), (127, 3), (127, 4), (127, 5), (127, 6), (127, 7), (127, 8), (127, 27)] I (pm_w I2 127 27 0) := ag_w (ag_trans (ag_w ag_refl (by simp)) g2 (by simp) (zt_subF rfl)) (by simp)
  unfold pm_lA
  cases z : pm_lS c L (L + 1) 0 (pm_sk c L 0) 0 (fun _ => 0) with
  | inl f =>
    obtain ⟨q, p⟩ := f
    obtain ⟨I4, e4, x4⟩ := a1 q p z
    have g4 := (fr_242 _ _ _ e4).1
    rw [e4, zt_bind]
    dsimp only
    rw [v224x x4, if_neg (show ¬ false = true by decide)]
    refine ⟨fun q p z => ?_, fun l k z => (by cases z)⟩
    cases z
    exact xx q p I4 x4 (ag_trans G3 g4 (by simp) (zt_subF rfl)) (by rw [g4 127 2 (by decide) (by decide), zt_w2 (by omega), z2]; rfl) (by rw [g4 127 0 (by decide) (by decide), zt_w2 (by omega), g2 127 0 (by decide) (by decide), zt_ws]; rfl)
  | inr t =>
    obtain ⟨i, l, k⟩ := t
    obtain ⟨I4, a, e4, m4, hi, n4⟩ := a2 i l k z
    have g4 := (fr_242 _ _ _ e4).1
    obtain ⟨I5, e5, m5⟩ := e225 (J := J) m4 hi
    have g5 := (fr_225 _ _ _ e5).1
    have G5 : pm_ag [134, 135] [(127, 0), (127, 2), (127, 3), (127, 4), (127, 5), (127, 6), (127, 7), (127, 8), (127, 27)] I I5 := ag_trans (ag_trans G3 g4 (by simp) (zt_subF rfl)) g5 (by simp) (zt_subF rfl)
    have y2 : I5 127 2 = nI 0 := by rw [g5 127 2 (by decide) (by decide), g4 127 2 (by decide) (by decide), zt_w2 (by omega), z2]; rfl
    have y0 : I5 127 0 = nI 0 := by rw [g5 127 0 (by decide) (by decide), g4 127 0 (by decide) (by decide), zt_w2 (by omega), g2 127 0 (by decide) (by decide), zt_ws]; rfl
    rw [e4, zt_bind]
    dsimp only
    rw [v224f m4, if_pos rfl, e5, zt_bind]
    dsimp only
    by_cases q : i < L
    · obtain ⟨I6, e6, x6⟩ := MF_wrong (J := J) (k := 1) (p := i) m5 (by omega) m5.2.1
      have e6' : f232 1 (nI i) I5 J = some ((), I6, J) := e6
      have g6 := (fr_232 _ _ _ e6').1
      rw [decide_eq_true q, if_pos rfl, if_pos q, m5.2.2.1, e6', zt_bind]
      refine ⟨fun q p z => ?_, fun l k z => (by cases z)⟩
      cases z
      exact xx 1 i I6 x6 (ag_trans G5 g6 (by simp) (zt_subF rfl)) (by rw [g6 127 2 (by decide) (by decide)]; exact y2) (by rw [g6 127 0 (by decide) (by decide)]; exact y0)
    · rw [decide_eq_false q, if_neg (show ¬ false = true by decide), if_neg q]
      refine ⟨fun q p z => (by cases z), fun l' k' z' => ?_⟩
      cases z'
      have hA : pm_lA c L = .inr (l, k) := by
        unfold pm_lA
        rw [z]
        dsimp only
        rw [if_neg q]
      have hl := (lA_wf h150 hA).1.1
      have n5 : pm_NL l k I5 := NL_f n4 g5 rfl
      obtain ⟨I7, e7, b7, c7⟩ := l240 (J := J) (v := 1) hl hw l 0 pm_FU (pm_w (pm_w I5 127 8 (-1)) 138 w (nI l)) (by omega) (by unfold pm_FU; omega) (by rw [zt_wc (by omega), zt_w2 (by omega)]; exact n5.1)
      rw [nI_0] at e7
      have g7 := (fr_240_115 _ _ _ _ _ _ _ _ _ e7).1
      have cc : ∀ a : Nat, a ≠ 138 → a ≠ 127 → pm_w (pm_w I5 127 8 (-1)) 138 w (nI l) a = I5 a := fun a h1 h2 => by rw [zt_wc h1, zt_wc h2]
      refine ⟨I7, ?_, ?_, ?_, ?_, ?_, fun j hj => ?_, fun j hj => ?_, fun j hj => ?_, ag_trans (ag_w (ag_w (ag_mono G5 (by simp) (by simp)) (by simp)) (by simp)) g7 (by simp) (by simp)⟩
      · rw [e239f m5, zt_bind]
        dsimp only
        rw [if_pos (show pm_w I5 127 8 (-1) 127 5 = -1 by rw [zt_w2 (by omega)]; exact m5.2.2.2), zt_in (by omega) (by omega), zt_gd, pm_lt_eq, nI_clamp (by omega), zt_w2 (by omega), n5.1]
        exact e7
      · rw [ag_cell g7 (by decide) (by intro f; simp), zt_wc (by omega), zt_ws]
      · rw [ag_cell g7 (by decide) (by intro f; simp), zt_wc (by omega), zt_w2 (by omega)]; exact y2
      · rw [ag_cell g7 (by decide) (by intro f; simp), zt_wc (by omega), zt_w2 (by omega)]; exact y0
      · rw [ag_cell g7 (by decide) (by intro f; simp), zt_ws]
      · rw [ag_cell g7 (by decide) (by intro f; simp), zt_w2 (by omega), zt_wc (by omega), ag_cell G5 (by decide) (by intro f; simp)]
      · obtain ⟨b1, b2⟩ := b7 j (by omega) hj
        rw [b1, b2, cc 134 (by decide) (by decide), cc 135 (by decide) (by decide)]
        exact n5.2 j hj
      · obtain ⟨c1, c2⟩ := c7 j (by omega)
        rw [c1, c2, cc 136 (by decide) (by decide), cc 137 (by decide) (by decide), ag_cell G5 (by decide) (by intro f; simp), ag_cell G5 (by decide) (by intro f; simp)]
        exact ⟨rfl, rfl⟩
end Le
