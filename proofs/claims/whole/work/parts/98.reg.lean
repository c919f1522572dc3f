/-! THE REGISTER'S TEXT: clause by clause -/
def pm_rgs (c : Nat → Nat) (L : Nat) : Nat → Nat → Nat → Nat → Nat → (Nat → Nat → Nat) → (Nat × Nat) ⊕ (Nat × Nat × (Nat → Nat → Nat))
  | 0, _, _, n, t, D => .inr (n, t, D)
  | d + 1, i, m, n, t, D => if i < L then (match pm_rcl c L (decide (m = 60)) i n t D with
      | .inl f => .inl f
      | .inr (i', n', t', D') => pm_rgs c L d i' (m + 1) n' t' D') else .inr (n, t, D)
theorem rcl_f (c : Nat → Nat) (L i n t : Nat) (D : Nat → Nat → Nat) : ∃ q p, pm_rcl c L true i n t D = .inl (q, p) := by
  unfold pm_rcl
  by_cases z : pm_rI c L i = 5
  · exact ⟨1, i, by rw [if_pos z]⟩
  · exact ⟨3, i, by rw [if_neg z, if_pos (Or.inl rfl)]⟩
theorem rcl_b {c : Nat → Nat} {L i n t : Nat} {D : Nat → Nat → Nat} {full : Bool} : ∀ i' n' t' D', pm_rcl c L full i n t D = .inr (i', n', t', D') → i' ≤ L := by
  intro i' n' t' D' h
  unfold pm_rcl at h
  split at h
  · cases h
  · split at h
    · cases h
    · unfold pm_rs at h
      split at h
      · cases h
      · split at h
        · rename_i s
          cases h
          exact (nx1_b s.1).2
        · cases h
section Re
variable {I : Nat → Nat → Int32} {J : Nat → Nat → Int64} {k : Nat}
theorem l86 {c : Nat → Nat} {L : Nat} : ∀ d i m n t fu : Nat, ∀ (D : Nat → Nat → Nat) (I : Nat → Nat → Int32), m + d = 61 → d < fu → i ≤ L → pm_CF c L i I → pm_CD k n t D I → (∀ q p, pm_rgs c L d i m n t D = .inl (q, p) → ∃ I', f86_24 k fu (nI m) I J = some ((), I', J) ∧ pm_CX q p I') ∧ (∀ n' t' D', pm_rgs c L d i m n t D = .inr (n', t', D') → ∃ I' i', f86_24 k fu (nI m) I J = some ((), I', J) ∧ pm_CF c L i' I' ∧ pm_CD k n' t' D' I') := by
  have i60 : ((60 : Int32)).toInt = 60 := by decide
  intro d
  induction d with
  | zero =>
    intro i m n t fu D I hm hf hi h hD
    obtain ⟨fu, rfl⟩ : ∃ k, fu = k + 1 := ⟨fu - 1, by omega⟩
    rw [pm_rgs, f86_24, i60, nI_toInt (by omega), if_pos (by omega)]
    refine ⟨fun q p z => (by cases z), fun n' t' D' z => ?_⟩
    cases z
    exact ⟨I, i, rfl, h, hD⟩
  | succ d ih =>
    intro i m n t fu D I hm hf hi h hD
    obtain ⟨fu, rfl⟩ : ∃ k, fu = k + 1 := ⟨fu - 1, by omega⟩
    rw [pm_rgs, f86_24, i60, nI_toInt (by omega), if_neg (show ¬ (60 : Int) < (m : Nat) by omega), v131f h, nI_1]
    by_cases b : i < L
    · have xs : ∀ (q p : Nat) (I1 : Nat → Nat → Int32), pm_CX q p I1 → f86_24 k fu (nI (m + 1)) I1 J = some ((), I1, J) := by
        intro q p I1 x1
        obtain ⟨fv, rfl⟩ : ∃ k, fu = k + 1 := ⟨fu - 1, by omega⟩
        rw [f86_24, v131x x1]
        split
        · rfl
        · rw [if_neg (by decide)]
      rw [if_pos b, decide_eq_true b, if_pos rfl]
      by_cases m60 : m = 60
      · obtain ⟨q, p, I1, y, e1, x1⟩ := e87f (J := J) (k := k) (n := n) (t := t) (D := D) h hi
        rw [if_pos (show nI m = 60 by rw [m60]; rfl), decide_eq_true m60, y, e1, zt_bind]
        dsimp only
        rw [xs q p I1 x1]
        refine ⟨fun q' p' z => ?_, fun n' t' D' z => (by cases z)⟩
        cases z
        exact ⟨I1, rfl, x1⟩
      · rw [if_neg (show ¬ nI m = 60 by rw [zt_lit 60, zt_eq (by omega) (by omega)]; exact m60), decide_eq_false m60]
        obtain ⟨g1, g2⟩ := e87 (J := J) h hi hD
        cases y : pm_rcl c L false i n t D with
        | inl f =>
          obtain ⟨q, p⟩ := f
          obtain ⟨I1, e1, x1⟩ := g1 q p y
          rw [e1, zt_bind]
          dsimp only
          rw [xs q p I1 x1]
          refine ⟨fun q' p' z => ?_, fun n' t' D' z => (by cases z)⟩
          cases z
          exact ⟨I1, rfl, x1⟩
        | inr f =>
          obtain ⟨i', n', t', D'⟩ := f
          obtain ⟨I1, e1, f1, d1⟩ := g2 i' n' t' D' y
          rw [e1, zt_bind]
          dsimp only
          exact ih i' (m + 1) n' t' fu D' I1 (by omega) (by omega) (rcl_b i' n' t' D' y) f1 d1
    · rw [if_neg b, decide_eq_false b, if_neg (by decide)]
      refine ⟨fun q p z => (by cases z), fun n' t' D' z => ?_⟩
      cases z
      exact ⟨I, i, rfl, h, hD⟩
/-- the reference, at fault -/
theorem x221 {q p fu : Nat} {y : Int32} (h : pm_MX q p I) : f221_44 (fu + 1) y I J = some (nI q - 10, pm_w I 127 8 (I 127 5), J) := by
  rw [f221_44, v224x h, if_neg (by decide), e239x h, zt_bind]
  dsimp only
  rw [if_neg (MX_n (MX_8 h))]
theorem t221 {c : Nat → Nat} {L fu : Nat} {y : Int32} {x : (Nat × Nat) ⊕ (Nat × Nat × Nat × (Nat → Nat → Nat))} {X : Option (Unit × (Nat → Nat → Int32) × (Nat → Nat → Int64))} (h1 : ∀ q p, x = .inl (q, p) → ∃ I', X = some ((), I', J) ∧ pm_MX q p I') (h2 : ∀ i' n' t' D', x = .inr (i', n', t', D') → ∃ I' a', X = some ((), I', J) ∧ pm_MF c L a' I' ∧ i' = pm_sk c (L - a') a' ∧ pm_MD n' t' D' I') (hg : ∀ I', X = some ((), I', J) → pm_ag [130, 131] [(127, 4), (127, 5), (127, 6), (127, 8), (127, 14), (127, 15), (127, 16), (127, 17)] I I') : (∀ q p, pm_rs c L x = .inl (q, p) → ∃ I', X.bind (fun (ov, I5, J5) => (f238 59 I5 J5).bind (fun (ov, I6, J6) => f221_44 (fu + 1) y I6 J6)) = some (nI q - 10, I', J) ∧ I' 127 8 = nI p ∧ pm_ag [130, 131] [(127, 4), (127, 5), (127, 6), (127, 8), (127, 14), (127, 15), (127, 16), (127, 17)] I I') ∧ (∀ i' n' t' D', pm_rs c L x = .inr (i', n', t', D') → ∃ I' a', X.bind (fun (ov, I5, J5) => (f238 59 I5 J5).bind (fun (ov, I6, J6) => f221_44 (fu + 1) y I6 J6)) = f221_44 (fu + 1) y I' J ∧ pm_MF c L a' I' ∧ i' = pm_sk c (L - a') a' ∧ pm_MD n' t' D' I' ∧ pm_ag [130, 131] [(127, 4), (127, 5), (127, 6), (127, 8), (127, 14), (127, 15), (127, 16), (127, 17)] I I') := by
  cases x with
  | inl f =>
    obtain ⟨q, p⟩ := f
    obtain ⟨I1, e1, x1⟩ := h1 q p rfl
    have G := hg I1 e1
    rw [e1, zt_bind]
    dsimp only
    rw [e238x x1, zt_bind]
    dsimp only
    rw [x221 x1]
    refine ⟨fun q p z => ?_, fun i' n' t' D' z => (by cases z)⟩
    cases z
    exact ⟨_, rfl, by rw [zt_ws]; exact x1.1, ag_w G (by simp)⟩
  | inr f =>
    obtain ⟨i, n, t, D⟩ := f
    obtain ⟨I1, a1, e1, m1, ha1, d1⟩ := h2 i n t D rfl
    have G := hg I1 e1
    obtain ⟨s1, s2⟩ := e238 (J := J) (st := i) (s := 59) m1 ha1 (by omega) (by omega)
    rw [e1, zt_bind]
    dsimp only [pm_rs]
    by_cases s : i < L ∧ c i = 59
    · obtain ⟨I2, e2, m2⟩ := s1 s
      have e2' : f238 59 I1 J = some ((), I2, J) := e2
      have g2 := (fr_238 _ _ _ e2').1
      rw [if_pos s, e2', zt_bind]
      refine ⟨fun q p z => (by cases z), fun i' n' t' D' z => ?_⟩
      cases z
      exact ⟨I2, i + 1, rfl, m2, rfl, MD_4 d1 g2 rfl, ag_trans G g2 (by simp) (zt_subF rfl)⟩
    · obtain ⟨I2, e2, x2⟩ := s2 s
      have e2' : f238 59 I1 J = some ((), I2, J) := e2
      have g2 := (fr_238 _ _ _ e2').1
      rw [if_neg s, e2', zt_bind]
      dsimp only
      rw [x221 x2]
      refine ⟨fun q p z => ?_, fun i' n' t' D' z => (by cases z)⟩
      cases z
      exact ⟨_, rfl, by rw [zt_ws]; exact x2.1, ag_w (ag_trans G g2 (by simp) (zt_subF rfl)) (by simp)⟩
/-- one clause of the reference -/
theorem r221 {c : Nat → Nat} {L a st m n t fu : Nat} {D : Nat → Nat → Nat} (h : pm_MF c L a I) (hst : st = pm_sk c (L - a) a) (hl : st < L) (hD : pm_MD n t D I) (hm : m ≤ 60) : (∀ q p, pm_rcl c L (decide (m = 60)) st n t D = .inl (q, p) → ∃ I', f221_44 (fu + 2) (nI m) I J = some (nI q - 10, I', J) ∧ I' 127 8 = nI p ∧ pm_ag [130, 131] [(127, 4), (127, 5), (127, 6), (127, 8), (127, 14), (127, 15), (127, 16), (127, 17)] I I') ∧ (∀ i' n' t' D', pm_rcl c L (decide (m = 60)) st n t D = .inr (i', n', t', D') → ∃ I' a', f221_44 (fu + 2) (nI m) I J = f221_44 (fu + 1) (nI (m + 1)) I' J ∧ pm_MF c L a' I' ∧ i' = pm_sk c (L - a') a' ∧ pm_MD n' t' D' I' ∧ pm_ag [130, 131] [(127, 4), (127, 5), (127, 6), (127, 8), (127, 14), (127, 15), (127, 16), (127, 17)] I I') := by
  have sid : st = pm_sk c (L - st) st := by rw [hst]; exact (sk_id h.2.1).symm
  have hiL : st ≤ L := by omega
  have rl := rI_le c L st
  obtain ⟨I1, e1, m1⟩ := e225 (J := J) h hst
  have g1 := (fr_225 _ _ _ e1).1
  obtain ⟨I2, e2, m2⟩ := e227 (J := J) m1 sid
  have g2 := (fr_227 _ _ _ e2).1
  obtain ⟨I3, e3, m3⟩ := e229 (J := J) m2 sid
  have g3 := (fr_229 _ _ _ e3).1
  have G3 : pm_ag [130, 131] [(127, 4), (127, 5), (127, 6), (127, 8), (127, 14), (127, 15), (127, 16), (127, 17)] I I3 := ag_trans (ag_trans (ag_mono g1 (by simp) (zt_subF rfl)) g2 (by simp) (zt_subF rfl)) g3 (by simp) (zt_subF rfl)
  have D3 : pm_MD n t D I3 := MD_4 (MD_4 (MD_4 hD g1 rfl) g2 rfl) g3 rfl
  have at3 := m3.2.2.1
  have w2 : ∀ I J, f231 2 I J = some (nI (pm_wN (pm_tc (2 + 2)) 0 (pm_tl (2 + 2))), I, J) := fun I J => f231_t 1 (by decide) (by decide) (by decide) 2 rfl
  have w4 : ∀ I J, f231 4 I J = some (nI (pm_wN (pm_tc (4 + 2)) 0 (pm_tl (4 + 2))), I, J) := fun I J => f231_t 2 (by decide) (by decide) (by decide) 4 rfl
  have w8 : ∀ I J, f231 8 I J = some (nI (pm_wN (pm_tc (8 + 2)) 0 (pm_tl (8 + 2))), I, J) := fun I J => f231_t 4 (by decide) (by decide) (by decide) 8 rfl
  have w10 : ∀ I J, f231 10 I J = some (nI (pm_wN (pm_tc (10 + 2)) 0 (pm_tl (10 + 2))), I, J) := fun I J => f231_t 5 (by decide) (by decide) (by decide) 10 rfl
  have p2 := propext (wv_t (c := c) hiL 1 (by decide) (by decide) (by decide) 2 rfl)
  have p4 := propext (wv_t (c := c) hiL 2 (by decide) (by decide) (by decide) 4 rfl)
  have p8 := propext (wv_t (c := c) hiL 4 (by decide) (by decide) (by decide) 8 rfl)
  have p10 := propext (wv_t (c := c) hiL 5 (by decide) (by decide) (by decide) 10 rfl)
  have m60e : (nI m = 60) = (m = 60) := by rw [zt_lit 60, zt_eq (by omega) (by omega)]
  have v3 := v224f m3
  -- what is wrong at once
  have bad : ∀ (q : Nat) (I4 : Nat → Nat → Int32), f232 (nI q) (nI st) I3 J = some ((), I4, J) → pm_MX q st I4 → pm_ag [130, 131] [(127, 4), (127, 5), (127, 6), (127, 8), (127, 14), (127, 15), (127, 16), (127, 17)] I I4 := by
    intro q I4 e4 x4
    exact ag_trans G3 (fr_232 _ _ _ e4).1 (by simp) (zt_subF rfl)
  obtain ⟨I4, e4, x4⟩ := MF_wrong (J := J) (k := 3) (p := st) m3 (by omega) hiL
  have e4' : f232 3 (nI st) I3 J = some ((), I4, J) := e4
  have G4 := bad 3 I4 e4 x4
  have v4 := v224x x4
  have r4 : ∀ y : Int32, f239 y I4 J = some (nI 3 - 10, pm_w I4 127 8 (I4 127 5), J) := fun y => e239x x4
  have s4 : (pm_w I4 127 8 (I4 127 5) 127 5 = -1) = False := eq_false (MX_n (MX_8 x4))
  obtain ⟨I5, e5, x5⟩ := MF_wrong (J := J) (k := 1) (p := st) m3 (by omega) hiL
  have e5' : f232 1 (nI st) I3 J = some ((), I5, J) := e5
  have G5 := bad 1 I5 e5 x5
  have v5 := v224x x5
  have r5 : ∀ y : Int32, f239 y I5 J = some (nI 1 - 10, pm_w I5 127 8 (I5 127 5), J) := fun y => e239x x5
  have s5 : (pm_w I5 127 8 (I5 127 5) 127 5 = -1) = False := eq_false (MX_n (MX_8 x5))
  have end3 : ∀ q p, (.inl (3, st) : (Nat × Nat) ⊕ (Nat × Nat × Nat × (Nat → Nat → Nat))) = .inl (q, p) → ∃ I', some (nI 3 - 10, pm_w I4 127 8 (I4 127 5), J) = some (nI q - 10, I', J) ∧ I' 127 8 = nI p ∧ pm_ag [130, 131] [(127, 4), (127, 5), (127, 6), (127, 8), (127, 14), (127, 15), (127, 16), (127, 17)] I I' := by
    intro q p z
    cases z
    exact ⟨_, rfl, by rw [zt_ws]; exact x4.1, ag_w G4 (by simp)⟩
  have end1 : ∀ q p, (.inl (1, st) : (Nat × Nat) ⊕ (Nat × Nat × Nat × (Nat → Nat → Nat))) = .inl (q, p) → ∃ I', some (nI 1 - 10, pm_w I5 127 8 (I5 127 5), J) = some (nI q - 10, I', J) ∧ I' 127 8 = nI p ∧ pm_ag [130, 131] [(127, 4), (127, 5), (127, 6), (127, 8), (127, 14), (127, 15), (127, 16), (127, 17)] I I' := by
    intro q p z
    cases z
    exact ⟨_, rfl, by rw [zt_ws]; exact x5.1, ag_w G5 (by simp)⟩
  rw [decide_eq_true hl] at e1
  unfold pm_rcl
  rw [f221_44, v224f h, if_pos rfl, e1, zt_bind]
  dsimp only
  rw [if_pos rfl, e2, zt_bind]
  dsimp only
  rw [e3, zt_bind]
  dsimp only
  have cs : pm_rI c L st = 0 ∨ pm_rI c L st = 1 ∨ pm_rI c L st = 2 ∨ pm_rI c L st = 3 ∨ pm_rI c L st = 4 ∨ pm_rI c L st = 5 := by omega
  rcases cs with cs | cs | cs | cs | cs | cs
  · have y2 := rI_w.1 cs
    have y6 : pm_wb c L st 6 = false := wb_n y2 (by decide)
    have y4 : pm_wb c L st 4 = false := wb_n y2 (by decide)
    rw [cs]
    have row : f230 (nI (pm_wv c L st)) I3 J = some (true, I3, J) := by
      unfold f230
      simp only [zt_bind, Bool.false_eq_true, if_true, if_false, w2, w4, w8, w10, p2, p4, p8, p10, y2, y6, y4]
    rw [if_neg (show ¬ (0 : Nat) = 5 by decide)]
    by_cases m60 : m = 60
    · rw [if_pos (show decide (m = 60) = true ∨ (0 : Nat) = 0 ∧ n = 8 ∨ (0 : Nat) = 1 ∧ t = 5 from Or.inl (decide_eq_true m60))]
      simp only [zt_bind, at3, v3, Bool.false_eq_true, Bool.true_eq_false, if_true, if_false, w2, w4, w8, w10, p2, p4, p8, p10, m60e, y2, y6, y4, row, m60, e4', v4, r4, s4]
      exact ⟨end3, fun i' n' t' D' z => (by cases z)⟩
    · have nb : (I3 127 14 = 8) = (n = 8) := by rw [D3.2.1.1, zt_lit 8, zt_eq (by have := D3.1; omega) (by omega)]
      by_cases full : n = 8
      · rw [if_pos (show decide (m = 60) = true ∨ (0 : Nat) = 0 ∧ n = 8 ∨ (0 : Nat) = 1 ∧ t = 5 by omega)]
        simp only [zt_bind, at3, v3, Bool.false_eq_true, Bool.true_eq_false, if_true, if_false, w2, w4, w8, w10, p2, p4, p8, p10, m60e, y2, y6, y4, row, m60, nb, full, e4', v4, r4, s4]
        exact ⟨end3, fun i' n' t' D' z => (by cases z)⟩
      · rw [if_neg (show ¬ (decide (m = 60) = true ∨ (0 : Nat) = 0 ∧ n = 8 ∨ (0 : Nat) = 1 ∧ t = 5) by simp [m60]; omega)]
        obtain ⟨I6, e6, m6⟩ := e233 (J := J) m3 (rI_l hiL (by omega)).2
        have g6 := (fr_233 _ _ _ e6).1
        obtain ⟨b1, b2⟩ := m237_0 (J := J) (st := pm_nxt c L st) (i := st) m6 rfl hiL cs (MD_4 D3 g6 rfl) (by have := D3.1; omega)
        simp only [zt_bind, at3, v3, Bool.false_eq_true, Bool.true_eq_false, if_true, if_false, w2, w4, w8, w10, p2, p4, p8, p10, m60e, y2, y6, y4, row, m60, nb, full, e6]
        rw [nI_1]
        exact t221 b1 b2 (fun I' e => ag_trans (ag_trans G3 g6 (by simp) (zt_subF rfl)) (fr_237 _ _ _ e).1 (by simp) (zt_subF rfl))
  · obtain ⟨y2, y4⟩ := rI_w.2.1 cs
    have y6 : pm_wb c L st 6 = false := wb_n y4 (by decide)
    rw [cs]
    have row : f230 (nI (pm_wv c L st)) I3 J = some (true, I3, J) := by
      unfold f230
      simp only [zt_bind, Bool.false_eq_true, if_true, if_false, w2, w4, w8, w10, p2, p4, p8, p10, y2, y4, y6]
    rw [if_neg (show ¬ (1 : Nat) = 5 by decide)]
    by_cases m60 : m = 60
    · rw [if_pos (show decide (m = 60) = true ∨ (1 : Nat) = 0 ∧ n = 8 ∨ (1 : Nat) = 1 ∧ t = 5 from Or.inl (decide_eq_true m60))]
      simp only [zt_bind, at3, v3, Bool.false_eq_true, Bool.true_eq_false, if_true, if_false, w2, w4, w8, w10, p2, p4, p8, p10, m60e, y2, y4, y6, row, m60, e4', v4, r4, s4]
      exact ⟨end3, fun i' n' t' D' z => (by cases z)⟩
    · have nb : (I3 127 15 = 5) = (t = 5) := by rw [D3.2.1.2.1, zt_lit 5, zt_eq (by have := D3.1; omega) (by omega)]
      by_cases full : t = 5
      · rw [if_pos (show decide (m = 60) = true ∨ (1 : Nat) = 0 ∧ n = 8 ∨ (1 : Nat) = 1 ∧ t = 5 by omega)]
        simp only [zt_bind, at3, v3, Bool.false_eq_true, Bool.true_eq_false, if_true, if_false, w2, w4, w8, w10, p2, p4, p8, p10, m60e, y2, y4, y6, row, m60, nb, full, e4', v4, r4, s4]
        exact ⟨end3, fun i' n' t' D' z => (by cases z)⟩
      · rw [if_neg (show ¬ (decide (m = 60) = true ∨ (1 : Nat) = 0 ∧ n = 8 ∨ (1 : Nat) = 1 ∧ t = 5) by simp [m60]; omega)]
        obtain ⟨I6, e6, m6⟩ := e233 (J := J) m3 (rI_l hiL (by omega)).2
        have g6 := (fr_233 _ _ _ e6).1
        obtain ⟨b1, b2⟩ := m237_1 (J := J) (st := pm_nxt c L st) (i := st) m6 rfl hiL cs (MD_4 D3 g6 rfl) (by have := D3.1; omega)
        simp only [zt_bind, at3, v3, Bool.false_eq_true, Bool.true_eq_false, if_true, if_false, w2, w4, w8, w10, p2, p4, p8, p10, m60e, y2, y4, y6, row, m60, nb, full, e6]
        rw [nI_1]
        exact t221 b1 b2 (fun I' e => ag_trans (ag_trans G3 g6 (by simp) (zt_subF rfl)) (fr_237 _ _ _ e).1 (by simp) (zt_subF rfl))
  · obtain ⟨y2, y4, y6⟩ := rI_w.2.2.1 cs
    rw [cs]
    rw [if_neg (show ¬ (2 : Nat) = 5 by decide)]
    by_cases m60 : m = 60
    · rw [if_pos (show decide (m = 60) = true ∨ (2 : Nat) = 0 ∧ n = 8 ∨ (2 : Nat) = 1 ∧ t = 5 from Or.inl (decide_eq_true m60))]
      simp only [zt_bind, at3, v3, Bool.false_eq_true, Bool.true_eq_false, if_true, if_false, w2, w4, w8, w10, p2, p4, p8, p10, m60e, y2, y4, y6, m60, e4', v4, r4, s4]
      exact ⟨end3, fun i' n' t' D' z => (by cases z)⟩
    · rw [if_neg (show ¬ (decide (m = 60) = true ∨ (2 : Nat) = 0 ∧ n = 8 ∨ (2 : Nat) = 1 ∧ t = 5) by simp [m60])]
      have sk := (wq_k hiL (wb_q.mp y6) (by decide)).2
      have sk' : pm_stp c L st = st + 7 := sk
      have sb := stp_b (c := c) hiL
      have m6 : pm_MF c L (pm_stp c L st) (pm_w I3 127 4 (nI st + 7)) := by
        rw [sk', show nI st + 7 = nI (st + 7) from nI_add _ 7]
        exact ⟨MT_w m3.1 (by omega), by omega, zt_ws, by rw [zt_w2 (by omega)]; exact m3.2.2.2⟩
      have g6 : pm_ag [] [(127, 4)] I3 (pm_w I3 127 4 (nI st + 7)) := ag_w ag_refl (by simp)
      obtain ⟨b1, b2⟩ := m234 (J := J) (st := pm_nxt c L st) m6 rfl (MD_4 D3 g6 rfl)
      simp only [zt_bind, at3, v3, Bool.false_eq_true, Bool.true_eq_false, if_true, if_false, w2, w4, w8, w10, p2, p4, p8, p10, m60e, y2, y4, y6, m60, pm_lt_eq]
      rw [nI_1]
      exact t221 b1 b2 (fun I' e => ag_trans (ag_trans G3 g6 (by simp) (zt_subF rfl)) (fr_234 _ _ _ e).1 (by simp) (zt_subF rfl))
  · obtain ⟨y2, y4, y6, y8⟩ := rI_w.2.2.2.1 cs
    rw [cs]
    have row : f230 (nI (pm_wv c L st)) I3 J = some (true, I3, J) := by
      unfold f230
      simp only [zt_bind, Bool.false_eq_true, if_true, if_false, w2, w4, w8, w10, p2, p4, p8, p10, y2, y4, y6, y8]
    rw [if_neg (show ¬ (3 : Nat) = 5 by decide)]
    by_cases m60 : m = 60
    · rw [if_pos (show decide (m = 60) = true ∨ (3 : Nat) = 0 ∧ n = 8 ∨ (3 : Nat) = 1 ∧ t = 5 from Or.inl (decide_eq_true m60))]
      simp only [zt_bind, at3, v3, Bool.false_eq_true, Bool.true_eq_false, if_true, if_false, w2, w4, w8, w10, p2, p4, p8, p10, m60e, y2, y4, y6, y8, row, m60, e4', v4, r4, s4]
      exact ⟨end3, fun i' n' t' D' z => (by cases z)⟩
    · rw [if_neg (show ¬ (decide (m = 60) = true ∨ (3 : Nat) = 0 ∧ n = 8 ∨ (3 : Nat) = 1 ∧ t = 5) by simp [m60])]
      obtain ⟨I6, e6, m6⟩ := e233 (J := J) m3 (rI_l hiL (by omega)).2
      have g6 := (fr_233 _ _ _ e6).1
      obtain ⟨b1, b2⟩ := m237_3 (J := J) (st := pm_nxt c L st) (i := st) m6 rfl hiL cs (MD_4 D3 g6 rfl)
      simp only [zt_bind, at3, v3, Bool.false_eq_true, Bool.true_eq_false, if_true, if_false, w2, w4, w8, w10, p2, p4, p8, p10, m60e, y2, y4, y6, y8, row, m60, e6]
      rw [nI_1]
      exact t221 b1 b2 (fun I' e => ag_trans (ag_trans G3 g6 (by simp) (zt_subF rfl)) (fr_237 _ _ _ e).1 (by simp) (zt_subF rfl))
  · obtain ⟨y2, y4, y6, y8, y10⟩ := rI_w.2.2.2.2.1 cs
    rw [cs]
    have row : f230 (nI (pm_wv c L st)) I3 J = some (true, I3, J) := by
      unfold f230
      simp only [zt_bind, Bool.false_eq_true, if_true, if_false, w2, w4, w8, w10, p2, p4, p8, p10, y2, y4, y6, y8, y10]
    rw [if_neg (show ¬ (4 : Nat) = 5 by decide)]
    by_cases m60 : m = 60
    · rw [if_pos (show decide (m = 60) = true ∨ (4 : Nat) = 0 ∧ n = 8 ∨ (4 : Nat) = 1 ∧ t = 5 from Or.inl (decide_eq_true m60))]
      simp only [zt_bind, at3, v3, Bool.false_eq_true, Bool.true_eq_false, if_true, if_false, w2, w4, w8, w10, p2, p4, p8, p10, m60e, y2, y4, y6, y8, y10, row, m60, e4', v4, r4, s4]
      exact ⟨end3, fun i' n' t' D' z => (by cases z)⟩
    · rw [if_neg (show ¬ (decide (m = 60) = true ∨ (4 : Nat) = 0 ∧ n = 8 ∨ (4 : Nat) = 1 ∧ t = 5) by simp [m60])]
      obtain ⟨I6, e6, m6⟩ := e233 (J := J) m3 (rI_l hiL (by omega)).2
      have g6 := (fr_233 _ _ _ e6).1
      obtain ⟨b1, b2⟩ := m237_4 (J := J) (st := pm_nxt c L st) (i := st) m6 rfl hiL cs (MD_4 D3 g6 rfl)
      simp only [zt_bind, at3, v3, Bool.false_eq_true, Bool.true_eq_false, if_true, if_false, w2, w4, w8, w10, p2, p4, p8, p10, m60e, y2, y4, y6, y8, y10, row, m60, e6]
      rw [nI_1]
      exact t221 b1 b2 (fun I' e => ag_trans (ag_trans G3 g6 (by simp) (zt_subF rfl)) (fr_237 _ _ _ e).1 (by simp) (zt_subF rfl))
  · obtain ⟨y2, y4, y6, y8, y10⟩ := rI_w.2.2.2.2.2 cs
    rw [cs]
    have row : f230 (nI (pm_wv c L st)) I3 J = some (false, I3, J) := by
      unfold f230
      simp only [zt_bind, Bool.false_eq_true, if_false, w2, w4, w8, w10, p2, p4, p8, p10, y2, y4, y6, y8, y10]
    simp only [zt_bind, at3, v3, Bool.false_eq_true, Bool.true_eq_false, if_true, if_false, w2, w4, w8, w10, p2, p4, p8, p10, m60e, y2, y4, y6, y8, y10, row, e5', v5, r5, s5]
    exact ⟨end1, fun i' n' t' D' z => (by cases z)⟩
/-- the register, clause by clause -/
theorem w221 {c : Nat → Nat} {L : Nat} : ∀ d i m n t a fu : Nat, ∀ (D : Nat → Nat → Nat) (I : Nat → Nat → Int32), m + d = 61 → m ≤ 60 → d + 1 < fu → i = pm_sk c (L - a) a → pm_MF c L a I → pm_MD n t D I → (∀ q p, pm_rgs c L d i m n t D = .inl (q, p) → ∃ I', f221_44 fu (nI m) I J = some (nI q - 10, I', J) ∧ I' 127 8 = nI p ∧ pm_ag [130, 131] [(127, 4), (127, 5), (127, 6), (127, 8), (127, 14), (127, 15), (127, 16), (127, 17)] I I') ∧ (∀ n' t' D', pm_rgs c L d i m n t D = .inr (n', t', D') → ∃ I', f221_44 fu (nI m) I J = (f217 I' J).bind (fun (ov, I86, J87) => some (nI n', I86, J87)) ∧ I' 127 8 = -1 ∧ pm_MD n' t' D' I' ∧ pm_ag [130, 131] [(127, 4), (127, 5), (127, 6), (127, 8), (127, 14), (127, 15), (127, 16), (127, 17)] I I') := by
  intro d
  induction d with
  | zero =>
    intro i m n t a fu D I hm h60 hf hi h hD
    omega
  | succ d ih =>
    intro i m n t a fu D I hm h60 hf hi h hD
    obtain ⟨fu, rfl⟩ : ∃ k, fu = k + 2 := ⟨fu - 2, by omega⟩
    rw [pm_rgs]
    by_cases b : i < L
    · rw [if_pos b]
      obtain ⟨g1, g2⟩ := r221 (J := J) (m := m) (fu := fu) h hi b hD h60
      cases y : pm_rcl c L (decide (m = 60)) i n t D with
      | inl f =>
        obtain ⟨q, p⟩ := f
        refine ⟨fun q' p' z => ?_, fun n' t' D' z => (by cases z)⟩
        cases z
        exact g1 q p y
      | inr f =>
        obtain ⟨i', n', t', D'⟩ := f
        obtain ⟨I1, a1, e1, m1, ha1, d1, G1⟩ := g2 i' n' t' D' y
        have m59 : m ≠ 60 := fun e => by
          obtain ⟨q, p, z⟩ := rcl_f c L i n t D
          rw [decide_eq_true e, z] at y
          cases y
        obtain ⟨r1, r2⟩ := ih i' (m + 1) n' t' a1 (fu + 1) D' I1 (by omega) (by omega) (by omega) ha1 m1 d1
        rw [e1]
        refine ⟨fun q p z => ?_, fun n'' t'' D'' z => ?_⟩
        · obtain ⟨I2, e2, p2, G2⟩ := r1 q p z
          exact ⟨I2, e2, p2, ag_trans G1 G2 (by simp) (by simp)⟩
        · obtain ⟨I2, e2, p2, d2, G2⟩ := r2 n'' t'' D'' z
          exact ⟨I2, e2, p2, d2, ag_trans G1 G2 (by simp) (by simp)⟩
    · rw [if_neg b]
      refine ⟨fun q p z => (by cases z), fun n' t' D' z => ?_⟩
      cases z
      obtain ⟨I1, e1, m1⟩ := e225 (J := J) h hi
      have g1 := (fr_225 _ _ _ e1).1
      have d1 := MD_4 hD g1 rfl
      have g2 : pm_ag [] [(127, 8)] I1 (pm_w I1 127 8 (-1)) := ag_w ag_refl (by simp)
      refine ⟨pm_w I1 127 8 (-1), ?_, zt_ws, MD_4 d1 g2 rfl, ag_w (ag_mono g1 (by simp) (zt_subF rfl)) (by simp)⟩
      rw [f221_44, v224f h, if_pos rfl, e1, zt_bind]
      dsimp only
      rw [decide_eq_false b, if_neg (by decide), d1.2.1.1, e239f m1, zt_bind]
      dsimp only
      rw [if_pos (show pm_w I1 127 8 (-1) 127 5 = -1 by rw [zt_w2 (by omega)]; exact m1.2.2.2)]
end Re
