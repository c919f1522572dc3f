/-! A WEEK GOES BY -/
def pm_CQ (r n t : Nat) (D : Nat → Nat → Nat) (l0 : Nat) (k0 : Nat → Nat) (l1 : Nat) (k1 : Nat → Nat) (I : Nat → Nat → Int32) : Prop := pm_CR r n t D I ∧ pm_DR n t D ∧ pm_CL 6 l0 k0 I ∧ pm_CL 9 l1 k1 I ∧ pm_wf l0 k0 ∧ pm_wf l1 k1
def pm_MQ (n t : Nat) (D : Nat → Nat → Nat) (l0 : Nat) (k0 : Nat → Nat) (l1 : Nat) (k1 : Nat → Nat) (I : Nat → Nat → Int32) : Prop := pm_MR n t D I ∧ pm_DR n t D ∧ pm_ML 0 l0 k0 I ∧ pm_ML 1 l1 k1 I ∧ pm_wf l0 k0 ∧ pm_wf l1 k1
theorem CQ_ag {r n t l0 l1 : Nat} {D : Nat → Nat → Nat} {k0 k1 : Nat → Nat} {I I' : Nat → Nat → Int32} {A : List Nat} {F : List (Nat × Nat)} (h : pm_CQ r n t D l0 k0 l1 k1 I) (g : pm_ag A F I I') (ok : pm_okA [6, 7, 9, 10, 15, 16, 17, 18, 19, 20, 21, 22, 113, 114, 115, 116, 117, 118, 119, 120] [] A F = true) : pm_CQ r n t D l0 k0 l1 k1 I' := by
  obtain ⟨h1, h2, h3, h4, h5, h6⟩ := h
  have q := (ag_p ok g).1
  refine ⟨CR_cell h1 (fun j hj => q _ ?_), h2, CL_ag h3 (q _ (by decide)) (q _ (by decide)), CL_ag h4 (q _ (by decide)) (q _ (by decide)), h5, h6⟩
  have c : j = 0 ∨ j = 1 ∨ j = 2 ∨ j = 3 ∨ j = 4 ∨ j = 5 ∨ j = 6 ∨ j = 7 := by omega
  rcases h1.1 with rfl | rfl <;> rcases c with rfl | rfl | rfl | rfl | rfl | rfl | rfl | rfl <;> decide
theorem MQ_ag {n t l0 l1 : Nat} {D : Nat → Nat → Nat} {k0 k1 : Nat → Nat} {I I' : Nat → Nat → Int32} {A : List Nat} {F : List (Nat × Nat)} (h : pm_MQ n t D l0 k0 l1 k1 I) (g : pm_ag A F I I') (ok : pm_okA [132, 133, 136, 137, 138] [(127, 18), (127, 19), (127, 20)] A F = true) : pm_MQ n t D l0 k0 l1 k1 I' := by
  obtain ⟨h1, h2, h3, h4, h5, h6⟩ := h
  obtain ⟨q, q2⟩ := ag_p ok g
  exact ⟨MR_cell h1 (q2 _ _ (by decide)) (q2 _ _ (by decide)) (q2 _ _ (by decide)) (q _ (by decide)) (q _ (by decide)), h2, ML_cell h3 (q _ (by decide)) (q _ (by decide)) (q _ (by decide)), ML_cell h4 (q _ (by decide)) (q _ (by decide)) (q _ (by decide)), h5, h6⟩
/-- the law by number -/
def pm_lw {α : Type} (x : Nat) (a b : α) : α := if x = 0 then a else b
theorem MQ_ML {n t l0 l1 x : Nat} {D : Nat → Nat → Nat} {k0 k1 : Nat → Nat} {I : Nat → Nat → Int32} (h : pm_MQ n t D l0 k0 l1 k1 I) (hx : x < 2) : pm_ML x (pm_lw x l0 l1) (pm_lw x k0 k1) I ∧ pm_wf (pm_lw x l0 l1) (pm_lw x k0 k1) := by
  have c : x = 0 ∨ x = 1 := by omega
  rcases c with rfl | rfl
  · exact ⟨h.2.2.1, h.2.2.2.2.1⟩
  · exact ⟨h.2.2.2.1, h.2.2.2.2.2⟩
theorem CQ_CL {r n t l0 l1 x : Nat} {D : Nat → Nat → Nat} {k0 k1 : Nat → Nat} {I : Nat → Nat → Int32} (h : pm_CQ r n t D l0 k0 l1 k1 I) (hx : x < 2) : pm_CL (if x = 0 then 6 else 9) (pm_lw x l0 l1) (pm_lw x k0 k1) I ∧ pm_wf (pm_lw x l0 l1) (pm_lw x k0 k1) := by
  have c : x = 0 ∨ x = 1 := by omega
  rcases c with rfl | rfl
  · exact ⟨h.2.2.1, h.2.2.2.2.1⟩
  · exact ⟨h.2.2.2.1, h.2.2.2.2.2⟩
/-- one eats, or serves -/
def pm_e1 (w : Nat → Int32) (i : Nat) : Nat → Int32 := if w i = nI 2 then upd w (16 + i) (w (16 + i) + nI 1) else if w i = nI 0 then (if 0 < (w 65).toInt then upd w 65 (w 65 - nI 1) else upd w (32 + i) (w (32 + i) + nI 1)) else w
def pm_p1 (w : Nat → Int32) : Nat → (Nat → Int32)
  | 0 => w
  | i + 1 => pm_e1 (pm_p1 w i) i
/-- how many are hungry in a week -/
def pm_ph (w : Nat → Int32) : Nat → Nat
  | 0 => 0
  | i + 1 => pm_ph w i + (if w i = nI 0 ∧ ¬ 0 < (pm_p1 w i 65).toInt then 1 else 0)
def pm_e3 (l : Nat) (k : Nat → Nat) (D : Nat → Nat → Nat) (n : Nat) (w : Nat → Int32) (i : Nat) : Nat → Int32 := if w i = nI 2 ∧ pm_oW l k D n w i = nI 0 then upd (upd w i (nI 3)) (8 + i) pm_m1 else w
def pm_p3 (l : Nat) (k : Nat → Nat) (D : Nat → Nat → Nat) (n : Nat) (w : Nat → Int32) : Nat → (Nat → Int32)
  | 0 => w
  | i + 1 => pm_e3 l k D n (pm_p3 l k D n w i) i
def pm_p2 (w : Nat → Int32) (n : Nat) : Nat → Int32 := upd (pm_p1 w n) 64 (pm_p1 w n 64 + nI 1)
def pm_pass (l : Nat) (k : Nat → Nat) (D : Nat → Nat → Nat) (n : Nat) (w : Nat → Int32) : Nat → Int32 := pm_p3 l k D n (pm_p2 w n) n
theorem p1_lo (w : Nat → Int32) : ∀ i, i ≤ 8 → ∀ j, j < 16 → pm_p1 w i j = w j := by
  intro i
  induction i with
  | zero => intro _ j _; rfl
  | succ i ih =>
    intro hi j hj
    have a := ih (by omega)
    unfold pm_p1 pm_e1
    split
    · rw [zt_un (by omega), a j hj]
    · split
      · split
        · rw [zt_un (by omega), a j hj]
        · rw [zt_un (by omega), a j hj]
      · exact a j hj
theorem ms_up {n : Nat} {v w : Nat → Int32} (h : pm_ms n v w) {i : Nat} {x : Int32} (hi : i < 48 ∨ i = 64 ∨ i = 65) : pm_ms n (upd v i x) (upd w i x) := by
  obtain ⟨h1, h2, h3, h4⟩ := h
  unfold pm_ms upd
  refine ⟨fun j hj => ?_, fun p hp => ?_, ?_, ?_⟩
  · split
    · rfl
    · exact h1 j hj
  · rw [if_neg (by omega), if_neg (by omega), if_neg (by omega), if_neg (by omega)]
    exact h2 p hp
  · split
    · rfl
    · exact h3
  · split
    · rfl
    · exact h4
section W
variable {J : Nat → Nat → Int64}
theorem zt_w2 {I : Nat → Nat → Int32} {a b f g : Nat} {x : Int32} (h : ¬ (b = a ∧ g = f)) : pm_w I a f x b g = I b g := by
  by_cases e : b = a
  · subst e
    exact zt_wf (fun e2 => h ⟨rfl, e2⟩)
  · rw [zt_wc e]
theorem l272b {n t l0 l1 x : Nat} {D : Nat → Nat → Nat} {k0 k1 : Nat → Nat} {w : Nat → Int32} (hx : x < 2) : ∀ (d i fu : Nat) (I : Nat → Nat → Int32), i + d = n → d < fu → pm_MQ n t D l0 k0 l1 k1 I → I 127 40 = nI x → pm_ms n (I 144) (pm_p3 (pm_lw x l0 l1) (pm_lw x k0 k1) D n w i) → ∃ I', f272_L fu 1 (nI i) I J = some ((), I', J) ∧ pm_ms n (I' 144) (pm_p3 (pm_lw x l0 l1) (pm_lw x k0 k1) D n w n) ∧ pm_ag [139, 140, 144] [] I I' := by
  intro d
  induction d with
  | zero =>
    intro i fu I hi hf hQ hru hs
    obtain ⟨fu, rfl⟩ : ∃ k, fu = k + 1 := ⟨fu - 1, by omega⟩
    have h8 := hQ.1.2.2.2.1
    refine ⟨I, ?_, ?_, ag_refl⟩
    · rw [f272_L, hQ.1.1, if_neg (by rw [nI_toInt (by omega), nI_toInt (by omega)]; omega)]
    · rw [show i = n by omega] at hs; exact hs
  | succ d ih =>
    intro i fu I hi hf hQ hru hs
    obtain ⟨fu, rfl⟩ : ∃ k, fu = k + 1 := ⟨fu - 1, by omega⟩
    have h8 := hQ.1.2.2.2.1
    have hn := hQ.1.1
    have a0 := hs.1 i (by omega)
    rw [f272_L]
    simp (disch := omega) only [hn, zt_lit, zt_m1, nI_add, Nat.zero_add, zt_lt, zt_in, zt_gd, nI_clamp, a0, if_pos]
    by_cases c : pm_p3 (pm_lw x l0 l1) (pm_lw x k0 k1) D n w i i = nI 2
    · obtain ⟨m1, m2⟩ := MQ_ML hQ hx
      obtain ⟨I1, e1⟩ := e263 (J := J) (p := i) hQ.1 hQ.2.1 (by omega) hx hru m1 m2 hs
      have g1 := (fr_263 _ _ _ e1).1
      have g144 : I1 144 = I 144 := ag_cell g1 (by decide) (by intro f; simp)
      have hs1 : pm_ms n (I1 144) (pm_p3 (pm_lw x l0 l1) (pm_lw x k0 k1) D n w i) := by rw [g144]; exact hs
      have hru1 : I1 127 40 = nI x := by rw [g1 127 40 (by decide) (by simp)]; exact hru
      rw [if_pos c, e1, zt_bind]
      by_cases c2 : pm_oW (pm_lw x l0 l1) (pm_lw x k0 k1) D n (pm_p3 (pm_lw x l0 l1) (pm_lw x k0 k1) D n w i) i = nI 0
      · have e2 : f271 (nI i) I1 J = some ((), pm_w (pm_w I1 144 i (nI 3)) 144 (8 + i) pm_m1, J) := by
          unfold f271
          simp (disch := omega) only [zt_lit, zt_m1, nI_add, Nat.zero_add, zt_in, zt_gd, nI_clamp, pm_lt]
        have hs2 : pm_ms n (pm_w (pm_w I1 144 i (nI 3)) 144 (8 + i) pm_m1 144) (pm_p3 (pm_lw x l0 l1) (pm_lw x k0 k1) D n w (i + 1)) := by
          rw [zt_wr, zt_wr, pm_p3, pm_e3, if_pos ⟨c, c2⟩]
          exact ms_up (ms_up hs1 (by omega)) (by omega)
        have g2 : pm_ag [139, 140, 144] [] I (pm_w (pm_w I1 144 i (nI 3)) 144 (8 + i) pm_m1) := ag_w (ag_w (ag_mono g1 (by decide) (by decide)) (by simp)) (by simp)
        obtain ⟨I', r1, r2, r3⟩ := ih (i + 1) fu _ (by omega) (by omega) (MQ_ag hQ g2 (by decide)) (by rw [g2 127 40 (by decide) (by simp)]; exact hru) hs2
        refine ⟨I', ?_, r2, ag_trans g2 r3 (fun _ h => h) (fun _ h => h)⟩
        simp only [c2, if_true, e2, zt_bind]
        exact r1
      · have hs2 : pm_ms n (I1 144) (pm_p3 (pm_lw x l0 l1) (pm_lw x k0 k1) D n w (i + 1)) := by
          rw [pm_p3, pm_e3, if_neg (fun h => c2 h.2)]
          exact hs1
        have g2 : pm_ag [139, 140, 144] [] I I1 := ag_mono g1 (by decide) (by decide)
        obtain ⟨I', r1, r2, r3⟩ := ih (i + 1) fu _ (by omega) (by omega) (MQ_ag hQ g2 (by decide)) hru1 hs2
        refine ⟨I', ?_, r2, ag_trans g2 r3 (fun _ h => h) (fun _ h => h)⟩
        simp only [c2, if_false]
        exact r1
    · have hs2 : pm_ms n (I 144) (pm_p3 (pm_lw x l0 l1) (pm_lw x k0 k1) D n w (i + 1)) := by
        rw [pm_p3, pm_e3, if_neg (fun h => c h.1)]
        exact hs
      obtain ⟨I', r1, r2, r3⟩ := ih (i + 1) fu _ (by omega) (by omega) hQ hru hs2
      refine ⟨I', ?_, r2, r3⟩
      rw [if_neg c]
      exact r1
theorem l272a {n t l0 l1 x : Nat} {D : Nat → Nat → Nat} {k0 k1 : Nat → Nat} {w : Nat → Int32} {c1 c2 : Int32} (hx : x < 2) : ∀ (d i fu : Nat) (I : Nat → Nat → Int32), i + d = n → d + n + 2 < fu → pm_MQ n t D l0 k0 l1 k1 I → I 127 40 = nI x → pm_ms n (I 144) (pm_p1 w i) → I 127 41 = c1 + nI (pm_ph w i) → I 127 42 = c2 + nI (pm_cnt (fun p => decide (w p = nI 2)) i) → ∃ I', f272_L fu 0 (nI i) I J = some ((), I', J) ∧ pm_ms n (I' 144) (pm_pass (pm_lw x l0 l1) (pm_lw x k0 k1) D n w) ∧ I' 127 41 = c1 + nI (pm_ph w n) ∧ I' 127 42 = c2 + nI (pm_cnt (fun p => decide (w p = nI 2)) n) ∧ pm_ag [139, 140, 144] [(127, 41), (127, 42)] I I' := by
  intro d
  induction d with
  | zero =>
    intro i fu I hi hf hQ hru hs hc1 hc2
    obtain ⟨fu, rfl⟩ : ∃ k, fu = k + 1 := ⟨fu - 1, by omega⟩
    have h8 := hQ.1.2.2.2.1
    have hn := hQ.1.1
    have e : i = n := by omega
    subst e
    have g2 : pm_ag [139, 140, 144] [] I (pm_w I 144 64 (I 144 64 + nI 1)) := ag_w ag_refl (by simp)
    have hs2 : pm_ms i (pm_w I 144 64 (I 144 64 + nI 1) 144) (pm_p2 w i) := by
      rw [zt_wr]
      unfold pm_p2
      rw [hs.2.2.1]
      exact ms_up hs (by omega)
    obtain ⟨I', r1, r2, r3⟩ := l272b (J := J) (w := pm_p2 w i) hx i 0 fu (pm_w I 144 64 (I 144 64 + nI 1)) (by omega) (by omega) (MQ_ag hQ g2 (by decide)) (by rw [g2 127 40 (by decide) (by simp)]; exact hru) hs2
    have g3 := ag_trans g2 r3 (fun _ h => h) (fun _ h => h)
    refine ⟨I', ?_, r2, ?_, ?_, ag_mono g3 (fun _ h => h) (by intro _ h; cases h)⟩
    · rw [f272_L]
      simp (disch := omega) only [hn, zt_lit, zt_lt, zt_in, zt_gd, nI_clamp, if_neg, pm_lt]
      exact r1
    · rw [g3 127 41 (by decide) (by simp)]; exact hc1
    · rw [g3 127 42 (by decide) (by simp)]; exact hc2
  | succ d ih =>
    intro i fu I hi hf hQ hru hs hc1 hc2
    obtain ⟨fu, rfl⟩ : ∃ k, fu = k + 1 := ⟨fu - 1, by omega⟩
    have h8 := hQ.1.2.2.2.1
    have hn := hQ.1.1
    have a0 := hs.1 i (by omega)
    have a1 := hs.1 (16 + i) (by omega)
    have a2 := hs.1 (32 + i) (by omega)
    have a3 := hs.2.2.2
    have b0 := p1_lo w i (by omega) i (by omega)
    rw [b0] at a0
    have go : ∀ I1 : Nat → Nat → Int32, pm_ag [139, 140, 144] [(127, 41), (127, 42)] I I1 → pm_ms n (I1 144) (pm_p1 w (i + 1)) → I1 127 41 = c1 + nI (pm_ph w (i + 1)) → I1 127 42 = c2 + nI (pm_cnt (fun p => decide (w p = nI 2)) (i + 1)) → ∃ I', f272_L fu 0 (nI (i + 1)) I1 J = some ((), I', J) ∧ pm_ms n (I' 144) (pm_pass (pm_lw x l0 l1) (pm_lw x k0 k1) D n w) ∧ I' 127 41 = c1 + nI (pm_ph w n) ∧ I' 127 42 = c2 + nI (pm_cnt (fun p => decide (w p = nI 2)) n) ∧ pm_ag [139, 140, 144] [(127, 41), (127, 42)] I I' := by
      intro I1 g1 s1 s2 s3
      obtain ⟨I', r1, r2, r3, r4, r5⟩ := ih (i + 1) fu I1 (by omega) (by omega) (MQ_ag hQ g1 (by decide)) (by rw [g1 127 40 (by decide) (by decide)]; exact hru) s1 s2 s3
      exact ⟨I', r1, r2, r3, r4, ag_trans g1 r5 (fun _ h => h) (fun _ h => h)⟩
    rw [f272_L]
    by_cases c : w i = nI 2
    · have hph : pm_ph w (i + 1) = pm_ph w i := by
        rw [pm_ph, if_neg (by rw [c]; intro h; exact absurd h.1 (by decide)), Nat.add_zero]
      have hcn : pm_cnt (fun p => decide (w p = nI 2)) (i + 1) = pm_cnt (fun p => decide (w p = nI 2)) i + 1 := by
        rw [pm_cnt]; simp [c]
      have hp1 : pm_p1 w (i + 1) = upd (pm_p1 w i) (16 + i) (pm_p1 w i (16 + i) + nI 1) := by
        rw [pm_p1, pm_e1, b0, if_pos c]
      have h20 : ¬ nI 2 = nI 0 := by decide
      simp (disch := omega) only [hn, zt_lit, nI_add, Nat.zero_add, zt_lt, zt_in, zt_gd, nI_clamp, a0, a1, c, if_true, if_pos, pm_lt, zt_wf, zt_wc, zt_w2, h20, if_false]
      refine go _ (ag_w (ag_w ag_refl (by simp)) (by simp)) ?_ ?_ ?_
      · rw [zt_wc (by omega), zt_wr, hp1]
        exact ms_up hs (by omega)
      · rw [zt_w2 (by omega), zt_w2 (by omega), hph]
        exact hc1
      · rw [zt_ws, hc2, hcn, Int32.add_assoc, nI_add]
    · by_cases c0 : w i = nI 0
      · have hcn : pm_cnt (fun p => decide (w p = nI 2)) (i + 1) = pm_cnt (fun p => decide (w p = nI 2)) i := by
          rw [pm_cnt]; simp [c]
        have h02 : ¬ nI 0 = nI 2 := by decide
        by_cases c3 : 0 < (pm_p1 w i 65).toInt
        · have hph : pm_ph w (i + 1) = pm_ph w i := by
            rw [pm_ph, if_neg (fun h => h.2 c3), Nat.add_zero]
          have hp1 : pm_p1 w (i + 1) = upd (pm_p1 w i) 65 (pm_p1 w i 65 - nI 1) := by
            rw [pm_p1, pm_e1, b0, if_neg c, if_pos c0, if_pos c3]
          simp (disch := omega) only [hn, zt_lit, nI_add, Nat.zero_add, zt_lt, zt_in, zt_gd, nI_clamp, a0, a1, a3, c0, h02, if_true, if_false, if_pos, pm_lt, c3]
          refine go _ (ag_w ag_refl (by simp)) ?_ ?_ ?_
          · rw [zt_wr, hp1]
            exact ms_up hs (by omega)
          · rw [zt_w2 (by omega), hph]
            exact hc1
          · rw [zt_w2 (by omega), hc2, hcn]
        · have hph : pm_ph w (i + 1) = pm_ph w i + 1 := by
            rw [pm_ph, if_pos ⟨c0, c3⟩]
          have hp1 : pm_p1 w (i + 1) = upd (pm_p1 w i) (32 + i) (pm_p1 w i (32 + i) + nI 1) := by
            rw [pm_p1, pm_e1, b0, if_neg c, if_pos c0, if_neg c3]
          simp (disch := omega) only [hn, zt_lit, nI_add, Nat.zero_add, zt_lt, zt_in, zt_gd, nI_clamp, a0, a1, a2, a3, c0, h02, if_true, if_false, if_pos, pm_lt, c3]
          refine go _ (ag_w (ag_w ag_refl (by simp)) (by simp)) ?_ ?_ ?_
          · rw [zt_wc (by omega), zt_wr, hp1]
            exact ms_up hs (by omega)
          · rw [zt_ws, zt_w2 (by omega), hc1, hph, Int32.add_assoc, nI_add]
          · rw [zt_w2 (by omega), zt_w2 (by omega), hc2, hcn]
      · have hcn : pm_cnt (fun p => decide (w p = nI 2)) (i + 1) = pm_cnt (fun p => decide (w p = nI 2)) i := by
          rw [pm_cnt]; simp [c]
        have hph : pm_ph w (i + 1) = pm_ph w i := by
          rw [pm_ph, if_neg (fun h => c0 h.1), Nat.add_zero]
        have hp1 : pm_p1 w (i + 1) = pm_p1 w i := by
          rw [pm_p1, pm_e1, b0, if_neg c, if_neg c0]
        simp (disch := omega) only [hn, zt_lit, nI_add, Nat.zero_add, zt_lt, zt_in, zt_gd, nI_clamp, a0, c, c0, if_false, if_pos]
        refine go _ ag_refl ?_ ?_ ?_
        · rw [hp1]; exact hs
        · rw [hph]; exact hc1
        · rw [hcn]; exact hc2
theorem e272 {n t l0 l1 x : Nat} {D : Nat → Nat → Nat} {k0 k1 : Nat → Nat} {w : Nat → Int32} {I : Nat → Nat → Int32} (hx : x < 2) (hQ : pm_MQ n t D l0 k0 l1 k1 I) (hru : I 127 40 = nI x) (hs : pm_ms n (I 144) w) : ∃ I', f272 I J = some ((), I', J) ∧ pm_ms n (I' 144) (pm_pass (pm_lw x l0 l1) (pm_lw x k0 k1) D n w) ∧ I' 127 41 = I 127 41 + nI (pm_ph w n) ∧ I' 127 42 = I 127 42 + nI (pm_cnt (fun p => decide (w p = nI 2)) n) ∧ pm_ag [139, 140, 144] [(127, 41), (127, 42)] I I' := by
  have h8 := hQ.1.2.2.2.1
  unfold f272
  exact l272a hx n 0 pm_FU I (by omega) (by unfold pm_FU; omega) hQ hru hs (by rw [pm_ph, nI_0, Int32.add_zero]) (by rw [pm_cnt, nI_0, Int32.add_zero])
end W
