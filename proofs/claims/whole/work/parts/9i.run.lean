/-! WORK: how steps told run, the reference -/
section Gc
variable {J : Nat → Nat → Int64} {n t l0 l1 : Nat} {k0 k1 : Nat → Nat} {D : Nat → Nat → Nat} {K A B E : Nat → Nat}
theorem x_m {m : Nat} (hm : m ≤ 50) : ∀ (d o i e : Nat) (s : (Nat → Int32) × Nat × Nat × Nat) (I : Nat → Nat → Int32) (fu dep : Nat), e ≤ m → i ≤ 50 → o ≤ 6 → pm_wpg n t K A B E d o i e → pm_sO n s → pm_MQ n t D l0 k0 l1 k1 I → pm_Ms 142 m K A B E I → pm_Mst n s I → 65 * d + 1 ≤ fu → (6 - o) + 1 ≤ dep → ∃ I', g254 fu dep 1 0 (nI (3 * e)) (nI (3 * i)) 0 0 I J = some ((), I', J) ∧ pm_Mst n (pm_xp (fun i w => pm_go l0 k0 D n (K i) (A i) (B i) w) K B E d i e s) I' ∧ pm_MQ n t D l0 k0 l1 k1 I' ∧ pm_Ms 142 m K A B E I' := by
  have i200 : ((200 : Int32)).toInt = 200 := by decide
  intro d
  induction d with
  | zero =>
    intro o i e s I fu dep he hi ho hw hs hQ hC hS hf hd
    obtain ⟨fu, rfl⟩ : ∃ k, fu = k + 1 := ⟨fu - 1, by omega⟩
    obtain ⟨dep, rfl⟩ : ∃ k, dep = k + 1 := ⟨dep - 1, by omega⟩
    have hw' : e ≤ i := hw
    refine ⟨I, ?_, hS, hQ, hC⟩
    rw [g254, nI_toInt (by omega), nI_toInt (by omega), if_neg (by omega)]
  | succ d ih =>
    intro o i e s I fu dep he hi ho hw hs hQ hC hS hf hd
    obtain ⟨fu, rfl⟩ : ∃ k, fu = k + 1 := ⟨fu - 1, by omega⟩
    obtain ⟨dep, rfl⟩ : ∃ k, dep = k + 1 := ⟨dep - 1, by omega⟩
    have h8 := hQ.1.2.2.2.1
    obtain ⟨s1, s2, s3, s4, s5⟩ := id hS
    obtain ⟨o1, o2, o3, o4⟩ := id hs
    have j1 : ∀ i : Nat, nI (3 * i) + 1 = nI (3 * i + 1) := fun i => nI_1 _
    have j2 : ∀ i : Nat, nI (3 * i) + 2 = nI (3 * i + 2) := fun i => nI_add _ 2
    have j3 : ∀ i : Nat, nI (3 * i) + 3 = nI (3 * (i + 1)) := fun i => nI_add _ 3
    rw [pm_xp, g254, nI_toInt (by omega), nI_toInt (by omega)]
    by_cases c1 : i < e
    · rw [if_pos (show ((3 * i : Nat) : Int) < (3 * e : Nat) by omega), s2, i200, nI_toInt (by omega)]
      by_cases c2 : s.2.1 < 200
      · rw [if_pos (show ((s.2.1 : Nat) : Int) < 200 by omega), if_pos ⟨c1, c2⟩, pm_lt_eq, nI_1]
        rw [pm_wpg] at hw
        obtain ⟨w1, w2⟩ := hw c1
        obtain ⟨q1, q2, q3⟩ := hC i (by omega)
        have G3 : pm_ag [139, 140, 144] [(127, 34), (127, 35), (127, 36), (127, 41), (127, 42)] I (pm_w I 127 34 (nI (s.2.1 + 1))) := ag_w ag_refl (by simp)
        have Q3 : pm_MQ n t D l0 k0 l1 k1 (pm_w I 127 34 (nI (s.2.1 + 1))) := MQ_ag hQ G3 (by decide)
        have c142 : pm_w I 127 34 (nI (s.2.1 + 1)) 142 = I 142 := zt_wc (by decide)
        have C3 : pm_Ms 142 m K A B E (pm_w I 127 34 (nI (s.2.1 + 1))) := by
          unfold pm_Ms
          rw [c142]
          exact hC
        have S3 : pm_Mst n (s.1, s.2.1 + 1, s.2.2.1, s.2.2.2) (pm_w I 127 34 (nI (s.2.1 + 1))) := ⟨by rw [zt_wc (by decide)]; exact s1, zt_ws, by rw [zt_w2 (by omega)]; exact s3, by rw [zt_w2 (by omega)]; exact s4, by rw [zt_w2 (by omega)]; exact s5⟩
        rw [j1, j2, j3, zt_in (by omega) (by omega), zt_in (by omega) (by omega), zt_in (by omega) (by omega)]
        simp only [zt_gd]
        rw [nI_clamp (by omega), nI_clamp (by omega), nI_clamp (by omega), c142, q1, q2, q3]
        by_cases k : K i = 8
        · obtain ⟨p1, p2, p3, p4, p5, p6⟩ := w1 k
          rw [if_pos (show nI (K i) = 8 by rw [k]; rfl), if_pos k, if_pos k]
          have l3 : ∀ (c y : Nat) (s : (Nat → Int32) × Nat × Nat × Nat) (I : Nat → Nat → Int32) (fu : Nat), y + c = B i → 65 * d + 3 + c ≤ fu → pm_sO n s → pm_MQ n t D l0 k0 l1 k1 I → pm_Ms 142 m K A B E I → pm_Mst n s I → ∃ I', g254 fu (dep + 1) 2 0 (nI (3 * e)) (nI (3 * i)) (nI (3 * E i)) (nI y) I J = some ((), I', J) ∧ pm_Mst n (pm_xp (fun i w => pm_go l0 k0 D n (K i) (A i) (B i) w) K B E d (E i) e (pm_it (pm_xp (fun i w => pm_go l0 k0 D n (K i) (A i) (B i) w) K B E d (i + 1) (E i)) c s)) I' ∧ pm_MQ n t D l0 k0 l1 k1 I' ∧ pm_Ms 142 m K A B E I' := by
            intro c
            induction c with
            | zero =>
              intro y s I fu hy hf hs hQ hC hS
              obtain ⟨fu, rfl⟩ : ∃ k, fu = k + 1 := ⟨fu - 1, by omega⟩
              have qq := (hC i (by omega)).2.1
              rw [if_pos k] at qq
              rw [g254, j1, zt_in (by omega) (by omega), zt_gd, nI_clamp (by omega), qq, nI_toInt (by omega), nI_toInt (by omega), if_neg (by omega)]
              exact ih o (E i) e s I fu (dep + 1) he (by omega) ho p6 hs hQ hC hS (by omega) (by omega)
            | succ c ihc =>
              intro y s I fu hy hf hs hQ hC hS
              obtain ⟨fu, rfl⟩ : ∃ k, fu = k + 2 := ⟨fu - 2, by omega⟩
              obtain ⟨s1, s2, s3, s4, s5⟩ := id hS
              have hg := hs.2.1
              have qq := (hC i (by omega)).2.1
              rw [if_pos k] at qq
              rw [pm_it, g254, j1, j3, zt_in (by omega) (by omega), zt_gd, nI_clamp (by omega), qq, nI_toInt (by omega), nI_toInt (by omega), if_pos (by omega), s2, i200, nI_toInt (by omega), nI_1]
              by_cases c2 : s.2.1 < 200
              · obtain ⟨dep, rfl⟩ : ∃ k, dep = k + 1 := ⟨dep - 1, by omega⟩
                obtain ⟨I1, e1, S1, Q1, C1⟩ := ih (o + 1) (i + 1) (E i) s I fu (dep + 1) (by omega) (by omega) (by omega) p5 hs hQ hC hS (by omega) (by omega)
                have e0 : g254 (fu + 1) (dep + 1) 0 (nI (3 * (i + 1))) (nI (3 * E i)) 0 0 0 I J = some ((), I1, J) := by
                  rw [g254]
                  exact e1
                rw [if_pos (by omega), if_pos c2, e0, zt_bind]
                exact ihc (y + 1) _ I1 (fu + 1) (by omega) (by omega) (sO_xp h8 d (o + 1) (i + 1) (E i) s p5 hs) Q1 C1 S1
              · rw [if_neg (by omega), if_neg c2]
                exact ih o (E i) e s I (fu + 1) (dep + 1) he (by omega) ho p6 hs hQ hC hS (by omega) (by omega)
          have r := l3 (B i) 0 _ _ fu (by omega) (by omega) (sO_1 hs c2) Q3 C3 S3
          rw [nI_0] at r
          exact r
        · obtain ⟨p1, p2, p3⟩ := w2 k
          have k8 := p2.1
          obtain ⟨I1, e1, r1⟩ := m_go (J := J) (K := K i) (a := A i) (b := B i) Q3 o1 p2 S3.2.2.2.2 S3.1
          have g1 := (fr_255 _ _ _ e1).1
          rw [if_neg (show ¬ nI (K i) = 8 by rw [zt_lit 8, zt_eq (by omega) (by omega)]; exact k), if_neg k, if_neg k, if_neg k, e1, zt_bind]
          dsimp only
          have f127 : ∀ f, f = 34 ∨ f = 35 ∨ f = 36 ∨ f = 40 → I1 127 f = pm_w I 127 34 (nI (s.2.1 + 1)) 127 f := fun f hf => g1 127 f (by decide) (by rcases hf with rfl | rfl | rfl | rfl <;> decide)
          have sO' := sO_g (t := t) (l0 := l0) (k0 := k0) (D := D) (K := K) (A := A) (B := B) (i := i) h8 hs c2 p2
          have c1' : I1 142 = I 142 := by rw [ag_cell g1 (by decide) (by intro f; simp)]; exact c142
          have Q1 := MQ_ag Q3 g1 (by decide)
          have nxt : pm_wpg n t K A B E d o (i + 1) e := p3
          have fin : ∀ (f : Nat) (x : Int32), (f = 35 ∨ f = 36) → pm_Mst n ((pm_go l0 k0 D n (K i) (A i) (B i) s.1).2, s.2.1 + 1, (if (pm_go l0 k0 D n (K i) (A i) (B i) s.1).1 = true then s.2.2.1 + 1 else s.2.2.1), (if (pm_go l0 k0 D n (K i) (A i) (B i) s.1).1 = true then s.2.2.2 else s.2.2.2 + 1)) (pm_w I1 127 f x) → ∃ I', g254 fu (dep + 1) 1 0 (nI (3 * e)) (nI (3 * (i + 1))) 0 0 (pm_w I1 127 f x) J = some ((), I', J) ∧ pm_Mst n (pm_xp (fun i w => pm_go l0 k0 D n (K i) (A i) (B i) w) K B E d (E i) e ((pm_go l0 k0 D n (K i) (A i) (B i) s.1).2, s.2.1 + 1, (if (pm_go l0 k0 D n (K i) (A i) (B i) s.1).1 = true then s.2.2.1 + 1 else s.2.2.1), (if (pm_go l0 k0 D n (K i) (A i) (B i) s.1).1 = true then s.2.2.2 else s.2.2.2 + 1))) I' ∧ pm_MQ n t D l0 k0 l1 k1 I' ∧ pm_Ms 142 m K A B E I' := by
            intro f x hf6 hSt
            have G : pm_ag [139, 140, 144] [(127, 34), (127, 35), (127, 36), (127, 41), (127, 42)] I1 (pm_w I1 127 f x) := ag_w ag_refl (by rcases hf6 with rfl | rfl <;> simp)
            rw [p1]
            refine ih o (i + 1) e _ (pm_w I1 127 f x) fu (dep + 1) he (by omega) ho nxt sO' (MQ_ag Q1 G (by decide)) ?_ hSt (by omega) (by omega)
            unfold pm_Ms
            rw [zt_wc (by decide), c1']
            exact hC
          by_cases z : (pm_go l0 k0 D n (K i) (A i) (B i) s.1).1 = true
          · rw [if_pos z, pm_lt_eq]
            refine fin 35 _ (Or.inl rfl) ⟨by rw [zt_wc (by decide)]; exact r1, ?_, ?_, ?_, ?_⟩
            · rw [zt_w2 (by omega), f127 34 (by omega)]; exact S3.2.1
            · rw [zt_ws, f127 35 (by omega), S3.2.2.1, nI_1]
              dsimp only
              rw [if_pos z]
            · rw [zt_w2 (by omega), f127 36 (by omega), S3.2.2.2.1]
              dsimp only
              rw [if_pos z]
            · rw [zt_w2 (by omega), f127 40 (by omega)]; exact S3.2.2.2.2
          · rw [if_neg z, pm_lt_eq]
            refine fin 36 _ (Or.inr rfl) ⟨by rw [zt_wc (by decide)]; exact r1, ?_, ?_, ?_, ?_⟩
            · rw [zt_w2 (by omega), f127 34 (by omega)]; exact S3.2.1
            · rw [zt_w2 (by omega), f127 35 (by omega), S3.2.2.1]
              dsimp only
              rw [if_neg z]
            · rw [zt_ws, f127 36 (by omega), S3.2.2.2.1, nI_1]
              dsimp only
              rw [if_neg z]
            · rw [zt_w2 (by omega), f127 40 (by omega)]; exact S3.2.2.2.2
      · rw [if_neg (show ¬ ((s.2.1 : Nat) : Int) < 200 by omega), if_neg (fun z => c2 z.2)]
        exact ⟨I, rfl, hS, hQ, hC⟩
    · rw [if_neg (show ¬ ((3 * i : Nat) : Int) < (3 * e : Nat) by omega), if_neg (fun z => c1 z.1)]
      exact ⟨I, rfl, hS, hQ, hC⟩
end Gc
