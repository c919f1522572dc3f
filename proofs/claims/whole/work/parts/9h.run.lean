/-! WORK: how steps told run, the class -/
section Gb
variable {J : Nat → Nat → Int64} {r n t l0 l1 : Nat} {k0 k1 : Nat → Nat} {D : Nat → Nat → Nat} {K A B E : Nat → Nat}
theorem CS_ag {m : Nat} {I I' : Nat → Nat → Int32} (h : pm_CS m K A B E I) (e1 : I' 98 = I 98) (e2 : I' 99 = I 99) (e3 : I' 100 = I 100) (e4 : I' 101 = I 101) : pm_CS m K A B E I' := by
  unfold pm_CS
  rw [e1, e2, e3, e4]
  exact h
theorem g39 {x y : Int32} {I : Nat → Nat → Int32} {Kj a b : Nat} (hx : 1 ≤ Kj → Kj ≤ 6 → x = nI a) (hy : Kj = 1 ∨ Kj = 2 → y = nI b) (h8 : Kj < 8) : f39 r (nI Kj) x y I J = f39 r (nI Kj) (nI a) (nI b) I J := by
  have hK : Kj = 0 ∨ Kj = 1 ∨ Kj = 2 ∨ Kj = 3 ∨ Kj = 4 ∨ Kj = 5 ∨ Kj = 6 ∨ Kj = 7 := by omega
  rcases hK with rfl | rfl | rfl | rfl | rfl | rfl | rfl | rfl
  · unfold f39
    simp only [show (nI 0 = 0) = True from eq_true rfl, if_true, if_false]
  · rw [hx (by omega) (by omega), hy (by omega)]
  · rw [hx (by omega) (by omega), hy (by omega)]
  · rw [hx (by omega) (by omega)]
    unfold f39
    simp only [show (nI 3 = 0) = False from eq_false (by decide), show (nI 3 = 1) = False from eq_false (by decide), show (nI 3 = 2) = False from eq_false (by decide), show (nI 3 = 3) = True from eq_true rfl, if_true, if_false]
  · rw [hx (by omega) (by omega)]
    unfold f39
    simp only [show (nI 4 = 0) = False from eq_false (by decide), show (nI 4 = 1) = False from eq_false (by decide), show (nI 4 = 2) = False from eq_false (by decide), show (nI 4 = 3) = False from eq_false (by decide), show (nI 4 = 4) = True from eq_true rfl, if_true, if_false]
  · rw [hx (by omega) (by omega)]
    unfold f39
    simp only [show (nI 5 = 0) = False from eq_false (by decide), show (nI 5 = 1) = False from eq_false (by decide), show (nI 5 = 2) = False from eq_false (by decide), show (nI 5 = 3) = False from eq_false (by decide), show (nI 5 = 4) = False from eq_false (by decide), show (nI 5 = 5) = True from eq_true rfl, if_true, if_false]
  · rw [hx (by omega) (by omega)]
    unfold f39
    simp only [show (nI 6 = 0) = False from eq_false (by decide), show (nI 6 = 1) = False from eq_false (by decide), show (nI 6 = 2) = False from eq_false (by decide), show (nI 6 = 3) = False from eq_false (by decide), show (nI 6 = 4) = False from eq_false (by decide), show (nI 6 = 5) = False from eq_false (by decide), show (nI 6 = 6) = True from eq_true rfl, if_true, if_false]
  · unfold f39
    simp only [show (nI 7 = 0) = False from eq_false (by decide), show (nI 7 = 1) = False from eq_false (by decide), show (nI 7 = 2) = False from eq_false (by decide), show (nI 7 = 3) = False from eq_false (by decide), show (nI 7 = 4) = False from eq_false (by decide), show (nI 7 = 5) = False from eq_false (by decide), show (nI 7 = 6) = False from eq_false (by decide), show (nI 7 = 7) = True from eq_true rfl, if_true, if_false]
theorem x_c {m : Nat} (hm : m ≤ 150) : ∀ (d o i e : Nat) (s : (Nat → Int32) × Nat × Nat × Nat) (I : Nat → Nat → Int32) (fu dep : Nat), e ≤ m → i ≤ 150 → o ≤ 6 → pm_wpg n t K A B E d o i e → pm_sO n s → pm_CQ r n t D l0 k0 l1 k1 I → pm_CS m K A B E I → pm_Cs s I → 65 * d + 1 ≤ fu → 2 * (6 - o) + 1 ≤ dep → ∃ I', g118 r fu dep 2 0 (nI e) (nI o) (nI i) I J = some ((), I', J) ∧ pm_Cs (pm_xp (fun i w => pm_go l0 k0 D n (K i) (A i) (B i) w) K B E d i e s) I' ∧ pm_CQ r n t D l0 k0 l1 k1 I' ∧ pm_CS m K A B E I' := by
  have i200 : ((200 : Int32)).toInt = 200 := by decide
  have i6 : ((6 : Int32)).toInt = 6 := by decide
  intro d
  induction d with
  | zero =>
    intro o i e s I fu dep he hi ho hw hs hQ hC hS hf hd
    obtain ⟨fu, rfl⟩ : ∃ k, fu = k + 1 := ⟨fu - 1, by omega⟩
    obtain ⟨dep, rfl⟩ : ∃ k, dep = k + 1 := ⟨dep - 1, by omega⟩
    have hw' : e ≤ i := hw
    refine ⟨I, ?_, hS, hQ, hC⟩
    rw [g118, nI_toInt (by omega), nI_toInt (by omega), if_neg (by omega)]
  | succ d ih =>
    intro o i e s I fu dep he hi ho hw hs hQ hC hS hf hd
    obtain ⟨fu, rfl⟩ : ∃ k, fu = k + 1 := ⟨fu - 1, by omega⟩
    obtain ⟨dep, rfl⟩ : ∃ k, dep = k + 1 := ⟨dep - 1, by omega⟩
    have h8 := hQ.1.2.2.2.2.1
    obtain ⟨s1, s2, s3, s4⟩ := id hS
    obtain ⟨o1, o2, o3, o4⟩ := id hs
    rw [pm_xp, g118, nI_toInt (by omega), nI_toInt (by omega)]
    by_cases c1 : i < e
    · rw [if_pos (show ((i : Nat) : Int) < e by omega), s2, i200, nI_toInt (by omega)]
      by_cases c2 : s.2.1 < 200
      · rw [if_pos (show ((s.2.1 : Nat) : Int) < 200 by omega), if_pos ⟨c1, c2⟩, pm_lt_eq, nI_1]
        rw [pm_wpg] at hw
        obtain ⟨w1, w2⟩ := hw c1
        obtain ⟨q1, q2, q3, q4⟩ := hC i (by omega)
        have G3 : pm_ag [5, 8, 12] [(97, 5), (97, 6), (97, 7)] I (pm_w I 97 5 (nI (s.2.1 + 1))) := ag_w ag_refl (by simp)
        have Q3 : pm_CQ r n t D l0 k0 l1 k1 (pm_w I 97 5 (nI (s.2.1 + 1))) := CQ_ag hQ G3 (by decide)
        have C3 : pm_CS m K A B E (pm_w I 97 5 (nI (s.2.1 + 1))) := CS_ag hC (zt_wc (by decide)) (zt_wc (by decide)) (zt_wc (by decide)) (zt_wc (by decide))
        have S3 : pm_Cs (s.1, s.2.1 + 1, s.2.2.1, s.2.2.2) (pm_w I 97 5 (nI (s.2.1 + 1))) := ⟨by rw [zt_wc (by decide)]; exact s1, zt_ws, by rw [zt_w2 (by omega)]; exact s3, by rw [zt_w2 (by omega)]; exact s4⟩
        have a98 : pm_at (pm_w I 97 5 (nI (s.2.1 + 1)) 98) 150 (nI i) = nI (K i) := by rw [zt_wc (by decide), zt_at (by omega) (by omega)]; exact q1
        rw [a98]
        by_cases k : K i = 8
        · obtain ⟨p1, p2, p3, p4, p5, p6⟩ := w1 k
          obtain ⟨dep, rfl⟩ : ∃ k, dep = k + 1 := ⟨dep - 1, by omega⟩
          obtain ⟨fu, rfl⟩ : ∃ k, fu = k + 1 := ⟨fu - 1, by omega⟩
          rw [if_pos (show nI (K i) = 8 by rw [k]; rfl), if_pos k]
          have l3 : ∀ (c y : Nat) (s : (Nat → Int32) × Nat × Nat × Nat) (I : Nat → Nat → Int32) (fu : Nat), y + c = B i → 65 * d + 3 + c ≤ fu → pm_sO n s → pm_CQ r n t D l0 k0 l1 k1 I → pm_CS m K A B E I → pm_Cs s I → ∃ I', g118 r fu (dep + 1) 3 (nI i) (nI o) (nI y) 0 I J = some ((), I', J) ∧ pm_Cs (pm_it (pm_xp (fun i w => pm_go l0 k0 D n (K i) (A i) (B i) w) K B E d (i + 1) (E i)) c s) I' ∧ pm_CQ r n t D l0 k0 l1 k1 I' ∧ pm_CS m K A B E I' := by
            intro c
            induction c with
            | zero =>
              intro y s I fu hy hf hs hQ hC hS
              obtain ⟨fu, rfl⟩ : ∃ k, fu = k + 1 := ⟨fu - 1, by omega⟩
              refine ⟨I, ?_, hS, hQ, hC⟩
              rw [g118, zt_at (by omega) (by omega), (hC i (by omega)).2.2.1 (by omega), nI_toInt (by omega), nI_toInt (by omega), if_neg (by omega)]
            | succ c ihc =>
              intro y s I fu hy hf hs hQ hC hS
              obtain ⟨fu, rfl⟩ : ∃ k, fu = k + 2 := ⟨fu - 2, by omega⟩
              obtain ⟨s1, s2, s3, s4⟩ := id hS
              have hg := hs.2.1
              rw [pm_it, g118, zt_at (by omega) (by omega), (hC i (by omega)).2.2.1 (by omega), nI_toInt (by omega), nI_toInt (by omega), if_pos (by omega), s2, i200, nI_toInt (by omega), zt_at (by omega) (by omega), (hC i (by omega)).2.2.2, nI_1, nI_1, nI_1]
              by_cases c2 : s.2.1 < 200
              · obtain ⟨dep, rfl⟩ : ∃ k, dep = k + 1 := ⟨dep - 1, by omega⟩
                obtain ⟨I1, e1, S1, Q1, C1⟩ := ih (o + 1) (i + 1) (E i) s I fu (dep + 1) (by omega) (by omega) (by omega) p5 hs hQ hC hS (by omega) (by omega)
                have e0 : g118 r (fu + 1) (dep + 1) 0 (nI (i + 1)) (nI (E i)) (nI (o + 1)) 0 I J = some ((), I1, J) := by
                  rw [g118]
                  exact e1
                rw [if_pos (by omega), if_pos c2, e0, zt_bind]
                exact ihc (y + 1) _ I1 (fu + 1) (by omega) (by omega) (sO_xp h8 d (o + 1) (i + 1) (E i) s p5 hs) Q1 C1 S1
              · rw [if_neg (by omega), if_neg c2]
                exact ⟨I, rfl, hS, hQ, hC⟩
          obtain ⟨I1, e1, S1, Q1, C1⟩ := l3 (B i) 0 _ _ fu (by omega) (by omega) (sO_1 hs c2) Q3 C3 S3
          have e0 : g118 r (fu + 1) (dep + 1) 1 (nI i) (nI o) 0 0 (pm_w I 97 5 (nI (s.2.1 + 1))) J = some ((), I1, J) := by
            rw [g118, i6, nI_toInt (by omega), if_pos (by omega)]
            exact e1
          rw [e0, zt_bind]
          dsimp only
          rw [zt_at (by omega) (by omega), (C1 i (by omega)).2.2.2]
          exact ih o (E i) e _ I1 (fu + 1) (dep + 1 + 1) he (by omega) ho p6 (sO_it (fun s hs => sO_xp h8 d (o + 1) (i + 1) (E i) s p5 hs) (B i) _ (sO_1 hs c2)) Q1 C1 S1 (by omega) (by omega)
        · obtain ⟨p1, p2, p3⟩ := w2 k
          have k8 := p2.1
          have a99 : pm_at (pm_w I 97 5 (nI (s.2.1 + 1)) 99) 150 (nI i) = I 99 i := by rw [zt_wc (by decide), zt_at (by omega) (by omega)]
          have a100 : pm_at (pm_w I 97 5 (nI (s.2.1 + 1)) 100) 150 (nI i) = I 100 i := by rw [zt_wc (by decide), zt_at (by omega) (by omega)]
          have S31 : pm_w I 97 5 (nI (s.2.1 + 1)) 5 = s.1 := S3.1
          obtain ⟨I1, e1, r1⟩ := c_go (J := J) (K := K i) (a := A i) (b := B i) Q3 (by rw [S31]; exact o1) p2
          rw [S31] at e1 r1
          have g1 := (fr_39 _ _ _ e1).1
          rw [if_neg (show ¬ nI (K i) = 8 by rw [zt_lit 8, zt_eq (by omega) (by omega)]; exact k), if_neg k, a99, a100, g39 (a := A i) (b := B i) q2 (fun z => q3 (by omega)) k8, e1, zt_bind]
          dsimp only
          have c97 : I1 97 = pm_w I 97 5 (nI (s.2.1 + 1)) 97 := ag_cell g1 (by decide) (by intro f; simp)
          have sO' := sO_g (t := t) (l0 := l0) (k0 := k0) (D := D) (K := K) (A := A) (B := B) (i := i) h8 hs c2 p2
          have C1 : pm_CS m K A B E I1 := CS_ag C3 (ag_cell g1 (by decide) (by intro f; simp)) (ag_cell g1 (by decide) (by intro f; simp)) (ag_cell g1 (by decide) (by intro f; simp)) (ag_cell g1 (by decide) (by intro f; simp))
          have Q1 := CQ_5 Q3 g1
          have Ei := q4
          have x101 : ∀ (f : Nat) (x : Int32), pm_at (pm_w I1 97 f x 101) 150 (nI i) = nI (E i) := fun f x => by rw [zt_wc (by decide), zt_at (by omega) (by omega), (C1 i (by omega)).2.2.2]
          have nxt : pm_wpg n t K A B E d o (E i) e := by rw [p1]; exact p3
          have fin : ∀ (f : Nat) (x : Int32), (f = 6 ∨ f = 7) → pm_Cs ((pm_go l0 k0 D n (K i) (A i) (B i) s.1).2, s.2.1 + 1, (if (pm_go l0 k0 D n (K i) (A i) (B i) s.1).1 = true then s.2.2.1 + 1 else s.2.2.1), (if (pm_go l0 k0 D n (K i) (A i) (B i) s.1).1 = true then s.2.2.2 else s.2.2.2 + 1)) (pm_w I1 97 f x) → ∃ I', g118 r fu (dep + 1) 2 0 (nI e) (nI o) (nI (E i)) (pm_w I1 97 f x) J = some ((), I', J) ∧ pm_Cs (pm_xp (fun i w => pm_go l0 k0 D n (K i) (A i) (B i) w) K B E d (E i) e ((pm_go l0 k0 D n (K i) (A i) (B i) s.1).2, s.2.1 + 1, (if (pm_go l0 k0 D n (K i) (A i) (B i) s.1).1 = true then s.2.2.1 + 1 else s.2.2.1), (if (pm_go l0 k0 D n (K i) (A i) (B i) s.1).1 = true then s.2.2.2 else s.2.2.2 + 1))) I' ∧ pm_CQ r n t D l0 k0 l1 k1 I' ∧ pm_CS m K A B E I' := by
            intro f x hf6 hSt
            have G : pm_ag [5, 8, 12] [(97, 5), (97, 6), (97, 7)] I1 (pm_w I1 97 f x) := ag_w ag_refl (by rcases hf6 with rfl | rfl <;> simp)
            exact ih o (E i) e _ (pm_w I1 97 f x) fu (dep + 1) he (by omega) ho nxt sO' (CQ_ag Q1 G (by decide)) (CS_ag C1 (zt_wc (by decide)) (zt_wc (by decide)) (zt_wc (by decide)) (zt_wc (by decide))) hSt (by omega) (by omega)
          by_cases z : (pm_go l0 k0 D n (K i) (A i) (B i) s.1).1 = true
          · rw [if_pos z, pm_lt_eq, x101]
            refine fin 6 _ (Or.inl rfl) ⟨by rw [zt_wc (by decide)]; exact r1, ?_, ?_, ?_⟩
            · rw [zt_w2 (by omega), c97]; exact S3.2.1
            · rw [zt_ws, c97, S3.2.2.1, nI_1]
              dsimp only
              rw [if_pos z]
            · rw [zt_w2 (by omega), c97, S3.2.2.2]
              dsimp only
              rw [if_pos z]
          · rw [if_neg z, pm_lt_eq, x101]
            refine fin 7 _ (Or.inr rfl) ⟨by rw [zt_wc (by decide)]; exact r1, ?_, ?_, ?_⟩
            · rw [zt_w2 (by omega), c97]; exact S3.2.1
            · rw [zt_w2 (by omega), c97, S3.2.2.1]
              dsimp only
              rw [if_neg z]
            · rw [zt_ws, c97, S3.2.2.2, nI_1]
              dsimp only
              rw [if_neg z]
      · rw [if_neg (show ¬ ((s.2.1 : Nat) : Int) < 200 by omega), if_neg (fun z => c2 z.2)]
        exact ⟨I, rfl, hS, hQ, hC⟩
    · rw [if_neg (show ¬ ((i : Nat) : Int) < e by omega), if_neg (fun z => c1 z.1)]
      exact ⟨I, rfl, hS, hQ, hC⟩
end Gb
