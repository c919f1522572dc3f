/-! THE LAW'S TEXT: products and sums, the reference -/
theorem pl_m5 {c : Nat → Nat} {L n : Nat} {U : Nat → Nat → Nat → (Nat → Nat) → (Nat × Nat) ⊕ (Nat × Nat × (Nat → Nat))} (hL : L ≤ 150) (hP : pm_GP L n 0 U) (hU : pm_GM c L n 0 U 2 1 5) : ∀ d o i l k fu dep, L - i ≤ d → 1 ≤ pm_hts k l → pm_hG L n 0 o i l k → 4 * (L - i) + 2 ≤ fu → 4 * (6 - o) + 6 ≤ dep → pm_lM c L i l k o (pm_pl c L U 42 47 10 11 d o i l k) (fun I J => g242 fu dep 5 0 0 I J) := by
  intro d
  induction d with
  | zero =>
    intro o i l k fu dep hd hh hg hf hdp
    obtain ⟨fu, rfl⟩ : ∃ q, fu = q + 1 := ⟨fu - 1, by omega⟩
    obtain ⟨dep, rfl⟩ : ∃ q, dep = q + 1 := ⟨dep - 1, by omega⟩
    intro I J a h ha ho hk
    obtain ⟨g1, g2, g3, g4, g5⟩ := id hg
    have sid : i = pm_sk c (L - i) i := by rw [ha]; exact (sk_id h.2.1).symm
    obtain ⟨I1, e1, m1⟩ := MF_here (J := J) h
    rw [← ha] at e1 m1
    have gg1 := (fr_226 _ _ _ e1).1
    obtain ⟨I2, e2, m2⟩ := MF_here (J := J) m1
    rw [← sid] at e2 m2
    have gg2 := (fr_226 _ _ _ e2).1
    rw [if_neg (show ¬ i < L by omega)] at e1 e2
    dsimp only
    rw [g242, v224f h, if_pos rfl, e1, zt_bind, pm_pl]
    dsimp only
    rw [if_neg (show ¬ (0 : Int32) = 42 by decide), e2, zt_bind]
    dsimp only
    rw [if_neg (show ¬ (0 : Int32) = 47 by decide)]
    refine ⟨fun q p w => (by cases w), fun i' l' k' w => ?_⟩
    cases w
    exact ⟨I2, i, rfl, m2, sid, by rw [gg2 127 7 (by decide) (by decide), gg1 127 7 (by decide) (by decide)]; exact ho, NL_f (NL_f hk gg1 rfl) gg2 rfl⟩
  | succ d ih =>
    intro o i l k fu dep hd hh hg hf hdp
    obtain ⟨fu, rfl⟩ : ∃ q, fu = q + 1 := ⟨fu - 1, by omega⟩
    obtain ⟨dep, rfl⟩ : ∃ q, dep = q + 1 := ⟨dep - 1, by omega⟩
    intro I J a h ha ho hk
    obtain ⟨g1, g2, g3, g4, g5⟩ := id hg
    have sid : i = pm_sk c (L - i) i := by rw [ha]; exact (sk_id h.2.1).symm
    obtain ⟨I1, e1, m1⟩ := MF_here (J := J) h
    rw [← ha] at e1 m1
    have gg1 := (fr_226 _ _ _ e1).1
    have o1 : I1 127 7 = nI o := by rw [gg1 127 7 (by decide) (by decide)]; exact ho
    have k1 := NL_f hk gg1 rfl
    obtain ⟨I2, e2, m2⟩ := MF_here (J := J) m1
    rw [← sid] at e2 m2
    have gg2 := (fr_226 _ _ _ e2).1
    have o2 : I2 127 7 = nI o := by rw [gg2 127 7 (by decide) (by decide)]; exact o1
    have k2 := NL_f k1 gg2 rfl
    obtain ⟨I3, e3, m3⟩ := MF_here (J := J) m2
    rw [← sid] at e3 m3
    have gg3 := (fr_226 _ _ _ e3).1
    have o3 : I3 127 7 = nI o := by rw [gg3 127 7 (by decide) (by decide)]; exact o2
    have k3 := NL_f k2 gg3 rfl
    have cv : ∀ s : Nat, 0 < s → s < 256 → ((if i < L then nI (c i) else 0) = nI s ↔ (i < L ∧ c i = s)) := by
      intro s h0 hs
      by_cases q : i < L
      · have cb := (m1.1.2.2 i q).1
        rw [if_pos q, zt_eq (by omega) (by omega)]
        exact ⟨fun w => ⟨q, w⟩, fun w => w.2⟩
      · rw [if_neg q, ← nI_0, zt_eq (by omega) (by omega)]
        exact ⟨fun w => by omega, fun w => absurd w.1 q⟩
    have cv1 : (if i < L then nI (c i) else 0) = 42 ↔ (i < L ∧ c i = 42) := cv 42 (by decide) (by decide)
    have cv2 : (if i < L then nI (c i) else 0) = 47 ↔ (i < L ∧ c i = 47) := cv 47 (by decide) (by decide)
    dsimp only
    rw [g242, v224f h, if_pos rfl, e1, zt_bind, pm_pl]
    dsimp only
    by_cases s : i < L ∧ (c i = 42 ∨ c i = 47)
    · have nb := nx1_b (c := c) s.1
      have hgi : pm_hG L n 0 o (pm_nx1 c L i) l k := ⟨g1, by omega, by omega, by omega, g5⟩
      have pp := hP o (pm_nx1 c L i) l k hgi
      rw [if_pos s]
      have fin : ∀ (x : Nat) (K : Nat → Nat → Int32), x = (if c i = 42 then 10 else 11) → pm_MF c L i K → K 127 7 = nI o → pm_NL l k K → (∀ q p, (match U o (pm_nx1 c L i) l k with | .inl f => .inl f | .inr (i2, l2, k2) => pm_pl c L U 42 47 10 11 d o i2 (l2 + 1) (pm_cup k2 l2 (if c i = 42 then 10 else 11)) : (Nat × Nat) ⊕ (Nat × Nat × (Nat → Nat))) = .inl (q, p) → ∃ I', pm_lt (pm_w K 127 4 ((K 127 4) + 1)) (fun I21 => (g242 fu dep 2 0 0 I21 J).bind (fun (ov22, I23, J24) => (f246 (nI (x - 6)) 0 I23 J24).bind (fun (ov26, I27, J28) => g242 fu (dep + 1) 5 0 0 I27 J28))) = some ((), I', J) ∧ pm_MX q p I') ∧ (∀ i' l' k', (match U o (pm_nx1 c L i) l k with | .inl f => .inl f | .inr (i2, l2, k2) => pm_pl c L U 42 47 10 11 d o i2 (l2 + 1) (pm_cup k2 l2 (if c i = 42 then 10 else 11)) : (Nat × Nat) ⊕ (Nat × Nat × (Nat → Nat))) = .inr (i', l', k') → ∃ I' a', pm_lt (pm_w K 127 4 ((K 127 4) + 1)) (fun I21 => (g242 fu dep 2 0 0 I21 J).bind (fun (ov22, I23, J24) => (f246 (nI (x - 6)) 0 I23 J24).bind (fun (ov26, I27, J28) => g242 fu (dep + 1) 5 0 0 I27 J28))) = some ((), I', J) ∧ pm_MF c L a' I' ∧ i' = pm_sk c (L - a') a' ∧ I' 127 7 = nI o ∧ pm_NL l' k' I') := by
        intro x K hx mK oK kK
        have hx8 : 8 ≤ x ∧ x < 14 := by rw [hx]; split <;> omega
        rw [pm_lt_eq, mK.2.2.1, nI_1, ← hx]
        obtain ⟨t1, t2⟩ := hU o (pm_nx1 c L i) l k hgi fu dep (by omega) (by omega) (pm_w K 127 4 (nI (i + 1))) J (i + 1) ⟨MT_w mK.1 (by omega), by omega, zt_ws, by rw [zt_w2 (by omega)]; exact mK.2.2.2⟩ rfl (by rw [zt_w2 (by omega)]; exact oK) (NL_f (A := []) (F := [(127, 4)]) kK (ag_w ag_refl (by simp)) rfl)
        dsimp only at t1 t2
        cases w : U o (pm_nx1 c L i) l k with
        | inl f =>
          obtain ⟨q, p⟩ := f
          obtain ⟨I4, e4, x4⟩ := t1 q p w
          obtain ⟨fv, rfl⟩ : ∃ q, fu = q + 1 := ⟨fu - 1, by omega⟩
          rw [e4, zt_bind]
          dsimp only
          rw [e246x x4, zt_bind]
          dsimp only
          rw [x242_l x4 (by omega)]
          refine ⟨fun q p w => ?_, fun i' l' k' w => (by cases w)⟩
          cases w
          exact ⟨I4, rfl, x4⟩
        | inr t =>
          obtain ⟨i2, l2, k2⟩ := t
          rw [w] at pp
          obtain ⟨p1, p2, p3, p4⟩ := pp
          obtain ⟨I4, a4, e4, m4, ha4, o4, n4⟩ := t2 i2 l2 k2 w
          obtain ⟨I5, e5, n5, m5, o5⟩ := e246 (J := J) (x := x) (y := nI (x - 6)) (z := 0) m4 n4 (by omega) (mc_o hx8 rfl)
          have q := lx_q p4 hx8 hh (by omega)
          have qh := q.2.2.2
          rw [e4, zt_bind]
          dsimp only
          rw [e5, zt_bind]
          dsimp only
          exact ih o i2 (l2 + 1) (pm_cup k2 l2 x) fu (dep + 1) (by omega) (by rw [qh]; omega) ⟨g1, p1, by omega, by omega, by rw [qh]; omega⟩ (by omega) (by omega) I5 J a4 m5 ha4 (by rw [o5]; exact o4) n5
      by_cases z : c i = 42
      · rw [if_pos (cv1.mpr ⟨s.1, z⟩), e2, zt_bind]
        dsimp only
        rw [if_pos (cv1.mpr ⟨s.1, z⟩)]
        exact fin 10 I2 (by rw [if_pos z]) m2 o2 k2
      · have nz : ¬ (if i < L then nI (c i) else 0) = 42 := fun q => z (cv1.mp q).2
        rw [if_neg nz, e2, zt_bind]
        dsimp only
        rw [if_pos (cv2.mpr ⟨s.1, by omega⟩), e3, zt_bind]
        dsimp only
        rw [if_neg nz]
        exact fin 11 I3 (by rw [if_neg z]) m3 o3 k3
    · rw [if_neg s, if_neg (fun q => s ⟨(cv1.mp q).1, Or.inl (cv1.mp q).2⟩), e2, zt_bind]
      dsimp only
      rw [if_neg (fun q => s ⟨(cv2.mp q).1, Or.inr (cv2.mp q).2⟩)]
      refine ⟨fun q p w => (by cases w), fun i' l' k' w => ?_⟩
      cases w
      exact ⟨I2, i, rfl, m2, sid, o2, k2⟩
theorem lv_m1 {c : Nat → Nat} {L n : Nat} {U : Nat → Nat → Nat → (Nat → Nat) → (Nat × Nat) ⊕ (Nat × Nat × (Nat → Nat))} (hL : L ≤ 150) (hP : pm_GP L n 0 U) (hU : pm_GM c L n 0 U 2 1 5) : pm_GM c L n 1 (pm_lvl c L U 42 47 10 11) 1 2 6 := by
  intro o i l k hg fu dep hf hd I J a h ha ho hk
  obtain ⟨fu, rfl⟩ : ∃ q, fu = q + 1 := ⟨fu - 1, by omega⟩
  obtain ⟨dep, rfl⟩ : ∃ q, dep = q + 1 := ⟨dep - 1, by omega⟩
  obtain ⟨g1, g2, g3, g4, g5⟩ := id hg
  have hgi : pm_hG L n 0 o i l k := ⟨g1, g2, g3, g4, by omega⟩
  have pp := hP o i l k hgi
  obtain ⟨t1, t2⟩ := hU o i l k hgi fu dep (by omega) (by omega) I J a h ha ho hk
  dsimp only at t1 t2
  dsimp only
  rw [g242]
  unfold pm_lvl
  cases w : U o i l k with
  | inl f =>
    obtain ⟨q, p⟩ := f
    obtain ⟨I2, e2, x2⟩ := t1 q p w
    obtain ⟨fv, rfl⟩ : ∃ q, fu = q + 1 := ⟨fu - 1, by omega⟩
    rw [e2, zt_bind]
    dsimp only
    rw [x242_l x2 (by omega)]
    refine ⟨fun q p w => ?_, fun i' l' k' w => (by cases w)⟩
    cases w
    exact ⟨I2, rfl, x2⟩
  | inr t =>
    obtain ⟨i1, l1, k1⟩ := t
    rw [w] at pp
    obtain ⟨p1, p2, p3, p4⟩ := pp
    have ph := p4.2.2.2
    obtain ⟨I2, a2, e2, m2, ha2, o2, n2⟩ := t2 i1 l1 k1 w
    rw [e2, zt_bind]
    dsimp only
    exact pl_m5 hL hP hU L o i1 l1 k1 fu (dep + 1) (by omega) (by omega) ⟨g1, p1, by omega, by omega, by omega⟩ (by omega) (by omega) I2 J a2 m2 ha2 o2 n2
theorem pl_m4 {c : Nat → Nat} {L n : Nat} {U : Nat → Nat → Nat → (Nat → Nat) → (Nat × Nat) ⊕ (Nat × Nat × (Nat → Nat))} (hL : L ≤ 150) (hP : pm_GP L n 1 U) (hU : pm_GM c L n 1 U 1 2 6) : ∀ d o i l k fu dep, L - i ≤ d → 1 ≤ pm_hts k l → pm_hG L n 1 o i l k → 4 * (L - i) + 3 ≤ fu → 4 * (6 - o) + 7 ≤ dep → pm_lM c L i l k o (pm_pl c L U 43 45 8 9 d o i l k) (fun I J => g242 fu dep 4 0 0 I J) := by
  intro d
  induction d with
  | zero =>
    intro o i l k fu dep hd hh hg hf hdp
    obtain ⟨fu, rfl⟩ : ∃ q, fu = q + 1 := ⟨fu - 1, by omega⟩
    obtain ⟨dep, rfl⟩ : ∃ q, dep = q + 1 := ⟨dep - 1, by omega⟩
    intro I J a h ha ho hk
    obtain ⟨g1, g2, g3, g4, g5⟩ := id hg
    have sid : i = pm_sk c (L - i) i := by rw [ha]; exact (sk_id h.2.1).symm
    obtain ⟨I1, e1, m1⟩ := MF_here (J := J) h
    rw [← ha] at e1 m1
    have gg1 := (fr_226 _ _ _ e1).1
    obtain ⟨I2, e2, m2⟩ := MF_here (J := J) m1
    rw [← sid] at e2 m2
    have gg2 := (fr_226 _ _ _ e2).1
    rw [if_neg (show ¬ i < L by omega)] at e1 e2
    dsimp only
    rw [g242, v224f h, if_pos rfl, e1, zt_bind, pm_pl]
    dsimp only
    rw [if_neg (show ¬ (0 : Int32) = 43 by decide), e2, zt_bind]
    dsimp only
    rw [if_neg (show ¬ (0 : Int32) = 45 by decide)]
    refine ⟨fun q p w => (by cases w), fun i' l' k' w => ?_⟩
    cases w
    exact ⟨I2, i, rfl, m2, sid, by rw [gg2 127 7 (by decide) (by decide), gg1 127 7 (by decide) (by decide)]; exact ho, NL_f (NL_f hk gg1 rfl) gg2 rfl⟩
  | succ d ih =>
    intro o i l k fu dep hd hh hg hf hdp
    obtain ⟨fu, rfl⟩ : ∃ q, fu = q + 1 := ⟨fu - 1, by omega⟩
    obtain ⟨dep, rfl⟩ : ∃ q, dep = q + 1 := ⟨dep - 1, by omega⟩
    intro I J a h ha ho hk
    obtain ⟨g1, g2, g3, g4, g5⟩ := id hg
    have sid : i = pm_sk c (L - i) i := by rw [ha]; exact (sk_id h.2.1).symm
    obtain ⟨I1, e1, m1⟩ := MF_here (J := J) h
    rw [← ha] at e1 m1
    have gg1 := (fr_226 _ _ _ e1).1
    have o1 : I1 127 7 = nI o := by rw [gg1 127 7 (by decide) (by decide)]; exact ho
    have k1 := NL_f hk gg1 rfl
    obtain ⟨I2, e2, m2⟩ := MF_here (J := J) m1
    rw [← sid] at e2 m2
    have gg2 := (fr_226 _ _ _ e2).1
    have o2 : I2 127 7 = nI o := by rw [gg2 127 7 (by decide) (by decide)]; exact o1
    have k2 := NL_f k1 gg2 rfl
    obtain ⟨I3, e3, m3⟩ := MF_here (J := J) m2
    rw [← sid] at e3 m3
    have gg3 := (fr_226 _ _ _ e3).1
    have o3 : I3 127 7 = nI o := by rw [gg3 127 7 (by decide) (by decide)]; exact o2
    have k3 := NL_f k2 gg3 rfl
    have cv : ∀ s : Nat, 0 < s → s < 256 → ((if i < L then nI (c i) else 0) = nI s ↔ (i < L ∧ c i = s)) := by
      intro s h0 hs
      by_cases q : i < L
      · have cb := (m1.1.2.2 i q).1
        rw [if_pos q, zt_eq (by omega) (by omega)]
        exact ⟨fun w => ⟨q, w⟩, fun w => w.2⟩
      · rw [if_neg q, ← nI_0, zt_eq (by omega) (by omega)]
        exact ⟨fun w => by omega, fun w => absurd w.1 q⟩
    have cv1 : (if i < L then nI (c i) else 0) = 43 ↔ (i < L ∧ c i = 43) := cv 43 (by decide) (by decide)
    have cv2 : (if i < L then nI (c i) else 0) = 45 ↔ (i < L ∧ c i = 45) := cv 45 (by decide) (by decide)
    dsimp only
    rw [g242, v224f h, if_pos rfl, e1, zt_bind, pm_pl]
    dsimp only
    by_cases s : i < L ∧ (c i = 43 ∨ c i = 45)
    · have nb := nx1_b (c := c) s.1
      have hgi : pm_hG L n 1 o (pm_nx1 c L i) l k := ⟨g1, by omega, by omega, by omega, g5⟩
      have pp := hP o (pm_nx1 c L i) l k hgi
      rw [if_pos s]
      have fin : ∀ (x : Nat) (K : Nat → Nat → Int32), x = (if c i = 43 then 8 else 9) → pm_MF c L i K → K 127 7 = nI o → pm_NL l k K → (∀ q p, (match U o (pm_nx1 c L i) l k with | .inl f => .inl f | .inr (i2, l2, k2) => pm_pl c L U 43 45 8 9 d o i2 (l2 + 1) (pm_cup k2 l2 (if c i = 43 then 8 else 9)) : (Nat × Nat) ⊕ (Nat × Nat × (Nat → Nat))) = .inl (q, p) → ∃ I', pm_lt (pm_w K 127 4 ((K 127 4) + 1)) (fun I21 => (g242 fu dep 1 0 0 I21 J).bind (fun (ov22, I23, J24) => (f246 (nI (x - 6)) 0 I23 J24).bind (fun (ov26, I27, J28) => g242 fu (dep + 1) 4 0 0 I27 J28))) = some ((), I', J) ∧ pm_MX q p I') ∧ (∀ i' l' k', (match U o (pm_nx1 c L i) l k with | .inl f => .inl f | .inr (i2, l2, k2) => pm_pl c L U 43 45 8 9 d o i2 (l2 + 1) (pm_cup k2 l2 (if c i = 43 then 8 else 9)) : (Nat × Nat) ⊕ (Nat × Nat × (Nat → Nat))) = .inr (i', l', k') → ∃ I' a', pm_lt (pm_w K 127 4 ((K 127 4) + 1)) (fun I21 => (g242 fu dep 1 0 0 I21 J).bind (fun (ov22, I23, J24) => (f246 (nI (x - 6)) 0 I23 J24).bind (fun (ov26, I27, J28) => g242 fu (dep + 1) 4 0 0 I27 J28))) = some ((), I', J) ∧ pm_MF c L a' I' ∧ i' = pm_sk c (L - a') a' ∧ I' 127 7 = nI o ∧ pm_NL l' k' I') := by
        intro x K hx mK oK kK
        have hx8 : 8 ≤ x ∧ x < 14 := by rw [hx]; split <;> omega
        rw [pm_lt_eq, mK.2.2.1, nI_1, ← hx]
        obtain ⟨t1, t2⟩ := hU o (pm_nx1 c L i) l k hgi fu dep (by omega) (by omega) (pm_w K 127 4 (nI (i + 1))) J (i + 1) ⟨MT_w mK.1 (by omega), by omega, zt_ws, by rw [zt_w2 (by omega)]; exact mK.2.2.2⟩ rfl (by rw [zt_w2 (by omega)]; exact oK) (NL_f (A := []) (F := [(127, 4)]) kK (ag_w ag_refl (by simp)) rfl)
        dsimp only at t1 t2
        cases w : U o (pm_nx1 c L i) l k with
        | inl f =>
          obtain ⟨q, p⟩ := f
          obtain ⟨I4, e4, x4⟩ := t1 q p w
          obtain ⟨fv, rfl⟩ : ∃ q, fu = q + 1 := ⟨fu - 1, by omega⟩
          rw [e4, zt_bind]
          dsimp only
          rw [e246x x4, zt_bind]
          dsimp only
          rw [x242_l x4 (by omega)]
          refine ⟨fun q p w => ?_, fun i' l' k' w => (by cases w)⟩
          cases w
          exact ⟨I4, rfl, x4⟩
        | inr t =>
          obtain ⟨i2, l2, k2⟩ := t
          rw [w] at pp
          obtain ⟨p1, p2, p3, p4⟩ := pp
          obtain ⟨I4, a4, e4, m4, ha4, o4, n4⟩ := t2 i2 l2 k2 w
          obtain ⟨I5, e5, n5, m5, o5⟩ := e246 (J := J) (x := x) (y := nI (x - 6)) (z := 0) m4 n4 (by omega) (mc_o hx8 rfl)
          have q := lx_q p4 hx8 hh (by omega)
          have qh := q.2.2.2
          rw [e4, zt_bind]
          dsimp only
          rw [e5, zt_bind]
          dsimp only
          exact ih o i2 (l2 + 1) (pm_cup k2 l2 x) fu (dep + 1) (by omega) (by rw [qh]; omega) ⟨g1, p1, by omega, by omega, by rw [qh]; omega⟩ (by omega) (by omega) I5 J a4 m5 ha4 (by rw [o5]; exact o4) n5
      by_cases z : c i = 43
      · rw [if_pos (cv1.mpr ⟨s.1, z⟩), e2, zt_bind]
        dsimp only
        rw [if_pos (cv1.mpr ⟨s.1, z⟩)]
        exact fin 8 I2 (by rw [if_pos z]) m2 o2 k2
      · have nz : ¬ (if i < L then nI (c i) else 0) = 43 := fun q => z (cv1.mp q).2
        rw [if_neg nz, e2, zt_bind]
        dsimp only
        rw [if_pos (cv2.mpr ⟨s.1, by omega⟩), e3, zt_bind]
        dsimp only
        rw [if_neg nz]
        exact fin 9 I3 (by rw [if_neg z]) m3 o3 k3
    · rw [if_neg s, if_neg (fun q => s ⟨(cv1.mp q).1, Or.inl (cv1.mp q).2⟩), e2, zt_bind]
      dsimp only
      rw [if_neg (fun q => s ⟨(cv2.mp q).1, Or.inr (cv2.mp q).2⟩)]
      refine ⟨fun q p w => (by cases w), fun i' l' k' w => ?_⟩
      cases w
      exact ⟨I2, i, rfl, m2, sid, o2, k2⟩
theorem lv_m0 {c : Nat → Nat} {L n : Nat} {U : Nat → Nat → Nat → (Nat → Nat) → (Nat × Nat) ⊕ (Nat × Nat × (Nat → Nat))} (hL : L ≤ 150) (hP : pm_GP L n 1 U) (hU : pm_GM c L n 1 U 1 2 6) : pm_GM c L n 2 (pm_lvl c L U 43 45 8 9) 0 3 7 := by
  intro o i l k hg fu dep hf hd I J a h ha ho hk
  obtain ⟨fu, rfl⟩ : ∃ q, fu = q + 1 := ⟨fu - 1, by omega⟩
  obtain ⟨dep, rfl⟩ : ∃ q, dep = q + 1 := ⟨dep - 1, by omega⟩
  obtain ⟨g1, g2, g3, g4, g5⟩ := id hg
  have hgi : pm_hG L n 1 o i l k := ⟨g1, g2, g3, g4, by omega⟩
  have pp := hP o i l k hgi
  obtain ⟨t1, t2⟩ := hU o i l k hgi fu dep (by omega) (by omega) I J a h ha ho hk
  dsimp only at t1 t2
  dsimp only
  rw [g242]
  unfold pm_lvl
  cases w : U o i l k with
  | inl f =>
    obtain ⟨q, p⟩ := f
    obtain ⟨I2, e2, x2⟩ := t1 q p w
    obtain ⟨fv, rfl⟩ : ∃ q, fu = q + 1 := ⟨fu - 1, by omega⟩
    rw [e2, zt_bind]
    dsimp only
    rw [x242_l x2 (by omega)]
    refine ⟨fun q p w => ?_, fun i' l' k' w => (by cases w)⟩
    cases w
    exact ⟨I2, rfl, x2⟩
  | inr t =>
    obtain ⟨i1, l1, k1⟩ := t
    rw [w] at pp
    obtain ⟨p1, p2, p3, p4⟩ := pp
    have ph := p4.2.2.2
    obtain ⟨I2, a2, e2, m2, ha2, o2, n2⟩ := t2 i1 l1 k1 w
    rw [e2, zt_bind]
    dsimp only
    exact pl_m4 hL hP hU L o i1 l1 k1 fu (dep + 1) (by omega) (by omega) ⟨g1, p1, by omega, by omega, by omega⟩ (by omega) (by omega) I2 J a2 m2 ha2 o2 n2
/-- a law's text, by its length -/
def pm_lS (c : Nat → Nat) (L : Nat) : Nat → Nat → Nat → Nat → (Nat → Nat) → (Nat × Nat) ⊕ (Nat × Nat × (Nat → Nat))
  | 0 => fun _ i _ _ => .inl (1, i)
  | n + 1 => pm_lvl c L (pm_lvl c L (pm_uR c L (pm_lS c L n)) 42 47 10 11) 43 45 8 9
theorem lS_all {c : Nat → Nat} {L : Nat} (hL : L ≤ 150) : ∀ n, pm_ZP L n (pm_lS c L n) ∧ pm_ZC c L n (pm_lS c L n) ∧ pm_ZM c L n (pm_lS c L n)
  | 0 => ⟨fun o i l k h => by have := h.2.2.1; omega, fun o i l k h => by have := h.2.2.1; omega, fun o i l k h => by have := h.2.2.1; omega⟩
  | n + 1 => by
    obtain ⟨h1, h2, h3⟩ := lS_all (c := c) hL n
    have u1 : pm_GP L (n + 1) 0 (pm_uR c L (pm_lS c L n)) := fun o i l k h => u_p h1 h
    have u2 : pm_GC c L (n + 1) 0 (pm_uR c L (pm_lS c L n)) 2 1 5 := fun o i l k h fu dep hf hd => u_c hL h1 h2 h hf hd
    have u3 : pm_GM c L (n + 1) 0 (pm_uR c L (pm_lS c L n)) 2 1 5 := fun o i l k h fu dep hf hd => u_m hL h1 h3 h hf hd
    have p1 := lv_p (c := c) (s1 := 42) (s2 := 47) (x1 := 10) (x2 := 11) u1 (by omega) (by omega)
    have p2 := lv_c1 hL u1 u2
    have p3 := lv_m1 hL u1 u3
    have q1 := lv_p (c := c) (s1 := 43) (s2 := 45) (x1 := 8) (x2 := 9) p1 (by omega) (by omega)
    have q2 := lv_c0 hL p1 p2
    have q3 := lv_m0 hL p1 p3
    exact ⟨q1, q2, q3⟩
