/-! THE LAW: the call -/
/-- how a call that may only refuse its numbers must come out -/
def pm_KI (r k : Nat) (fc : (Nat → Nat → Int32) → (Nat → Nat → Int64) → Option ((Int32 ⊕ Nat) × (Nat → Nat → Int32) × (Nat → Nat → Int64))) (fm : (Nat → Nat → Int32) → (Nat → Nat → Int64) → Option (Int32 × (Nat → Nat → Int32) × (Nat → Nat → Int64))) (I : Nat → Nat → Int32) (J : Nat → Nat → Int64) : Prop :=
  (∃ (v : Int32) (I1 : Nat → Nat → Int32) (J1 : Nat → Nat → Int64), fc I J = some (.inl v, I1, J1) ∧ pm_aj J J1 ∧ ∀ J', ∃ I2 : Nat → Nat → Int32, fm I1 J' = some (v, I2, J') ∧ I2 127 0 = nI 0 ∧ pm_RR r k I2) ∨
  (∃ (I1 : Nat → Nat → Int32) (J1 : Nat → Nat → Int64), fc I J = some (.inr 2, I1, J1) ∧ pm_aj J J1 ∧ ∀ J', ∃ (b : Int32) (I2 : Nat → Nat → Int32), fm I1 J' = some (b, I2, J') ∧ I2 127 0 = nI 1 ∧ pm_RR r k I2)
/-- the laws are told anew -/
def pm_prL (a : Nat) : Bool := pm_prQ a && !decide (a = 6) && !decide (a = 7) && !decide (a = 9) && !decide (a = 10) && !decide (a = 136) && !decide (a = 137) && !decide (a = 138)
theorem R0_lw {r k k' n t l0 l1 m0 m1 : Nat} {D : Nat → Nat → Nat} {k0 k1 j0 j1 : Nat → Nat} {I I' : Nat → Nat → Int32} (h : pm_R0 r k n t D l0 k0 l1 k1 I) (P : ∀ a, pm_prL a = true → I' a = I a) (F : ∀ a f, (a, f) ∈ pm_pqF → I' a f = I a f) (hc0 : pm_CL 6 m0 j0 I') (hc1 : pm_CL 9 m1 j1 I') (hm0 : pm_ML 0 m0 j0 I') (hm1 : pm_ML 1 m1 j1 I') (hw0 : pm_wf m0 j0) (hw1 : pm_wf m1 j1) (hb : pm_Rbk k' I') (ht : pm_Rtp I') (h1 : I' 0 11 = I' 127 33) (c1 : I' 0 12 = I' 128 0) (c2 : I' 0 13 = I' 128 1) : pm_R0 r k' n t D m0 j0 m1 j1 I' := by
  obtain ⟨⟨⟨q1, q2, q3, q4, q5, q6⟩, ⟨m1, m2, m3, m4, m5, m6⟩, hrow, har⟩, _, _, _, _, _⟩ := h
  refine ⟨⟨⟨CR_cell q1 (fun j hj => P _ ?_), q2, hc0, hc1, hw0, hw1⟩, ⟨MR_cell m1 (F _ _ (by decide)) (F _ _ (by decide)) (F _ _ (by decide)) (P _ rfl) (P _ rfl), m2, hm0, hm1, hw0, hw1⟩, row_c hrow (P _ rfl) (P _ rfl), ?_⟩, hb, ht, h1, c1, c2⟩
  · have := q1.1
    simp [pm_prL, pm_prQ]
    omega
  · obtain ⟨⟨a, a1, a2, a3, a4⟩, m, e1, e2, e3, e4⟩ := har
    refine ⟨⟨a, a1, by rw [F 23 3 (by decide)]; exact a2, by rw [F 127 32 (by decide)]; exact a3, fun i hi => row_c (a4 i hi) (P _ (by simp [pm_prL, pm_prQ]; omega)) (by rw [P 145 rfl])⟩, m, e1, by rw [F 23 4 (by decide)]; exact e2, by rw [F 127 58 (by decide)]; exact e3, fun j hj => ?_⟩
    obtain ⟨c, d1, d2, d3, d4, d5⟩ := e4 j hj
    refine ⟨c, d1, by rw [P 93 rfl]; exact d2, by rw [P 156 rfl]; exact d3, row_c d4 (P _ (by simp [pm_prL, pm_prQ]; omega)) (by rw [P 156 rfl]), fun i hi => row_c (d5 i hi) (P _ (by simp [pm_prL, pm_prQ]; omega)) (by rw [P 156 rfl])⟩
def pm_okL (A : List Nat) (F : List (Nat × Nat)) : Bool := A.all (fun a => !pm_prL a && !decide (a = 23) && !decide (a = 127)) && F.all (fun q => !pm_prL q.1 && !pm_pqF.contains q)
theorem nl_ag {A : List Nat} {F : List (Nat × Nat)} {I I' : Nat → Nat → Int32} (g : pm_ag A F I I') (ok : pm_okL A F = true) : (∀ a, pm_prL a = true → I' a = I a) ∧ ∀ a f, (a, f) ∈ pm_pqF → I' a f = I a f := by
  unfold pm_okL at ok
  rw [Bool.and_eq_true, List.all_eq_true, List.all_eq_true] at ok
  obtain ⟨o1, o2⟩ := ok
  constructor
  · intro a ha
    refine ag_cell g (fun h => ?_) (fun f h => ?_)
    · have := o1 a h
      simp [ha] at this
    · have := o2 (a, f) h
      simp [ha] at this
  · intro a f haf
    refine g a f (fun h => ?_) (fun h => ?_)
    · have h2 := o1 a h
      simp at h2
      simp [pm_pqF] at haf
      omega
    · have := o2 (a, f) h
      simp [haf] at this
/-- the whole text of a law -/
def pm_lA (c : Nat → Nat) (L : Nat) : (Nat × Nat) ⊕ (Nat × (Nat → Nat)) := match pm_lS c L (L + 1) 0 (pm_sk c L 0) 0 (fun _ => 0) with
  | .inl f => .inl f
  | .inr (i, l, k) => if i < L then .inl (1, i) else .inr (l, k)
theorem lA_hS (c : Nat → Nat) (L : Nat) : pm_hS L (L + 1) 0 (pm_sk c L 0) 0 (fun _ => 0) := by
  have := sk_b c L 0
  exact ⟨by omega, by omega, by omega, by omega, by show 0 + 2 + 3 * (6 - 0) ≤ 31; omega⟩
theorem lA_wf {c : Nat → Nat} {L l : Nat} {k : Nat → Nat} (hL : L ≤ 150) (h : pm_lA c L = .inr (l, k)) : pm_wf l k ∧ 0 < l := by
  have p := (lS_all (c := c) hL (L + 1)).1 _ _ _ _ (lA_hS c L)
  unfold pm_lA at h
  cases w : pm_lS c L (L + 1) 0 (pm_sk c L 0) 0 (fun _ => 0) with
  | inl f => rw [w] at h; cases h
  | inr t =>
    obtain ⟨i, l', k'⟩ := t
    rw [w] at h p
    obtain ⟨p1, p2, p3, p4⟩ := p
    dsimp only at h
    by_cases q : i < L
    · rw [if_pos q] at h; cases h
    · rw [if_neg q] at h
      cases h
      obtain ⟨x1, x2, x3, x4⟩ := p4
      have x5 : pm_hts k l = 1 := x4
      refine ⟨⟨by omega, fun j hj => x3 j (by omega) hj, by omega⟩, ?_⟩
      rcases Nat.eq_zero_or_pos l with z | z
      · rw [z] at x5
        rw [pm_hts] at x5
        omega
      · exact z
section Ld
variable {I : Nat → Nat → Int32} {J : Nat → Nat → Int64}
theorem e20 {c : Nat → Nat} {L : Nat} (hL : L ≤ 150) (h : pm_CF c L (pm_sk c L 0) I) : (∀ q p, pm_lA c L = .inl (q, p) → ∃ I', f20 94 I J = some ((), I', J) ∧ pm_CX q p I') ∧ (∀ l k, pm_lA c L = .inr (l, k) → ∃ I' i, f20 94 I J = some ((), I', J) ∧ pm_CF c L i I' ∧ pm_CL 94 l k I') := by
  obtain ⟨hP, hC, _⟩ := lS_all (c := c) hL (L + 1)
  have p := hP _ _ _ _ (lA_hS c L)
  obtain ⟨t1, t2⟩ := hC _ _ _ _ (lA_hS c L) pm_FU 40 (by unfold pm_FU; omega) (by omega) (pm_w I 94 2 0) J (CF_w h (by omega)) ⟨by rw [zt_ws]; rfl, fun i hi => by omega⟩
  dsimp only at t1 t2
  rw [nI_0] at t1 t2
  unfold f20 f21 pm_lA
  rw [pm_lt_eq]
  cases w : pm_lS c L (L + 1) 0 (pm_sk c L 0) 0 (fun _ => 0) with
  | inl f =>
    obtain ⟨q, p⟩ := f
    obtain ⟨I1, e1, x1⟩ := t1 q p w
    rw [e1, zt_bind]
    dsimp only
    rw [v131x x1, if_neg (by decide)]
    refine ⟨fun q p w => ?_, fun l k w => (by cases w)⟩
    cases w
    exact ⟨I1, rfl, x1⟩
  | inr t =>
    obtain ⟨i, l, k⟩ := t
    rw [w] at p
    obtain ⟨I1, e1, f1, c1⟩ := t2 i l k w
    rw [e1, zt_bind]
    dsimp only
    rw [v131f f1]
    by_cases q : i < L
    · obtain ⟨I2, e2, x2⟩ := e133 (J := J) (k := 1) f1 (by omega)
      have e2' : f133 1 I1 J = some ((), I2, J) := e2
      rw [decide_eq_true q, if_pos rfl, if_pos q, e2', zt_bind]
      refine ⟨fun q p w => ?_, fun l k w => (by cases w)⟩
      cases w
      exact ⟨I2, rfl, x2⟩
    · rw [decide_eq_false q, if_neg (show ¬ false = true by decide), if_neg q]
      refine ⟨fun q p w => (by cases w), fun l' k' w => ?_⟩
      cases w
      exact ⟨I1, i, rfl, f1, c1⟩
theorem e26 {l w : Nat} {k : Nat → Nat} (h : pm_CL 94 l k I) (hl : l ≤ 150) (hw : w = 6 ∨ w = 9) : ∃ I', f26 w 94 I J = some ((), I', J) ∧ pm_CL w l k I' := by
  have e : f26 w 94 I J = some ((), pm_w (pm_cpw I 95 (w + 1) 150) w 2 (nI l), J) := by
    unfold f26
    rw [pm_lt_eq, pm_lt_eq, show min 150 150 = 150 from rfl]
    unfold pm_cpw
    rw [va_up_ne _ _ (show 94 ≠ w + 1 by omega), h.1]
  refine ⟨_, e, zt_ws, fun i hi => ?_⟩
  rw [zt_wc (by omega)]
  unfold pm_cpw
  rw [va_up_self]
  unfold va_cpy
  rw [if_pos (by omega), show 0 + (i - 0) = i by omega]
  exact h.2 i hi
theorem l240 {l w : Nat} {v : Int32} (hl : l ≤ 150) (hw : w < 2) : ∀ d i fu : Nat, ∀ I : Nat → Nat → Int32, i + d = l → d < fu → I 127 27 = nI l → ∃ I', f240_115 fu (nI w) v (nI i) I J = some (v, I', J) ∧ (∀ j, i ≤ j → j < l → I' 136 (150 * w + j) = I 134 j ∧ I' 137 (150 * w + j) = I 135 j) ∧ ∀ j, (j < 150 * w + i ∨ 150 * w + l ≤ j) → I' 136 j = I 136 j ∧ I' 137 j = I 137 j := by
  intro d
  induction d with
  | zero =>
    intro i fu I hi hf h
    obtain ⟨fu, rfl⟩ : ∃ k, fu = k + 1 := ⟨fu - 1, by omega⟩
    refine ⟨I, ?_, fun j h1 h2 => by omega, fun j _ => ⟨rfl, rfl⟩⟩
    rw [f240_115, h, nI_toInt (by omega), nI_toInt (by omega), if_neg (by omega)]
  | succ d ih =>
    intro i fu I hi hf h
    obtain ⟨fu, rfl⟩ : ∃ k, fu = k + 1 := ⟨fu - 1, by omega⟩
    obtain ⟨I', e, a, b⟩ := ih (i + 1) fu (pm_w (pm_w I 136 (150 * w + i) (I 134 i)) 137 (150 * w + i) (I 135 i)) (by omega) (by omega) (by rw [zt_wc (by omega), zt_wc (by omega)]; exact h)
    have q6 : pm_w (pm_w I 136 (150 * w + i) (I 134 i)) 137 (150 * w + i) (I 135 i) 136 = pm_w I 136 (150 * w + i) (I 134 i) 136 := zt_wc (by omega)
    refine ⟨I', ?_, fun j h1 h2 => ?_, fun j hj => ?_⟩
    · rw [f240_115, h, nI_toInt (by omega), nI_toInt (by omega), if_pos (by omega), zt_lit 150, pk_mul, nI_add, zt_in (by omega) (by omega), zt_gd, zt_in (by omega) (by omega), zt_gd, pm_lt_eq, zt_gd, zt_gd, pm_lt_eq, nI_clamp (by omega), nI_clamp (by omega), zt_wc (show 135 ≠ 136 by decide), nI_1]
      exact e
    · by_cases q : j = i
      · subst q
        obtain ⟨b1, b2⟩ := b (150 * w + j) (Or.inl (by omega))
        rw [b1, b2, q6, zt_ws, zt_ws]
        exact ⟨rfl, rfl⟩
      · obtain ⟨a1, a2⟩ := a j (by omega) h2
        rw [a1, a2, zt_wc (by omega), zt_wc (by omega), zt_wc (by omega), zt_wc (by omega)]
        exact ⟨rfl, rfl⟩
    · obtain ⟨b1, b2⟩ := b j (by omega)
      rw [b1, b2, q6, zt_w2 (by omega), zt_w2 (by omega), zt_wc (by omega)]
      exact ⟨rfl, rfl⟩
/-- the reference reads it, from where it begins -/
theorem e242 {c : Nat → Nat} {L : Nat} (hL : L ≤ 150) (h : pm_MF c L 0 I) (h7 : I 127 7 = nI 0) (h27 : I 127 27 = nI 0) : (∀ q p, pm_lS c L (L + 1) 0 (pm_sk c L 0) 0 (fun _ => 0) = .inl (q, p) → ∃ I', f242 I J = some ((), I', J) ∧ pm_MX q p I') ∧ (∀ i l k, pm_lS c L (L + 1) 0 (pm_sk c L 0) 0 (fun _ => 0) = .inr (i, l, k) → ∃ I' a, f242 I J = some ((), I', J) ∧ pm_MF c L a I' ∧ i = pm_sk c (L - a) a ∧ pm_NL l k I') := by
  obtain ⟨_, _, hM⟩ := lS_all (c := c) hL (L + 1)
  obtain ⟨t1, t2⟩ := hM _ _ _ _ (lA_hS c L) pm_FU 40 (by unfold pm_FU; omega) (by omega) I J 0 h (by rw [Nat.sub_zero]) h7 ⟨h27, fun j hj => by omega⟩
  dsimp only at t1 t2
  unfold f242
  refine ⟨t1, fun i l k w => ?_⟩
  obtain ⟨I', a, e, m, p, _, n⟩ := t2 i l k w
  exact ⟨I', a, e, m, p, n⟩
end Ld
