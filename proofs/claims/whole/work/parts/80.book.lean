/-! THE BOOK: the call -/
def pm_okP (A : List Nat) (F : List (Nat × Nat)) : Bool := A.all (fun a => !pm_prQ a && !decide (a = 23) && !decide (a = 127)) && F.all (fun q => !pm_prQ q.1 && !pm_pqF.contains q)
theorem nw_ag {A : List Nat} {F : List (Nat × Nat)} {I I' : Nat → Nat → Int32} (g : pm_ag A F I I') (ok : pm_okP A F = true) : (∀ a, pm_prQ a = true → I' a = I a) ∧ ∀ a f, (a, f) ∈ pm_pqF → I' a f = I a f := by
  unfold pm_okP at ok
  rw [Bool.and_eq_true, List.all_eq_true, List.all_eq_true] at ok
  obtain ⟨o1, o2⟩ := ok
  constructor
  · intro a ha
    refine ag_cell g (fun h => ?_) (fun f h => ?_)
    · have := o1 a h
      simp [ha] at this
    · have := o2 (a, f) h
      simp [ha] at this
  · intro a f haf
    refine g a f (fun h => ?_) (fun h => ?_)
    · have h2 := o1 a h
      simp at h2
      simp [pm_pqF] at haf
      omega
    · have := o2 (a, f) h
      simp [haf] at this
/-- how a call that may swap must come out -/
def pm_K2 (R : Bool → (Nat → Nat → Int32) → Prop) (fc : (Nat → Nat → Int32) → (Nat → Nat → Int64) → Option (((Int32 × Bool) ⊕ Nat) × (Nat → Nat → Int32) × (Nat → Nat → Int64))) (fm : (Nat → Nat → Int32) → (Nat → Nat → Int64) → Option (Int32 × (Nat → Nat → Int32) × (Nat → Nat → Int64))) (I : Nat → Nat → Int32) (J : Nat → Nat → Int64) : Prop :=
  (∃ (v : Int32 × Bool) (I1 : Nat → Nat → Int32) (J1 : Nat → Nat → Int64), fc I J = some (.inl v, I1, J1) ∧ pm_aj J J1 ∧ ∀ J', ∃ I2 : Nat → Nat → Int32, fm I1 J' = some (v.1, I2, J') ∧ I2 127 0 = nI 0 ∧ R v.2 I2) ∨
  (∃ (I1 : Nat → Nat → Int32) (J1 : Nat → Nat → Int64), fc I J = some (.inr 2, I1, J1) ∧ pm_aj J J1 ∧ ∀ J', ∃ (b : Int32) (I2 : Nat → Nat → Int32), fm I1 J' = some (b, I2, J') ∧ I2 127 0 = nI 1 ∧ R false I2)
section Bv
variable {I : Nat → Nat → Int32} {J : Nat → Nat → Int64} {r k k2 : Nat}
theorem tp_of (h : pm_Rtp I) : ∃ (c : Nat → Nat) (T : Nat), T ≤ 600 ∧ I 1 1 = nI T ∧ I 127 2 = nI T ∧ (∀ i, i < T → c i < 256 ∧ I 2 i = nI (c i)) ∧ ∀ i, i < T → c i < 256 ∧ I 129 i = nI (c i) := by
  obtain ⟨⟨T, t1, t2, t3, t4⟩, t5⟩ := h
  have q : ∀ i, i < T → (I 2 i).toNatClampNeg < 256 ∧ I 2 i = nI (I 2 i).toNatClampNeg ∧ I 129 i = nI (I 2 i).toNatClampNeg := by
    intro i hi
    obtain ⟨c, c1, c2, c3⟩ := t4 i hi
    rw [c2, nI_clamp (by omega)]
    exact ⟨c1, rfl, c3⟩
  exact ⟨fun i => (I 2 i).toNatClampNeg, T, t1, t2, t3, fun i hi => ⟨(q i hi).1, (q i hi).2.1⟩, fun i hi => ⟨(q i hi).1, (q i hi).2.2⟩⟩
theorem tp_new {p : Int32} (h1 : I 1 1 = nI 0) (h2 : I 127 2 = nI 0) (h3 : I 1 8 = p) (h4 : I 127 8 = p) : pm_Rtp I := ⟨⟨0, by omega, h1, h2, fun i hi => by omega⟩, by rw [h3, h4]⟩
theorem K4 {x : Int32} (hRR : pm_RR r k I) (hk : (k = 121 ∧ k2 = 124) ∨ (k = 124 ∧ k2 = 121)) : pm_K2 (fun s => pm_RR r (if s = true then k2 else k)) (fun I J => f177 k2 x I J) (fun I J => f273 x I J) I J := by
  obtain ⟨n, t, D, l0, k0, l1, k1, h⟩ := hRR
  obtain ⟨c, T, hT, t1, t2, hc1, hc2⟩ := tp_of h.2.2.1
  have i100 : ((100 : Int32)).toInt = 100 := by decide
  by_cases bad : x.toInt < 0 ∨ (100 : Int) < x.toInt ∨ (T : Int) < x.toInt
  · obtain ⟨Ia, Ib, n1, n2, n3, n4, n5⟩ := il_x (c := 1) h (Or.inl rfl)
    have n3' : ∀ J, f222 0 1 1 (pm_w Ia 127 0 0) J = some (false, Ib, J) := n3
    refine Or.inr ⟨Ia, J, ?_, aj_refl, fun J' => ⟨0, Ib, ?_, n4, n5⟩⟩
    · show f177 k2 x I J = _
      have e := e173b (J := J) (M := 100) t1 hT (by omega) bad
      have e' : f173 x 100 I J = some (.inr 2, pm_w I 0 13 (I 0 13 + nI 1), J) := e
      have ea : Ia = pm_w I 0 13 (I 0 13 + nI 1) := by
        have := n1 J
        rw [e174b] at this
        cases this
        rfl
      unfold f177
      rw [e', zt_xr, ea]
    · show f273 x Ia J' = _
      unfold f273
      rw [pm_lt_eq, n3', zt_bind, zt_w2 (by omega), n2, t2, nI_toInt (by omega), i100]
      dsimp only
      rw [if_neg (show ¬ false = true by decide)]
      by_cases a : x.toInt < 0
      · rw [if_pos a]
      · rw [if_neg a]
        by_cases b : (T : Int) < x.toInt
        · rw [if_pos b]
        · rw [if_neg b, if_pos (by omega)]
  · obtain ⟨L, hL31, rfl⟩ := zt_i0 (x := x) (fun q => bad (Or.inl q))
    rw [nI_toInt hL31] at bad
    have hLT : L ≤ T := by omega
    have h100 : L ≤ 100 := by omega
    have k2c : k2 = 121 ∨ k2 = 124 := by omega
    obtain ⟨a1, a2⟩ := e177 (J := J) (k := k2) (L := L) (X := fun _ => 0) (Y := fun _ => 0) t1 hT hLT h100 hc1 k2c
    have ref : ∀ (I1 : Nat → Nat → Int32) (J' : Nat → Nat → Int64), I1 127 2 = nI T → I1 129 = I 129 → ∃ I2, f223 (nI L) (pm_w I1 127 0 0) J' = some ((), I2, J') ∧ pm_MF c L 0 I2 ∧ I2 127 2 = 0 ∧ f273 (nI L) I1 J' = f273_L pm_FU 0 0 0 0 0 I2 J' := by
      intro I1 J' q1 q2
      obtain ⟨I2, e2, m2, z2, _⟩ := e223 (I := pm_w I1 127 0 0) (J := J') (c := c) (L := L) (by omega) (fun i hi => by rw [zt_wc (by omega), q2]; exact hc2 i (by omega))
      refine ⟨I2, e2, m2, z2, ?_⟩
      have eg : f222 1 1 1 (pm_w I1 127 0 0) J' = some (true, pm_w I1 127 0 0, J') := e222g (by rw [zt_ws]; rfl)
      unfold f273
      rw [pm_lt_eq, if_neg (by rw [nI_toInt (by omega)]; omega), zt_w2 (by omega), q1, if_neg (by rw [nI_toInt (by omega), nI_toInt (by omega)]; omega), if_neg (by rw [nI_toInt (by omega), i100]; omega), eg, zt_bind]
      dsimp only
      rw [if_pos rfl, e2, zt_bind]
    cases w : pm_bks c L 9 (pm_sk c L 0) 0 (fun _ => 0) (fun _ => 0) with
    | inl f =>
      obtain ⟨q, p⟩ := f
      obtain ⟨I1, e1, o1, o8, g1⟩ := a1 q p w
      refine Or.inl ⟨(nI q - 10, false), I1, J, e1, aj_refl, fun J' => ?_⟩
      have c127 : I1 127 = I 127 := ag_cell g1 (by simp; omega) (by intro f; simp; omega)
      have c129 : I1 129 = I 129 := ag_cell g1 (by simp; omega) (by intro f; simp; omega)
      obtain ⟨I2, e2, m2, z2, ef⟩ := ref I1 J' (by rw [c127]; exact t2) c129
      have g2 := (fr_223 _ _ _ e2).1
      obtain ⟨r1, _⟩ := w273 (J := J') (c := c) (L := L) 9 (pm_sk c L 0) 0 0 pm_FU (fun _ => 0) (fun _ => 0) I2 0 0 0 (by omega) (by unfold pm_FU; omega) (by rw [Nat.sub_zero]) m2 ⟨by omega, fun j hj => by omega⟩
      obtain ⟨I3, e3, b3, c3, d3⟩ := r1 q p w
      rw [nI_0] at e3
      have g3 := (fr_273_L _ _ _ _ _ _ _ _ _ _ _ e3).1
      have G : pm_ag [k2 + 1, k2 + 2, 146, 147] [(1, 1), (1, 2), (1, 3), (1, 4), (1, 5), (1, 6), (1, 7), (1, 8), (k2, 2), (127, 0), (127, 2), (127, 3), (127, 4), (127, 5), (127, 6), (127, 7), (127, 8), (127, 45)] I I3 := ag_trans (ag_trans (ag_w (ag_mono g1 (by simp) (by simp)) (by simp)) g2 (by simp) (by simp)) g3 (by simp) (by simp)
      refine ⟨I3, ?_, ?_, ?_⟩
      · show f273 (nI L) I1 J' = some (nI q - 10, I3, J')
        rw [ef]
        exact e3
      · rw [g3 127 0 (by decide) (by decide), g2 127 0 (by decide) (by decide), zt_ws]; rfl
      · show pm_RR r (if false = true then k2 else k) I3
        rw [if_neg (by decide)]
        obtain ⟨P, F⟩ := nw_ag G (by rcases k2c with rfl | rfl <;> decide)
        have ck : ∀ a, (a = k ∨ a = k + 1 ∨ a = k + 2) → I3 a = I a := fun a ha => ag_cell G (by simp; omega) (by intro f; simp; omega)
        have c147 : I3 147 = I 147 := by
          rw [d3, ag_cell g2 (by decide) (by intro f; simp), zt_wc (by omega), ag_cell g1 (by simp; omega) (by intro f; simp; omega)]
        have c45 : I3 127 45 = I 127 45 := by
          rw [c3, g2 127 45 (by decide) (by decide), zt_w2 (by omega), c127]
        refine R0_R (R0_nw (k' := k) h P F ?_ (tp_new (p := nI p) ?_ ?_ ?_ b3) ?_ ?_ ?_)
        · unfold pm_Rbk
          rw [ck k (by omega), ck (k + 1) (by omega), ck (k + 2) (by omega), c147, c45]
          exact h.2.1
        · rw [ag_cell g3 (by decide) (by intro f; simp), ag_cell g2 (by decide) (by intro f; simp), zt_wc (by omega)]
          exact o1
        · rw [g3 127 2 (by decide) (by decide), z2]; rfl
        · rw [ag_cell g3 (by decide) (by intro f; simp), ag_cell g2 (by decide) (by intro f; simp), zt_wc (by omega)]
          exact o8
        · rw [G 0 11 (by simp) (by simp), G 127 33 (by simp; omega) (by simp)]
          exact h.2.2.2.1
        · rw [G 0 12 (by simp) (by simp), G 128 0 (by simp; omega) (by simp)]
          exact h.2.2.2.2.1
        · rw [G 0 13 (by simp) (by simp), G 128 1 (by simp; omega) (by simp)]
          exact h.2.2.2.2.2
    | inr f =>
      obtain ⟨m', X', Y'⟩ := f
      obtain ⟨I1, e1, o1, o8, B1, g1⟩ := a2 m' X' Y' w
      refine Or.inl ⟨(nI m', true), I1, J, e1, aj_refl, fun J' => ?_⟩
      have c127 : I1 127 = I 127 := ag_cell g1 (by simp; omega) (by intro f; simp; omega)
      have c129 : I1 129 = I 129 := ag_cell g1 (by simp; omega) (by intro f; simp; omega)
      obtain ⟨I2, e2, m2, z2, ef⟩ := ref I1 J' (by rw [c127]; exact t2) c129
      have g2 := (fr_223 _ _ _ e2).1
      obtain ⟨_, r2⟩ := w273 (J := J') (c := c) (L := L) 9 (pm_sk c L 0) 0 0 pm_FU (fun _ => 0) (fun _ => 0) I2 0 0 0 (by omega) (by unfold pm_FU; omega) (by rw [Nat.sub_zero]) m2 ⟨by omega, fun j hj => by omega⟩
      obtain ⟨I3, e3, b3, M3⟩ := r2 m' X' Y' w
      rw [nI_0] at e3
      have g3 := (fr_273_L _ _ _ _ _ _ _ _ _ _ _ e3).1
      have G : pm_ag [k2 + 1, k2 + 2, 146, 147] [(1, 1), (1, 2), (1, 3), (1, 4), (1, 5), (1, 6), (1, 7), (1, 8), (k2, 2), (127, 0), (127, 2), (127, 3), (127, 4), (127, 5), (127, 6), (127, 7), (127, 8), (127, 45)] I I3 := ag_trans (ag_trans (ag_w (ag_mono g1 (by simp) (by simp)) (by simp)) g2 (by simp) (by simp)) g3 (by simp) (by simp)
      refine ⟨I3, ?_, ?_, ?_⟩
      · show f273 (nI L) I1 J' = some (nI m', I3, J')
        rw [ef]
        exact e3
      · rw [g3 127 0 (by decide) (by decide), g2 127 0 (by decide) (by decide), zt_ws]; rfl
      · show pm_RR r (if true = true then k2 else k) I3
        rw [if_pos rfl]
        obtain ⟨P, F⟩ := nw_ag G (by rcases k2c with rfl | rfl <;> decide)
        have ck : ∀ a, (a = k2 ∨ a = k2 + 1 ∨ a = k2 + 2) → I3 a = I1 a := fun a ha => by
          rw [ag_cell g3 (by simp; omega) (by intro f; simp; omega), ag_cell g2 (by simp) (by intro f; simp; omega), zt_wc (by omega)]
        refine R0_R (R0_nw (k' := k2) h P F ?_ (tp_new (p := -1) ?_ ?_ ?_ b3) ?_ ?_ ?_)
        · unfold pm_Rbk
          rw [ck k2 (by omega), ck (k2 + 1) (by omega), ck (k2 + 2) (by omega)]
          exact ⟨k2c, m', B1.2.1, B1.2.2.1, M3.1, fun i hi => ⟨X' i, Y' i, (B1.2.2.2 i hi).1, (B1.2.2.2 i hi).2.1, (B1.2.2.2 i hi).2.2.1, (M3.2 i hi).1, (B1.2.2.2 i hi).2.2.2, (M3.2 i hi).2⟩⟩
        · rw [ag_cell g3 (by decide) (by intro f; simp), ag_cell g2 (by decide) (by intro f; simp), zt_wc (by omega)]
          exact o1
        · rw [g3 127 2 (by decide) (by decide), z2]; rfl
        · rw [ag_cell g3 (by decide) (by intro f; simp), ag_cell g2 (by decide) (by intro f; simp), zt_wc (by omega)]
          exact o8
        · rw [G 0 11 (by simp) (by simp), G 127 33 (by simp; omega) (by simp)]
          exact h.2.2.2.1
        · rw [G 0 12 (by simp) (by simp), G 128 0 (by simp; omega) (by simp)]
          exact h.2.2.2.2.1
        · rw [G 0 13 (by simp) (by simp), G 128 1 (by simp; omega) (by simp)]
          exact h.2.2.2.2.2
end Bv
