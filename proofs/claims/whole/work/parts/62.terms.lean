/-! TERMS -/
section Tk
variable {I : Nat → Nat → Int32} {J : Nat → Nat → Int64} {r k : Nat}
theorem bk_of (h : pm_Rbk k I) : ∃ (b : Nat) (X Y : Nat → Nat), pm_BK k b X Y I ∧ pm_MB b X Y I := by
  obtain ⟨hk, b, b1, b2, b3, b4⟩ := h
  have q : ∀ i, i < b → (I (k + 1) i).toNatClampNeg ≤ 499 ∧ (I (k + 2) i).toNatClampNeg ≤ 999 ∧ I (k + 1) i = nI (I (k + 1) i).toNatClampNeg ∧ I (k + 2) i = nI (I (k + 2) i).toNatClampNeg ∧ I 147 (2 * i) = nI (I (k + 1) i).toNatClampNeg ∧ I 147 (2 * i + 1) = nI (I (k + 2) i).toNatClampNeg := by
    intro i hi
    obtain ⟨x, y, h1, h2, h3, h4, h5, h6⟩ := b4 i hi
    rw [h3, h5, nI_clamp (by omega), nI_clamp (by omega)]
    exact ⟨h1, h2, rfl, rfl, h4, h6⟩
  exact ⟨b, fun i => (I (k + 1) i).toNatClampNeg, fun i => (I (k + 2) i).toNatClampNeg, ⟨hk, b1, b2, fun i hi => ⟨(q i hi).1, (q i hi).2.1, (q i hi).2.2.1, (q i hi).2.2.2.1⟩⟩, b3, fun i hi => (q i hi).2.2.2.2⟩
theorem as_of (l0 : Nat) (k0 : Nat → Nat) (D : Nat → Nat → Nat) (n : Nat) (w : Nat → Int32) (p : Nat) : ∃ A : Nat → Nat, (∀ i, i < 225 → A i ≤ 999) ∧ ∀ i, i < 225 → pm_av l0 k0 (pm_ppr D n w p (nI (i / 25 + 1)) (nI (i % 25))) = nI (A i) := by
  have h : ∀ i : Nat, ∃ a, a ≤ 999 ∧ pm_av l0 k0 (pm_ppr D n w p (nI (i / 25 + 1)) (nI (i % 25))) = nI a := fun i => av_nI l0 k0 _
  exact ⟨fun i => (h i).choose, fun i _ => (h i).choose_spec.1, fun i _ => (h i).choose_spec.2⟩
/-- both sides, once the signer is known -/
theorem t_both {n t l0 l1 p : Nat} {D : Nat → Nat → Nat} {k0 k1 : Nat → Nat} (h : pm_R0 r k n t D l0 k0 l1 k1 I) (hp : p < n) : ∃ (b : Nat) (X Y A : Nat → Nat) (I1 : Nat → Nat → Int32), b ≤ 8 ∧ (∀ i, i < 225 → A i ≤ 999) ∧ f143 r k (nI p) I J = some ((), I1, J) ∧ pm_TS A (fun j => pm_tf X Y (A j) 0 b) 225 I1 ∧ pm_BK k b X Y I1 ∧ pm_R0 r k n t D l0 k0 l1 k1 I1 ∧ ∀ (I2 : Nat → Nat → Int32) (J' : Nat → Nat → Int64), pm_ag [8, 12, 103] [(102, 1), (102, 2), (102, 3), (102, 4), (102, 5), (102, 6), (127, 0)] I I2 → ∃ I3, f303 (nI p) I2 J' = some ((), I3, J') ∧ pm_RS A (fun j => pm_tf X Y (A j) 0 b) 225 I3 ∧ pm_MB b X Y I3 ∧ pm_R0 r k n t D l0 k0 l1 k1 I3 ∧ I3 127 0 = I2 127 0 := by
  have hC := h.1.1
  obtain ⟨b, X, Y, hB, hM⟩ := bk_of h.2.1
  obtain ⟨A, hA, hV⟩ := as_of l0 k0 D n (I 5) p
  obtain ⟨I1, e1, t1⟩ := e143 (J := J) hC.1 hC.2.1 hp hC.2.2.2.2.1 hC.2.2.1 hB hA hV
  have g1 := (fr_143 _ _ _ e1).1
  refine ⟨b, X, Y, A, I1, hB.2.1, hA, e1, t1, BK_ag hB g1 rfl, R0_ag h g1 rfl, fun I2 J' g2 => ?_⟩
  have R2 := R0_ag h g2 rfl
  have hM2 : pm_MB b X Y I2 := by
    unfold pm_MB
    rw [g2 127 45 (by decide) (by decide), ag_cell g2 (by decide) (by intro f; simp)]
    exact hM
  have i5 : I2 5 = I 5 := ag_cell g2 (by decide) (by intro f; simp)
  have s2 := R2.1.2.2.1.1
  rw [i5] at s2
  obtain ⟨I3, e3, r3⟩ := e303 (J := J') hC.2.1 hp hC.2.2.2.2.1 hB.2.1 (fun j hj => ⟨(hB.2.2.2 j hj).1, (hB.2.2.2 j hj).2.1⟩) hA hV R2.1.2.1.1 R2.1.2.1.2.2.1 s2 hM2
  have g3 := (fr_303 _ _ _ e3).1
  refine ⟨I3, e3, r3, ?_, R0_ag R2 g3 rfl, g3 127 0 (by decide) (by decide)⟩
  unfold pm_MB
  rw [g3 127 45 (by decide) (by decide), ag_cell g3 (by decide) (by intro f; simp)]
  exact hM2
theorem K27 {x y : Int32} (hRR : pm_RR r k I) : pm_KK r k (fun v b : Int32 => v = b) 1 2 (fun I J => f197 r k x y I J) (fun I J => f302 x y I J) I J := by
  obtain ⟨n, t, D, l0, k0, l1, k1, h⟩ := hRR
  have hC := h.1.1
  have h8 := hC.1.2.2.2.2.1
  have i3 : ((3 : Int32)).toInt = 3 := by decide
  rcases tr (x := x) (n := n) (by omega) with ⟨p, hp, rfl⟩ | hx
  · rcases tr (x := y) (n := 4) (by omega) with ⟨q, hq, rfl⟩ | hy
    · obtain ⟨b, X, Y, A, I1, b8, hA, e1, t1, B1, R1, hf⟩ := t_both (J := J) h hp
      obtain ⟨s1, s2, s3, s4, s5⟩ := t1
      have R1' := R0_t0 (x := nI 0) R1
      refine KK_v (v := pm_tz (pm_T4 A (fun j => pm_tf X Y (A j) 0 b) 225) (nI q)) (I1 := I1) (J1 := J) ?_ aj_refl (fun J' => ?_)
      · unfold f197
        rw [e180g hp h8 hC.1.2.1, zt_xl, nd_g (by rw [nI_toInt (by omega)]; omega) (by rw [nI_toInt (by omega), i3]; omega), e1, zt_bind]
        dsimp only
        rw [s1, s2, s3, s4]
        unfold pm_tz
        split
        · rfl
        · split
          · rfl
          · split <;> rfl
      · have g2 := (fr_143 _ _ _ e1).1
        obtain ⟨I3, e3, r3, M3, R3, z3⟩ := hf (pm_w I1 127 0 0) J' (ag_w (ag_trans ag_refl g2 (by simp) (zt_subF rfl)) (by simp))
        have e4 := l302 (J := J') (y := nI q) hA r3 225 0 pm_FU (by omega) (by unfold pm_FU; omega)
        have hg := e277g (I := pm_w I1 127 0 0) (J := J') (c := 1) hp h8 R1'.1.2.1.1.1 zt_ws
        have h3 : v241 (nI q) 0 3 (pm_w I1 127 0 0) = true := v241g (p := q) (a := 0) (b := 3) (by omega) (by omega) (by omega)
        refine ⟨I3, ?_, by rw [z3, zt_ws]; rfl, R0_R R3⟩
        unfold f302
        rw [pm_lt_eq, hg, zt_bind]
        show (if true = true then _ else _) = _
        rw [if_pos rfl, h3, e222g (I := pm_w I1 127 0 0) (J := J') (c := 2) (k := 1) zt_ws, zt_bind]
        show (if true = true then _ else _) = _
        rw [if_pos rfl, e3, zt_bind]
        dsimp only
        rw [show pm_T4 A (fun j => pm_tf X Y (A j) 0 b) 0 = (0, 0, 0, 0) from rfl] at e4
        dsimp only at e4
        rw [nI_0, show pm_om 0 0 = -1 from rfl] at e4
        exact e4
    · obtain ⟨Ia, Ib, n1, n0, n2, n3, n4⟩ := il_x (c := 2) h (Or.inr rfl)
      have hg := fun J => e277g (I := pm_w Ia 127 0 0) (J := J) (c := 1) hp h8 (by rw [zt_w2 (by omega), n0]; exact h.1.2.1.1.1) zt_ws
      have h3 : v241 y 0 3 (pm_w Ia 127 0 0) = false := v241b (x := y) (a := 0) (b := 3) (by omega) (by omega) (by omega)
      refine KK_2 (b := 0) (Ia := Ia) (Ib := Ib) ?_ (fun J' => ?_) n3 n4
      · unfold f197
        have e := n1 J
        rw [e174b] at e
        rw [e180g hp h8 hC.1.2.1, zt_xl, nd_b (by rw [i3]; omega)]
        injection e with e
        injection e with e5 e6
        injection e6 with e7 e8
        rw [e7]
      · unfold f302
        rw [pm_lt_eq, hg, zt_bind]
        show (if true = true then _ else _) = _
        rw [if_pos rfl, h3]
        have e := n2 J'
        have e' : f222 (pm_bi false) 2 1 (pm_w Ia 127 0 0) J' = some (false, Ib, J') := e
        rw [e', zt_bind]
        show (if false = true then _ else _) = _
        rw [if_neg (by decide)]
  · obtain ⟨Ia, Ib, n1, n2, n3, n4⟩ := no_s h hx
    refine KK_1 (b := 0) (Ia := Ia) (Ib := Ib) ?_ (fun J' => ?_) n3 n4
    · unfold f197
      rw [n1, zt_xr]
    · unfold f302
      rw [pm_lt_eq, n2, zt_bind]
      show (if false = true then _ else _) = _
      rw [if_neg (by decide)]
end Tk
