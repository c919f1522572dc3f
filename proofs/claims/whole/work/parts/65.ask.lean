/-! ASK: both -/
section Al
variable {I : Nat → Nat → Int32} {J : Nat → Nat → Int64} {r k : Nat}
theorem l305 {A : Nat → Nat} {F : Nat → Bool} {b : Nat} {X Y : Nat → Nat} {y : Int32} (hA : ∀ i, i < 225 → A i ≤ 999) (h8 : b ≤ 8) (hX : ∀ i, i < b → X i ≤ 499) : ∀ d i fu : Nat, ∀ (I : Nat → Nat → Int32) (u v : Int32), i + d = 500 → d < fu → pm_RS A F 225 I → pm_MB b X Y I → pm_SU A F X b i u v → ∃ (I' : Nat → Nat → Int32) (u' v' : Int32), f305_44 fu y u v (nI i) I J = some ((if y = 0 then u' else v'), I', J) ∧ pm_SU A F X b 500 u' v' := by
  have h1 : ((500 : Int32)).toInt = 500 := by decide
  intro d
  induction d with
  | zero =>
    intro i fu I u v hi hf hS hM hU
    obtain ⟨fu, rfl⟩ : ∃ k, fu = k + 1 := ⟨fu - 1, by omega⟩
    have hi2 : i = 500 := by omega
    subst hi2
    refine ⟨I, u, v, ?_, hU⟩
    rw [f305_44, h1, if_neg (by rw [nI_toInt (by omega)]; omega)]
    by_cases c : y = 0
    · rw [if_pos c, if_pos c]
    · rw [if_neg c, if_neg c]
  | succ d ih =>
    intro i fu I u v hi hf hS hM hU
    obtain ⟨fu, rfl⟩ : ∃ k, fu = k + 1 := ⟨fu - 1, by omega⟩
    have hVi := V_le (F := F) hA (show i < 500 by omega)
    have c225 : pm_cnt F 225 ≤ 225 := cn_le _ _
    rw [f305_44, h1, if_pos (by rw [nI_toInt (by omega)]; omega), e306 h8 hX hM (by omega), zt_bind]
    dsimp only
    cases t : pm_tol X i 0 b with
    | true =>
      rw [if_pos rfl, nI_1]
      refine ih (i + 1) fu I u v (by omega) (by omega) hS hM ?_
      rcases hU with ⟨s1, s2, s3⟩ | ⟨c, s1, s2, s3, s4, s5⟩
      · refine Or.inl ⟨fun w hw => ?_, s2, s3⟩
        by_cases e : w = i
        · rw [e]; exact t
        · exact s1 w (by omega)
      · refine Or.inr ⟨c, by omega, s2, s3, s4, fun w hw w2 => ?_⟩
        by_cases e : w = i
        · rw [e, t] at w2
          exact absurd w2 (by decide)
        · exact s5 w (by omega) w2
    | false =>
      obtain ⟨I1, e1⟩ := e307 (J := J) (F := F) (w := i) hA (by omega) hS
      have g1 := (fr_307 _ _ _ e1).1
      have S1 : pm_RS A F 225 I1 := fun j hj => by
        rw [ag_cell g1 (by decide) (by intro f; simp), ag_cell g1 (by decide) (by intro f; simp)]; exact hS j hj
      have M1 : pm_MB b X Y I1 := by
        unfold pm_MB
        rw [ag_cell g1 (by decide) (by intro f; simp), ag_cell g1 (by decide) (by intro f; simp)]; exact hM
      rw [if_neg (by decide), e1, zt_bind]
      dsimp only
      rw [nI_1]
      rcases hU with ⟨s1, s2, s3⟩ | ⟨c, s1, s2, s3, s4, s5⟩
      · rw [if_pos s2]
        refine ih (i + 1) fu I1 _ _ (by omega) (by omega) S1 M1 (Or.inr ⟨i, by omega, t, rfl, rfl, fun w hw w2 => ?_⟩)
        by_cases e : w = i
        · rw [e]; exact ⟨Nat.le_refl _, fun q => by omega⟩
        · rw [s1 w (by omega)] at w2
          exact absurd w2 (by decide)
      · have hVc := V_le (F := F) hA (show c < 500 by omega)
        have nc : ¬ u = -1 := fun h => by
          rw [s3, zt_m1', zt_eqm (by omega)] at h
          exact h
        rw [if_neg nc, s4, nI_toInt (by omega), nI_toInt (by omega)]
        by_cases q : pm_Vw A F i < pm_Vw A F c
        · rw [if_pos (by omega)]
          refine ih (i + 1) fu I1 _ _ (by omega) (by omega) S1 M1 (Or.inr ⟨i, by omega, t, rfl, rfl, fun w hw w2 => ?_⟩)
          by_cases e : w = i
          · rw [e]; exact ⟨Nat.le_refl _, fun q => by omega⟩
          · have := s5 w (by omega) w2
            exact ⟨by omega, fun _ => by omega⟩
        · rw [if_neg (by omega)]
          refine ih (i + 1) fu I1 _ _ (by omega) (by omega) S1 M1 (Or.inr ⟨c, by omega, s2, s3, rfl, fun w hw w2 => ?_⟩)
          by_cases e : w = i
          · rw [e]; exact ⟨by omega, fun q => by omega⟩
          · exact s5 w (by omega) w2
theorem sc_su {A : Nat → Nat} {F : Nat → Bool} {b : Nat} {X : Nat → Nat} {u v : Int32} (h8 : b ≤ 8) (h1 : pm_SC A F X b 0 I) (h2 : pm_SU A F X b 500 u v) : I 102 5 = u ∧ I 102 6 = v := by
  obtain ⟨w, w1, w2⟩ := tl_ex X h8
  rcases h1 with ⟨s1, _⟩ | ⟨c, s1, s2, s3, s4, s5, s6⟩
  · rw [s1 w (by omega) w1] at w2
    exact absurd w2 (by decide)
  · rcases h2 with ⟨t1, _⟩ | ⟨c', t1, t2, t3, t4, t5⟩
    · rw [t1 w w1] at w2
      exact absurd w2 (by decide)
    · have a1 := s6 c' (by omega) t1 t2
      have a2 := t5 c s2 s3
      have e : c = c' := by
        rcases Nat.lt_trichotomy c c' with q | q | q
        · have := a2.2 q
          omega
        · exact q
        · have := a1.2 q
          omega
      subst e
      exact ⟨by rw [s4, t3], by rw [s5, t4]⟩
theorem K28 {x y : Int32} (hRR : pm_RR r k I) : pm_KK r k (fun v b : Int32 => v = b) 1 2 (fun I J => f198 r k x y I J) (fun I J => f305 x y I J) I J := by
  obtain ⟨n, t, D, l0, k0, l1, k1, h⟩ := hRR
  have hC := h.1.1
  have h8 := hC.1.2.2.2.2.1
  rcases tr (x := x) (n := n) (by omega) with ⟨p, hp, rfl⟩ | hx
  · rcases tr (x := y) (n := 2) (by omega) with ⟨q, hq, rfl⟩ | hy
    · obtain ⟨b, X, Y, A, I1, b8, hA, e1, t1, B1, R1, hf⟩ := t_both (J := J) h hp
      obtain ⟨I2, e2, sc⟩ := e150 (J := J) hA B1 t1
      have g1 := (fr_143 _ _ _ e1).1
      have g2 := (fr_150 _ _ _ e2).1
      have R2 := R0_t0 (x := nI 0) (R0_ag R1 g2 rfl)
      refine KK_v (v := if nI q = 0 then I2 102 5 else I2 102 6) (I1 := I2) (J1 := J) ?_ aj_refl (fun J' => ?_)
      · unfold f198
        have c : q = 0 ∨ q = 1 := by omega
        rcases c with rfl | rfl
        · rw [e180g hp h8 hC.1.2.1, zt_xl, nd2_0 (x := nI 0) rfl, e1, zt_bind]
          dsimp only
          rw [e2, zt_bind]
          dsimp only
          rw [if_pos nI_0, if_pos nI_0]
        · rw [e180g hp h8 hC.1.2.1, zt_xl, nd2_1 (x := nI 1) rfl, e1, zt_bind]
          dsimp only
          rw [e2, zt_bind]
          dsimp only
          rw [if_neg (by decide), if_neg (by decide)]
      · obtain ⟨I3, e3, r3, M3, R3, z3⟩ := hf (pm_w I2 127 0 0) J' (ag_w (ag_trans (ag_trans ag_refl g1 (by simp) (zt_subF rfl)) g2 (by simp) (zt_subF rfl)) (by simp))
        obtain ⟨I4, u, v, e4, su⟩ := l305 (J := J') (y := nI q) hA b8 (fun i hi => (B1.2.2.2 i hi).1) 500 0 pm_FU I3 (-1) (-1) (by omega) (by unfold pm_FU; omega) r3 M3 (Or.inl ⟨fun w hw => by omega, rfl, rfl⟩)
        have g4 := (fr_305_44 _ _ _ _ _ _ _ _ _ _ e4).1
        obtain ⟨u1, v1⟩ := sc_su b8 sc su
        have hg := e277g (I := pm_w I2 127 0 0) (J := J') (c := 1) hp h8 R2.1.2.1.1.1 zt_ws
        have h3 : v241 (nI q) 0 1 (pm_w I2 127 0 0) = true := v241g (p := q) (a := 0) (b := 1) (by omega) (by omega) (by omega)
        refine ⟨I4, ?_, by rw [g4 127 0 (by decide) (by simp), z3, zt_ws]; rfl, R0_R (R0_ag R3 g4 rfl)⟩
        unfold f305
        rw [pm_lt_eq, hg, zt_bind]
        show (if true = true then _ else _) = _
        rw [if_pos rfl, h3, e222g (I := pm_w I2 127 0 0) (J := J') (c := 2) (k := 1) zt_ws, zt_bind]
        show (if true = true then _ else _) = _
        rw [if_pos rfl, e3, zt_bind]
        dsimp only
        rw [nI_0] at e4
        rw [u1, v1]
        exact e4
    · obtain ⟨Ia, Ib, n1, n0, n2, n3, n4⟩ := il_x (c := 2) h (Or.inr rfl)
      have a1 : ¬ y = 0 := fun e => by
        rw [e] at hy
        revert hy
        decide
      have a2 : ¬ y = 1 := fun e => by
        rw [e] at hy
        revert hy
        decide
      have hg := fun J => e277g (I := pm_w Ia 127 0 0) (J := J) (c := 1) hp h8 (by rw [zt_w2 (by omega), n0]; exact h.1.2.1.1.1) zt_ws
      have h3 : v241 y 0 1 (pm_w Ia 127 0 0) = false := v241b (x := y) (a := 0) (b := 1) (by omega) (by omega) (by omega)
      refine KK_2 (b := 0) (Ia := Ia) (Ib := Ib) ?_ (fun J' => ?_) n3 n4
      · unfold f198
        have e := n1 J
        rw [e174b] at e
        rw [e180g hp h8 hC.1.2.1, zt_xl, nd2_b a1 a2]
        injection e with e
        injection e with e5 e6
        injection e6 with e7 e8
        rw [e7]
      · unfold f305
        rw [pm_lt_eq, hg, zt_bind]
        show (if true = true then _ else _) = _
        rw [if_pos rfl, h3]
        have e := n2 J'
        have e' : f222 (pm_bi false) 2 1 (pm_w Ia 127 0 0) J' = some (false, Ib, J') := e
        rw [e', zt_bind]
        show (if false = true then _ else _) = _
        rw [if_neg (by decide)]
  · obtain ⟨Ia, Ib, n1, n2, n3, n4⟩ := no_s h hx
    refine KK_1 (b := 0) (Ia := Ia) (Ib := Ib) ?_ (fun J' => ?_) n3 n4
    · unfold f198
      rw [n1, zt_xr]
    · unfold f305
      rw [pm_lt_eq, n2, zt_bind]
      show (if false = true then _ else _) = _
      rw [if_neg (by decide)]
end Al
