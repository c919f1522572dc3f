/-! CALLS THAT ONLY LOOK -/
section G2
variable {I : Nat → Nat → Int32} {J : Nat → Nat → Int64}
theorem e174B : f174 (nI 0) I J = some (.inr 2, pm_w I 0 13 (I 0 13 + nI 1), J) := rfl
theorem e174G : f174 (nI 1) I J = some (.inl (), I, J) := rfl
theorem no_sN {r k n t l0 l1 : Nat} {D : Nat → Nat → Nat} {k0 k1 : Nat → Nat} {x : Int32} (h : pm_R0 r k n t D l0 k0 l1 k1 I) (hx : x.toInt < 0 ∨ (n : Int) ≤ x.toInt) : ∃ Ia Ib : Nat → Nat → Int32, (∀ J, f180 r x I J = some (.inr 1, Ia, J)) ∧ (∀ J, f277 x (nI 1) (pm_w Ia 127 0 (nI 0)) J = some (false, Ib, J)) ∧ Ib 127 0 = nI 1 ∧ pm_RR r k Ib := no_s h hx
theorem no_tN {r k n t l0 l1 : Nat} {D : Nat → Nat → Nat} {k0 k1 : Nat → Nat} {x : Int32} (h : pm_R0 r k n t D l0 k0 l1 k1 I) (hx : x.toInt < 0 ∨ (t : Int) ≤ x.toInt) : ∃ Ia Ib : Nat → Nat → Int32, (∀ J, f182 r x I J = some (.inr 1, Ia, J)) ∧ (∀ J, f279 x (nI 1) (pm_w Ia 127 0 (nI 0)) J = some (false, Ib, J)) ∧ Ib 127 0 = nI 1 ∧ pm_RR r k Ib := no_t h hx
theorem il_xN {r k n t l0 l1 c : Nat} {D : Nat → Nat → Nat} {k0 k1 : Nat → Nat} (h : pm_R0 r k n t D l0 k0 l1 k1 I) (hc : c = 1 ∨ c = 2) : ∃ Ia Ib : Nat → Nat → Int32, (∀ J, f174 (nI 0) I J = some (.inr 2, Ia, J)) ∧ Ia 127 = I 127 ∧ (∀ J, f222 (pm_bi false) (nI c) (nI 1) (pm_w Ia 127 0 (nI 0)) J = some (false, Ib, J)) ∧ Ib 127 0 = nI c ∧ pm_RR r k Ib := il_x h hc
theorem e267 {n t p i : Nat} {D : Nat → Nat → Nat} (hR : pm_MR n t D I) (hD : pm_DR n t D) (hp : p < n) (hi : i < n) : f267 (nI p) (nI i) I J = some (pm_kP D p i, I, J) := by
  obtain ⟨hn, ht, hv, h8, h5, hs, htk⟩ := hR
  have k1 := (hs i hi).2.2
  have k2 := (hs p hp).2.2
  have d1 := (hD.1 p hp).2.2
  have d2 := (hD.1 i hi).2.2
  unfold f267 pm_kP
  by_cases c : p = i
  · subst c
    simp
  · by_cases c2 : D 3 p = 0
    · simp (disch := omega) only [zt_lit, zt_eq, pk_mul, nI_add, zt_in, zt_gd, nI_clamp, k1, k2, zt_lt0, if_neg]
      simp [c2]
    · simp (disch := omega) only [zt_lit, zt_eq, pk_mul, nI_add, zt_in, zt_gd, nI_clamp, k1, k2, zt_lt0, if_neg, if_pos]
      by_cases c3 : D 3 p = D 3 i
      · rw [if_pos c3]
        simp [c2, c3, Ne.symm c]
        omega
      · rw [if_neg c3]
        simp [Ne.symm c3]
end G2
section K2
variable {I : Nat → Nat → Int32} {J : Nat → Nat → Int64} {r k : Nat}
theorem K10 {x y : Int32} (hRR : pm_RR r k I) : pm_KK r k (fun v b : Int32 => v = b) 1 2 (fun I J => f183 r x y I J) (fun I J => f280 x y I J) I J := by
  obtain ⟨n, t, D, l0, k0, l1, k1, h⟩ := hRR
  have hC := h.1.1
  have h8 := hC.1.2.2.2.2.1
  rcases tr (x := x) (n := n) (by omega) with ⟨p, hp, rfl⟩ | hx
  · rcases tr (x := y) (n := 2) (by omega) with ⟨q, hq, rfl⟩ | hy
    · obtain ⟨c1, c2⟩ := CQ_CL hC hq
      obtain ⟨I1, e1⟩ := e31 (J := J) hC.1 hC.2.1 hp hq c1 c2
      have g1 := fr_31 _ _ _ e1
      have R1 := R0_t0 (x := nI 0) (R0_ag h g1.1 rfl)
      have i5 : I1 5 = I 5 := ag_cell g1.1 (by decide) (by intro f; simp)
      refine KK_v (v := pm_aS (pm_lw q l0 l1) (pm_lw q k0 k1) D n (I 5) p) (I1 := I1) (J1 := J) ?_ aj_refl (fun J' => ?_)
      · unfold f183
        rw [e180g hp h8 hC.1.2.1, zt_xl]
        have c : q = 0 ∨ q = 1 := by omega
        rcases c with rfl | rfl
        · simp (disch := omega) only [zt_lit, if_true, e174G, zt_xl, e1, zt_bind]
        · simp (disch := omega) only [zt_lit, zt_eq, if_neg, if_true, e174G, zt_xl, e1, zt_bind]
      · obtain ⟨I3, e3, s3, ru3, _, _, g3⟩ := e253 (I := pm_w I1 127 0 (nI 0)) (J := J') R1.1.2.2.1.1
        have R3 := R0_ag R1 g3 rfl
        rw [zt_wc (by omega), i5] at s3
        obtain ⟨m1, m2⟩ := MQ_ML R3.1.2.1 hq
        obtain ⟨I4, e4⟩ := e264 (J := J') R3.1.2.1.1 R3.1.2.1.2.1 hp hq m1 m2 s3
        have g4 := fr_264 _ _ _ e4
        have hg := fun c J => e277g (J := J) (c := c) hp h8 R1.1.2.1.1.1 zt_ws
        have h2 := fun c k J => e222g (I := pm_w I1 127 0 (nI 0)) (J := J) (c := c) (k := k) zt_ws
        have h3 := v241g (p := q) (a := 0) (b := 1) (I := pm_w I1 127 0 (nI 0)) (by omega) (by omega) (by omega)
        refine ⟨I4, ?_, ?_, R0_R (R0_ag R3 g4.1 rfl)⟩
        · unfold f280
          simp only [pm_lt, zt_lit, hg, h2, h3, zt_bind, if_true, e3, e4]
        · rw [g4.1 127 0 (by decide) (by simp), g3 127 0 (by decide) (by decide), zt_ws]
    · obtain ⟨Ia, Ib, n1, n0, n2, n3, n4⟩ := il_xN (c := 2) h (Or.inr rfl)
      have a1 : ¬ y = nI 0 := fun e => by rw [e, nI_toInt (by omega)] at hy; omega
      have a2 : ¬ y = nI 1 := fun e => by rw [e, nI_toInt (by omega)] at hy; omega
      have hg := fun c J => e277g (I := pm_w Ia 127 0 (nI 0)) (J := J) (c := c) hp h8 (by rw [zt_w2 (by omega), n0]; exact h.1.2.1.1.1) zt_ws
      have h3 := v241b (x := y) (a := 0) (b := 1) (I := pm_w Ia 127 0 (nI 0)) (by omega) (by omega) (by omega)
      refine KK_2 (b := nI 0) (Ia := Ia) (Ib := Ib) ?_ (fun J' => ?_) n3 n4
      · unfold f183
        rw [e180g hp h8 hC.1.2.1, zt_xl]
        simp only [zt_lit, a1, a2, if_false, n1, zt_xr]
      · unfold f280
        simp only [pm_lt, zt_lit, hg, h3, n2, zt_bind, Bool.false_eq_true, if_true, if_false]
  · obtain ⟨Ia, Ib, n1, n2, n3, n4⟩ := no_sN h hx
    refine KK_1 (b := nI 0) (Ia := Ia) (Ib := Ib) ?_ (fun J' => ?_) n3 n4
    · unfold f183
      rw [n1, zt_xr]
    · unfold f280
      simp only [pm_lt, zt_lit, n2, zt_bind, Bool.false_eq_true, if_false]
def pm_sv (D : Nat → Nat → Nat) (w : Nat → Int32) (p q : Nat) : Int32 := if q = 0 then nI (D 1 p) else if q = 1 then nI (D 2 p) else if q = 2 then nI (D 3 p) else if q = 3 then w p else if q = 4 then w (8 + p) else if q = 5 then w (16 + p) else if q = 6 then w (24 + p) else if q = 7 then w (32 + p) else if q = 8 then w (40 + p) else w (48 + p)
theorem K8 {x y : Int32} (hRR : pm_RR r k I) : pm_KK r k (fun v b : Int32 => v = b) 1 2 (fun I J => f179 r x y I J) (fun I J => f276 x y I J) I J := by
  obtain ⟨n, t, D, l0, k0, l1, k1, h⟩ := hRR
  have hC := h.1.1
  have h8 := hC.1.2.2.2.2.1
  rcases tr (x := x) (n := n) (by omega) with ⟨p, hp, rfl⟩ | hx
  · rcases tr (x := y) (n := 10) (by omega) with ⟨q, hq, rfl⟩ | hy
    · have R1 := R0_t0 (x := nI 0) h
      obtain ⟨a1, a2, a3⟩ := hC.1.2.2.2.2.2.2.1 p hp
      obtain ⟨b1, b2, b3⟩ := h.1.2.1.1.2.2.2.2.2.1 p hp
      obtain ⟨s1, s2, s3, s4⟩ := h.1.2.2.1.1
      have c0 := s1 p (by omega)
      have c1 := s1 (8 + p) (by omega)
      have c2 := s1 (16 + p) (by omega)
      have c3 := s1 (24 + p) (by omega)
      have c4 := s1 (32 + p) (by omega)
      have c5 := s1 (40 + p) (by omega)
      have c6 := (s2 p (by omega)).2
      have hg := fun c J => e277g (J := J) (c := c) hp h8 R1.1.2.1.1.1 zt_ws
      have h2 := fun c k J => e222g (I := pm_w I 127 0 (nI 0)) (J := J) (c := c) (k := k) zt_ws
      have h3 := v241g (p := q) (a := 0) (b := 9) (I := pm_w I 127 0 (nI 0)) (by omega) (by omega) (by omega)
      have z : q = 0 ∨ q = 1 ∨ q = 2 ∨ q = 3 ∨ q = 4 ∨ q = 5 ∨ q = 6 ∨ q = 7 ∨ q = 8 ∨ q = 9 := by omega
      refine KK_v (v := pm_sv D (I 5) p q) (I1 := I) (J1 := J) ?_ aj_refl (fun J' => ⟨pm_w I 127 0 (nI 0), ?_, zt_ws, R0_R R1⟩)
      · unfold f179 pm_sv
        rw [e180g hp h8 hC.1.2.1, zt_xl]
        rcases z with rfl | rfl | rfl | rfl | rfl | rfl | rfl | rfl | rfl | rfl <;> simp (disch := omega) only [zt_lit, zt_l0, zt_lt, zt_eq, if_neg, if_true, if_false, e174G, zt_xl, zt_at, a1, a2, a3, zt_sg, Nat.reduceMul, Nat.reduceEqDiff, Nat.reduceLT, Nat.zero_add]
      · unfold f276 pm_sv
        rcases z with rfl | rfl | rfl | rfl | rfl | rfl | rfl | rfl | rfl | rfl <;> simp (disch := omega) only [pm_lt, zt_lit, hg, h2, h3, zt_bind, zt_l0, zt_lt, zt_eq, if_neg, if_pos, if_true, if_false, pk_mul, nI_add, zt_in, zt_gd, nI_clamp, zt_wc, b1, b2, b3, c0, c1, c2, c3, c4, c5, c6, Nat.add_zero, Nat.zero_add, Nat.reduceEqDiff, Nat.reduceLT]
    · obtain ⟨Ia, Ib, n1, n0, n2, n3, n4⟩ := il_xN (c := 2) h (Or.inr rfl)
      have hg := fun c J => e277g (I := pm_w Ia 127 0 (nI 0)) (J := J) (c := c) hp h8 (by rw [zt_w2 (by omega), n0]; exact h.1.2.1.1.1) zt_ws
      have h3 := v241b (x := y) (a := 0) (b := 9) (I := pm_w Ia 127 0 (nI 0)) (by omega) (by omega) (by omega)
      refine KK_2 (b := nI 0) (Ia := Ia) (Ib := Ib) ?_ (fun J' => ?_) n3 n4
      · unfold f179
        rw [e180g hp h8 hC.1.2.1, zt_xl, zt_lit 9, nI_toInt (by omega)]
        rcases hy with hy | hy
        · rw [if_pos hy, zt_lit 0, n1, zt_xr]
        · rw [if_neg (by omega), if_pos (by omega), zt_lit 0, n1, zt_xr]
      · unfold f276
        simp only [pm_lt, zt_lit, hg, h3, n2, zt_bind, Bool.false_eq_true, if_true, if_false]
  · obtain ⟨Ia, Ib, n1, n2, n3, n4⟩ := no_sN h hx
    refine KK_1 (b := nI 0) (Ia := Ia) (Ib := Ib) ?_ (fun J' => ?_) n3 n4
    · unfold f179
      rw [n1, zt_xr]
    · unfold f276
      simp only [pm_lt, zt_lit, n2, zt_bind, Bool.false_eq_true, if_false]
def pm_tv (D : Nat → Nat → Nat) (n : Nat) (w : Nat → Int32) (p q : Nat) : Int32 := if q = 0 then nI (D 5 p) else if q = 1 then nI (D 6 p) else if q = 2 then nI (D 7 p) else nI (pm_cnt (fun i => decide (w i = nI 2) && decide (w (8 + i) = nI p)) n)
theorem K9 {x y : Int32} (hRR : pm_RR r k I) : pm_KK r k (fun v b : Int32 => v = b) 1 2 (fun I J => f181 r x y I J) (fun I J => f278 x y I J) I J := by
  obtain ⟨n, t, D, l0, k0, l1, k1, h⟩ := hRR
  have hC := h.1.1
  have h8 := hC.1.2.2.2.2.1
  have h5 := hC.1.2.2.2.2.2.1
  rcases tr (x := x) (n := t) (by omega) with ⟨p, hp, rfl⟩ | hx
  · rcases tr (x := y) (n := 4) (by omega) with ⟨q, hq, rfl⟩ | hy
    · have R1 := R0_t0 (x := nI 0) h
      obtain ⟨a1, a2, a3⟩ := hC.1.2.2.2.2.2.2.2 p hp
      have e1 := e42 (J := J) (x := nI p) hC.1.2.1 h8
      have hg := fun c J => e279g (J := J) (c := c) hp h5 R1.1.2.1.1.2.1 zt_ws
      have h2 := fun c k J => e222g (I := pm_w I 127 0 (nI 0)) (J := J) (c := c) (k := k) zt_ws
      have h3 := v241g (p := q) (a := 0) (b := 3) (I := pm_w I 127 0 (nI 0)) (by omega) (by omega) (by omega)
      have z : q = 0 ∨ q = 1 ∨ q = 2 ∨ q = 3 := by omega
      refine KK_v (v := pm_tv D n (I 5) p q) (I1 := I) (J1 := J) ?_ aj_refl (fun J' => ?_)
      · unfold f181 pm_tv
        rw [e182g hp h5 hC.1.2.2.1, zt_xl]
        rcases z with rfl | rfl | rfl | rfl <;> simp (disch := omega) only [zt_lit, zt_l0, zt_lt, zt_eq, if_neg, if_true, if_false, e174G, zt_xl, zt_at, a1, a2, a3, e1, zt_bind, Nat.reduceEqDiff, Nat.reduceLT]
      · obtain ⟨I3, e3, s3, ru3, _, _, g3⟩ := e253 (I := pm_w I 127 0 (nI 0)) (J := J') R1.1.2.2.1.1
        have R3 := R0_ag R1 g3 rfl
        obtain ⟨b1, b2, b3⟩ := R3.1.2.1.1.2.2.2.2.2.2 p hp
        rw [zt_wc (by omega)] at s3
        have e4 := e259 (J := J') (x := nI p) R3.1.2.1.1.1 h8
        rw [cn_cong (Q := fun i => decide (I 5 i = nI 2) && decide (I 5 (8 + i) = nI p)) (fun i hi => by rw [s3.1 i (by omega), s3.1 (8 + i) (by omega)])] at e4
        refine ⟨I3, ?_, ?_, R0_R R3⟩
        · unfold f278 pm_tv
          rcases z with rfl | rfl | rfl | rfl <;> simp (disch := omega) only [pm_lt, zt_lit, hg, h2, h3, zt_bind, zt_l0, zt_lt, zt_eq, if_neg, if_pos, if_true, if_false, pk_mul, nI_add, zt_in, zt_gd, nI_clamp, b1, b2, b3, e3, e4, Nat.add_zero, Nat.reduceEqDiff, Nat.reduceLT]
        · rw [g3 127 0 (by decide) (by decide), zt_ws]
    · obtain ⟨Ia, Ib, n1, n0, n2, n3, n4⟩ := il_xN (c := 2) h (Or.inr rfl)
      have hg := fun c J => e279g (I := pm_w Ia 127 0 (nI 0)) (J := J) (c := c) hp h5 (by rw [zt_w2 (by omega), n0]; exact h.1.2.1.1.2.1) zt_ws
      have h3 := v241b (x := y) (a := 0) (b := 3) (I := pm_w Ia 127 0 (nI 0)) (by omega) (by omega) (by omega)
      refine KK_2 (b := nI 0) (Ia := Ia) (Ib := Ib) ?_ (fun J' => ?_) n3 n4
      · unfold f181
        rw [e182g hp h5 hC.1.2.2.1, zt_xl, zt_lit 3, nI_toInt (by omega)]
        rcases hy with hy | hy
        · rw [if_pos hy, zt_lit 0, n1, zt_xr]
        · rw [if_neg (by omega), if_pos (by omega), zt_lit 0, n1, zt_xr]
      · unfold f278
        simp only [pm_lt, zt_lit, hg, h3, n2, zt_bind, Bool.false_eq_true, if_true, if_false]
  · obtain ⟨Ia, Ib, n1, n2, n3, n4⟩ := no_tN h hx
    refine KK_1 (b := nI 0) (Ia := Ia) (Ib := Ib) ?_ (fun J' => ?_) n3 n4
    · unfold f181
      rw [n1, zt_xr]
    · unfold f278
      simp only [pm_lt, zt_lit, n2, zt_bind, Bool.false_eq_true, if_false]
end K2
