/-! MORE CALLS THAT ONLY LOOK -/
def pm_ld (D : Nat → Nat → Nat) (n t b : Nat) (w : Nat → Int32) (rs : Int32) (q : Nat) : Int32 := if q = 0 then nI n else if q = 1 then nI t else if q = 2 then w 64 else if q = 3 then w 65 else if q < 8 then nI (pm_cnt (fun i => decide (w i = nI (q - 4))) n) else if q = 8 then nI b else if q = 9 then rs else nI (D 8 0)
section K3
variable {I : Nat → Nat → Int32} {J : Nat → Nat → Int64} {r k : Nat}
theorem cn_ms {n : Nat} {v w : Nat → Int32} {x : Int32} (h8 : n ≤ 8) (h : pm_ms n v w) : pm_cnt (fun i => decide (v i = x)) n = pm_cnt (fun i => decide (w i = x)) n := cn_cong (fun i hi => by rw [h.1 i (by omega)])
theorem K7 {x : Int32} (hRR : pm_RR r k I) : pm_KK r k (fun v b : Int32 => v = b) 1 1 (fun I J => f178 r k x I J) (fun I J => f275 x I J) I J := by
  obtain ⟨n, t, D, l0, k0, l1, k1, h⟩ := hRR
  have hC := h.1.1
  have h8 := hC.1.2.2.2.2.1
  rcases tr (x := x) (n := 11) (by omega) with ⟨q, hq, rfl⟩ | hy
  · have R1 := R0_t0 (x := nI 0) h
    obtain ⟨b, hb, b1, b2, _⟩ := h.2.1.2
    have e1 := fun x => e36 (J := J) (x := x) hC.1.2.1 h8
    have a1 := hC.1.2.1
    have a2 := hC.1.2.2.1
    have a3 := hC.1.2.2.2.1
    have h2 := fun c k J => e222g (I := pm_w I 127 0 (nI 0)) (J := J) (c := c) (k := k) zt_ws
    have h3 := v241g (p := q) (a := 0) (b := 10) (I := pm_w I 127 0 (nI 0)) (by omega) (by omega) (by omega)
    have z : q = 0 ∨ q = 1 ∨ q = 2 ∨ q = 3 ∨ q = 4 ∨ q = 5 ∨ q = 6 ∨ q = 7 ∨ q = 8 ∨ q = 9 ∨ q = 10 := by omega
    refine KK_v (v := pm_ld D n t b (I 5) (I 0 11) q) (I1 := I) (J1 := J) ?_ aj_refl (fun J' => ?_)
    · unfold f178 pm_ld
      rcases z with rfl | rfl | rfl | rfl | rfl | rfl | rfl | rfl | rfl | rfl | rfl <;> simp (disch := omega) only [zt_lit, zt_l0, zt_lt, zt_eq, if_neg, if_true, if_false, e174G, zt_xl, zt_at, a1, a2, a3, b1, e1, zt_bind, v107, v108, Nat.reduceEqDiff, Nat.reduceLT, Nat.reduceSub]
    · obtain ⟨I3, e3, s3, ru3, _, _, g3⟩ := e253 (I := pm_w I 127 0 (nI 0)) (J := J') R1.1.2.2.1.1
      have R3 := R0_ag R1 g3 rfl
      rw [zt_wc (by omega)] at s3
      have e4 := fun c => e257 (J := J') (x := nI c) R3.1.2.1.1.1 h8
      simp only [cn_ms h8 s3] at e4
      have d1 := R3.1.2.1.1.1
      have d2 := R3.1.2.1.1.2.1
      have d3 := R3.1.2.1.1.2.2.1
      have d4 : I3 127 45 = nI b := by rw [g3 127 45 (by decide) (by decide), zt_w2 (by omega)]; exact b2
      have d5 : I3 127 33 = I 0 11 := by rw [g3 127 33 (by decide) (by decide), zt_w2 (by omega)]; exact h.2.2.2.1.symm
      have d6 := s3.2.2.1
      have d7 := s3.2.2.2
      refine ⟨I3, ?_, ?_, R0_R R3⟩
      · unfold f275 pm_ld
        rcases z with rfl | rfl | rfl | rfl | rfl | rfl | rfl | rfl | rfl | rfl | rfl <;> simp (disch := omega) only [pm_lt, zt_lit, h2, h3, zt_bind, zt_l0, zt_lt, zt_eq, if_neg, if_pos, if_true, if_false, zt_mi, zt_in, zt_gd, nI_clamp, e3, e4, d1, d2, d3, d4, d5, d6, d7, Nat.reduceEqDiff, Nat.reduceLT, Nat.reduceSub]
      · rw [g3 127 0 (by decide) (by decide), zt_ws]
  · obtain ⟨Ia, Ib, n1, n0, n2, n3, n4⟩ := il_xN (c := 1) h (Or.inl rfl)
    have h3 := v241b (x := x) (a := 0) (b := 10) (I := pm_w Ia 127 0 (nI 0)) (by omega) (by omega) (by omega)
    refine KK_2 (b := nI 0) (Ia := Ia) (Ib := Ib) ?_ (fun J' => ?_) n3 n4
    · unfold f178
      rw [zt_lit 10, nI_toInt (by omega)]
      rcases hy with hy | hy
      · rw [if_pos hy, zt_lit 0, n1, zt_xr]
      · rw [if_neg (by omega), if_pos (by omega), zt_lit 0, n1, zt_xr]
    · unfold f275
      simp only [pm_lt, zt_lit, h3, n2, zt_bind, Bool.false_eq_true, if_false]
theorem l296 {n t p : Nat} {D : Nat → Nat → Nat} (hR : pm_MR n t D I) (hD : pm_DR n t D) (hp : p < n) : ∀ d i fu : Nat, i + d = n → d < fu → f296_20 fu (nI p) (nI (pm_msk (pm_kP D p) i)) (nI i) I J = some (nI (pm_msk (pm_kP D p) n), I, J) := by
  have hn := hR.1
  have h8 := hR.2.2.2.1
  intro d
  induction d with
  | zero =>
    intro i fu hi hf
    obtain ⟨fu, rfl⟩ : ∃ k, fu = k + 1 := ⟨fu - 1, by omega⟩
    rw [f296_20, hn, if_neg (by rw [nI_toInt (by omega), nI_toInt (by omega)]; omega), show i = n by omega]
  | succ d ih =>
    intro i fu hi hf
    obtain ⟨fu, rfl⟩ : ∃ k, fu = k + 1 := ⟨fu - 1, by omega⟩
    have s := ih (i + 1) fu (by omega) (by omega)
    have hb := msk_lt (pm_kP D p) i
    have ho := or_bit i (by omega) _ hb
    have hz : nI (pm_msk (pm_kP D p) i) ||| 0 = nI (pm_msk (pm_kP D p) i) := Int32.or_zero
    rw [f296_20, hn, if_pos (by rw [nI_toInt (by omega), nI_toInt (by omega)]; omega), e267 hR hD hp (by omega), zt_bind]
    rw [pm_msk] at s
    simp only [ho, hz]
    rw [nI_1]
    by_cases c : pm_kP D p i = true
    · rw [if_pos c] at s ⊢
      exact s
    · rw [if_neg c] at s ⊢
      exact s
theorem K21 {x : Int32} (hRR : pm_RR r k I) : pm_KK r k (fun v b : Int32 => v = b) 1 2 (fun I J => f192 r x I J) (fun I J => f296 x I J) I J := by
  obtain ⟨n, t, D, l0, k0, l1, k1, h⟩ := hRR
  have hC := h.1.1
  have h8 := hC.1.2.2.2.2.1
  rcases tr (x := x) (n := n) (by omega) with ⟨p, hp, rfl⟩ | hx
  · have R1 := R0_t0 (x := nI 0) h
    have hg := fun c J => e277g (J := J) (c := c) hp h8 R1.1.2.1.1.1 zt_ws
    refine KK_v (v := nI (pm_msk (pm_kP D p) n)) (I1 := I) (J1 := J) ?_ aj_refl (fun J' => ⟨pm_w I 127 0 (nI 0), ?_, zt_ws, R0_R R1⟩)
    · unfold f192
      rw [e180g hp h8 hC.1.2.1, zt_xl, e84 hC.1 hC.2.1 hp, zt_bind]
    · have e := l296 (J := J') R1.1.2.1.1 R1.1.2.1.2.1 hp n 0 pm_FU (by omega) (by unfold pm_FU; omega)
      unfold f296
      simp only [pm_lt, zt_lit, hg, zt_bind, if_true]
      exact e
  · obtain ⟨Ia, Ib, n1, n2, n3, n4⟩ := no_sN h hx
    refine KK_1 (b := nI 0) (Ia := Ia) (Ib := Ib) ?_ (fun J' => ?_) n3 n4
    · unfold f192
      rw [n1, zt_xr]
    · unfold f296
      simp only [pm_lt, zt_lit, n2, zt_bind, Bool.false_eq_true, if_false]
/-- the fare -/
def pm_fa (l : Nat) (k : Nat → Nat) (D : Nat → Nat → Nat) (n : Nat) (w : Nat → Int32) (p : Nat) : Int32 := if w p = nI 0 then pm_m1 else pm_oW l k D n w p / nI 4
theorem e30 {p : Nat} {x : Int32} (hp : p < 8) : v30 (nI p) x I = decide (I 5 p = x) := by
  unfold v30
  rw [zt_lit 0, zt_sg (by omega) hp]
  simp only [Nat.zero_mul, Nat.zero_add]
  split <;> simp [*]
theorem e58 {n t p l : Nat} {kk : Nat → Nat} {D : Nat → Nat → Nat} (hR : pm_CR r n t D I) (hD : pm_DR n t D) (hp : p < n) (hL : pm_CL 6 l kk I) (hw : pm_wf l kk) : ∃ I', f58 r (nI p) I J = some (pm_fa l kk D n (I 5) p, I', J) := by
  have h8 := hR.2.2.2.2.1
  unfold f58 pm_fa
  rw [zt_lit 0, e30 (by omega)]
  by_cases c : I 5 p = nI 0
  · refine ⟨I, ?_⟩
    simp only [c, decide_true, if_true, zt_lit, zt_m1]
  · obtain ⟨I1, e⟩ := e47 (J := J) hR hD hp hL hw
    refine ⟨I1, ?_⟩
    simp only [c, decide_false, Bool.false_eq_true, if_false, e, zt_bind, zt_lit]
theorem K22 {x : Int32} (hRR : pm_RR r k I) : pm_KK r k (fun v b : Int32 => v = b) 1 2 (fun I J => f193 r x I J) (fun I J => f297 x I J) I J := by
  obtain ⟨n, t, D, l0, k0, l1, k1, h⟩ := hRR
  have hC := h.1.1
  have h8 := hC.1.2.2.2.2.1
  rcases tr (x := x) (n := n) (by omega) with ⟨p, hp, rfl⟩ | hx
  · obtain ⟨I1, e1⟩ := e58 (J := J) hC.1 hC.2.1 hp hC.2.2.1 hC.2.2.2.2.1
    have g1 := fr_58 _ _ _ e1
    have R1 := R0_t0 (x := nI 0) (R0_ag h g1.1 rfl)
    have i5 : I1 5 = I 5 := ag_cell g1.1 (by decide) (by intro f; simp)
    have hg := fun c J => e277g (J := J) (c := c) hp h8 R1.1.2.1.1.1 zt_ws
    refine KK_v (v := pm_fa l0 k0 D n (I 5) p) (I1 := I1) (J1 := J) ?_ aj_refl (fun J' => ?_)
    · unfold f193
      rw [e180g hp h8 hC.1.2.1, zt_xl, e1, zt_bind]
    · obtain ⟨I3, e3, s3, ru3, _, _, g3⟩ := e253 (I := pm_w I1 127 0 (nI 0)) (J := J') R1.1.2.2.1.1
      have R3 := R0_ag R1 g3 rfl
      rw [zt_wc (by omega), i5] at s3
      obtain ⟨I4, e4⟩ := e263 (J := J') (x := 0) R3.1.2.1.1 R3.1.2.1.2.1 hp (by omega) ru3 R3.1.2.1.2.2.1 R3.1.2.1.2.2.2.2.1 s3
      have g4 := fr_263 _ _ _ e4
      have a0 := s3.1 p (by omega)
      by_cases c : I 5 p = nI 0
      · refine ⟨I3, ?_, ?_, R0_R R3⟩
        · unfold f297 pm_fa
          simp (disch := omega) only [pm_lt, zt_lit, zt_m1, hg, zt_bind, if_true, e3, nI_add, Nat.zero_add, zt_in, zt_gd, nI_clamp, a0, c]
        · rw [g3 127 0 (by decide) (by decide), zt_ws]
      · refine ⟨I4, ?_, ?_, R0_R (R0_ag R3 g4.1 rfl)⟩
        · unfold f297 pm_fa
          simp (disch := omega) only [pm_lt, zt_lit, zt_m1, hg, zt_bind, if_true, e3, nI_add, Nat.zero_add, zt_in, zt_gd, nI_clamp, a0, c, if_false, e4]
        · rw [g4.1 127 0 (by decide) (by simp), g3 127 0 (by decide) (by decide), zt_ws]
  · obtain ⟨Ia, Ib, n1, n2, n3, n4⟩ := no_sN h hx
    refine KK_1 (b := nI 0) (Ia := Ia) (Ib := Ib) ?_ (fun J' => ?_) n3 n4
    · unfold f193
      rw [n1, zt_xr]
    · unfold f297
      simp only [pm_lt, zt_lit, n2, zt_bind, Bool.false_eq_true, if_false]
/-- whether one can pay -/
def pm_cpy (l : Nat) (k : Nat → Nat) (D : Nat → Nat → Nat) (n : Nat) (w : Nat → Int32) (p : Nat) : Bool := (decide (w p = nI 1) || decide (w p = nI 2)) && !decide ((w (48 + p)).toInt < (pm_oW l k D n w p / nI 4).toInt)
theorem e48 {p : Nat} {y : Int32} (hp : p < 8) : v48 (nI p) y I = ((decide (I 5 p = nI 1) || decide (I 5 p = nI 2)) && !decide ((I 5 (48 + p)).toInt < y.toInt)) := by
  unfold v48
  simp (disch := omega) only [zt_lit, e30 hp, zt_sg, Nat.reduceMul]
  by_cases c1 : I 5 p = nI 1
  · by_cases c3 : (I 5 (48 + p)).toInt < y.toInt <;> simp [c1, c3]
  · by_cases c2 : I 5 p = nI 2
    · by_cases c3 : (I 5 (48 + p)).toInt < y.toInt <;> simp [c2, c3]
    · simp [c1, c2]
theorem e262 {n t p l x : Nat} {kk : Nat → Nat} {D : Nat → Nat → Nat} {w : Nat → Int32} (hR : pm_MR n t D I) (hD : pm_DR n t D) (hp : p < n) (hx : x < 2) (hru : I 127 40 = nI x) (hL : pm_ML x l kk I) (hw : pm_wf l kk) (hs : pm_ms n (I 144) w) : ∃ I', f262 (nI p) I J = some (pm_cpy l kk D n w p, I', J) := by
  obtain ⟨I1, e1⟩ := e263 (J := J) hR hD hp hx hru hL hw hs
  have h8 := hR.2.2.2.1
  have a0 := hs.1 p (by omega)
  have a1 := (hs.2.1 p (by omega)).2 hp
  have h12 : ¬ nI 2 = nI 1 := by decide
  unfold f262 pm_cpy
  by_cases c1 : w p = nI 1
  · refine ⟨I1, ?_⟩
    simp (disch := omega) only [zt_lit, nI_add, Nat.zero_add, zt_in, zt_gd, nI_clamp, a0, a1, c1, if_true, e1, zt_bind]
    generalize pm_oW l kk D n w p / nI 4 = z
    by_cases c3 : (w (48 + p)).toInt < z.toInt <;> simp [c3]
  · by_cases c2 : w p = nI 2
    · refine ⟨I1, ?_⟩
      simp (disch := omega) only [zt_lit, nI_add, Nat.zero_add, zt_in, zt_gd, nI_clamp, a0, a1, c2, h12, if_true, if_false, e1, zt_bind]
      generalize pm_oW l kk D n w p / nI 4 = z
      by_cases c3 : (w (48 + p)).toInt < z.toInt <;> simp [c3]
    · refine ⟨I, ?_⟩
      simp (disch := omega) only [zt_lit, nI_add, Nat.zero_add, zt_in, zt_gd, nI_clamp, a0, a1, c1, c2, if_false]
      simp
theorem K23 {x : Int32} (hRR : pm_RR r k I) : pm_KK r k (fun v b : Bool => v = b) 1 2 (fun I J => f194 r x I J) (fun I J => f298 x I J) I J := by
  obtain ⟨n, t, D, l0, k0, l1, k1, h⟩ := hRR
  have hC := h.1.1
  have h8 := hC.1.2.2.2.2.1
  rcases tr (x := x) (n := n) (by omega) with ⟨p, hp, rfl⟩ | hx
  · obtain ⟨I1, e1⟩ := e58 (J := J) hC.1 hC.2.1 hp hC.2.2.1 hC.2.2.2.2.1
    have g1 := fr_58 _ _ _ e1
    have R1 := R0_t0 (x := nI 0) (R0_ag h g1.1 rfl)
    have i5 : I1 5 = I 5 := ag_cell g1.1 (by decide) (by intro f; simp)
    have hg := fun c J => e277g (J := J) (c := c) hp h8 R1.1.2.1.1.1 zt_ws
    refine KK_v (v := pm_cpy l0 k0 D n (I 5) p) (I1 := I1) (J1 := J) ?_ aj_refl (fun J' => ?_)
    · unfold f194
      rw [e180g hp h8 hC.1.2.1, zt_xl, e1, zt_bind]
      simp only [e48 (show p < 8 by omega), i5]
      unfold pm_cpy pm_fa
      by_cases c : I 5 p = nI 0
      · have h01 : ¬ nI 0 = nI 1 := by decide
        have h02 : ¬ nI 0 = nI 2 := by decide
        simp [c, h01, h02]
      · rw [if_neg c]
    · obtain ⟨I3, e3, s3, ru3, _, _, g3⟩ := e253 (I := pm_w I1 127 0 (nI 0)) (J := J') R1.1.2.2.1.1
      have R3 := R0_ag R1 g3 rfl
      rw [zt_wc (by omega), i5] at s3
      obtain ⟨I4, e4⟩ := e262 (J := J') (x := 0) R3.1.2.1.1 R3.1.2.1.2.1 hp (by omega) ru3 R3.1.2.1.2.2.1 R3.1.2.1.2.2.2.2.1 s3
      have g4 := fr_262 _ _ _ e4
      refine ⟨I4, ?_, ?_, R0_R (R0_ag R3 g4.1 rfl)⟩
      · unfold f298
        simp only [pm_lt, zt_lit, hg, zt_bind, if_true, e3, e4]
      · rw [g4.1 127 0 (by decide) (by simp), g3 127 0 (by decide) (by decide), zt_ws]
  · obtain ⟨Ia, Ib, n1, n2, n3, n4⟩ := no_sN h hx
    refine KK_1 (b := false) (Ia := Ia) (Ib := Ib) ?_ (fun J' => ?_) n3 n4
    · unfold f194
      rw [n1, zt_xr]
    · unfold f298
      simp only [pm_lt, zt_lit, n2, zt_bind, Bool.false_eq_true, if_false]
theorem K24 {x : Int32} (hRR : pm_RR r k I) : pm_KK r k (fun v b : Int32 => v = b) 1 1 (fun I J => f195 r x I J) (fun I J => f299 x I J) I J := by
  obtain ⟨n, t, D, l0, k0, l1, k1, h⟩ := hRR
  have hC := h.1.1
  have h8 := hC.1.2.2.2.2.1
  rcases tr (x := x) (n := 100) (by omega) with ⟨q, hq, rfl⟩ | hy
  · have R1 := R0_t0 (x := nI 0) h
    have e1 := fun x => e36 (J := J) (x := x) hC.1.2.1 h8
    have h2 := fun c k J => e222g (I := pm_w I 127 0 (nI 0)) (J := J) (c := c) (k := k) zt_ws
    have h3 := v241g (p := q) (a := 0) (b := 99) (I := pm_w I 127 0 (nI 0)) (by omega) (by omega) (by omega)
    refine KK_v (v := nI (pm_cnt (fun i => decide (I 5 i = nI 0)) n) * nI q) (I1 := I) (J1 := J) ?_ aj_refl (fun J' => ?_)
    · unfold f195
      simp (disch := omega) only [zt_lit, zt_l0, zt_lt, if_neg, if_false, e174G, zt_xl, e1, zt_bind]
    · obtain ⟨I3, e3, s3, ru3, _, _, g3⟩ := e253 (I := pm_w I 127 0 (nI 0)) (J := J') R1.1.2.2.1.1
      have R3 := R0_ag R1 g3 rfl
      rw [zt_wc (by omega)] at s3
      have e4 := fun c => e257 (J := J') (x := nI c) R3.1.2.1.1.1 h8
      simp only [cn_ms h8 s3] at e4
      refine ⟨I3, ?_, ?_, R0_R R3⟩
      · unfold f299
        simp only [pm_lt, zt_lit, h2, h3, zt_bind, if_true, e3, e4]
      · rw [g3 127 0 (by decide) (by decide), zt_ws]
  · obtain ⟨Ia, Ib, n1, n0, n2, n3, n4⟩ := il_xN (c := 1) h (Or.inl rfl)
    have h3 := v241b (x := x) (a := 0) (b := 99) (I := pm_w Ia 127 0 (nI 0)) (by omega) (by omega) (by omega)
    refine KK_2 (b := nI 0) (Ia := Ia) (Ib := Ib) ?_ (fun J' => ?_) n3 n4
    · unfold f195
      rw [zt_lit 99, nI_toInt (by omega)]
      rcases hy with hy | hy
      · rw [if_pos hy, zt_lit 0, n1, zt_xr]
      · rw [if_neg (by omega), if_pos (by omega), zt_lit 0, n1, zt_xr]
    · unfold f299
      simp only [pm_lt, zt_lit, h3, n2, zt_bind, Bool.false_eq_true, if_false]
theorem min_m {x y : Int32} {α : Type} (K : Int32 → α) : (if x.toInt < y.toInt then K x else K y) = K (pm_min y x) := by
  unfold pm_min
  split <;> rfl
theorem K25 {x : Int32} (hRR : pm_RR r k I) : pm_KK r k (fun v b : Int32 => v = b) 1 1 (fun I J => f196 r x I J) (fun I J => f300 x I J) I J := by
  obtain ⟨n, t, D, l0, k0, l1, k1, h⟩ := hRR
  have hC := h.1.1
  have h8 := hC.1.2.2.2.2.1
  rcases tr (x := x) (n := 100) (by omega) with ⟨q, hq, rfl⟩ | hy
  · have R1 := R0_t0 (x := nI 0) h
    have e1 := fun x => e36 (J := J) (x := x) hC.1.2.1 h8
    have h2 := fun c k J => e222g (I := pm_w I 127 0 (nI 0)) (J := J) (c := c) (k := k) zt_ws
    have h3 := v241g (p := q) (a := 0) (b := 99) (I := pm_w I 127 0 (nI 0)) (by omega) (by omega) (by omega)
    have hc := cn_le (fun i => decide (I 5 i = nI 0)) n
    refine KK_v (v := if 0 < pm_cnt (fun i => decide (I 5 i = nI 0)) n then pm_min (nI q) (I 5 65 / nI (pm_cnt (fun i => decide (I 5 i = nI 0)) n)) else pm_m1) (I1 := I) (J1 := J) ?_ aj_refl (fun J' => ?_)
    · unfold f196
      by_cases c : 0 < pm_cnt (fun i => decide (I 5 i = nI 0)) n
      · have c2 : ¬ pm_cnt (fun i => decide (I 5 i = nI 0)) n = 0 := by omega
        simp (disch := omega) only [zt_lit, zt_m1, zt_l0, zt_lt, zt_lt0, zt_eq, if_neg, if_false, e174G, zt_xl, e1, zt_bind, c, c2, if_true, decide_false, Bool.not_false, zt_gd, v108, zt_at]
      · simp (disch := omega) only [zt_lit, zt_m1, zt_l0, zt_lt, zt_lt0, zt_eq, if_neg, if_false, e174G, zt_xl, e1, zt_bind, c]
    · obtain ⟨I3, e3, s3, ru3, _, _, g3⟩ := e253 (I := pm_w I 127 0 (nI 0)) (J := J') R1.1.2.2.1.1
      have R3 := R0_ag R1 g3 rfl
      rw [zt_wc (by omega)] at s3
      have e4 := fun c => e257 (J := J') (x := nI c) R3.1.2.1.1.1 h8
      simp only [cn_ms h8 s3] at e4
      have a5 := s3.2.2.2
      refine ⟨I3, ?_, ?_, R0_R R3⟩
      · unfold f300
        by_cases c : 0 < pm_cnt (fun i => decide (I 5 i = nI 0)) n
        · have c2 : ¬ pm_cnt (fun i => decide (I 5 i = nI 0)) n = 0 := by omega
          simp (disch := omega) only [pm_lt, zt_lit, zt_m1, h2, h3, zt_bind, if_true, e3, e4, zt_eq, c, c2, if_false, zt_in, zt_gd, decide_false, Bool.not_false, nI_clamp, a5]
          exact min_m (fun v => some (v, I3, J'))
        · have c2 : pm_cnt (fun i => decide (I 5 i = nI 0)) n = 0 := by omega
          simp (disch := omega) only [pm_lt, zt_lit, zt_m1, h2, h3, zt_bind, if_true, e3, e4, zt_eq, c2, if_pos, if_false, Nat.lt_irrefl]
      · rw [g3 127 0 (by decide) (by decide), zt_ws]
  · obtain ⟨Ia, Ib, n1, n0, n2, n3, n4⟩ := il_xN (c := 1) h (Or.inl rfl)
    have h3 := v241b (x := x) (a := 0) (b := 99) (I := pm_w Ia 127 0 (nI 0)) (by omega) (by omega) (by omega)
    refine KK_2 (b := nI 0) (Ia := Ia) (Ib := Ib) ?_ (fun J' => ?_) n3 n4
    · unfold f196
      rw [zt_lit 99, nI_toInt (by omega)]
      rcases hy with hy | hy
      · rw [if_pos hy, zt_lit 0, n1, zt_xr]
      · rw [if_neg (by omega), if_pos (by omega), zt_lit 0, n1, zt_xr]
    · unfold f300
      simp only [pm_lt, zt_lit, h3, n2, zt_bind, Bool.false_eq_true, if_false]
/-- what a taker gives -/
def pm_gv (D : Nat → Nat → Nat) (o : Int32) (b p : Nat) : Int32 := if D 2 p = D 5 b then nI (D 6 b) * o / nI 52 else nI (D 6 b) * o / nI 52 / nI 2
theorem e56 {n t p b : Nat} {D : Nat → Nat → Nat} {o : Int32} (hR : pm_CR r n t D I) (hD : pm_DR n t D) (hp : p < n) (hb : b < t) : v56 r (nI p) o (nI b) I = pm_gv D o b p := by
  obtain ⟨hr, hn, ht, hv, h8, h5, hs, htk⟩ := hR
  have a1 := (hs p hp).2.1
  obtain ⟨b1, b2, b3⟩ := htk b hb
  have d1 := (hD.1 p hp).2.1
  have d2 := (hD.2.1 b hb).1
  unfold v56 pm_gv
  simp (disch := omega) only [zt_lit, zt_at, a1, b1, b2, zt_eq]
theorem e289 {n t p b l x : Nat} {kk : Nat → Nat} {D : Nat → Nat → Nat} {w : Nat → Int32} (hR : pm_MR n t D I) (hD : pm_DR n t D) (hp : p < n) (hb : b < t) (hx : x < 2) (hru : I 127 40 = nI x) (hL : pm_ML x l kk I) (hw : pm_wf l kk) (hs : pm_ms n (I 144) w) : ∃ I', f289 (nI b) (nI p) I J = some (pm_gv D (pm_oW l kk D n w p) b p, I', J) := by
  obtain ⟨I1, e1⟩ := e263 (J := J) hR hD hp hx hru hL hw hs
  have g1 := (fr_263 _ _ _ e1).1
  have i1 : I1 133 = I 133 := ag_cell g1 (by decide) (by intro f; simp)
  have i2 : I1 132 = I 132 := ag_cell g1 (by decide) (by intro f; simp)
  obtain ⟨hn, ht, hv, h8, h5, hsg, htk⟩ := hR
  have a1 := (hsg p hp).2.1
  obtain ⟨b1, b2, b3⟩ := htk b hb
  have d1 := (hD.1 p hp).2.1
  have d2 := (hD.2.1 b hb).1
  refine ⟨I1, ?_⟩
  unfold f289 pm_gv
  simp (disch := omega) only [zt_lit, pk_mul, nI_add, zt_in, zt_gd, nI_clamp, e1, zt_bind, i1, i2, a1, b1, b2, zt_eq]
  by_cases c : D 2 p = D 5 b
  · rw [if_pos c.symm, if_pos c]
  · rw [if_neg (Ne.symm c), if_neg c]
theorem K17 {x y : Int32} (hRR : pm_RR r k I) : pm_KK r k (fun v b : Int32 => v = b) 1 2 (fun I J => f189 r x y I J) (fun I J => f288 x y I J) I J := by
  obtain ⟨n, t, D, l0, k0, l1, k1, h⟩ := hRR
  have hC := h.1.1
  have h8 := hC.1.2.2.2.2.1
  have h5 := hC.1.2.2.2.2.2.1
  rcases tr (x := x) (n := t) (by omega) with ⟨b, hb, rfl⟩ | hx
  · rcases tr (x := y) (n := n) (by omega) with ⟨p, hp, rfl⟩ | hy
    · obtain ⟨I1, e1⟩ := e47 (J := J) hC.1 hC.2.1 hp hC.2.2.1 hC.2.2.2.2.1
      have g1 := fr_47 _ _ _ e1
      have R0 := R0_ag h g1.1 rfl
      have R1 := R0_t0 (x := nI 0) R0
      have i5 : I1 5 = I 5 := ag_cell g1.1 (by decide) (by intro f; simp)
      have hg := fun c J => e277g (J := J) (c := c) hp h8 R1.1.2.1.1.1 zt_ws
      have hg2 := fun c J => e279g (J := J) (c := c) hb h5 R1.1.2.1.1.2.1 zt_ws
      refine KK_v (v := pm_gv D (pm_oW l0 k0 D n (I 5) p) b p) (I1 := I1) (J1 := J) ?_ aj_refl (fun J' => ?_)
      · unfold f189
        rw [e182g hb h5 hC.1.2.2.1, zt_xl, e180g hp h8 hC.1.2.1, zt_xl, e1, zt_bind]
        simp only [e56 R0.1.1.1 R0.1.1.2.1 hp hb]
      · obtain ⟨I3, e3, s3, ru3, _, _, g3⟩ := e253 (I := pm_w I1 127 0 (nI 0)) (J := J') R1.1.2.2.1.1
        have R3 := R0_ag R1 g3 rfl
        rw [zt_wc (by omega), i5] at s3
        obtain ⟨I4, e4⟩ := e289 (J := J') (x := 0) R3.1.2.1.1 R3.1.2.1.2.1 hp hb (by omega) ru3 R3.1.2.1.2.2.1 R3.1.2.1.2.2.2.2.1 s3
        have g4 := fr_289 _ _ _ e4
        refine ⟨I4, ?_, ?_, R0_R (R0_ag R3 g4.1 rfl)⟩
        · unfold f288
          simp only [pm_lt, zt_lit, hg, hg2, zt_bind, if_true, e3, e4]
        · rw [g4.1 127 0 (by decide) (by simp), g3 127 0 (by decide) (by decide), zt_ws]
    · obtain ⟨Ia, Ib, n1, n2, n3, n4⟩ := no_sN h hy
      have z : Ia = pm_w I 0 12 (I 0 12 + nI 1) := by
        have q := n1 J
        rw [e180b hy h8 hC.1.2.1] at q
        injection q with q
        injection q with _ q
        injection q with q _
        exact q.symm
      have hg2 := fun c J => e279g (I := pm_w Ia 127 0 (nI 0)) (J := J) (c := c) hb h5 (by rw [zt_w2 (by omega), z, zt_wc (by omega)]; exact h.1.2.1.1.2.1) zt_ws
      refine KK_1 (b := nI 0) (Ia := Ia) (Ib := Ib) ?_ (fun J' => ?_) n3 n4
      · unfold f189
        rw [e182g hb h5 hC.1.2.2.1, zt_xl, n1, zt_xr]
      · unfold f288
        simp only [pm_lt, zt_lit, hg2, n2, zt_bind, Bool.false_eq_true, if_true, if_false]
  · obtain ⟨Ia, Ib, n1, n2, n3, n4⟩ := no_tN h hx
    refine KK_1 (b := nI 0) (Ia := Ia) (Ib := Ib) ?_ (fun J' => ?_) n3 n4
    · unfold f189
      rw [n1, zt_xr]
    · unfold f288
      simp only [pm_lt, zt_lit, n2, zt_bind, Bool.false_eq_true, if_false]
end K3
