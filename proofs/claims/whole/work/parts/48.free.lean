/-! FREE IN, OTHERWISE, AHEAD, HUNGER -/
section Fe
variable {J : Nat → Nat → Int64} {r k : Nat}
theorem l53 {n p m l a0 : Nat} {kk : Nat → Nat} {D : Nat → Nat → Nat} {w : Nat → Int32} (ha : a0 = 6 ∨ a0 = 9) (hm : m ≤ 600) (hw : pm_wf l kk) : ∀ (d c fu : Nat) (I : Nat → Nat → Int32), c + d = m → d < fu → pm_CL a0 l kk I → I 5 = w → (∀ j, j < 7 → I 12 j = pm_ppr D n w p (nI (D 1 p)) (w (24 + p)) j) → pm_fiw (pm_Qw l kk D n w p) c = none → ∃ I', f53_37 r fu (nI m) a0 (w (16 + p)) (nI (c + 1)) I J = some (pm_fvw (pm_Qw l kk D n w p) m, I', J) := by
  intro d
  induction d with
  | zero =>
    intro c fu I hc hf hL h5 hp hn
    obtain ⟨fu, rfl⟩ : ∃ k, fu = k + 1 := ⟨fu - 1, by omega⟩
    refine ⟨I, ?_⟩
    have e : c = m := by omega
    subst e
    rw [f53_37, if_pos (by rw [nI_toInt (by omega), nI_toInt (by omega)]; omega)]
    unfold pm_fvw
    rw [hn]
    rfl
  | succ d ih =>
    intro c fu I hc hf hL h5 hp hn
    obtain ⟨fu, rfl⟩ : ∃ k, fu = k + 1 := ⟨fu - 1, by omega⟩
    have v7 : v107 I = w 64 := by unfold v107; rw [h5, zt_lit 64, zt_at (by omega) (by omega)]
    have hL2 : pm_CL a0 l kk (pm_w I 12 7 (w 64 + nI (c + 1))) := CL_ag hL (zt_wc (by omega)) (zt_wc (by omega))
    obtain ⟨S, e⟩ := e18 (I := pm_w I 12 7 (w 64 + nI (c + 1))) (J := J) (a0 := a0) (pp := pm_w7 (pm_ppr D n w p (nI (D 1 p)) (w (24 + p))) (w 64 + nI (c + 1))) (by omega) hL2.1 hL2.2 hw (by
      intro j hj
      rw [zt_wr]
      unfold upd pm_w7
      by_cases c7 : j = 7
      · rw [if_pos c7, if_pos c7]
      · rw [if_neg c7, if_neg c7]; exact hp j (by omega))
    have s : ∀ hq : pm_Qw l kk D n w p (c + 1) = false, _ := fun hq => ih (c + 1) fu (va_up (pm_w I 12 7 (w 64 + nI (c + 1))) (a0 + 2) S) (by omega) (by omega) (CL_ag hL2 (va_up_ne _ _ (by omega)) (va_up_ne _ _ (by omega))) (by rw [va_up_ne _ _ (by omega), zt_wc (by omega)]; exact h5) (fun j hj => by rw [va_up_ne _ _ (by omega), zt_wf (by omega)]; exact hp j hj) (fi_miss hn hq)
    rw [f53_37, if_neg (by rw [nI_toInt (by omega), nI_toInt (by omega)]; omega), pm_lt_eq, v7, zt_lit 7, zt_pw (by omega) (by omega), e, zt_bind, nI_1]
    by_cases q : (w (16 + p) + nI (c + 1)).toInt < (pm_av l kk (pm_w7 (pm_ppr D n w p (nI (D 1 p)) (w (24 + p))) (w 64 + nI (c + 1)))).toInt
    · have hq : pm_Qw l kk D n w p (c + 1) = false := by unfold pm_Qw; rw [decide_eq_true q]; rfl
      obtain ⟨I', r1⟩ := s hq
      refine ⟨I', ?_⟩
      show (if _ then _ else _) = _
      rw [if_pos q]
      exact r1
    · have hq : pm_Qw l kk D n w p (c + 1) = true := by unfold pm_Qw; rw [decide_eq_false q]; rfl
      refine ⟨va_up (pm_w I 12 7 (w 64 + nI (c + 1))) (a0 + 2) S, ?_⟩
      show (if _ then _ else _) = _
      rw [if_neg q]
      unfold pm_fvw
      rw [show m = c + 1 + d by omega, fi_hit hn hq d]
theorem e53 {n t p m l0 l1 x : Nat} {k0 k1 : Nat → Nat} {D : Nat → Nat → Nat} {I : Nat → Nat → Int32} (hm : m ≤ 600) (hx : x < 2) (hQ : pm_CQ r n t D l0 k0 l1 k1 I) (hp : p < n) : ∃ I', f53 r (nI p) (nI x) (nI m) I J = some (if I 5 p = nI 2 then pm_fvw (pm_Qw (pm_lw x l0 l1) (pm_lw x k0 k1) D n (I 5) p) m else pm_m1, I', J) := by
  have h8 := hQ.1.2.2.2.2.1
  unfold f53
  rw [zt_lit 2, e30 (by omega)]
  by_cases c : I 5 p = nI 2
  · obtain ⟨S, e1, e2⟩ := e32 (J := J) hQ.1 hQ.2.1 hp
    obtain ⟨c1, c2⟩ := CQ_CL hQ hx
    have go : ∀ a0, (a0 = 6 ∨ a0 = 9) → pm_CL a0 (pm_lw x l0 l1) (pm_lw x k0 k1) I → ∃ I', f53_37 r pm_FU (nI m) a0 (I 5 (16 + p)) 1 (va_up I 12 S) J = some (pm_fvw (pm_Qw (pm_lw x l0 l1) (pm_lw x k0 k1) D n (I 5) p) m, I', J) := by
      intro a0 ha hL
      exact l53 (J := J) (r := r) (n := n) (p := p) (D := D) (w := I 5) ha hm c2 m 0 pm_FU (va_up I 12 S) (by omega) (by unfold pm_FU; omega) (CL_ag hL (va_up_ne _ _ (by omega)) (va_up_ne _ _ (by omega))) (va_up_ne _ _ (by omega)) (fun j hj => by rw [va_up_self]; exact e2 j (by omega)) rfl
    simp only [c, decide_true, if_true]
    rw [e1, zt_bind, zt_sg (by omega) (by omega)]
    have z : x = 0 ∨ x = 1 := by omega
    rcases z with rfl | rfl
    · exact go 6 (Or.inl rfl) c1
    · exact go 9 (Or.inr rfl) c1
  · refine ⟨I, ?_⟩
    simp only [c, decide_false, Bool.false_eq_true, if_false]
    rfl
theorem l285 {n t p l0 l1 x : Nat} {k0 k1 : Nat → Nat} {D : Nat → Nat → Nat} {w : Nat → Int32} (hx : x < 2) (hp : p < n) (hi : pm_inv n w) (hb : w p = nI 2) : ∀ (d c fu : Nat) (I : Nat → Nat → Int32) (v : Nat → Int32), c + d = 600 → d < fu → pm_MQ n t D l0 k0 l1 k1 I → I 127 40 = nI x → pm_ms n (I 144) v → pm_Bd (pm_lw x l0 l1) (pm_lw x k0 k1) D n w c v → pm_fiw (pm_Qw (pm_lw x l0 l1) (pm_lw x k0 k1) D n w p) c = none → ∃ I', f285_25 fu (nI p) (nI (c + 1)) I J = some (pm_fvw (pm_Qw (pm_lw x l0 l1) (pm_lw x k0 k1) D n w p) 600, I', J) := by
  intro d
  induction d with
  | zero =>
    intro c fu I v hc hf hQ hru hs hB hn
    obtain ⟨fu, rfl⟩ : ∃ k, fu = k + 1 := ⟨fu - 1, by omega⟩
    refine ⟨I, ?_⟩
    have e : c = 600 := by omega
    subst e
    rw [f285_25, zt_lit 600, if_pos (by rw [nI_toInt (by omega), nI_toInt (by omega)]; omega)]
    unfold pm_fvw
    rw [hn]
    rfl
  | succ d ih =>
    intro c fu I v hc hf hQ hru hs hB hn
    obtain ⟨fu, rfl⟩ : ∃ k, fu = k + 1 := ⟨fu - 1, by omega⟩
    have h8 := hQ.1.2.2.2.1
    obtain ⟨m1, m2⟩ := MQ_ML hQ hx
    obtain ⟨I1, e1, s1, _, _, g1⟩ := e272 (J := J) hx hQ hru hs
    have B1 := Bd_s h8 (by omega) m2 hi hB
    have a0 := s1.1 p (by omega)
    have fr := Bd_fr B1 hp
    have n23 : ¬ nI 2 = nI 3 := by decide
    simp only [hb, n23, decide_false, decide_true, Bool.false_or, Bool.true_and] at fr
    rw [f285_25, zt_lit 600, if_neg (by rw [nI_toInt (by omega), nI_toInt (by omega)]; omega), e1, zt_bind]
    show ∃ I', pm_gd (pm_in (0 + nI p) 66) (if I1 144 (0 + nI p).toNatClampNeg = 3 then some (nI (c + 1), I1, J) else f285_25 fu (nI p) (nI (c + 1) + 1) I1 J) = _
    rw [zt_lit 0, nI_add, Nat.zero_add, zt_in (by omega) (by omega), zt_gd, nI_clamp (by omega), a0, nI_1, zt_lit 3]
    by_cases q : pm_Qw (pm_lw x l0 l1) (pm_lw x k0 k1) D n w p (c + 1) = true
    · have f1 : pm_fb (pm_Qw (pm_lw x l0 l1) (pm_lw x k0 k1) D n w p) (c + 1) = true := by rw [pm_fb, q, Bool.or_true]
      rw [f1] at fr
      refine ⟨I1, ?_⟩
      rw [if_pos (of_decide_eq_true fr)]
      unfold pm_fvw
      rw [show 600 = c + 1 + d by omega, fi_hit hn q d]
    · have q' := Bool.eq_false_iff.mpr q
      have hn1 := fi_miss hn q'
      have f1 : pm_fb (pm_Qw (pm_lw x l0 l1) (pm_lw x k0 k1) D n w p) (c + 1) = false := by rw [fi_fb, hn1]; rfl
      rw [f1] at fr
      rw [if_neg (of_decide_eq_false fr)]
      exact ih (c + 1) fu I1 _ (by omega) (by omega) (MQ_ag hQ g1 (by decide)) (by rw [g1 127 40 (by decide) (by decide)]; exact hru) s1 B1 hn1
theorem e285 {n t p l0 l1 x : Nat} {k0 k1 : Nat → Nat} {D : Nat → Nat → Nat} {w : Nat → Int32} {I : Nat → Nat → Int32} (hx : x < 2) (hp : p < n) (hi : pm_inv n w) (hQ : pm_MQ n t D l0 k0 l1 k1 I) (hs : pm_ms n (I 143) w) : ∃ I', f285 (nI p) (nI x) I J = some (if w p = nI 2 then pm_fvw (pm_Qw (pm_lw x l0 l1) (pm_lw x k0 k1) D n w p) 600 else pm_m1, I', J) := by
  have h8 := hQ.1.2.2.2.1
  obtain ⟨I1, e1, s1, _, _, _, g1⟩ := e253 (J := J) hs
  have g2 : pm_ag [144] [(127, 40), (127, 41), (127, 42)] I (pm_w I1 127 40 (nI x)) := ag_w g1 (by simp)
  have s2 : pm_ms n (pm_w I1 127 40 (nI x) 144) w := by rw [zt_wc (by omega)]; exact s1
  have a0 := s2.1 p (by omega)
  unfold f285
  rw [e1, zt_bind]
  show ∃ I', pm_lt (pm_w I1 127 40 (nI x)) (fun I5 => pm_gd (pm_in (0 + nI p) 66) (if I5 144 (0 + nI p).toNatClampNeg = 2 then f285_25 pm_FU (nI p) 1 I5 J else some (-1, I5, J))) = _
  rw [pm_lt_eq, zt_lit 0, nI_add, Nat.zero_add, zt_in (by omega) (by omega), zt_gd, nI_clamp (by omega), a0, zt_lit 2]
  by_cases c : w p = nI 2
  · rw [if_pos c, if_pos c]
    exact l285 (J := J) hx hp hi c 600 0 pm_FU _ w (by omega) (by unfold pm_FU; omega) (MQ_ag hQ g2 (by decide)) zt_ws s2 (Bd_0 _ _ _ _ _) rfl
  · rw [if_neg c, if_neg c]
    exact ⟨_, rfl⟩
theorem K14 {I : Nat → Nat → Int32} {x : Int32} (hRR : pm_RR r k I) : pm_KK r k (fun v b : Int32 => v = b) 1 2 (fun I J => f186 r x I J) (fun I J => f284 x I J) I J := by
  obtain ⟨n, t, D, l0, k0, l1, k1, h⟩ := hRR
  have hC := h.1.1
  have h8 := hC.1.2.2.2.2.1
  rcases tr (x := x) (n := n) (by omega) with ⟨p, hp, rfl⟩ | hx
  · obtain ⟨I1, e1⟩ := e53 (J := J) (m := 600) (x := 0) (by omega) (by omega) hC hp
    have g1 := fr_53 _ _ _ e1
    have R1 := R0_t0 (x := 0) (R0_ag h g1.1 rfl)
    have i5 : I1 5 = I 5 := ag_cell g1.1 (by decide) (by intro f; simp)
    refine KK_v (v := if I 5 p = nI 2 then pm_fvw (pm_Qw (pm_lw 0 l0 l1) (pm_lw 0 k0 k1) D n (I 5) p) 600 else pm_m1) (I1 := I1) (J1 := J) ?_ aj_refl (fun J' => ?_)
    · unfold f186
      rw [e180g hp h8 hC.1.2.1, zt_xl]
      show (f53 r (nI p) (nI 0) (nI 600) I J).bind _ = _
      rw [e1, zt_bind]
    · obtain ⟨I4, e4⟩ := e285 (J := J') (x := 0) (by omega) hp (by have := h.1.2.2.1.2; exact this) R1.1.2.1 (by rw [zt_wc (by omega)]; have := R1.1.2.2.1.1; rw [zt_wc (by omega), zt_wc (by omega), i5] at this; exact this)
      have g4 := fr_285 _ _ _ e4
      refine ⟨I4, ?_, ?_, R0_R (R0_ag R1 g4.1 rfl)⟩
      · unfold f284
        rw [pm_lt_eq, e277g hp h8 R1.1.2.1.1.1 (by rw [zt_ws]; rfl), zt_bind]
        simp only [if_true]
        show (f285 (nI p) (nI 0) (pm_w I1 127 0 0) J').bind _ = _
        rw [e4, zt_bind]
      · rw [g4.1 127 0 (by decide) (by decide), zt_ws]; rfl
  · obtain ⟨Ia, Ib, n1, n2, n3, n4⟩ := no_s h hx
    refine KK_1 (b := 0) (Ia := Ia) (Ib := Ib) ?_ (fun J' => ?_) n3 n4
    · unfold f186
      rw [n1, zt_xr]
    · unfold f284
      rw [pm_lt_eq, n2, zt_bind]
      rfl
theorem K15 {I : Nat → Nat → Int32} {x : Int32} (hRR : pm_RR r k I) : pm_KK r k (fun v b : Int32 => v = b) 1 2 (fun I J => f187 r x I J) (fun I J => f286 x I J) I J := by
  obtain ⟨n, t, D, l0, k0, l1, k1, h⟩ := hRR
  have hC := h.1.1
  have h8 := hC.1.2.2.2.2.1
  rcases tr (x := x) (n := n) (by omega) with ⟨p, hp, rfl⟩ | hx
  · obtain ⟨I1, e1⟩ := e53 (J := J) (m := 600) (x := 1) (by omega) (by omega) hC hp
    have g1 := fr_53 _ _ _ e1
    have R1 := R0_t0 (x := 0) (R0_ag h g1.1 rfl)
    have i5 : I1 5 = I 5 := ag_cell g1.1 (by decide) (by intro f; simp)
    refine KK_v (v := if I 5 p = nI 2 then pm_fvw (pm_Qw (pm_lw 1 l0 l1) (pm_lw 1 k0 k1) D n (I 5) p) 600 else pm_m1) (I1 := I1) (J1 := J) ?_ aj_refl (fun J' => ?_)
    · unfold f187
      rw [e180g hp h8 hC.1.2.1, zt_xl]
      show (f53 r (nI p) (nI 1) (nI 600) I J).bind _ = _
      rw [e1, zt_bind]
    · obtain ⟨I4, e4⟩ := e285 (J := J') (x := 1) (by omega) hp (by have := h.1.2.2.1.2; exact this) R1.1.2.1 (by rw [zt_wc (by omega)]; have := R1.1.2.2.1.1; rw [zt_wc (by omega), zt_wc (by omega), i5] at this; exact this)
      have g4 := fr_285 _ _ _ e4
      refine ⟨I4, ?_, ?_, R0_R (R0_ag R1 g4.1 rfl)⟩
      · unfold f286
        rw [pm_lt_eq, e277g hp h8 R1.1.2.1.1.1 (by rw [zt_ws]; rfl), zt_bind]
        simp only [if_true]
        show (f285 (nI p) (nI 1) (pm_w I1 127 0 0) J').bind _ = _
        rw [e4, zt_bind]
      · rw [g4.1 127 0 (by decide) (by decide), zt_ws]; rfl
  · obtain ⟨Ia, Ib, n1, n2, n3, n4⟩ := no_s h hx
    refine KK_1 (b := 0) (Ia := Ia) (Ib := Ib) ?_ (fun J' => ?_) n3 n4
    · unfold f187
      rw [n1, zt_xr]
    · unfold f286
      rw [pm_lt_eq, n2, zt_bind]
      rfl
end Fe
