/-! SPAN -/
section Sn
variable {J : Nat → Nat → Int64} {r k : Nat}
def pm_hs (a q kk W st : Nat) (s : Int32) (i : Nat) : Nat := (pm_sl a q kk (s + nI i) st W).2.2.1
def pm_so (h : Nat → Nat) (m x : Nat) : Int32 := if x = 0 then nI (pm_sp3 h m).1 else if x = 1 then nI (pm_sp3 h m).2.1 else nI (pm_sp3 h m).2.2
theorem l213 {n t q kk W st m x l0 l1 : Nat} {k0 k1 : Nat → Nat} {D : Nat → Nat → Nat} {w : Nat → Int32} {s : Int32} (hm : m ≤ 20) (hq : q ≤ 16) (hk : kk ≤ 40) (hW : W ≤ 99) (hst : st ≤ 400) (h65 : w 65 = nI st) (hx : x < 3) : ∀ (d i fu : Nat) (I : Nat → Nat → Int32), i + d = m → d < fu → pm_CQ r n t D l0 k0 l1 k1 I → I 5 = w → ∃ I', f213_64 r fu s (nI m) (nI q) (nI kk) (nI W) (nI x) (nI (pm_sp3 (pm_hs (pm_cnt (fun p => decide (w p = nI 0)) n) q kk W st s) i).1) (nI (pm_sp3 (pm_hs (pm_cnt (fun p => decide (w p = nI 0)) n) q kk W st s) i).2.1) (nI (pm_sp3 (pm_hs (pm_cnt (fun p => decide (w p = nI 0)) n) q kk W st s) i).2.2) (nI i) I J = some (.inl (pm_so (pm_hs (pm_cnt (fun p => decide (w p = nI 0)) n) q kk W st s) m x), I', J) := by
  intro d
  induction d with
  | zero =>
    intro i fu I hi hf hQ hw
    obtain ⟨fu, rfl⟩ : ∃ k, fu = k + 1 := ⟨fu - 1, by omega⟩
    have e : i = m := by omega
    subst e
    refine ⟨I, ?_⟩
    rw [f213_64, if_neg (by omega)]
    unfold pm_so
    have z : x = 0 ∨ x = 1 ∨ x = 2 := by omega
    rcases z with rfl | rfl | rfl
    · rw [if_pos (by decide)]; rfl
    · rw [if_neg (by decide), if_pos (by decide)]; rfl
    · rw [if_neg (by decide), if_neg (by decide)]; rfl
  | succ d ih =>
    intro i fu I hi hf hQ hw
    obtain ⟨fu, rfl⟩ : ∃ k, fu = k + 1 := ⟨fu - 1, by omega⟩
    have h8 := hQ.1.2.2.2.2.1
    have hc := cn_le (fun p => decide (w p = nI 0)) n
    obtain ⟨I1, e1, c0, _, _⟩ := e154 (J := J) (s := s + nI i) hq hk hW hst (by rw [hw]; exact h65) hQ
    rw [hw] at c0
    have g1 := (fr_154 _ _ _ e1).1
    have key := ih (i + 1) fu I1 (by omega) (by omega) (CQ_ag hQ g1 (by decide)) (by rw [ag_cell g1 (by decide) (by intro f; simp)]; exact hw)
    generalize ha : pm_cnt (fun p => decide (w p = nI 0)) n = a at *
    have hb : ∀ j, pm_hs a q kk W st s j ≤ 800 := fun j => by
      have b1 := (sl_le a q kk (s + nI j) st W).2.1
      have b2 : W * a ≤ 99 * 8 := Nat.mul_le_mul hW (by omega)
      unfold pm_hs
      omega
    obtain ⟨u1, u2, u3⟩ := sp3_le hb i
    have hi2 := hb i
    have c0' : I1 112 0 = nI (pm_hs a q kk W st s i) := c0
    rw [pm_sp3] at key
    simp only at key
    rw [f213_64, if_pos (by rw [nI_toInt (by omega), nI_toInt (by omega)]; omega), e1, zt_bind]
    simp (disch := omega) only [c0', zt_lit, zt_eq, max_nI, min_nI, nI_add]
    by_cases ci : i = 0
    · subst ci
      by_cases cz : pm_hs a q kk W st s 0 = 0
      · simp only [cz, if_true] at key ⊢
        exact key
      · simp only [cz, if_true, if_false, Nat.add_zero] at key ⊢
        exact key
    · by_cases cz : pm_hs a q kk W st s i = 0
      · simp only [ci, cz, if_true, if_false] at key ⊢
        exact key
      · simp only [ci, cz, if_false, Nat.add_zero] at key ⊢
        exact key
theorem e213 {n t q kk W st m x l0 l1 : Nat} {k0 k1 : Nat → Nat} {D : Nat → Nat → Nat} {s : Int32} {I : Nat → Nat → Int32} (hm : m ≤ 20) (hq : q ≤ 16) (hk : kk ≤ 40) (hW : W ≤ 99) (hst : st ≤ 400) (h65 : I 5 65 = nI st) (hx : x < 3) (hQ : pm_CQ r n t D l0 k0 l1 k1 I) : ∃ I', f213_64 r pm_FU s (nI m) (nI q) (nI kk) (nI W) (nI x) 0 0 0 0 I J = some (.inl (pm_so (pm_hs (pm_cnt (fun p => decide (I 5 p = nI 0)) n) q kk W st s) m x), I', J) := by
  have e := l213 (J := J) (s := s) (w := I 5) hm hq hk hW hst h65 hx m 0 pm_FU I (by omega) (by unfold pm_FU; omega) hQ rfl
  rw [pm_sp3, nI_0] at e
  exact e
theorem l323 {n t q kk W st m x l0 l1 : Nat} {k0 k1 : Nat → Nat} {D : Nat → Nat → Nat} {w : Nat → Int32} {s : Int32} (hi0 : pm_inv n w) (h1m : 1 ≤ m) (hm : m ≤ 20) (hq : q ≤ 16) (hk : kk ≤ 40) (hW : W ≤ 99) (hst : st ≤ 400) (h65 : w 65 = nI st) (hx : x < 3) : ∀ (d i fu : Nat) (I : Nat → Nat → Int32), i + d = m → d < fu → pm_MQ n t D l0 k0 l1 k1 I → pm_ms n (I 143) w → ∃ I', f323_64 fu s (nI m) (nI q) (nI kk) (nI W) (nI x) (if i = 0 then pm_m1 else nI (pm_sp3 (pm_hs (pm_cnt (fun p => decide (w p = nI 0)) n) q kk W st s) i).1) (nI (pm_sp3 (pm_hs (pm_cnt (fun p => decide (w p = nI 0)) n) q kk W st s) i).2.1) (nI (pm_sp3 (pm_hs (pm_cnt (fun p => decide (w p = nI 0)) n) q kk W st s) i).2.2) (nI i) I J = some (pm_so (pm_hs (pm_cnt (fun p => decide (w p = nI 0)) n) q kk W st s) m x, I', J) := by
  intro d
  induction d with
  | zero =>
    intro i fu I hi hf hQ hw
    obtain ⟨fu, rfl⟩ : ∃ k, fu = k + 1 := ⟨fu - 1, by omega⟩
    have e : i = m := by omega
    subst e
    refine ⟨I, ?_⟩
    rw [f323_64, if_neg (by omega), if_neg (show ¬ i = 0 by omega)]
    unfold pm_so
    have z : x = 0 ∨ x = 1 ∨ x = 2 := by omega
    rcases z with rfl | rfl | rfl
    · rw [if_pos (by decide)]; rfl
    · rw [if_neg (by decide), if_pos (by decide)]; rfl
    · rw [if_neg (by decide), if_neg (by decide)]; rfl
  | succ d ih =>
    intro i fu I hi hf hQ hw
    obtain ⟨fu, rfl⟩ : ∃ k, fu = k + 1 := ⟨fu - 1, by omega⟩
    have h8 := hQ.1.2.2.2.1
    have hc := cn_le (fun p => decide (w p = nI 0)) n
    obtain ⟨I1, v', e1, _, _, _, c0, _⟩ := e321 (J := J) (s := s + nI i) hi0 hq hk hW hst hQ hw h65
    have g1 := (fr_321 _ _ _ e1).1
    have key := ih (i + 1) fu I1 (by omega) (by omega) (MQ_ag hQ g1 (by decide)) (by rw [ag_cell g1 (by decide) (by intro f; simp)]; exact hw)
    generalize ha : pm_cnt (fun p => decide (w p = nI 0)) n = a at *
    have hb : ∀ j, pm_hs a q kk W st s j ≤ 800 := fun j => by
      have b1 := (sl_le a q kk (s + nI j) st W).2.1
      have b2 : W * a ≤ 99 * 8 := Nat.mul_le_mul hW (by omega)
      unfold pm_hs
      omega
    obtain ⟨u1, u2, u3⟩ := sp3_le hb i
    have hi2 := hb i
    have c0' : I1 127 41 = nI (pm_hs a q kk W st s i) := c0
    rw [if_neg (by omega), pm_sp3] at key
    simp only at key
    have mx : Nat.max (pm_sp3 (pm_hs a q kk W st s) i).2.1 (pm_hs a q kk W st s i) = if (pm_sp3 (pm_hs a q kk W st s) i).2.1 < pm_hs a q kk W st s i then pm_hs a q kk W st s i else (pm_sp3 (pm_hs a q kk W st s) i).2.1 := by
      split
      · exact Nat.max_eq_right (by omega)
      · exact Nat.max_eq_left (by omega)
    have mn : Nat.min (pm_sp3 (pm_hs a q kk W st s) i).1 (pm_hs a q kk W st s i) = if pm_hs a q kk W st s i < (pm_sp3 (pm_hs a q kk W st s) i).1 then pm_hs a q kk W st s i else (pm_sp3 (pm_hs a q kk W st s) i).1 := by
      split
      · exact Nat.min_eq_right (by omega)
      · exact Nat.min_eq_left (by omega)
    rw [mx, mn] at key
    rw [f323_64, if_pos (by rw [nI_toInt (by omega), nI_toInt (by omega)]; omega), e1, zt_bind]
    by_cases ci : i = 0
    · subst ci
      simp (disch := omega) only [c0', zt_lit, zt_m1, zt_eq, zt_lt, nI_add, if_true]
      by_cases cz : pm_hs a q kk W st s 0 = 0
      · by_cases cm : (pm_sp3 (pm_hs a q kk W st s) 0).2.1 < 0
        · omega
        · simp only [cz, cm, if_true, if_false] at key ⊢
          exact key
      · by_cases cm : (pm_sp3 (pm_hs a q kk W st s) 0).2.1 < pm_hs a q kk W st s 0
        · simp only [cz, cm, if_true, if_false, Nat.add_zero] at key ⊢
          exact key
        · simp only [cz, cm, if_true, if_false, Nat.add_zero] at key ⊢
          exact key
    · simp only [ci, if_false] at key ⊢
      simp (disch := omega) only [c0', zt_lit, zt_m1, zt_eqm, zt_eq, zt_lt, nI_add, if_false]
      by_cases cl : pm_hs a q kk W st s i < (pm_sp3 (pm_hs a q kk W st s) i).1 <;> by_cases cm : (pm_sp3 (pm_hs a q kk W st s) i).2.1 < pm_hs a q kk W st s i <;> by_cases cz : pm_hs a q kk W st s i = 0 <;> simp only [cl, cm, if_true, if_false] at key ⊢ <;> simp only [cz, if_true, if_false, Nat.add_zero] at key ⊢ <;> exact key
theorem e323 {n t q kk W st m x l0 l1 : Nat} {k0 k1 : Nat → Nat} {D : Nat → Nat → Nat} {w : Nat → Int32} {s : Int32} {I : Nat → Nat → Int32} (hi0 : pm_inv n w) (h1m : 1 ≤ m) (hm : m ≤ 20) (hq : q ≤ 16) (hk : kk ≤ 40) (hW : W ≤ 99) (hst : st ≤ 400) (h65 : w 65 = nI st) (hx : x < 3) (hQ : pm_MQ n t D l0 k0 l1 k1 I) (hs : pm_ms n (I 143) w) : ∃ I', f323_64 pm_FU s (nI m) (nI q) (nI kk) (nI W) (nI x) (-1) 0 0 0 I J = some (pm_so (pm_hs (pm_cnt (fun p => decide (w p = nI 0)) n) q kk W st s) m x, I', J) := by
  have e := l323 (J := J) (s := s) hi0 h1m hm hq hk hW hst h65 hx m 0 pm_FU I (by omega) (by unfold pm_FU; omega) hQ hs
  rw [pm_sp3, nI_0, if_pos rfl] at e
  exact e
theorem K36 {I : Nat → Nat → Int32} {s x2 x3 x4 x5 x6 : Int32} (hRR : pm_RR r k I) : pm_KK r k (fun v b : Int32 => v = b) 1 1 (fun I J => f213 r s x2 x3 x4 x5 x6 I J) (fun I J => f323 s x2 x3 x4 x5 x6 I J) I J := by
  obtain ⟨n, t, D, l0, k0, l1, k1, h⟩ := hRR
  obtain ⟨Ib, n2, n3, n4⟩ := il_e h
  have hC := h.1.1
  have hi := h.1.2.2.1.2
  obtain ⟨wk, st, hwk, hst, e64, e65, hpp⟩ := id hi
  have e1 : ((1 : Int32)).toInt = 1 := by decide
  have e2 : ((2 : Int32)).toInt = 2 := by decide
  have e20 : ((20 : Int32)).toInt = 20 := by decide
  have n2' : ∀ J', f222 0 1 1 (pm_w (pm_w I 0 13 (I 0 13 + nI 1)) 127 0 0) J' = some (false, Ib, J') := n2
  rcases tr2 x2 1 20 (by omega) with ⟨m, h1m, hm, rfl⟩ | hxm
  rotate_left
  · have vb' : v241 x2 1 20 (pm_w (pm_w I 0 13 (I 0 13 + nI 1)) 127 0 0) = false := v241b (x := x2) (a := 1) (b := 20) (by omega) (by omega) (by omega)
    refine KK_2 (b := nI 0) (Ia := pm_w I 0 13 (I 0 13 + nI 1)) (Ib := Ib) ?_ (fun J' => ?_) n3 n4
    · unfold f213
      rw [nd_b (x := x2) (by rw [e1, e20]; omega)]
    · unfold f323
      rw [pm_lt_eq]
      simp only [vb', Bool.false_eq_true, if_false, n2', zt_bind]
      rfl
  have u1 : ¬ (nI m).toInt < ((1 : Int32)).toInt := by rw [nI_toInt (by omega), e1]; omega
  have u2 : ¬ ((20 : Int32)).toInt < (nI m).toInt := by rw [nI_toInt (by omega), e20]; omega
  have gm : ∀ I, v241 (nI m) 1 20 I = true := fun I => v241g (p := m) (a := 1) (b := 20) (I := I) (by omega) (by omega) (by omega)
  by_cases hv : pm_vok x3 x4 x5
  rotate_left
  · have vb := fun I => v212b (I := I) (I' := I) hv
    refine KK_2 (b := nI 0) (Ia := pm_w I 0 13 (I 0 13 + nI 1)) (Ib := Ib) ?_ (fun J' => ?_) n3 n4
    · unfold f213
      rw [nd_g u1 u2, (vb I).1]
      show pm_xb (f174 0 I J) _ = _
      rw [e174b, zt_xr]
    · unfold f323
      rw [pm_lt_eq]
      simp only [gm, (vb (pm_w (pm_w I 0 13 (I 0 13 + nI 1)) 127 0 0)).2, Bool.false_eq_true, if_true, if_false, n2', zt_bind]
      rfl
  obtain ⟨q, kk, W, hq, hk, h1, hW, rfl, rfl, rfl⟩ := hv
  have gv := fun I => v212g (I := I) hq hk h1 hW
  rcases tr2 x6 0 2 (by omega) with ⟨z, _, hz, rfl⟩ | hy
  rotate_left
  · have vb' : v241 x6 0 2 (pm_w (pm_w I 0 13 (I 0 13 + nI 1)) 127 0 0) = false := v241b (x := x6) (a := 0) (b := 2) (by omega) (by omega) (by omega)
    refine KK_2 (b := nI 0) (Ia := pm_w I 0 13 (I 0 13 + nI 1)) (Ib := Ib) ?_ (fun J' => ?_) n3 n4
    · unfold f213
      rw [nd_g u1 u2, (gv I).1]
      show pm_xb (f174 1 I J) _ = _
      rw [e174g, zt_xl, nd_b (x := x6) (by rw [e2]; omega)]
    · unfold f323
      rw [pm_lt_eq]
      simp only [gm, (gv (pm_w (pm_w I 0 13 (I 0 13 + nI 1)) 127 0 0)).2, vb', Bool.false_eq_true, if_true, if_false, n2', zt_bind]
      rfl
  have gb : ∀ I, v241 (nI z) 0 2 I = true := fun I => v241g (p := z) (a := 0) (b := 2) (I := I) (by omega) (by omega) (by omega)
  obtain ⟨I1, ec⟩ := e213 (J := J) (s := s) (x := z) hm hq hk hW hst e65 (by omega) hC
  have g1 := (fr_213_64 _ _ _ _ _ _ _ _ _ _ _ _ _ _ _ _ ec).1
  have R1 := R0_t0 (x := 0) (R0_ag h g1 rfl)
  have i5 : I1 5 = I 5 := ag_cell g1 (by decide) (by intro f; simp)
  have ms := R1.1.2.2.1.1
  rw [zt_wc (by omega), zt_wc (by omega), i5] at ms
  refine KK_v (v := pm_so (pm_hs (pm_cnt (fun p => decide (I 5 p = nI 0)) n) q kk W st s) m z) (I1 := I1) (J1 := J) ?_ aj_refl (fun J' => ?_)
  · unfold f213
    rw [nd_g u1 u2, (gv I).1]
    show pm_xb (f174 1 I J) _ = _
    rw [e174g, zt_xl, nd_g (x := nI z) (by rw [nI_toInt (by omega)]; omega) (by rw [nI_toInt (by omega), e2]; omega)]
    exact ec
  · obtain ⟨I4, e4⟩ := e323 (J := J') (I := pm_w I1 127 0 0) (s := s) (x := z) hi h1m hm hq hk hW hst e65 (by omega) R1.1.2.1 (by rw [zt_wc (by omega)]; exact ms)
    have g4 := (fr_323_64 _ _ _ _ _ _ _ _ _ _ _ _ _ _ _ _ e4).1
    have hg : f222 1 1 1 (pm_w I1 127 0 0) J' = some (true, pm_w I1 127 0 0, J') := e222g (I := pm_w I1 127 0 0) (J := J') (c := 1) (k := 1) (by rw [zt_ws]; rfl)
    refine ⟨I4, ?_, ?_, R0_R (R0_ag R1 g4 rfl)⟩
    · unfold f323
      rw [pm_lt_eq]
      simp only [gm, (gv (pm_w I1 127 0 0)).2, gb, if_true, hg, zt_bind]
      exact e4
    · rw [g4 127 0 (by decide) (by decide), zt_ws]; rfl
end Sn
