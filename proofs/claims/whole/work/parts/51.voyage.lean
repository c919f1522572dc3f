/-! VOYAGE, SPAN -/
section Vo
variable {J : Nat → Nat → Int64} {r k : Nat}
def pm_vok (x y z : Int32) : Prop := ∃ q kk W : Nat, q ≤ 16 ∧ kk ≤ 40 ∧ 1 ≤ W ∧ W ≤ 99 ∧ x = nI q ∧ y = nI kk ∧ z = nI W
theorem v212g {I : Nat → Nat → Int32} {q kk W : Nat} (hq : q ≤ 16) (hk : kk ≤ 40) (h1 : 1 ≤ W) (hW : W ≤ 99) : v212 (nI q) (nI kk) (nI W) I = true ∧ v320 (nI q) (nI kk) (nI W) I = true := by
  unfold v212 v320
  simp (disch := omega) only [zt_lit, zt_l0, zt_lt, if_neg, if_false, and_self]
theorem v212b {I I' : Nat → Nat → Int32} {x y z : Int32} (h : ¬ pm_vok x y z) : v212 x y z I = false ∧ v320 x y z I' = false := by
  have e : v320 x y z I' = v212 x y z I := rfl
  rw [e]
  have g : v212 x y z I = false := by
    by_cases c : v212 x y z I = true
    · refine absurd ?_ h
      unfold v212 at c
      have e1 : ((1 : Int32)).toInt = 1 := by decide
      have e16 : ((16 : Int32)).toInt = 16 := by decide
      have e40 : ((40 : Int32)).toInt = 40 := by decide
      have e99 : ((99 : Int32)).toInt = 99 := by decide
      rw [e1, e16, e40, e99] at c
      by_cases a1 : x.toInt < 0
      · rw [if_pos a1] at c; cases c
      rw [if_neg a1] at c
      by_cases a2 : 16 < x.toInt
      · rw [if_pos a2] at c; cases c
      rw [if_neg a2] at c
      by_cases a3 : y.toInt < 0
      · rw [if_pos a3] at c; cases c
      rw [if_neg a3] at c
      by_cases a4 : 40 < y.toInt
      · rw [if_pos a4] at c; cases c
      rw [if_neg a4] at c
      by_cases a5 : z.toInt < 1
      · rw [if_pos a5] at c; cases c
      rw [if_neg a5] at c
      by_cases a6 : 99 < z.toInt
      · rw [if_pos a6] at c; cases c
      obtain ⟨q, hq, rfl⟩ := zt_i0 a1
      obtain ⟨kk, hk, rfl⟩ := zt_i0 a3
      obtain ⟨W, hW, rfl⟩ := zt_i0 (x := z) (by omega)
      rw [nI_toInt (by omega)] at a2 a4 a5 a6
      exact ⟨q, kk, W, by omega, by omega, by omega, by omega, rfl, rfl, rfl⟩
    · exact Bool.eq_false_iff.mpr c
  exact ⟨g, g⟩
def pm_vy (l : Nat) (k : Nat → Nat) (D : Nat → Nat → Nat) (n st : Nat) (w : Nat → Int32) (q kk W : Nat) (s : Int32) (x : Nat) : Int32 := if x = 0 then nI (pm_sl (pm_cnt (fun p => decide (w p = nI 0)) n) q kk s st W).2.2.1 else if x = 1 then nI (pm_sl (pm_cnt (fun p => decide (w p = nI 0)) n) q kk s st W).2.1 else if x = 2 then nI (pm_sl (pm_cnt (fun p => decide (w p = nI 0)) n) q kk s st W).2.2.2 else nI (pm_cnt (fun p => decide (w p = nI 3)) n + pm_cnt (fun p => decide (w p = nI 2) && pm_fb (pm_Qw l k D n w p) W) n)
theorem K35 {I : Nat → Nat → Int32} {s x2 x3 x4 x5 : Int32} (hRR : pm_RR r k I) : pm_KK r k (fun v b : Int32 => v = b) 1 1 (fun I J => f211 r s x2 x3 x4 x5 I J) (fun I J => f319 s x2 x3 x4 x5 I J) I J := by
  obtain ⟨n, t, D, l0, k0, l1, k1, h⟩ := hRR
  obtain ⟨Ib, n2, n3, n4⟩ := il_e h
  have hC := h.1.1
  have h8 := hC.1.2.2.2.2.1
  have hi := h.1.2.2.1.2
  obtain ⟨wk, st, hwk, hst, e64, e65, hpp⟩ := id hi
  have e3 : ((3 : Int32)).toInt = 3 := by decide
  have n2' : ∀ J', f222 0 1 1 (pm_w (pm_w I 0 13 (I 0 13 + nI 1)) 127 0 0) J' = some (false, Ib, J') := n2
  by_cases hv : pm_vok x2 x3 x4
  · obtain ⟨q, kk, W, hq, hk, h1, hW, rfl, rfl, rfl⟩ := hv
    have gv := fun I => v212g (I := I) hq hk h1 hW
    rcases tr2 x5 0 3 (by omega) with ⟨z, _, hz, rfl⟩ | hy
    · have gb := fun I => v241g (p := z) (a := 0) (b := 3) (I := I) (by omega) (by omega) (by omega)
      have cl : ∃ I1, f211 r s (nI q) (nI kk) (nI W) (nI z) I J = some (.inl (pm_vy l0 k0 D n st (I 5) q kk W s z), I1, J) ∧ pm_ag [8, 11, 12] [(112, 0), (112, 1), (112, 2)] I I1 := by
        obtain ⟨Ia, ea⟩ := e54 (J := J) (m := W) (by omega) hC
        obtain ⟨Ic, ec, c0, c1, c2⟩ := e154 (J := J) (s := s) hq hk hW hst e65 hC
        have ga := (fr_54 _ _ _ ea).1
        have gc := (fr_154 _ _ _ ec).1
        unfold f211 pm_vy
        rw [(gv I).1]
        show ∃ I1, pm_xb (f174 1 I J) _ = _ ∧ _
        rw [e174g, zt_xl, nd_g (x := nI z) (by rw [nI_toInt (by omega)]; omega) (by rw [nI_toInt (by omega), e3]; omega)]
        have zz : z = 0 ∨ z = 1 ∨ z = 2 ∨ z = 3 := by omega
        rcases zz with rfl | rfl | rfl | rfl
        · refine ⟨Ic, ?_, ag_mono gc (zt_sub rfl) (zt_subF rfl)⟩
          rw [if_neg (by decide), ec, zt_bind]
          simp only [c0]
          rfl
        · refine ⟨Ic, ?_, ag_mono gc (zt_sub rfl) (zt_subF rfl)⟩
          rw [if_neg (by decide), ec, zt_bind]
          simp only [c1]
          rfl
        · refine ⟨Ic, ?_, ag_mono gc (zt_sub rfl) (zt_subF rfl)⟩
          rw [if_neg (by decide), ec, zt_bind]
          simp only [c2]
          rfl
        · refine ⟨Ia, ?_, ag_mono ga (zt_sub rfl) (zt_subF rfl)⟩
          rw [if_pos (by decide), ea, zt_bind]
          rfl
      obtain ⟨I1, ecl, g1⟩ := cl
      have R1 := R0_t0 (x := 0) (R0_ag h g1 rfl)
      have i5 : I1 5 = I 5 := ag_cell g1 (by decide) (by intro f; simp)
      refine KK_v (v := pm_vy l0 k0 D n st (I 5) q kk W s z) (I1 := I1) (J1 := J) ecl aj_refl (fun J' => ?_)
      have ms := R1.1.2.2.1.1
      rw [zt_wc (by omega), zt_wc (by omega), i5] at ms
      obtain ⟨I4, v', e4, s4, B4, u65, u41, u56⟩ := e321 (J := J') (I := pm_w I1 127 0 0) (s := s) hi hq hk hW hst R1.1.2.1 (by rw [zt_wc (by omega)]; exact ms) e65
      have g4 := (fr_321 _ _ _ e4).1
      have R4 := R0_ag R1 g4 rfl
      have hg : f222 1 1 1 (pm_w I1 127 0 0) J' = some (true, pm_w I1 127 0 0, J') := e222g (I := pm_w I1 127 0 0) (J := J') (c := 1) (k := 1) (by rw [zt_ws]; rfl)
      have gb' : v241 (nI z) 0 3 (pm_w I1 127 0 0) = true := gb _
      refine ⟨I4, ?_, ?_, R0_R R4⟩
      · unfold f319 pm_vy
        rw [pm_lt_eq]
        simp only [(gv (pm_w I1 127 0 0)).2, gb', if_true, hg, zt_bind, e4]
        have zz : z = 0 ∨ z = 1 ∨ z = 2 ∨ z = 3 := by omega
        rcases zz with rfl | rfl | rfl | rfl
        · rw [if_pos (by decide), u41]; rfl
        · rw [if_neg (by decide), if_pos (by decide), zt_lit 65, zt_in (by omega) (by omega), zt_gd, nI_clamp (by omega), s4.2.2.2, u65]; rfl
        · rw [if_neg (by decide), if_neg (by decide), if_pos (by decide), u56]; rfl
        · rw [if_neg (by decide), if_neg (by decide), if_neg (by decide), zt_lit 3, e257 R4.1.2.1.1.1 h8, zt_bind, cn_ms h8 s4, Bd_free B4]; rfl
      · rw [g4 127 0 (by decide) (by decide), zt_ws]; rfl
    · have vb := fun I => v241b (x := x5) (a := 0) (b := 3) (I := I) (by omega) (by omega) (by omega)
      refine KK_2 (b := nI 0) (Ia := pm_w I 0 13 (I 0 13 + nI 1)) (Ib := Ib) ?_ (fun J' => ?_) n3 n4
      · unfold f211
        rw [(gv I).1]
        show pm_xb (f174 1 I J) _ = _
        rw [e174g, zt_xl, nd_b (x := x5) (by rw [e3]; omega)]
      · have vb' : v241 x5 0 3 (pm_w (pm_w I 0 13 (I 0 13 + nI 1)) 127 0 0) = false := vb _
        unfold f319
        rw [pm_lt_eq]
        simp only [(gv (pm_w (pm_w I 0 13 (I 0 13 + nI 1)) 127 0 0)).2, vb', Bool.false_eq_true, if_true, if_false, n2', zt_bind]
        rfl
  · have vb := fun I => v212b (I := I) (I' := I) hv
    refine KK_2 (b := nI 0) (Ia := pm_w I 0 13 (I 0 13 + nI 1)) (Ib := Ib) ?_ (fun J' => ?_) n3 n4
    · unfold f211
      rw [(vb I).1]
      show pm_xb (f174 0 I J) _ = _
      rw [e174b, zt_xr]
    · unfold f319
      rw [pm_lt_eq]
      simp only [(vb (pm_w (pm_w I 0 13 (I 0 13 + nI 1)) 127 0 0)).2, Bool.false_eq_true, if_false, n2', zt_bind]
      rfl
/-- the least, the most, how often none, of the first i seeds -/
def pm_sp3 (h : Nat → Nat) : Nat → Nat × Nat × Nat
  | 0 => (0, 0, 0)
  | i + 1 =>
    let u := pm_sp3 h i
    ((if i = 0 then h 0 else Nat.min u.1 (h i)), Nat.max u.2.1 (h i), u.2.2 + (if h i = 0 then 1 else 0))
theorem sp3_le {h : Nat → Nat} {b : Nat} (hb : ∀ i, h i ≤ b) : ∀ i, (pm_sp3 h i).1 ≤ b ∧ (pm_sp3 h i).2.1 ≤ b ∧ (pm_sp3 h i).2.2 ≤ i
  | 0 => ⟨Nat.zero_le _, Nat.zero_le _, Nat.le_refl _⟩
  | i + 1 => by
    obtain ⟨h1, h2, h3⟩ := sp3_le hb i
    have h4 := hb i
    have h5 := hb 0
    unfold pm_sp3
    simp only
    refine ⟨?_, Nat.max_le.mpr ⟨h2, h4⟩, ?_⟩
    · split
      · exact h5
      · exact Nat.le_trans (Nat.min_le_left _ _) h1
    · split <;> omega
theorem max_nI {a b : Nat} (ha : a < 2 ^ 31) (hb : b < 2 ^ 31) : pm_max (nI a) (nI b) = nI (Nat.max a b) := by
  unfold pm_max
  rw [nI_toInt ha, nI_toInt hb]
  by_cases c : a < b
  · rw [if_pos (by omega), show Nat.max a b = b from Nat.max_eq_right (by omega)]
  · rw [if_neg (by omega), show Nat.max a b = a from Nat.max_eq_left (by omega)]
theorem min_nI {a b : Nat} (ha : a < 2 ^ 31) (hb : b < 2 ^ 31) : pm_min (nI a) (nI b) = nI (Nat.min a b) := by
  unfold pm_min
  rw [nI_toInt ha, nI_toInt hb]
  by_cases c : b < a
  · rw [if_pos (by omega), show Nat.min a b = b from Nat.min_eq_right (by omega)]
  · rw [if_neg (by omega), show Nat.min a b = a from Nat.min_eq_left (by omega)]
end Vo
