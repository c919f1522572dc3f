/-! NUMBERS THAT ARE NONE SUCH; CALLS OF NUMBERS ALONE -/
theorem zt_litL (n : Nat) : (OfNat.ofNat n : Int64) = lN n := rfl
theorem cmp_lt (x y : Int64) : ((lg_cmp x y).toInt < 0) = (x.toInt < y.toInt) := by
  have h1 : ((1 : Int32)).toInt = 1 := by decide
  have h0 : ((0 : Int32)).toInt = 0 := by decide
  have hm : ((-1 : Int32)).toInt = -1 := by decide
  unfold lg_cmp
  by_cases a : x > y
  · rw [if_pos a, h1]
    have := Int64.lt_iff_toInt_lt.mp a
    exact propext ⟨fun h => by omega, fun h => by omega⟩
  · rw [if_neg a]
    by_cases b : x = y
    · rw [if_pos b, h0, b]
      exact propext ⟨fun h => by omega, fun h => by omega⟩
    · rw [if_neg b, hm]
      have a2 : ¬ y.toInt < x.toInt := fun h => a (Int64.lt_iff_toInt_lt.mpr h)
      have b2 : ¬ x.toInt = y.toInt := fun h => b (Int64.toInt_inj.mp h)
      exact propext ⟨fun h => by omega, fun h => by omega⟩
theorem cmp_gt (x y : Int64) : (0 < (lg_cmp x y).toInt) = (y.toInt < x.toInt) := by
  have h1 : ((1 : Int32)).toInt = 1 := by decide
  have h0 : ((0 : Int32)).toInt = 0 := by decide
  have hm : ((-1 : Int32)).toInt = -1 := by decide
  unfold lg_cmp
  by_cases a : x > y
  · rw [if_pos a, h1]
    have := Int64.lt_iff_toInt_lt.mp a
    exact propext ⟨fun h => by omega, fun h => by omega⟩
  · rw [if_neg a]
    have a2 : ¬ y.toInt < x.toInt := fun h => a (Int64.lt_iff_toInt_lt.mpr h)
    by_cases b : x = y
    · rw [if_pos b, h0, b]
      exact propext ⟨fun h => by omega, fun h => by omega⟩
    · rw [if_neg b, hm]
      exact propext ⟨fun h => by omega, fun h => by omega⟩
theorem lN_subI {a b : Nat} (ha : a < 2 ^ 62) (hb : b < 2 ^ 62) : (lN a - lN b).toInt = (a : Int) - b := by
  rw [Int64.toInt_sub, pk_lT (by omega), pk_lT (by omega)]
  exact Int.bmod_eq_of_le (by omega) (by omega)
section Nd
variable {β : Type} {I : Nat → Nat → Int32} {J : Nat → Nat → Int64} {K1 K2 K3 : Unit → (Nat → Nat → Int32) → (Nat → Nat → Int64) → Option ((β ⊕ Nat) × (Nat → Nat → Int32) × (Nat → Nat → Int64))} {x : Int32} {lo hi : Int}
theorem nd_g (h1 : ¬ x.toInt < lo) (h2 : ¬ hi < x.toInt) : (if x.toInt < lo then pm_xb (f174 0 I J) K1 else (if hi < x.toInt then pm_xb (f174 0 I J) K2 else pm_xb (f174 1 I J) K3)) = K3 () I J := by
  rw [if_neg h1, if_neg h2, e174g, zt_xl]
theorem nd_b (h : x.toInt < lo ∨ hi < x.toInt) : (if x.toInt < lo then pm_xb (f174 0 I J) K1 else (if hi < x.toInt then pm_xb (f174 0 I J) K2 else pm_xb (f174 1 I J) K3)) = some (.inr 2, pm_w I 0 13 (I 0 13 + nI 1), J) := by
  by_cases a : x.toInt < lo
  · rw [if_pos a, e174b, zt_xr]
  · rw [if_neg a, if_pos (by omega), e174b, zt_xr]
theorem nd2_0 (h : x = 0) : (if x = 0 then pm_xb (f174 1 I J) K1 else (if x = 1 then pm_xb (f174 1 I J) K2 else pm_xb (f174 0 I J) K3)) = K1 () I J := by
  rw [if_pos h, e174g, zt_xl]
theorem nd2_1 (h : x = 1) : (if x = 0 then pm_xb (f174 1 I J) K1 else (if x = 1 then pm_xb (f174 1 I J) K2 else pm_xb (f174 0 I J) K3)) = K2 () I J := by
  rw [if_neg (by rw [h]; decide), if_pos h, e174g, zt_xl]
theorem nd2_b (h : ¬ x = 0) (h2 : ¬ x = 1) : (if x = 0 then pm_xb (f174 1 I J) K1 else (if x = 1 then pm_xb (f174 1 I J) K2 else pm_xb (f174 0 I J) K3)) = some (.inr 2, pm_w I 0 13 (I 0 13 + nI 1), J) := by
  rw [if_neg h, if_neg h2, e174b, zt_xr]
/-- what a number that is none such leaves, in the class, in the reference -/
theorem il_e {r k n t l0 l1 : Nat} {D : Nat → Nat → Nat} {k0 k1 : Nat → Nat} (h : pm_R0 r k n t D l0 k0 l1 k1 I) : ∃ Ib : Nat → Nat → Int32, (∀ J, f222 (nI 0) (nI 1) (nI 1) (pm_w (pm_w I 0 13 (I 0 13 + nI 1)) 127 0 (nI 0)) J = some (false, Ib, J)) ∧ Ib 127 0 = nI 1 ∧ pm_RR r k Ib := by
  refine ⟨pm_w (pm_w (pm_w (pm_w I 0 13 (I 0 13 + nI 1)) 127 0 0) 127 0 (nI 1)) 128 1 (I 128 1 + nI 1), fun J => ?_, ?_, RR_il (R0_R h)⟩
  · have q := e222b (I := pm_w (pm_w I 0 13 (I 0 13 + nI 1)) 127 0 (nI 0)) (J := J) (c := 1) (k := 1) zt_ws (Or.inl rfl) (by omega)
    simp (disch := omega) only [zt_wc] at q
    exact q
  · simp (disch := omega) only [zt_ws, zt_w2]
end Nd
/-- x lies between, or not -/
theorem tr2 (x : Int32) (lo hi : Nat) (hh : hi < 2 ^ 31) : (∃ p, lo ≤ p ∧ p ≤ hi ∧ x = nI p) ∨ (x.toInt < (lo : Int) ∨ (hi : Int) < x.toInt) := by
  rcases zt_ix x with h | ⟨j, hj, rfl⟩
  · exact Or.inr (Or.inl (by omega))
  · by_cases h : lo ≤ j ∧ j ≤ hi
    · exact Or.inl ⟨j, h.1, h.2, rfl⟩
    · exact Or.inr (by rw [nI_toInt hj]; omega)
section Nm
variable {I : Nat → Nat → Int32} {J : Nat → Nat → Int64} {r k : Nat}
theorem e208 {x y z : Int32} {I' : Nat → Nat → Int32} : v208 x y z I = v317 x y z I' := by
  unfold v208 v317
  by_cases a : x.toInt < y.toInt
  · rw [if_pos a, if_neg (by omega), if_neg (fun e => by rw [e] at a; omega)]
  · rw [if_neg a]
    by_cases b : y.toInt < x.toInt
    · rw [if_pos b, if_pos b]
    · rw [if_neg b, if_neg b, if_pos (Int32.toInt_inj.mp (by omega))]
theorem K34 {x y z : Int32} (hRR : pm_RR r k I) : pm_KK r k (fun v b : Int32 => v = b) 1 1 (fun I J => f210 x y z I J) (fun I J => f318 x y z I J) I J := by
  obtain ⟨n, t, D, l0, k0, l1, k1, h⟩ := hRR
  obtain ⟨Ib, n2, n3, n4⟩ := il_e h
  have e99 : ((99 : Int32)).toInt = 99 := by decide
  rcases tr2 x 0 99 (by omega) with ⟨a, _, a2, rfl⟩ | hx
  · have u1 : ¬ (nI a).toInt < 0 := by rw [nI_toInt (by omega)]; omega
    have u2 : ¬ ((99 : Int32)).toInt < (nI a).toInt := by rw [nI_toInt (by omega), e99]; omega
    have ga := fun I => v241g (p := a) (a := 0) (b := 99) (I := I) (by omega) (by omega) (by omega)
    rcases tr2 y 0 99 (by omega) with ⟨b, _, b2, rfl⟩ | hy
    · have w1 : ¬ (nI b).toInt < 0 := by rw [nI_toInt (by omega)]; omega
      have w2 : ¬ ((99 : Int32)).toInt < (nI b).toInt := by rw [nI_toInt (by omega), e99]; omega
      have gb := fun I => v241g (p := b) (a := 0) (b := 99) (I := I) (by omega) (by omega) (by omega)
      rcases tr2 z 0 99 (by omega) with ⟨c, _, c2, rfl⟩ | hz
      · have R1 := R0_t0 (x := nI 0) h
        have gc := fun I => v241g (p := c) (a := 0) (b := 99) (I := I) (by omega) (by omega) (by omega)
        have h2 := fun c k J => e222g (I := pm_w I 127 0 (nI 0)) (J := J) (c := c) (k := k) zt_ws
        refine KK_v (v := v208 (nI a) (nI b) (nI c) I) (I1 := I) (J1 := J) ?_ aj_refl (fun J' => ⟨pm_w I 127 0 (nI 0), ?_, zt_ws, R0_R R1⟩)
        · unfold f210
          rw [nd_g u1 u2, nd_g w1 w2, nd_g (by rw [nI_toInt (by omega)]; omega) (by rw [nI_toInt (by omega), e99]; omega)]
        · unfold f318
          have h2' : ∀ J, f222 (nI 1) (nI 1) (nI 1) (pm_w I 127 0 (nI 0)) J = some (true, pm_w I 127 0 (nI 0), J) := fun J => h2 _ _ J
          simp only [pm_lt, zt_lit, ga, gb, gc, h2', zt_bind, if_true]
          rw [e208]
      · have vb := fun I => v241b (x := z) (a := 0) (b := 99) (I := I) (by omega) (by omega) (by omega)
        refine KK_2 (b := nI 0) (Ia := pm_w I 0 13 (I 0 13 + nI 1)) (Ib := Ib) ?_ (fun J' => ?_) n3 n4
        · unfold f210
          rw [nd_g u1 u2, nd_g w1 w2, nd_b (by rw [e99]; omega)]
        · unfold f318
          simp only [pm_lt, zt_lit, ga, gb, vb, n2, zt_bind, Bool.false_eq_true, if_true, if_false]
    · have vb := fun I => v241b (x := y) (a := 0) (b := 99) (I := I) (by omega) (by omega) (by omega)
      refine KK_2 (b := nI 0) (Ia := pm_w I 0 13 (I 0 13 + nI 1)) (Ib := Ib) ?_ (fun J' => ?_) n3 n4
      · unfold f210
        rw [nd_g u1 u2, nd_b (by rw [e99]; omega)]
      · unfold f318
        simp only [pm_lt, zt_lit, ga, vb, n2, zt_bind, Bool.false_eq_true, if_true, if_false]
  · have vb := fun I => v241b (x := x) (a := 0) (b := 99) (I := I) (by omega) (by omega) (by omega)
    refine KK_2 (b := nI 0) (Ia := pm_w I 0 13 (I 0 13 + nI 1)) (Ib := Ib) ?_ (fun J' => ?_) n3 n4
    · unfold f210
      rw [nd_b (by rw [e99]; omega)]
    · unfold f318
      simp only [pm_lt, zt_lit, vb, n2, zt_bind, Bool.false_eq_true, if_false]
/-! loans -/
theorem lo_st {w r : Nat} (hr : r ≤ 100) (hw : w ≤ 999) : ∀ d k fu o : Nat, k + d = 601 → d < fu → 0 < o → w ≤ o * r / 1000 → o < 2000000000 → f313_60 fu (nI w) (nI r) (lN o) (nI k) I J = some (pm_m1, I, J) := by
  intro d
  induction d with
  | zero =>
    intro k fu o hk hf ho hs hb
    obtain ⟨fu, rfl⟩ : ∃ k, fu = k + 1 := ⟨fu - 1, by omega⟩
    rw [f313_60]
    simp (disch := omega) only [zt_lit, zt_m1, zt_lt, if_pos]
  | succ d ih =>
    intro k fu o hk hf ho hs hb
    obtain ⟨fu, rfl⟩ : ∃ k, fu = k + 1 := ⟨fu - 1, by omega⟩
    have hm : o * r ≤ o * 100 := Nat.mul_le_mul_left o hr
    rw [f313_60]
    by_cases c : o < 1000000000
    · have hd : o * r / 1000 ≤ o := by omega
      have s := ih (k + 1) fu (o + o * r / 1000 - w) (by omega) (by omega) (by omega) (Nat.le_trans hs (Nat.div_le_div_right (Nat.mul_le_mul_right r (by omega)))) (by omega)
      simp (disch := omega) only [zt_lit, zt_litL, zt_m1, zt_lt, if_neg, cmp_lt, cmp_gt, pk_lT, nI_l, lN_mul, pk_lDiv, lN_add, lN_sub, nI_add, if_pos]
      exact s
    · simp (disch := omega) only [zt_lit, zt_litL, zt_m1, zt_lt, if_neg, cmp_lt, cmp_gt, pk_lT]
theorem lo_eq {w r : Nat} (hr : r ≤ 100) (hw : w ≤ 999) : ∀ d k fu o : Nat, k + d = 601 → d + 2 < fu → o ≤ 9999 → ∃ v : Int32, f205_65 fu (nI w) (nI r) (nI o) (nI k) I J = some (.inl v, I, J) ∧ ∀ I' J', f313_60 fu (nI w) (nI r) (lN o) (nI k) I' J' = some (v, I', J') := by
  intro d
  induction d with
  | zero =>
    intro k fu o hk hf ho
    obtain ⟨fu, rfl⟩ : ∃ k, fu = k + 1 := ⟨fu - 1, by omega⟩
    refine ⟨pm_m1, ?_, fun I' J' => ?_⟩
    · rw [f205_65]
      simp (disch := omega) only [zt_lit, zt_m1, zt_lt, if_pos]
    · rw [f313_60]
      simp (disch := omega) only [zt_lit, zt_m1, zt_lt, if_pos]
  | succ d ih =>
    intro k fu o hk hf ho
    obtain ⟨fu, rfl⟩ : ∃ k, fu = k + 1 := ⟨fu - 1, by omega⟩
    have hm : o * r ≤ o * 100 := Nat.mul_le_mul_left o hr
    by_cases c0 : 0 < o
    · by_cases c1 : o * r / 1000 < w
      · by_cases c2 : w ≤ o + o * r / 1000
        · obtain ⟨v, e1, e2⟩ := ih (k + 1) fu (o + o * r / 1000 - w) (by omega) (by omega) (by omega)
          refine ⟨v, ?_, fun I' J' => ?_⟩
          · rw [f205_65]
            simp (disch := omega) only [zt_lit, zt_m1, zt_lt, zt_lt0, if_neg, if_pos, pk_mul, pk_div, nI_add, zt_mi]
            exact e1
          · rw [f313_60]
            simp (disch := omega) only [zt_lit, zt_litL, zt_m1, zt_lt, if_neg, cmp_lt, cmp_gt, pk_lT, nI_l, lN_mul, pk_lDiv, lN_add, lN_sub, nI_add, if_pos]
            exact e2 I' J'
        · obtain ⟨fu, rfl⟩ : ∃ k, fu = k + 1 := ⟨fu - 1, by omega⟩
          refine ⟨if 600 < k + 1 then pm_m1 else nI (k + 1), ?_, fun I' J' => ?_⟩
          · rw [f205_65, f205_65]
            have q : ¬ 0 < (nI (o + o * r / 1000) - nI w).toInt := by rw [pk_sub_toInt (by omega) (by omega)]; omega
            simp (disch := omega) only [zt_lit, zt_m1, zt_lt, zt_lt0, if_neg, if_pos, pk_mul, pk_div, nI_add]
            by_cases c3 : 600 < k + 1
            · rw [if_pos c3, if_pos c3]
            · rw [if_neg c3, if_neg c3]
          · rw [f313_60, f313_60]
            have q := lN_subI (a := o + o * r / 1000) (b := w) (by omega) (by omega)
            simp (disch := omega) only [zt_lit, zt_litL, zt_m1, zt_lt, if_neg, cmp_lt, cmp_gt, pk_lT, nI_l, lN_mul, pk_lDiv, lN_add, nI_add, if_pos, q]
            by_cases c3 : 600 < k + 1
            · rw [if_pos c3, if_pos c3]
            · rw [if_neg c3, if_neg c3]
      · refine ⟨pm_m1, ?_, fun I' J' => ?_⟩
        · rw [f205_65]
          simp (disch := omega) only [zt_lit, zt_m1, zt_lt, zt_lt0, if_neg, if_pos, pk_mul, pk_div]
        · exact lo_st hr hw (d + 1) k (fu + 1) o (by omega) (by omega) c0 (by omega) (by omega)
    · have e : o = 0 := by omega
      subst e
      refine ⟨nI k, ?_, fun I' J' => ?_⟩
      · rw [f205_65]
        simp (disch := omega) only [zt_lit, zt_m1, zt_lt, zt_lt0, if_neg]
      · rw [f313_60]
        simp (disch := omega) only [zt_lit, zt_litL, zt_m1, zt_lt, if_neg, cmp_lt, cmp_gt, pk_lT, if_pos]
theorem K31 {x y z : Int32} (hRR : pm_RR r k I) : pm_KK r k (fun v b : Int32 => v = b) 1 1 (fun I J => f205 x y z I J) (fun I J => f313 x y z I J) I J := by
  obtain ⟨n, t, D, l0, k0, l1, k1, h⟩ := hRR
  obtain ⟨Ib, n2, n3, n4⟩ := il_e h
  have e1 : ((9999 : Int32)).toInt = 9999 := by decide
  have e2 : ((999 : Int32)).toInt = 999 := by decide
  have e3 : ((100 : Int32)).toInt = 100 := by decide
  rcases tr2 x 0 9999 (by omega) with ⟨a, _, a2, rfl⟩ | hx
  · have u1 : ¬ (nI a).toInt < 0 := by rw [nI_toInt (by omega)]; omega
    have u2 : ¬ ((9999 : Int32)).toInt < (nI a).toInt := by rw [nI_toInt (by omega), e1]; omega
    have ga := fun I => v241g (p := a) (a := 0) (b := 9999) (I := I) (by omega) (by omega) (by omega)
    rcases tr2 y 0 999 (by omega) with ⟨b, _, b2, rfl⟩ | hy
    · have w1 : ¬ (nI b).toInt < 0 := by rw [nI_toInt (by omega)]; omega
      have w2 : ¬ ((999 : Int32)).toInt < (nI b).toInt := by rw [nI_toInt (by omega), e2]; omega
      have gb := fun I => v241g (p := b) (a := 0) (b := 999) (I := I) (by omega) (by omega) (by omega)
      rcases tr2 z 0 100 (by omega) with ⟨c, _, c2, rfl⟩ | hz
      · have R1 := R0_t0 (x := nI 0) h
        have gc := fun I => v241g (p := c) (a := 0) (b := 100) (I := I) (by omega) (by omega) (by omega)
        have h2' : ∀ J, f222 (nI 1) (nI 1) (nI 1) (pm_w I 127 0 (nI 0)) J = some (true, pm_w I 127 0 (nI 0), J) := fun J => e222g (I := pm_w I 127 0 (nI 0)) (J := J) (c := nI 1) (k := nI 1) zt_ws
        obtain ⟨v, q1, q2⟩ := lo_eq (I := I) (J := J) (w := b) (r := c) c2 b2 601 0 pm_FU a (by omega) (by unfold pm_FU; omega) a2
        refine KK_v (v := v) (I1 := I) (J1 := J) ?_ aj_refl (fun J' => ⟨pm_w I 127 0 (nI 0), ?_, zt_ws, R0_R R1⟩)
        · unfold f205
          rw [nd_g u1 u2, nd_g w1 w2, nd_g (by rw [nI_toInt (by omega)]; omega) (by rw [nI_toInt (by omega), e3]; omega)]
          exact q1
        · unfold f313
          simp (disch := omega) only [pm_lt, zt_lit, ga, gb, gc, h2', zt_bind, if_true, nI_l]
          exact q2 _ _
      · have vb := fun I => v241b (x := z) (a := 0) (b := 100) (I := I) (by omega) (by omega) (by omega)
        refine KK_2 (b := nI 0) (Ia := pm_w I 0 13 (I 0 13 + nI 1)) (Ib := Ib) ?_ (fun J' => ?_) n3 n4
        · unfold f205
          rw [nd_g u1 u2, nd_g w1 w2, nd_b (by rw [e3]; omega)]
        · unfold f313
          simp only [pm_lt, zt_lit, ga, gb, vb, n2, zt_bind, Bool.false_eq_true, if_true, if_false]
    · have vb := fun I => v241b (x := y) (a := 0) (b := 999) (I := I) (by omega) (by omega) (by omega)
      refine KK_2 (b := nI 0) (Ia := pm_w I 0 13 (I 0 13 + nI 1)) (Ib := Ib) ?_ (fun J' => ?_) n3 n4
      · unfold f205
        rw [nd_g u1 u2, nd_b (by rw [e2]; omega)]
      · unfold f313
        simp only [pm_lt, zt_lit, ga, vb, n2, zt_bind, Bool.false_eq_true, if_true, if_false]
  · have vb := fun I => v241b (x := x) (a := 0) (b := 9999) (I := I) (by omega) (by omega) (by omega)
    refine KK_2 (b := nI 0) (Ia := pm_w I 0 13 (I 0 13 + nI 1)) (Ib := Ib) ?_ (fun J' => ?_) n3 n4
    · unfold f205
      rw [nd_b (by rw [e1]; omega)]
    · unfold f313
      simp only [pm_lt, zt_lit, vb, n2, zt_bind, Bool.false_eq_true, if_false]
end Nm
