/-! ASK -/
def pm_SC (A : Nat → Nat) (F : Nat → Bool) (X : Nat → Nat) (b d : Nat) (I : Nat → Nat → Int32) : Prop := ((∀ w, d ≤ w → w < 500 → pm_tol X w 0 b = true) ∧ I 102 6 = nI (pm_cnt F 225)) ∨ ∃ c, d ≤ c ∧ c < 500 ∧ pm_tol X c 0 b = false ∧ I 102 5 = nI c ∧ I 102 6 = nI (pm_Vw A F c) ∧ ∀ w, d ≤ w → w < 500 → pm_tol X w 0 b = false → pm_Vw A F c ≤ pm_Vw A F w ∧ (w < c → pm_Vw A F c < pm_Vw A F w)
def pm_SU (A : Nat → Nat) (F : Nat → Bool) (X : Nat → Nat) (b i : Nat) (u v : Int32) : Prop := ((∀ w, w < i → pm_tol X w 0 b = true) ∧ u = -1 ∧ v = -1) ∨ ∃ c, c < i ∧ pm_tol X c 0 b = false ∧ u = nI c ∧ v = nI (pm_Vw A F c) ∧ ∀ w, w < i → pm_tol X w 0 b = false → pm_Vw A F c ≤ pm_Vw A F w ∧ (w < c → pm_Vw A F c < pm_Vw A F w)
theorem Mo_le (A : Nat → Nat) (F : Nat → Bool) (d : Nat) : pm_Mo A F d ≤ pm_cnt F 225 := by
  have e := cn_sum F (fun j => decide (d ≤ A j)) (fun j => decide (A j < d)) (fun j => by
    by_cases c : d ≤ A j
    · rw [decide_eq_true c, decide_eq_false (by omega)]; rfl
    · rw [decide_eq_false c, decide_eq_true (by omega)]; rfl) 225
  unfold pm_Mo
  omega
theorem Mo_0 {A : Nat → Nat} {F : Nat → Bool} (hA : ∀ i, i < 225 → A i ≤ 999) : pm_Mo A F 1000 = 0 := by
  unfold pm_Mo
  refine cn_none (fun j hj => ?_)
  have := hA j hj
  rw [decide_eq_false (by omega), Bool.and_false]
theorem mU_le (A : Nat → Nat) (F : Nat → Bool) : ∀ e, pm_mU (pm_Hs A F) e ≤ 225
  | 0 => Nat.zero_le _
  | e + 1 => Nat.max_le.mpr ⟨mU_le A F e, cn_le _ _⟩
section Ak
variable {I : Nat → Nat → Int32} {J : Nat → Nat → Int64} {r k : Nat}
theorem l12 {b w : Nat} {X Y : Nat → Nat} (hB : pm_BK k b X Y I) (hw : w < 500) : ∀ d i fu : Nat, i + d = b → d < fu → f12_2 k fu (nI w) (nI i) I J = some (pm_tol X w i d, I, J) := by
  obtain ⟨hk, h8, hb, hx⟩ := hB
  intro d
  induction d with
  | zero =>
    intro i fu hi hf
    obtain ⟨fu, rfl⟩ : ∃ k, fu = k + 1 := ⟨fu - 1, by omega⟩
    rw [f12_2, hb, if_neg (by rw [nI_toInt (by omega), nI_toInt (by omega)]; omega)]
    rfl
  | succ d ih =>
    intro i fu hi hf
    obtain ⟨fu, rfl⟩ : ∃ k, fu = k + 1 := ⟨fu - 1, by omega⟩
    obtain ⟨x1, x2, x3, x4⟩ := hx i (by omega)
    have e := ih (i + 1) fu (by omega) (by omega)
    rw [f12_2, hb, if_pos (by rw [nI_toInt (by omega), nI_toInt (by omega)]; omega), zt_at (by omega) (by omega), x3, nI_1, pm_tol]
    by_cases c : X i = w
    · rw [if_pos (by rw [c]), decide_eq_true c, Bool.true_or]
    · rw [if_neg (by rw [zt_eq (by omega) (by omega)]; exact c), e, decide_eq_false c, Bool.false_or]
theorem e12 {b w : Nat} {X Y : Nat → Nat} (hB : pm_BK k b X Y I) (hw : w < 500) : f12 k (nI w) I J = some (pm_tol X w 0 b, I, J) := by
  have e := l12 (J := J) hB hw b 0 pm_FU (by omega) (by have := hB.2.1; unfold pm_FU; omega)
  rw [nI_0] at e
  exact e
theorem l306 {b w : Nat} {X Y : Nat → Nat} (h8 : b ≤ 8) (hX : ∀ i, i < b → X i ≤ 499) (hB : pm_MB b X Y I) (hw : w < 500) : ∀ d i fu : Nat, i + d = b → d < fu → f306_2 fu (nI w) (nI i) I J = some (pm_tol X w i d, I, J) := by
  obtain ⟨hb, hx⟩ := hB
  intro d
  induction d with
  | zero =>
    intro i fu hi hf
    obtain ⟨fu, rfl⟩ : ∃ k, fu = k + 1 := ⟨fu - 1, by omega⟩
    rw [f306_2, hb, if_neg (by rw [nI_toInt (by omega), nI_toInt (by omega)]; omega)]
    rfl
  | succ d ih =>
    intro i fu hi hf
    obtain ⟨fu, rfl⟩ : ∃ k, fu = k + 1 := ⟨fu - 1, by omega⟩
    obtain ⟨x3, x4⟩ := hx i (by omega)
    have x1 := hX i (by omega)
    have e := ih (i + 1) fu (by omega) (by omega)
    have t2 : 2 * nI i = nI (2 * i) := by rw [zt_lit 2, pk_mul]
    rw [f306_2, hb, if_pos (by rw [nI_toInt (by omega), nI_toInt (by omega)]; omega), t2, zt_in (by omega) (by omega), zt_gd, nI_clamp (by omega), x3, nI_1, pm_tol]
    by_cases c : X i = w
    · rw [if_pos (by rw [c]), decide_eq_true c, Bool.true_or]
    · rw [if_neg (by rw [zt_eq (by omega) (by omega)]; exact c), e, decide_eq_false c, Bool.false_or]
theorem e306 {b w : Nat} {X Y : Nat → Nat} (h8 : b ≤ 8) (hX : ∀ i, i < b → X i ≤ 499) (hB : pm_MB b X Y I) (hw : w < 500) : f306 (nI w) I J = some (pm_tol X w 0 b, I, J) := by
  have e := l306 (J := J) h8 hX hB hw b 0 pm_FU (by omega) (by unfold pm_FU; omega)
  rw [nI_0] at e
  exact e
theorem l150 {A : Nat → Nat} {F : Nat → Bool} {b : Nat} {X Y : Nat → Nat} (hA : ∀ i, i < 225 → A i ≤ 999) : ∀ d fu : Nat, ∀ I : Nat → Nat → Int32, d ≤ 1000 → d < fu → pm_BK k b X Y I → I 102 1 = nI (pm_cnt F 225) → (∀ a, a < 1000 → I 103 a = nI (pm_Hs A F a)) → pm_SC A F X b d I → ∃ I', f150_17 k fu (nI (pm_Mo A F d)) (nI (pm_mU (pm_Hs A F) (1000 - d))) (nI d + (-1)) I J = some ((), I', J) ∧ pm_SC A F X b 0 I' := by
  have h499 : ((499 : Int32)).toInt = 499 := by decide
  have hm : (nI 0 + (-1) : Int32).toInt < 0 := by decide
  have c225 : pm_cnt F 225 ≤ 225 := cn_le _ _
  intro d
  induction d with
  | zero =>
    intro fu I hd hf hB h1 h3 hS
    obtain ⟨fu, rfl⟩ : ∃ k, fu = k + 1 := ⟨fu - 1, by omega⟩
    refine ⟨I, ?_, hS⟩
    rw [f150_17, if_pos hm]
  | succ d ih =>
    intro fu I hd hf hB h1 h3 hS
    obtain ⟨fu, rfl⟩ : ∃ k, fu = k + 1 := ⟨fu - 1, by omega⟩
    have hd3 := h3 d (by omega)
    have hH : pm_Hs A F d ≤ 225 := cn_le _ _
    have hU := mU_le A F (999 - d)
    have hMo := Mo_le A F (d + 1)
    have n1 : nI (pm_Mo A F (d + 1)) + nI (pm_Hs A F d) = nI (pm_Mo A F d) := by rw [nI_add, Mo_s]
    have n2 : pm_max (nI (pm_mU (pm_Hs A F) (999 - d))) (nI (pm_Hs A F d)) = nI (pm_mU (pm_Hs A F) (1000 - d)) := by
      rw [max_nI (by omega) (by omega), show 1000 - d = (999 - d) + 1 by omega, pm_mU, show 999 - (999 - d) = d by omega]
    have n3 : pm_max (nI (pm_mU (pm_Hs A F) (999 - d))) (nI (pm_cnt F 225) - nI (pm_Mo A F (d + 1))) = nI (pm_Vw A F d) := by
      rw [zt_mi hMo, max_nI (by omega) (by omega)]
      rfl
    have go := fun I1 (b1 : pm_BK k b X Y I1) b2 b3 b4 => ih fu I1 (by omega) (by omega) b1 b2 b3 b4
    rw [show 1000 - (d + 1) = 999 - d by omega, pk_m1, f150_17, if_neg (by rw [nI_toInt (by omega)]; omega), h499, zt_at (by omega) (by omega), hd3, h1, n3]
    by_cases c : d ≤ 499
    · rw [if_neg (by rw [nI_toInt (by omega)]; omega)]
      have hV := V_le (F := F) hA (show d < 500 by omega)
      rcases hS with ⟨s1, s2⟩ | ⟨c0, s1, s2, s3, s4, s5, s6⟩
      · rw [s2, if_neg (by rw [nI_toInt (by omega), nI_toInt (by omega)]; omega), e12 hB (by omega), zt_bind]
        dsimp only
        cases t : pm_tol X d 0 b with
        | true =>
          rw [if_pos rfl, zt_at (by omega) (by omega), hd3, n1, n2]
          refine go I hB h1 h3 (Or.inl ⟨fun w w1 w2 => ?_, s2⟩)
          by_cases e : w = d
          · rw [e]; exact t
          · exact s1 w (by omega) w2
        | false =>
          rw [if_neg (by decide), pm_lt_eq, pm_lt_eq, zt_at (by omega) (by omega), zt_wc (by omega), zt_wc (by omega), hd3, n1, n2]
          refine go _ (by unfold pm_BK; have := hB.1; rw [zt_wc (by omega), zt_wc (by omega), zt_wc (by omega), zt_wc (by omega), zt_wc (by omega), zt_wc (by omega)]; exact hB) (by rw [zt_w2 (by omega), zt_w2 (by omega)]; exact h1) (by rw [zt_wc (by omega), zt_wc (by omega)]; exact h3) (Or.inr ⟨d, by omega, by omega, t, by rw [zt_w2 (by omega), zt_ws], by rw [zt_ws], fun w w1 w2 w3 => ?_⟩)
          by_cases e : w = d
          · rw [e]; exact ⟨Nat.le_refl _, fun q => by omega⟩
          · rw [s1 w (by omega) w2] at w3
            exact absurd w3 (by decide)
      · have hV0 := V_le (F := F) hA s2
        rw [s5]
        by_cases q : pm_Vw A F c0 < pm_Vw A F d
        · rw [if_pos (by rw [nI_toInt (by omega), nI_toInt (by omega)]; omega), n1, n2]
          refine go I hB h1 h3 (Or.inr ⟨c0, by omega, s2, s3, s4, s5, fun w w1 w2 w3 => ?_⟩)
          by_cases e : w = d
          · rw [e]; exact ⟨by omega, fun _ => q⟩
          · exact s6 w (by omega) w2 w3
        · rw [if_neg (by rw [nI_toInt (by omega), nI_toInt (by omega)]; omega), e12 hB (by omega), zt_bind]
          dsimp only
          cases t : pm_tol X d 0 b with
          | true =>
            rw [if_pos rfl, zt_at (by omega) (by omega), hd3, n1, n2]
            refine go I hB h1 h3 (Or.inr ⟨c0, by omega, s2, s3, s4, s5, fun w w1 w2 w3 => ?_⟩)
            by_cases e : w = d
            · rw [e, t] at w3
              exact absurd w3 (by decide)
            · exact s6 w (by omega) w2 w3
          | false =>
            rw [if_neg (by decide), pm_lt_eq, pm_lt_eq, zt_at (by omega) (by omega), zt_wc (by omega), zt_wc (by omega), hd3, n1, n2]
            refine go _ (by unfold pm_BK; have := hB.1; rw [zt_wc (by omega), zt_wc (by omega), zt_wc (by omega), zt_wc (by omega), zt_wc (by omega), zt_wc (by omega)]; exact hB) (by rw [zt_w2 (by omega), zt_w2 (by omega)]; exact h1) (by rw [zt_wc (by omega), zt_wc (by omega)]; exact h3) (Or.inr ⟨d, by omega, by omega, t, by rw [zt_w2 (by omega), zt_ws], by rw [zt_ws], fun w w1 w2 w3 => ?_⟩)
            by_cases e : w = d
            · rw [e]; exact ⟨Nat.le_refl _, fun q => by omega⟩
            · have := s6 w (by omega) w2 w3
              exact ⟨by omega, fun q => by omega⟩
    · rw [if_pos (by rw [nI_toInt (by omega)]; omega), n1, n2]
      refine go I hB h1 h3 ?_
      rcases hS with ⟨s1, s2⟩ | ⟨c0, s1, s2, s3⟩
      · exact Or.inl ⟨fun w w1 w2 => by omega, s2⟩
      · omega
theorem e150 {A : Nat → Nat} {F : Nat → Bool} {b : Nat} {X Y : Nat → Nat} (hA : ∀ i, i < 225 → A i ≤ 999) (hB : pm_BK k b X Y I) (hT : pm_TS A F 225 I) : ∃ I', f150 k I J = some ((), I', J) ∧ pm_SC A F X b 0 I' := by
  obtain ⟨t1, t2, t3, t4, t5⟩ := hT
  rw [T4_m] at t1
  obtain ⟨I', e, s⟩ := l150 (J := J) (F := F) (k := k) (b := b) (X := X) (Y := Y) hA 1000 pm_FU (pm_w I 102 6 (I 102 1)) (by omega) (by unfold pm_FU; omega) (by unfold pm_BK; have := hB.1; rw [zt_wc (by omega), zt_wc (by omega), zt_wc (by omega)]; exact hB) (by rw [zt_w2 (by omega)]; exact t1) (by rw [zt_wc (by omega)]; exact t5) (Or.inl ⟨fun w w1 w2 => by omega, by rw [zt_ws]; exact t1⟩)
  refine ⟨I', ?_, s⟩
  have q : nI 1000 + (-1) = (999 : Int32) := by decide
  rw [Mo_0 hA, q, show 1000 - 1000 = 0 by omega, pm_mU, nI_0] at e
  unfold f150
  rw [pm_lt_eq]
  exact e
theorem v304n {a x : Nat} (ha : a < 2 ^ 30) (hx : x < 2 ^ 30) : v304 (nI a) (nI x) I = nI (a - x) := by
  unfold v304
  rw [nI_toInt (by omega), nI_toInt (by omega)]
  by_cases z : x < a
  · rw [if_pos (by omega), zt_mi (by omega)]
  · rw [if_neg (by omega), show a - x = 0 by omega]
    rfl
theorem Mx_b (A : Nat → Nat) (F : Nat → Bool) (w i : Nat) : pm_Mx A F w i ≤ i := by
  rcases (Mx_s A F w i).2 with h | ⟨d, h⟩
  · omega
  · rw [h]; exact cn_le _ _
theorem l307z {x : Int32} (fu : Nat) : ∀ d i : Nat, ∀ I : Nat → Nat → Int32, i + d = 1000 → (∀ a, a < i → I 154 a = nI 0) → ∃ I', f307_L (fu + d + 1) 0 x (nI i) 0 I J = f307_L fu 1 x 0 0 I' J ∧ (∀ a, a < 1000 → I' 154 a = nI 0) ∧ pm_ag [154] [] I I' := by
  have h1 : ((1000 : Int32)).toInt = 1000 := by decide
  intro d
  induction d with
  | zero =>
    intro i I hi h
    refine ⟨I, ?_, fun a ha => h a (by omega), ag_refl⟩
    rw [Nat.add_zero, f307_L, h1, if_neg (by rw [nI_toInt (by omega)]; omega)]
  | succ d ih =>
    intro i I hi h
    obtain ⟨I', e, t, g⟩ := ih (i + 1) (pm_w I 154 i 0) (by omega) (fun a ha => by
      by_cases c : a = i
      · subst c; rw [zt_ws]; rfl
      · rw [zt_w2 (by omega)]; exact h a (by omega))
    refine ⟨I', ?_, t, ag_trans (ag_w ag_refl (by simp)) g (by simp) (by simp)⟩
    rw [show fu + (d + 1) + 1 = (fu + d + 1) + 1 by omega, f307_L, h1, if_pos (by rw [nI_toInt (by omega)]; omega), zt_in (by omega) (by omega), zt_gd, nI_clamp (by omega), pm_lt_eq, nI_1]
    exact e
theorem l307 {A : Nat → Nat} {F : Nat → Bool} {w : Nat} (hA : ∀ i, i < 225 → A i ≤ 999) (hw : w < 500) : ∀ d i fu : Nat, ∀ I : Nat → Nat → Int32, i + d = 225 → d < fu → pm_RS A F 225 I → (∀ a, a < 1000 → I 154 a = nI (pm_Gd A F w a i)) → ∃ I', f307_L fu 1 (nI w) (nI (pm_Mx A F w i)) (nI i) I J = some (nI (pm_Mx A F w 225), I', J) := by
  have h1 : ((225 : Int32)).toInt = 225 := by decide
  intro d
  induction d with
  | zero =>
    intro i fu I hi hf hS h
    obtain ⟨fu, rfl⟩ : ∃ k, fu = k + 1 := ⟨fu - 1, by omega⟩
    have hi2 : i = 225 := by omega
    subst hi2
    refine ⟨I, ?_⟩
    rw [f307_L, h1, if_neg (by rw [nI_toInt (by omega)]; omega)]
  | succ d ih =>
    intro i fu I hi hf hS h
    obtain ⟨fu, rfl⟩ : ∃ k, fu = k + 1 := ⟨fu - 1, by omega⟩
    obtain ⟨s1, s2⟩ := hS i (by omega)
    have a9 := hA i (by omega)
    have hx := Mx_b A F w i
    rw [f307_L, h1, if_pos (by rw [nI_toInt (by omega)]; omega), nI_1]
    simp (disch := omega) only [zt_in, zt_gd, nI_clamp, s1, s2, v304n]
    by_cases c : F i = true
    · have hG : pm_Gd A F w (A i - w) (i + 1) = pm_Gd A F w (A i - w) i + 1 := by
        unfold pm_Gd
        conv => lhs; unfold pm_cnt
        rw [if_pos (by simp [c])]
      have hb : pm_Gd A F w (A i - w) (i + 1) ≤ i + 1 := cn_le _ _
      have eM : pm_Mx A F w (i + 1) = Nat.max (pm_Mx A F w i) (pm_Gd A F w (A i - w) (i + 1)) := by rw [pm_Mx, if_pos c]
      obtain ⟨I', e⟩ := ih (i + 1) fu (pm_w I 154 (A i - w) (nI (pm_Gd A F w (A i - w) (i + 1)))) (by omega) (by omega) (fun j hj => by
        rw [zt_wc (by omega), zt_wc (by omega)]; exact hS j hj) (fun a ha => by
        by_cases q : a = A i - w
        · subst q; rw [zt_ws]
        · rw [zt_w2 (by omega), h a ha]
          unfold pm_Gd
          conv => rhs; unfold pm_cnt
          rw [if_neg (by simp; intro _ z; exact q z.symm), Nat.add_zero])
      refine ⟨I', ?_⟩
      rw [c, if_neg (by decide), pm_lt_eq, h _ (by omega), nI_1, ← hG, zt_ws, nI_toInt (by omega), nI_toInt (by omega)]
      by_cases q : pm_Mx A F w i < pm_Gd A F w (A i - w) (i + 1)
      · rw [if_pos (by omega)]
        rw [eM, show Nat.max (pm_Mx A F w i) (pm_Gd A F w (A i - w) (i + 1)) = pm_Gd A F w (A i - w) (i + 1) from Nat.max_eq_right (by omega)] at e
        exact e
      · rw [if_neg (by omega)]
        rw [eM, show Nat.max (pm_Mx A F w i) (pm_Gd A F w (A i - w) (i + 1)) = pm_Mx A F w i from Nat.max_eq_left (by omega)] at e
        exact e
    · have c' : F i = false := by simpa using c
      have eM : pm_Mx A F w (i + 1) = pm_Mx A F w i := by rw [pm_Mx, if_neg c]
      obtain ⟨I', e⟩ := ih (i + 1) fu I (by omega) (by omega) hS (fun a ha => by
        rw [h a ha]
        unfold pm_Gd
        conv => rhs; unfold pm_cnt
        rw [if_neg (by simp [c']), Nat.add_zero])
      refine ⟨I', ?_⟩
      rw [c', if_pos (by decide)]
      rw [eM] at e
      exact e
theorem e307 {A : Nat → Nat} {F : Nat → Bool} {w : Nat} (hA : ∀ i, i < 225 → A i ≤ 999) (hw : w < 500) (hS : pm_RS A F 225 I) : ∃ I', f307 (nI w) I J = some (nI (pm_Vw A F w), I', J) := by
  obtain ⟨fu, hfu, hf2⟩ : ∃ fu, pm_FU = fu + 1000 + 1 ∧ 225 < fu := ⟨pm_FU - 1001, by unfold pm_FU; omega, by unfold pm_FU; omega⟩
  obtain ⟨I1, e1, z1, g1⟩ := l307z (J := J) (x := nI w) fu 1000 0 I (by omega) (fun a ha => by omega)
  obtain ⟨I2, e2⟩ := l307 (J := J) (F := F) hA hw 225 0 fu I1 (by omega) (by omega) (fun j hj => by
    rw [ag_cell g1 (by decide) (by intro f; simp), ag_cell g1 (by decide) (by intro f; simp)]; exact hS j hj) (fun a ha => z1 a ha)
  refine ⟨I2, ?_⟩
  rw [nI_0] at e1 e2
  unfold f307
  rw [hfu, e1, V_Mx hA hw]
  have m0 : nI (pm_Mx A F w 0) = 0 := rfl
  rw [m0] at e2
  exact e2
end Ak
