/-! TERMS: the reference's side -/
def pm_bN (c : Bool) : Int32 := if c = true then nI 1 else nI 0
def pm_RS (A : Nat → Nat) (F : Nat → Bool) (i : Nat) (I : Nat → Nat → Int32) : Prop := ∀ j, j < i → I 153 j = nI (A j) ∧ I 152 j = pm_bN (F j)
def pm_TM (n t l0 b : Nat) (k0 : Nat → Nat) (D : Nat → Nat → Nat) (w : Nat → Int32) (X Y : Nat → Nat) (I : Nat → Nat → Int32) : Prop := pm_MR n t D I ∧ pm_ML 0 l0 k0 I ∧ pm_ms n (I 144) w ∧ pm_MB b X Y I
section Tr
variable {I : Nat → Nat → Int32} {J : Nat → Nat → Int64} {r k : Nat}
theorem TM_ag {n t l0 b : Nat} {k0 : Nat → Nat} {D : Nat → Nat → Nat} {w : Nat → Int32} {X Y : Nat → Nat} {I' : Nat → Nat → Int32} (h : pm_TM n t l0 b k0 D w X Y I) (g : pm_ag [139, 140, 152, 153] [] I I') : pm_TM n t l0 b k0 D w X Y I' := by
  obtain ⟨h1, h2, h3, h4⟩ := h
  have c : ∀ a : Nat, a ∉ [139, 140, 152, 153] → I' a = I a := fun a ha => ag_cell g ha (by intro f; simp)
  refine ⟨MR_cell h1 (by rw [c 127 (by decide)]) (by rw [c 127 (by decide)]) (by rw [c 127 (by decide)]) (c _ (by decide)) (c _ (by decide)), ML_cell h2 (c _ (by decide)) (c _ (by decide)) (c _ (by decide)), by rw [c 144 (by decide)]; exact h3, ?_⟩
  unfold pm_MB
  rw [c 127 (by decide), c 147 (by decide)]
  exact h4
theorem l303i {b a i : Nat} {X Y : Nat → Nat} {x : Int32} (h8 : b ≤ 8) (hX : ∀ j, j < b → X j ≤ 499 ∧ Y j ≤ 999) (ha : a ≤ 999) (hi : i < 225) : ∀ d q fu : Nat, ∀ (I : Nat → Nat → Int32) (c : Bool), q + d = b → pm_MB b X Y I → I 153 i = nI a → I 152 i = pm_bN c → ∃ I', f303_L (fu + d + 1) 1 x (nI i) (nI q) I J = f303_L fu 0 x (nI (i + 1)) 0 I' J ∧ I' 152 i = pm_bN (c && pm_tf X Y a q d) ∧ (∀ j, j ≠ i → I' 152 j = I 152 j) ∧ pm_ag [152] [] I I' := by
  have n1 : vp_nar .boolean 1 = pm_bN true := by decide
  have n0 : vp_nar .boolean 0 = pm_bN false := by decide
  intro d
  induction d with
  | zero =>
    intro q fu I c hq hM h3 h2
    refine ⟨I, ?_, ?_, fun _ _ => rfl, ag_refl⟩
    · rw [Nat.add_zero, f303_L, hM.1, if_neg (by rw [nI_toInt (by omega), nI_toInt (by omega)]; omega), nI_1]
    · rw [h2, pm_tf, Bool.and_true]
  | succ d ih =>
    intro q fu I c hq hM h3 h2
    have st : ∀ v : Bool, ∃ I', f303_L (fu + d + 1) 1 x (nI i) (nI (q + 1)) (pm_w I 152 i (pm_bN v)) J = f303_L fu 0 x (nI (i + 1)) 0 I' J ∧ I' 152 i = pm_bN (v && pm_tf X Y a (q + 1) d) ∧ (∀ j, j ≠ i → I' 152 j = I 152 j) ∧ pm_ag [152] [] I I' := by
      intro v
      obtain ⟨I', e1, e2, e3, e4⟩ := ih (q + 1) fu (pm_w I 152 i (pm_bN v)) v (by omega) (by unfold pm_MB; rw [zt_wc (by omega), zt_wc (by omega)]; exact hM) (by rw [zt_w2 (by omega)]; exact h3) zt_ws
      refine ⟨I', e1, e2, fun j hj => ?_, ag_trans (ag_w ag_refl (by simp)) e4 (by simp) (by simp)⟩
      rw [e3 j hj, zt_w2 (by omega)]
    obtain ⟨m1, m2⟩ := hM.2 q (by omega)
    obtain ⟨x1, x2⟩ := hX q (by omega)
    have t2 : 2 * nI q = nI (2 * q) := by rw [zt_lit 2, pk_mul]
    rw [show fu + (d + 1) + 1 = (fu + d + 1) + 1 by omega, f303_L, hM.1, if_pos (by rw [nI_toInt (by omega), nI_toInt (by omega)]; omega), t2, nI_1, nI_1, n1, n0]
    simp (disch := omega) only [zt_in, zt_gd, nI_clamp, pm_lt]
    rw [h2, h3, m1, m2]
    cases c with
    | false =>
      obtain ⟨I', e1, e2, e3, e4⟩ := st false
      refine ⟨I', ?_, ?_, e3, e4⟩
      · rw [if_pos (by decide)]
        exact e1
      · rw [e2, Bool.false_and, Bool.false_and]
    | true =>
      rw [if_neg (by decide)]
      have hv : v304 (nI a) (nI (X q)) I = nI (a - X q) := by
        unfold v304
        rw [nI_toInt (by omega), nI_toInt (by omega)]
        by_cases z : X q < a
        · rw [if_pos (by omega), zt_mi (by omega)]
        · rw [if_neg (by omega), show a - X q = 0 by omega]
          rfl
      rw [hv]
      by_cases z : a - X q = Y q
      · obtain ⟨I', e1, e2, e3, e4⟩ := st true
        refine ⟨I', ?_, ?_, e3, e4⟩
        · rw [if_pos (by rw [z])]
          exact e1
        · rw [e2, pm_tf, decide_eq_true z, Bool.true_and, Bool.true_and]
      · obtain ⟨I', e1, e2, e3, e4⟩ := st false
        refine ⟨I', ?_, ?_, e3, e4⟩
        · rw [if_neg (by rw [zt_eq (by omega) (by omega)]; exact z)]
          exact e1
        · rw [e2, pm_tf, decide_eq_false z, Bool.false_and, Bool.and_false]
theorem l303o {n t l0 b p : Nat} {k0 : Nat → Nat} {D : Nat → Nat → Nat} {w : Nat → Int32} {X Y A : Nat → Nat} (hD : pm_DR n t D) (hp : p < n) (hw : pm_wf l0 k0) (h8 : b ≤ 8) (hX : ∀ j, j < b → X j ≤ 499 ∧ Y j ≤ 999) (hA : ∀ i, i < 225 → A i ≤ 999) (hV : ∀ i, i < 225 → pm_av l0 k0 (pm_ppr D n w p (nI (i / 25 + 1)) (nI (i % 25))) = nI (A i)) (fu : Nat) : ∀ d i : Nat, ∀ I : Nat → Nat → Int32, i + d = 225 → pm_TM n t l0 b k0 D w X Y I → pm_RS A (fun j => pm_tf X Y (A j) 0 b) i I → ∃ I', f303_L (fu + (b + 2) * d + 1) 0 (nI p) (nI i) 0 I J = some ((), I', J) ∧ pm_RS A (fun j => pm_tf X Y (A j) 0 b) 225 I' := by
  have h225 : ((225 : Int32)).toInt = 225 := by decide
  have n1 : vp_nar .boolean 1 = pm_bN true := by decide
  intro d
  induction d with
  | zero =>
    intro i I hi hT hS
    have hi2 : i = 225 := by omega
    subst hi2
    refine ⟨I, ?_, hS⟩
    rw [Nat.mul_zero, Nat.add_zero, f303_L, h225, if_neg (by rw [nI_toInt (by omega)]; omega)]
  | succ d ih =>
    intro i I hi hT hS
    obtain ⟨I1, e1⟩ := e265 (J := J) (x := 0) (y := nI (i / 25 + 1)) (a := nI (i % 25)) hT.1 hD hp (by omega) hT.2.1 hw hT.2.2.1
    rw [hV i (by omega), nI_0] at e1
    have g1 := (fr_265 _ _ _ e1).1
    have G1 : pm_ag [139, 140, 152, 153] [] I I1 := ag_trans ag_refl g1 (by simp) (by simp)
    have G2 : pm_ag [139, 140, 152, 153] [] I (pm_w (pm_w I1 153 i (nI (A i))) 152 i (pm_bN true)) := ag_w (ag_w G1 (by simp)) (by simp)
    have T2 := TM_ag hT G2
    obtain ⟨I3, e3, s3, k3, g3⟩ := l303i (J := J) (x := nI p) (i := i) h8 hX (hA i (by omega)) (by omega) b 0 (fu + (b + 2) * d + 1) (pm_w (pm_w I1 153 i (nI (A i))) 152 i (pm_bN true)) true (by omega) T2.2.2.2 (by rw [zt_w2 (by omega), zt_ws]) zt_ws
    have T3 := TM_ag T2 (ag_trans ag_refl g3 (by simp) (by simp))
    have c153 : I3 153 = pm_w I1 153 i (nI (A i)) 153 := by rw [ag_cell g3 (by decide) (by intro f; simp), zt_wc (by omega)]
    have j1 : I1 152 = I 152 := ag_cell g1 (by decide) (by intro f; simp)
    have j2 : I1 153 = I 153 := ag_cell g1 (by decide) (by intro f; simp)
    obtain ⟨I4, e4, s4⟩ := ih (i + 1) I3 (by omega) T3 (fun j hj => by
      by_cases c : j = i
      · subst c
        rw [c153, zt_ws, s3, Bool.true_and]
        exact ⟨rfl, rfl⟩
      · rw [c153, zt_w2 (by omega), k3 j c, zt_w2 (by omega), zt_w2 (by omega), j1, j2]
        exact hS j (by omega))
    refine ⟨I4, ?_, s4⟩
    have q1 : nI i / 25 + 1 = nI (i / 25 + 1) := by
      rw [zt_lit 25, pk_div (by omega) (by omega) (by omega), nI_1]
    have q2 : nI i - nI i / 25 * 25 = nI (i % 25) := pk_rem (d := 25) (by omega) (by omega) (by omega)
    have q3 : fu + (b + 2) * (d + 1) + 1 = (fu + (b + 2) * d + 1 + b + 1) + 1 := by
      rw [Nat.mul_add]
      omega
    rw [q3, f303_L, h225, if_pos (by rw [nI_toInt (by omega)]; omega), q1, q2, e1, zt_bind]
    dsimp only
    rw [zt_in (by omega) (by omega), zt_gd, pm_lt_eq, zt_gd, pm_lt_eq, nI_clamp (by omega), n1]
    rw [nI_0] at e3
    rw [e3]
    exact e4
theorem e303 {n t l0 b p : Nat} {k0 : Nat → Nat} {D : Nat → Nat → Nat} {w : Nat → Int32} {X Y A : Nat → Nat} (hD : pm_DR n t D) (hp : p < n) (hw : pm_wf l0 k0) (h8 : b ≤ 8) (hX : ∀ j, j < b → X j ≤ 499 ∧ Y j ≤ 999) (hA : ∀ i, i < 225 → A i ≤ 999) (hV : ∀ i, i < 225 → pm_av l0 k0 (pm_ppr D n w p (nI (i / 25 + 1)) (nI (i % 25))) = nI (A i)) (hM : pm_MR n t D I) (hL : pm_ML 0 l0 k0 I) (hs : pm_ms n (I 143) w) (hB : pm_MB b X Y I) : ∃ I', f303 (nI p) I J = some ((), I', J) ∧ pm_RS A (fun j => pm_tf X Y (A j) 0 b) 225 I' := by
  obtain ⟨I1, e1, s1, _, _, _, g1⟩ := e253 (I := I) (J := J) hs
  have c : ∀ a : Nat, a ∉ [127, 144] → I1 a = I a := fun a ha => ag_cell g1 (by intro h; exact ha (by simp at h; simp [h])) (by intro f h; exact ha (by simp at h; simp; omega))
  have f0 : ∀ f : Nat, f < 40 ∨ 42 < f → I1 127 f = I 127 f := fun f hf => g1 127 f (by decide) (by simp; omega)
  obtain ⟨fu, hfu⟩ : ∃ fu, pm_FU = fu + (b + 2) * 225 + 1 := ⟨pm_FU - ((b + 2) * 225 + 1), by unfold pm_FU; omega⟩
  obtain ⟨I2, e2, s2⟩ := l303o (J := J) hD hp hw h8 hX hA hV fu 225 0 I1 (by omega) ⟨MR_cell hM (f0 _ (by omega)) (f0 _ (by omega)) (f0 _ (by omega)) (c _ (by decide)) (c _ (by decide)), ML_cell hL (c _ (by decide)) (c _ (by decide)) (c _ (by decide)), s1, by
    unfold pm_MB
    rw [f0 45 (by omega), c 147 (by decide)]
    exact hB⟩ (fun j hj => by omega)
  refine ⟨I2, ?_, s2⟩
  unfold f303
  rw [e1, zt_bind]
  dsimp only
  rw [hfu]
  rw [nI_0] at e2
  exact e2
def pm_tz (T : Nat × Nat × Nat × Nat) (y : Int32) : Int32 := if y = 0 then nI T.1 else (if y = 1 then pm_om T.1 T.2.1 else (if y = 2 then pm_om T.1 T.2.2.1 else pm_om T.1 T.2.2.2))
theorem l302 {A : Nat → Nat} {F : Nat → Bool} {y : Int32} (hA : ∀ i, i < 225 → A i ≤ 999) (hS : pm_RS A F 225 I) : ∀ d i fu : Nat, i + d = 225 → d < fu → f302_50 fu y (nI (pm_T4 A F i).1) (pm_om (pm_T4 A F i).1 (pm_T4 A F i).2.1) (pm_om (pm_T4 A F i).1 (pm_T4 A F i).2.2.1) (pm_om (pm_T4 A F i).1 (pm_T4 A F i).2.2.2) (nI i) I J = some (pm_tz (pm_T4 A F 225) y, I, J) := by
  have h225 : ((225 : Int32)).toInt = 225 := by decide
  intro d
  induction d with
  | zero =>
    intro i fu hi hf
    obtain ⟨fu, rfl⟩ : ∃ k, fu = k + 1 := ⟨fu - 1, by omega⟩
    have hi2 : i = 225 := by omega
    subst hi2
    rw [f302_50, h225, if_neg (by rw [nI_toInt (by omega)]; omega)]
    unfold pm_tz
    split
    · rfl
    · split
      · rfl
      · split <;> rfl
  | succ d ih =>
    intro i fu hi hf
    obtain ⟨fu, rfl⟩ : ∃ k, fu = k + 1 := ⟨fu - 1, by omega⟩
    have e := ih (i + 1) fu (by omega) (by omega)
    obtain ⟨s1, s2⟩ := hS i (by omega)
    have a9 := hA i (by omega)
    obtain ⟨b1, b2, b3, b4⟩ := T4_b (F := F) hA i (by omega)
    have code : 100 * (nI i / 25 + 1) + (nI i - nI i / 25 * 25) = nI (pm_tcd i) := by
      have q2 : nI i - nI i / 25 * 25 = nI (i % 25) := pk_rem (d := 25) (by omega) (by omega) (by omega)
      rw [q2, zt_lit 25, pk_div (by omega) (by omega) (by omega), nI_1, zt_lit 100, pk_mul, nI_add]
      rfl
    rw [f302_50, h225, if_pos (by rw [nI_toInt (by omega)]; omega), code, nI_1, nI_1]
    simp (disch := omega) only [zt_in, zt_gd, nI_clamp]
    rw [s1, s2]
    by_cases c : F i = true
    · rw [T4_y c] at e
      dsimp only at e
      rw [c, if_neg (by decide)]
      by_cases m : (pm_T4 A F i).1 = 0
      · rw [m] at e ⊢
        have o0 : ∀ z : Nat, pm_om 0 z = -1 := fun z => rfl
        have o1 : ∀ z : Nat, pm_om (0 + 1) z = nI z := fun z => rfl
        rw [if_pos rfl, if_pos rfl, if_pos rfl, o1, o1] at e
        rw [o0, o0, o0, if_pos rfl, if_pos rfl, if_pos (by rw [nI_toInt (by omega)]; have : ((-1 : Int32)).toInt = -1 := by decide
                                                           omega)]
        exact e
      · have om : ∀ z : Nat, pm_om (pm_T4 A F i).1 z = nI z := fun z => by unfold pm_om; rw [if_neg m]
        have o1 : ∀ z : Nat, pm_om ((pm_T4 A F i).1 + 1) z = nI z := fun z => by unfold pm_om; rw [if_neg (by omega)]
        have z1 : ∀ z : Nat, z ≤ 999 → ¬ nI z = -1 := fun z hz h => by
          have := zt_eqm (a := z) (by omega)
          rw [zt_m1', this] at h
          exact h
        rw [if_neg m, if_neg m, if_neg m, o1, o1, o1] at e
        rw [om, om, om, if_neg (z1 _ b2), if_neg (z1 _ b3), nI_toInt (by omega), nI_toInt (by omega), nI_toInt (by omega)]
        by_cases u : A i < (pm_T4 A F i).2.2.1
        · rw [if_pos (by omega)]
          rw [show Nat.min (pm_T4 A F i).2.2.1 (A i) = A i from Nat.min_eq_right (by omega)] at e
          by_cases v : (pm_T4 A F i).2.2.2 < A i
          · rw [if_pos (by omega)]
            rw [show Nat.max (pm_T4 A F i).2.2.2 (A i) = A i from Nat.max_eq_right (by omega)] at e
            exact e
          · rw [if_neg (by omega)]
            rw [show Nat.max (pm_T4 A F i).2.2.2 (A i) = (pm_T4 A F i).2.2.2 from Nat.max_eq_left (by omega)] at e
            exact e
        · rw [if_neg (by omega)]
          rw [show Nat.min (pm_T4 A F i).2.2.1 (A i) = (pm_T4 A F i).2.2.1 from Nat.min_eq_left (by omega)] at e
          by_cases v : (pm_T4 A F i).2.2.2 < A i
          · rw [if_pos (by omega)]
            rw [show Nat.max (pm_T4 A F i).2.2.2 (A i) = A i from Nat.max_eq_right (by omega)] at e
            exact e
          · rw [if_neg (by omega)]
            rw [show Nat.max (pm_T4 A F i).2.2.2 (A i) = (pm_T4 A F i).2.2.2 from Nat.max_eq_left (by omega)] at e
            exact e
    · have c' : F i = false := by simpa using c
      rw [T4_n c'] at e
      rw [c', if_pos (by decide)]
      exact e
end Tr
