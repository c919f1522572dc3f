/-! WORK: the reference's call; both -/
section Wg
variable {I : Nat → Nat → Int32} {J : Nat → Nat → Int64} {r k : Nat}
theorem m_work {c : Nat → Nat} {n t l0 l1 L T a : Nat} {D : Nat → Nat → Nat} {k0 k1 : Nat → Nat} {w : Nat → Int32} (hQ : pm_MQ n t D l0 k0 l1 k1 I) (hi : pm_inv n w) (hms : pm_ms n (I 143) w) (ha : a < 16) (h32 : I 127 32 = nI a) (h2 : I 127 2 = nI T) (hT : T ≤ 600) (hLT : L ≤ T) (hL : L ≤ 150) (hc : ∀ i, i < T → c i < 256 ∧ I 129 i = nI (c i)) : (∀ q p, pm_tl2 c L n t (L + 1) (pm_sk c L 0) 0 (fun _ => (0, 0, 0, 0)) = .inl (q, p) → ∃ I', f249 (nI L) I J = some (nI q - 10, I', J) ∧ I' 127 8 = nI p ∧ I' 127 2 = nI 0 ∧ I' 127 0 = nI 0 ∧ pm_ag [141] [(127, 0), (127, 2), (127, 3), (127, 4), (127, 5), (127, 6), (127, 7), (127, 8), (127, 31)] I I') ∧ (∀ m X, pm_tl2 c L n t (L + 1) (pm_sk c L 0) 0 (fun _ => (0, 0, 0, 0)) = .inr (m, X) → ∃ I', f249 (nI L) I J = some (nI (pm_wk l0 k0 D n m X w).2.2.1, I', J) ∧ I' 127 8 = -1 ∧ I' 127 2 = nI 0 ∧ I' 127 0 = nI 0 ∧ pm_ms n (I' 143) (pm_wk l0 k0 D n m X w).1 ∧ pm_inv n (pm_wk l0 k0 D n m X w).1 ∧ I' 127 33 = nI (pm_wk l0 k0 D n m X w).2.2.2 ∧ I' 127 32 = nI (a + 1) ∧ (∀ j, j < 66 → I' 145 (66 * a + j) = I 143 j) ∧ (∀ j, (j < 66 * a ∨ 66 * a + 66 ≤ j) → I' 145 j = I 145 j) ∧ pm_ag [139, 140, 141, 142, 143, 144, 145] [(127, 0), (127, 2), (127, 3), (127, 4), (127, 5), (127, 6), (127, 7), (127, 8), (127, 31), (127, 32), (127, 33), (127, 34), (127, 35), (127, 36), (127, 40), (127, 41), (127, 42)] I I') := by
  have n8 := hQ.1.2.2.2.1
  have t5 := hQ.1.2.2.2.2.1
  have i150 : ((150 : Int32)).toInt = 150 := by decide
  have hs := sk_b c L 0
  obtain ⟨I2, e2, m2, z2, _⟩ := e223 (I := pm_w I 127 0 0) (J := J) (c := c) (L := L) (by omega) (fun i hi => by rw [zt_wc (by omega)]; exact hc i (by omega))
  have g2 := (fr_223 _ _ _ e2).1
  have s27 : I2 127 7 = nI 0 := by
    unfold f223 at e2
    simp only [pm_lt] at e2
    cases e2
    rw [zt_ws]; rfl
  have eg : f222 1 1 1 (pm_w I 127 0 0) J = some (true, pm_w I 127 0 0, J) := e222g (by rw [zt_ws]; rfl)
  obtain ⟨I3, hI3⟩ : ∃ I3, I3 = pm_w I2 127 31 0 := ⟨_, rfl⟩
  have f3 : ∀ f, f ≠ 0 → f ≠ 2 → f ≠ 3 → f ≠ 4 → f ≠ 5 → f ≠ 7 → f ≠ 8 → f ≠ 31 → I3 127 f = I 127 f := fun f h0 h1 h2 h3 h4 h5 h6 h7 => by
    rw [hI3, zt_wf h7, g2 127 f (by decide) (by simp; omega), zt_wf h0]
  have o3 : ∀ b, b ≠ 127 → I3 b = I b := fun b hb => by rw [hI3, zt_wc hb, ag_cell g2 (by simp) (by intro f; simp; omega), zt_wc hb]
  have G3 : pm_ag [141] [(127, 0), (127, 2), (127, 3), (127, 4), (127, 5), (127, 6), (127, 7), (127, 8), (127, 31)] I I3 := by
    rw [hI3]
    exact ag_w (ag_trans (ag_w ag_refl (by simp)) g2 (by simp) (zt_subF rfl)) (by simp)
  have y2 : I3 127 2 = nI 0 := by rw [hI3, zt_w2 (by omega), z2]; rfl
  have y0 : I3 127 0 = nI 0 := by rw [hI3, zt_w2 (by omega), g2 127 0 (by decide) (by decide), zt_ws]; rfl
  have body : f249 (nI L) I J = f249_L pm_FU 0 0 I3 J := by
    have n16 : ¬ I2 127 32 = 16 := by rw [g2 127 32 (by decide) (by decide), zt_w2 (by omega), h32, zt_lit 16, zt_eq (by omega) (by omega)]; omega
    unfold f249
    rw [pm_lt_eq, if_neg (show ¬ (nI L).toInt < 0 by rw [nI_toInt (by omega)]; omega), zt_w2 (by omega), h2, if_neg (show ¬ (nI T).toInt < (nI L).toInt by rw [nI_toInt (by omega), nI_toInt (by omega)]; omega), if_neg (show ¬ (150 : Int32).toInt < (nI L).toInt by rw [nI_toInt (by omega), i150]; omega), eg, zt_bind]
    dsimp only
    rw [if_pos rfl, e2, zt_bind]
    dsimp only
    rw [if_neg n16, pm_lt_eq, ← hI3]
  obtain ⟨a1, a2⟩ := l249 (J := J) (c := c) (L := L) (n := n) (t := t) n8 t5 hL (L + 1) (pm_sk c L 0) 0 (fun _ => (0, 0, 0, 0)) pm_FU (by omega) (by omega) (by omega) (by unfold pm_FU; omega) I3 0 (by rw [hI3]; exact MF_g m2 (by omega)) (by rw [Nat.sub_zero]) (by rw [hI3, zt_w2 (by omega)]; exact s27) (by rw [hI3, zt_ws]; rfl) (by rw [f3 18 (by decide) (by decide) (by decide) (by decide) (by decide) (by decide) (by decide) (by decide)]; exact hQ.1.1) (by rw [f3 19 (by decide) (by decide) (by decide) (by decide) (by decide) (by decide) (by decide) (by decide)]; exact hQ.1.2.1)
  rw [body]
  refine ⟨fun q p z => ?_, fun m X z => ?_⟩
  · obtain ⟨I4, e4, p8, g4⟩ := a1 q p z
    exact ⟨I4, e4, p8, by rw [g4 127 2 (by decide) (by decide)]; exact y2, by rw [g4 127 0 (by decide) (by decide)]; exact y0, ag_trans G3 g4 (by simp) (zt_subF rfl)⟩
  · obtain ⟨I4, fu', hfu, e4, p8, p31, _, en4, g4⟩ := a2 m X z
    obtain ⟨_, r2, _, r4⟩ := tl_R (L + 1) (pm_sk c L 0) 0 (fun _ => (0, 0, 0, 0)) (by omega) (by omega) m X z
    rw [Nat.sub_zero] at r4
    have hfu2 : 66 < fu' := by
      have : pm_FU = 100000 := rfl
      omega
    obtain ⟨I5, hI5⟩ : ∃ I5, I5 = va_up I4 142 (pm_fil (I4 141) (I4 142) (3 * m)) := ⟨_, rfl⟩
    have e5 : f218 141 150 142 150 (nI (3 * m)) I4 J = some ((), I5, J) := by
      rw [hI5]
      exact e218 (by omega) (by omega) (by omega) (by omega)
    have o5 : ∀ b, b ≠ 142 → I5 b = I4 b := fun b hb => by rw [hI5, va_up_ne _ _ hb]
    have G5 : pm_ag [139, 140, 141, 142, 143, 144, 145] [(127, 0), (127, 2), (127, 3), (127, 4), (127, 5), (127, 6), (127, 7), (127, 8), (127, 31), (127, 32), (127, 33), (127, 34), (127, 35), (127, 36), (127, 40), (127, 41), (127, 42)] I I5 := by
      rw [hI5]
      exact ag_up (ag_trans (ag_mono G3 (by simp) (zt_subF rfl)) g4 (by simp) (zt_subF rfl)) (by simp)
    have o4 : ∀ b, b ≠ 127 → b ≠ 141 → I4 b = I b := fun b h1 h2 => by rw [ag_cell g4 (by simp; omega) (by intro f; simp; omega), o3 b h1]
    have q32 : I5 127 32 = nI a := by rw [o5 127 (by decide), g4 127 32 (by decide) (by decide), f3 32 (by decide) (by decide) (by decide) (by decide) (by decide) (by decide) (by decide) (by decide)]; exact h32
    have l := l249c (J := J) ha 66 0 fu' I5 (by omega) hfu2 q32
    rw [blk_0, va_same, nI_0] at l
    obtain ⟨I6, hI6⟩ : ∃ I6, I6 = va_up I5 145 (pm_blk (I5 145) (I5 143) (66 * a) 66) := ⟨_, rfl⟩
    rw [← hI6] at l
    have o6 : ∀ b, b ≠ 145 → I6 b = I5 b := fun b hb => by rw [hI6, va_up_ne _ _ hb]
    have c145 : I6 145 = pm_blk (I 145) (I 143) (66 * a) 66 := by rw [hI6, va_up_self, o5 145 (by decide), o5 143 (by decide), o4 145 (by decide) (by decide), o4 143 (by decide) (by decide)]
    obtain ⟨I7, hI7⟩ : ∃ I7, I7 = pm_w I6 127 32 (nI (a + 1)) := ⟨_, rfl⟩
    have o7 : ∀ b, b ≠ 127 → I7 b = I6 b := fun b hb => by rw [hI7, zt_wc hb]
    have c143 : I7 143 = I 143 := by rw [o7 143 (by decide), o6 143 (by decide), o5 143 (by decide), o4 143 (by decide) (by decide)]
    obtain ⟨I8, e8, s8, r40, _, _, g8⟩ := e253 (n := n) (I := I7) (J := J) (w := w) (by rw [c143]; exact hms)
    obtain ⟨I9, hI9⟩ : ∃ I9, I9 = pm_w (pm_w (pm_w I8 127 34 0) 127 35 0) 127 36 0 := ⟨_, rfl⟩
    have o9 : ∀ b, b ≠ 127 → I9 b = I8 b := fun b hb => by rw [hI9, zt_wc hb, zt_wc hb, zt_wc hb]
    have f9 : ∀ f, f ≠ 34 → f ≠ 35 → f ≠ 36 → I9 127 f = I8 127 f := fun f h1 h2 h3 => by rw [hI9, zt_wf h3, zt_wf h2, zt_wf h1]
    have G9 : pm_ag [139, 140, 141, 142, 143, 144, 145] [(127, 0), (127, 2), (127, 3), (127, 4), (127, 5), (127, 6), (127, 7), (127, 8), (127, 31), (127, 32), (127, 33), (127, 34), (127, 35), (127, 36), (127, 40), (127, 41), (127, 42)] I I9 := by
      have G7 : pm_ag [139, 140, 141, 142, 143, 144, 145] [(127, 0), (127, 2), (127, 3), (127, 4), (127, 5), (127, 6), (127, 7), (127, 8), (127, 31), (127, 32), (127, 33), (127, 34), (127, 35), (127, 36), (127, 40), (127, 41), (127, 42)] I I7 := by
        rw [hI7, hI6]
        exact ag_w (ag_up G5 (by simp)) (by simp)
      rw [hI9]
      exact ag_w (ag_w (ag_w (ag_trans G7 g8 (by simp) (zt_subF rfl)) (by simp)) (by simp)) (by simp)
    have Q9 : pm_MQ n t D l0 k0 l1 k1 I9 := MQ_ag hQ G9 (by decide)
    have c142 : I9 142 = pm_fil (I4 141) (I4 142) (3 * m) := by rw [o9 142 (by decide), ag_cell g8 (by decide) (by intro f; simp), o7 142 (by decide), o6 142 (by decide), hI5, va_up_self]
    have C9 : pm_Ms 142 m (fun j => (X j).1) (fun j => (X j).2.1) (fun j => (X j).2.2.1) (fun j => (X j).2.2.2) I9 := by
      intro j hj
      have q := en4 j (by omega) hj
      unfold pm_mE at q
      rw [c142, fil_in (by omega), fil_in (by omega), fil_in (by omega)]
      exact q
    have S9 : pm_Mst n (w, 0, 0, 0) I9 := ⟨by rw [o9 144 (by decide)]; exact s8, by rw [hI9, zt_w2 (by omega), zt_w2 (by omega), zt_ws]; rfl, by rw [hI9, zt_w2 (by omega), zt_ws]; rfl, by rw [hI9, zt_ws]; rfl, by rw [f9 40 (by decide) (by decide) (by decide)]; exact r40⟩
    have q31 : I9 127 31 = nI (3 * m) := by rw [f9 31 (by decide) (by decide) (by decide), g8 127 31 (by decide) (by decide), hI7, zt_w2 (by omega), o6 127 (by decide), o5 127 (by decide)]; exact p31
    have sO9 : pm_sO n (w, 0, 0, 0) := ⟨hi, by show 0 ≤ 200; omega, Nat.le_refl _, Nat.le_refl _⟩
    obtain ⟨fu, hfu3⟩ : ∃ fu, pm_FU = fu + 1 := ⟨pm_FU - 1, by unfold pm_FU; omega⟩
    have hfu4 : 65 * m + 1 ≤ fu := by
      have : pm_FU = 100000 := rfl
      omega
    obtain ⟨Ia, ea, Sa, Qa, Ca⟩ := x_m (J := J) (n := n) (t := t) (l0 := l0) (l1 := l1) (k0 := k0) (k1 := k1) (D := D) (m := m) (by omega) m 0 0 m (w, 0, 0, 0) I9 fu 40 (Nat.le_refl _) (by omega) (by omega) r4 sO9 Q9 C9 S9 hfu4 (by omega)
    have dA : f254 0 (I9 127 31) I9 J = some ((), Ia, J) := by
      unfold f254
      rw [hfu3, q31, g254]
      exact ea
    have ga := (fr_254 _ _ _ dA).1
    have Sa' : pm_Mst n (pm_wk l0 k0 D n m X w) Ia := Sa
    obtain ⟨t1, t2, t3, t4, _⟩ := Sa'
    obtain ⟨Ib, hIb⟩ : ∃ Ib, Ib = va_up Ia 143 (pm_fil (Ia 144) (Ia 143) 66) := ⟨_, rfl⟩
    have eb : f218 144 66 143 66 66 Ia J = some ((), Ib, J) := by
      rw [hIb]
      exact e218 (c := 66) (by omega) (by omega) (by omega) (by omega)
    have ob : ∀ b, b ≠ 143 → Ib b = Ia b := fun b hb => by rw [hIb, va_up_ne _ _ hb]
    have oa : ∀ b, b ≠ 127 → b ≠ 139 → b ≠ 140 → b ≠ 144 → Ia b = I9 b := fun b h1 h2 h3 h4 => ag_cell ga (by simp; omega) (by intro f; simp; omega)
    have fa : ∀ f, f ≠ 34 → f ≠ 35 → f ≠ 36 → f ≠ 41 → f ≠ 42 → Ia 127 f = I9 127 f := fun f h1 h2 h3 h4 h5 => ga 127 f (by simp) (by simp; omega)
    have f8 : ∀ f, f ≠ 40 → f ≠ 41 → f ≠ 42 → f ≠ 32 → I8 127 f = I4 127 f := fun f h1 h2 h3 h4 => by rw [g8 127 f (by simp) (by simp; omega), hI7, zt_wf h4, o6 127 (by decide), o5 127 (by decide)]
    refine ⟨pm_w Ib 127 33 (Ib 127 36), ?_, ?_, ?_, ?_, ?_, ?_, ?_, ?_, fun j hj => ?_, fun j hj => ?_, ?_⟩
    · rw [e4, e5, zt_bind]
      dsimp only
      rw [l]
      unfold pm_t49
      rw [pm_lt_eq, o6 127 (by decide), q32, nI_1, ← hI7, e8, zt_bind]
      dsimp only
      rw [pm_lt_eq, pm_lt_eq, pm_lt_eq, ← hI9, dA, zt_bind]
      dsimp only
      rw [eb, zt_bind]
      dsimp only
      rw [pm_lt_eq, zt_w2 (by omega), ob 127 (by decide), t3]
    · rw [zt_w2 (by omega), ob 127 (by decide), fa 8 (by decide) (by decide) (by decide) (by decide) (by decide), f9 8 (by decide) (by decide) (by decide), f8 8 (by decide) (by decide) (by decide) (by decide)]; exact p8
    · rw [zt_w2 (by omega), ob 127 (by decide), fa 2 (by decide) (by decide) (by decide) (by decide) (by decide), f9 2 (by decide) (by decide) (by decide), f8 2 (by decide) (by decide) (by decide) (by decide), g4 127 2 (by decide) (by decide)]; exact y2
    · rw [zt_w2 (by omega), ob 127 (by decide), fa 0 (by decide) (by decide) (by decide) (by decide) (by decide), f9 0 (by decide) (by decide) (by decide), f8 0 (by decide) (by decide) (by decide) (by decide), g4 127 0 (by decide) (by decide)]; exact y0
    · rw [zt_wc (by decide), hIb, va_up_self]; exact ms_fil t1
    · exact (sO_xp (l0 := l0) (k0 := k0) (D := D) n8 m 0 0 m (w, 0, 0, 0) r4 sO9).1
    · rw [zt_ws, ob 127 (by decide)]; exact t4
    · rw [zt_w2 (by omega), ob 127 (by decide), fa 32 (by decide) (by decide) (by decide) (by decide) (by decide), f9 32 (by decide) (by decide) (by decide), g8 127 32 (by decide) (by decide), hI7, zt_ws]
    · rw [zt_wc (by decide), ob 145 (by decide), oa 145 (by decide) (by decide) (by decide) (by decide), o9 145 (by decide), ag_cell g8 (by decide) (by intro f; simp), o7 145 (by decide), c145, blk_in hj]
    · rw [zt_wc (by decide), ob 145 (by decide), oa 145 (by decide) (by decide) (by decide) (by decide), o9 145 (by decide), ag_cell g8 (by decide) (by intro f; simp), o7 145 (by decide), c145, blk_out (by omega)]
    · rw [hIb]
      exact ag_w (ag_up (ag_trans G9 ga (by simp) (zt_subF rfl)) (by simp)) (by simp)
end Wg
