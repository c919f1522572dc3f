/-! WORK: the call -/
def pm_Gx (l0 : Nat) (k0 : Nat → Nat) (D : Nat → Nat → Nat) (n : Nat) (X : Nat → Nat × Nat × Nat × Nat) : Nat → (Nat → Int32) → Bool × (Nat → Int32) := fun i w => pm_go l0 k0 D n (X i).1 (X i).2.1 (X i).2.2.1 w
/-- how the steps come out -/
def pm_wk (l0 : Nat) (k0 : Nat → Nat) (D : Nat → Nat → Nat) (n m : Nat) (X : Nat → Nat × Nat × Nat × Nat) (w : Nat → Int32) : (Nat → Int32) × Nat × Nat × Nat := pm_xp (pm_Gx l0 k0 D n X) (fun j => (X j).1) (fun j => (X j).2.2.1) (fun j => (X j).2.2.2) m 0 m (w, 0, 0, 0)
def pm_t49 (I : Nat → Nat → Int32) (J : Nat → Nat → Int64) : Option (Int32 × (Nat → Nat → Int32) × (Nat → Nat → Int64)) := pm_lt (pm_w I 127 32 ((I 127 32) + 1)) (fun I30 => (f253 I30 J).bind (fun (ov31, I32, J33) => pm_lt (pm_w I32 127 34 0) (fun I35 => pm_lt (pm_w I35 127 35 0) (fun I36 => pm_lt (pm_w I36 127 36 0) (fun I37 => (f254 0 (I37 127 31) I37 J33).bind (fun (ov38, I39, J40) => (f218 144 66 143 66 66 I39 J40).bind (fun (ov42, I43, J44) => pm_lt (pm_w I43 127 33 (I43 127 36)) (fun I46 => some (I46 127 35, I46, J44)))))))))
section Wf
variable {I : Nat → Nat → Int32} {J : Nat → Nat → Int64} {r k : Nat}
theorem CQ_cell {n t l0 l1 : Nat} {D : Nat → Nat → Nat} {k0 k1 : Nat → Nat} {I' : Nat → Nat → Int32} (h : pm_CQ r n t D l0 k0 l1 k1 I) (g : ∀ a, (a = 6 ∨ a = 7 ∨ a = 9 ∨ a = 10 ∨ (15 ≤ a ∧ a ≤ 22) ∨ (113 ≤ a ∧ a ≤ 120)) → I' a = I a) : pm_CQ r n t D l0 k0 l1 k1 I' := by
  obtain ⟨h1, h2, h3, h4, h5, h6⟩ := h
  have hr := h1.1
  exact ⟨CR_cell h1 (fun j hj => g _ (by omega)), h2, CL_ag h3 (g _ (by omega)) (g _ (by omega)), CL_ag h4 (g _ (by omega)) (g _ (by omega)), h5, h6⟩
theorem l249c {a : Nat} (ha : a < 16) : ∀ (d j fu : Nat) (I : Nat → Nat → Int32), j + d = 66 → d < fu → I 127 32 = nI a → f249_L fu 1 (nI j) (va_up I 145 (pm_blk (I 145) (I 143) (66 * a) j)) J = pm_t49 (va_up I 145 (pm_blk (I 145) (I 143) (66 * a) 66)) J := by
  have i66 : ((66 : Int32)).toInt = 66 := by decide
  intro d
  induction d with
  | zero =>
    intro j fu I hj hf h32
    obtain ⟨fu, rfl⟩ : ∃ k, fu = k + 1 := ⟨fu - 1, by omega⟩
    rw [f249_L, i66, nI_toInt (by omega), if_neg (by omega), show j = 66 by omega]
    rfl
  | succ d ih =>
    intro j fu I hj hf h32
    obtain ⟨fu, rfl⟩ : ∃ k, fu = k + 1 := ⟨fu - 1, by omega⟩
    have s := ih (j + 1) fu I (by omega) (by omega) h32
    have z : (66 : Int32) * nI a + nI j = nI (66 * a + j) := by rw [zt_lit 66, pk_mul, nI_add]
    rw [f249_L, i66, nI_toInt (by omega), if_pos (by omega), va_up_ne _ _ (show 127 ≠ 145 by decide), h32, z, zt_in (by omega) (by omega), zt_gd, zt_in (by omega) (by omega), zt_gd, pm_lt_eq, nI_clamp (by omega), nI_clamp (by omega), va_up_ne _ _ (show 143 ≠ 145 by decide), w_up, blk_s, nI_1]
    exact s
theorem c_work {c : Nat → Nat} {n t l0 l1 L T a : Nat} {D : Nat → Nat → Nat} {k0 k1 : Nat → Nat} (hQ : pm_CQ r n t D l0 k0 l1 k1 I) (hi : pm_inv n (I 5)) (ha : a < 16) (h23 : I 23 3 = nI a) (h1 : I 1 1 = nI T) (hT : T ≤ 600) (hLT : L ≤ T) (hL : L ≤ 150) (hc : ∀ i, i < T → c i < 256 ∧ I 2 i = nI (c i)) : (∀ q p, pm_tl2 c L n t (L + 1) (pm_sk c L 0) 0 (fun _ => (0, 0, 0, 0)) = .inl (q, p) → ∃ I', f176 r (nI L) I J = some (.inl (nI q - 10), I', J) ∧ I' 1 1 = nI 0 ∧ I' 1 8 = nI p ∧ pm_ag [98, 99, 100, 101] [(1, 1), (1, 2), (1, 3), (1, 4), (1, 5), (1, 6), (1, 7), (1, 8), (97, 4)] I I') ∧ (∀ m X, pm_tl2 c L n t (L + 1) (pm_sk c L 0) 0 (fun _ => (0, 0, 0, 0)) = .inr (m, X) → ∃ I', f176 r (nI L) I J = some (.inl (nI (pm_wk l0 k0 D n m X (I 5)).2.2.1), I', J) ∧ I' 1 1 = nI 0 ∧ I' 1 8 = -1 ∧ I' 5 = (pm_wk l0 k0 D n m X (I 5)).1 ∧ I' 0 11 = nI (pm_wk l0 k0 D n m X (I 5)).2.2.2 ∧ I' 23 3 = nI (a + 1) ∧ (∀ j, j < 66 → I' (25 + a) j = I 5 j) ∧ pm_ag [5, 8, 12, 25 + a, 98, 99, 100, 101] [(0, 11), (1, 1), (1, 2), (1, 3), (1, 4), (1, 5), (1, 6), (1, 7), (1, 8), (23, 3), (97, 4), (97, 5), (97, 6), (97, 7)] I I') := by
  have hr := hQ.1.1
  have n8 := hQ.1.2.2.2.2.1
  have t5 := hQ.1.2.2.2.2.2.1
  have i16 : ((16 : Int32)).toInt = 16 := by decide
  obtain ⟨I2, e2, f2⟩ := e126 (J := J) h1 hT hLT hc
  have g2 := (fr_126 _ _ _ e2).1
  have c2 : ∀ a, a ≠ 1 → I2 a = I a := fun a h1 => ag_cell g2 (by simp) (by intro f; simp; omega)
  have hs := sk_b c L 0
  have gate : f173 (nI L) 150 I J = some (.inl (), I, J) := e173g (M := 150) h1 hT hLT hL (by omega)
  have e7 : ∀ I3 : Nat → Nat → Int32, f137 I3 J = some ((), pm_w I3 1 1 0, J) := fun _ => rfl
  obtain ⟨a1, a2⟩ := l111 (J := J) (r := r) (c := c) (L := L) (n := n) (t := t) hr n8 t5 hL (L + 1) (pm_sk c L 0) 0 (fun _ => (0, 0, 0, 0)) 0 pm_FU (by omega) (by omega) (by omega) (by omega) (by unfold pm_FU; omega) (pm_w I2 97 4 0) (CF_w f2 (by omega)) (by rw [zt_ws]; rfl) (by rw [zt_wc (by omega), c2 r (by omega)]; exact hQ.1.2.1) (by rw [zt_wc (by omega), c2 r (by omega)]; exact hQ.1.2.2.1)
  rw [nI_0] at a1 a2
  have body : f176 r (nI L) I J = (f111_7 r pm_FU 0 (pm_w I2 97 4 0) J).bind (fun (ov11, I12, J13) => (f137 I12 J13).bind (fun (ov15, I16, J17) => (if (v138 I16) = true then some (.inl (v139 I16), I16, J17) else (f7 I16 J17).bind (fun (ov20, I21, J22) => (f116 I21 J22).bind (fun (ov24, I25, J26) => (f118 r 0 (I25 97 4) 0 I25 J26).bind (fun (ov28, I29, J30) => pm_lt (pm_w I29 0 11 (I29 97 7)) (fun I32 => some (.inl (I32 97 6), I32, J30)))))))) := by
    unfold f176 f111
    rw [gate, zt_xl, h23, nI_toInt (by omega), i16, if_pos (by omega), e2, zt_bind]
    dsimp only
    rw [pm_lt_eq]
  have fr7 : ∀ (v : Unit) (I3 : Nat → Nat → Int32) (J3 : Nat → Nat → Int64), f111_7 r pm_FU 0 (pm_w I2 97 4 0) J = some (v, I3, J3) → pm_ag [98, 99, 100, 101] [(1, 3), (1, 4), (1, 5), (1, 6), (1, 7), (1, 8), (97, 4)] I2 I3 := by
    intro v I3 J3 e3
    have q : f111 r I2 J = some (v, I3, J3) := by
      unfold f111
      rw [pm_lt_eq]
      exact e3
    exact (fr_111 _ _ _ q).1
  rw [body]
  refine ⟨fun q p z => ?_, fun m X z => ?_⟩
  · obtain ⟨I3, e3, x3⟩ := a1 q p z
    have g3 := fr7 _ _ _ e3
    have x4 := CX_1 x3
    refine ⟨pm_w I3 1 1 0, ?_, zt_ws, x4.2.2.1, ag_w (ag_trans (ag_mono g2 (by simp) (zt_subF rfl)) g3 (by simp) (zt_subF rfl)) (by simp)⟩
    rw [e3, zt_bind]
    dsimp only
    rw [e7, zt_bind]
    dsimp only
    rw [v138x x4, if_pos rfl]
    unfold v139
    rw [x4.2.1]
  · obtain ⟨I3, i3, e3, f3, h3, _, en3⟩ := a2 m X z
    obtain ⟨_, r2, _, r4⟩ := tl_R (L + 1) (pm_sk c L 0) 0 (fun _ => (0, 0, 0, 0)) (by omega) (by omega) m X z
    rw [Nat.sub_zero] at r4
    have g3 := fr7 _ _ _ e3
    have f4 := CF_1 f3
    have c3 : ∀ a, a ≠ 1 → a ≠ 97 → (a < 98 ∨ 101 < a) → I3 a = I a := fun a h1 h2 h3 => by rw [ag_cell g3 (by simp; omega) (by intro f; simp; omega), c2 a h1]
    -- the row is kept
    obtain ⟨I5, hI5⟩ : ∃ I5, I5 = pm_w (pm_cpw (pm_w I3 1 1 0) 5 (25 + a) 66) 23 3 (nI (a + 1)) := ⟨_, rfl⟩
    have d7 : f7 (pm_w I3 1 1 0) J = some ((), I5, J) := by
      have q23 : pm_w I3 1 1 0 23 3 = nI a := by rw [zt_wc (by decide), c3 23 (by decide) (by decide) (by omega)]; exact h23
      have q23' : pm_cpw (pm_w I3 1 1 0) 5 (25 + a) 66 23 3 = nI a := by
        unfold pm_cpw
        rw [va_up_ne _ _ (by omega)]
        exact q23
      unfold f7 f109
      rw [q23, if_neg (show ¬ (nI a).toInt < 0 by rw [nI_toInt (by omega)]; omega), if_pos (show (nI a).toInt < (nI 16).toInt by rw [nI_toInt (by omega), nI_toInt (by omega)]; omega), zt_in (by omega) (by omega), zt_gd, pm_lt_eq, zt_bind, nI_clamp (by omega)]
      dsimp only
      rw [show min 66 66 = 66 from rfl, pm_lt_eq, q23', nI_1, ← hI5]
    have o5 : ∀ b, b ≠ 25 + a → b ≠ 23 → I5 b = pm_w I3 1 1 0 b := fun b h1 h2 => by
      rw [hI5, zt_wc h2]
      unfold pm_cpw
      rw [va_up_ne _ _ h1]
    have k5 : ∀ j, j < 66 → I5 (25 + a) j = I 5 j := fun j hj => by
      rw [hI5, zt_wc (by omega)]
      unfold pm_cpw
      rw [va_up_self]
      unfold va_cpy
      rw [if_pos (by omega), show 0 + (j - 0) = j by omega, zt_wc (by decide), c3 5 (by decide) (by decide) (by omega)]
    obtain ⟨I6, hI6⟩ : ∃ I6, I6 = pm_w (pm_w (pm_w I5 97 5 0) 97 6 0) 97 7 0 := ⟨_, rfl⟩
    have d16 : f116 I5 J = some ((), I6, J) := by rw [hI6]; rfl
    have o6 : ∀ b, b ≠ 97 → I6 b = I5 b := fun b hb => by rw [hI6, zt_wc hb, zt_wc hb, zt_wc hb]
    have o6' : ∀ b, b ≠ 97 → b ≠ 25 + a → b ≠ 23 → b ≠ 1 → (b < 98 ∨ 101 < b) → I6 b = I b := fun b h1 h2 h3 h4 h5 => by rw [o6 b h1, o5 b h2 h3, zt_wc h4, c3 b h4 h1 h5]
    have q974 : I6 97 4 = nI m := by rw [hI6, zt_w2 (by omega), zt_w2 (by omega), zt_w2 (by omega), o5 97 (by omega) (by omega), zt_wc (by decide)]; exact h3
    have Q6 : pm_CQ r n t D l0 k0 l1 k1 I6 := CQ_cell hQ (fun b hb => o6' b (by omega) (by omega) (by omega) (by omega) (by omega))
    have C6 : pm_CS m (fun j => (X j).1) (fun j => (X j).2.1) (fun j => (X j).2.2.1) (fun j => (X j).2.2.2) I6 := by
      have ee : ∀ b, 98 ≤ b → b ≤ 101 → I6 b = I3 b := fun b h1 h2 => by rw [o6 b (by omega), o5 b (by omega) (by omega), zt_wc (by omega)]
      intro j hj
      have q := en3 j (by omega) hj
      unfold pm_cE at q
      rw [ee 98 (by omega) (by omega), ee 99 (by omega) (by omega), ee 100 (by omega) (by omega), ee 101 (by omega) (by omega)]
      exact q
    have S6 : pm_Cs (I 5, 0, 0, 0) I6 := ⟨o6' 5 (by omega) (by omega) (by omega) (by omega) (by omega), by rw [hI6, zt_w2 (by omega), zt_w2 (by omega), zt_ws]; rfl, by rw [hI6, zt_w2 (by omega), zt_ws]; rfl, by rw [hI6, zt_ws]; rfl⟩
    obtain ⟨fu, hfu⟩ : ∃ fu, pm_FU = fu + 1 := ⟨pm_FU - 1, by unfold pm_FU; omega⟩
    have hfu2 : 65 * m + 1 ≤ fu := by
      have : pm_FU = 100000 := rfl
      omega
    obtain ⟨I7, e8, S7, Q7, C7⟩ := x_c (J := J) (r := r) (n := n) (t := t) (l0 := l0) (l1 := l1) (k0 := k0) (k1 := k1) (D := D) (m := m) (by omega) m 0 0 m (I 5, 0, 0, 0) I6 fu 40 (Nat.le_refl _) (by omega) (by omega) r4 ⟨hi, by show 0 ≤ 200; omega, Nat.le_refl _, Nat.le_refl _⟩ Q6 C6 S6 hfu2 (by omega)
    rw [nI_0] at e8
    have d18 : f118 r 0 (I6 97 4) 0 I6 J = some ((), I7, J) := by
      unfold f118
      rw [hfu, q974, g118]
      exact e8
    have g7 := (fr_118 _ _ _ d18).1
    have S7' : pm_Cs (pm_wk l0 k0 D n m X (I 5)) I7 := S7
    obtain ⟨s1, s2, s3, s4⟩ := S7'
    have G : pm_ag [5, 8, 12, 25 + a, 98, 99, 100, 101] [(0, 11), (1, 1), (1, 2), (1, 3), (1, 4), (1, 5), (1, 6), (1, 7), (1, 8), (23, 3), (97, 4), (97, 5), (97, 6), (97, 7)] I (pm_w I7 0 11 (I7 97 7)) := by
      have G3 : pm_ag [5, 8, 12, 25 + a, 98, 99, 100, 101] [(0, 11), (1, 1), (1, 2), (1, 3), (1, 4), (1, 5), (1, 6), (1, 7), (1, 8), (23, 3), (97, 4), (97, 5), (97, 6), (97, 7)] I I6 := by
        rw [hI6, hI5]
        exact ag_w (ag_w (ag_w (ag_w (ag_cp (ag_w (ag_trans (ag_mono g2 (by simp) (by simp)) g3 (by simp) (by simp)) (by simp)) (by simp)) (by simp)) (by simp)) (by simp)) (by simp)
      exact ag_w (ag_trans G3 g7 (by simp) (by simp)) (by simp)
    have o7 : ∀ b, b ≠ 5 → b ≠ 8 → b ≠ 12 → b ≠ 97 → I7 b = I6 b := fun b h1 h2 h3 h4 => ag_cell g7 (by simp; omega) (by intro f; simp; omega)
    refine ⟨pm_w I7 0 11 (I7 97 7), ?_, ?_, ?_, ?_, ?_, ?_, fun j hj => ?_, G⟩
    · rw [e3, zt_bind]
      dsimp only
      rw [e7, zt_bind]
      dsimp only
      rw [v138f f4, if_neg (by decide), d7, zt_bind]
      dsimp only
      rw [d16, zt_bind]
      dsimp only
      rw [d18, zt_bind]
      dsimp only
      rw [pm_lt_eq, zt_wc (by decide), s3]
    · rw [zt_wc (by decide), o7 1 (by decide) (by decide) (by decide) (by decide), o6 1 (by decide), o5 1 (by omega) (by omega), zt_ws]; rfl
    · rw [zt_wc (by decide), o7 1 (by decide) (by decide) (by decide) (by decide), o6 1 (by decide), o5 1 (by omega) (by omega)]; exact f4.2.2.2
    · rw [zt_wc (by decide)]; exact s1
    · rw [zt_ws]; exact s4
    · rw [zt_wc (by decide), o7 23 (by decide) (by decide) (by decide) (by decide), o6 23 (by decide), hI5, zt_ws]
    · rw [zt_wc (by omega), o7 (25 + a) (by omega) (by omega) (by omega) (by omega), o6 (25 + a) (by omega)]; exact k5 j hj
end Wf
