/-! WORK'S TEXT: the reference reads what is held, and all -/
section Wd
variable {J : Nat → Nat → Int64}
theorem hl_m {c : Nat → Nat} {L n t o m0 b : Nat} {S : Nat → Nat → Nat → (Nat → Nat × Nat × Nat × Nat) → (Nat × Nat) ⊕ (Nat × Nat × (Nat → Nat × Nat × Nat × Nat))} (hL : L ≤ 150) (ho : o < 6) (hP : ∀ i m X, i ≤ L → pm_wR n t L i m X (o + 1) 1 (S (o + 1) i m X)) (hS : ∀ i m X fu dep, i ≤ L → 3 * m ≤ i → 160 * (6 - o) ≤ fu → 2 * (6 - o) ≤ dep → pm_wM n t c L i m (o + 1) (S (o + 1) i m X) (fun I J => g250 fu dep 0 0 I J)) : ∀ d i m X fu dep, L - i < d → i ≤ L → 3 * m ≤ i → m0 < m → 160 * (6 - o) + (L - i) + 3 ≤ fu → 2 * (6 - o) + 1 ≤ dep → ∀ (I : Nat → Nat → Int32) (a : Nat), pm_MF c L a I → i = pm_sk c (L - a) a → I 127 7 = nI (o + 1) → I 127 31 = nI (3 * m) → I 127 18 = nI n → I 127 19 = nI t → I 141 (3 * m0) = nI 8 → I 141 (3 * m0 + 1) = nI b → (∀ j, m0 < j → j < m → pm_mE X I j) → pm_wO c L m0 o (I 141) J (pm_sh c L m0 b (pm_hl c L S d (o + 1) i m X)) (g250 fu dep 1 (nI (3 * m0)) I J) := by
  intro d
  induction d with
  | zero => intro i m X fu dep hd; omega
  | succ d ih =>
    intro i m X fu dep hd hi hm h0 hf hdp I a h ha h7 h31 hn ht k0 k1 en
    obtain ⟨fu, rfl⟩ : ∃ k, fu = k + 1 := ⟨fu - 1, by omega⟩
    obtain ⟨dep, rfl⟩ : ∃ k, dep = k + 1 := ⟨dep - 1, by omega⟩
    have sid : i = pm_sk c (L - i) i := by rw [ha]; exact (sk_id h.2.1).symm
    obtain ⟨I1, e1, m1⟩ := MF_here (J := J) h
    rw [← ha] at e1 m1
    have g1 := (fr_226 _ _ _ e1).1
    have c1 : I1 141 = I 141 := ag_cell g1 (by decide) (by intro f; simp)
    have f1 : ∀ f, f ≠ 4 → I1 127 f = I 127 f := fun f hf => g1 127 f (by decide) (by simp; omega)
    have cv : (if i < L then nI (c i) else 0) = 93 ↔ (i < L ∧ c i = 93) := by
      by_cases q : i < L
      · have cb := (m1.1.2.2 i q).1
        rw [if_pos q, zt_lit 93, zt_eq (by omega) (by omega)]
        exact ⟨fun w => ⟨q, w⟩, fun w => w.2⟩
      · rw [if_neg q]
        exact ⟨fun w => absurd w (by decide), fun w => absurd w.1 q⟩
    rw [pm_hl, g250, v224f h, if_pos rfl, e1, zt_bind]
    dsimp only
    by_cases s : i < L ∧ c i = 93
    · obtain ⟨I2, e2, m2⟩ := (e238 (J := J) (st := i) (s := 93) m1 sid (by omega) (by omega)).1 s
      have e2' : f238 93 I1 J = some ((), I2, J) := e2
      have g2 := (fr_238 _ _ _ e2').1
      have c2 : I2 141 = I 141 := by rw [ag_cell g2 (by decide) (by intro f; simp), c1]
      have f2 : ∀ f, f = 7 ∨ f = 31 → I2 127 f = I 127 f := fun f hf => by rw [g2 127 f (by decide) (by simp; omega), f1 f (by omega)]
      have j2 : nI (3 * m0) + 2 = nI (3 * m0 + 2) := nI_add _ 2
      rw [if_pos s, if_pos (cv.mpr s), e2', zt_bind]
      dsimp only [pm_sh]
      rw [if_pos s, pm_lt_eq, f2 7 (by omega), h7, show nI (o + 1) - 1 = nI o by rw [zt_lit 1, zt_mi (by omega), Nat.add_sub_cancel], v224f (MF_7 (x := nI o) m2), if_pos rfl, j2, zt_in (by omega) (by omega), zt_gd, pm_lt_eq, nI_clamp (by omega), zt_w2 (by omega), f2 31 (by omega), h31]
      obtain ⟨I3, hI3⟩ : ∃ I3, I3 = pm_w (pm_w I2 127 7 (nI o)) 141 (3 * m0 + 2) (nI (3 * m)) := ⟨_, rfl⟩
      rw [← hI3]
      have m3 : pm_MF c L (i + 1) I3 := by rw [hI3]; exact MF_w (MF_7 m2) (by decide) (by decide)
      obtain ⟨s1, s2⟩ := e238 (J := J) (st := pm_nx1 c L i) (s := 59) m3 rfl (by omega) (by omega)
      unfold pm_smi
      by_cases s3 : pm_nx1 c L i < L ∧ c (pm_nx1 c L i) = 59
      · obtain ⟨I4, e4, m4⟩ := s1 s3
        have e4' : f238 59 I3 J = some ((), I4, J) := e4
        have g4 := (fr_238 _ _ _ e4').1
        have c4 : I4 141 = I3 141 := ag_cell g4 (by decide) (by intro f; simp)
        have c3o : ∀ q, q ≠ 3 * m0 + 2 → I4 141 q = I 141 q := fun q hq => by rw [c4, hI3, zt_wf hq, zt_wc (by decide), c2]
        rw [if_pos s3, e4', zt_bind]
        refine ⟨fun q p z => (by cases z), fun i' m' X' z => ?_⟩
        cases z
        refine ⟨I4, _, rfl, m4, rfl, ?_, ?_, fun q hq => c3o q (by omega), fun j h1 h2 => ?_⟩
        · rw [g4 127 7 (by decide) (by decide), hI3, zt_wc (by decide), zt_ws]
        · rw [g4 127 31 (by decide) (by decide), hI3, zt_wc (by decide), zt_w2 (by omega), f2 31 (by omega)]; exact h31
        · by_cases jm : j = m0
          · subst jm
            unfold pm_mE
            rw [xu_s, c3o (3 * j) (by omega), c3o (3 * j + 1) (by omega), c4, hI3, zt_ws]
            exact ⟨k0, k1, rfl⟩
          · have q := en j (by omega) h2
            unfold pm_mE at q ⊢
            rw [xu_n jm, c3o (3 * j) (by omega), c3o (3 * j + 1) (by omega), c3o (3 * j + 2) (by omega)]
            exact q
      · obtain ⟨I4, e4, x4⟩ := s2 s3
        have e4' : f238 59 I3 J = some ((), I4, J) := e4
        rw [if_neg s3, e4', zt_bind]
        exact wO_x ⟨I4, rfl, x4⟩
    · rw [if_neg s, if_neg (fun q => s (cv.mp q))]
      have pp := hP i m X hi
      have q := hS i m X fu dep hi hm (by omega) (by omega) I1 J i m1 sid (by rw [f1 7 (by decide)]; exact h7) (by rw [f1 31 (by decide)]; exact h31) (by rw [f1 18 (by decide)]; exact hn) (by rw [f1 19 (by decide)]; exact ht)
      obtain ⟨t1, t2⟩ := q
      dsimp only at t1 t2
      cases y2 : S (o + 1) i m X with
      | inl f =>
        obtain ⟨q, p⟩ := f
        obtain ⟨I2, e2, x2⟩ := t1 q p y2
        obtain ⟨fu, rfl⟩ : ∃ k, fu = k + 1 := ⟨fu - 1, by omega⟩
        obtain ⟨I3, e3, x3⟩ := x250_1 (J := J) (fu := fu) (dep := dep) (y := nI (3 * m0)) x2
        rw [e2, zt_bind]
        exact wO_x ⟨I3, e3, x3⟩
      | inr f =>
        obtain ⟨i1, m1', X1⟩ := f
        rw [y2] at pp
        obtain ⟨p1, p2, p3, p4, p5, p6⟩ := pp
        obtain ⟨I2, a2, e2, mf2, ha2, s7, s31, sk, en2⟩ := t2 i1 m1' X1 y2
        have g2 := (fr_g250 _ _ _ _ _ _ _ _ _ e2).1
        have sk' : ∀ q, q < 3 * m → I2 141 q = I 141 q := fun q hq => by rw [sk q hq, c1]
        rw [e2, zt_bind]
        have r := ih i1 m1' X1 fu (dep + 1) (by omega) p1 (by omega) (by omega) (by omega) (by omega) I2 a2 mf2 ha2 s7 s31 (by rw [g2 127 18 (by decide) (by decide), f1 18 (by decide)]; exact hn) (by rw [g2 127 19 (by decide) (by decide), f1 19 (by decide)]; exact ht) (by rw [sk' _ (by omega)]; exact k0) (by rw [sk' _ (by omega)]; exact k1) (fun j h1 h2 => by
          by_cases jm : j < m
          · have q := en j h1 jm
            unfold pm_mE at q ⊢
            rw [p5 j jm, sk' _ (by omega), sk' _ (by omega), sk' _ (by omega)]
            exact q
          · exact en2 j (by omega) h2)
        exact wO_u r (fun q hq => sk' q (by omega))
theorem sS_m {c : Nat → Nat} {L n t : Nat} (n8 : n ≤ 8) (t5 : t ≤ 5) (hL : L ≤ 150) : ∀ f o i m X fu dep, o ≤ 6 → 7 - o ≤ f → i ≤ L → 3 * m ≤ i → 160 * (7 - o) ≤ fu → 2 * (7 - o) ≤ dep → pm_wM n t c L i m o (pm_sS c L n t f o i m X) (fun I J => g250 fu dep 0 0 I J) := by
  intro f
  induction f with
  | zero => intro o i m X fu dep ho hf; omega
  | succ f ih =>
    intro o i m X fu dep ho hf hi hm hfu hd
    rw [pm_sS]
    refine st_m n8 t5 hL ho hi hm hfu hd (fun i m X b fu dep h6 hi hm hfu hd I J a h ha h7 h31 hn ht k0 k1 => ?_)
    exact hl_m hL h6 (fun i m X hi => sS_R f (o + 1) i m X (by omega) (by omega) hi) (fun i m X fu dep hi hm hfu hd => ih (o + 1) i m X fu dep (by omega) (by omega) hi hm (by omega) (by omega)) (L + 1) i (m + 1) X fu dep (by omega) hi hm (by omega) hfu hd I a h ha h7 h31 hn ht k0 k1 (fun j h1 h2 => by omega)
end Wd
/-- all the steps, what they keep -/
theorem tl_R {c : Nat → Nat} {L n t : Nat} : ∀ d i m X, i ≤ L → 3 * m ≤ i → ∀ m' X', pm_tl2 c L n t d i m X = .inr (m', X') → m ≤ m' ∧ 3 * m' ≤ L ∧ (∀ j, j < m → X' j = X j) ∧ pm_wx n t X' (m' - m) 0 m m' := by
  intro d
  induction d with
  | zero =>
    intro i m X hi hm m' X' h
    rw [pm_tl2] at h
    cases h
    refine ⟨Nat.le_refl _, by omega, fun _ _ => rfl, ?_⟩
    rw [Nat.sub_self]
    show m ≤ m
    omega
  | succ d ih =>
    intro i m X hi hm m' X' h
    rw [pm_tl2] at h
    by_cases b : i < L
    · rw [if_pos b] at h
      have pp := sS_R (c := c) (L := L) (n := n) (t := t) 7 0 i m X (by omega) (by omega) hi
      cases y : pm_sS c L n t 7 0 i m X with
      | inl f => rw [y] at h; cases h
      | inr f =>
        obtain ⟨i1, m1, X1⟩ := f
        rw [y] at h pp
        obtain ⟨p1, p2, p3, p4, p5, p6⟩ := pp
        obtain ⟨q1, q2, q3, q4⟩ := ih i1 m1 X1 p1 (by omega) m' X' h
        refine ⟨by omega, q2, fun j hj => by rw [q3 j (by omega), p5 j hj], ?_⟩
        have w1 : pm_wx n t X' (m1 - m) 0 m m1 := wx_c _ _ _ _ (fun j a b => q3 j b) p6
        have w2 := wpg_app (m1 - m) (m' - m1) 0 m m1 m' (by omega) (by omega) w1 q4
        rw [show m' - m = (m1 - m) + (m' - m1) by omega]
        exact w2
    · rw [if_neg b] at h
      cases h
      refine ⟨Nat.le_refl _, by omega, fun _ _ => rfl, ?_⟩
      rw [Nat.sub_self]
      show m ≤ m
      omega
section We
variable {J : Nat → Nat → Int64} {r : Nat}
theorem l111 {c : Nat → Nat} {L n t : Nat} (hr : r = 15 ∨ r = 113) (n8 : n ≤ 8) (t5 : t ≤ 5) (hL : L ≤ 150) : ∀ d i m X y fu, L - i < d → i ≤ L → y ≤ i → 3 * m ≤ i → d < fu → ∀ (I : Nat → Nat → Int32), pm_CF c L i I → I 97 4 = nI m → I r 7 = nI n → I r 8 = nI t → (∀ q p, pm_tl2 c L n t d i m X = .inl (q, p) → ∃ I', f111_7 r fu (nI y) I J = some ((), I', J) ∧ pm_CX q p I') ∧ (∀ m' X', pm_tl2 c L n t d i m X = .inr (m', X') → ∃ I' i', f111_7 r fu (nI y) I J = some ((), I', J) ∧ pm_CF c L i' I' ∧ I' 97 4 = nI m' ∧ pm_kp m I I' ∧ ∀ j, m ≤ j → j < m' → pm_cE X' I' j) := by
  have i150 : ((150 : Int32)).toInt = 150 := by decide
  intro d
  induction d with
  | zero => intro i m X y fu hd; omega
  | succ d ih =>
    intro i m X y fu hd hi hy hm hf I h h97 hn ht
    obtain ⟨fu, rfl⟩ : ∃ k, fu = k + 1 := ⟨fu - 1, by omega⟩
    rw [pm_tl2, f111_7, i150, nI_toInt (by omega), v131f h]
    by_cases b : i < L
    · rw [if_pos b, if_pos (show ((y : Nat) : Int) < 150 by omega), decide_eq_true b, if_pos rfl, nI_1]
      have S := sS_c (c := c) (L := L) (n := n) (t := t) hr n8 t5 hL 7 0 i m X pm_FU 40 (by omega) (by omega) hi hm (by unfold pm_FU; omega) (by omega) I J h h97 hn ht
      have pp := sS_R (c := c) (L := L) (n := n) (t := t) 7 0 i m X (by omega) (by omega) hi
      obtain ⟨t1, t2⟩ := S
      dsimp only at t1 t2
      rw [nI_0] at t1 t2
      unfold f112
      cases y2 : pm_sS c L n t 7 0 i m X with
      | inl f =>
        obtain ⟨q, p⟩ := f
        obtain ⟨I1, e1, x1⟩ := t1 q p y2
        obtain ⟨fv, rfl⟩ : ∃ k, fu = k + 1 := ⟨fu - 1, by omega⟩
        have st : f111_7 r (fv + 1) (nI (y + 1)) I1 J = some ((), I1, J) := by
          rw [f111_7, v131x x1]
          simp only [Bool.false_eq_true, if_false, ite_self]
        rw [e1, zt_bind]
        dsimp only
        rw [st]
        refine ⟨fun q p z => ?_, fun m' X' z => (by cases z)⟩
        cases z
        exact ⟨I1, rfl, x1⟩
      | inr f =>
        obtain ⟨i1, m1, X1⟩ := f
        rw [y2] at pp
        obtain ⟨p1, p2, p3, p4, p5, p6⟩ := pp
        obtain ⟨I1, e1, f1, h1, k1, en1, r1⟩ := t2 i1 m1 X1 y2
        obtain ⟨u1, u2⟩ := ih i1 m1 X1 (y + 1) fu (by omega) p1 (by omega) (by omega) (by omega) I1 f1 h1 (by rw [r1]; exact hn) (by rw [r1]; exact ht)
        rw [e1, zt_bind]
        dsimp only
        refine ⟨u1, fun m' X' z => ?_⟩
        obtain ⟨I2, i2, e2, f2, h2, k2, en2⟩ := u2 m' X' z
        obtain ⟨_, _, q5, _⟩ := tl_R d i1 m1 X1 p1 (by omega) m' X' z
        refine ⟨I2, i2, e2, f2, h2, kp_t k1 (kp_m k2 (by omega)), fun j a b => ?_⟩
        by_cases jm : j < m1
        · have q := en1 j a jm
          obtain ⟨w1, w2, w3, w4⟩ := k2 j jm
          unfold pm_cE at q ⊢
          rw [q5 j jm, w1, w2, w3, w4]
          exact q
        · exact en2 j (by omega) b
    · rw [if_neg b, decide_eq_false b]
      simp only [Bool.false_eq_true, if_false, ite_self]
      refine ⟨fun q p z => (by cases z), fun m' X' z => ?_⟩
      cases z
      exact ⟨I, i, rfl, h, h97, kp_r, fun j a b => by omega⟩
/-- the reference, until the text is read -/
theorem l249 {c : Nat → Nat} {L n t : Nat} (n8 : n ≤ 8) (t5 : t ≤ 5) (hL : L ≤ 150) : ∀ d i m X fu, L - i < d → i ≤ L → 3 * m ≤ i → d + 1 < fu → ∀ (I : Nat → Nat → Int32) (a : Nat), pm_MF c L a I → i = pm_sk c (L - a) a → I 127 7 = nI 0 → I 127 31 = nI (3 * m) → I 127 18 = nI n → I 127 19 = nI t → (∀ q p, pm_tl2 c L n t d i m X = .inl (q, p) → ∃ I', f249_L fu 0 0 I J = some (nI q - 10, I', J) ∧ I' 127 8 = nI p ∧ pm_ag [141] [(127, 4), (127, 5), (127, 6), (127, 7), (127, 8), (127, 31)] I I') ∧ (∀ m' X', pm_tl2 c L n t d i m X = .inr (m', X') → ∃ I' fu', fu ≤ fu' + d + 1 ∧ f249_L fu 0 0 I J = (f218 141 150 142 150 (nI (3 * m')) I' J).bind (fun (ov21, I22, J23) => f249_L fu' 1 0 I22 J23) ∧ I' 127 8 = -1 ∧ I' 127 31 = nI (3 * m') ∧ (∀ q, q < 3 * m → I' 141 q = I 141 q) ∧ (∀ j, m ≤ j → j < m' → pm_mE X' I' j) ∧ pm_ag [141] [(127, 4), (127, 5), (127, 6), (127, 7), (127, 8), (127, 31)] I I') := by
  intro d
  induction d with
  | zero => intro i m X fu hd; omega
  | succ d ih =>
    intro i m X fu hd hi hm hf I a h ha h7 h31 hn ht
    obtain ⟨fu, rfl⟩ : ∃ k, fu = k + 2 := ⟨fu - 2, by omega⟩
    obtain ⟨I1, e1, m1⟩ := e225 (J := J) h ha
    have g1 := (fr_225 _ _ _ e1).1
    have c1 : I1 141 = I 141 := ag_cell g1 (by decide) (by intro f; simp)
    have f1 : ∀ f, f ≠ 4 → I1 127 f = I 127 f := fun f hf => g1 127 f (by decide) (by simp; omega)
    have sid : i = pm_sk c (L - i) i := by rw [ha]; exact (sk_id h.2.1).symm
    have G1 : pm_ag [141] [(127, 4), (127, 5), (127, 6), (127, 7), (127, 8), (127, 31)] I I1 := ag_mono g1 (by simp) (zt_subF rfl)
    rw [pm_tl2, f249_L, v224f h, if_pos rfl, e1, zt_bind]
    dsimp only
    by_cases b : i < L
    · rw [if_pos b, decide_eq_true b, if_pos rfl]
      have S := sS_m (c := c) (L := L) (n := n) (t := t) n8 t5 hL 7 0 i m X pm_FU 40 (by omega) (by omega) hi hm (by unfold pm_FU; omega) (by omega) I1 J i m1 sid (by rw [f1 7 (by decide)]; exact h7) (by rw [f1 31 (by decide)]; exact h31) (by rw [f1 18 (by decide)]; exact hn) (by rw [f1 19 (by decide)]; exact ht)
      have pp := sS_R (c := c) (L := L) (n := n) (t := t) 7 0 i m X (by omega) (by omega) hi
      obtain ⟨t1, t2⟩ := S
      dsimp only at t1 t2
      unfold f250
      cases y2 : pm_sS c L n t 7 0 i m X with
      | inl f =>
        obtain ⟨q, p⟩ := f
        obtain ⟨I2, e2, x2⟩ := t1 q p y2
        have g2 := (fr_g250 _ _ _ _ _ _ _ _ _ e2).1
        rw [e2, zt_bind]
        dsimp only
        refine ⟨fun q' p' z => ?_, fun m' X' z => (by cases z)⟩
        cases z
        refine ⟨pm_w I2 127 8 (I2 127 5), ?_, by rw [zt_ws]; exact x2.1, ag_w (ag_trans G1 g2 (by simp) (zt_subF rfl)) (by simp)⟩
        rw [f249_L, v224x x2, if_neg (by decide), e239x x2, zt_bind]
        dsimp only
        rw [if_neg (MX_n (MX_8 x2))]
      | inr f =>
        obtain ⟨i1, m1', X1⟩ := f
        rw [y2] at pp
        obtain ⟨p1, p2, p3, p4, p5, p6⟩ := pp
        obtain ⟨I2, a2, e2, mf2, ha2, s7, s31, sk, en2⟩ := t2 i1 m1' X1 y2
        have g2 := (fr_g250 _ _ _ _ _ _ _ _ _ e2).1
        have G2 : pm_ag [141] [(127, 4), (127, 5), (127, 6), (127, 7), (127, 8), (127, 31)] I I2 := ag_trans G1 g2 (by simp) (zt_subF rfl)
        have sk' : ∀ q, q < 3 * m → I2 141 q = I 141 q := fun q hq => by rw [sk q hq, c1]
        obtain ⟨u1, u2⟩ := ih i1 m1' X1 (fu + 1) (by omega) p1 (by omega) (by omega) I2 a2 mf2 ha2 s7 s31 (by rw [g2 127 18 (by decide) (by decide), f1 18 (by decide)]; exact hn) (by rw [g2 127 19 (by decide) (by decide), f1 19 (by decide)]; exact ht)
        rw [e2, zt_bind]
        dsimp only
        refine ⟨fun q p z => ?_, fun m' X' z => ?_⟩
        · obtain ⟨I3, e3, p3', G3⟩ := u1 q p z
          exact ⟨I3, e3, p3', ag_trans G2 G3 (by simp) (by simp)⟩
        · obtain ⟨I3, fu3, hf3, e3, p8, q31, qk, en3, G3⟩ := u2 m' X' z
          obtain ⟨_, _, q5, _⟩ := tl_R d i1 m1' X1 p1 (by omega) m' X' z
          refine ⟨I3, fu3, by omega, e3, p8, q31, fun q hq => by rw [qk q (by omega), sk' q hq], fun j a b => ?_, ag_trans G2 G3 (by simp) (by simp)⟩
          by_cases jm : j < m1'
          · have q := en2 j a jm
            unfold pm_mE at q ⊢
            rw [q5 j jm, qk _ (by omega), qk _ (by omega), qk _ (by omega)]
            exact q
          · exact en3 j (by omega) b
    · rw [if_neg b, decide_eq_false b, if_neg (by decide), e239f m1, zt_bind]
      dsimp only
      refine ⟨fun q p z => (by cases z), fun m' X' z => ?_⟩
      cases z
      refine ⟨pm_w I1 127 8 (-1), fu + 1, by omega, ?_, zt_ws, by rw [zt_w2 (by omega), f1 31 (by decide)]; exact h31, fun q hq => by rw [zt_wc (by decide), c1], fun j a b => by omega, ag_w G1 (by simp)⟩
      rw [if_pos (show pm_w I1 127 8 (-1) 127 5 = -1 by rw [zt_w2 (by omega)]; exact m1.2.2.2), zt_w2 (by omega), f1 31 (by decide), h31]
end We
