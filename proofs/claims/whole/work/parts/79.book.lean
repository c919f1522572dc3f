/-! THE BOOK: the reference's line -/
theorem sk_nb (c : Nat → Nat) : ∀ d i, pm_sk c d i < i + d → c (pm_sk c d i) ≠ 32
  | 0, i, h => by rw [pm_sk] at h; omega
  | d + 1, i, h => by
    rw [pm_sk] at h
    rw [pm_sk]
    by_cases q : c i = 32
    · rw [if_pos q] at h
      rw [if_pos q]
      exact sk_nb c d (i + 1) (by omega)
    · rw [if_neg q]
      exact q
theorem sk_st {c : Nat → Nat} {d i : Nat} (h : 0 < d → c i ≠ 32) : pm_sk c d i = i := by
  cases d with
  | zero => rfl
  | succ d => rw [pm_sk, if_neg (h (by omega))]
theorem sk_id {c : Nat → Nat} {L a : Nat} (ha : a ≤ L) : pm_sk c (L - pm_sk c (L - a) a) (pm_sk c (L - a) a) = pm_sk c (L - a) a := by
  refine sk_st (fun h => sk_nb c (L - a) a (by omega))
section Bu
variable {I : Nat → Nat → Int32} {J : Nat → Nat → Int64}
theorem MF_w {c : Nat → Nat} {L a b f : Nat} {x : Int32} (h : pm_MF c L a I) (hb : b ≠ 127) (hb2 : b ≠ 129) : pm_MF c L a (pm_w I b f x) := by
  unfold pm_MF pm_MT
  rw [zt_wc (Ne.symm hb), zt_wc (Ne.symm hb2)]
  exact h
/-- a line from its end of the told on -/
theorem b273 {c : Nat → Nat} {L a m v st j fu : Nat} {X Y : Nat → Nat} (h : pm_MF c L a I) (hj : j = pm_sk c (L - a) a) (hB : pm_NB m X Y I) (hv : v ≤ 499) (hst : st ≤ L) (hf : 1 < fu) : (m = 8 → ∃ I', f273_L fu 1 (nI m) (nI st) (nI v) (nI m) I J = some (nI 3 - 10, I', J) ∧ I' 127 8 = nI st ∧ I' 127 45 = I 127 45 ∧ I' 147 = I 147) ∧ (m ≠ 8 → (pm_nk c L 0 999 j ≠ 0 → ∃ I', f273_L fu 1 (nI m) (nI st) (nI v) (nI m) I J = some (nI (pm_nk c L 0 999 j) - 10, I', J) ∧ I' 127 8 = nI j ∧ I' 127 45 = I 127 45 ∧ I' 147 = I 147) ∧ (pm_nk c L 0 999 j = 0 → (¬ (pm_nxt c L j < L ∧ c (pm_nxt c L j) = 59) → ∃ I', f273_L fu 1 (nI m) (nI st) (nI v) (nI m) I J = some (nI 1 - 10, I', J) ∧ I' 127 8 = nI (pm_nxt c L j) ∧ I' 127 45 = I 127 45 ∧ I' 147 = I 147) ∧ ((pm_nxt c L j < L ∧ c (pm_nxt c L j) = 59) → ∃ I', f273_L fu 1 (nI m) (nI st) (nI v) (nI m) I J = f273_L (fu - 1) 0 (nI (m + 1)) 0 0 0 I' J ∧ pm_MF c L (pm_nxt c L j + 1) I' ∧ pm_NB (m + 1) (fun i => if i = m then v else X i) (fun i => if i = m then pm_nv c L j else Y i) I' ∧ I' 127 45 = I 127 45 ∧ I' 147 = I 147))) := by
  obtain ⟨fu, rfl⟩ : ∃ k, fu = k + 1 := ⟨fu - 1, by omega⟩
  have hm := hB.1
  have i8 : (nI m = 8) = (m = 8) := by rw [zt_lit 8, zt_eq (by omega) (by omega)]
  have hL := h.1.2.1
  have tail : ∀ (q p : Nat) (I1 : Nat → Nat → Int32) (y y2 y4 : Int32), pm_MX q p I1 → I1 127 45 = I 127 45 → I1 147 = I 147 → ∃ I', (if (v224 I1) = true then pm_gd (pm_in (2 * y2) 16) (pm_lt (pm_w I1 146 (2 * y2).toNatClampNeg y4) (fun I119 => pm_gd (pm_in ((2 * y2) + 1) 16) (pm_lt (pm_w I119 146 ((2 * y2) + 1).toNatClampNeg y) (fun I121 => f273_L fu 0 (y2 + 1) 0 0 0 I121 J)))) else (f239 y2 I1 J).bind (fun (ov122, I123, J124) => (if (I123 127 5) = (-1) then pm_lt (pm_w I123 127 45 y2) (fun I127 => (f218 146 16 147 16 (2 * y2) I127 J124).bind (fun (ov128, I129, J130) => some (ov122, I129, J130))) else some (ov122, I123, J124)))) = some (nI q - 10, I', J) ∧ I' 127 8 = nI p ∧ I' 127 45 = I 127 45 ∧ I' 147 = I 147 := by
    intro q p I1 y y2 y4 hx h45 h147
    refine ⟨pm_w I1 127 8 (I1 127 5), ?_, by rw [zt_ws]; exact hx.1, by rw [zt_w2 (by omega)]; exact h45, by rw [zt_wc (by omega)]; exact h147⟩
    rw [v224x hx, if_neg (by decide), e239x hx, zt_bind]
    dsimp only
    rw [if_neg (MX_n (MX_8 hx))]
  rw [f273_L, if_neg (show ¬ (nI m).toInt < (nI m).toInt by omega), v224f h, if_pos rfl]
  by_cases e8 : m = 8
  · rw [if_pos (show nI m = 8 by rw [i8]; exact e8)]
    obtain ⟨I1, e1, m1⟩ := MF_wrong (J := J) (k := 3) (p := st) h (by omega) hst
    have e1' : f232 3 (nI st) I J = some ((), I1, J) := e1
    have g1 := (fr_232 _ _ _ e1').1
    refine ⟨fun _ => ?_, fun q => absurd e8 q⟩
    rw [e1', zt_bind]
    dsimp only
    rw [e235x m1, zt_bind]
    dsimp only
    rw [e238x m1, zt_bind]
    dsimp only
    exact tail 3 st I1 0 (nI m) (nI v) m1 (g1 127 45 (by decide) (by decide)) (ag_cell g1 (by decide) (by intro f; simp))
  · rw [if_neg (show ¬ nI m = 8 by rw [i8]; exact e8)]
    refine ⟨fun q => absurd q e8, fun _ => ?_⟩
    obtain ⟨n1, n2⟩ := e235 (J := J) (lo := 0) (hi := 999) h hj (by omega) (by omega)
    refine ⟨fun z => ?_, fun z => ?_⟩
    · obtain ⟨I1, e1, m1⟩ := n2 z
      have e1' : f235 0 999 I J = some (0, I1, J) := e1
      have g1 := (fr_235 _ _ _ e1').1
      rw [e1', zt_bind]
      dsimp only
      rw [e238x m1, zt_bind]
      dsimp only
      exact tail _ j I1 0 (nI m) (nI v) m1 (g1 127 45 (by decide) (by decide)) (ag_cell g1 (by decide) (by intro f; simp))
    · obtain ⟨I1, e1, m1⟩ := n1 z
      have e1' : f235 0 999 I J = some (nI (pm_nv c L j), I1, J) := e1
      have g1 := (fr_235 _ _ _ e1').1
      rw [e1', zt_bind]
      dsimp only
      obtain ⟨s1, s2⟩ := e238 (J := J) (st := pm_nxt c L j) (s := 59) m1 rfl (by omega) (by omega)
      refine ⟨fun w => ?_, fun w => ?_⟩
      · obtain ⟨I2, e2, m2⟩ := s2 w
        have e2' : f238 59 I1 J = some ((), I2, J) := e2
        have g2 := (fr_238 _ _ _ e2').1
        rw [e2', zt_bind]
        dsimp only
        exact tail 1 (pm_nxt c L j) I2 _ (nI m) (nI v) m2 (by rw [g2 127 45 (by decide) (by decide), g1 127 45 (by decide) (by decide)]) (by rw [ag_cell g2 (by decide) (by intro f; simp), ag_cell g1 (by decide) (by intro f; simp)])
      · obtain ⟨I2, e2, m2⟩ := s1 w
        have e2' : f238 59 I1 J = some ((), I2, J) := e2
        have g2 := (fr_238 _ _ _ e2').1
        have c2 : I2 146 = I 146 := by rw [ag_cell g2 (by decide) (by intro f; simp), ag_cell g1 (by decide) (by intro f; simp)]
        rw [e2', zt_bind]
        dsimp only
        rw [v224f m2, if_pos rfl, zt_lit 2, pk_mul, nI_1, nI_1, zt_in (by omega) (by omega), zt_gd, zt_in (by omega) (by omega), pm_lt_eq, zt_gd, pm_lt_eq, nI_clamp (by omega), nI_clamp (by omega), Nat.add_sub_cancel]
        have yv := (nk_0 z).2.2
        refine ⟨_, rfl, MF_w (MF_w m2 (by decide) (by decide)) (by decide) (by decide), ⟨by omega, fun i hi => ?_⟩, ?_, ?_⟩
        · dsimp only
          by_cases im : i = m
          · subst im
            rw [if_pos rfl, if_pos rfl, zt_ws, zt_w2 (by omega), zt_ws]
            exact ⟨hv, yv, rfl, rfl⟩
          · rw [if_neg im, if_neg im, zt_w2 (by omega), zt_w2 (by omega), zt_w2 (by omega), zt_w2 (by omega), c2]
            exact hB.2 i (by omega)
        · rw [zt_wc (by omega), zt_wc (by omega), g2 127 45 (by decide) (by decide), g1 127 45 (by decide) (by decide)]
        · rw [zt_wc (by omega), zt_wc (by omega), ag_cell g2 (by decide) (by intro f; simp), ag_cell g1 (by decide) (by intro f; simp)]
/-- a line -/
theorem n273 {c : Nat → Nat} {L a m st fu : Nat} {X Y : Nat → Nat} {y3 y4 y5 : Int32} (h : pm_MF c L a I) (hs : st = pm_sk c (L - a) a) (hl : st < L) (hB : pm_NB m X Y I) (hf : 12 < fu) : (∀ q p, pm_bln c L X m st = .inl (q, p) → ∃ I', f273_L fu 0 (nI m) y3 y4 y5 I J = some (nI q - 10, I', J) ∧ I' 127 8 = nI p ∧ I' 127 45 = I 127 45 ∧ I' 147 = I 147) ∧ (∀ v y n, pm_bln c L X m st = .inr (v, y, n) → ∃ I' a' fu', fu ≤ fu' + 12 ∧ f273_L fu 0 (nI m) y3 y4 y5 I J = f273_L fu' 0 (nI (m + 1)) 0 0 0 I' J ∧ pm_MF c L a' I' ∧ n = pm_sk c (L - a') a' ∧ pm_NB (m + 1) (fun i => if i = m then v else X i) (fun i => if i = m then y else Y i) I' ∧ I' 127 45 = I 127 45 ∧ I' 147 = I 147) := by
  obtain ⟨fu, rfl⟩ : ∃ k, fu = k + 1 := ⟨fu - 1, by omega⟩
  have hm := hB.1
  have hL := h.1.2.1
  have sid : st = pm_sk c (L - st) st := by rw [hs]; exact (sk_id h.2.1).symm
  obtain ⟨I1, e1, m1⟩ := e225 (J := J) h hs
  have g1 := (fr_225 _ _ _ e1).1
  rw [f273_L, v224f h, if_pos rfl, e1, zt_bind]
  dsimp only
  rw [decide_eq_true hl, if_pos rfl, m1.2.2.1]
  obtain ⟨n1, n2⟩ := e235 (J := J) (lo := 0) (hi := 499) m1 sid (by omega) (by omega)
  unfold pm_bln
  by_cases z : pm_nk c L 0 499 st = 0
  · obtain ⟨I2, e2, m2⟩ := n1 z
    have e2' : f235 0 499 I1 J = some (nI (pm_nv c L st), I2, J) := e2
    have g2 := (fr_235 _ _ _ e2').1
    have c45 : I2 127 45 = I 127 45 := by rw [g2 127 45 (by decide) (by decide), g1 127 45 (by decide) (by decide)]
    have c147 : I2 147 = I 147 := by rw [ag_cell g2 (by decide) (by intro f; simp), ag_cell g1 (by decide) (by intro f; simp)]
    have B2 : pm_NB m X Y I2 := NB_ag hB (by rw [ag_cell g2 (by decide) (by intro f; simp), ag_cell g1 (by decide) (by intro f; simp)])
    have v9 := (nk_0 z).2.2
    rw [if_neg (show ¬ pm_nk c L 0 499 st ≠ 0 by omega), e2', zt_bind]
    dsimp only
    obtain ⟨t1, t2⟩ := l273 (J := J) (st := st) m2 B2 v9 (by omega) m 0 fu (by omega) (by omega)
    rw [nI_0] at t1 t2
    cases w : pm_tol X (pm_nv c L st) 0 m with
    | true =>
      rw [if_pos rfl]
      obtain ⟨I3, e3, a3, b3, d3⟩ := t1 w
      refine ⟨fun q p y => ?_, fun v y n y => (by cases y)⟩
      cases y
      exact ⟨I3, e3, a3, by rw [b3, c45], by rw [d3, c147]⟩
    | false =>
      rw [if_neg (show ¬ false = true by decide), t2 w]
      obtain ⟨b1, b2⟩ := b273 (J := J) (v := pm_nv c L st) (st := st) (j := pm_nxt c L st) (fu := fu - m) m2 rfl B2 v9 (by omega) (by omega)
      by_cases e8 : m = 8
      · obtain ⟨I3, e3, a3, b3, d3⟩ := b1 e8
        rw [if_pos e8]
        refine ⟨fun q p y => ?_, fun v y n y => (by cases y)⟩
        cases y
        exact ⟨I3, e3, a3, by rw [b3, c45], by rw [d3, c147]⟩
      · obtain ⟨b3, b4⟩ := b2 e8
        rw [if_neg e8]
        by_cases z2 : pm_nk c L 0 999 (pm_nxt c L st) = 0
        · obtain ⟨b5, b6⟩ := b4 z2
          rw [if_neg (show ¬ pm_nk c L 0 999 (pm_nxt c L st) ≠ 0 by omega)]
          by_cases s : pm_nxt c L (pm_nxt c L st) < L ∧ c (pm_nxt c L (pm_nxt c L st)) = 59
          · obtain ⟨I3, e3, m3, n3, f3, d3⟩ := b6 s
            rw [if_pos s]
            refine ⟨fun q p y => (by cases y), fun v y n y => ?_⟩
            cases y
            exact ⟨I3, _, fu - m - 1, by omega, e3, m3, rfl, n3, by rw [f3, c45], by rw [d3, c147]⟩
          · obtain ⟨I3, e3, a3, f3, d3⟩ := b5 s
            rw [if_neg s]
            refine ⟨fun q p y => ?_, fun v y n y => (by cases y)⟩
            cases y
            exact ⟨I3, e3, a3, by rw [f3, c45], by rw [d3, c147]⟩
        · obtain ⟨I3, e3, a3, f3, d3⟩ := b3 z2
          rw [if_pos z2]
          refine ⟨fun q p y => ?_, fun v y n y => (by cases y)⟩
          cases y
          exact ⟨I3, e3, a3, by rw [f3, c45], by rw [d3, c147]⟩
  · obtain ⟨I2, e2, m2⟩ := n2 z
    have e2' : f235 0 499 I1 J = some (0, I2, J) := e2
    have g2 := (fr_235 _ _ _ e2').1
    obtain ⟨fu, rfl⟩ : ∃ k, fu = k + 1 := ⟨fu - 1, by omega⟩
    obtain ⟨I3, e3, a3, b3, d3⟩ := x273 (J := J) (z := 1) (fu := fu) (y2 := nI m) (y3 := nI st) (y4 := 0) (y5 := 0) m2
    rw [if_pos z, e2', zt_bind]
    dsimp only
    refine ⟨fun q p y => ?_, fun v y n y => (by cases y)⟩
    cases y
    exact ⟨I3, e3, a3, by rw [b3, g2 127 45 (by decide) (by decide), g1 127 45 (by decide) (by decide)], by rw [d3, ag_cell g2 (by decide) (by intro f; simp), ag_cell g1 (by decide) (by intro f; simp)]⟩
/-- the book -/
theorem w273 {c : Nat → Nat} {L : Nat} : ∀ d i m a fu : Nat, ∀ (X Y : Nat → Nat) (I : Nat → Nat → Int32) (y3 y4 y5 : Int32), m + d = 9 → 12 * d < fu → i = pm_sk c (L - a) a → pm_MF c L a I → pm_NB m X Y I → (∀ q p, pm_bks c L d i m X Y = .inl (q, p) → ∃ I', f273_L fu 0 (nI m) y3 y4 y5 I J = some (nI q - 10, I', J) ∧ I' 127 8 = nI p ∧ I' 127 45 = I 127 45 ∧ I' 147 = I 147) ∧ (∀ m' X' Y', pm_bks c L d i m X Y = .inr (m', X', Y') → ∃ I', f273_L fu 0 (nI m) y3 y4 y5 I J = some (nI m', I', J) ∧ I' 127 8 = -1 ∧ pm_MB m' X' Y' I') := by
  intro d
  induction d with
  | zero =>
    intro i m a fu X Y I y3 y4 y5 hm hf hi h hB
    have := hB.1
    omega
  | succ d ih =>
    intro i m a fu X Y I y3 y4 y5 hm hf hi h hB
    have m8 := hB.1
    have hL := h.1.2.1
    rw [pm_bks]
    by_cases b : i < L
    · rw [if_pos b]
      obtain ⟨g1, g2⟩ := n273 (J := J) (fu := fu) (y3 := y3) (y4 := y4) (y5 := y5) h hi b hB (by omega)
      cases w : pm_bln c L X m i with
      | inl f =>
        obtain ⟨q, p⟩ := f
        refine ⟨fun q' p' z => ?_, fun m' X' Y' z => (by cases z)⟩
        cases z
        exact g1 q p w
      | inr t =>
        obtain ⟨v, y, n⟩ := t
        obtain ⟨I1, a1, fu1, hf1, e1, m1, hn, b1, c45, c147⟩ := g2 v y n w
        obtain ⟨r1, r2⟩ := ih n (m + 1) a1 fu1 _ _ I1 0 0 0 (by omega) (by omega) hn m1 b1
        rw [e1]
        refine ⟨fun q p z => ?_, r2⟩
        obtain ⟨I', a2, a3, a4, a5⟩ := r1 q p z
        exact ⟨I', a2, a3, by rw [a4, c45], by rw [a5, c147]⟩
    · rw [if_neg b]
      refine ⟨fun q p z => (by cases z), fun m' X' Y' z => ?_⟩
      cases z
      obtain ⟨fu, rfl⟩ : ∃ k, fu = k + 1 := ⟨fu - 1, by omega⟩
      obtain ⟨I1, e1, m1⟩ := e225 (J := J) h hi
      have g1 := (fr_225 _ _ _ e1).1
      have c1 : I1 146 = I 146 := ag_cell g1 (by decide) (by intro f; simp)
      refine ⟨va_up (pm_w (pm_w I1 127 8 (-1)) 127 45 (nI m)) 147 (pm_fil (I1 146) (I1 147) (2 * m)), ?_, ?_, ?_, fun j hj => ?_⟩
      · rw [f273_L, v224f h, if_pos rfl, e1, zt_bind]
        dsimp only
        rw [decide_eq_false b, if_neg (by decide), e239f m1, zt_bind]
        dsimp only
        rw [if_pos (show pm_w I1 127 8 (-1) 127 5 = -1 by rw [zt_w2 (by omega)]; exact m1.2.2.2), pm_lt_eq, zt_lit 2, pk_mul, e218 (by omega) (by omega) (by omega) (by omega), zt_bind, zt_wc (by omega), zt_wc (by omega), zt_wc (by omega), zt_wc (by omega)]
      · rw [va_up_ne _ _ (by omega), zt_w2 (by omega), zt_ws]
      · rw [va_up_ne _ _ (by omega), zt_ws]
      · rw [va_up_self, fil_in (by omega), fil_in (by omega), c1]
        exact ⟨(hB.2 j hj).2.2.1, (hB.2 j hj).2.2.2⟩
end Bu
