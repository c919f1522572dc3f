/-! WORK'S TEXT: the reference reads steps -/
def pm_mE (X : Nat → Nat × Nat × Nat × Nat) (I : Nat → Nat → Int32) (j : Nat) : Prop := I 141 (3 * j) = nI (X j).1 ∧ I 141 (3 * j + 1) = nI (if (X j).1 = 8 then (X j).2.2.1 else (X j).2.1) ∧ I 141 (3 * j + 2) = nI (if (X j).1 = 8 then 3 * (X j).2.2.2 else (X j).2.2.1)
def pm_wO (c : Nat → Nat) (L m o : Nat) (u : Nat → Int32) (J : Nat → Nat → Int64) (res : (Nat × Nat) ⊕ (Nat × Nat × (Nat → Nat × Nat × Nat × Nat))) (out : Option (Unit × (Nat → Nat → Int32) × (Nat → Nat → Int64))) : Prop := (∀ q p, res = .inl (q, p) → ∃ I', out = some ((), I', J) ∧ pm_MX q p I') ∧ (∀ i' m' X', res = .inr (i', m', X') → ∃ I' a', out = some ((), I', J) ∧ pm_MF c L a' I' ∧ i' = pm_sk c (L - a') a' ∧ I' 127 7 = nI o ∧ I' 127 31 = nI (3 * m') ∧ (∀ q, q < 3 * m → I' 141 q = u q) ∧ (∀ j, m ≤ j → j < m' → pm_mE X' I' j))
def pm_wM (n t : Nat) (c : Nat → Nat) (L i m o : Nat) (res : (Nat × Nat) ⊕ (Nat × Nat × (Nat → Nat × Nat × Nat × Nat))) (f : (Nat → Nat → Int32) → (Nat → Nat → Int64) → Option (Unit × (Nat → Nat → Int32) × (Nat → Nat → Int64))) : Prop := ∀ I J a, pm_MF c L a I → i = pm_sk c (L - a) a → I 127 7 = nI o → I 127 31 = nI (3 * m) → I 127 18 = nI n → I 127 19 = nI t → pm_wO c L m o (I 141) J res (f I J)
section Wc
variable {I : Nat → Nat → Int32} {J : Nat → Nat → Int64}
theorem wO_u {c : Nat → Nat} {L m o : Nat} {u v : Nat → Int32} {res : (Nat × Nat) ⊕ (Nat × Nat × (Nat → Nat × Nat × Nat × Nat))} {out : Option (Unit × (Nat → Nat → Int32) × (Nat → Nat → Int64))} (h : pm_wO c L m o u J res out) (e : ∀ q, q < 3 * m → u q = v q) : pm_wO c L m o v J res out := by
  refine ⟨h.1, fun i' m' X' z => ?_⟩
  obtain ⟨I', a', p1, p2, p3, p4, p5, p6, p7⟩ := h.2 i' m' X' z
  exact ⟨I', a', p1, p2, p3, p4, p5, fun q hq => by rw [p6 q hq, e q hq], p7⟩
theorem wO_x {c : Nat → Nat} {L m o q p : Nat} {u : Nat → Int32} {out : Option (Unit × (Nat → Nat → Int32) × (Nat → Nat → Int64))} (h : ∃ I', out = some ((), I', J) ∧ pm_MX q p I') : pm_wO c L m o u J (.inl (q, p)) out := by
  refine ⟨fun q' p' z => ?_, fun i' m' X' z => (by cases z)⟩
  cases z
  exact h
theorem e251x {q p : Nat} {x y z : Int32} (h : pm_MX q p I) : f251 x y z I J = some ((), I, J) := by
  unfold f251
  rw [v224x h, if_neg (by decide)]
theorem e251 {c : Nat → Nat} {L a m : Nat} {x y z : Int32} (h : pm_MF c L a I) (h31 : I 127 31 = nI (3 * m)) (hm : 3 * m + 2 < 150) : ∃ I', f251 x y z I J = some ((), I', J) ∧ pm_MF c L a I' ∧ I' 127 31 = nI (3 * (m + 1)) ∧ I' 141 (3 * m) = x ∧ I' 141 (3 * m + 1) = y ∧ I' 141 (3 * m + 2) = z ∧ (∀ q, q < 3 * m → I' 141 q = I 141 q) ∧ pm_ag [141] [(127, 31)] I I' := by
  have j1 : nI (3 * m) + 1 = nI (3 * m + 1) := nI_1 _
  have j2 : nI (3 * m) + 2 = nI (3 * m + 2) := nI_add _ 2
  have j3 : nI (3 * m) + 3 = nI (3 * (m + 1)) := nI_add _ 3
  have e : f251 x y z I J = some ((), pm_w (pm_w (pm_w (pm_w I 141 (3 * m) x) 141 (3 * m + 1) y) 141 (3 * m + 2) z) 127 31 (nI (3 * (m + 1))), J) := by
    unfold f251
    rw [v224f h, if_pos rfl]
    simp (disch := omega) only [h31, j1, j2, j3, zt_in, zt_gd, pm_lt, zt_wc, nI_clamp]
  refine ⟨_, e, MF_g (MF_w (MF_w (MF_w h (by decide) (by decide)) (by decide) (by decide)) (by decide) (by decide)) (by omega), zt_ws, ?_, ?_, ?_, fun q hq => ?_, ag_w (ag_w (ag_w (ag_w ag_refl (by simp)) (by simp)) (by simp)) (by simp)⟩
  · rw [zt_wc (by decide), zt_w2 (by omega), zt_w2 (by omega), zt_ws]
  · rw [zt_wc (by decide), zt_w2 (by omega), zt_ws]
  · rw [zt_wc (by decide), zt_ws]
  · rw [zt_wc (by decide), zt_w2 (by omega), zt_w2 (by omega), zt_w2 (by omega)]
/-- a step is told, and its sign behind -/
theorem t251 {c : Nat → Nat} {L a j k x y m o : Nat} {X : Nat → Nat × Nat × Nat × Nat} (h : pm_MF c L a I) (hj : j = pm_sk c (L - a) a) (h7 : I 127 7 = nI o) (h31 : I 127 31 = nI (3 * m)) (hm : 3 * m + 2 < 150) (hk : k ≠ 8) : pm_wO c L m o (I 141) J (pm_smi c L j (m + 1) (pm_xu X m (k, x, y, m + 1))) ((f251 (nI k) (nI x) (nI y) I J).bind (fun (ov27, I28, J29) => (f238 59 I28 J29).bind (fun (ov31, I32, J33) => some ((), I32, J33)))) := by
  obtain ⟨I1, e1, m1, p31, q0, q1, q2, qo, g1⟩ := e251 (J := J) (x := nI k) (y := nI x) (z := nI y) h h31 hm
  obtain ⟨s1, s2⟩ := e238 (J := J) (st := j) (s := 59) m1 hj (by omega) (by omega)
  rw [e1, zt_bind]
  dsimp only
  unfold pm_smi
  by_cases s : j < L ∧ c j = 59
  · obtain ⟨I2, e2, m2⟩ := s1 s
    have e2' : f238 59 I1 J = some ((), I2, J) := e2
    have g2 := (fr_238 _ _ _ e2').1
    have c2 : I2 141 = I1 141 := ag_cell g2 (by decide) (by intro f; simp)
    rw [if_pos s, e2', zt_bind]
    refine ⟨fun q p z => (by cases z), fun i' m' X' z => ?_⟩
    cases z
    refine ⟨I2, j + 1, rfl, m2, rfl, ?_, ?_, fun q hq => by rw [c2, qo q hq], fun i h1 h2 => ?_⟩
    · rw [g2 127 7 (by decide) (by decide), g1 127 7 (by decide) (by decide)]; exact h7
    · rw [g2 127 31 (by decide) (by decide)]; exact p31
    · have im : i = m := by omega
      subst im
      unfold pm_mE
      rw [c2, xu_s, q0, q1, q2]
      dsimp only
      rw [if_neg hk, if_neg hk]
      exact ⟨rfl, rfl, rfl⟩
  · obtain ⟨I2, e2, x2⟩ := s2 s
    have e2' : f238 59 I1 J = some ((), I2, J) := e2
    rw [if_neg s, e2', zt_bind]
    exact wO_x ⟨I2, rfl, x2⟩
theorem t251x {q p : Nat} {x y z : Int32} (h : pm_MX q p I) : ∃ I', (f251 x y z I J).bind (fun (ov27, I28, J29) => (f238 59 I28 J29).bind (fun (ov31, I32, J33) => some ((), I32, J33))) = some ((), I', J) ∧ pm_MX q p I' := by
  refine ⟨I, ?_, h⟩
  rw [e251x h, zt_bind]
  dsimp only
  rw [e238x h, zt_bind]
theorem x250_1 {q p fu dep : Nat} {y : Int32} (h : pm_MX q p I) : ∃ I', g250 (fu + 1) (dep + 1) 1 y I J = some ((), I', J) ∧ pm_MX q p I' := by
  refine ⟨_, ?_, MX_7 (x := I 127 7 - 1) h⟩
  rw [g250, v224x h, if_neg (by decide), e238x h, zt_bind]
  dsimp only
  rw [pm_lt_eq, v224x (MX_7 h), if_neg (by decide), e238x (MX_7 h), zt_bind]
theorem stI_w {c : Nat → Nat} {L i : Nat} : (pm_stI c L i = 0 → pm_wb c L i 32 = true) ∧ (pm_stI c L i = 1 → pm_wb c L i 34 = true) ∧ (pm_stI c L i = 2 → pm_wb c L i 36 = true) ∧ (pm_stI c L i = 3 → pm_wb c L i 38 = true) ∧ (pm_stI c L i = 4 → pm_wb c L i 40 = true) ∧ (pm_stI c L i = 5 → pm_wb c L i 42 = true) ∧ (pm_stI c L i = 6 → pm_wb c L i 44 = true) ∧ (pm_stI c L i = 7 → pm_wb c L i 30 = true) ∧ (pm_stI c L i = 8 → pm_wb c L i 46 = true) ∧ (pm_stI c L i = 9 → pm_wb c L i 32 = false ∧ pm_wb c L i 34 = false ∧ pm_wb c L i 36 = false ∧ pm_wb c L i 38 = false ∧ pm_wb c L i 40 = false ∧ pm_wb c L i 42 = false ∧ pm_wb c L i 44 = false ∧ pm_wb c L i 30 = false ∧ pm_wb c L i 46 = false) := by
  unfold pm_stI
  simp only [pm_fst]
  cases pm_wb c L i 32 <;> cases pm_wb c L i 34 <;> cases pm_wb c L i 36 <;> cases pm_wb c L i 38 <;> cases pm_wb c L i 40 <;> cases pm_wb c L i 42 <;> cases pm_wb c L i 44 <;> cases pm_wb c L i 30 <;> cases pm_wb c L i 46 <;> simp
theorem e252 {c : Nat → Nat} {L a j n : Nat} (h : pm_MF c L a I) (hj : j = pm_sk c (L - a) a) (hn : I 127 18 = nI n) (n8 : n ≤ 8) : (pm_nkm c L n j = 0 → ∃ I', f252 I J = some (nI (pm_nv c L j), I', J) ∧ pm_MF c L (pm_stp c L j) I' ∧ pm_ag [] [(127, 4), (127, 5), (127, 6)] I I') ∧ (pm_nkm c L n j ≠ 0 → ∃ I', f252 I J = some (0, I', J) ∧ pm_MX (pm_nkm c L n j) j I') := by
  obtain ⟨a1, a2⟩ := e235m (J := J) (n := n) h hj n8
  unfold f252
  rw [hn]
  refine ⟨fun z => ?_, fun z => ?_⟩
  · obtain ⟨I1, e1, m1⟩ := a1 z
    have g1 := (fr_235 _ _ _ e1).1
    rw [e1, zt_bind]
    exact ⟨I1, rfl, m1, g1⟩
  · obtain ⟨I1, e1, x1⟩ := a2 z
    rw [e1, zt_bind]
    exact ⟨I1, rfl, x1⟩
theorem st_m {c : Nat → Nat} {L n t : Nat} {H : Nat → Nat → Nat → (Nat → Nat × Nat × Nat × Nat) → (Nat × Nat) ⊕ (Nat × Nat × (Nat → Nat × Nat × Nat × Nat))} {o i m : Nat} {X : Nat → Nat × Nat × Nat × Nat} (n8 : n ≤ 8) (t5 : t ≤ 5) (hL : L ≤ 150) (ho : o ≤ 6) (hi : i ≤ L) (hm : 3 * m ≤ i) {fu dep : Nat} (hf : 160 * (7 - o) ≤ fu) (hd : 2 * (7 - o) ≤ dep) (hH : ∀ i m X b fu dep, o < 6 → i ≤ L → 3 * (m + 1) ≤ i → 160 * (6 - o) + (L - i) + 3 ≤ fu → 2 * (6 - o) + 1 ≤ dep → ∀ (I : Nat → Nat → Int32) (J : Nat → Nat → Int64) (a : Nat), pm_MF c L a I → i = pm_sk c (L - a) a → I 127 7 = nI (o + 1) → I 127 31 = nI (3 * (m + 1)) → I 127 18 = nI n → I 127 19 = nI t → I 141 (3 * m) = nI 8 → I 141 (3 * m + 1) = nI b → pm_wO c L m o (I 141) J (pm_sh c L m b (H (o + 1) i (m + 1) X)) (g250 fu dep 1 (nI (3 * m)) I J)) : pm_wM n t c L i m o (pm_stR c L n t H o i m X) (fun I J => g250 fu dep 0 0 I J) := by
  have sl := sI_le c L i
  obtain ⟨fu, rfl⟩ : ∃ k, fu = k + 1 := ⟨fu - 1, by omega⟩
  obtain ⟨dep, rfl⟩ : ∃ k, dep = k + 1 := ⟨dep - 1, by omega⟩
  intro I J a h ha h7 h31 hn ht
  obtain ⟨I2, e2, m2⟩ := e229 (J := J) h ha
  have g2 := (fr_229 _ _ _ e2).1
  have c2 : I2 141 = I 141 := ag_cell g2 (by decide) (by intro f; simp)
  have f2 : ∀ f, f ≠ 4 → I2 127 f = I 127 f := fun f hf => g2 127 f (by decide) (by simp; omega)
  have w32 : ∀ I J, f231 32 I J = some (nI (pm_wN (pm_tc (32 + 2)) 0 (pm_tl (32 + 2))), I, J) := fun I J => f231_t 16 (by decide) (by decide) (by decide) 32 rfl
  have p32 := propext (wv_t (c := c) hi 16 (by decide) (by decide) (by decide) 32 rfl)
  have w30 : ∀ I J, f231 30 I J = some (nI (pm_wN (pm_tc (30 + 2)) 0 (pm_tl (30 + 2))), I, J) := fun I J => f231_t 15 (by decide) (by decide) (by decide) 30 rfl
  have p30 := propext (wv_t (c := c) hi 15 (by decide) (by decide) (by decide) 30 rfl)
  have w34 : ∀ I J, f231 34 I J = some (nI (pm_wN (pm_tc (34 + 2)) 0 (pm_tl (34 + 2))), I, J) := fun I J => f231_t 17 (by decide) (by decide) (by decide) 34 rfl
  have p34 := propext (wv_t (c := c) hi 17 (by decide) (by decide) (by decide) 34 rfl)
  have w36 : ∀ I J, f231 36 I J = some (nI (pm_wN (pm_tc (36 + 2)) 0 (pm_tl (36 + 2))), I, J) := fun I J => f231_t 18 (by decide) (by decide) (by decide) 36 rfl
  have p36 := propext (wv_t (c := c) hi 18 (by decide) (by decide) (by decide) 36 rfl)
  have w38 : ∀ I J, f231 38 I J = some (nI (pm_wN (pm_tc (38 + 2)) 0 (pm_tl (38 + 2))), I, J) := fun I J => f231_t 19 (by decide) (by decide) (by decide) 38 rfl
  have p38 := propext (wv_t (c := c) hi 19 (by decide) (by decide) (by decide) 38 rfl)
  have w40 : ∀ I J, f231 40 I J = some (nI (pm_wN (pm_tc (40 + 2)) 0 (pm_tl (40 + 2))), I, J) := fun I J => f231_t 20 (by decide) (by decide) (by decide) 40 rfl
  have p40 := propext (wv_t (c := c) hi 20 (by decide) (by decide) (by decide) 40 rfl)
  have w42 : ∀ I J, f231 42 I J = some (nI (pm_wN (pm_tc (42 + 2)) 0 (pm_tl (42 + 2))), I, J) := fun I J => f231_t 21 (by decide) (by decide) (by decide) 42 rfl
  have p42 := propext (wv_t (c := c) hi 21 (by decide) (by decide) (by decide) 42 rfl)
  have w44 : ∀ I J, f231 44 I J = some (nI (pm_wN (pm_tc (44 + 2)) 0 (pm_tl (44 + 2))), I, J) := fun I J => f231_t 22 (by decide) (by decide) (by decide) 44 rfl
  have p44 := propext (wv_t (c := c) hi 22 (by decide) (by decide) (by decide) 44 rfl)
  have w46 : ∀ I J, f231 46 I J = some (nI (pm_wN (pm_tc (46 + 2)) 0 (pm_tl (46 + 2))), I, J) := fun I J => f231_t 23 (by decide) (by decide) (by decide) 46 rfl
  have p46 := propext (wv_t (c := c) hi 23 (by decide) (by decide) (by decide) 46 rfl)
  dsimp only
  rw [g250, e2, zt_bind]
  dsimp only
  by_cases c9 : pm_stI c L i = 9
  · obtain ⟨y32, y34, y36, y38, y40, y42, y44, y30, y46⟩ := stI_w.2.2.2.2.2.2.2.2.2 c9
    obtain ⟨I3, e3, x3⟩ := MF_wrong (J := J) (k := 1) (p := i) m2 (by omega) hi
    have e3' : f232 1 (nI i) I2 J = some ((), I3, J) := e3
    unfold pm_stR
    rw [if_pos c9]
    simp only [zt_bind, Bool.false_eq_true, if_true, if_false, w32, w30, w34, w36, w38, w40, w42, w44, w46, p32, p30, p34, p36, p38, p40, p42, p44, p46, y32, y34, y36, y38, y40, y42, y44, y30, y46, m2.2.2.1, e3', e238x x3]
    exact wO_x ⟨I3, rfl, x3⟩
  obtain ⟨iL, k3, st3⟩ := sI_l hi c9
  have sb := stp_b (c := c) hi
  have sn := stp_nxt (c := c) (L := L) (i := i)
  obtain ⟨nb1, nb2⟩ := nxt_g (c := c) iL
  by_cases c8 : pm_stI c L i = 8
  · have y46 := stI_w.2.2.2.2.2.2.2.2.1 c8
    have y32 : pm_wb c L i 32 = false := wb_n y46 (by decide)
    have y30 : pm_wb c L i 30 = false := wb_n y46 (by decide)
    have y34 : pm_wb c L i 34 = false := wb_n y46 (by decide)
    have y36 : pm_wb c L i 36 = false := wb_n y46 (by decide)
    have y38 : pm_wb c L i 38 = false := wb_n y46 (by decide)
    have y40 : pm_wb c L i 40 = false := wb_n y46 (by decide)
    have y42 : pm_wb c L i 42 = false := wb_n y46 (by decide)
    have y44 : pm_wb c L i 44 = false := wb_n y46 (by decide)
    simp only [zt_bind, Bool.false_eq_true, if_true, if_false, w32, w30, w34, w36, w38, w40, w42, w44, w46, p32, p30, p34, p36, p38, p40, p42, p44, p46, y32, y30, y34, y36, y38, y40, y42, y44, y46]
    unfold pm_stR
    rw [if_neg c9, if_pos c8]
    obtain ⟨fu, rfl⟩ : ∃ k, fu = k + 1 := ⟨fu - 1, by omega⟩
    have xx : ∀ (q p : Nat) (I4 : Nat → Nat → Int32) (v : Int32), pm_MX q p I4 → ∃ I', (f238 91 I4 J).bind (fun (ov292, I293, J294) => (f251 8 v 0 I293 J294).bind (fun (ov296, I297, J298) => g250 (fu + 1) (dep + 1) 1 (I293 127 31) I297 J298)) = some ((), I', J) ∧ pm_MX q p I' := by
      intro q p I4 v x4
      obtain ⟨I5, e5, x5⟩ := x250_1 (J := J) (fu := fu) (dep := dep) (y := I4 127 31) x4
      refine ⟨I5, ?_, x5⟩
      rw [e238x x4, zt_bind]
      dsimp only
      rw [e251x x4, zt_bind]
      exact e5
    by_cases o6 : o = 6
    · obtain ⟨I3, e3, x3⟩ := e245b (J := J) (x := 5) m2 (by rw [f2 7 (by decide), h7, o6])
      obtain ⟨I4, e4, x4⟩ := xx 3 i I3 0 x3
      rw [if_pos o6, e3, zt_bind]
      dsimp only
      rw [e235x x3, zt_bind]
      exact wO_x ⟨I4, e4, x4⟩
    rw [if_neg o6]
    have sk5 : pm_stp c L i = i + 5 := (wq_k hi (wb_q.mp y46) (by decide)).2
    obtain ⟨I3, e3, m3, o3, g3⟩ := e245 (J := J) (x := 5) m2 (by rw [f2 7 (by decide)]; exact h7) (by omega) (by omega)
    have e3' : f245 5 I2 J = some ((), I3, J) := e3
    rw [← sk5] at m3
    rw [e3', zt_bind]
    dsimp only
    obtain ⟨a1, a2⟩ := i235 (J := J) (st := pm_nxt c L i) (lo := 0) (hi := 60) m3 rfl (by omega) (by omega)
    by_cases z : pm_nk c L 0 60 (pm_nxt c L i) = 0
    · obtain ⟨I4, e4, m4⟩ := a1 z
      have e4' : f235 0 60 I3 J = some (nI (pm_nv c L (pm_nxt c L i)), I4, J) := e4
      have g4 := g235 e4'
      rw [if_neg (show ¬ pm_nk c L 0 60 (pm_nxt c L i) ≠ 0 by omega), e4', zt_bind]
      dsimp only
      obtain ⟨s1, s2⟩ := e238 (J := J) (st := pm_nxt c L (pm_nxt c L i)) (s := 91) m4 rfl (by omega) (by omega)
      by_cases s : pm_nxt c L (pm_nxt c L i) < L ∧ c (pm_nxt c L (pm_nxt c L i)) = 91
      · obtain ⟨I5, e5, m5⟩ := s1 s
        have e5' : f238 91 I4 J = some ((), I5, J) := e5
        have g5 := (fr_238 _ _ _ e5').1
        have f5 : ∀ f, f = 18 ∨ f = 19 ∨ f = 31 → I5 127 f = I 127 f := fun f hf => by
          rw [g5 127 f (by decide) (by simp; omega), g4 127 f (by decide) (by simp; omega), g3 127 f (by decide) (by simp; omega), f2 f (by omega)]
        have c5 : I5 141 = I 141 := by rw [ag_cell g5 (by decide) (by intro f; simp), ag_cell g4 (by decide) (by intro f; simp), ag_cell g3 (by decide) (by intro f; simp), c2]
        have s7 : I5 127 7 = nI (o + 1) := by rw [g5 127 7 (by decide) (by decide), g4 127 7 (by decide) (by decide)]; exact o3
        obtain ⟨I6, e6, m6, p31, q0, q1, q2, qo, g6⟩ := e251 (J := J) (m := m) (x := 8) (y := nI (pm_nv c L (pm_nxt c L i))) (z := 0) m5 (by rw [f5 31 (by omega)]; exact h31) (by omega)
        have nd := nx1_b (c := c) s.1
        have ge2 := (nxt_g (c := c) (kd_2 (nk_0 z).1).1).1
        rw [if_pos s, e5', zt_bind]
        dsimp only
        rw [e6, zt_bind, f5 31 (by omega), h31]
        dsimp only
        have q := hH (pm_nx1 c L (pm_nxt c L (pm_nxt c L i))) m (pm_xu X m (8, 0, pm_nv c L (pm_nxt c L i), 0)) (pm_nv c L (pm_nxt c L i)) (fu + 1) (dep + 1) (by omega) nd.2 (by omega) (by omega) (by omega) I6 J _ m6 rfl (by rw [g6 127 7 (by decide) (by decide)]; exact s7) p31 (by rw [g6 127 18 (by decide) (by decide), f5 18 (by omega)]; exact hn) (by rw [g6 127 19 (by decide) (by decide), f5 19 (by omega)]; exact ht) q0 q1
        exact wO_u q (fun x hx => by rw [qo x hx, c5])
      · obtain ⟨I5, e5, x5⟩ := s2 s
        have e5' : f238 91 I4 J = some ((), I5, J) := e5
        rw [if_neg s, e5', zt_bind]
        dsimp only
        rw [e251x x5, zt_bind]
        obtain ⟨I6, e6, x6⟩ := x250_1 (J := J) (fu := fu) (dep := dep) (y := I5 127 31) x5
        exact wO_x ⟨I6, e6, x6⟩
    · obtain ⟨I4, e4, x4⟩ := a2 z
      have e4' : f235 0 60 I3 J = some (0, I4, J) := e4
      obtain ⟨I5, e5, x5⟩ := xx _ _ I4 0 x4
      rw [if_pos z, e4', zt_bind]
      exact wO_x ⟨I5, e5, x5⟩
  rw [stR_p c9 c8]
  obtain ⟨I3, e3, m3⟩ := e233 (J := J) m2 k3
  have g3 := (fr_233 _ _ _ e3).1
  have c3 : I3 141 = I 141 := by rw [ag_cell g3 (by decide) (by intro f; simp), c2]
  have f3 : ∀ f, f ≠ 4 → I3 127 f = I 127 f := fun f hf => by rw [g3 127 f (by decide) (by simp; omega), f2 f hf]
  have s7 : I3 127 7 = nI o := by rw [f3 7 (by decide)]; exact h7
  have s31 : I3 127 31 = nI (3 * m) := by rw [f3 31 (by decide)]; exact h31
  obtain ⟨n1, n2⟩ := e252 (J := J) (j := pm_nxt c L i) m3 rfl (by rw [f3 18 (by decide)]; exact hn) n8
  have one : ∀ k : Nat, k ≠ 8 → (k = 0 ∨ k = 7) → pm_wO c L m o (I 141) J (pm_s6 c L k m X (pm_s5 c L n t k (pm_nxt c L i))) ((f251 (nI k) 0 0 I3 J).bind (fun (ov27, I28, J29) => (f238 59 I28 J29).bind (fun (ov31, I32, J33) => some ((), I32, J33)))) := by
    intro k hk h07
    unfold pm_s5
    rw [if_pos h07]
    have q := t251 (J := J) (X := X) (k := k) (x := 0) (y := 0) (j := pm_nxt c L i) m3 rfl s7 s31 (by omega) hk
    exact wO_u q (fun x _ => by rw [c3])
  have two : ∀ k : Nat, k ≠ 8 → 3 ≤ k → k ≤ 6 → pm_wO c L m o (I 141) J (pm_s6 c L k m X (pm_s5 c L n t k (pm_nxt c L i))) ((f252 I3 J).bind (fun (ov110, I111, J112) => (f251 (nI k) ov110 0 I111 J112).bind (fun (ov27, I28, J29) => (f238 59 I28 J29).bind (fun (ov31, I32, J33) => some ((), I32, J33))))) := by
    intro k hk h3 h6
    unfold pm_s5
    rw [if_neg (by omega)]
    by_cases z : pm_nkm c L n (pm_nxt c L i) = 0
    · obtain ⟨I4, e4, m4, g4⟩ := n1 z
      rw [if_neg (show ¬ pm_nkm c L n (pm_nxt c L i) ≠ 0 by omega), if_neg (show ¬ k = 1 by omega), if_neg (show ¬ k = 2 by omega), e4, zt_bind]
      have q := t251 (J := J) (X := X) (k := k) (x := pm_nv c L (pm_nxt c L i)) (y := 0) (j := pm_nxt c L (pm_nxt c L i)) m4 rfl (by rw [g4 127 7 (by decide) (by decide)]; exact s7) (by rw [g4 127 31 (by decide) (by decide)]; exact s31) (by omega) hk
      exact wO_u q (fun x _ => by rw [ag_cell g4 (by decide) (by intro f; simp), c3])
    · obtain ⟨I4, e4, x4⟩ := n2 z
      rw [if_pos z, e4, zt_bind]
      exact wO_x (t251x x4)
  have three : ∀ k : Nat, (k = 1 ∨ k = 2) → pm_wO c L m o (I 141) J (pm_s6 c L k m X (pm_s5 c L n t k (pm_nxt c L i))) ((f252 I3 J).bind (fun (ov391, I392, J393) => (f235 (if k = 1 then 0 else 1) (if k = 1 then (I392 127 19) - 1 else 24) I392 J393).bind (fun (ov395, I396, J397) => (f251 (nI k) ov391 ov395 I396 J397).bind (fun (ov399, I400, J401) => (f238 59 I400 J401).bind (fun (ov403, I404, J405) => some ((), I404, J405)))))) := by
    intro k h12
    unfold pm_s5
    rw [if_neg (by omega)]
    by_cases z : pm_nkm c L n (pm_nxt c L i) = 0
    · obtain ⟨I4, e4, m4, g4⟩ := n1 z
      have t4 : I4 127 19 = nI t := by rw [g4 127 19 (by decide) (by decide), f3 19 (by decide)]; exact ht
      rw [if_neg (show ¬ pm_nkm c L n (pm_nxt c L i) ≠ 0 by omega), e4, zt_bind]
      dsimp only
      rw [t4]
      have fin : ∀ (I5 : Nat → Nat → Int32) (k : Nat), k ≠ 8 → pm_MF c L (pm_stp c L (pm_nxt c L (pm_nxt c L i))) I5 → pm_ag [] [(127, 4), (127, 5), (127, 6)] I4 I5 → pm_wO c L m o (I 141) J (pm_smi c L (pm_nxt c L (pm_nxt c L (pm_nxt c L i))) (m + 1) (pm_xu X m (k, pm_nv c L (pm_nxt c L i), pm_nv c L (pm_nxt c L (pm_nxt c L i)), m + 1))) ((f251 (nI k) (nI (pm_nv c L (pm_nxt c L i))) (nI (pm_nv c L (pm_nxt c L (pm_nxt c L i)))) I5 J).bind (fun (ov399, I400, J401) => (f238 59 I400 J401).bind (fun (ov403, I404, J405) => some ((), I404, J405)))) := by
        intro I5 k hk m5 g5
        have q := t251 (J := J) (X := X) (k := k) (x := pm_nv c L (pm_nxt c L i)) (y := pm_nv c L (pm_nxt c L (pm_nxt c L i))) (j := pm_nxt c L (pm_nxt c L (pm_nxt c L i))) m5 rfl (by rw [g5 127 7 (by decide) (by decide), g4 127 7 (by decide) (by decide)]; exact s7) (by rw [g5 127 31 (by decide) (by decide), g4 127 31 (by decide) (by decide)]; exact s31) (by omega) hk
        exact wO_u q (fun x _ => by rw [ag_cell g5 (by decide) (by intro f; simp), ag_cell g4 (by decide) (by intro f; simp), c3])
      by_cases k1 : k = 1
      · rw [if_pos k1, if_pos k1, if_pos k1]
        obtain ⟨u1, u2⟩ := e235m (J := J) (n := t) (st := pm_nxt c L (pm_nxt c L i)) m4 rfl (by omega)
        by_cases z2 : pm_nkm c L t (pm_nxt c L (pm_nxt c L i)) = 0
        · obtain ⟨I5, e5, m5⟩ := u1 z2
          have e5' : f235 0 (nI t - 1) I4 J = some (nI (pm_nv c L (pm_nxt c L (pm_nxt c L i))), I5, J) := e5
          rw [if_neg (show ¬ pm_nkm c L t (pm_nxt c L (pm_nxt c L i)) ≠ 0 by omega), e5', zt_bind]
          exact fin I5 k (by omega) m5 (g235 e5')
        · obtain ⟨I5, e5, x5⟩ := u2 z2
          rw [if_pos z2, e5, zt_bind]
          exact wO_x (t251x x5)
      · have k2 : k = 2 := by omega
        rw [if_neg k1, if_neg k1, if_neg k1, if_pos k2]
        obtain ⟨u1, u2⟩ := i235 (J := J) (st := pm_nxt c L (pm_nxt c L i)) (lo := 1) (hi := 24) m4 rfl (by omega) (by omega)
        by_cases z2 : pm_nk c L 1 24 (pm_nxt c L (pm_nxt c L i)) = 0
        · obtain ⟨I5, e5, m5⟩ := u1 z2
          have e5' : f235 1 24 I4 J = some (nI (pm_nv c L (pm_nxt c L (pm_nxt c L i))), I5, J) := e5
          rw [if_neg (show ¬ pm_nk c L 1 24 (pm_nxt c L (pm_nxt c L i)) ≠ 0 by omega), e5', zt_bind]
          exact fin I5 k (by omega) m5 (g235 e5')
        · obtain ⟨I5, e5, x5⟩ := u2 z2
          have e5' : f235 1 24 I4 J = some (0, I5, J) := e5
          rw [if_pos z2, e5', zt_bind]
          exact wO_x (t251x x5)
    · obtain ⟨I4, e4, x4⟩ := n2 z
      rw [if_pos z, e4, zt_bind]
      dsimp only
      rw [e235x x4, zt_bind]
      exact wO_x (t251x x4)
  have cs : pm_stI c L i = 0 ∨ pm_stI c L i = 1 ∨ pm_stI c L i = 2 ∨ pm_stI c L i = 3 ∨ pm_stI c L i = 4 ∨ pm_stI c L i = 5 ∨ pm_stI c L i = 6 ∨ pm_stI c L i = 7 := by omega
  rcases cs with cs | cs | cs | cs | cs | cs | cs | cs
  · have y32 := stI_w.1 cs
    have y30 : pm_wb c L i 30 = false := wb_n y32 (by decide)
    have y34 : pm_wb c L i 34 = false := wb_n y32 (by decide)
    have y36 : pm_wb c L i 36 = false := wb_n y32 (by decide)
    have y38 : pm_wb c L i 38 = false := wb_n y32 (by decide)
    have y40 : pm_wb c L i 40 = false := wb_n y32 (by decide)
    have y42 : pm_wb c L i 42 = false := wb_n y32 (by decide)
    have y44 : pm_wb c L i 44 = false := wb_n y32 (by decide)
    have y46 : pm_wb c L i 46 = false := wb_n y32 (by decide)
    simp only [zt_bind, Bool.false_eq_true, if_true, if_false, w32, w30, w34, w36, w38, w40, w42, w44, w46, p32, p30, p34, p36, p38, p40, p42, p44, p46, y32, y30, y34, y36, y38, y40, y42, y44, y46, e3]
    rw [cs]
    exact one 0 (by decide) (by decide)
  · have y34 := stI_w.2.1 cs
    have y32 : pm_wb c L i 32 = false := wb_n y34 (by decide)
    have y30 : pm_wb c L i 30 = false := wb_n y34 (by decide)
    have y36 : pm_wb c L i 36 = false := wb_n y34 (by decide)
    have y38 : pm_wb c L i 38 = false := wb_n y34 (by decide)
    have y40 : pm_wb c L i 40 = false := wb_n y34 (by decide)
    have y42 : pm_wb c L i 42 = false := wb_n y34 (by decide)
    have y44 : pm_wb c L i 44 = false := wb_n y34 (by decide)
    have y46 : pm_wb c L i 46 = false := wb_n y34 (by decide)
    simp only [zt_bind, Bool.false_eq_true, if_true, if_false, w32, w30, w34, w36, w38, w40, w42, w44, w46, p32, p30, p34, p36, p38, p40, p42, p44, p46, y32, y30, y34, y36, y38, y40, y42, y44, y46, e3]
    rw [cs]
    exact three 1 (by decide)
  · have y36 := stI_w.2.2.1 cs
    have y32 : pm_wb c L i 32 = false := wb_n y36 (by decide)
    have y30 : pm_wb c L i 30 = false := wb_n y36 (by decide)
    have y34 : pm_wb c L i 34 = false := wb_n y36 (by decide)
    have y38 : pm_wb c L i 38 = false := wb_n y36 (by decide)
    have y40 : pm_wb c L i 40 = false := wb_n y36 (by decide)
    have y42 : pm_wb c L i 42 = false := wb_n y36 (by decide)
    have y44 : pm_wb c L i 44 = false := wb_n y36 (by decide)
    have y46 : pm_wb c L i 46 = false := wb_n y36 (by decide)
    simp only [zt_bind, Bool.false_eq_true, if_true, if_false, w32, w30, w34, w36, w38, w40, w42, w44, w46, p32, p30, p34, p36, p38, p40, p42, p44, p46, y32, y30, y34, y36, y38, y40, y42, y44, y46, e3]
    rw [cs]
    exact three 2 (by decide)
  · have y38 := stI_w.2.2.2.1 cs
    have y32 : pm_wb c L i 32 = false := wb_n y38 (by decide)
    have y30 : pm_wb c L i 30 = false := wb_n y38 (by decide)
    have y34 : pm_wb c L i 34 = false := wb_n y38 (by decide)
    have y36 : pm_wb c L i 36 = false := wb_n y38 (by decide)
    have y40 : pm_wb c L i 40 = false := wb_n y38 (by decide)
    have y42 : pm_wb c L i 42 = false := wb_n y38 (by decide)
    have y44 : pm_wb c L i 44 = false := wb_n y38 (by decide)
    have y46 : pm_wb c L i 46 = false := wb_n y38 (by decide)
    simp only [zt_bind, Bool.false_eq_true, if_true, if_false, w32, w30, w34, w36, w38, w40, w42, w44, w46, p32, p30, p34, p36, p38, p40, p42, p44, p46, y32, y30, y34, y36, y38, y40, y42, y44, y46, e3]
    rw [cs]
    exact two 3 (by decide) (by decide) (by decide)
  · have y40 := stI_w.2.2.2.2.1 cs
    have y32 : pm_wb c L i 32 = false := wb_n y40 (by decide)
    have y30 : pm_wb c L i 30 = false := wb_n y40 (by decide)
    have y34 : pm_wb c L i 34 = false := wb_n y40 (by decide)
    have y36 : pm_wb c L i 36 = false := wb_n y40 (by decide)
    have y38 : pm_wb c L i 38 = false := wb_n y40 (by decide)
    have y42 : pm_wb c L i 42 = false := wb_n y40 (by decide)
    have y44 : pm_wb c L i 44 = false := wb_n y40 (by decide)
    have y46 : pm_wb c L i 46 = false := wb_n y40 (by decide)
    simp only [zt_bind, Bool.false_eq_true, if_true, if_false, w32, w30, w34, w36, w38, w40, w42, w44, w46, p32, p30, p34, p36, p38, p40, p42, p44, p46, y32, y30, y34, y36, y38, y40, y42, y44, y46, e3]
    rw [cs]
    exact two 4 (by decide) (by decide) (by decide)
  · have y42 := stI_w.2.2.2.2.2.1 cs
    have y32 : pm_wb c L i 32 = false := wb_n y42 (by decide)
    have y30 : pm_wb c L i 30 = false := wb_n y42 (by decide)
    have y34 : pm_wb c L i 34 = false := wb_n y42 (by decide)
    have y36 : pm_wb c L i 36 = false := wb_n y42 (by decide)
    have y38 : pm_wb c L i 38 = false := wb_n y42 (by decide)
    have y40 : pm_wb c L i 40 = false := wb_n y42 (by decide)
    have y44 : pm_wb c L i 44 = false := wb_n y42 (by decide)
    have y46 : pm_wb c L i 46 = false := wb_n y42 (by decide)
    simp only [zt_bind, Bool.false_eq_true, if_true, if_false, w32, w30, w34, w36, w38, w40, w42, w44, w46, p32, p30, p34, p36, p38, p40, p42, p44, p46, y32, y30, y34, y36, y38, y40, y42, y44, y46, e3]
    rw [cs]
    exact two 5 (by decide) (by decide) (by decide)
  · have y44 := stI_w.2.2.2.2.2.2.1 cs
    have y32 : pm_wb c L i 32 = false := wb_n y44 (by decide)
    have y30 : pm_wb c L i 30 = false := wb_n y44 (by decide)
    have y34 : pm_wb c L i 34 = false := wb_n y44 (by decide)
    have y36 : pm_wb c L i 36 = false := wb_n y44 (by decide)
    have y38 : pm_wb c L i 38 = false := wb_n y44 (by decide)
    have y40 : pm_wb c L i 40 = false := wb_n y44 (by decide)
    have y42 : pm_wb c L i 42 = false := wb_n y44 (by decide)
    have y46 : pm_wb c L i 46 = false := wb_n y44 (by decide)
    simp only [zt_bind, Bool.false_eq_true, if_true, if_false, w32, w30, w34, w36, w38, w40, w42, w44, w46, p32, p30, p34, p36, p38, p40, p42, p44, p46, y32, y30, y34, y36, y38, y40, y42, y44, y46, e3]
    rw [cs]
    exact two 6 (by decide) (by decide) (by decide)
  · have y30 := stI_w.2.2.2.2.2.2.2.1 cs
    have y32 : pm_wb c L i 32 = false := wb_n y30 (by decide)
    have y34 : pm_wb c L i 34 = false := wb_n y30 (by decide)
    have y36 : pm_wb c L i 36 = false := wb_n y30 (by decide)
    have y38 : pm_wb c L i 38 = false := wb_n y30 (by decide)
    have y40 : pm_wb c L i 40 = false := wb_n y30 (by decide)
    have y42 : pm_wb c L i 42 = false := wb_n y30 (by decide)
    have y44 : pm_wb c L i 44 = false := wb_n y30 (by decide)
    have y46 : pm_wb c L i 46 = false := wb_n y30 (by decide)
    simp only [zt_bind, Bool.false_eq_true, if_true, if_false, w32, w30, w34, w36, w38, w40, w42, w44, w46, p32, p30, p34, p36, p38, p40, p42, p44, p46, y32, y30, y34, y36, y38, y40, y42, y44, y46, e3]
    rw [cs]
    exact one 7 (by decide) (by decide)
end Wc
