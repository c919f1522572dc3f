/-! THE LAW'S TEXT: codes told -/
def pm_lok (k : Nat → Nat) (j : Nat) : Prop := ((8 ≤ k j ∧ k j < 14) → 2 ≤ pm_hts k j) ∧ pm_hts k j ≤ 32 ∧ (¬ (8 ≤ k j ∧ k j < 14) → pm_hts k j < 32) ∧ k j < 1014
/-- codes behind codes: e more on the stack -/
def pm_lx (l : Nat) (k : Nat → Nat) (l' : Nat) (k' : Nat → Nat) (e : Nat) : Prop := l ≤ l' ∧ (∀ j, j < l → k' j = k j) ∧ (∀ j, l ≤ j → j < l' → pm_lok k' j) ∧ pm_hts k' l' = pm_hts k l + e
def pm_cup (k : Nat → Nat) (l x : Nat) : Nat → Nat := fun j => if j = l then x else k j
theorem hts_c {k k' : Nat → Nat} : ∀ n, (∀ j, j < n → k' j = k j) → pm_hts k' n = pm_hts k n
  | 0, _ => rfl
  | n + 1, h => by rw [pm_hts, pm_hts, hts_c n (fun j hj => h j (by omega)), h n (by omega)]
theorem lok_c {k k' : Nat → Nat} {j : Nat} (h : pm_lok k j) (e : ∀ q, q ≤ j → k' q = k q) : pm_lok k' j := by
  unfold pm_lok
  rw [hts_c j (fun q hq => e q (by omega)), e j (Nat.le_refl _)]
  exact h
theorem lx_0 (l : Nat) (k : Nat → Nat) : pm_lx l k l k 0 := ⟨Nat.le_refl _, fun _ _ => rfl, fun j a b => by omega, rfl⟩
theorem lx_t {l l1 l2 e1 e2 : Nat} {k k1 k2 : Nat → Nat} (h : pm_lx l k l1 k1 e1) (h2 : pm_lx l1 k1 l2 k2 e2) : pm_lx l k l2 k2 (e1 + e2) := by
  obtain ⟨a1, a2, a3, a4⟩ := h
  obtain ⟨b1, b2, b3, b4⟩ := h2
  refine ⟨by omega, fun j hj => by rw [b2 j (by omega), a2 j hj], fun j h1 h2 => ?_, by omega⟩
  by_cases q : j < l1
  · exact lok_c (a3 j h1 q) (fun p hp => b2 p (by omega))
  · exact b3 j (by omega) h2
theorem lx_p {l x : Nat} {k : Nat → Nat} (hx : x < 8 ∨ (14 ≤ x ∧ x < 1014)) (hh : pm_hts k l < 32) : pm_lx l k (l + 1) (pm_cup k l x) 1 := by
  have e : ∀ j, j < l → pm_cup k l x j = k j := fun j hj => if_neg (by omega)
  have e2 : pm_cup k l x l = x := if_pos rfl
  have e3 := hts_c (k := k) (k' := pm_cup k l x) l e
  refine ⟨by omega, e, fun j h1 h2 => ?_, ?_⟩
  · rw [show j = l by omega]
    unfold pm_lok
    rw [e2, e3]
    omega
  · rw [pm_hts, e2, e3, if_neg (by omega)]
theorem lx_o {l l1 x : Nat} {k k1 : Nat → Nat} (h : pm_lx l k l1 k1 2) (hx : 8 ≤ x ∧ x < 14) (hh : pm_hts k l ≤ 30) : pm_lx l k (l1 + 1) (pm_cup k1 l1 x) 1 := by
  obtain ⟨a1, a2, a3, a4⟩ := h
  have e : ∀ j, j < l1 → pm_cup k1 l1 x j = k1 j := fun j hj => if_neg (by omega)
  have e2 : pm_cup k1 l1 x l1 = x := if_pos rfl
  have e3 := hts_c (k := k1) (k' := pm_cup k1 l1 x) l1 e
  refine ⟨by omega, fun j hj => by rw [e j (by omega), a2 j hj], fun j h1 h2 => ?_, ?_⟩
  · by_cases q : j < l1
    · exact lok_c (a3 j h1 q) (fun p hp => e p (by omega))
    · rw [show j = l1 by omega]
      unfold pm_lok
      rw [e2, e3]
      omega
  · rw [pm_hts, e2, e3, if_pos hx]
    omega
/-- what a reading comes to: a fault, or a place and codes -/
def pm_lR (L i l : Nat) (k : Nat → Nat) (e : Nat) (res : (Nat × Nat) ⊕ (Nat × Nat × (Nat → Nat))) : Prop := match res with
  | .inl _ => True
  | .inr (i', l', k') => i' ≤ L ∧ i + e ≤ i' ∧ l' + i ≤ l + i' ∧ pm_lx l k l' k' e
def pm_NL (l : Nat) (k : Nat → Nat) (I : Nat → Nat → Int32) : Prop := I 127 27 = nI l ∧ ∀ j, j < l → pm_mc (k j) (I 134 j) (I 135 j)
/-- the class comes to it -/
def pm_lC (c : Nat → Nat) (L i l : Nat) (k : Nat → Nat) (res : (Nat × Nat) ⊕ (Nat × Nat × (Nat → Nat))) (f : (Nat → Nat → Int32) → (Nat → Nat → Int64) → Option (Unit × (Nat → Nat → Int32) × (Nat → Nat → Int64))) : Prop := ∀ I J, pm_CF c L i I → pm_CL 94 l k I → (∀ q p, res = .inl (q, p) → ∃ I', f I J = some ((), I', J) ∧ pm_CX q p I') ∧ (∀ i' l' k', res = .inr (i', l', k') → ∃ I', f I J = some ((), I', J) ∧ pm_CF c L i' I' ∧ pm_CL 94 l' k' I')
/-- the reference comes to it -/
def pm_lM (c : Nat → Nat) (L i l : Nat) (k : Nat → Nat) (o : Nat) (res : (Nat × Nat) ⊕ (Nat × Nat × (Nat → Nat))) (f : (Nat → Nat → Int32) → (Nat → Nat → Int64) → Option (Unit × (Nat → Nat → Int32) × (Nat → Nat → Int64))) : Prop := ∀ I J a, pm_MF c L a I → i = pm_sk c (L - a) a → I 127 7 = nI o → pm_NL l k I → (∀ q p, res = .inl (q, p) → ∃ I', f I J = some ((), I', J) ∧ pm_MX q p I') ∧ (∀ i' l' k', res = .inr (i', l', k') → ∃ I' a', f I J = some ((), I', J) ∧ pm_MF c L a' I' ∧ i' = pm_sk c (L - a') a' ∧ I' 127 7 = nI o ∧ pm_NL l' k' I')
section La
variable {I : Nat → Nat → Int32} {J : Nat → Nat → Int64}
theorem mc_o {x : Nat} {y z : Int32} (h : 8 ≤ x ∧ x < 14) (hy : y = nI (x - 6)) : pm_mc x y z := Or.inr (Or.inl ⟨h.1, h.2, hy⟩)
/-- a code is told -/
theorem e17 {l x : Nat} {k : Nat → Nat} (h : pm_CL 94 l k I) (hl : l < 150) : ∃ I', f17 94 (nI x) I J = some ((), I', J) ∧ pm_CL 94 (l + 1) (pm_cup k l x) I' ∧ pm_ag [95] [(94, 2)] I I' := by
  obtain ⟨h1, h2⟩ := h
  have e : f17 94 (nI x) I J = some ((), pm_w (pm_w I 95 l (nI x)) 94 2 (nI (l + 1)), J) := by
    unfold f17
    simp (disch := omega) only [h1, zt_lt, if_pos, zt_pw, pm_lt, zt_wc, nI_1]
  refine ⟨_, e, ⟨zt_ws, fun i hi => ?_⟩, ag_w (ag_w ag_refl (by simp)) (by simp)⟩
  rw [zt_wc (by omega)]
  unfold pm_cup
  by_cases q : i = l
  · rw [if_pos q, q, zt_ws]
  · rw [if_neg q, zt_w2 (by omega)]
    exact h2 i (by omega)
theorem e17x {q p : Nat} {x : Int32} (h : pm_CX q p I) : ∃ I', f17 94 x I J = some ((), I', J) ∧ pm_CX q p I' := by
  unfold f17
  split
  · simp only [pm_lt]
    refine ⟨_, rfl, CX_w ?_ (by omega)⟩
    unfold pm_CX
    unfold pm_pw
    rw [va_up_ne _ _ (by omega)]
    exact h
  · exact ⟨I, rfl, h⟩
theorem CF_ag {c : Nat → Nat} {L i : Nat} {I' : Nat → Nat → Int32} (h : pm_CF c L i I) (e1 : I' 1 = I 1) (e2 : I' 2 = I 2) : pm_CF c L i I' := by
  unfold pm_CF pm_CT pm_CP
  rw [e1, e2]
  exact h
theorem MF_g {c : Nat → Nat} {L a f : Nat} {x : Int32} (h : pm_MF c L a I) (hf : 6 ≤ f) : pm_MF c L a (pm_w I 127 f x) := by
  unfold pm_MF pm_MT
  rw [zt_w2 (by omega), zt_w2 (by omega), zt_w2 (by omega), zt_wc (show 129 ≠ 127 by decide)]
  exact h
theorem e246 {l x : Nat} {k : Nat → Nat} {y z : Int32} {c : Nat → Nat} {L a : Nat} (hf : pm_MF c L a I) (h : pm_NL l k I) (hl : l < 150) (hm : pm_mc x y z) : ∃ I', f246 y z I J = some ((), I', J) ∧ pm_NL (l + 1) (pm_cup k l x) I' ∧ pm_MF c L a I' ∧ I' 127 7 = I 127 7 := by
  obtain ⟨h1, h2⟩ := h
  have e : f246 y z I J = some ((), pm_w (pm_w (pm_w I 134 l y) 135 l z) 127 27 (nI (l + 1)), J) := by
    unfold f246
    rw [v224f hf, if_pos rfl]
    simp (disch := omega) only [h1, zt_in, zt_gd, pm_lt, zt_wc, nI_clamp, nI_1]
  have q4 : pm_w (pm_w (pm_w I 134 l y) 135 l z) 127 27 (nI (l + 1)) 134 = pm_w I 134 l y 134 := by rw [zt_wc (by omega), zt_wc (by omega)]
  have q5 : pm_w (pm_w (pm_w I 134 l y) 135 l z) 127 27 (nI (l + 1)) 135 = pm_w (pm_w I 134 l y) 135 l z 135 := by rw [zt_wc (by omega)]
  refine ⟨_, e, ⟨zt_ws, fun i hi => ?_⟩, MF_g (MF_w (MF_w hf (by decide) (by decide)) (by decide) (by decide)) (by omega), ?_⟩
  · rw [q4, q5]
    unfold pm_cup
    by_cases q : i = l
    · rw [if_pos q, q, zt_ws, zt_ws]
      exact hm
    · rw [if_neg q, zt_w2 (by omega), zt_w2 (by omega), zt_wc (by omega)]
      exact h2 i (by omega)
  · rw [zt_w2 (by omega), zt_wc (by omega), zt_wc (by omega)]
theorem e246x {q p : Nat} {y z : Int32} (h : pm_MX q p I) : f246 y z I J = some ((), I, J) := by
  unfold f246
  rw [v224x h, if_neg (by decide)]
/-- at fault the class goes to its end -/
theorem v136x {q p : Nat} {s : Int32} (h : pm_CX q p I) : v136 s I = false := by
  unfold v136
  rw [h.1, if_neg (by decide)]
theorem x21_l {q p fu dep y2 : Nat} {y3 z : Int32} (h : pm_CX q p I) (hy : y2 = 3 ∨ y2 = 4) : g21 94 (fu + 1) (dep + 1) y2 z y3 I J = some ((), I, J) := by
  rcases hy with rfl | rfl
  · rw [g21, v136x h, v136x h]
    simp only [Bool.false_eq_true, if_false, ite_self]
  · rw [g21, v136x h, v136x h]
    simp only [Bool.false_eq_true, if_false, ite_self]
theorem x21_2 {q p fu dep : Nat} {z y : Int32} (h : pm_CX q p I) : ∃ I', g21 94 (fu + 1) (dep + 1) 2 z y I J = some ((), I', J) ∧ pm_CX q p I' := by
  obtain ⟨I', e, x⟩ := e133x (J := J) (z := 1) h
  refine ⟨I', ?_, x⟩
  have v : v140 I = false := by
    unfold v140
    rw [h.1, if_neg (by decide)]
  rw [g21]
  unfold f24 f25
  simp only [e132x h, zt_bind, Bool.false_eq_true, if_false, v, v136x h, if_true, e]
theorem x21_1 {q p fu dep : Nat} {z y : Int32} (h : pm_CX q p I) : ∃ I', g21 94 (fu + 2) (dep + 2) 1 z y I J = some ((), I', J) ∧ pm_CX q p I' := by
  obtain ⟨I', e, x⟩ := x21_2 (J := J) (fu := fu) (dep := dep) (z := z) (y := 0) h
  refine ⟨I', ?_, x⟩
  rw [g21, e, zt_bind]
  exact x21_l x (Or.inr rfl)
theorem x21_0 {q p fu dep : Nat} {z y : Int32} (h : pm_CX q p I) : ∃ I', g21 94 (fu + 3) (dep + 3) 0 z y I J = some ((), I', J) ∧ pm_CX q p I' := by
  obtain ⟨I', e, x⟩ := x21_1 (J := J) (fu := fu) (dep := dep) (z := z) (y := 0) h
  refine ⟨I', ?_, x⟩
  rw [g21, e, zt_bind]
  exact x21_l x (Or.inl rfl)
/-- so does the reference -/
theorem x242_l {q p fu dep y : Nat} {x1 x2 : Int32} (h : pm_MX q p I) (hy : y = 2 ∨ y = 4 ∨ y = 5) : g242 (fu + 1) (dep + 1) y x1 x2 I J = some ((), I, J) := by
  rcases hy with rfl | rfl | rfl
  · rw [g242, v224x h, if_neg (by decide)]
  · rw [g242, v224x h, if_neg (by decide)]
  · rw [g242, v224x h, if_neg (by decide)]
theorem x242_1 {q p fu dep : Nat} {x1 x2 : Int32} (h : pm_MX q p I) : g242 (fu + 2) (dep + 2) 1 x1 x2 I J = some ((), I, J) := by
  rw [g242, x242_l h (Or.inl rfl), zt_bind]
  exact x242_l h (Or.inr (Or.inr rfl))
theorem x242_0 {q p fu dep : Nat} {x1 x2 : Int32} (h : pm_MX q p I) : g242 (fu + 3) (dep + 3) 0 x1 x2 I J = some ((), I, J) := by
  rw [g242, x242_1 h, zt_bind]
  exact x242_l h (Or.inr (Or.inl rfl))
end La
