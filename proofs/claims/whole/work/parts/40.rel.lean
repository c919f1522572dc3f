/-! CLASS AND REFERENCE: what holds between the two after every call -/
/-- the numbers of a row are such -/
def pm_inv (n : Nat) (w : Nat → Int32) : Prop := ∃ wk st : Nat, wk ≤ 900 ∧ st ≤ 400 ∧ w 64 = nI wk ∧ w 65 = nI st ∧ ∀ p, p < n → (∃ s, s ≤ 3 ∧ w p = nI s) ∧ (∃ s, s ≤ wk ∧ w (16 + p) = nI s) ∧ (∃ s, s ≤ 99 ∧ w (24 + p) = nI s) ∧ (w p = nI 2 → w (56 + p) ≠ pm_m1)
def pm_row (n : Nat) (v w : Nat → Int32) : Prop := pm_ms n w v ∧ pm_inv n v
def pm_Rar (n : Nat) (I : Nat → Nat → Int32) : Prop := (∃ a, a ≤ 16 ∧ I 23 3 = nI a ∧ I 127 32 = nI a ∧ ∀ i, i < a → pm_row n (I (25 + i)) (fun j => I 145 (66 * i + j))) ∧ (∃ m, m ≤ 3 ∧ I 23 4 = nI m ∧ I 127 58 = nI m ∧ ∀ j, j < m → ∃ c, c ≤ 16 ∧ I 93 j = nI c ∧ I 156 (1123 * j + 1122) = nI c ∧ pm_row n (I (42 + (17 * j + 16))) (fun i => I 156 (1123 * j + i)) ∧ ∀ i, i < c → pm_row n (I (42 + (17 * j + i))) (fun q => I 156 (1123 * j + (66 + (66 * i + q)))))
def pm_Rbk (k : Nat) (I : Nat → Nat → Int32) : Prop := (k = 121 ∨ k = 124) ∧ ∃ b, b ≤ 8 ∧ I k 2 = nI b ∧ I 127 45 = nI b ∧ ∀ i, i < b → ∃ x y, x ≤ 499 ∧ y ≤ 999 ∧ I (k + 1) i = nI x ∧ I 147 (2 * i) = nI x ∧ I (k + 2) i = nI y ∧ I 147 (2 * i + 1) = nI y
def pm_Rtp (I : Nat → Nat → Int32) : Prop := (∃ L, L ≤ 600 ∧ I 1 1 = nI L ∧ I 127 2 = nI L ∧ ∀ i, i < L → ∃ c, c < 256 ∧ I 2 i = nI c ∧ I 129 i = nI c) ∧ I 1 8 = I 127 8
def pm_R0 (r k n t : Nat) (D : Nat → Nat → Nat) (l0 : Nat) (k0 : Nat → Nat) (l1 : Nat) (k1 : Nat → Nat) (I : Nat → Nat → Int32) : Prop := (pm_CQ r n t D l0 k0 l1 k1 I ∧ pm_MQ n t D l0 k0 l1 k1 I ∧ pm_row n (I 5) (I 143) ∧ pm_Rar n I) ∧ pm_Rbk k I ∧ pm_Rtp I ∧ I 0 11 = I 127 33 ∧ I 0 12 = I 128 0 ∧ I 0 13 = I 128 1
def pm_RR (r k : Nat) (I : Nat → Nat → Int32) : Prop := ∃ (n t : Nat) (D : Nat → Nat → Nat) (l0 : Nat) (k0 : Nat → Nat) (l1 : Nat) (k1 : Nat → Nat), pm_R0 r k n t D l0 k0 l1 k1 I
/-- the cells and fields that it speaks of, but for the two counters -/
def pm_prB (a : Nat) : Bool := decide (a = 2) || (decide (5 ≤ a) && decide (a ≤ 7)) || decide (a = 9) || decide (a = 10) || (decide (15 ≤ a) && decide (a ≤ 22)) || (decide (25 ≤ a) && decide (a ≤ 93)) || (decide (113 ≤ a) && decide (a ≤ 126)) || decide (a = 129) || decide (a = 132) || decide (a = 133) || (decide (136 ≤ a) && decide (a ≤ 138)) || decide (a = 143) || decide (a = 145) || decide (a = 147) || decide (a = 156)
def pm_prF : List (Nat × Nat) := [(0, 11), (1, 1), (1, 8), (23, 3), (23, 4), (127, 2), (127, 8), (127, 18), (127, 19), (127, 20), (127, 32), (127, 33), (127, 45), (127, 58)]
def pm_okQ (A : List Nat) (F : List (Nat × Nat)) : Bool := A.all (fun a => !pm_prB a && !decide (a = 0) && !decide (a = 1) && !decide (a = 23) && !decide (a = 127)) && F.all (fun q => !pm_prB q.1 && !pm_prF.contains q)
def pm_sm' (I I' : Nat → Nat → Int32) : Prop := (∀ a, pm_prB a = true → I' a = I a) ∧ ∀ a f, (a, f) ∈ pm_prF → I' a f = I a f
theorem sm_ag {A : List Nat} {F : List (Nat × Nat)} {I I' : Nat → Nat → Int32} (g : pm_ag A F I I') (ok : pm_okQ A F = true) : pm_sm' I I' := by
  unfold pm_okQ at ok
  rw [Bool.and_eq_true, List.all_eq_true, List.all_eq_true] at ok
  obtain ⟨o1, o2⟩ := ok
  constructor
  · intro a ha
    refine ag_cell g (fun h => ?_) (fun f h => ?_)
    · have := o1 a h
      simp [ha] at this
    · have := o2 (a, f) h
      simp [ha] at this
  · intro a f haf
    refine g a f (fun h => ?_) (fun h => ?_)
    · have h2 := o1 a h
      simp at h2
      simp [pm_prF] at haf
      omega
    · have := o2 (a, f) h
      simp [haf] at this
theorem sm_refl {I : Nat → Nat → Int32} : pm_sm' I I := ⟨fun _ _ => rfl, fun _ _ _ => rfl⟩
theorem sm_trans {I I1 I2 : Nat → Nat → Int32} (h : pm_sm' I I1) (h2 : pm_sm' I1 I2) : pm_sm' I I2 := ⟨fun a ha => (h2.1 a ha).trans (h.1 a ha), fun a f ha => (h2.2 a f ha).trans (h.2 a f ha)⟩
theorem sm_w {I I1 : Nat → Nat → Int32} {a f : Nat} {x : Int32} (h : pm_sm' I I1) (ok : pm_okQ [] [(a, f)] = true) : pm_sm' I (pm_w I1 a f x) := sm_trans h (sm_ag (A := []) (F := [(a, f)]) (ag_w ag_refl (Or.inr (by simp))) ok)
theorem row_c {n : Nat} {v w v' w' : Nat → Int32} (h : pm_row n v w) (hv : v' = v) (hw : w' = w) : pm_row n v' w' := by rw [hv, hw]; exact h
theorem R0_sm {r k n t l0 l1 : Nat} {D : Nat → Nat → Nat} {k0 k1 : Nat → Nat} {I I' : Nat → Nat → Int32} (h : pm_R0 r k n t D l0 k0 l1 k1 I) (s : pm_sm' I I') (c1 : I' 0 12 = I' 128 0) (c2 : I' 0 13 = I' 128 1) : pm_R0 r k n t D l0 k0 l1 k1 I' := by
  obtain ⟨⟨⟨q1, q2, q3, q4, q5, q6⟩, ⟨m1, m2, m3, m4, m5, m6⟩, hrow, har⟩, ⟨hk, b, b1, b2, b3, b4⟩, ⟨⟨L, t1, t2, t3, t4⟩, t5⟩, h1, h2, h3⟩ := h
  obtain ⟨s1, s2⟩ := s
  have P : ∀ a : Nat, pm_prB a = true → I' a = I a := s1
  have F : ∀ a f : Nat, (a, f) ∈ pm_prF → I' a f = I a f := s2
  refine ⟨⟨⟨CR_cell q1 (fun j hj => P _ ?_), q2, CL_ag q3 (P _ rfl) (P _ rfl), CL_ag q4 (P _ rfl) (P _ rfl), q5, q6⟩, ⟨MR_cell m1 (F _ _ (by decide)) (F _ _ (by decide)) (F _ _ (by decide)) (P _ rfl) (P _ rfl), m2, ML_cell m3 (P _ rfl) (P _ rfl) (P _ rfl), ML_cell m4 (P _ rfl) (P _ rfl) (P _ rfl), m5, m6⟩, row_c hrow (P _ rfl) (P _ rfl), ?_⟩, ?_, ?_, ?_, c1, c2⟩
  · have := q1.1
    simp [pm_prB]
    omega
  · obtain ⟨⟨a, a1, a2, a3, a4⟩, m, e1, e2, e3, e4⟩ := har
    refine ⟨⟨a, a1, by rw [F 23 3 (by decide)]; exact a2, by rw [F 127 32 (by decide)]; exact a3, fun i hi => row_c (a4 i hi) (P _ (by simp [pm_prB]; omega)) (by rw [P 145 rfl])⟩, m, e1, by rw [F 23 4 (by decide)]; exact e2, by rw [F 127 58 (by decide)]; exact e3, fun j hj => ?_⟩
    obtain ⟨c, d1, d2, d3, d4, d5⟩ := e4 j hj
    refine ⟨c, d1, by rw [P 93 rfl]; exact d2, by rw [P 156 rfl]; exact d3, row_c d4 (P _ (by simp [pm_prB]; omega)) (by rw [P 156 rfl]), fun i hi => row_c (d5 i hi) (P _ (by simp [pm_prB]; omega)) (by rw [P 156 rfl])⟩
  · have e0 : I' k = I k := P _ (by rcases hk with rfl | rfl <;> rfl)
    have e1 : I' (k + 1) = I (k + 1) := P _ (by rcases hk with rfl | rfl <;> rfl)
    have e2 : I' (k + 2) = I (k + 2) := P _ (by rcases hk with rfl | rfl <;> rfl)
    unfold pm_Rbk
    rw [e0, e1, e2, P 147 rfl, F 127 45 (by decide)]
    exact ⟨hk, b, b1, b2, b3, b4⟩
  · unfold pm_Rtp
    rw [F 1 1 (by decide), F 1 8 (by decide), F 127 2 (by decide), F 127 8 (by decide), P 2 rfl, P 129 rfl]
    exact ⟨⟨L, t1, t2, t3, t4⟩, t5⟩
  · rw [F 0 11 (by decide), F 127 33 (by decide)]; exact h1
theorem RR_sm {r k : Nat} {I I' : Nat → Nat → Int32} (h : pm_RR r k I) (s : pm_sm' I I') (c1 : I' 0 12 = I' 128 0) (c2 : I' 0 13 = I' 128 1) : pm_RR r k I' := by
  obtain ⟨n, t, D, l0, k0, l1, k1, h⟩ := h
  exact ⟨n, t, D, l0, k0, l1, k1, R0_sm h s c1 c2⟩
/-- nor are the counters changed -/
def pm_okC (A : List Nat) (F : List (Nat × Nat)) : Bool := pm_okQ A F && A.all (fun a => !decide (a = 128)) && F.all (fun q => !decide (q.1 = 128) && !([(0, 12), (0, 13)] : List (Nat × Nat)).contains q)
theorem R0_ag {r k n t l0 l1 : Nat} {D : Nat → Nat → Nat} {k0 k1 : Nat → Nat} {I I' : Nat → Nat → Int32} {A : List Nat} {F : List (Nat × Nat)} (h : pm_R0 r k n t D l0 k0 l1 k1 I) (g : pm_ag A F I I') (ok : pm_okC A F = true) : pm_R0 r k n t D l0 k0 l1 k1 I' := by
  unfold pm_okC at ok
  rw [Bool.and_eq_true, Bool.and_eq_true, List.all_eq_true, List.all_eq_true] at ok
  obtain ⟨⟨o0, o1⟩, o2⟩ := ok
  have a0 : 0 ∉ A := fun h => by
    unfold pm_okQ at o0
    rw [Bool.and_eq_true, List.all_eq_true] at o0
    have := o0.1 0 h
    simp at this
  have e1 : I' 128 = I 128 := ag_cell g (fun h => by have := o1 _ h; simp at this) (fun f h => by have := o2 _ h; simp at this)
  have e2 : I' 0 12 = I 0 12 := g 0 12 a0 (fun h => by have := o2 _ h; simp at this)
  have e3 : I' 0 13 = I 0 13 := g 0 13 a0 (fun h => by have := o2 _ h; simp at this)
  refine R0_sm h (sm_ag g o0) ?_ ?_
  · rw [e1, e2]; exact h.2.2.2.2.1
  · rw [e1, e3]; exact h.2.2.2.2.2
/-- how a call that may throw must come out -/
def pm_KK {α β : Type} (r k : Nat) (E : α → β → Prop) (t1 t2 : Nat) (fc : (Nat → Nat → Int32) → (Nat → Nat → Int64) → Option ((α ⊕ Nat) × (Nat → Nat → Int32) × (Nat → Nat → Int64))) (fm : (Nat → Nat → Int32) → (Nat → Nat → Int64) → Option (β × (Nat → Nat → Int32) × (Nat → Nat → Int64))) (I : Nat → Nat → Int32) (J : Nat → Nat → Int64) : Prop :=
  (∃ (v : α) (I1 : Nat → Nat → Int32) (J1 : Nat → Nat → Int64), fc I J = some (.inl v, I1, J1) ∧ pm_aj J J1 ∧ ∀ J', ∃ (b : β) (I2 : Nat → Nat → Int32), fm I1 J' = some (b, I2, J') ∧ I2 127 0 = nI 0 ∧ E v b ∧ pm_RR r k I2) ∨
  (∃ (t c : Nat) (I1 : Nat → Nat → Int32) (J1 : Nat → Nat → Int64), ((t = 1 ∧ c = t1) ∨ (t = 2 ∧ c = t2)) ∧ fc I J = some (.inr t, I1, J1) ∧ pm_aj J J1 ∧ ∀ J', ∃ (b : β) (I2 : Nat → Nat → Int32), fm I1 J' = some (b, I2, J') ∧ I2 127 0 = nI c ∧ pm_RR r k I2)
/-- one that may not -/
def pm_KP {α : Type} (r k : Nat) (fc fm : (Nat → Nat → Int32) → (Nat → Nat → Int64) → Option (α × (Nat → Nat → Int32) × (Nat → Nat → Int64))) (I : Nat → Nat → Int32) (J : Nat → Nat → Int64) : Prop := ∃ (v : α) (I1 : Nat → Nat → Int32) (J1 : Nat → Nat → Int64), fc I J = some (v, I1, J1) ∧ pm_aj J J1 ∧ ∀ J', ∃ I2 : Nat → Nat → Int32, fm I1 J' = some (v, I2, J') ∧ pm_RR r k I2
/-! gates -/
section Gt
variable {I : Nat → Nat → Int32} {J : Nat → Nat → Int64}
theorem e174b : f174 0 I J = some (.inr 2, pm_w I 0 13 (I 0 13 + nI 1), J) := rfl
theorem e174g : f174 1 I J = some (.inl (), I, J) := rfl
theorem e222g {c k : Int32} (h0 : I 127 0 = nI 0) : f222 (pm_bi true) c k I J = some (true, I, J) := by
  unfold f222
  rw [if_neg (by decide), h0]
  rfl
theorem e222b {c k : Nat} (h0 : I 127 0 = nI 0) (hc : c = 1 ∨ c = 2) (hk : k < 2) : f222 (pm_bi false) (nI c) (nI k) I J = some (false, pm_w (pm_w I 127 0 (nI c)) 128 k (I 128 k + nI 1), J) := by
  unfold f222
  rw [if_pos (by decide), h0, if_pos (by decide)]
  simp (disch := omega) only [zt_lit, pm_lt, zt_in, zt_gd, nI_clamp, zt_wc, zt_w2, zt_ws, zt_eq, if_neg]
theorem tr {x : Int32} {n : Nat} (hn : n < 2 ^ 31) : (∃ p, p < n ∧ x = nI p) ∨ (x.toInt < 0 ∨ (n : Int) ≤ x.toInt) := by
  rcases zt_ix x with h | ⟨j, hj, rfl⟩
  · exact Or.inr (Or.inl h)
  · by_cases h : j < n
    · exact Or.inl ⟨j, h, rfl⟩
    · exact Or.inr (Or.inr (by rw [nI_toInt hj]; omega))
theorem v241g {p a b : Nat} (ha : a ≤ p) (hb : p ≤ b) (hb2 : b < 2 ^ 31) : v241 (nI p) (nI a) (nI b) I = true := by
  unfold v241
  simp (disch := omega) only [zt_lt, if_neg]
theorem v241b {x : Int32} {a b : Nat} (hb : a ≤ b) (hb2 : b < 2 ^ 31) (h : x.toInt < a ∨ (b : Int) < x.toInt) : v241 x (nI a) (nI b) I = false := by
  unfold v241
  rw [nI_toInt (by omega), nI_toInt (by omega)]
  rcases h with h | h
  · rw [if_pos h]
  · by_cases h2 : x.toInt < a
    · rw [if_pos h2]
    · rw [if_neg h2, if_pos h]
/-- the reference's look at a signer, at a taker -/
theorem v241s {x : Int32} {n : Nat} (hn : n ≤ 8) : v241 x 0 (nI n - 1) I = decide (0 ≤ x.toInt ∧ x.toInt < n) := by
  unfold v241
  have h0 : ((0 : Int32)).toInt = 0 := by decide
  have h1 : (nI n - 1).toInt = (n : Int) - 1 := pk_sub_toInt (a := n) (b := 1) (by omega) (by omega)
  rw [h0, h1]
  by_cases a : x.toInt < 0
  · rw [if_pos a]; simp; omega
  · rw [if_neg a]
    by_cases b : (n : Int) - 1 < x.toInt
    · rw [if_pos b]; simp; omega
    · rw [if_neg b]; simp; omega
theorem e277g {p n : Nat} {c : Int32} (hp : p < n) (h8 : n ≤ 8) (hn : I 127 18 = nI n) (h0 : I 127 0 = nI 0) : f277 (nI p) c I J = some (true, I, J) := by
  unfold f277
  rw [hn, v241s h8, nI_toInt (by omega), decide_eq_true (by omega), e222g h0, zt_bind]
theorem e277b {x : Int32} {n c : Nat} (hx : x.toInt < 0 ∨ (n : Int) ≤ x.toInt) (hc : c = 1 ∨ c = 2) (h8 : n ≤ 8) (hn : I 127 18 = nI n) (h0 : I 127 0 = nI 0) : f277 x (nI c) I J = some (false, pm_w (pm_w I 127 0 (nI c)) 128 0 (I 128 0 + nI 1), J) := by
  unfold f277
  rw [hn, v241s h8, decide_eq_false (by omega), zt_lit 0, e222b h0 hc (by omega), zt_bind]
theorem e279g {p n : Nat} {c : Int32} (hp : p < n) (h8 : n ≤ 5) (hn : I 127 19 = nI n) (h0 : I 127 0 = nI 0) : f279 (nI p) c I J = some (true, I, J) := by
  unfold f279
  rw [hn, v241s (by omega), nI_toInt (by omega), decide_eq_true (by omega), e222g h0, zt_bind]
theorem e279b {x : Int32} {n c : Nat} (hx : x.toInt < 0 ∨ (n : Int) ≤ x.toInt) (hc : c = 1 ∨ c = 2) (h8 : n ≤ 5) (hn : I 127 19 = nI n) (h0 : I 127 0 = nI 0) : f279 x (nI c) I J = some (false, pm_w (pm_w I 127 0 (nI c)) 128 0 (I 128 0 + nI 1), J) := by
  unfold f279
  rw [hn, v241s (by omega), decide_eq_false (by omega), zt_lit 0, e222b h0 hc (by omega), zt_bind]
theorem e180g {r p n : Nat} (hp : p < n) (h8 : n ≤ 8) (hn : I r 7 = nI n) : f180 r (nI p) I J = some (.inl (), I, J) := by
  unfold f180 v95
  simp (disch := omega) only [hn, zt_l0, zt_lt, if_pos, if_false, if_true]
theorem e180b {r n : Nat} {x : Int32} (hx : x.toInt < 0 ∨ (n : Int) ≤ x.toInt) (h8 : n ≤ 8) (hn : I r 7 = nI n) : f180 r x I J = some (.inr 1, pm_w I 0 12 (I 0 12 + nI 1), J) := by
  have e : v95 r x I = false := by
    unfold v95
    rw [hn, nI_toInt (by omega)]
    rcases hx with h | h
    · rw [if_pos h]
    · rw [if_neg (show ¬ x.toInt < 0 by omega), if_neg (show ¬ x.toInt < (n : Int) by omega)]
  unfold f180
  rw [e, if_neg (by decide)]
  rfl
theorem e182g {r p n : Nat} (hp : p < n) (h8 : n ≤ 5) (hn : I r 8 = nI n) : f182 r (nI p) I J = some (.inl (), I, J) := by
  unfold f182 v97
  simp (disch := omega) only [hn, zt_l0, zt_lt, if_pos, if_false, if_true]
theorem e182b {r n : Nat} {x : Int32} (hx : x.toInt < 0 ∨ (n : Int) ≤ x.toInt) (h8 : n ≤ 5) (hn : I r 8 = nI n) : f182 r x I J = some (.inr 1, pm_w I 0 12 (I 0 12 + nI 1), J) := by
  have e : v97 r x I = false := by
    unfold v97
    rw [hn, nI_toInt (by omega)]
    rcases hx with h | h
    · rw [if_pos h]
    · rw [if_neg (show ¬ x.toInt < 0 by omega), if_neg (show ¬ x.toInt < (n : Int) by omega)]
  unfold f182
  rw [e, if_neg (by decide)]
  rfl
/-- what a refused call leaves -/
theorem RR_no {r k : Nat} {c : Int32} (h : pm_RR r k I) : pm_RR r k (pm_w (pm_w (pm_w (pm_w I 0 12 (I 0 12 + nI 1)) 127 0 0) 127 0 c) 128 0 (I 128 0 + nI 1)) := by
  have h2 : I 0 12 = I 128 0 ∧ I 0 13 = I 128 1 := by
    obtain ⟨n, t, D, l0, k0, l1, k1, h⟩ := h
    exact h.2.2.2.2
  refine RR_sm h (sm_w (sm_w (sm_w (sm_w sm_refl rfl) rfl) rfl) rfl) ?_ ?_
  · simp (disch := omega) only [zt_ws, zt_w2]
    rw [h2.1]
  · simp (disch := omega) only [zt_ws, zt_w2]
    exact h2.2
theorem RR_il {r k : Nat} {c : Int32} (h : pm_RR r k I) : pm_RR r k (pm_w (pm_w (pm_w (pm_w I 0 13 (I 0 13 + nI 1)) 127 0 0) 127 0 c) 128 1 (I 128 1 + nI 1)) := by
  have h2 : I 0 12 = I 128 0 ∧ I 0 13 = I 128 1 := by
    obtain ⟨n, t, D, l0, k0, l1, k1, h⟩ := h
    exact h.2.2.2.2
  refine RR_sm h (sm_w (sm_w (sm_w (sm_w sm_refl rfl) rfl) rfl) rfl) ?_ ?_
  · simp (disch := omega) only [zt_ws, zt_w2]
    exact h2.1
  · simp (disch := omega) only [zt_ws, zt_w2]
    rw [h2.2]
/-- no such signer -/
theorem no_s {r k n t l0 l1 : Nat} {D : Nat → Nat → Nat} {k0 k1 : Nat → Nat} {x : Int32} (h : pm_R0 r k n t D l0 k0 l1 k1 I) (hx : x.toInt < 0 ∨ (n : Int) ≤ x.toInt) : ∃ Ia Ib : Nat → Nat → Int32, (∀ J, f180 r x I J = some (.inr 1, Ia, J)) ∧ (∀ J, f277 x 1 (pm_w Ia 127 0 0) J = some (false, Ib, J)) ∧ Ib 127 0 = nI 1 ∧ pm_RR r k Ib := by
  have h8 := h.1.1.1.2.2.2.2.1
  refine ⟨_, pm_w (pm_w (pm_w (pm_w I 0 12 (I 0 12 + nI 1)) 127 0 0) 127 0 (nI 1)) 128 0 (I 128 0 + nI 1), fun J => e180b hx h8 h.1.1.1.2.1, fun J => ?_, ?_, RR_no ⟨n, t, D, l0, k0, l1, k1, h⟩⟩
  · rw [zt_lit 1, e277b (n := n) hx (Or.inl rfl) h8 (by rw [zt_w2 (by omega), zt_wc (by omega)]; exact h.1.2.1.1.1) (by rw [zt_ws]; rfl)]
    simp (disch := omega) only [zt_wc]
  · simp (disch := omega) only [zt_ws, zt_w2]
theorem no_t {r k n t l0 l1 : Nat} {D : Nat → Nat → Nat} {k0 k1 : Nat → Nat} {x : Int32} (h : pm_R0 r k n t D l0 k0 l1 k1 I) (hx : x.toInt < 0 ∨ (t : Int) ≤ x.toInt) : ∃ Ia Ib : Nat → Nat → Int32, (∀ J, f182 r x I J = some (.inr 1, Ia, J)) ∧ (∀ J, f279 x 1 (pm_w Ia 127 0 0) J = some (false, Ib, J)) ∧ Ib 127 0 = nI 1 ∧ pm_RR r k Ib := by
  have h5 := h.1.1.1.2.2.2.2.2.1
  refine ⟨_, pm_w (pm_w (pm_w (pm_w I 0 12 (I 0 12 + nI 1)) 127 0 0) 127 0 (nI 1)) 128 0 (I 128 0 + nI 1), fun J => e182b hx h5 h.1.1.1.2.2.1, fun J => ?_, ?_, RR_no ⟨n, t, D, l0, k0, l1, k1, h⟩⟩
  · rw [zt_lit 1, e279b (n := t) hx (Or.inl rfl) h5 (by rw [zt_w2 (by omega), zt_wc (by omega)]; exact h.1.2.1.1.2.1) (by rw [zt_ws]; rfl)]
    simp (disch := omega) only [zt_wc]
  · simp (disch := omega) only [zt_ws, zt_w2]
/-- a number that is none such -/
theorem il_x {r k n t l0 l1 c : Nat} {D : Nat → Nat → Nat} {k0 k1 : Nat → Nat} (h : pm_R0 r k n t D l0 k0 l1 k1 I) (hc : c = 1 ∨ c = 2) : ∃ Ia Ib : Nat → Nat → Int32, (∀ J, f174 0 I J = some (.inr 2, Ia, J)) ∧ Ia 127 = I 127 ∧ (∀ J, f222 (pm_bi false) (nI c) 1 (pm_w Ia 127 0 0) J = some (false, Ib, J)) ∧ Ib 127 0 = nI c ∧ pm_RR r k Ib := by
  refine ⟨_, pm_w (pm_w (pm_w (pm_w I 0 13 (I 0 13 + nI 1)) 127 0 0) 127 0 (nI c)) 128 1 (I 128 1 + nI 1), fun J => e174b, zt_wc (by omega), fun J => ?_, ?_, RR_il ⟨n, t, D, l0, k0, l1, k1, h⟩⟩
  · rw [zt_lit 1, e222b (by rw [zt_ws]; rfl) hc (by omega)]
    simp (disch := omega) only [zt_wc]
  · simp (disch := omega) only [zt_ws, zt_w2]
end Gt
