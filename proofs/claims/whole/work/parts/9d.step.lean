/-! STEPS: what a step does to a row -/
def pm_lnd (w : Nat → Int32) : Nat → (Nat → Int32)
  | 0 => w
  | i + 1 => if pm_lnd w i i = nI 0 then upd (pm_lnd w i) i (nI 1) else pm_lnd w i
def pm_go (l0 : Nat) (k0 : Nat → Nat) (D : Nat → Nat → Nat) (n K a b : Nat) (w : Nat → Int32) : Bool × (Nat → Int32) :=
  if K = 0 then (if pm_cnt (fun p => decide (w p = nI 0)) n = 0 ∨ (w 64).toInt < (D 8 0 : Nat) then (false, w) else (true, pm_lnd w n))
  else if K = 1 then (if w a = nI 1 ∧ pm_cnt (fun p => decide (w p = nI 2) && decide (w (8 + p) = nI b)) n < D 7 b then (true, upd (upd (upd (upd w a (nI 2)) (8 + a) (nI b)) (16 + a) (nI 0)) (56 + a) (w 64)) else (false, w))
  else if K = 2 then (if w a = nI 2 ∧ (w (24 + a)).toInt < 99 then (true, upd w (24 + a) (pm_min (nI 99) (w (24 + a) + nI b))) else (false, w))
  else if K = 3 then (if w (24 + a) = nI 0 then (false, w) else (true, upd w (24 + a) (nI 0)))
  else if K = 4 then (if w a = nI 3 ∨ w (40 + a) = nI 1 then (false, w) else (true, upd w (40 + a) (nI 1)))
  else if K = 5 then (if w a = nI 3 ∨ w (40 + a) = nI 0 then (false, w) else (true, upd w (40 + a) (nI 0)))
  else if K = 6 then (if pm_cpy l0 k0 D n w a = true then (true, upd (upd (upd w (48 + a) (w (48 + a) - pm_oW l0 k0 D n w a / nI 4)) a (nI 3)) (8 + a) pm_m1) else (false, w))
  else (if w 64 = nI 900 then (false, w) else (true, pm_pass l0 k0 D n w))
/-- what a step may name -/
def pm_sk2 (n t K a b : Nat) : Prop := K < 8 ∧ (1 ≤ K → K ≤ 6 → a < n) ∧ (K = 1 → b < t) ∧ (K = 2 → 1 ≤ b ∧ b ≤ 24)
theorem ld_e (w : Nat → Int32) : ∀ i j, pm_lnd w i j = if j < i ∧ w j = nI 0 then nI 1 else w j := by
  intro i
  induction i with
  | zero => intro j; rw [pm_lnd, if_neg (by omega)]
  | succ i ih =>
    intro j
    rw [pm_lnd]
    have hi := ih i
    rw [if_neg (by omega)] at hi
    rw [hi]
    by_cases c : w i = nI 0
    · rw [if_pos c]
      by_cases e : j = i
      · subst e
        rw [zt_us, if_pos ⟨by omega, c⟩]
      · rw [zt_un e, ih j]
        by_cases q : j < i ∧ w j = nI 0
        · rw [if_pos q, if_pos ⟨by omega, q.2⟩]
        · rw [if_neg q, if_neg (fun z => q ⟨by omega, z.2⟩)]
    · rw [if_neg c, ih j]
      by_cases q : j < i ∧ w j = nI 0
      · rw [if_pos q, if_pos ⟨by omega, q.2⟩]
      · rw [if_neg q, if_neg (fun z => q ⟨by
          rcases Nat.lt_or_ge j i with h | h
          · exact h
          · have : j = i := by omega
            rw [this] at z
            exact absurd z.2 c, z.2⟩)]
theorem inv_pass {l n : Nat} {k : Nat → Nat} {D : Nat → Nat → Nat} {w : Nat → Int32} (h8 : n ≤ 8) (h : pm_inv n w) (h9 : w 64 ≠ nI 900) : pm_inv n (pm_pass l k D n w) := by
  obtain ⟨wk, st, h1, h2, h3, h4, h5⟩ := h
  have wk9 : wk ≠ 900 := fun e => h9 (by rw [h3, e])
  have e16 : ∀ j, 16 ≤ j → pm_pass l k D n w j = pm_p2 w n j := fun j hj => p3_hi l k D n (pm_p2 w n) n h8 j hj
  have e2 : ∀ j, j ≠ 64 → pm_p2 w n j = pm_p1 w n j := fun j hj => by unfold pm_p2; rw [zt_un hj]
  refine ⟨wk + 1, st - pm_cnt (fun p => decide (w p = nI 0)) n, by omega, by omega, ?_, ?_, fun p hp => ?_⟩
  · rw [e16 64 (by omega)]
    unfold pm_p2
    rw [zt_us, p1_un w n h8 64 (by omega), h3, nI_add]
  · rw [e16 65 (by omega), e2 65 (by omega)]
    exact (p1_65 w (by omega) h4 n h8).1
  · obtain ⟨⟨s1, a1, b1⟩, ⟨s2, a2, b2⟩, ⟨s3, a3, b3⟩, b4⟩ := h5 p hp
    have ep : pm_pass l k D n w p = if p < n ∧ pm_p2 w n p = nI 2 ∧ pm_oW l k D n (pm_p2 w n) p = nI 0 then nI 3 else pm_p2 w n p := p3_lo l k D n (pm_p2 w n) n h8 p (by omega)
    have ep2 : pm_p2 w n p = w p := by rw [e2 p (by omega), p1_lo w n h8 p (by omega)]
    rw [ep2] at ep
    refine ⟨?_, ?_, ?_, ?_⟩
    · by_cases q : p < n ∧ w p = nI 2 ∧ pm_oW l k D n (pm_p2 w n) p = nI 0
      · exact ⟨3, by omega, by rw [ep, if_pos q]⟩
      · exact ⟨s1, a1, by rw [ep, if_neg q]; exact b1⟩
    · rw [e16 (16 + p) (by omega), e2 (16 + p) (by omega), p1_16 w n h8 p (by omega)]
      by_cases q : p < n ∧ w p = nI 2
      · exact ⟨s2 + 1, by omega, by rw [if_pos q, b2, nI_add]⟩
      · exact ⟨s2, by omega, by rw [if_neg q]; exact b2⟩
    · exact ⟨s3, a3, by rw [e16 (24 + p) (by omega), e2 (24 + p) (by omega), p1_un w n h8 (24 + p) (by omega)]; exact b3⟩
    · rw [e16 (56 + p) (by omega), e2 (56 + p) (by omega), p1_un w n h8 (56 + p) (by omega), ep]
      by_cases q : p < n ∧ w p = nI 2 ∧ pm_oW l k D n (pm_p2 w n) p = nI 0
      · rw [if_pos q]
        exact fun z => by rw [zt_eq (by omega) (by omega)] at z; omega
      · rw [if_neg q]
        exact b4
theorem inv_go {l n t K a b : Nat} {k : Nat → Nat} {D : Nat → Nat → Nat} {w : Nat → Int32} (h8 : n ≤ 8) (h : pm_inv n w) (hs : pm_sk2 n t K a b) : pm_inv n (pm_go l k D n K a b w).2 := by
  obtain ⟨k8, ka, kb, kc⟩ := hs
  obtain ⟨wk, st, h1, h2, h3, h4, h5⟩ := id h
  have up : ∀ (v : Nat → Int32) (j : Nat) (x : Int32), (32 ≤ j ∧ j < 56) → pm_inv n v → pm_inv n (upd v j x) := by
    intro v j x hj hv
    obtain ⟨wk, st, h1, h2, h3, h4, h5⟩ := hv
    refine ⟨wk, st, h1, h2, by rw [zt_un (by omega)]; exact h3, by rw [zt_un (by omega)]; exact h4, fun p hp => ?_⟩
    rw [zt_un (by omega), zt_un (by omega), zt_un (by omega), zt_un (by omega)]
    exact h5 p hp
  have up24 : ∀ (s : Nat), a < n → s ≤ 99 → pm_inv n (upd w (24 + a) (nI s)) := by
    intro s ha hs
    refine ⟨wk, st, h1, h2, by rw [zt_un (by omega)]; exact h3, by rw [zt_un (by omega)]; exact h4, fun p hp => ?_⟩
    rw [zt_un (show p ≠ 24 + a by omega), zt_un (show 16 + p ≠ 24 + a by omega), zt_un (show 56 + p ≠ 24 + a by omega)]
    refine ⟨(h5 p hp).1, (h5 p hp).2.1, ?_, (h5 p hp).2.2.2⟩
    by_cases e : p = a
    · rw [e, zt_us]; exact ⟨s, hs, rfl⟩
    · rw [zt_un (by omega)]; exact (h5 p hp).2.2.1
  unfold pm_go
  by_cases c0 : K = 0
  · rw [if_pos c0]
    by_cases q : pm_cnt (fun p => decide (w p = nI 0)) n = 0 ∨ (w 64).toInt < (D 8 0 : Nat)
    · rw [if_pos q]; exact h
    · rw [if_neg q]
      dsimp only
      refine ⟨wk, st, h1, h2, by rw [ld_e, if_neg (by omega)]; exact h3, by rw [ld_e, if_neg (by omega)]; exact h4, fun p hp => ?_⟩
      obtain ⟨⟨s1, a1, b1⟩, ⟨s2, a2, b2⟩, ⟨s3, a3, b3⟩, b4⟩ := h5 p hp
      refine ⟨?_, ⟨s2, a2, by rw [ld_e, if_neg (by omega)]; exact b2⟩, ⟨s3, a3, by rw [ld_e, if_neg (by omega)]; exact b3⟩, ?_⟩
      · by_cases z : p < n ∧ w p = nI 0
        · exact ⟨1, by omega, by rw [ld_e, if_pos z]⟩
        · exact ⟨s1, a1, by rw [ld_e, if_neg z]; exact b1⟩
      · rw [ld_e, ld_e, if_neg (show ¬ (56 + p < n ∧ w (56 + p) = nI 0) by omega)]
        by_cases z : p < n ∧ w p = nI 0
        · rw [if_pos z]
          exact fun y => by rw [zt_eq (by omega) (by omega)] at y; omega
        · rw [if_neg z]; exact b4
  rw [if_neg c0]
  by_cases c1 : K = 1
  · have ha := ka (by omega) (by omega)
    rw [if_pos c1]
    by_cases q : w a = nI 1 ∧ pm_cnt (fun p => decide (w p = nI 2) && decide (w (8 + p) = nI b)) n < D 7 b
    · rw [if_pos q]
      dsimp only
      refine ⟨wk, st, h1, h2, by rw [zt_un (by omega), zt_un (by omega), zt_un (by omega), zt_un (by omega)]; exact h3, by rw [zt_un (by omega), zt_un (by omega), zt_un (by omega), zt_un (by omega)]; exact h4, fun p hp => ?_⟩
      obtain ⟨⟨s1, a1, b1⟩, ⟨s2, a2, b2⟩, ⟨s3, a3, b3⟩, b4⟩ := h5 p hp
      by_cases e : p = a
      · subst e
        refine ⟨⟨2, by omega, by rw [zt_un (by omega), zt_un (by omega), zt_un (by omega), zt_us]⟩, ⟨0, by omega, by rw [zt_un (by omega), zt_us]⟩, ⟨s3, a3, by rw [zt_un (by omega), zt_un (by omega), zt_un (by omega), zt_un (by omega)]; exact b3⟩, fun _ => ?_⟩
        rw [zt_us, h3]
        exact fun y => by rw [zt_eqm (by omega)] at y; exact y
      · refine ⟨⟨s1, a1, by rw [zt_un (by omega), zt_un (by omega), zt_un (by omega), zt_un (by omega)]; exact b1⟩, ⟨s2, a2, by rw [zt_un (by omega), zt_un (by omega), zt_un (by omega), zt_un (by omega)]; exact b2⟩, ⟨s3, a3, by rw [zt_un (by omega), zt_un (by omega), zt_un (by omega), zt_un (by omega)]; exact b3⟩, ?_⟩
        have e1 : upd (upd (upd (upd w a (nI 2)) (8 + a) (nI b)) (16 + a) (nI 0)) (56 + a) (w 64) p = w p := by rw [zt_un (by omega), zt_un (by omega), zt_un (by omega), zt_un (by omega)]
        have e2 : upd (upd (upd (upd w a (nI 2)) (8 + a) (nI b)) (16 + a) (nI 0)) (56 + a) (w 64) (56 + p) = w (56 + p) := by rw [zt_un (by omega), zt_un (by omega), zt_un (by omega), zt_un (by omega)]
        rw [e1, e2]
        exact b4
    · rw [if_neg q]; exact h
  rw [if_neg c1]
  by_cases c2 : K = 2
  · have ha := ka (by omega) (by omega)
    obtain ⟨_, kc2⟩ := kc c2
    rw [if_pos c2]
    by_cases q : w a = nI 2 ∧ (w (24 + a)).toInt < 99
    · rw [if_pos q]
      obtain ⟨s3, a3, b3⟩ := (h5 a ha).2.2.1
      dsimp only
      rw [b3, nI_add, min_nI (by omega) (by omega)]
      exact up24 _ ha (Nat.min_le_left _ _)
    · rw [if_neg q]; exact h
  rw [if_neg c2]
  by_cases c3 : K = 3
  · have ha := ka (by omega) (by omega)
    rw [if_pos c3]
    by_cases q : w (24 + a) = nI 0
    · rw [if_pos q]; exact h
    · rw [if_neg q]; exact up24 0 ha (by omega)
  rw [if_neg c3]
  by_cases c4 : K = 4
  · have ha := ka (by omega) (by omega)
    rw [if_pos c4]
    by_cases q : w a = nI 3 ∨ w (40 + a) = nI 1
    · rw [if_pos q]; exact h
    · rw [if_neg q]; exact up w _ _ (by omega) h
  rw [if_neg c4]
  by_cases c5 : K = 5
  · have ha := ka (by omega) (by omega)
    rw [if_pos c5]
    by_cases q : w a = nI 3 ∨ w (40 + a) = nI 0
    · rw [if_pos q]; exact h
    · rw [if_neg q]; exact up w _ _ (by omega) h
  rw [if_neg c5]
  by_cases c6 : K = 6
  · have ha := ka (by omega) (by omega)
    rw [if_pos c6]
    by_cases q : pm_cpy l k D n w a = true
    · rw [if_pos q]
      dsimp only
      refine ⟨wk, st, h1, h2, by rw [zt_un (by omega), zt_un (by omega), zt_un (by omega)]; exact h3, by rw [zt_un (by omega), zt_un (by omega), zt_un (by omega)]; exact h4, fun p hp => ?_⟩
      obtain ⟨⟨s1, a1, b1⟩, ⟨s2, a2, b2⟩, ⟨s3, a3, b3⟩, b4⟩ := h5 p hp
      have e2 : ∀ x : Int32, upd (upd (upd w (48 + a) x) a (nI 3)) (8 + a) pm_m1 (56 + p) = w (56 + p) := fun x => by rw [zt_un (by omega), zt_un (by omega), zt_un (by omega)]
      refine ⟨?_, ⟨s2, a2, by rw [zt_un (by omega), zt_un (by omega), zt_un (by omega)]; exact b2⟩, ⟨s3, a3, by rw [zt_un (by omega), zt_un (by omega), zt_un (by omega)]; exact b3⟩, ?_⟩
      · by_cases e : p = a
        · exact ⟨3, by omega, by rw [zt_un (by omega), e, zt_us]⟩
        · exact ⟨s1, a1, by rw [zt_un (by omega), zt_un (by omega), zt_un (by omega)]; exact b1⟩
      · rw [e2]
        by_cases e : p = a
        · rw [zt_un (by omega), e, zt_us]
          exact fun y => by rw [zt_eq (by omega) (by omega)] at y; omega
        · rw [zt_un (by omega), zt_un (by omega), zt_un (by omega)]
          exact b4
    · rw [if_neg q]; exact h
  rw [if_neg c6]
  by_cases q : w 64 = nI 900
  · rw [if_pos q]; exact h
  · rw [if_neg q]; exact inv_pass h8 h q
