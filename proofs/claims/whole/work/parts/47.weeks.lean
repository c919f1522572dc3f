/-! WEEKS THAT GO BY: what becomes of those who are bound, and of the stores -/
def pm_w7 (pp : Nat → Int32) (x : Int32) : Nat → Int32 := fun j => if j = 7 then x else pp j
def pm_Qw (l : Nat) (k : Nat → Nat) (D : Nat → Nat → Nat) (n : Nat) (w : Nat → Int32) (p i : Nat) : Bool := !decide ((w (16 + p) + nI i).toInt < (pm_av l k (pm_w7 (pm_ppr D n w p (nI (D 1 p)) (w (24 + p))) (w 64 + nI i))).toInt)
def pm_fb (Q : Nat → Bool) : Nat → Bool
  | 0 => false
  | j + 1 => pm_fb Q j || Q (j + 1)
def pm_fiw (Q : Nat → Bool) : Nat → Option Nat
  | 0 => none
  | j + 1 => match pm_fiw Q j with
    | some i => some i
    | none => if Q (j + 1) = true then some (j + 1) else none
def pm_fvw (Q : Nat → Bool) (m : Nat) : Int32 := match pm_fiw Q m with
  | some i => nI i
  | none => pm_m1
theorem fi_fb (Q : Nat → Bool) : ∀ m, pm_fb Q m = (pm_fiw Q m).isSome
  | 0 => rfl
  | m + 1 => by
    unfold pm_fb pm_fiw
    rw [fi_fb Q m]
    cases h : pm_fiw Q m with
    | none => by_cases c : Q (m + 1) = true <;> simp [c]
    | some i => simp
theorem fi_le (Q : Nat → Bool) : ∀ m i, pm_fiw Q m = some i → 1 ≤ i ∧ i ≤ m
  | 0, i, h => by cases h
  | m + 1, i, h => by
    unfold pm_fiw at h
    cases e : pm_fiw Q m with
    | none =>
      rw [e] at h
      simp only at h
      split at h
      · injection h with h; omega
      · cases h
    | some j =>
      rw [e] at h
      simp only at h
      injection h with h
      have := fi_le Q m j e
      omega
theorem fi_hit {Q : Nat → Bool} {i : Nat} (h : pm_fiw Q i = none) (hq : Q (i + 1) = true) : ∀ d, pm_fiw Q (i + 1 + d) = some (i + 1)
  | 0 => by show pm_fiw Q (i + 1) = _; unfold pm_fiw; rw [h]; simp [hq]
  | d + 1 => by show pm_fiw Q (i + 1 + d + 1) = _; unfold pm_fiw; rw [fi_hit h hq d]
theorem fi_miss {Q : Nat → Bool} {i : Nat} (h : pm_fiw Q i = none) (hq : Q (i + 1) = false) : pm_fiw Q (i + 1) = none := by unfold pm_fiw; rw [h]; simp [hq]
theorem av_nI (l : Nat) (k : Nat → Nat) (pp : Nat → Int32) : ∃ a, a ≤ 999 ∧ pm_av l k pp = nI a := by
  have h0 : ((0 : Int32)).toInt = 0 := by decide
  have h9 : ((999 : Int32)).toInt = 999 := by decide
  unfold pm_av
  generalize pm_stk pp k (fun _ => 0) l 0 = v
  have key : ∀ x : Int32, 0 ≤ x.toInt → x.toInt ≤ 999 → ∃ a, a ≤ 999 ∧ x = nI a := by
    intro x h1 h2
    obtain ⟨j, hj, rfl⟩ := zt_i0 (x := x) (by omega)
    rw [nI_toInt hj] at h2
    exact ⟨j, by omega, rfl⟩
  apply key
  · unfold pm_cl9 pm_max
    split <;> omega
  · unfold pm_cl9 pm_max
    split
    · unfold pm_min
      split <;> omega
    · omega
theorem p1_16 (w : Nat → Int32) : ∀ i, i ≤ 8 → ∀ p, p < 8 → pm_p1 w i (16 + p) = if p < i ∧ w p = nI 2 then w (16 + p) + nI 1 else w (16 + p) := by
  intro i
  induction i with
  | zero => intro _ p _; rw [if_neg (by omega)]; rfl
  | succ i ih =>
    intro hi p hp
    have a := ih (by omega) p hp
    have b := p1_lo w i (by omega) i (by omega)
    unfold pm_p1 pm_e1
    rw [b]
    by_cases c : w i = nI 2
    · rw [if_pos c]
      by_cases e : p = i
      · subst e
        rw [zt_us, a, if_neg (by omega), if_pos ⟨by omega, c⟩]
      · rw [zt_un (by omega), a]
        by_cases q : w p = nI 2
        · by_cases q2 : p < i
          · rw [if_pos ⟨q2, q⟩, if_pos ⟨by omega, q⟩]
          · rw [if_neg (by omega), if_neg (by omega)]
        · rw [if_neg (fun h => q h.2), if_neg (fun h => q h.2)]
    · rw [if_neg c]
      have e2 : (if p < i ∧ w p = nI 2 then w (16 + p) + nI 1 else w (16 + p)) = if p < i + 1 ∧ w p = nI 2 then w (16 + p) + nI 1 else w (16 + p) := by
        by_cases q : w p = nI 2
        · have : p ≠ i := fun e => c (by rw [← e]; exact q)
          by_cases q2 : p < i
          · rw [if_pos ⟨q2, q⟩, if_pos ⟨by omega, q⟩]
          · rw [if_neg (by omega), if_neg (by omega)]
        · rw [if_neg (fun h => q h.2), if_neg (fun h => q h.2)]
      by_cases c0 : w i = nI 0
      · rw [if_pos c0]
        split
        · rw [zt_un (by omega), a, e2]
        · rw [zt_un (by omega), a, e2]
      · rw [if_neg c0, a, e2]
theorem p1_un (w : Nat → Int32) : ∀ i, i ≤ 8 → ∀ j, (24 ≤ j ∧ j < 32 ∨ 40 ≤ j ∧ j ≤ 64) → pm_p1 w i j = w j := by
  intro i
  induction i with
  | zero => intro _ j _; rfl
  | succ i ih =>
    intro hi j hj
    have a := ih (by omega) j hj
    unfold pm_p1 pm_e1
    split
    · rw [zt_un (by omega), a]
    · split
      · split
        · rw [zt_un (by omega), a]
        · rw [zt_un (by omega), a]
      · exact a
theorem p1_32 (w : Nat → Int32) {p : Nat} (hp : p < 8) (h : w p ≠ nI 0) : ∀ i, i ≤ 8 → pm_p1 w i (32 + p) = w (32 + p) := by
  intro i
  induction i with
  | zero => intro _; rfl
  | succ i ih =>
    intro hi
    have a := ih (by omega)
    have b := p1_lo w i (by omega) i (by omega)
    unfold pm_p1 pm_e1
    rw [b]
    split
    · rw [zt_un (by omega), a]
    · split
      · rename_i c
        have : p ≠ i := fun e => h (by rw [e]; exact c)
        split
        · rw [zt_un (by omega), a]
        · rw [zt_un (by omega), a]
      · exact a
theorem p1_65 (w : Nat → Int32) {st : Nat} (hst : st < 2 ^ 30) (h : w 65 = nI st) : ∀ i, i ≤ 8 → pm_p1 w i 65 = nI (st - pm_cnt (fun p => decide (w p = nI 0)) i) ∧ pm_ph w i = pm_cnt (fun p => decide (w p = nI 0)) i - st := by
  intro i
  induction i with
  | zero => intro _; exact ⟨by rw [pm_cnt, Nat.sub_zero]; exact h, by rw [pm_cnt, pm_ph]; omega⟩
  | succ i ih =>
    intro hi
    obtain ⟨a1, a2⟩ := ih (by omega)
    have b := p1_lo w i (by omega) i (by omega)
    have hc := cn_le (fun p => decide (w p = nI 0)) i
    have t0 : (0 < (nI (st - pm_cnt (fun p => decide (w p = nI 0)) i)).toInt) ↔ 0 < st - pm_cnt (fun p => decide (w p = nI 0)) i := by rw [nI_toInt (by omega)]; omega
    rw [pm_p1, pm_e1, b, pm_ph, pm_cnt, a1, a2]
    by_cases c0 : w i = nI 0
    · have c2 : ¬ w i = nI 2 := by rw [c0]; decide
      rw [if_neg c2, if_pos c0]
      simp only [c0, decide_true, if_true, true_and]
      by_cases c3 : 0 < st - pm_cnt (fun p => decide (w p = nI 0)) i
      · rw [if_pos (t0.mpr c3), if_neg (fun h => h (t0.mpr c3)), zt_us, zt_mi (by omega)]
        exact ⟨by first | rfl | (congr 1; omega), by omega⟩
      · rw [if_neg (fun h => c3 (t0.mp h)), if_pos (fun h => c3 (t0.mp h)), zt_un (by omega), a1]
        exact ⟨by first | rfl | (congr 1; omega), by omega⟩
    · simp only [c0, decide_false, Bool.false_eq_true, if_false, Nat.add_zero, false_and]
      refine ⟨?_, trivial⟩
      split
      · rw [zt_un (by omega), a1]
      · exact a1
theorem oW_loc {l n p : Nat} {k : Nat → Nat} {D : Nat → Nat → Nat} {v w : Nat → Int32} (h0 : v p = w p) (h1 : v (16 + p) = w (16 + p)) (h2 : v (24 + p) = w (24 + p)) (h3 : v (32 + p) = w (32 + p)) (h4 : v (40 + p) = w (40 + p)) (h5 : v (56 + p) = w (56 + p)) (h6 : v 64 = w 64) : pm_oW l k D n v p = pm_oW l k D n w p := by
  have e : pm_ppr D n v p (nI (D 1 p)) (v (24 + p)) = pm_ppr D n w p (nI (D 1 p)) (w (24 + p)) := by
    funext j
    unfold pm_ppr
    split <;> first | rfl | assumption | (rw [h5, h6])
  unfold pm_oW pm_aS
  rw [e, h0, h1]
theorem p3_hi (l : Nat) (k : Nat → Nat) (D : Nat → Nat → Nat) (n : Nat) (w : Nat → Int32) : ∀ i, i ≤ 8 → ∀ j, 16 ≤ j → pm_p3 l k D n w i j = w j := by
  intro i
  induction i with
  | zero => intro _ j _; rfl
  | succ i ih =>
    intro hi j hj
    have a := ih (by omega) j hj
    unfold pm_p3 pm_e3
    split
    · rw [zt_un (by omega), zt_un (by omega), a]
    · exact a
theorem p3_lo (l : Nat) (k : Nat → Nat) (D : Nat → Nat → Nat) (n : Nat) (w : Nat → Int32) : ∀ i, i ≤ 8 → ∀ p, p < 8 → pm_p3 l k D n w i p = if p < i ∧ w p = nI 2 ∧ pm_oW l k D n w p = nI 0 then nI 3 else w p := by
  intro i
  induction i with
  | zero => intro _ p _; rw [if_neg (by omega)]; rfl
  | succ i ih =>
    intro hi p hp
    have a := ih (by omega) p hp
    have b := ih (by omega) i (by omega)
    rw [if_neg (by omega)] at b
    have hh := p3_hi l k D n w i (by omega)
    have o : pm_oW l k D n (pm_p3 l k D n w i) i = pm_oW l k D n w i := oW_loc b (hh _ (by omega)) (hh _ (by omega)) (hh _ (by omega)) (hh _ (by omega)) (hh _ (by omega)) (hh _ (by omega))
    unfold pm_p3 pm_e3
    rw [b, o]
    by_cases c : w i = nI 2 ∧ pm_oW l k D n w i = nI 0
    · rw [if_pos c, zt_un (by omega)]
      by_cases e : p = i
      · subst e
        rw [zt_us, if_pos ⟨by omega, c⟩]
      · rw [zt_un e, a]
        by_cases q : p < i ∧ w p = nI 2 ∧ pm_oW l k D n w p = nI 0
        · rw [if_pos q, if_pos ⟨by omega, q.2⟩]
        · rw [if_neg q, if_neg (fun h => q ⟨by omega, h.2⟩)]
    · rw [if_neg c, a]
      by_cases q : p < i ∧ w p = nI 2 ∧ pm_oW l k D n w p = nI 0
      · rw [if_pos q, if_pos ⟨by omega, q.2⟩]
      · rw [if_neg q, if_neg (fun h => ?_)]
        by_cases e : p = i
        · subst e; exact c h.2
        · exact q ⟨by omega, h.2⟩
/-- after j weeks: those who are bound, or were -/
def pm_Bd (l : Nat) (k : Nat → Nat) (D : Nat → Nat → Nat) (n : Nat) (w : Nat → Int32) (j : Nat) (v : Nat → Int32) : Prop := v 64 = w 64 + nI j ∧ ∀ p, p < n → v (24 + p) = w (24 + p) ∧ v (40 + p) = w (40 + p) ∧ v (56 + p) = w (56 + p) ∧ (w p ≠ nI 0 → v (32 + p) = w (32 + p)) ∧ (w p ≠ nI 2 → v p = w p) ∧ (w p = nI 2 → (pm_fb (pm_Qw l k D n w p) j = true → v p = nI 3) ∧ (pm_fb (pm_Qw l k D n w p) j = false → v p = nI 2 ∧ v (16 + p) = w (16 + p) + nI j))
theorem Bd_0 (l : Nat) (k : Nat → Nat) (D : Nat → Nat → Nat) (n : Nat) (w : Nat → Int32) : pm_Bd l k D n w 0 w := by
  refine ⟨by rw [nI_0, Int32.add_zero], fun p hp => ⟨rfl, rfl, rfl, fun _ => rfl, fun _ => rfl, fun h => ⟨fun hf => absurd hf (by simp [pm_fb]), fun _ => ⟨h, by rw [nI_0, Int32.add_zero]⟩⟩⟩⟩
theorem Bd_65 {l n j : Nat} {k : Nat → Nat} {D : Nat → Nat → Nat} {w v : Nat → Int32} {x : Int32} (h8 : n ≤ 8) (h : pm_Bd l k D n w j v) : pm_Bd l k D n w j (upd v 65 x) := by
  obtain ⟨h1, h2⟩ := h
  refine ⟨by rw [zt_un (by omega)]; exact h1, fun p hp => ?_⟩
  rw [zt_un (by omega), zt_un (by omega), zt_un (by omega), zt_un (by omega), zt_un (by omega), zt_un (by omega)]
  exact h2 p hp
theorem max0 {a b : Nat} (ha : a < 2 ^ 30) (hb : b < 2 ^ 30) : pm_max (nI 0) (nI a - nI b) = nI 0 ↔ a ≤ b := by
  have h0 : (nI 0).toInt = 0 := by decide
  unfold pm_max
  rw [h0, pk_sub_toInt ha hb]
  by_cases c : a ≤ b
  · rw [if_neg (by omega)]; simp [c]
  · rw [if_pos (by omega), pk_sub (by omega), nI_eq (by omega) (by omega)]; omega
theorem Bd_s {l n j : Nat} {k : Nat → Nat} {D : Nat → Nat → Nat} {w v : Nat → Int32} (h8 : n ≤ 8) (hj : j < 100000) (hw : pm_wf l k) (hi : pm_inv n w) (h : pm_Bd l k D n w j v) : pm_Bd l k D n w (j + 1) (pm_pass l k D n v) := by
  obtain ⟨wk, st, hwk, hst, e64, e65, hp⟩ := hi
  obtain ⟨h1, h2⟩ := h
  have k64 : pm_pass l k D n v 64 = v 64 + nI 1 := by
    unfold pm_pass
    rw [p3_hi _ _ _ _ _ n h8 64 (by omega)]
    unfold pm_p2
    rw [zt_us, p1_un v n h8 64 (by omega)]
  refine ⟨by rw [k64, h1, Int32.add_assoc, nI_add], fun p hpn => ?_⟩
  obtain ⟨b1, b2, b3, b4, b5, b6⟩ := h2 p hpn
  have kk : ∀ j, 16 ≤ j → j ≠ 64 → pm_pass l k D n v j = pm_p1 v n j := fun j hj hj2 => by
    unfold pm_pass
    rw [p3_hi _ _ _ _ _ n h8 j hj]
    unfold pm_p2
    rw [zt_un hj2]
  refine ⟨by rw [kk _ (by omega) (by omega), p1_un v n h8 _ (by omega)]; exact b1, by rw [kk _ (by omega) (by omega), p1_un v n h8 _ (by omega)]; exact b2, by rw [kk _ (by omega) (by omega), p1_un v n h8 _ (by omega)]; exact b3, fun c => ?_, fun c => ?_, fun c => ?_⟩
  · have vp : v p ≠ nI 0 := by
      by_cases c2 : w p = nI 2
      · by_cases f : pm_fb (pm_Qw l k D n w p) j = true
        · rw [(b6 c2).1 f]; decide
        · rw [((b6 c2).2 (Bool.eq_false_iff.mpr f)).1]; decide
      · rw [b5 c2]; exact c
    rw [kk _ (by omega) (by omega), p1_32 v (by omega) vp n h8]
    exact b4 c
  · have e : pm_pass l k D n v p = v p := by
      unfold pm_pass
      have q2 : pm_p2 v n p = v p := by unfold pm_p2; rw [zt_un (by omega), p1_lo v n h8 p (by omega)]
      rw [p3_lo _ _ _ _ _ n h8 p (by omega), q2, if_neg (fun h => c (by rw [← b5 c]; exact h.2.1))]
    rw [e]
    exact b5 c
  · have q2 : pm_p2 v n p = v p := by unfold pm_p2; rw [zt_un (by omega), p1_lo v n h8 p (by omega)]
    have e0 : pm_pass l k D n v p = if v p = nI 2 ∧ pm_oW l k D n (pm_p2 v n) p = nI 0 then nI 3 else v p := by
      unfold pm_pass
      rw [p3_lo _ _ _ _ _ n h8 p (by omega), q2]
      by_cases z : v p = nI 2 ∧ pm_oW l k D n (pm_p2 v n) p = nI 0
      · rw [if_pos ⟨hpn, z⟩, if_pos z]
      · rw [if_neg (fun h => z h.2), if_neg z]
    by_cases f : pm_fb (pm_Qw l k D n w p) j = true
    · have v3 := (b6 c).1 f
      have n32 : ¬ nI 3 = nI 2 := by decide
      refine ⟨fun _ => ?_, fun h => ?_⟩
      · rw [e0, v3, if_neg (fun h => n32 h.1)]
      · rw [pm_fb, f] at h; cases h
    · have f' := Bool.eq_false_iff.mpr f
      obtain ⟨v2, vs⟩ := (b6 c).2 f'
      obtain ⟨⟨s, hs, es⟩, _, hpl⟩ := (hp p hpn).2
      have hpl := hpl c
      have wp0 : w p ≠ nI 0 := by rw [c]; decide
      have vp0 : v p ≠ nI 0 := by rw [v2]; decide
      have a16 : pm_p2 v n (16 + p) = nI (s + (j + 1)) := by
        unfold pm_p2
        rw [zt_un (by omega), p1_16 v n h8 p (by omega), if_pos ⟨hpn, v2⟩, vs, es, nI_add, nI_add]
        rfl
      have aS : pm_aS l k D n (pm_p2 v n) p = pm_av l k (pm_w7 (pm_ppr D n w p (nI (D 1 p)) (w (24 + p))) (w 64 + nI (j + 1))) := by
        unfold pm_aS
        refine av_cong hw (fun i hi => ?_)
        have p24 : pm_p2 v n (24 + p) = w (24 + p) := by unfold pm_p2; rw [zt_un (by omega), p1_un v n h8 _ (by omega)]; exact b1
        have p40 : pm_p2 v n (40 + p) = w (40 + p) := by unfold pm_p2; rw [zt_un (by omega), p1_un v n h8 _ (by omega)]; exact b2
        have p56 : pm_p2 v n (56 + p) = w (56 + p) := by unfold pm_p2; rw [zt_un (by omega), p1_un v n h8 _ (by omega)]; exact b3
        have p32 : pm_p2 v n (32 + p) = w (32 + p) := by unfold pm_p2; rw [zt_un (by omega), p1_32 v (by omega) vp0 n h8]; exact b4 wp0
        have p64 : pm_p2 v n 64 = w 64 + nI (j + 1) := by unfold pm_p2; rw [zt_us, p1_un v n h8 64 (by omega), h1, Int32.add_assoc, nI_add]
        have q : i = 0 ∨ i = 1 ∨ i = 2 ∨ i = 3 ∨ i = 4 ∨ i = 5 ∨ i = 6 ∨ i = 7 := by omega
        rcases q with rfl | rfl | rfl | rfl | rfl | rfl | rfl | rfl <;> simp [pm_w7, pm_ppr, p24, p40, p56, p32, p64, hpl]
      have oz : pm_oW l k D n (pm_p2 v n) p = nI 0 ↔ pm_Qw l k D n w p (j + 1) = true := by
        obtain ⟨a, ha, ea⟩ := av_nI l k (pm_w7 (pm_ppr D n w p (nI (D 1 p)) (w (24 + p))) (w 64 + nI (j + 1)))
        have n23 : ¬ nI 2 = nI 3 := by decide
        unfold pm_oW pm_Qw
        rw [q2, v2, if_neg n23, aS, ea, a16, max0 (by omega) (by omega), es, nI_add, nI_toInt (by omega), nI_toInt (by omega)]
        simp
        omega
      refine ⟨fun h => ?_, fun h => ?_⟩
      · rw [pm_fb, f', Bool.false_or] at h
        rw [e0, if_pos ⟨v2, oz.mpr h⟩]
      · rw [pm_fb, f', Bool.false_or] at h
        rw [e0, if_neg (fun z => by rw [oz.mp z.2] at h; cases h)]
        refine ⟨v2, ?_⟩
        rw [kk _ (by omega) (by omega), p1_16 v n h8 p (by omega), if_pos ⟨hpn, v2⟩, vs, Int32.add_assoc, nI_add]
/-- the stores after a week, and who was hungry -/
theorem St_s {l n st : Nat} {k : Nat → Nat} {D : Nat → Nat → Nat} {v : Nat → Int32} (h8 : n ≤ 8) (hst : st < 2 ^ 30) (h : v 65 = nI st) : pm_pass l k D n v 65 = nI (st - pm_cnt (fun p => decide (v p = nI 0)) n) ∧ pm_ph v n = pm_cnt (fun p => decide (v p = nI 0)) n - st := by
  obtain ⟨a1, a2⟩ := p1_65 v hst h n h8
  refine ⟨?_, a2⟩
  unfold pm_pass
  rw [p3_hi _ _ _ _ _ n h8 65 (by omega)]
  unfold pm_p2
  rw [zt_un (by omega), a1]
theorem Bd_ab {l n j : Nat} {k : Nat → Nat} {D : Nat → Nat → Nat} {w v : Nat → Int32} (h : pm_Bd l k D n w j v) : pm_cnt (fun p => decide (v p = nI 0)) n = pm_cnt (fun p => decide (w p = nI 0)) n := by
  refine cn_cong (fun p hp => ?_)
  obtain ⟨_, _, _, _, b5, b6⟩ := h.2 p hp
  by_cases c : w p = nI 2
  · have z2 : ¬ nI 2 = nI 0 := by decide
    have z3 : ¬ nI 3 = nI 0 := by decide
    by_cases f : pm_fb (pm_Qw l k D n w p) j = true
    · rw [(b6 c).1 f, c]; simp [z2, z3]
    · rw [((b6 c).2 (Bool.eq_false_iff.mpr f)).1, c]
  · rw [b5 c]
theorem Bd_fr {l n j : Nat} {k : Nat → Nat} {D : Nat → Nat → Nat} {w v : Nat → Int32} (h : pm_Bd l k D n w j v) {p : Nat} (hp : p < n) : decide (v p = nI 3) = (decide (w p = nI 3) || (decide (w p = nI 2) && pm_fb (pm_Qw l k D n w p) j)) := by
  obtain ⟨_, _, _, _, b5, b6⟩ := h.2 p hp
  have z2 : ¬ nI 2 = nI 3 := by decide
  by_cases c : w p = nI 2
  · by_cases f : pm_fb (pm_Qw l k D n w p) j = true
    · rw [(b6 c).1 f, c, f]; simp
    · rw [((b6 c).2 (Bool.eq_false_iff.mpr f)).1, c, Bool.eq_false_iff.mpr f]; simp
  · rw [b5 c]; simp [c]
theorem Bd_bd {l n j : Nat} {k : Nat → Nat} {D : Nat → Nat → Nat} {w v : Nat → Int32} (h : pm_Bd l k D n w j v) {p : Nat} (hp : p < n) : decide (v p = nI 2) = (decide (w p = nI 2) && !pm_fb (pm_Qw l k D n w p) j) := by
  obtain ⟨_, _, _, _, b5, b6⟩ := h.2 p hp
  have z2 : ¬ nI 3 = nI 2 := by decide
  by_cases c : w p = nI 2
  · by_cases f : pm_fb (pm_Qw l k D n w p) j = true
    · rw [(b6 c).1 f, c, f]; simp [z2]
    · rw [((b6 c).2 (Bool.eq_false_iff.mpr f)).1, c, Bool.eq_false_iff.mpr f]; simp
  · rw [b5 c]; simp [c]
