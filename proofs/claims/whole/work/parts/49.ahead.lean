/-! AHEAD, HUNGER -/
theorem maxs {x y : Nat} (hx : x < 2 ^ 30) (hy : y < 2 ^ 30) : pm_max (nI 0) (nI x - nI y) = nI (x - y) := by
  have h0 : (nI 0).toInt = 0 := by decide
  unfold pm_max
  rw [h0, pk_sub_toInt hx hy]
  by_cases c : x ≤ y
  · rw [if_neg (by omega), show x - y = 0 by omega]
  · rw [if_pos (by omega), pk_sub (by omega)]
theorem cn_or {A B : Nat → Bool} : ∀ {n : Nat}, (∀ i, i < n → ¬ (A i = true ∧ B i = true)) → pm_cnt (fun i => A i || B i) n = pm_cnt A n + pm_cnt B n
  | 0, _ => rfl
  | n + 1, h => by
    have a := cn_or (n := n) (fun i hi => h i (by omega))
    have b := h n (by omega)
    unfold pm_cnt
    rw [a]
    cases hA : A n <;> cases hB : B n <;> simp [hA, hB] at b ⊢ <;> omega
theorem cn_nf (Q : Nat → Bool) : ∀ m, pm_cnt (fun j => !pm_fb Q j) m = (pm_fiw Q m).getD m ∧ (pm_fiw Q m = none → pm_cnt (fun j => !pm_fb Q j) m = m)
  | 0 => ⟨rfl, fun _ => rfl⟩
  | m + 1 => by
    obtain ⟨a, b⟩ := cn_nf Q m
    have f := fi_fb Q m
    unfold pm_cnt
    cases e : pm_fiw Q m with
    | some i =>
      rw [e] at f a
      have e2 : pm_fiw Q (m + 1) = some i := by unfold pm_fiw; rw [e]
      rw [e2, a, f]
      exact ⟨rfl, fun h => by cases h⟩
    | none =>
      rw [e] at f
      have c := b e
      rw [c, f]
      by_cases q : Q (m + 1) = true
      · have e2 : pm_fiw Q (m + 1) = some (m + 1) := by unfold pm_fiw; rw [e]; simp [q]
        rw [e2]
        exact ⟨rfl, fun h => by cases h⟩
      · have e2 := fi_miss e (Bool.eq_false_iff.mpr q)
        rw [e2]
        exact ⟨rfl, fun _ => rfl⟩
def pm_gq (l : Nat) (k : Nat → Nat) (D : Nat → Nat → Nat) (n : Nat) (w : Nat → Int32) (m p : Nat) : Nat := if w p = nI 2 then (pm_fiw (pm_Qw l k D n w p) m).getD m else 0
theorem su_le {f : Nat → Nat} {b : Nat} : ∀ {n : Nat}, (∀ i, i < n → f i ≤ b) → pm_su f n ≤ n * b
  | 0, _ => by unfold pm_su; omega
  | n + 1, h => by
    have a := su_le (n := n) (fun i hi => h i (by omega))
    have c := h n (by omega)
    unfold pm_su
    rw [Nat.succ_mul]
    omega
section Ah
variable {J : Nat → Nat → Int64} {r k : Nat}
theorem l54 {n t m A l0 l1 : Nat} {k0 k1 : Nat → Nat} {D : Nat → Nat → Nat} {w : Nat → Int32} (hm : m ≤ 600) : ∀ (d i fu : Nat) (I : Nat → Nat → Int32), i + d = n → d < fu → pm_CQ r n t D l0 k0 l1 k1 I → I 5 = w → ∃ I', f54_8 r fu (nI m) (nI (A + pm_cnt (fun p => decide (w p = nI 2) && pm_fb (pm_Qw l0 k0 D n w p) m) i)) (nI i) I J = some (nI (A + pm_cnt (fun p => decide (w p = nI 2) && pm_fb (pm_Qw l0 k0 D n w p) m) n), I', J) := by
  intro d
  induction d with
  | zero =>
    intro i fu I hi hf hQ hw
    obtain ⟨fu, rfl⟩ : ∃ k, fu = k + 1 := ⟨fu - 1, by omega⟩
    have h8 := hQ.1.2.2.2.2.1
    refine ⟨I, ?_⟩
    rw [f54_8, hQ.1.2.1, if_neg (by rw [nI_toInt (by omega), nI_toInt (by omega)]; omega), show i = n by omega]
  | succ d ih =>
    intro i fu I hi hf hQ hw
    obtain ⟨fu, rfl⟩ : ∃ k, fu = k + 1 := ⟨fu - 1, by omega⟩
    have h8 := hQ.1.2.2.2.2.1
    obtain ⟨I1, e1⟩ := e53 (J := J) (m := m) (x := 0) (p := i) hm (by omega) hQ (by omega)
    have g1 := (fr_53 _ _ _ e1).1
    have i5 : I1 5 = w := by rw [ag_cell g1 (by decide) (by intro f; simp)]; exact hw
    obtain ⟨I', r1⟩ := ih (i + 1) fu I1 (by omega) (by omega) (CQ_ag hQ g1 (by decide)) i5
    rw [hw] at e1
    refine ⟨I', ?_⟩
    rw [f54_8, hQ.1.2.1, if_pos (by rw [nI_toInt (by omega), nI_toInt (by omega)]; omega)]
    show (f53 r (nI i) (nI 0) (nI m) I J).bind _ = _
    rw [e1, zt_bind]
    rw [pm_cnt] at r1
    show (if (if w i = nI 2 then pm_fvw (pm_Qw l0 k0 D n w i) m else pm_m1) = pm_m1 then _ else _) = _
    rw [nI_1, nI_1]
    have f := fi_fb (pm_Qw l0 k0 D n w i) m
    by_cases c : w i = nI 2
    · rw [if_pos c]
      unfold pm_fvw
      cases e : pm_fiw (pm_Qw l0 k0 D n w i) m with
      | none =>
        rw [e] at f
        simp only [c, f, Option.isSome_none, Bool.and_false, Bool.false_eq_true, if_false, if_true, Nat.add_zero] at r1 ⊢
        exact r1
      | some q =>
        rw [e] at f
        have hq := fi_le _ _ _ e
        have ne : ¬ nI q = pm_m1 := by rw [zt_eqm (by omega)]; exact id
        simp only [c, f, Option.isSome_some, decide_true, Bool.and_self, if_true, ne, if_false] at r1 ⊢
        exact r1
    · rw [if_neg c, if_pos rfl]
      simp only [c, decide_false, Bool.false_and, Bool.false_eq_true, if_false, Nat.add_zero] at r1
      exact r1
theorem e54 {n t m l0 l1 : Nat} {k0 k1 : Nat → Nat} {D : Nat → Nat → Nat} {I : Nat → Nat → Int32} (hm : m ≤ 600) (hQ : pm_CQ r n t D l0 k0 l1 k1 I) : ∃ I', f54 r (nI m) I J = some (nI (pm_cnt (fun p => decide (I 5 p = nI 3)) n + pm_cnt (fun p => decide (I 5 p = nI 2) && pm_fb (pm_Qw l0 k0 D n (I 5) p) m) n), I', J) := by
  have h8 := hQ.1.2.2.2.2.1
  obtain ⟨I', e⟩ := l54 (J := J) (A := pm_cnt (fun p => decide (I 5 p = nI 3)) n) (w := I 5) hm n 0 pm_FU I (by omega) (by unfold pm_FU; omega) hQ rfl
  refine ⟨I', ?_⟩
  rw [pm_cnt, Nat.add_zero, nI_0] at e
  unfold f54
  rw [e36 hQ.1.2.1 h8, zt_bind]
  exact e
theorem l55 {n t m l0 l1 : Nat} {k0 k1 : Nat → Nat} {D : Nat → Nat → Nat} {w : Nat → Int32} (hm : m ≤ 600) : ∀ (d i fu : Nat) (I : Nat → Nat → Int32), i + d = n → d < fu → pm_CQ r n t D l0 k0 l1 k1 I → I 5 = w → ∃ I', f55_4 r fu (nI m) (nI (pm_su (pm_gq l0 k0 D n w m) i)) (nI i) I J = some (nI (pm_su (pm_gq l0 k0 D n w m) n), I', J) := by
  intro d
  induction d with
  | zero =>
    intro i fu I hi hf hQ hw
    obtain ⟨fu, rfl⟩ : ∃ k, fu = k + 1 := ⟨fu - 1, by omega⟩
    have h8 := hQ.1.2.2.2.2.1
    refine ⟨I, ?_⟩
    rw [f55_4, hQ.1.2.1, if_neg (by rw [nI_toInt (by omega), nI_toInt (by omega)]; omega), show i = n by omega]
  | succ d ih =>
    intro i fu I hi hf hQ hw
    obtain ⟨fu, rfl⟩ : ∃ k, fu = k + 1 := ⟨fu - 1, by omega⟩
    have h8 := hQ.1.2.2.2.2.1
    rw [f55_4, hQ.1.2.1, if_pos (by rw [nI_toInt (by omega), nI_toInt (by omega)]; omega), zt_lit 2, e30 (by omega), hw]
    by_cases c : w i = nI 2
    · obtain ⟨I1, e1⟩ := e53 (J := J) (m := m) (x := 0) (p := i) hm (by omega) hQ (by omega)
      have g1 := (fr_53 _ _ _ e1).1
      have i5 : I1 5 = w := by rw [ag_cell g1 (by decide) (by intro f; simp)]; exact hw
      obtain ⟨I', r1⟩ := ih (i + 1) fu I1 (by omega) (by omega) (CQ_ag hQ g1 (by decide)) i5
      rw [hw, if_pos c] at e1
      change f53 r (nI i) (nI 0) (nI m) I J = some (pm_fvw (pm_Qw l0 k0 D n w i) m, I1, J) at e1
      refine ⟨I', ?_⟩
      simp only [c, decide_true, if_true]
      show (f53 r (nI i) (nI 0) (nI m) I J).bind _ = _
      rw [e1, zt_bind]
      have gq : pm_gq l0 k0 D n w m i = (pm_fiw (pm_Qw l0 k0 D n w i) m).getD m := by unfold pm_gq; rw [if_pos c]
      rw [pm_su, gq] at r1
      show (if pm_fvw (pm_Qw l0 k0 D n w i) m = pm_m1 then f55_4 r fu (nI m) (nI (pm_su (pm_gq l0 k0 D n w m) i) + nI m) (nI i + 1) I1 J else f55_4 r fu (nI m) (nI (pm_su (pm_gq l0 k0 D n w m) i) + pm_fvw (pm_Qw l0 k0 D n w i) m) (nI i + 1) I1 J) = _
      rw [nI_1]
      cases e : pm_fiw (pm_Qw l0 k0 D n w i) m with
      | none =>
        rw [e] at r1
        have fv : pm_fvw (pm_Qw l0 k0 D n w i) m = pm_m1 := by unfold pm_fvw; rw [e]
        rw [if_pos fv, nI_add]
        exact r1
      | some q =>
        rw [e] at r1
        have fv : pm_fvw (pm_Qw l0 k0 D n w i) m = nI q := by unfold pm_fvw; rw [e]
        have hq := fi_le _ _ _ e
        have ne : ¬ nI q = pm_m1 := by rw [zt_eqm (by omega)]; exact id
        rw [fv, if_neg ne, nI_add]
        exact r1
    · obtain ⟨I', r1⟩ := ih (i + 1) fu I (by omega) (by omega) hQ hw
      refine ⟨I', ?_⟩
      rw [pm_su] at r1
      unfold pm_gq at r1
      rw [if_neg c, Nat.add_zero] at r1
      simp only [c, decide_false, Bool.false_eq_true, if_false]
      rw [nI_1]
      exact r1
theorem e55 {n t m l0 l1 : Nat} {k0 k1 : Nat → Nat} {D : Nat → Nat → Nat} {I : Nat → Nat → Int32} (hm : m ≤ 600) (hQ : pm_CQ r n t D l0 k0 l1 k1 I) : ∃ I', f55 r (nI m) I J = some (nI (pm_su (pm_gq l0 k0 D n (I 5) m) n), I', J) := by
  have h8 := hQ.1.2.2.2.2.1
  obtain ⟨I', e⟩ := l55 (J := J) (w := I 5) hm n 0 pm_FU I (by omega) (by unfold pm_FU; omega) hQ rfl
  refine ⟨I', ?_⟩
  rw [pm_su, nI_0] at e
  unfold f55
  exact e
def pm_ah (l : Nat) (k : Nat → Nat) (D : Nat → Nat → Nat) (n st : Nat) (w : Nat → Int32) (m q : Nat) : Int32 := if q = 0 then nI (pm_cnt (fun p => decide (w p = nI 3)) n + pm_cnt (fun p => decide (w p = nI 2) && pm_fb (pm_Qw l k D n w p) m) n) else if q = 1 then nI (pm_su (pm_gq l k D n w m) n) else nI (pm_cnt (fun p => decide (w p = nI 0)) n * m - st)
theorem Bd_free {l n m : Nat} {k : Nat → Nat} {D : Nat → Nat → Nat} {w v : Nat → Int32} (h : pm_Bd l k D n w m v) : pm_cnt (fun p => decide (v p = nI 3)) n = pm_cnt (fun p => decide (w p = nI 3)) n + pm_cnt (fun p => decide (w p = nI 2) && pm_fb (pm_Qw l k D n w p) m) n := by
  rw [cn_cong (fun p hp => Bd_fr h hp)]
  refine cn_or (fun p hp hh => ?_)
  have a := of_decide_eq_true hh.1
  have b := hh.2
  rw [a] at b
  have z : ¬ nI 3 = nI 2 := by decide
  simp [z] at b
theorem gq_eq {l n m : Nat} {k : Nat → Nat} {D : Nat → Nat → Nat} {w : Nat → Int32} : pm_su (fun j => pm_cnt (fun p => decide (w p = nI 2) && !pm_fb (pm_Qw l k D n w p) j) n) m = pm_su (pm_gq l k D n w m) n := by
  rw [su_swap (Q := fun j p => decide (w p = nI 2) && !pm_fb (pm_Qw l k D n w p) j)]
  refine su_cong (fun p hp => ?_)
  unfold pm_gq
  by_cases c : w p = nI 2
  · rw [if_pos c, ← (cn_nf (pm_Qw l k D n w p) m).1]
    exact cn_cong (fun j _ => by simp [c])
  · rw [if_neg c]
    exact cn_none (fun j _ => by simp [c])
theorem l287 {n t m q st l0 l1 : Nat} {k0 k1 : Nat → Nat} {D : Nat → Nat → Nat} {w : Nat → Int32} (hm : m ≤ 600) (hq : q < 3) (hi : pm_inv n w) (hst : st ≤ 400) : ∀ (d j fu : Nat) (I : Nat → Nat → Int32) (v : Nat → Int32), j + d = m → d < fu → pm_MQ n t D l0 k0 l1 k1 I → I 127 40 = nI 0 → pm_ms n (I 144) v → pm_Bd l0 k0 D n w j v → v 65 = nI (st - pm_cnt (fun p => decide (w p = nI 0)) n * j) → I 127 41 = nI (pm_cnt (fun p => decide (w p = nI 0)) n * j - st) → I 127 42 = nI (pm_su (fun j => pm_cnt (fun p => decide (w p = nI 2) && !pm_fb (pm_Qw l0 k0 D n w p) j) n) j) → ∃ I', f287_47 fu (nI m) (nI q) (nI j) I J = some (pm_ah l0 k0 D n st w m q, I', J) := by
  intro d
  induction d with
  | zero =>
    intro j fu I v hj hf hQ hru hs hB h65 h41 h42
    obtain ⟨fu, rfl⟩ : ∃ k, fu = k + 1 := ⟨fu - 1, by omega⟩
    have h8 := hQ.1.2.2.2.1
    have e : j = m := by omega
    subst e
    refine ⟨I, ?_⟩
    rw [f287_47, if_neg (by omega)]
    unfold pm_ah
    have z : q = 0 ∨ q = 1 ∨ q = 2 := by omega
    rcases z with rfl | rfl | rfl
    · rw [if_pos (by decide), zt_lit 3, e257 hQ.1.1 h8, zt_bind, cn_ms h8 hs, Bd_free hB]
      rfl
    · rw [if_neg (by decide), if_pos (by decide), h42, gq_eq]
      rfl
    · rw [if_neg (by decide), if_neg (by decide), h41]
      rfl
  | succ d ih =>
    intro j fu I v hj hf hQ hru hs hB h65 h41 h42
    obtain ⟨fu, rfl⟩ : ∃ k, fu = k + 1 := ⟨fu - 1, by omega⟩
    have h8 := hQ.1.2.2.2.1
    have hc := cn_le (fun p => decide (w p = nI 0)) n
    obtain ⟨I1, e1, s1, c1, c2, g1⟩ := e272 (J := J) (x := 0) (by omega) hQ hru hs
    have B1 := Bd_s h8 (by omega) hQ.2.2.2.2.1 hi hB
    obtain ⟨t1, t2⟩ := St_s (l := l0) (k := k0) (D := D) h8 (by omega) h65
    rw [Bd_ab hB] at t1 t2
    have mul : pm_cnt (fun p => decide (w p = nI 0)) n * (j + 1) = pm_cnt (fun p => decide (w p = nI 0)) n * j + pm_cnt (fun p => decide (w p = nI 0)) n := Nat.mul_succ _ _
    rw [f287_47, if_pos (by rw [nI_toInt (by omega), nI_toInt (by omega)]; omega), e1, zt_bind]
    show ∃ I', f287_47 fu (nI m) (nI q) (nI j + 1) I1 J = _
    rw [nI_1]
    refine ih (j + 1) fu I1 _ (by omega) (by omega) (MQ_ag hQ g1 (by decide)) (by rw [g1 127 40 (by decide) (by decide)]; exact hru) s1 B1 ?_ ?_ ?_
    · show pm_pass l0 k0 D n v 65 = _
      rw [t1]
      congr 1
      omega
    · rw [c1, h41, t2, nI_add]
      congr 1
      omega
    · rw [c2, h42, nI_add, pm_su, cn_cong (fun p hp => Bd_bd hB hp)]
theorem e287 {n t m q l0 l1 : Nat} {k0 k1 : Nat → Nat} {D : Nat → Nat → Nat} {w : Nat → Int32} {I : Nat → Nat → Int32} {st : Nat} (hm : m ≤ 600) (hq : q < 3) (hi : pm_inv n w) (hst : st ≤ 400) (h65 : w 65 = nI st) (hQ : pm_MQ n t D l0 k0 l1 k1 I) (hru : I 127 40 = nI 0) (h41 : I 127 41 = nI 0) (h42 : I 127 42 = nI 0) (hs : pm_ms n (I 144) w) : ∃ I', f287_47 pm_FU (nI m) (nI q) 0 I J = some (pm_ah l0 k0 D n st w m q, I', J) := by
  have e := l287 (J := J) hm hq hi hst m 0 pm_FU I w (by omega) (by unfold pm_FU; omega) hQ hru hs (Bd_0 _ _ _ _ _) (by rw [Nat.mul_zero, Nat.sub_zero]; exact h65) (by rw [Nat.mul_zero, Nat.zero_sub]; exact h41) (by rw [pm_su]; exact h42)
  rw [nI_0] at e
  exact e
theorem K16 {I : Nat → Nat → Int32} {x y : Int32} (hRR : pm_RR r k I) : pm_KK r k (fun v b : Int32 => v = b) 1 1 (fun I J => f188 r x y I J) (fun I J => f287 x y I J) I J := by
  obtain ⟨n, t, D, l0, k0, l1, k1, h⟩ := hRR
  obtain ⟨Ib, n2, n3, n4⟩ := il_e h
  have hC := h.1.1
  have h8 := hC.1.2.2.2.2.1
  have hi := h.1.2.2.1.2
  obtain ⟨wk, st, hwk, hst, e64, e65, hpp⟩ := id hi
  have e6 : ((600 : Int32)).toInt = 600 := by decide
  have e2 : ((2 : Int32)).toInt = 2 := by decide
  rcases tr2 x 0 600 (by omega) with ⟨m, _, hm, rfl⟩ | hx
  · have u1 : ¬ (nI m).toInt < 0 := by rw [nI_toInt (by omega)]; omega
    have u2 : ¬ ((600 : Int32)).toInt < (nI m).toInt := by rw [nI_toInt (by omega), e6]; omega
    have ga := fun I => v241g (p := m) (a := 0) (b := 600) (I := I) (by omega) (by omega) (by omega)
    rcases tr2 y 0 2 (by omega) with ⟨q, _, hq, rfl⟩ | hy
    · have gb := fun I => v241g (p := q) (a := 0) (b := 2) (I := I) (by omega) (by omega) (by omega)
      have hcn := cn_le (fun p => decide (I 5 p = nI 0)) n
      have hmul : pm_cnt (fun p => decide (I 5 p = nI 0)) n * m ≤ 8 * 600 := Nat.mul_le_mul (by omega) hm
      have cl : ∃ I1, f188 r (nI m) (nI q) I J = some (.inl (pm_ah l0 k0 D n st (I 5) m q), I1, J) ∧ pm_ag [8, 11, 12] [] I I1 := by
        obtain ⟨Ia, ea⟩ := e54 (J := J) hm hC
        obtain ⟨Ic, ec⟩ := e55 (J := J) hm hC
        unfold f188 pm_ah
        rw [nd_g u1 u2, nd_g (x := nI q) (by rw [nI_toInt (by omega)]; omega) (by rw [nI_toInt (by omega), e2]; omega)]
        have z : q = 0 ∨ q = 1 ∨ q = 2 := by omega
        rcases z with rfl | rfl | rfl
        · refine ⟨Ia, ?_, (fr_54 _ _ _ ea).1⟩
          rw [if_pos (by decide), ea, zt_bind]
          rfl
        · refine ⟨Ic, ?_, (fr_55 _ _ _ ec).1⟩
          rw [if_neg (by decide), if_pos (by decide), ec, zt_bind]
          rfl
        · refine ⟨I, ?_, ag_refl⟩
          rw [if_neg (by decide), if_neg (by decide), zt_lit 0, e36 hC.1.2.1 h8, zt_bind]
          show some (Sum.inl (pm_max (nI 0) (nI (pm_cnt (fun p => decide (I 5 p = nI 0)) n) * nI m - v108 I)), I, J) = _
          unfold v108
          rw [zt_lit 65, zt_at (by omega) (by omega), e65, pk_mul, maxs (by omega) (by omega)]
          rfl
      obtain ⟨I1, ecl, g1⟩ := cl
      have R1 := R0_t0 (x := 0) (R0_ag h g1 rfl)
      have i5 : I1 5 = I 5 := ag_cell g1 (by decide) (by intro f; simp)
      refine KK_v (v := pm_ah l0 k0 D n st (I 5) m q) (I1 := I1) (J1 := J) ecl aj_refl (fun J' => ?_)
      obtain ⟨I3, e3, s3, ru3, u41, u42, g3⟩ := e253 (I := pm_w I1 127 0 0) (J := J') R1.1.2.2.1.1
      have R3 := R0_ag R1 g3 rfl
      rw [zt_wc (by omega), i5] at s3
      obtain ⟨I4, e4⟩ := e287 (J := J') hm (show q < 3 by omega) hi hst e65 R3.1.2.1 ru3 u41 u42 s3
      have g4 := fr_287_47 _ _ _ _ _ _ _ _ _ e4
      refine ⟨I4, ?_, ?_, R0_R (R0_ag R3 g4.1 rfl)⟩
      · have hg : f222 1 1 1 (pm_w I1 127 0 0) J' = some (true, pm_w I1 127 0 0, J') := e222g (I := pm_w I1 127 0 0) (J := J') (c := 1) (k := 1) (by rw [zt_ws]; rfl)
        have ga' : v241 (nI m) 0 600 (pm_w I1 127 0 0) = true := ga _
        have gb' : v241 (nI q) 0 2 (pm_w I1 127 0 0) = true := gb _
        unfold f287
        rw [pm_lt_eq]
        simp only [ga', gb', if_true, hg, zt_bind, e3]
        exact e4
      · rw [g4.1 127 0 (by decide) (by decide), g3 127 0 (by decide) (by decide), zt_ws]; rfl
    · have vb := fun I => v241b (x := y) (a := 0) (b := 2) (I := I) (by omega) (by omega) (by omega)
      refine KK_2 (b := nI 0) (Ia := pm_w I 0 13 (I 0 13 + nI 1)) (Ib := Ib) ?_ (fun J' => ?_) n3 n4
      · unfold f188
        rw [nd_g u1 u2, nd_b (by rw [e2]; omega)]
      · have ga' : v241 (nI m) 0 600 (pm_w (pm_w I 0 13 (I 0 13 + nI 1)) 127 0 0) = true := ga _
        have vb' : v241 y 0 2 (pm_w (pm_w I 0 13 (I 0 13 + nI 1)) 127 0 0) = false := vb _
        have n2' : f222 0 1 1 (pm_w (pm_w I 0 13 (I 0 13 + nI 1)) 127 0 0) J' = some (false, Ib, J') := n2 J'
        unfold f287
        rw [pm_lt_eq]
        simp only [ga', vb', Bool.false_eq_true, if_true, if_false, n2', zt_bind]
        rfl
  · have vb := fun I => v241b (x := x) (a := 0) (b := 600) (I := I) (by omega) (by omega) (by omega)
    refine KK_2 (b := nI 0) (Ia := pm_w I 0 13 (I 0 13 + nI 1)) (Ib := Ib) ?_ (fun J' => ?_) n3 n4
    · unfold f188
      rw [nd_b (by rw [e6]; omega)]
    · have vb' : v241 x 0 600 (pm_w (pm_w I 0 13 (I 0 13 + nI 1)) 127 0 0) = false := vb _
      have n2' : f222 0 1 1 (pm_w (pm_w I 0 13 (I 0 13 + nI 1)) 127 0 0) J' = some (false, Ib, J') := n2 J'
      unfold f287
      rw [pm_lt_eq]
      simp only [vb', Bool.false_eq_true, if_false, n2', zt_bind]
      rfl
/-! hunger -/
def pm_hu (a st : Nat) : Int32 := if 0 < a then (if 99 < st / a then pm_m1 else nI (st / a)) else pm_m1
theorem l301 {n t st l0 l1 : Nat} {k0 k1 : Nat → Nat} {D : Nat → Nat → Nat} {w : Nat → Int32} (hi : pm_inv n w) (hst : st ≤ 400) : ∀ (d j fu : Nat) (I : Nat → Nat → Int32) (v : Nat → Int32), j + d = 100 → d < fu → pm_MQ n t D l0 k0 l1 k1 I → I 127 40 = nI 0 → pm_ms n (I 144) v → pm_Bd l0 k0 D n w j v → v 65 = nI (st - pm_cnt (fun p => decide (w p = nI 0)) n * j) → I 127 41 = nI 0 → pm_cnt (fun p => decide (w p = nI 0)) n * j ≤ st → ∃ I', f301_11 fu (nI j) I J = some (pm_hu (pm_cnt (fun p => decide (w p = nI 0)) n) st, I', J) := by
  intro d
  induction d with
  | zero =>
    intro j fu I v hj hf hQ hru hs hB h65 h41 hle
    obtain ⟨fu, rfl⟩ : ∃ k, fu = k + 1 := ⟨fu - 1, by omega⟩
    have e : j = 100 := by omega
    subst e
    refine ⟨I, ?_⟩
    rw [f301_11, zt_lit 99, if_pos (by rw [nI_toInt (by omega), nI_toInt (by omega)]; omega)]
    unfold pm_hu
    by_cases c : 0 < pm_cnt (fun p => decide (w p = nI 0)) n
    · have q : 100 ≤ st / pm_cnt (fun p => decide (w p = nI 0)) n := (Nat.le_div_iff_mul_le c).mpr (by rw [Nat.mul_comm]; exact hle)
      rw [if_pos c, if_pos (by omega)]
      rfl
    · rw [if_neg c]
      rfl
  | succ d ih =>
    intro j fu I v hj hf hQ hru hs hB h65 h41 hle
    obtain ⟨fu, rfl⟩ : ∃ k, fu = k + 1 := ⟨fu - 1, by omega⟩
    have h8 := hQ.1.2.2.2.1
    have hc := cn_le (fun p => decide (w p = nI 0)) n
    obtain ⟨I1, e1, s1, c1, c2, g1⟩ := e272 (J := J) (x := 0) (by omega) hQ hru hs
    have B1 := Bd_s h8 (by omega) hQ.2.2.2.2.1 hi hB
    obtain ⟨t1, t2⟩ := St_s (l := l0) (k := k0) (D := D) h8 (by omega) h65
    rw [Bd_ab hB] at t1 t2
    have mul : pm_cnt (fun p => decide (w p = nI 0)) n * (j + 1) = pm_cnt (fun p => decide (w p = nI 0)) n * j + pm_cnt (fun p => decide (w p = nI 0)) n := Nat.mul_succ _ _
    rw [h41, t2, nI_add, Nat.zero_add] at c1
    rw [f301_11, zt_lit 99, if_neg (by rw [nI_toInt (by omega), nI_toInt (by omega)]; omega), e1, zt_bind]
    show ∃ I', (if 0 < (I1 127 41).toInt then some (nI j, I1, J) else f301_11 fu (nI j + 1) I1 J) = _
    rw [c1, nI_toInt (by omega), nI_1]
    by_cases c : pm_cnt (fun p => decide (w p = nI 0)) n * (j + 1) ≤ st
    · rw [if_neg (by omega)]
      refine ih (j + 1) fu I1 _ (by omega) (by omega) (MQ_ag hQ g1 (by decide)) (by rw [g1 127 40 (by decide) (by decide)]; exact hru) s1 B1 ?_ ?_ c
      · show pm_pass l0 k0 D n v 65 = _
        rw [t1]
        congr 1
        omega
      · rw [c1]
        congr 1
        omega
    · refine ⟨I1, ?_⟩
      rw [if_pos (by omega)]
      unfold pm_hu
      have q : st / pm_cnt (fun p => decide (w p = nI 0)) n = j := Nat.div_eq_of_lt_le (by rw [Nat.mul_comm]; exact hle) (by rw [Nat.mul_comm]; omega)
      rw [if_pos (by omega), q, if_neg (by omega)]
theorem e301 {n t l0 l1 st : Nat} {k0 k1 : Nat → Nat} {D : Nat → Nat → Nat} {w : Nat → Int32} {I : Nat → Nat → Int32} (hi : pm_inv n w) (hst : st ≤ 400) (h65 : w 65 = nI st) (hQ : pm_MQ n t D l0 k0 l1 k1 I) (hru : I 127 40 = nI 0) (h41 : I 127 41 = nI 0) (hs : pm_ms n (I 144) w) : ∃ I', f301_11 pm_FU 0 I J = some (pm_hu (pm_cnt (fun p => decide (w p = nI 0)) n) st, I', J) := by
  have e := l301 (J := J) hi hst 100 0 pm_FU I w (by omega) (by unfold pm_FU; omega) hQ hru hs (Bd_0 _ _ _ _ _) (by rw [Nat.mul_zero, Nat.sub_zero]; exact h65) h41 (by omega)
  rw [nI_0] at e
  exact e
theorem K26 {I : Nat → Nat → Int32} (hRR : pm_RR r k I) : pm_KP r k (fun I J => f167 r I J) (fun I J => f301 I J) I J := by
  obtain ⟨n, t, D, l0, k0, l1, k1, h⟩ := hRR
  have hC := h.1.1
  have h8 := hC.1.2.2.2.2.1
  have hi := h.1.2.2.1.2
  obtain ⟨wk, st, hwk, hst, e64, e65, hpp⟩ := id hi
  have R1 := R0_t0 (x := 0) h
  have hcn := cn_le (fun p => decide (I 5 p = nI 0)) n
  refine ⟨pm_hu (pm_cnt (fun p => decide (I 5 p = nI 0)) n) st, I, J, ?_, aj_refl, fun J' => ?_⟩
  · show f167 r I J = _
    unfold f167 pm_hu
    rw [zt_lit 0, e36 hC.1.2.1 h8, zt_bind]
    by_cases c : 0 < pm_cnt (fun p => decide (I 5 p = nI 0)) n
    · have c2 : ¬ pm_cnt (fun p => decide (I 5 p = nI 0)) n = 0 := by omega
      have hd : st / pm_cnt (fun p => decide (I 5 p = nI 0)) n ≤ st := Nat.div_le_self _ _
      simp (disch := omega) only [zt_lit, zt_m1, zt_lt0, zt_eq, c, c2, if_true, decide_false, Bool.not_false, zt_gd, v108, zt_at, e65, pk_div, zt_lt]
      by_cases c3 : 99 < st / pm_cnt (fun p => decide (I 5 p = nI 0)) n
      · rw [if_pos c3, if_pos c3]
      · rw [if_neg c3, if_neg c3]
    · simp (disch := omega) only [zt_lit, zt_m1, zt_lt0, c, if_false]
  · obtain ⟨I3, e3, s3, ru3, u41, u42, g3⟩ := e253 (I := pm_w I 127 0 0) (J := J') R1.1.2.2.1.1
    have R3 := R0_ag R1 g3 rfl
    rw [zt_wc (by omega)] at s3
    obtain ⟨I4, e4⟩ := e301 (J := J') hi hst e65 R3.1.2.1 ru3 u41 s3
    have g4 := fr_301_11 _ _ _ _ _ _ _ e4
    refine ⟨I4, ?_, R0_R (R0_ag R3 g4.1 rfl)⟩
    show f301 I J' = _
    unfold f301
    rw [pm_lt_eq, e3, zt_bind]
    exact e4
end Ah
