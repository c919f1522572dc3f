/-! LAND BY HEADS -/
def pm_nx (hd fl : Nat → Nat) : Nat → Option Nat
  | 0 => none
  | e + 1 => match pm_nx hd fl e with
    | none => if 0 < hd e then some e else none
    | some b => if 0 < hd e ∧ hd b * (1 + fl e) < hd e * (1 + fl b) then some e else some b
def pm_ldf (t : Nat) (hd : Nat → Nat) : Nat → (Nat → Nat)
  | 0 => fun _ => 0
  | i + 1 => match pm_nx hd (pm_ldf t hd i) t with
    | none => pm_ldf t hd i
    | some b => fun e => if e = b then pm_ldf t hd i b + 1 else pm_ldf t hd i e
def pm_enc (o : Option Nat) : Int32 := match o with
  | none => pm_m1
  | some b => nI b
theorem nx_lt {hd fl : Nat → Nat} : ∀ {e b : Nat}, pm_nx hd fl e = some b → b < e
  | 0, b, h => by cases h
  | e + 1, b, h => by
    unfold pm_nx at h
    cases q : pm_nx hd fl e with
    | none =>
      rw [q] at h
      simp only at h
      split at h
      · injection h with h; omega
      · cases h
    | some c =>
      rw [q] at h
      simp only at h
      have := nx_lt q
      split at h
      · injection h with h; omega
      · injection h with h; omega
theorem ldf_le (t : Nat) (hd : Nat → Nat) : ∀ i e, pm_ldf t hd i e ≤ i
  | 0, _ => Nat.le_refl _
  | i + 1, e => by
    have a := ldf_le t hd i
    rw [pm_ldf]
    cases q : pm_nx hd (pm_ldf t hd i) t with
    | none => exact Nat.le_succ_of_le (a e)
    | some b =>
      have := a b
      have := a e
      show (if e = b then pm_ldf t hd i b + 1 else pm_ldf t hd i e) ≤ i + 1
      split <;> omega
section La
variable {J : Nat → Nat → Int64} {r k : Nat}
theorem l61 {I : Nat → Nat → Int32} {t : Nat} {hd fl : Nat → Nat} (ht : t ≤ 5) (h8 : I r 8 = nI t) (hh : ∀ e, e < 5 → hd e ≤ 8) (hf : ∀ e, fl e ≤ 99) (h13 : ∀ e, e < 5 → I 13 e = nI (hd e)) (h14 : ∀ e, e < 5 → I 14 e = nI (fl e)) : ∀ d e fu : Nat, e + d = t → d < fu → f61_4 r fu (pm_enc (pm_nx hd fl e)) (nI e) I J = some (pm_enc (pm_nx hd fl t), I, J) := by
  intro d
  induction d with
  | zero =>
    intro e fu he hfu
    obtain ⟨fu, rfl⟩ : ∃ k, fu = k + 1 := ⟨fu - 1, by omega⟩
    rw [f61_4, h8, show e = t by omega, if_neg (by omega)]
  | succ d ih =>
    intro e fu he hfu
    obtain ⟨fu, rfl⟩ : ∃ k, fu = k + 1 := ⟨fu - 1, by omega⟩
    have s := ih (e + 1) fu (by omega) (by omega)
    have a1 := h13 e (by omega)
    have a2 := h14 e (by omega)
    have b1 := hh e (by omega)
    have b2 := hf e
    rw [pm_nx] at s
    rw [f61_4]
    simp (disch := omega) only [h8, zt_lt, if_pos, zt_at, a1, zt_lt0, zt_lit, zt_m1, nI_add]
    cases q : pm_nx hd fl e with
    | none =>
      rw [q] at s
      unfold pm_enc at s ⊢
      by_cases c : 0 < hd e
      · simp only [c, if_true] at s ⊢
        exact s
      · simp only [c, if_false] at s ⊢
        exact s
    | some b =>
      rw [q] at s
      have hb := nx_lt q
      have c1 := h13 b (by omega)
      have c2 := h14 b (by omega)
      have c3 := hh b (by omega)
      have c4 := hf b
      have m1 : hd b * (1 + fl e) ≤ 8 * 100 := Nat.mul_le_mul c3 (by omega)
      have m2 : hd e * (1 + fl b) ≤ 8 * 100 := Nat.mul_le_mul b1 (by omega)
      unfold pm_enc at s ⊢
      by_cases c : 0 < hd e
      · simp (disch := omega) only [c, if_true, true_and, zt_eqm, if_false, zt_at, c1, a2, a1, c2, nI_add, pk_mul, zt_lt] at s ⊢
        by_cases c5 : hd b * (1 + fl e) < hd e * (1 + fl b)
        · rw [if_pos c5] at s ⊢
          exact s
        · rw [if_neg c5] at s ⊢
          exact s
      · simp only [c, false_and, if_false] at s ⊢
        exact s
theorem e61 {I : Nat → Nat → Int32} {t : Nat} {hd fl : Nat → Nat} (ht : t ≤ 5) (h8 : I r 8 = nI t) (hh : ∀ e, e < 5 → hd e ≤ 8) (hf : ∀ e, fl e ≤ 99) (h13 : ∀ e, e < 5 → I 13 e = nI (hd e)) (h14 : ∀ e, e < 5 → I 14 e = nI (fl e)) : f61 r I J = some (pm_enc (pm_nx hd fl t), I, J) := by
  have e := l61 (J := J) ht h8 hh hf h13 h14 t 0 pm_FU (by omega) (by unfold pm_FU; omega)
  rw [nI_0] at e
  exact e
theorem l60b {n t m b l0 l1 : Nat} {k0 k1 : Nat → Nat} {D : Nat → Nat → Nat} {hd : Nat → Nat} (hb : b < 5) (hm : m ≤ 99) (hh : ∀ e, e < 5 → hd e ≤ 8) : ∀ (d i fu : Nat) (I : Nat → Nat → Int32), i + d = m → d < fu → pm_CQ r n t D l0 k0 l1 k1 I → (∀ e, e < 5 → I 13 e = nI (hd e)) → (∀ e, e < 5 → I 14 e = nI (pm_ldf t hd i e)) → ∃ I', f60_L r fu 1 (nI b) (nI m) (nI i) I J = some (nI (pm_ldf t hd m b), I', J) := by
  intro d
  induction d with
  | zero =>
    intro i fu I hi hfu hQ h13 h14
    obtain ⟨fu, rfl⟩ : ∃ k, fu = k + 1 := ⟨fu - 1, by omega⟩
    have e : i = m := by omega
    subst e
    exact ⟨I, by rw [f60_L, if_neg (by omega), zt_at (by omega) (by omega), h14 b hb]⟩
  | succ d ih =>
    intro i fu I hi hfu hQ h13 h14
    obtain ⟨fu, rfl⟩ : ∃ k, fu = k + 1 := ⟨fu - 1, by omega⟩
    have ht := hQ.1.2.2.2.2.2.1
    have hl := ldf_le t hd i
    have e1 := e61 (J := J) ht hQ.1.2.2.1 hh (fun e => Nat.le_trans (hl e) (by omega)) h13 h14
    rw [f60_L, if_pos (by rw [nI_toInt (by omega), nI_toInt (by omega)]; omega), e1, zt_bind]
    have key := ih (i + 1) fu
    rw [pm_ldf] at key
    cases q : pm_nx hd (pm_ldf t hd i) t with
    | none =>
      rw [q] at key
      show ∃ I', pm_lt (pm_pw I 14 5 pm_m1 _) (fun I13 => f60_L r fu 1 (nI b) (nI m) (nI i + 1) I13 J) = _
      rw [pm_lt_eq, zt_pwn (by decide), nI_1]
      exact key I (by omega) (by omega) hQ h13 h14
    | some c =>
      rw [q] at key
      have hc := nx_lt q
      show ∃ I', pm_lt (pm_pw I 14 5 (nI c) (pm_at (I 14) 5 (nI c) + 1)) (fun I13 => f60_L r fu 1 (nI b) (nI m) (nI i + 1) I13 J) = _
      rw [pm_lt_eq, zt_at (by omega) (by omega), zt_pw (by omega) (by omega), h14 c (by omega), nI_1, nI_1]
      have g : pm_ag [14] [] I (pm_w I 14 c (nI (pm_ldf t hd i c + 1))) := ag_w ag_refl (by simp)
      refine key _ (by omega) (by omega) (CQ_ag hQ g (by decide)) (fun e he => by rw [zt_wc (by omega)]; exact h13 e he) (fun e he => ?_)
      show pm_w I 14 c (nI (pm_ldf t hd i c + 1)) 14 e = nI (if e = c then pm_ldf t hd i c + 1 else pm_ldf t hd i e)
      by_cases z : e = c
      · subst z; rw [zt_ws, if_pos rfl]
      · rw [zt_wf z, if_neg z]; exact h14 e he
def pm_hd (n : Nat) (w : Nat → Int32) (e : Nat) : Nat := pm_cnt (fun p => decide (w p = nI 2) && decide (w (8 + p) = nI e)) n
theorem l60a {n t m b l0 l1 : Nat} {k0 k1 : Nat → Nat} {D : Nat → Nat → Nat} {w : Nat → Int32} (hb : b < 5) (hm : m ≤ 99) : ∀ (d e fu : Nat) (I : Nat → Nat → Int32), e + d = 5 → d + m + 2 < fu → pm_CQ r n t D l0 k0 l1 k1 I → I 5 = w → (∀ j, j < e → I 13 j = nI (pm_hd n w j)) → (∀ j, j < e → I 14 j = nI 0) → ∃ I', f60_L r fu 0 (nI b) (nI m) (nI e) I J = some (nI (pm_ldf t (pm_hd n w) m b), I', J) := by
  intro d
  induction d with
  | zero =>
    intro e fu I he hfu hQ hw h13 h14
    obtain ⟨fu, rfl⟩ : ∃ k, fu = k + 1 := ⟨fu - 1, by omega⟩
    have h8 := hQ.1.2.2.2.2.1
    have q : e = 5 := by omega
    subst q
    rw [f60_L, zt_lit 5, if_neg (by omega)]
    have s := l60b (J := J) (m := m) (b := b) (hd := pm_hd n w) hb hm (fun e _ => Nat.le_trans (cn_le _ _) h8) m 0 fu I (by omega) (by omega) hQ h13 h14
    rw [nI_0] at s
    exact s
  | succ d ih =>
    intro e fu I he hfu hQ hw h13 h14
    obtain ⟨fu, rfl⟩ : ∃ k, fu = k + 1 := ⟨fu - 1, by omega⟩
    have h8 := hQ.1.2.2.2.2.1
    have e1 := e42 (J := J) (x := nI e) hQ.1.2.1 h8
    rw [hw] at e1
    have g : pm_ag [13, 14] [] I (pm_w (pm_w I 13 e (nI (pm_hd n w e))) 14 e (nI 0)) := ag_w (ag_w ag_refl (by simp)) (by simp)
    rw [f60_L, zt_lit 5, if_pos (by rw [nI_toInt (by omega), nI_toInt (by omega)]; omega), e1, zt_bind]
    show ∃ I', pm_lt (pm_pw I 13 5 (nI e) (nI (pm_hd n w e))) (fun I6 => pm_lt (pm_pw I6 14 5 (nI e) 0) (fun I7 => f60_L r fu 0 (nI b) (nI m) (nI e + 1) I7 J)) = _
    rw [pm_lt_eq, zt_pw (by omega) (by omega), pm_lt_eq, zt_pw (by omega) (by omega), nI_1]
    refine ih (e + 1) fu _ (by omega) (by omega) (CQ_ag hQ g (by decide)) (by rw [zt_wc (by omega), zt_wc (by omega)]; exact hw) (fun j hj => ?_) (fun j hj => ?_)
    · rw [zt_wc (by omega)]
      by_cases z : j = e
      · subst z; exact zt_ws
      · rw [zt_wf z]; exact h13 j (by omega)
    · by_cases z : j = e
      · subst z; exact zt_ws
      · rw [zt_wf z, zt_wc (by omega)]; exact h14 j (by omega)
/-! the reference's -/
theorem l314c {I : Nat → Nat → Int32} {n t i : Nat} {y1 y2 : Int32} {w : Nat → Int32} {fl : Nat → Nat} (h18 : I 127 18 = nI n) (h8 : n ≤ 8) (ht : t ≤ 5) (h19 : I 127 19 = nI t) (hs : pm_ms n (I 144) w) (hf : ∀ e, fl e ≤ 99) (h55 : ∀ e, e < 5 → I 155 e = nI (fl e)) : ∀ d e fu : Nat, e + d = t → f314_L (fu + d + 1) 2 y1 y2 (nI i) (pm_enc (pm_nx (pm_hd n w) fl e)) (nI e) I J = (match pm_nx (pm_hd n w) fl t with | none => f314_L fu 1 y1 y2 (nI (i + 1)) 0 0 I J | some b => f314_L fu 1 y1 y2 (nI (i + 1)) 0 0 (pm_w I 155 b (nI (fl b + 1))) J) := by
  intro d
  have hd8 : ∀ e, pm_hd n w e ≤ 8 := fun e => Nat.le_trans (cn_le _ _) h8
  have e9 : ∀ e, f259 (nI e) I J = some (nI (pm_hd n w e), I, J) := fun e => by
    rw [e259 h18 h8, cn_cong (Q := fun p => decide (w p = nI 2) && decide (w (8 + p) = nI e)) (fun p hp => by rw [hs.1 p (by omega), hs.1 (8 + p) (by omega)])]
    rfl
  induction d with
  | zero =>
    intro e fu he
    have q : e = t := by omega
    subst q
    rw [f314_L, h19, if_neg (by omega)]
    cases q : pm_nx (pm_hd n w) fl e with
    | none =>
      show (if pm_m1 = -1 then _ else _) = _
      rw [if_pos (show pm_m1 = -1 from rfl), nI_1]
    | some b =>
      have hb := nx_lt q
      have ne : ¬ nI b = (-1 : Int32) := by rw [zt_m1', zt_eqm (by omega)]; exact id
      show (if nI b = -1 then _ else _) = _
      rw [if_neg ne, nI_1]
      simp (disch := omega) only [zt_in, zt_gd, nI_clamp, pm_lt, h55 b (by omega), pm_enc, zt_lit, nI_add]
  | succ d ih =>
    intro e fu he
    have s := ih (e + 1) fu (by omega)
    have a2 := h55 e (by omega)
    have b1 := hd8 e
    have b2 := hf e
    rw [pm_nx] at s
    rw [show fu + (d + 1) + 1 = fu + d + 1 + 1 by omega, f314_L, h19, if_pos (by rw [nI_toInt (by omega), nI_toInt (by omega)]; omega), e9, zt_bind]
    rw [← s]
    clear s
    show (if 0 < (nI (pm_hd n w e)).toInt then _ else _) = _
    rw [nI_1]
    cases q : pm_nx (pm_hd n w) fl e with
    | none =>
      by_cases c : 0 < pm_hd n w e
      · rw [if_pos (by rw [nI_toInt (by omega)]; omega)]
        show (if pm_m1 = -1 then _ else _) = _
        rw [if_pos (show pm_m1 = -1 from rfl)]
        simp only [c, if_true]
        rfl
      · rw [if_neg (by rw [nI_toInt (by omega)]; omega)]
        simp only [c, if_false]
    | some b =>
      have hb := nx_lt q
      have ne : ¬ nI b = (-1 : Int32) := by rw [zt_m1', zt_eqm (by omega)]; exact id
      have c1 := h55 b (by omega)
      have c3 := hd8 b
      have c4 := hf b
      have m1 : pm_hd n w b * (1 + fl e) ≤ 8 * 100 := Nat.mul_le_mul c3 (by omega)
      have m2 : pm_hd n w e * (1 + fl b) ≤ 8 * 100 := Nat.mul_le_mul b1 (by omega)
      by_cases c : 0 < pm_hd n w e
      · rw [if_pos (by rw [nI_toInt (by omega)]; omega)]
        show (if nI b = -1 then _ else _) = _
        rw [if_neg ne, e9, zt_bind]
        show pm_gd (pm_in (nI b) 5) ((f259 (nI b) I J).bind _) = _
        rw [zt_in (by omega) (by omega), zt_gd, e9, zt_bind]
        simp (disch := omega) only [pm_enc, zt_in, zt_gd, nI_clamp, a2, c1, zt_lit, nI_add, pk_mul, zt_lt, c, true_and]
        by_cases c5 : pm_hd n w b * (1 + fl e) < pm_hd n w e * (1 + fl b)
        · rw [if_pos c5]
          simp only [c5, if_true]
        · rw [if_neg c5]
          simp only [c5, if_false]
      · rw [if_neg (by rw [nI_toInt (by omega)]; omega)]
        simp only [c, false_and, if_false]
theorem l314b {n t m b : Nat} {w : Nat → Int32} (hb : b < 5) (hm : m ≤ 99) (h8 : n ≤ 8) (ht : t ≤ 5) : ∀ (d i fu : Nat) (I : Nat → Nat → Int32), i + d = m → d * 10 < fu → I 127 18 = nI n → I 127 19 = nI t → pm_ms n (I 144) w → (∀ e, e < 5 → I 155 e = nI (pm_ldf t (pm_hd n w) i e)) → ∃ I', f314_L fu 1 (nI b) (nI m) (nI i) 0 0 I J = some (nI (pm_ldf t (pm_hd n w) m b), I', J) := by
  intro d
  induction d with
  | zero =>
    intro i fu I hi hfu h18 h19 hs h55
    obtain ⟨fu, rfl⟩ : ∃ k, fu = k + 1 := ⟨fu - 1, by omega⟩
    have e : i = m := by omega
    subst e
    exact ⟨I, by rw [f314_L, if_neg (by omega), zt_in (by omega) (by omega), zt_gd, nI_clamp (by omega), h55 b hb]⟩
  | succ d ih =>
    intro i fu I hi hfu h18 h19 hs h55
    obtain ⟨fu, rfl⟩ : ∃ k, fu = k + t + 1 + 1 := ⟨fu - t - 2, by omega⟩
    have hl := ldf_le t (pm_hd n w) i
    have s := l314c (J := J) (i := i) (y1 := nI b) (y2 := nI m) h18 h8 ht h19 hs (fun e => Nat.le_trans (hl e) (by omega)) h55 t 0 fu (by omega)
    rw [pm_nx, nI_0] at s
    rw [f314_L, if_pos (by rw [nI_toInt (by omega), nI_toInt (by omega)]; omega)]
    have s' : f314_L (fu + t + 1) 2 (nI b) (nI m) (nI i) (-1) 0 I J = _ := s
    rw [s']
    have key := ih (i + 1) fu
    rw [pm_ldf] at key
    cases q : pm_nx (pm_hd n w) (pm_ldf t (pm_hd n w) i) t with
    | none =>
      rw [q] at key
      exact key I (by omega) (by omega) h18 h19 hs h55
    | some c =>
      rw [q] at key
      have hc := nx_lt q
      refine key _ (by omega) (by omega) (by rw [zt_wc (by omega)]; exact h18) (by rw [zt_wc (by omega)]; exact h19) (by rw [zt_wc (by omega)]; exact hs) (fun e he => ?_)
      show pm_w I 155 c (nI (pm_ldf t (pm_hd n w) i c + 1)) 155 e = nI (if e = c then pm_ldf t (pm_hd n w) i c + 1 else pm_ldf t (pm_hd n w) i e)
      by_cases z : e = c
      · subst z; rw [zt_ws, if_pos rfl]
      · rw [zt_wf z, if_neg z]; exact h55 e he
theorem l314a {n t m b : Nat} {w : Nat → Int32} (hb : b < 5) (hm : m ≤ 99) (h8 : n ≤ 8) (ht : t ≤ 5) : ∀ (d e fu : Nat) (I : Nat → Nat → Int32), e + d = 5 → d + m * 10 + 2 < fu → I 127 18 = nI n → I 127 19 = nI t → pm_ms n (I 144) w → (∀ j, j < e → I 155 j = nI 0) → ∃ I', f314_L fu 0 (nI b) (nI m) (nI e) 0 0 I J = some (nI (pm_ldf t (pm_hd n w) m b), I', J) := by
  intro d
  induction d with
  | zero =>
    intro e fu I he hfu h18 h19 hs h55
    obtain ⟨fu, rfl⟩ : ∃ k, fu = k + 1 := ⟨fu - 1, by omega⟩
    have q : e = 5 := by omega
    subst q
    rw [f314_L, zt_lit 5, if_neg (by omega)]
    have s := l314b (J := J) hb hm h8 ht m 0 fu I (by omega) (by omega) h18 h19 hs h55
    rw [nI_0] at s
    exact s
  | succ d ih =>
    intro e fu I he hfu h18 h19 hs h55
    obtain ⟨fu, rfl⟩ : ∃ k, fu = k + 1 := ⟨fu - 1, by omega⟩
    rw [f314_L, zt_lit 5, if_pos (by rw [nI_toInt (by omega), nI_toInt (by omega)]; omega), zt_in (by omega) (by omega), zt_gd, nI_clamp (by omega), pm_lt_eq, nI_1]
    refine ih (e + 1) fu _ (by omega) (by omega) (by rw [zt_wc (by omega)]; exact h18) (by rw [zt_wc (by omega)]; exact h19) (by rw [zt_wc (by omega)]; exact hs) (fun j hj => ?_)
    by_cases z : j = e
    · subst z; exact zt_ws
    · rw [zt_wf z]; exact h55 j (by omega)
theorem K32 {I : Nat → Nat → Int32} {x y : Int32} (hRR : pm_RR r k I) : pm_KK r k (fun v b : Int32 => v = b) 1 2 (fun I J => f206 r x y I J) (fun I J => f314 x y I J) I J := by
  obtain ⟨n, t, D, l0, k0, l1, k1, h⟩ := hRR
  have hC := h.1.1
  have h8 := hC.1.2.2.2.2.1
  have h5 := hC.1.2.2.2.2.2.1
  have e99 : ((99 : Int32)).toInt = 99 := by decide
  rcases tr (x := x) (n := t) (by omega) with ⟨b, hb, rfl⟩ | hx
  · rcases tr2 y 0 99 (by omega) with ⟨m, _, hm, rfl⟩ | hy
    · obtain ⟨I1, e1⟩ := l60a (J := J) (r := r) (m := m) (b := b) (w := I 5) (by omega) hm 5 0 pm_FU I (by omega) (by unfold pm_FU; omega) hC rfl (fun j hj => by omega) (fun j hj => by omega)
      rw [nI_0] at e1
      have ef : f60 r (nI b) (nI m) I J = some (nI (pm_ldf t (pm_hd n (I 5)) m b), I1, J) := by unfold f60; exact e1
      have g1 := (fr_60 _ _ _ ef).1
      have R1 := R0_t0 (x := 0) (R0_ag h g1 rfl)
      have i5 : I1 5 = I 5 := ag_cell g1 (by decide) (by intro f; simp)
      refine KK_v (v := nI (pm_ldf t (pm_hd n (I 5)) m b)) (I1 := I1) (J1 := J) ?_ aj_refl (fun J' => ?_)
      · unfold f206
        rw [e182g hb h5 hC.1.2.2.1, zt_xl, nd_g (x := nI m) (by rw [nI_toInt (by omega)]; omega) (by rw [nI_toInt (by omega), e99]; omega), ef, zt_bind]
      · obtain ⟨I3, e3, s3, ru3, _, _, g3⟩ := e253 (I := pm_w I1 127 0 0) (J := J') R1.1.2.2.1.1
        have R3 := R0_ag R1 g3 rfl
        rw [zt_wc (by omega), i5] at s3
        obtain ⟨I4, e4⟩ := l314a (J := J') (m := m) (b := b) (by omega) hm h8 h5 5 0 pm_FU I3 (by omega) (by unfold pm_FU; omega) R3.1.2.1.1.1 R3.1.2.1.1.2.1 s3 (fun j hj => by omega)
        rw [nI_0] at e4
        have g4 := (fr_314_L _ _ _ _ _ _ _ _ _ _ _ _ e4).1
        have hg := e279g (I := pm_w I1 127 0 0) (J := J') (c := 1) hb h5 R1.1.2.1.1.2.1 (by rw [zt_ws]; rfl)
        have h2 := e222g (I := pm_w I1 127 0 0) (J := J') (c := 2) (k := 1) (by rw [zt_ws]; rfl)
        have h3 : v241 (nI m) 0 99 (pm_w I1 127 0 0) = true := v241g (p := m) (a := 0) (b := 99) (by omega) (by omega) (by omega)
        refine ⟨I4, ?_, ?_, R0_R (R0_ag R3 g4 rfl)⟩
        · unfold f314
          rw [pm_lt_eq, hg, zt_bind]
          show (if true = true then (f222 (pm_bi (v241 (nI m) 0 99 (pm_w I1 127 0 0))) 2 1 (pm_w I1 127 0 0) J').bind _ else _) = _
          rw [if_pos rfl, h3, h2, zt_bind]
          show (if true = true then (f253 (pm_w I1 127 0 0) J').bind _ else _) = _
          rw [if_pos rfl, e3, zt_bind]
          exact e4
        · rw [g4 127 0 (by decide) (by simp), g3 127 0 (by decide) (by decide), zt_ws]; rfl
    · obtain ⟨Ia, Ib, n1, n0, n2, n3, n4⟩ := il_x (c := 2) h (Or.inr rfl)
      have z : Ia = pm_w I 0 13 (I 0 13 + nI 1) := by
        have q := n1 J
        rw [e174b] at q
        injection q with q
        injection q with _ q
        injection q with q _
        exact q.symm
      have hg := fun J' => e279g (I := pm_w Ia 127 0 0) (J := J') (c := 1) hb h5 (by rw [zt_w2 (by omega), n0]; exact h.1.2.1.1.2.1) (by rw [zt_ws]; rfl)
      have h3 : v241 y 0 99 (pm_w Ia 127 0 0) = false := v241b (x := y) (a := 0) (b := 99) (by omega) (by omega) (by omega)
      have n2' : ∀ J', f222 (pm_bi false) 2 1 (pm_w Ia 127 0 0) J' = some (false, Ib, J') := n2
      refine KK_2 (b := 0) (Ia := Ia) (Ib := Ib) ?_ (fun J' => ?_) n3 n4
      · unfold f206
        rw [e182g hb h5 hC.1.2.2.1, zt_xl, nd_b (x := y) (by rw [e99]; omega), z]
      · unfold f314
        rw [pm_lt_eq, hg, zt_bind]
        show (if true = true then (f222 (pm_bi (v241 y 0 99 (pm_w Ia 127 0 0))) 2 1 (pm_w Ia 127 0 0) J').bind _ else _) = _
        rw [if_pos rfl, h3, n2', zt_bind]
        show (if false = true then _ else _) = _
        rw [if_neg (by decide)]
  · obtain ⟨Ia, Ib, n1, n2, n3, n4⟩ := no_t h hx
    refine KK_1 (b := 0) (Ia := Ia) (Ib := Ib) ?_ (fun J' => ?_) n3 n4
    · unfold f206
      rw [n1, zt_xr]
    · unfold f314
      rw [pm_lt_eq, n2, zt_bind]
      show (if false = true then _ else _) = _
      rw [if_neg (by decide)]
end La
