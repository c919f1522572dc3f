/-! THE REFERENCE TAKES THE STATE; COPIES -/
def pm_fil (f g : Nat → Int32) (i : Nat) : Nat → Int32 := fun j => if j < i then f j else g j
theorem fil_0 {f g : Nat → Int32} : pm_fil f g 0 = g := funext fun j => if_neg (Nat.not_lt_zero j)
theorem fil_s {f g : Nat → Int32} {i : Nat} : upd (pm_fil f g i) i (f i) = pm_fil f g (i + 1) := by
  funext j
  unfold upd pm_fil
  by_cases h : j = i
  · subst h; rw [if_pos rfl, if_pos (by omega)]
  · rw [if_neg h]
    by_cases h2 : j < i
    · rw [if_pos h2, if_pos (by omega)]
    · rw [if_neg h2, if_neg (by omega)]
theorem fil_in {f g : Nat → Int32} {i j : Nat} (h : j < i) : pm_fil f g i j = f j := if_pos h
theorem fil_out {f g : Nat → Int32} {i j : Nat} (h : i ≤ j) : pm_fil f g i j = g j := if_neg (by omega)
section T
variable {I : Nat → Nat → Int32} {J : Nat → Nat → Int64}
theorem l218 {a1 n1 a2 n2 c : Nat} (h12 : a1 ≠ a2) (h1 : c ≤ n1) (h2 : c ≤ n2) (hc : c < 2 ^ 31) : ∀ d i fu : Nat, i + d = c → d < fu → f218_3 a1 n1 a2 n2 fu (nI c) (nI i) (va_up I a2 (pm_fil (I a1) (I a2) i)) J = some ((), va_up I a2 (pm_fil (I a1) (I a2) c), J) := by
  intro d
  induction d with
  | zero =>
    intro i fu hi hf
    obtain ⟨fu, rfl⟩ : ∃ k, fu = k + 1 := ⟨fu - 1, by omega⟩
    rw [f218_3, show i = c by omega, if_neg (by omega)]
  | succ d ih =>
    intro i fu hi hf
    obtain ⟨fu, rfl⟩ : ∃ k, fu = k + 1 := ⟨fu - 1, by omega⟩
    have s := ih (i + 1) fu (by omega) (by omega)
    rw [f218_3]
    simp (disch := omega) only [zt_lit, zt_lt, if_pos, zt_in, zt_gd, pm_lt, nI_clamp, w_up, va_up_ne _ _ h12, fil_s, nI_add]
    exact s
theorem e218 {a1 n1 a2 n2 c : Nat} (h12 : a1 ≠ a2) (h1 : c ≤ n1) (h2 : c ≤ n2) (hc : c < 99999) : f218 a1 n1 a2 n2 (nI c) I J = some ((), va_up I a2 (pm_fil (I a1) (I a2) c), J) := by
  have s := l218 (I := I) (J := J) h12 h1 h2 (by omega) c 0 pm_FU (by omega) (by unfold pm_FU; omega)
  rw [fil_0, va_same] at s
  exact s
theorem ms_fil {n : Nat} {f g w : Nat → Int32} (h : pm_ms n f w) : pm_ms n (pm_fil f g 66) w := by
  obtain ⟨h1, h2, h3, h4⟩ := h
  refine ⟨fun i hi => by rw [fil_in (by omega)]; exact h1 i hi, fun p hp => ?_, by rw [fil_in (by omega)]; exact h3, by rw [fil_in (by omega)]; exact h4⟩
  rw [fil_in (by omega), fil_in (by omega)]
  exact h2 p hp
theorem e253 {n : Nat} {w : Nat → Int32} (h : pm_ms n (I 143) w) : ∃ I', f253 I J = some ((), I', J) ∧ pm_ms n (I' 144) w ∧ I' 127 40 = nI 0 ∧ I' 127 41 = nI 0 ∧ I' 127 42 = nI 0 ∧ pm_ag [144] [(127, 40), (127, 41), (127, 42)] I I' := by
  have e : f253 I J = some ((), pm_w (pm_w (pm_w (va_up I 144 (pm_fil (I 143) (I 144) 66)) 127 40 0) 127 41 0) 127 42 0, J) := by
    unfold f253
    rw [zt_lit 66, e218 (by omega) (by omega) (by omega) (by omega), zt_bind]
    rfl
  refine ⟨_, e, ?_, ?_, ?_, ?_, (fr_253 _ _ _ e).1⟩
  · rw [zt_wc (by omega), zt_wc (by omega), zt_wc (by omega), va_up_self]
    exact ms_fil h
  · simp (disch := omega) only [zt_w2, zt_ws]; rfl
  · simp (disch := omega) only [zt_w2, zt_ws]; rfl
  · simp (disch := omega) only [zt_w2, zt_ws]; rfl
end T
/-! EASY CALLS -/
theorem R0_t0 {r k n t l0 l1 : Nat} {D : Nat → Nat → Nat} {k0 k1 : Nat → Nat} {I : Nat → Nat → Int32} {x : Int32} (h : pm_R0 r k n t D l0 k0 l1 k1 I) : pm_R0 r k n t D l0 k0 l1 k1 (pm_w I 127 0 x) := R0_ag (A := []) (F := [(127, 0)]) h (ag_w ag_refl (by simp)) rfl
theorem R0_R {r k n t l0 l1 : Nat} {D : Nat → Nat → Nat} {k0 k1 : Nat → Nat} {I : Nat → Nat → Int32} (h : pm_R0 r k n t D l0 k0 l1 k1 I) : pm_RR r k I := ⟨n, t, D, l0, k0, l1, k1, h⟩
section KK
variable {α : Type} {r k t1 t2 t c : Nat} {fc : (Nat → Nat → Int32) → (Nat → Nat → Int64) → Option ((α ⊕ Nat) × (Nat → Nat → Int32) × (Nat → Nat → Int64))} {fm : (Nat → Nat → Int32) → (Nat → Nat → Int64) → Option (α × (Nat → Nat → Int32) × (Nat → Nat → Int64))} {I I1 Ia Ib : Nat → Nat → Int32} {J J1 : Nat → Nat → Int64} {v b : α}
theorem KK_v (h1 : fc I J = some (.inl v, I1, J1)) (h2 : pm_aj J J1) (h3 : ∀ J', ∃ I2, fm I1 J' = some (v, I2, J') ∧ I2 127 0 = nI 0 ∧ pm_RR r k I2) : pm_KK r k (fun v b : α => v = b) t1 t2 fc fm I J := by
  refine Or.inl ⟨v, I1, J1, h1, h2, fun J' => ?_⟩
  obtain ⟨I2, a, b, c⟩ := h3 J'
  exact ⟨v, I2, a, b, rfl, c⟩
theorem KK_1 (h1 : fc I J = some (.inr 1, Ia, J)) (h2 : ∀ J', fm Ia J' = some (b, Ib, J')) (h3 : Ib 127 0 = nI t1) (h4 : pm_RR r k Ib) : pm_KK r k (fun v b : α => v = b) t1 t2 fc fm I J := Or.inr ⟨1, t1, Ia, J, Or.inl ⟨rfl, rfl⟩, h1, aj_refl, fun J' => ⟨b, Ib, h2 J', h3, h4⟩⟩
theorem KK_2 (h1 : fc I J = some (.inr 2, Ia, J)) (h2 : ∀ J', fm Ia J' = some (b, Ib, J')) (h3 : Ib 127 0 = nI t2) (h4 : pm_RR r k Ib) : pm_KK r k (fun v b : α => v = b) t1 t2 fc fm I J := Or.inr ⟨2, t2, Ia, J, Or.inr ⟨rfl, rfl⟩, h1, aj_refl, fun J' => ⟨b, Ib, h2 J', h3, h4⟩⟩
end KK
section K
variable {I : Nat → Nat → Int32} {J : Nat → Nat → Int64} {r k : Nat}
theorem K5 (h : pm_RR r k I) : pm_KP r k (fun I J => some (v162 I, I, J)) (fun I J => f220 I J) I J := by
  obtain ⟨n, t, D, l0, k0, l1, k1, h⟩ := h
  refine ⟨_, I, J, rfl, aj_refl, fun J' => ⟨pm_w I 127 0 0, ?_, R0_R (R0_t0 h)⟩⟩
  show f220 I J' = some (v162 I, pm_w I 127 0 0, J')
  unfold f220 v162
  simp (disch := omega) only [pm_lt, zt_w2]
  rw [h.2.2.1.2]
theorem K39 {x : Int32} (h : pm_RR r k I) : pm_KP r k (fun I J => some (v170 x I, I, J)) (fun I J => f328 x I J) I J := by
  obtain ⟨n, t, D, l0, k0, l1, k1, h⟩ := h
  refine ⟨_, I, J, rfl, aj_refl, fun J' => ⟨pm_w I 127 0 0, ?_, R0_R (R0_t0 h)⟩⟩
  have c1 := h.2.2.2.2.1
  have c2 := h.2.2.2.2.2
  show f328 x I J' = some (v170 x I, pm_w I 127 0 0, J')
  unfold f328 v170
  rcases tr (x := x) (n := 2) (by omega) with ⟨p, hp, rfl⟩ | hx
  · have q : p = 0 ∨ p = 1 := by omega
    rcases q with rfl | rfl
    · simp (disch := omega) only [pm_lt, zt_lit, v241g, zt_in, zt_gd, nI_clamp, zt_wc, if_true, c1]
    · simp (disch := omega) only [pm_lt, zt_lit, v241g, zt_in, zt_gd, nI_clamp, zt_wc, if_true, c2, zt_eq, if_neg, if_pos]
  · have a1 : ¬ x = nI 0 := fun e => by rw [e, nI_toInt (by omega)] at hx; omega
    have a2 : ¬ x = nI 1 := fun e => by rw [e, nI_toInt (by omega)] at hx; omega
    have hv := fun I => v241b (x := x) (a := 0) (b := 1) (I := I) (by omega) (by omega) (by omega)
    simp only [pm_lt, zt_lit, a1, a2, if_false, hv, Bool.false_eq_true]
theorem K40 {x : Int32} (h : pm_RR r k I) : pm_KP r k (fun I J => some (v171 x I, I, J)) (fun I J => f329 x I J) I J := by
  obtain ⟨n, t, D, l0, k0, l1, k1, h⟩ := h
  refine ⟨_, I, J, rfl, aj_refl, fun J' => ⟨pm_w I 127 0 0, ?_, R0_R (R0_t0 h)⟩⟩
  obtain ⟨⟨_, _, _, ⟨a, _, a1, a2, _⟩, ⟨m, _, m1, m2, _⟩⟩, _, ⟨⟨L, _, t1, t2, _⟩, _⟩, _⟩ := h
  show f329 x I J' = some (v171 x I, pm_w I 127 0 0, J')
  unfold f329 v171
  simp only [pm_lt]
  by_cases c0 : x = 0
  · rw [if_pos c0, if_pos c0]
    simp (disch := omega) only [zt_w2, m1, m2]
  · rw [if_neg c0, if_neg c0]
    by_cases c1 : x = 1
    · rw [if_pos c1, if_pos c1]
      simp (disch := omega) only [zt_w2, t1, t2]
    · rw [if_neg c1, if_neg c1]
      by_cases c2 : x = 2
      · rw [if_pos c2, if_pos c2]
        simp (disch := omega) only [zt_w2, a1, a2]
      · rw [if_neg c2, if_neg c2]
theorem K11 {x : Int32} (hRR : pm_RR r k I) : pm_KK r k (fun v b : Int32 => v = b) 1 2 (fun I J => f184 r x I J) (fun I J => f281 x I J) I J := by
  obtain ⟨n, t, D, l0, k0, l1, k1, h⟩ := hRR
  have hC := h.1.1
  have h8 := hC.1.2.2.2.2.1
  rcases tr (x := x) (n := n) (by omega) with ⟨p, hp, rfl⟩ | hx
  · obtain ⟨I1, e1⟩ := e47 (J := J) hC.1 hC.2.1 hp hC.2.2.1 hC.2.2.2.2.1
    have g1 := fr_47 _ _ _ e1
    have R1 := R0_t0 (x := 0) (R0_ag h g1.1 rfl)
    have i5 : I1 5 = I 5 := ag_cell g1.1 (by decide) (by intro f; simp)
    refine KK_v (v := pm_oW l0 k0 D n (I 5) p) (I1 := I1) (J1 := J) ?_ aj_refl (fun J' => ?_)
    · unfold f184
      rw [e180g hp h8 hC.1.2.1, zt_xl, e1]
      rfl
    · obtain ⟨I3, e3, s3, ru3, _, _, g3⟩ := e253 (I := pm_w I1 127 0 0) (J := J') R1.1.2.2.1.1
      have R3 := R0_ag R1 g3 rfl
      rw [zt_wc (by omega), i5] at s3
      obtain ⟨I4, e4⟩ := e263 (J := J') (x := 0) R3.1.2.1.1 R3.1.2.1.2.1 hp (by omega) ru3 R3.1.2.1.2.2.1 R3.1.2.1.2.2.2.2.1 s3
      have g4 := fr_263 _ _ _ e4
      refine ⟨I4, ?_, ?_, R0_R (R0_ag R3 g4.1 rfl)⟩
      · unfold f281
        simp only [pm_lt]
        rw [e277g hp h8 R1.1.2.1.1.1 (by rw [zt_ws]; rfl)]
        simp only [zt_bind, if_true, e3, e4]
      · rw [g4.1 127 0 (by decide) (by simp), g3 127 0 (by decide) (by decide), zt_ws]; rfl
  · obtain ⟨Ia, Ib, n1, n2, n3, n4⟩ := no_s h hx
    refine KK_1 (b := 0) (Ia := Ia) (Ib := Ib) ?_ (fun J' => ?_) n3 n4
    · unfold f184
      rw [n1, zt_xr]
    · unfold f281
      simp only [pm_lt, n2, zt_bind, Bool.false_eq_true, if_false]
end K
