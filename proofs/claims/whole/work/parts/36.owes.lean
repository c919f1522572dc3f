/-! ASKS AND OWES -/
def pm_CL (a l : Nat) (k : Nat → Nat) (I : Nat → Nat → Int32) : Prop := I a 2 = nI l ∧ ∀ i, i < l → I (a + 1) i = nI (k i)
def pm_aS (l : Nat) (k : Nat → Nat) (D : Nat → Nat → Nat) (n : Nat) (w : Nat → Int32) (p : Nat) : Int32 := pm_av l k (pm_ppr D n w p (nI (D 1 p)) (w (24 + p)))
def pm_oW (l : Nat) (k : Nat → Nat) (D : Nat → Nat → Nat) (n : Nat) (w : Nat → Int32) (p : Nat) : Int32 := if w p = nI 3 then nI 0 else pm_max (nI 0) (pm_aS l k D n w p - w (16 + p))
/-- rows alike as far as they are read -/
def pm_rw (v w : Nat → Int32) : Prop := ∀ i, i < 66 → v i = w i
theorem pp_rw {D : Nat → Nat → Nat} {n p : Nat} {v w : Nat → Int32} {y a : Int32} (h : pm_rw v w) (hp : p < 8) : ∀ j, j < 8 → pm_ppr D n v p y a j = pm_ppr D n w p y a j := by
  intro j hj
  have q : j = 0 ∨ j = 1 ∨ j = 2 ∨ j = 3 ∨ j = 4 ∨ j = 5 ∨ j = 6 ∨ j = 7 := by omega
  rcases q with rfl | rfl | rfl | rfl | rfl | rfl | rfl | rfl <;> simp only [pm_ppr]
  · exact h _ (by omega)
  · exact h _ (by omega)
  · rw [h (56 + p) (by omega), h 64 (by omega)]
  · exact h _ (by omega)
theorem aS_rw {l n p : Nat} {k : Nat → Nat} {D : Nat → Nat → Nat} {v w : Nat → Int32} (hw : pm_wf l k) (h : pm_rw v w) (hp : p < 8) : pm_aS l k D n v p = pm_aS l k D n w p := by
  unfold pm_aS
  rw [av_cong hw (pp_rw (n := n) h hp), h (24 + p) (by omega)]
theorem oW_rw {l n p : Nat} {k : Nat → Nat} {D : Nat → Nat → Nat} {v w : Nat → Int32} (hw : pm_wf l k) (h : pm_rw v w) (hp : p < 8) : pm_oW l k D n v p = pm_oW l k D n w p := by
  unfold pm_oW
  rw [aS_rw hw h hp, h p (by omega), h (16 + p) (by omega)]
section O
variable {I : Nat → Nat → Int32} {J : Nat → Nat → Int64}
theorem CL_ag {I' : Nat → Nat → Int32} {a l : Nat} {k : Nat → Nat} (h : pm_CL a l k I) (h0 : I' a = I a) (h1 : I' (a + 1) = I (a + 1)) : pm_CL a l k I' := by
  unfold pm_CL
  rw [h0, h1]
  exact h
theorem e31 {r n t p l x : Nat} {k : Nat → Nat} {D : Nat → Nat → Nat} (hR : pm_CR r n t D I) (hD : pm_DR n t D) (hp : p < n) (hx : x < 2) (hL : pm_CL (if x = 0 then 6 else 9) l k I) (hw : pm_wf l k) : ∃ I', f31 r (nI p) (nI x) I J = some (pm_aS l k D n (I 5) p, I', J) := by
  obtain ⟨S, e1, e2⟩ := e32 (J := J) hR hD hp
  have go : ∀ a0 : Nat, (a0 = 6 ∨ a0 = 9) → pm_CL a0 l k I → ∃ I', (f18 a0 (va_up I 12 S) J).bind (fun q : Int32 × (Nat → Nat → Int32) × (Nat → Nat → Int64) => some (q.1, q.2.1, q.2.2)) = some (pm_aS l k D n (I 5) p, I', J) := by
    intro a0 q hL
    have hL2 : pm_CL a0 l k (va_up I 12 S) := CL_ag hL (va_up_ne _ _ (by omega)) (va_up_ne _ _ (by omega))
    obtain ⟨T, e3⟩ := e18 (I := va_up I 12 S) (J := J) (a0 := a0) (pp := pm_ppr D n (I 5) p (nI (D 1 p)) (I 5 (24 + p))) (by omega) hL2.1 hL2.2 hw (by rw [va_up_self]; exact e2)
    exact ⟨_, by rw [e3]; rfl⟩
  have c : x = 0 ∨ x = 1 := by omega
  unfold f31
  rw [e1, zt_bind]
  rcases c with rfl | rfl
  · exact go 6 (Or.inl rfl) hL
  · exact go 9 (Or.inr rfl) hL
theorem e47 {r n t p l : Nat} {k : Nat → Nat} {D : Nat → Nat → Nat} (hR : pm_CR r n t D I) (hD : pm_DR n t D) (hp : p < n) (hL : pm_CL 6 l k I) (hw : pm_wf l k) : ∃ I', f47 r (nI p) I J = some (pm_oW l k D n (I 5) p, I', J) := by
  have h8 := hR.2.2.2.2.1
  have hv : v30 (nI p) 3 I = decide (I 5 p = nI 3) := by
    unfold v30
    rw [zt_lit 0, zt_lit 3, zt_sg (by omega) (by omega)]
    simp only [Nat.zero_mul, Nat.zero_add]
    split <;> simp [*]
  unfold f47 pm_oW
  rw [hv]
  by_cases c : I 5 p = nI 3
  · refine ⟨I, ?_⟩
    simp only [c, decide_true, if_true]
    rfl
  · obtain ⟨S, e1, e2⟩ := e32 (J := J) hR hD hp
    have hL2 : pm_CL 6 l k (va_up I 12 S) := CL_ag hL (va_up_ne _ _ (by omega)) (va_up_ne _ _ (by omega))
    obtain ⟨T, e3⟩ := e18 (I := va_up I 12 S) (J := J) (a0 := 6) (pp := pm_ppr D n (I 5) p (nI (D 1 p)) (I 5 (24 + p))) (by decide) hL2.1 hL2.2 hw (by rw [va_up_self]; exact e2)
    refine ⟨va_up (va_up I 12 S) (6 + 2) T, ?_⟩
    simp only [c, decide_false, Bool.false_eq_true, if_false, e1, e3, zt_bind]
    rw [va_up_ne _ _ (by omega), va_up_ne _ _ (by omega), zt_lit 2, zt_sg (by omega) (by omega)]
    rfl
/-! the reference's -/
theorem l266 {n t p : Nat} {D : Nat → Nat → Nat} (hR : pm_MR n t D I) (hD : pm_DR n t D) (hp : p < n) : ∀ d i fu : Nat, i + d = n → d < fu → f266_4 fu (nI p) (nI (pm_cnt (pm_kP D p) i)) (nI i) I J = some (nI (pm_kin D n p), I, J) := by
  obtain ⟨hn, ht, hv, h8, h5, hs, htk⟩ := hR
  intro d
  induction d with
  | zero =>
    intro i fu hi hf
    obtain ⟨fu, rfl⟩ : ∃ k, fu = k + 1 := ⟨fu - 1, by omega⟩
    rw [f266_4, hn, if_neg (by rw [nI_toInt (by omega), nI_toInt (by omega)]; omega), show i = n by omega]
    rfl
  | succ d ih =>
    intro i fu hi hf
    obtain ⟨fu, rfl⟩ : ∃ k, fu = k + 1 := ⟨fu - 1, by omega⟩
    have s := ih (i + 1) fu (by omega) (by omega)
    have k1 := (hs i (by omega)).2.2
    have k2 := (hs p hp).2.2
    have d1 := (hD.1 p hp).2.2
    have d2 := (hD.1 i (by omega)).2.2
    have e : f267 (nI p) (nI i) I J = some (pm_kP D p i, I, J) := by
      unfold f267 pm_kP
      by_cases c : p = i
      · subst c
        simp
      · by_cases c2 : D 3 p = 0
        · simp (disch := omega) only [zt_lit, zt_eq, pk_mul, nI_add, zt_in, zt_gd, nI_clamp, k1, k2, zt_lt0, if_neg]
          simp [c2]
        · simp (disch := omega) only [zt_lit, zt_eq, pk_mul, nI_add, zt_in, zt_gd, nI_clamp, k1, k2, zt_lt0, if_neg, if_pos]
          by_cases c3 : D 3 p = D 3 i
          · rw [if_pos c3]
            simp [c2, c3, Ne.symm c]
            omega
          · rw [if_neg c3]
            simp [Ne.symm c3]
    rw [f266_4, hn, if_pos (by rw [nI_toInt (by omega), nI_toInt (by omega)]; omega), e, zt_bind]
    rw [pm_cnt] at s
    simp only [zt_lit, nI_add]
    by_cases c : pm_kP D p i = true
    · rw [if_pos c] at s ⊢
      exact s
    · rw [if_neg c] at s ⊢
      exact s
theorem e266 {n t p : Nat} {D : Nat → Nat → Nat} (hR : pm_MR n t D I) (hD : pm_DR n t D) (hp : p < n) : f266 (nI p) I J = some (nI (pm_kin D n p), I, J) := by
  unfold f266
  exact l266 hR hD hp n 0 pm_FU (by omega) (by have := hR.2.2.2.1; unfold pm_FU; omega)
theorem MR_cell {I' : Nat → Nat → Int32} {n t : Nat} {D : Nat → Nat → Nat} (hR : pm_MR n t D I) (h1 : I' 127 18 = I 127 18) (h2 : I' 127 19 = I 127 19) (h3 : I' 127 20 = I 127 20) (h4 : I' 132 = I 132) (h5 : I' 133 = I 133) : pm_MR n t D I' := by
  unfold pm_MR
  rw [h1, h2, h3, h4, h5]
  exact hR
theorem MR_up {a : Nat} {S : Nat → Int32} {n t : Nat} {D : Nat → Nat → Nat} (hR : pm_MR n t D I) (h : 134 ≤ a) : pm_MR n t D (va_up I a S) := MR_cell hR (by rw [va_up_ne _ _ (by omega)]) (by rw [va_up_ne _ _ (by omega)]) (by rw [va_up_ne _ _ (by omega)]) (va_up_ne _ _ (by omega)) (va_up_ne _ _ (by omega))
theorem ML_cell {I' : Nat → Nat → Int32} {w l : Nat} {k : Nat → Nat} (hm : pm_ML w l k I) (h1 : I' 138 = I 138) (h2 : I' 136 = I 136) (h3 : I' 137 = I 137) : pm_ML w l k I' := by
  unfold pm_ML
  rw [h1, h2, h3]
  exact hm
theorem ML_up {a : Nat} {S : Nat → Int32} {w l : Nat} {k : Nat → Nat} (hm : pm_ML w l k I) (h : 139 ≤ a) : pm_ML w l k (va_up I a S) := ML_cell hm (va_up_ne _ _ (by omega)) (va_up_ne _ _ (by omega)) (va_up_ne _ _ (by omega))
theorem e265 {n t p l x : Nat} {k : Nat → Nat} {D : Nat → Nat → Nat} {w : Nat → Int32} {y a : Int32} (hR : pm_MR n t D I) (hD : pm_DR n t D) (hp : p < n) (hx : x < 2) (hL : pm_ML x l k I) (hw : pm_wf l k) (hs : pm_ms n (I 144) w) : ∃ I', f265 (nI p) (nI x) y a I J = some (pm_av l k (pm_ppr D n w p y a), I', J) := by
  have hR' := hR
  obtain ⟨hn, ht, hv, h8, h5, hsg, htk⟩ := hR
  obtain ⟨s1, s2, s3, s4⟩ := hs
  have x2 := (hsg p hp).2.1
  have hk := fun S => e266 (J := J) (MR_up (a := 140) (S := S) hR' (by omega)) hD hp
  have a1 := s1 (32 + p) (by omega)
  have a2 := s1 (40 + p) (by omega)
  have a3 := (s2 p (by omega)).1
  by_cases c : w (56 + p) = pm_m1
  · have key : ∀ S : Nat → Int32, (∀ j, j < 8 → S j = pm_ppr D n w p y a j) → ∃ I', ((f268 (nI x) (va_up I 140 S) J).bind (fun q : Int32 × (Nat → Nat → Int32) × (Nat → Nat → Int64) => some (q.1, q.2.1, q.2.2))) = some (pm_av l k (pm_ppr D n w p y a), I', J) := by
      intro S hS
      obtain ⟨T, e⟩ := e268 (I := va_up I 140 S) (J := J) hx (ML_up hL (by omega)) hw (by rw [va_up_self]; exact hS)
      exact ⟨_, by rw [e]; rfl⟩
    unfold f265
    simp (disch := omega) only [zt_lit, zt_m1, zt_in, zt_gd, pm_lt, w_va, nI_clamp, va_upup, va_up_self, va_up_ne, pk_mul, nI_add, x2, hk, zt_bind, a1, a2, a3, s3, c, if_true]
    refine key _ ?_
    intro j hj
    have q : j = 0 ∨ j = 1 ∨ j = 2 ∨ j = 3 ∨ j = 4 ∨ j = 5 ∨ j = 6 ∨ j = 7 := by omega
    rcases q with rfl | rfl | rfl | rfl | rfl | rfl | rfl | rfl <;> simp [upd, pm_ppr, c]
  · have key : ∀ S : Nat → Int32, (∀ j, j < 8 → S j = pm_ppr D n w p y a j) → ∃ I', ((f268 (nI x) (va_up I 140 S) J).bind (fun q : Int32 × (Nat → Nat → Int32) × (Nat → Nat → Int64) => some (q.1, q.2.1, q.2.2))) = some (pm_av l k (pm_ppr D n w p y a), I', J) := by
      intro S hS
      obtain ⟨T, e⟩ := e268 (I := va_up I 140 S) (J := J) hx (ML_up hL (by omega)) hw (by rw [va_up_self]; exact hS)
      exact ⟨_, by rw [e]; rfl⟩
    unfold f265
    simp (disch := omega) only [zt_lit, zt_m1, zt_in, zt_gd, pm_lt, w_va, nI_clamp, va_upup, va_up_self, va_up_ne, pk_mul, nI_add, x2, hk, zt_bind, a1, a2, a3, s3, c, if_false]
    refine key _ ?_
    intro j hj
    have q : j = 0 ∨ j = 1 ∨ j = 2 ∨ j = 3 ∨ j = 4 ∨ j = 5 ∨ j = 6 ∨ j = 7 := by omega
    rcases q with rfl | rfl | rfl | rfl | rfl | rfl | rfl | rfl <;> simp [upd, pm_ppr, c]
theorem e264 {n t p l x : Nat} {k : Nat → Nat} {D : Nat → Nat → Nat} {w : Nat → Int32} (hR : pm_MR n t D I) (hD : pm_DR n t D) (hp : p < n) (hx : x < 2) (hL : pm_ML x l k I) (hw : pm_wf l k) (hs : pm_ms n (I 144) w) : ∃ I', f264 (nI p) (nI x) I J = some (pm_aS l k D n w p, I', J) := by
  obtain ⟨I', e⟩ := e265 (J := J) (y := nI (D 1 p)) (a := w (24 + p)) hR hD hp hx hL hw hs
  obtain ⟨hn, ht, hv, h8, h5, hsg, htk⟩ := hR
  refine ⟨I', ?_⟩
  unfold f264
  simp (disch := omega) only [zt_lit, pk_mul, nI_add, Nat.add_zero, zt_in, zt_gd, nI_clamp, (hsg p hp).1, hs.1 (24 + p) (by omega), e, zt_bind]
  rfl
theorem e263 {n t p l x : Nat} {k : Nat → Nat} {D : Nat → Nat → Nat} {w : Nat → Int32} (hR : pm_MR n t D I) (hD : pm_DR n t D) (hp : p < n) (hx : x < 2) (hru : I 127 40 = nI x) (hL : pm_ML x l k I) (hw : pm_wf l k) (hs : pm_ms n (I 144) w) : ∃ I', f263 (nI p) I J = some (pm_oW l k D n w p, I', J) := by
  obtain ⟨I', e⟩ := e264 (J := J) hR hD hp hx hL hw hs
  have g := (fr_264 _ _ _ e).1
  have g144 : I' 144 = I 144 := ag_cell g (by decide) (by intro f; simp)
  obtain ⟨hn, ht, hv, h8, h5, hsg, htk⟩ := hR
  have a0 := hs.1 p (by omega)
  have a1 := hs.1 (16 + p) (by omega)
  unfold f263 pm_oW
  by_cases c : w p = nI 3
  · refine ⟨I, ?_⟩
    simp (disch := omega) only [zt_lit, nI_add, Nat.zero_add, zt_in, zt_gd, nI_clamp, a0, c, if_true]
  · refine ⟨I', ?_⟩
    simp (disch := omega) only [zt_lit, nI_add, Nat.zero_add, zt_in, zt_gd, nI_clamp, a0, c, if_false, hru, e, zt_bind, g144, a1]
    have h0 : (nI 0).toInt = 0 := by decide
    unfold pm_max
    rw [h0]
    split <;> rfl
end O
