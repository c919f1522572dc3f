/-! THE LAW'S TEXT: a unit, the class -/
/-- the next behind a sign -/
def pm_nx1 (c : Nat → Nat) (L i : Nat) : Nat := pm_sk c (L - (i + 1)) (i + 1)
def pm_uPa (c : Nat → Nat) (L : Nat) (r : (Nat × Nat) ⊕ (Nat × Nat × (Nat → Nat))) : (Nat × Nat) ⊕ (Nat × Nat × (Nat → Nat)) := match r with
  | .inl f => .inl f
  | .inr (i, l, k) => if i < L ∧ c i = 41 then .inr (pm_nx1 c L i, l, k) else .inl (1, i)
def pm_uB (c : Nat → Nat) (L cc : Nat) (r : (Nat × Nat) ⊕ (Nat × Nat × (Nat → Nat))) : (Nat × Nat) ⊕ (Nat × Nat × (Nat → Nat)) := match r with
  | .inl f => .inl f
  | .inr (i, l, k) => if i < L ∧ c i = 93 then .inr (pm_nx1 c L i, l + 1, pm_cup k l cc) else .inl (1, i)
def pm_uA (c : Nat → Nat) (L cc : Nat) (S1 : Nat → Nat → (Nat → Nat) → (Nat × Nat) ⊕ (Nat × Nat × (Nat → Nat))) (r : (Nat × Nat) ⊕ (Nat × Nat × (Nat → Nat))) : (Nat × Nat) ⊕ (Nat × Nat × (Nat → Nat)) := match r with
  | .inl f => .inl f
  | .inr (i, l, k) => if i < L ∧ c i = 44 then pm_uB c L cc (S1 (pm_nx1 c L i) l k) else .inl (1, i)
def pm_uR (c : Nat → Nat) (L : Nat) (S : Nat → Nat → Nat → (Nat → Nat) → (Nat × Nat) ⊕ (Nat × Nat × (Nat → Nat))) (o i l : Nat) (k : Nat → Nat) : (Nat × Nat) ⊕ (Nat × Nat × (Nat → Nat)) :=
  if pm_kd c L i = 2 then (if pm_nk c L 0 999 i = 0 then .inr (pm_nxt c L i, l + 1, pm_cup k l (14 + pm_nv c L i)) else .inl (pm_nk c L 0 999 i, i))
  else if pm_nmi c L i < 8 then .inr (pm_nxt c L i, l + 1, pm_cup k l (pm_nmi c L i))
  else if pm_pri c L i = 0 then (if i < L ∧ c i = 40 then (if o = 6 then .inl (3, i) else pm_uPa c L (S (o + 1) (pm_nx1 c L i) l k)) else .inl (1, i))
  else if o = 6 then .inl (3, i)
  else if pm_nxt c L i < L ∧ c (pm_nxt c L i) = 91 then pm_uA c L (11 + pm_pri c L i) (S (o + 1)) (S (o + 1) (pm_nx1 c L (pm_nxt c L i)) l k)
  else .inl (1, pm_nxt c L i)
def pm_hS (L n o i l : Nat) (k : Nat → Nat) : Prop := o ≤ 6 ∧ i ≤ L ∧ L - i < n ∧ l ≤ i ∧ pm_hts k l + 2 + 3 * (6 - o) ≤ 31
def pm_hU (L n o i l : Nat) (k : Nat → Nat) : Prop := o ≤ 6 ∧ i ≤ L ∧ L - i < n ∧ l ≤ i ∧ pm_hts k l + 3 * (6 - o) ≤ 31
def pm_ZP (L n : Nat) (S : Nat → Nat → Nat → (Nat → Nat) → (Nat × Nat) ⊕ (Nat × Nat × (Nat → Nat))) : Prop := ∀ o i l k, pm_hS L n o i l k → pm_lR L i l k 1 (S o i l k)
def pm_ZC (c : Nat → Nat) (L n : Nat) (S : Nat → Nat → Nat → (Nat → Nat) → (Nat × Nat) ⊕ (Nat × Nat × (Nat → Nat))) : Prop := ∀ o i l k, pm_hS L n o i l k → ∀ fu dep, 4 * (L - i) + 3 ≤ fu → 4 * (6 - o) + 7 ≤ dep → pm_lC c L i l k (S o i l k) (fun I J => g21 94 fu dep 0 (nI o) 0 I J)
def pm_ZM (c : Nat → Nat) (L n : Nat) (S : Nat → Nat → Nat → (Nat → Nat) → (Nat × Nat) ⊕ (Nat × Nat × (Nat → Nat))) : Prop := ∀ o i l k, pm_hS L n o i l k → ∀ fu dep, 4 * (L - i) + 3 ≤ fu → 4 * (6 - o) + 7 ≤ dep → pm_lM c L i l k o (S o i l k) (fun I J => g242 fu dep 0 0 0 I J)
theorem nx1_b {c : Nat → Nat} {L i : Nat} (h : i < L) : i < pm_nx1 c L i ∧ pm_nx1 c L i ≤ L := by
  unfold pm_nx1
  have := sk_b c (L - (i + 1)) (i + 1)
  omega
theorem stp_g {c : Nat → Nat} {L i : Nat} (h : i < L) : i < pm_stp c L i := by
  have k := kd_c c L i
  have b : pm_kd c L i ≠ 1 := by
    unfold pm_kd
    rw [if_pos h]
    split
    · decide
    · split <;> decide
  unfold pm_stp
  by_cases a : pm_kd c L i = 4
  · rw [if_pos a]; omega
  · rw [if_neg a, if_neg b]
    obtain ⟨d, hd⟩ : ∃ d, L - i = d + 1 := ⟨L - i - 1, by omega⟩
    rw [hd, pm_rn, if_pos rfl]
    have := rn_b c L (pm_kd c L i) d (i + 1)
    omega
theorem nxt_g {c : Nat → Nat} {L i : Nat} (h : i < L) : i < pm_nxt c L i ∧ pm_nxt c L i ≤ L := by
  have h1 := stp_g (c := c) h
  have h2 := nx_b (c := c) (L := L) (i := i) (by omega)
  have h3 := sk_b c (L - pm_stp c L i) (pm_stp c L i)
  unfold pm_nxt at *
  omega
theorem fst_l {c : Nat → Nat} {L i : Nat} (hi : i ≤ L) (ws : List Nat) (hw : ∀ s, s ∈ ws → 0 < pm_tl (s + 2)) (h : pm_fst c L i ws < ws.length) : i < L ∧ pm_kd c L i = 3 := by
  obtain ⟨s, m, w⟩ := fst_e ws h
  have k := (wq_k hi w (hw s m)).1
  exact ⟨(kd_3.mp k).1, k⟩
theorem nmi_l {c : Nat → Nat} {L i : Nat} (hi : i ≤ L) (h : pm_nmi c L i < 8) : i < L ∧ pm_kd c L i = 3 := fst_l hi [16, 18, 20, 22, 24, 26, 28, 30] (by decide) h
theorem pri_l {c : Nat → Nat} {L i : Nat} (hi : i ≤ L) (h : pm_pri c L i ≠ 0) : i < L ∧ pm_kd c L i = 3 := by
  unfold pm_pri at h
  by_cases a : pm_wb c L i 12 = true
  · have k := (wq_k hi (wb_q.mp a) (by decide)).1
    exact ⟨(kd_3.mp k).1, k⟩
  · rw [if_neg a] at h
    by_cases b : pm_wb c L i 14 = true
    · have k := (wq_k hi (wb_q.mp b) (by decide)).1
      exact ⟨(kd_3.mp k).1, k⟩
    · rw [if_neg b] at h
      omega
theorem pri_b (c : Nat → Nat) (L i : Nat) : pm_pri c L i ≤ 2 := by
  unfold pm_pri
  split
  · omega
  · split <;> omega
section Lb
variable {I : Nat → Nat → Int32} {J : Nat → Nat → Int64}
theorem v136f {c : Nat → Nat} {L i s : Nat} (h : pm_CF c L i I) (hi : i ≤ L) (hs : s < 48 ∨ (57 < s ∧ s < 97)) : v136 (nI s) I = decide (i < L ∧ c i = s) := by
  obtain ⟨p3, p4, p5, p6⟩ := h.2.1
  have kc := kd_c c L i
  have k4 := kd_4 (c := c) (L := L) (i := i) (s := s) (by omega)
  unfold v136
  rw [p3, p4, v129n h.1 hi]
  by_cases w : i < L ∧ c i = s
  · obtain ⟨w1, w2⟩ := k4.mpr w
    rw [if_pos (show nI (pm_kd c L i) = 4 by rw [w1]; rfl), if_pos w.1, if_pos (by rw [w.2]), decide_eq_true w]
  · rw [decide_eq_false w]
    by_cases k : pm_kd c L i = 4
    · have hL : i < L := by
        unfold pm_kd at k
        by_cases b : i < L
        · exact b
        · rw [if_neg b] at k
          omega
      have c2 := (h.1.2.2 i hL).1
      rw [if_pos (show nI (pm_kd c L i) = 4 by rw [k]; rfl), if_pos hL, if_neg (by rw [zt_eq (by omega) (by omega)]; exact fun q => w ⟨hL, q⟩)]
    · rw [if_neg (by rw [zt_lit 4, zt_eq (by omega) (by omega)]; exact k)]
theorem e135s {c : Nat → Nat} {L i s : Nat} (h : pm_CF c L i I) (hi' : i ≤ L) (hs : s < 48 ∨ (57 < s ∧ s < 97)) : ((i < L ∧ c i = s) → ∃ I', f135 (nI s) I J = some ((), I', J) ∧ pm_CF c L (pm_nx1 c L i) I') ∧ (¬ (i < L ∧ c i = s) → ∃ I', f135 (nI s) I J = some ((), I', J) ∧ pm_CX 1 i I') := by
  obtain ⟨a, b⟩ := e135 (J := J) (s := s) h hi' (by omega)
  have k4 := kd_4 (c := c) (L := L) (i := i) (s := s) (by omega)
  exact ⟨fun w => a (k4.mpr w), fun w => b (fun q => w (k4.mp q))⟩
theorem e128s {c : Nat → Nat} {L i s : Nat} (h : pm_CF c L i I) (hw : i < L ∧ c i = s) (hs : s < 48 ∨ (57 < s ∧ s < 97)) : ∃ I', f128 I J = some ((), I', J) ∧ pm_CF c L (pm_nx1 c L i) I' := by
  obtain ⟨I', e, f⟩ := CF_step (J := J) h (by omega)
  have k := ((kd_4 (c := c) (L := L) (i := i) (s := s) (by omega)).mpr hw).1
  have es : pm_stp c L i = i + 1 := by unfold pm_stp; rw [if_pos k]
  rw [es] at f
  exact ⟨I', e, f⟩
theorem CL_f {l : Nat} {k : Nat → Nat} {I' : Nat → Nat → Int32} {A : List Nat} {F : List (Nat × Nat)} (h : pm_CL 94 l k I) (g : pm_ag A F I I') (ok : (A.all (fun a => !decide (a = 94) && !decide (a = 95)) && F.all (fun q => !decide (q.1 = 94) && !decide (q.1 = 95))) = true) : pm_CL 94 l k I' := by
  rw [Bool.and_eq_true, List.all_eq_true, List.all_eq_true] at ok
  obtain ⟨o1, o2⟩ := ok
  refine CL_ag h (ag_cell g (fun m => ?_) (fun f m => ?_)) (ag_cell g (fun m => ?_) (fun f m => ?_))
  · have := o1 _ m
    simp at this
  · have := o2 _ m
    simp at this
  · have := o1 _ m
    simp at this
  · have := o2 _ m
    simp at this
theorem v140f {c : Nat → Nat} {L i : Nat} (h : pm_CF c L i I) : v140 I = decide (pm_kd c L i = 2) := by
  have kc := kd_c c L i
  unfold v140
  rw [h.2.1.1]
  by_cases a : pm_kd c L i = 2
  · rw [if_pos (by rw [a]; rfl), decide_eq_true a]
  · rw [if_neg (by rw [zt_lit 2, zt_eq (by omega) (by omega)]; exact a), decide_eq_false a]
/-- the end of two, at fault -/
theorem xc_a {q p : Nat} {cc : Int32} (h : pm_CX q p I) : ∃ I', (f135 93 I J).bind (fun (ov34, I35, J36) => (f17 94 cc I35 J36).bind (fun (ov38, I39, J40) => some ((), I39, J40))) = some ((), I', J) ∧ pm_CX q p I' := by
  obtain ⟨I1, e1, x1⟩ := e135x (J := J) (s := 93) h
  obtain ⟨I2, e2, x2⟩ := e17x (J := J) (x := cc) x1
  refine ⟨I2, ?_, x2⟩
  rw [e1, zt_bind]
  dsimp only
  rw [e2, zt_bind]
theorem xc_b {q p fu dep : Nat} {cc o : Int32} (h : pm_CX q p I) : ∃ I', (f135 44 I J).bind (fun (ov26, I27, J28) => (g21 94 (fu + 3) (dep + 3) 0 o 0 I27 J28).bind (fun (ov30, I31, J32) => (f135 93 I31 J32).bind (fun (ov34, I35, J36) => (f17 94 cc I35 J36).bind (fun (ov38, I39, J40) => some ((), I39, J40))))) = some ((), I', J) ∧ pm_CX q p I' := by
  obtain ⟨I1, e1, x1⟩ := e135x (J := J) (s := 44) h
  obtain ⟨I2, e2, x2⟩ := x21_0 (J := J) (fu := fu) (dep := dep) (z := o) (y := 0) x1
  obtain ⟨I3, e3, x3⟩ := xc_a (J := J) (cc := cc) x2
  refine ⟨I3, ?_, x3⟩
  rw [e1, zt_bind]
  dsimp only
  rw [e2, zt_bind]
  exact e3
end Lb
