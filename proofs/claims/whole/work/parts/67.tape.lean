/-! THE TAPE: the class's step -/
def pm_stp (c : Nat → Nat) (L i : Nat) : Nat := if pm_kd c L i = 4 then i + 1 else if pm_kd c L i = 1 then i else pm_rn c L (pm_kd c L i) (L - i) i
def pm_vl (c : Nat → Nat) (L i : Nat) : Nat := if pm_kd c L i = 2 then Nat.min 1000000 (pm_nmv c L (L - i) i 0) else 0
def pm_CP (c : Nat → Nat) (L i : Nat) (I : Nat → Nat → Int32) : Prop := I 1 3 = nI (pm_kd c L i) ∧ I 1 4 = nI i ∧ I 1 5 = nI (pm_stp c L i) ∧ I 1 6 = nI (pm_vl c L i)
theorem kd_c (c : Nat → Nat) (L i : Nat) : pm_kd c L i = 1 ∨ pm_kd c L i = 2 ∨ pm_kd c L i = 3 ∨ pm_kd c L i = 4 := by
  unfold pm_kd
  split
  · split
    · exact Or.inr (Or.inl rfl)
    · split
      · exact Or.inr (Or.inr (Or.inl rfl))
      · exact Or.inr (Or.inr (Or.inr rfl))
  · exact Or.inl rfl
section Tq
variable {I : Nat → Nat → Int32} {J : Nat → Nat → Int64}
theorem l128c {c : Nat → Nat} {L i fu : Nat} (hT : pm_CT c L I) (hi : i ≤ L) (h4 : I 1 4 = nI i) (hf : L < fu) : ∃ I', (pm_lt (pm_w I 1 3 (v130 (I 1 4) I)) (fun I2 => (if (I2 1 3) = 4 then pm_lt (pm_w I2 1 5 ((I2 1 4) + 1)) (fun I8 => pm_lt (pm_w I8 1 6 0) (fun I9 => (if (I9 1 3) = 2 then f128_L fu 1 1 0 I9 J else (if (I9 1 3) = 3 then f128_L fu 1 1 0 I9 J else f128_L fu 1 0 0 I9 J)))) else pm_lt (pm_w I2 1 5 (I2 1 4)) (fun I4 => pm_lt (pm_w I4 1 6 0) (fun I5 => (if (I5 1 3) = 2 then f128_L fu 1 1 0 I5 J else (if (I5 1 3) = 3 then f128_L fu 1 1 0 I5 J else f128_L fu 1 0 0 I5 J)))))) : Option (Unit × (Nat → Nat → Int32) × (Nat → Nat → Int64))) = some ((), I', J) ∧ pm_CP c L i I' := by
  obtain ⟨fu, rfl⟩ : ∃ k, fu = k + 1 := ⟨fu - 1, by omega⟩
  have i6 : ((600 : Int32)).toInt = 600 := by decide
  have z0 : ((0 : Int32)).toInt = 0 := by decide
  have st : ∀ I1 : Nat → Nat → Int32, f128_L (fu + 1) 1 0 0 I1 J = some ((), I1, J) := by
    intro I1
    rw [f128_L, i6, z0, if_pos (by omega), if_pos rfl]
  rw [pm_lt_eq, h4, v130n hT hi]
  have k := kd_c c L i
  have T3 := fun x y z => CT_w (f := 6) (x := z) (CT_w (f := 5) (x := y) (CT_w (f := 3) (x := x) hT (by omega)) (by omega)) (by omega)
  have g4 : ∀ x, pm_w I 1 3 x 1 4 = nI i := fun x => by rw [zt_w2 (by omega)]; exact h4
  have g3 : ∀ x y, pm_w (pm_w (pm_w I 1 3 x) 1 5 y) 1 6 0 1 3 = x := fun x y => by rw [zt_w2 (by omega), zt_w2 (by omega), zt_ws]
  unfold pm_CP
  rcases k with k | k | k | k
  · rw [k, zt_ws, if_neg (by decide), pm_lt_eq, pm_lt_eq, g4, g3, if_neg (by decide), if_neg (by decide), st]
    refine ⟨_, rfl, ?_, ?_, ?_, ?_⟩
    · rw [zt_w2 (by omega), zt_w2 (by omega), zt_ws]
    · rw [zt_w2 (by omega), zt_w2 (by omega), zt_w2 (by omega)]; exact h4
    · rw [zt_w2 (by omega), zt_ws]; unfold pm_stp; rw [k, if_neg (by decide), if_pos rfl]
    · rw [zt_ws]; unfold pm_vl; rw [k, if_neg (by decide)]; rfl
  · rw [k, zt_ws, if_neg (by decide), pm_lt_eq, pm_lt_eq, g4, g3, if_pos (by decide)]
    obtain ⟨I', e, a1, a2, a3, a4⟩ := l128d (J := J) (K := 2) (Or.inl rfl) (L - i) i 0 (fu + 1) 0 _ (T3 (nI 2) (nI i) 0) (by omega) (by omega) (by omega) (by rw [zt_w2 (by omega), zt_w2 (by omega), zt_ws]) (by rw [zt_w2 (by omega), zt_ws]) (by rw [zt_ws]; rfl)
    rw [nI_0] at e
    refine ⟨I', e, a1, ?_, ?_, ?_⟩
    · rw [a2, zt_w2 (by omega), zt_w2 (by omega), zt_w2 (by omega)]; exact h4
    · rw [a3]; unfold pm_stp; rw [k, if_neg (by decide), if_neg (by decide)]
    · rw [a4, if_pos rfl]; unfold pm_vl; rw [k, if_pos rfl]
  · rw [k, zt_ws, if_neg (by decide), pm_lt_eq, pm_lt_eq, g4, g3, if_neg (by decide), if_pos (by decide)]
    obtain ⟨I', e, a1, a2, a3, a4⟩ := l128d (J := J) (K := 3) (Or.inr rfl) (L - i) i 0 (fu + 1) 0 _ (T3 (nI 3) (nI i) 0) (by omega) (by omega) (by omega) (by rw [zt_w2 (by omega), zt_w2 (by omega), zt_ws]) (by rw [zt_w2 (by omega), zt_ws]) (by rw [zt_ws]; rfl)
    rw [nI_0] at e
    refine ⟨I', e, a1, ?_, ?_, ?_⟩
    · rw [a2, zt_w2 (by omega), zt_w2 (by omega), zt_w2 (by omega)]; exact h4
    · rw [a3]; unfold pm_stp; rw [k, if_neg (by decide), if_neg (by decide)]
    · rw [a4, if_neg (by decide), zt_ws]; unfold pm_vl; rw [k, if_neg (by decide)]; rfl
  · rw [k, zt_ws, if_pos (by decide), pm_lt_eq, pm_lt_eq, g4, nI_1, g3, if_neg (by decide), if_neg (by decide), st]
    refine ⟨_, rfl, ?_, ?_, ?_, ?_⟩
    · rw [zt_w2 (by omega), zt_w2 (by omega), zt_ws]
    · rw [zt_w2 (by omega), zt_w2 (by omega), zt_w2 (by omega)]; exact h4
    · rw [zt_w2 (by omega), zt_ws]; unfold pm_stp; rw [k, if_pos rfl]
    · rw [zt_ws]; unfold pm_vl; rw [k, if_neg (by decide)]; rfl
theorem l128s {c : Nat → Nat} {L : Nat} : ∀ d i y fu : Nat, ∀ I : Nat → Nat → Int32, pm_CT c L I → i + d = L → y ≤ i → L + d + 1 < fu → I 1 4 = nI i → ∃ I', f128_L fu 0 (nI y) 0 I J = some ((), I', J) ∧ pm_CP c L (pm_sk c d i) I' := by
  have i6 : ((600 : Int32)).toInt = 600 := by decide
  intro d
  induction d with
  | zero =>
    intro i y fu I hT hi hy hf h4
    obtain ⟨fu, rfl⟩ : ∃ k, fu = k + 1 := ⟨fu - 1, by omega⟩
    have hL := hT.2.1
    obtain ⟨I', e, p⟩ := l128c (J := J) (fu := fu) hT (show i ≤ L by omega) h4 (by omega)
    refine ⟨I', ?_, p⟩
    rw [f128_L, i6, nI_toInt (by omega)]
    by_cases q : y < 600
    · rw [if_pos (by omega), if_neg (by rw [h4, v129n hT (by omega), if_neg (by omega)]; decide)]
      exact e
    · rw [if_neg (by omega)]
      exact e
  | succ d ih =>
    intro i y fu I hT hi hy hf h4
    obtain ⟨fu, rfl⟩ : ∃ k, fu = k + 1 := ⟨fu - 1, by omega⟩
    have hL := hT.2.1
    have c2 := (hT.2.2 i (by omega)).1
    rw [pm_sk]
    by_cases q : c i = 32
    · rw [if_pos q]
      obtain ⟨I', e, p⟩ := ih (i + 1) (y + 1) fu (pm_w I 1 4 (nI (i + 1))) (CT_w hT (by omega)) (by omega) (by omega) (by omega) zt_ws
      refine ⟨I', ?_, p⟩
      rw [f128_L, i6, nI_toInt (by omega), if_pos (by omega), if_pos (by rw [h4, v129n hT (by omega), if_pos (by omega), q]; rfl), pm_lt_eq, h4, nI_1, nI_1]
      exact e
    · rw [if_neg q]
      obtain ⟨I', e, p⟩ := l128c (J := J) (fu := fu) hT (show i ≤ L by omega) h4 (by omega)
      refine ⟨I', ?_, p⟩
      rw [f128_L, i6, nI_toInt (by omega), if_pos (by omega), if_neg (by rw [h4, v129n hT (by omega), if_pos (by omega), zt_lit 32, zt_eq (by omega) (by omega)]; exact q)]
      exact e
/-- the step: from where the last stopped to the next -/
theorem e128 {c : Nat → Nat} {L s : Nat} (hT : pm_CT c L I) (hs : s ≤ L) (h5 : I 1 5 = nI s) : ∃ I', f128 I J = some ((), I', J) ∧ pm_CT c L I' ∧ pm_CP c L (pm_sk c (L - s) s) I' := by
  have hL := hT.2.1
  obtain ⟨I', e, p⟩ := l128s (J := J) (L - s) s 0 pm_FU (pm_w I 1 4 (nI s)) (CT_w hT (by omega)) (by omega) (by omega) (by unfold pm_FU; omega) zt_ws
  rw [nI_0] at e
  have e' : f128 I J = some ((), I', J) := by
    unfold f128
    rw [pm_lt_eq, h5]
    exact e
  have g := (fr_128 _ _ _ e').1
  refine ⟨I', e', ?_, p⟩
  unfold pm_CT
  rw [g 1 2 (by decide) (by decide), ag_cell g (by decide) (by intro f; simp)]
  exact hT
end Tq
