/-! THE TAPE: the reference's reading -/
def pm_MT (c : Nat → Nat) (L : Nat) (I : Nat → Nat → Int32) : Prop := I 127 3 = nI L ∧ L ≤ 600 ∧ ∀ i, i < L → c i < 256 ∧ I 129 i = nI (c i)
def pm_rfv (c : Nat → Nat) (L : Nat) : Nat → Nat → Nat → Nat
  | 0, _, v => v
  | d + 1, i, v => if pm_kd c L i = 2 then pm_rfv c L d (i + 1) (if 9999 < v then 10000 else 10 * v + (c i - 48)) else v
/-- what is wrong with a number that stands at a place: 0 nothing, 1 it is none, 2 it lies outside -/
def pm_nk (c : Nat → Nat) (L lo hi i : Nat) : Nat := if pm_kd c L i = 2 then (if pm_nmv c L (L - i) i 0 < lo then 2 else if hi < pm_nmv c L (L - i) i 0 then 2 else 0) else 1
theorem kd_2 {c : Nat → Nat} {L i : Nat} (h : pm_kd c L i = 2) : i < L ∧ 48 ≤ c i ∧ c i ≤ 57 := by
  unfold pm_kd at h
  by_cases a : i < L
  · rw [if_pos a] at h
    by_cases q : 48 ≤ c i ∧ c i ≤ 57
    · exact ⟨a, q⟩
    · rw [if_neg q] at h
      split at h <;> omega
  · rw [if_neg a] at h
    omega
theorem nmv_ge (c : Nat → Nat) (L : Nat) : ∀ d i v, v ≤ pm_nmv c L d i v
  | 0, _, v => Nat.le_refl _
  | d + 1, i, v => by
    rw [pm_nmv]
    split
    · have := nmv_ge c L d (i + 1) (10 * v + (c i - 48))
      omega
    · exact Nat.le_refl _
theorem rv_s {c : Nat → Nat} {L : Nat} : ∀ d i v V, (v = V ∨ (9999 < v ∧ 9999 < V)) → v ≤ 99999 → (pm_rfv c L d i v = pm_nmv c L d i V ∨ (9999 < pm_rfv c L d i v ∧ 9999 < pm_nmv c L d i V)) ∧ pm_rfv c L d i v ≤ 99999
  | 0, _, v, V, h, hb => ⟨h, hb⟩
  | d + 1, i, v, V, h, hb => by
    rw [pm_rfv, pm_nmv]
    by_cases k : pm_kd c L i = 2
    · rw [if_pos k, if_pos k]
      obtain ⟨k1, k2, k3⟩ := kd_2 k
      by_cases q : 9999 < v
      · rw [if_pos q]
        exact rv_s d (i + 1) 10000 (10 * V + (c i - 48)) (Or.inr (by omega)) (by omega)
      · rw [if_neg q]
        exact rv_s d (i + 1) (10 * v + (c i - 48)) (10 * V + (c i - 48)) (Or.inl (by omega)) (by omega)
    · rw [if_neg k, if_neg k]
      exact ⟨h, hb⟩
theorem rn_b (c : Nat → Nat) (L K : Nat) : ∀ d i, i ≤ pm_rn c L K d i ∧ pm_rn c L K d i ≤ i + d
  | 0, i => ⟨Nat.le_refl _, Nat.le_refl _⟩
  | d + 1, i => by
    have h := rn_b c L K d (i + 1)
    rw [pm_rn]
    split <;> omega
section Tr2
variable {I : Nat → Nat → Int32} {J : Nat → Nat → Int64}
theorem MT_w {c : Nat → Nat} {L f : Nat} {x : Int32} (h : pm_MT c L I) (hf : 4 ≤ f) : pm_MT c L (pm_w I 127 f x) := by
  unfold pm_MT
  rw [zt_w2 (by omega), zt_wc (by omega)]
  exact h
theorem l226 {c : Nat → Nat} {L : Nat} : ∀ d i fu : Nat, ∀ I : Nat → Nat → Int32, pm_MT c L I → i + d = L → d < fu → I 127 4 = nI i → ∃ I', f226_0 fu I J = some ((if pm_sk c d i < L then nI (c (pm_sk c d i)) else 0), I', J) ∧ I' 127 4 = nI (pm_sk c d i) := by
  intro d
  induction d with
  | zero =>
    intro i fu I hT hi hf h4
    obtain ⟨fu, rfl⟩ : ∃ k, fu = k + 1 := ⟨fu - 1, by omega⟩
    have hL := hT.2.1
    refine ⟨I, ?_, h4⟩
    rw [f226_0, h4, hT.1, nI_toInt (by omega), nI_toInt (by omega), if_neg (by omega), if_neg (by omega), pm_sk, if_neg (by omega)]
  | succ d ih =>
    intro i fu I hT hi hf h4
    obtain ⟨fu, rfl⟩ : ∃ k, fu = k + 1 := ⟨fu - 1, by omega⟩
    have hL := hT.2.1
    obtain ⟨x1, x2⟩ := hT.2.2 i (by omega)
    rw [f226_0, h4, hT.1, nI_toInt (by omega), nI_toInt (by omega), if_pos (by omega), zt_in (by omega) (by omega), zt_gd, zt_gd, nI_clamp (by omega), x2, pm_sk]
    by_cases q : c i = 32
    · rw [if_pos q, if_pos (by rw [q]; rfl), pm_lt_eq, nI_1]
      exact ih (i + 1) fu (pm_w I 127 4 (nI (i + 1))) (MT_w hT (by omega)) (by omega) (by omega) zt_ws
    · rw [if_neg q, if_neg (by rw [zt_lit 32, zt_eq (by omega) (by omega)]; exact q), if_pos (by omega)]
      exact ⟨I, by rw [if_pos (show i < L by omega)], h4⟩
theorem e226 {c : Nat → Nat} {L a : Nat} (hT : pm_MT c L I) (ha : a ≤ L) (h4 : I 127 4 = nI a) : ∃ I', f226 I J = some ((if pm_sk c (L - a) a < L then nI (c (pm_sk c (L - a) a)) else 0), I', J) ∧ I' 127 4 = nI (pm_sk c (L - a) a) ∧ pm_MT c L I' ∧ I' 127 5 = I 127 5 := by
  obtain ⟨I', e, p⟩ := l226 (J := J) (L - a) a pm_FU I hT (by omega) (by have := hT.2.1; unfold pm_FU; omega) h4
  have e' : f226 I J = some ((if pm_sk c (L - a) a < L then nI (c (pm_sk c (L - a) a)) else 0), I', J) := e
  have g := (fr_226 _ _ _ e').1
  refine ⟨I', e', p, ?_, g 127 5 (by decide) (by decide)⟩
  unfold pm_MT
  rw [g 127 3 (by decide) (by decide), ag_cell g (by decide) (by intro f; simp)]
  exact hT
theorem v236n {c : Nat → Nat} {L i : Nat} (hc : ∀ i, i < L → c i < 256) : v236 (if i < L then nI (c i) else 0) I = decide (pm_kd c L i = 2) := by
  have i48 : ((48 : Int32)).toInt = 48 := by decide
  have i57 : ((57 : Int32)).toInt = 57 := by decide
  have i0 : ((0 : Int32)).toInt = 0 := by decide
  unfold v236 pm_kd
  by_cases a : i < L
  · have := hc i a
    rw [if_pos a, if_pos a, nI_toInt (by omega), i48, i57]
    by_cases b : c i < 48
    · rw [if_pos (by omega), if_neg (by omega)]
      split <;> rfl
    · rw [if_neg (by omega)]
      by_cases e : 57 < c i
      · rw [if_pos (by omega), if_neg (by omega)]
        split <;> rfl
      · rw [if_neg (by omega), if_pos (by omega)]
        rfl
  · rw [if_neg a, if_neg a, i0, i48, if_pos (by omega)]
    rfl
theorem e232 {k p : Int32} (h : I 127 5 = -1) : f232 k p I J = some ((), pm_w (pm_w I 127 5 p) 127 6 k, J) := by
  unfold f232
  rw [if_pos h, pm_lt_eq, pm_lt_eq]
theorem e232n {k p : Int32} (h : ¬ I 127 5 = -1) : f232 k p I J = some ((), I, J) := by
  unfold f232
  rw [if_neg h]
end Tr2
