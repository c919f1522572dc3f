/-! THE TAPE: what a text says, place by place -/
def pm_sk (c : Nat → Nat) : Nat → Nat → Nat
  | 0, i => i
  | d + 1, i => if c i = 32 then pm_sk c d (i + 1) else i
def pm_kd (c : Nat → Nat) (L i : Nat) : Nat := if i < L then (if 48 ≤ c i ∧ c i ≤ 57 then 2 else if 97 ≤ c i ∧ c i ≤ 122 then 3 else 4) else 1
def pm_rn (c : Nat → Nat) (L K : Nat) : Nat → Nat → Nat
  | 0, i => i
  | d + 1, i => if pm_kd c L i = K then pm_rn c L K d (i + 1) else i
def pm_nmv (c : Nat → Nat) (L : Nat) : Nat → Nat → Nat → Nat
  | 0, _, v => v
  | d + 1, i, v => if pm_kd c L i = 2 then pm_nmv c L d (i + 1) (10 * v + (c i - 48)) else v
def pm_CT (c : Nat → Nat) (L : Nat) (I : Nat → Nat → Int32) : Prop := I 1 2 = nI L ∧ L ≤ 600 ∧ ∀ i, i < L → c i < 256 ∧ I 2 i = nI (c i)
theorem sk_b (c : Nat → Nat) : ∀ d i, i ≤ pm_sk c d i ∧ pm_sk c d i ≤ i + d
  | 0, i => ⟨Nat.le_refl _, Nat.le_refl _⟩
  | d + 1, i => by
    have h := sk_b c d (i + 1)
    rw [pm_sk]
    split <;> omega
section Tp
variable {I : Nat → Nat → Int32} {J : Nat → Nat → Int64}
theorem v129n {c : Nat → Nat} {L i : Nat} (h : pm_CT c L I) (hi : i ≤ L) : v129 (nI i) I = if i < L then nI (c i) else -1 := by
  obtain ⟨h1, h2, h3⟩ := h
  unfold v129
  rw [h1, nI_toInt (by omega), nI_toInt (by omega), nI_toInt (by omega), if_neg (by omega), nI_clamp (by omega)]
  by_cases c1 : i < L
  · rw [if_pos (by omega), if_pos (by omega), if_pos c1, (h3 i c1).2]
  · rw [if_neg (by omega), if_neg c1]
theorem v130n {c : Nat → Nat} {L i : Nat} (h : pm_CT c L I) (hi : i ≤ L) : v130 (nI i) I = nI (pm_kd c L i) := by
  obtain ⟨h1, h2, h3⟩ := h
  unfold v130 pm_kd
  have i48 : ((48 : Int32)).toInt = 48 := by decide
  have i57 : ((57 : Int32)).toInt = 57 := by decide
  have i97 : ((97 : Int32)).toInt = 97 := by decide
  have i122 : ((122 : Int32)).toInt = 122 := by decide
  rw [h1, nI_toInt (by omega), nI_toInt (by omega), nI_toInt (by omega), if_neg (by omega), nI_clamp (by omega)]
  by_cases c1 : i < L
  · obtain ⟨x1, x2⟩ := h3 i c1
    rw [if_pos (by omega), if_pos (by omega), if_pos c1, x2, nI_toInt (by omega), i48, i57, i97, i122]
    by_cases a : c i < 48
    · rw [if_pos (by omega), if_pos (by omega), if_neg (by omega), if_neg (by omega)]; rfl
    · rw [if_neg (by omega)]
      by_cases b : 57 < c i
      · rw [if_pos (by omega)]
        by_cases e : c i < 97
        · rw [if_pos (by omega), if_neg (by omega), if_neg (by omega)]; rfl
        · rw [if_neg (by omega)]
          by_cases f : 122 < c i
          · rw [if_pos (by omega), if_neg (by omega), if_neg (by omega)]; rfl
          · rw [if_neg (by omega), if_neg (by omega), if_pos (by omega)]; rfl
      · rw [if_neg (by omega), if_pos (by omega)]; rfl
  · rw [if_neg (by omega), if_neg c1]; rfl
theorem CT_w {c : Nat → Nat} {L f : Nat} {x : Int32} (h : pm_CT c L I) (hf : 3 ≤ f) : pm_CT c L (pm_w I 1 f x) := by
  unfold pm_CT
  rw [zt_w2 (by omega), zt_wc (by omega)]
  exact h
/-- a word or a number to its end -/
theorem l128d {c : Nat → Nat} {L K : Nat} (hK : K = 2 ∨ K = 3) : ∀ d i y fu V : Nat, ∀ I : Nat → Nat → Int32, pm_CT c L I → i + d = L → y ≤ i → d < fu → I 1 3 = nI K → I 1 5 = nI i → I 1 6 = nI (Nat.min 1000000 V) → ∃ I', f128_L fu 1 1 (nI y) I J = some ((), I', J) ∧ I' 1 3 = nI K ∧ I' 1 4 = I 1 4 ∧ I' 1 5 = nI (pm_rn c L K d i) ∧ I' 1 6 = (if K = 2 then nI (Nat.min 1000000 (pm_nmv c L d i V)) else I 1 6) := by
  have i6 : ((600 : Int32)).toInt = 600 := by decide
  intro d
  induction d with
  | zero =>
    intro i y fu V I hT hi hy hf h3 h5 h6
    obtain ⟨fu, rfl⟩ : ∃ k, fu = k + 1 := ⟨fu - 1, by omega⟩
    have hL := hT.2.1
    refine ⟨I, ?_, h3, rfl, h5, ?_⟩
    · rw [f128_L, i6, nI_toInt (by omega), h5, v130n hT (by omega), h3]
      have kn : pm_kd c L i = 1 := by unfold pm_kd; rw [if_neg (by omega)]
      rw [kn]
      by_cases q : y < 600
      · rw [if_pos (by omega), if_neg (by decide), if_neg (by rcases hK with rfl | rfl <;> decide)]
      · rw [if_neg (by omega)]
    · rcases hK with rfl | rfl
      · rw [if_pos rfl, h6]; rfl
      · rw [if_neg (by decide)]
  | succ d ih =>
    intro i y fu V I hT hi hy hf h3 h5 h6
    obtain ⟨fu, rfl⟩ : ∃ k, fu = k + 1 := ⟨fu - 1, by omega⟩
    have hL := hT.2.1
    have kb : pm_kd c L i < 5 := by unfold pm_kd; split <;> (try split) <;> (try split) <;> omega
    rw [f128_L, i6, nI_toInt (by omega), if_pos (by omega), if_neg (by decide), h5, v130n hT (by omega), h3]
    by_cases k : pm_kd c L i = K
    · rw [if_pos (by rw [k])]
      rcases hK with rfl | rfl
      · have hc : 48 ≤ c i ∧ c i ≤ 57 := by
          unfold pm_kd at k
          rw [if_pos (by omega)] at k
          by_cases q : 48 ≤ c i ∧ c i ≤ 57
          · exact q
          · rw [if_neg q] at k
            split at k <;> omega
        have ev : pm_min 1000000 (nI (Nat.min 1000000 V) * 10 + v129 (nI i) I - 48) = nI (Nat.min 1000000 (10 * V + (c i - 48))) := by
          have m1 : Nat.min 1000000 V ≤ 1000000 := Nat.min_le_left _ _
          rw [v129n hT (by omega), if_pos (by omega), zt_lit 10, zt_lit 48, zt_lit 1000000, pk_mul, nI_add, zt_mi (by omega), min_nI (by omega) (by omega)]
          congr 1
          rcases Nat.le_total 1000000 V with q | q
          · rw [show Nat.min 1000000 V = 1000000 from Nat.min_eq_left q, show Nat.min 1000000 (1000000 * 10 + c i - 48) = 1000000 from Nat.min_eq_left (by omega), show Nat.min 1000000 (10 * V + (c i - 48)) = 1000000 from Nat.min_eq_left (by omega)]
          · rw [show Nat.min 1000000 V = V from Nat.min_eq_right q, show V * 10 + c i - 48 = 10 * V + (c i - 48) by omega]
        rw [if_pos (by decide), pm_lt_eq, pm_lt_eq, h6, ev, nI_1, zt_w2 (by omega), h5, nI_1]
        obtain ⟨I', e, a1, a2, a3, a4⟩ := ih (i + 1) (y + 1) fu (10 * V + (c i - 48)) (pm_w (pm_w I 1 6 (nI (Nat.min 1000000 (10 * V + (c i - 48))))) 1 5 (nI (i + 1))) (CT_w (CT_w hT (by omega)) (by omega)) (by omega) (by omega) (by omega) (by rw [zt_w2 (by omega), zt_w2 (by omega)]; exact h3) (by rw [zt_ws]) (by rw [zt_w2 (by omega), zt_ws])
        refine ⟨I', e, a1, ?_, ?_, ?_⟩
        · rw [a2, zt_w2 (by omega), zt_w2 (by omega)]
        · rw [a3, pm_rn, if_pos k]
        · rw [a4, if_pos rfl, if_pos rfl]
          conv => rhs; rw [pm_nmv, if_pos k]
      · rw [if_neg (by decide), pm_lt_eq, nI_1, nI_1]
        obtain ⟨I', e, a1, a2, a3, a4⟩ := ih (i + 1) (y + 1) fu V (pm_w I 1 5 (nI (i + 1))) (CT_w hT (by omega)) (by omega) (by omega) (by omega) (by rw [zt_w2 (by omega)]; exact h3) (by rw [zt_ws]) (by rw [zt_w2 (by omega)]; exact h6)
        refine ⟨I', e, a1, ?_, ?_, ?_⟩
        · rw [a2, zt_w2 (by omega)]
        · rw [a3, pm_rn, if_pos k]
        · rw [a4, if_neg (by decide), if_neg (by decide), zt_w2 (by omega)]
    · rw [if_neg (by rw [zt_eq (by omega) (by omega)]; exact k)]
      refine ⟨I, rfl, h3, rfl, ?_, ?_⟩
      · rw [pm_rn, if_neg k]; exact h5
      · rcases hK with rfl | rfl
        · rw [if_pos rfl, pm_nmv, if_neg k]; exact h6
        · rw [if_neg (by decide)]
end Tp
