/-! THE TAPE: the reference's numbers and signs -/
/-- the reference, well; the reference, at fault -/
def pm_MF (c : Nat → Nat) (L a : Nat) (I : Nat → Nat → Int32) : Prop := pm_MT c L I ∧ a ≤ L ∧ I 127 4 = nI a ∧ I 127 5 = -1
def pm_MX (k p : Nat) (I : Nat → Nat → Int32) : Prop := I 127 5 = nI p ∧ I 127 6 = nI k ∧ 1 ≤ k ∧ k ≤ 3 ∧ p ≤ 600
section Tu
variable {I : Nat → Nat → Int32} {J : Nat → Nat → Int64}
theorem MX_n {k p : Nat} (h : pm_MX k p I) : ¬ I 127 5 = -1 := by
  obtain ⟨h1, h2, h3, h4, h5⟩ := h
  intro q
  rw [h1, zt_m1', zt_eqm (by omega)] at q
  exact q
theorem v224f {c : Nat → Nat} {L a : Nat} (h : pm_MF c L a I) : v224 I = true := by
  unfold v224
  rw [if_pos h.2.2.2]
theorem v224x {k p : Nat} (h : pm_MX k p I) : v224 I = false := by
  unfold v224
  rw [if_neg (MX_n h)]
theorem MF_here {c : Nat → Nat} {L a : Nat} (h : pm_MF c L a I) : ∃ I', f226 I J = some ((if pm_sk c (L - a) a < L then nI (c (pm_sk c (L - a) a)) else 0), I', J) ∧ pm_MF c L (pm_sk c (L - a) a) I' := by
  obtain ⟨I', e, p, t, q⟩ := e226 (J := J) h.1 h.2.1 h.2.2.1
  have := sk_b c (L - a) a
  have := h.2.1
  exact ⟨I', e, t, by omega, p, by rw [q]; exact h.2.2.2⟩
theorem MF_wrong {c : Nat → Nat} {L a k p : Nat} (h : pm_MF c L a I) (hk : 1 ≤ k ∧ k ≤ 3) (hp : p ≤ L) : ∃ I', f232 (nI k) (nI p) I J = some ((), I', J) ∧ pm_MX k p I' := by
  have hL := h.1.2.1
  refine ⟨_, e232 h.2.2.2, ?_⟩
  unfold pm_MX
  rw [zt_w2 (by omega), zt_ws, zt_ws]
  exact ⟨rfl, rfl, hk.1, hk.2, by omega⟩
theorem l235 {c : Nat → Nat} {L st lo hi : Nat} (hst : st ≤ L) (hl : lo ≤ 9999) (hh : hi ≤ 9999) : ∀ d i v fu : Nat, ∀ I : Nat → Nat → Int32, i + d = L → d < fu → v ≤ 99999 → pm_MF c L i I → (((lo ≤ pm_rfv c L d i v ∧ pm_rfv c L d i v ≤ hi) → ∃ I', f235_41 fu (nI lo) (nI hi) (nI st) (nI v) I J = some (nI (pm_rfv c L d i v), I', J) ∧ pm_MF c L (pm_rn c L 2 d i) I') ∧ (¬ (lo ≤ pm_rfv c L d i v ∧ pm_rfv c L d i v ≤ hi) → ∃ I', f235_41 fu (nI lo) (nI hi) (nI st) (nI v) I J = some (0, I', J) ∧ pm_MX 2 st I')) := by
  have i9 : ((9999 : Int32)).toInt = 9999 := by decide
  intro d
  have fin : ∀ i v : Nat, ∀ I : Nat → Nat → Int32, v ≤ 99999 → pm_MF c L i I → ((lo ≤ v ∧ v ≤ hi) → ∃ I', (if (nI v).toInt < (nI lo).toInt then (f232 2 (nI st) I J).bind (fun (ov15, I16, J17) => some ((0 : Int32), I16, J17)) else (if (nI hi).toInt < (nI v).toInt then (f232 2 (nI st) I J).bind (fun (ov20, I21, J22) => some (0, I21, J22)) else some (nI v, I, J))) = some (nI v, I', J) ∧ pm_MF c L i I') ∧ (¬ (lo ≤ v ∧ v ≤ hi) → ∃ I', (if (nI v).toInt < (nI lo).toInt then (f232 2 (nI st) I J).bind (fun (ov15, I16, J17) => some ((0 : Int32), I16, J17)) else (if (nI hi).toInt < (nI v).toInt then (f232 2 (nI st) I J).bind (fun (ov20, I21, J22) => some (0, I21, J22)) else some (nI v, I, J))) = some (0, I', J) ∧ pm_MX 2 st I') := by
    intro i v I hv h
    obtain ⟨I2, e2, x2⟩ := MF_wrong (J := J) (k := 2) (p := st) h (by omega) hst
    have e2' : f232 2 (nI st) I J = some ((), I2, J) := e2
    rw [nI_toInt (by omega), nI_toInt (by omega), nI_toInt (by omega), e2', zt_bind]
    refine ⟨fun q => ⟨I, ?_, h⟩, fun q => ⟨I2, ?_, x2⟩⟩
    · rw [if_neg (by omega), if_neg (by omega)]
    · by_cases a : v < lo
      · rw [if_pos (by omega)]
      · rw [if_neg (by omega), if_pos (by omega)]
  induction d with
  | zero =>
    intro i v fu I hi' hf hv h
    obtain ⟨fu, rfl⟩ : ∃ k, fu = k + 1 := ⟨fu - 1, by omega⟩
    have hL := h.1.2.1
    rw [pm_rfv, pm_rn, f235_41, h.2.2.1, h.1.1, if_neg (by rw [nI_toInt (by omega), nI_toInt (by omega)]; omega)]
    exact fin i v I hv h
  | succ d ih =>
    intro i v fu I hi' hf hv h
    obtain ⟨fu, rfl⟩ : ∃ k, fu = k + 1 := ⟨fu - 1, by omega⟩
    have hL := h.1.2.1
    obtain ⟨x1, x2⟩ := h.1.2.2 i (by omega)
    have hd : v236 (I 129 i) I = decide (pm_kd c L i = 2) := by
      have := v236n (I := I) (i := i) (fun j hj => (h.1.2.2 j hj).1)
      rw [if_pos (by omega)] at this
      rw [x2]
      exact this
    have hlt : (nI i).toInt < (nI L).toInt := by rw [nI_toInt (by omega), nI_toInt (by omega)]; omega
    rw [pm_rfv, pm_rn, f235_41, h.2.2.1, h.1.1, if_pos hlt, zt_in (by omega) (by omega), zt_gd, nI_clamp (by omega), hd]
    by_cases k : pm_kd c L i = 2
    · obtain ⟨k1, k2, k3⟩ := kd_2 k
      rw [decide_eq_true k, if_pos rfl, if_pos k, if_pos k, pm_lt_eq, zt_gd, pm_lt_eq, nI_1, i9, nI_toInt (by omega), x2]
      have F2 : pm_MF c L (i + 1) (pm_w I 127 4 (nI (i + 1))) := ⟨MT_w h.1 (by omega), by omega, zt_ws, by rw [zt_w2 (by omega)]; exact h.2.2.2⟩
      have ev : 10 * nI v + nI (c i) - 48 = nI (10 * v + (c i - 48)) := by
        rw [zt_lit 10, zt_lit 48, pk_mul, nI_add, zt_mi (by omega), show 10 * v + c i - 48 = 10 * v + (c i - 48) by omega]
      rw [ev]
      by_cases q : 9999 < v
      · rw [if_pos q, if_pos (by omega)]
        exact ih (i + 1) 10000 fu _ (by omega) (by omega) (by omega) F2
      · rw [if_neg q, if_neg (by omega)]
        exact ih (i + 1) (10 * v + (c i - 48)) fu _ (by omega) (by omega) (by omega) F2
    · rw [decide_eq_false k, if_neg k, if_neg k, if_neg (show ¬ (false = true) by decide)]
      exact fin i v I hv h
end Tu
