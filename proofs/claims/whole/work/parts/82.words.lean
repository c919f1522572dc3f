/-! WORDS: the reference -/
section Wp
variable {I : Nat → Nat → Int32} {J : Nat → Nat → Int64}
theorem wN_1 {c : Nat → Nat} {i n : Nat} (h6 : n < 6) (h : ∀ j, j < n + 1 → 97 ≤ c (i + j) ∧ c (i + j) ≤ 122) : (nI (pm_wN c i n) <<< ((5 : Int32) &&& 31)) ||| (nI (c (i + n)) - 96) = nI (pm_wN c i (n + 1)) := by
  have b := wN_b c i n (fun j hj => (h j (by omega)).2)
  have x := h n (by omega)
  have b2 : pm_wN c i n < 2 ^ 25 := Nat.lt_of_lt_of_le b (by
    have : (32 : Nat) ^ n ≤ 32 ^ 5 := Nat.pow_le_pow_right (by omega) (by omega)
    omega)
  rw [zt_lit 96, zt_mi (by omega), sh_5 b2 (by omega), pm_wN]
theorem l229 {c : Nat → Nat} {L a i : Nat} (h : pm_MF c L a I) (hi : i ≤ L) : ∀ d n fu : Nat, ∀ y : Int32, i + n + d = L → d < fu → (∀ j, j < n → pm_kd c L (i + j) = 3) → (n ≤ 6 → y = nI (pm_wN c i n)) → f229_14 fu y (nI n) (nI (i + n)) I J = some (nI (pm_wv c L i), I, J) := by
  have i6 : ((6 : Int32)).toInt = 6 := by decide
  have hL := h.1.2.1
  have fin : ∀ n : Nat, ∀ y : Int32, i + n ≤ L → (∀ j, j < n → pm_kd c L (i + j) = 3) → pm_kd c L (i + n) ≠ 3 → (n ≤ 6 → y = nI (pm_wN c i n)) → (if (6 : Int32).toInt < (nI n).toInt then some ((0 : Int32), I, J) else some (y, I, J)) = some (nI (pm_wv c L i), I, J) := by
    intro n y h1 h2 h3 h4
    have e : pm_wle c L i = n := (wl_at hi).mpr ⟨h2, h3⟩
    unfold pm_wv
    rw [e, i6, nI_toInt (by omega)]
    by_cases q : 6 < n
    · rw [if_pos (by omega), if_pos q]; rfl
    · rw [if_neg (by omega), if_neg q, h4 (by omega)]
  intro d
  induction d with
  | zero =>
    intro n fu y hn hf hk hy
    obtain ⟨fu, rfl⟩ : ∃ k, fu = k + 1 := ⟨fu - 1, by omega⟩
    rw [f229_14, h.1.1, if_neg (show ¬ (nI (i + n)).toInt < (nI L).toInt by rw [nI_toInt (by omega), nI_toInt (by omega)]; omega)]
    exact fin n y (by omega) hk (fun w => by have := (kd_3.mp w).1; omega) hy
  | succ d ih =>
    intro n fu y hn hf hk hy
    obtain ⟨fu, rfl⟩ : ∃ k, fu = k + 1 := ⟨fu - 1, by omega⟩
    obtain ⟨x1, x2⟩ := h.1.2.2 (i + n) (by omega)
    rw [f229_14, h.1.1, if_pos (show (nI (i + n)).toInt < (nI L).toInt by rw [nI_toInt (by omega), nI_toInt (by omega)]; omega), zt_in (by omega) (by omega), zt_gd, nI_clamp (by omega), x2, v228n (L := L) (by omega) x1]
    by_cases k : pm_kd c L (i + n) = 3
    · have hk2 : ∀ j, j < n + 1 → pm_kd c L (i + j) = 3 := fun j hj => by
        by_cases e : j = n
        · rw [e]; exact k
        · exact hk j (by omega)
      rw [decide_eq_true k, if_pos rfl, nI_1, nI_1, zt_gd, i6, nI_toInt (by omega)]
      by_cases q : n < 6
      · rw [if_pos (by omega)]
        exact ih (n + 1) fu _ (by omega) (by omega) hk2 (fun _ => by
          rw [hy (by omega)]
          exact wN_1 q (fun j hj => (kd_3.mp (hk2 j hj)).2))
      · rw [if_neg (by omega)]
        exact ih (n + 1) fu _ (by omega) (by omega) hk2 (fun w => by omega)
    · rw [decide_eq_false k, if_neg (by decide)]
      exact fin n y (by omega) hk k hy
theorem e229 {c : Nat → Nat} {L a i : Nat} (h : pm_MF c L a I) (hi : i = pm_sk c (L - a) a) : ∃ I', f229 I J = some (nI (pm_wv c L i), I', J) ∧ pm_MF c L i I' := by
  obtain ⟨I1, e1, m1⟩ := MF_here (J := J) h
  rw [← hi] at e1 m1
  refine ⟨I1, ?_, m1⟩
  have hs := m1.2.1
  have hL := m1.1.2.1
  have g := l229 (J := J) m1 hs (L - i) 0 pm_FU 0 (by omega) (by unfold pm_FU; omega) (fun j hj => by omega) (fun _ => by rw [pm_wN]; rfl)
  rw [nI_0, Nat.add_zero] at g
  unfold f229
  rw [e1, zt_bind]
  dsimp only
  rw [m1.2.2.1]
  exact g
theorem l231 {s : Nat} (hs : pm_wS s) (h6 : pm_tl (s + 2) ≤ 6) : ∀ d n fu : Nat, n + d = pm_tl (s + 2) → d < fu → f231_4 s fu (nI (pm_wN (pm_tc (s + 2)) 0 n)) (nI n) I J = some (nI (pm_wN (pm_tc (s + 2)) 0 (pm_tl (s + 2))), I, J) := by
  intro d
  induction d with
  | zero =>
    intro n fu hn hf
    obtain ⟨fu, rfl⟩ : ∃ k, fu = k + 1 := ⟨fu - 1, by omega⟩
    rw [f231_4, nI_toInt (by omega), nI_toInt (by omega), if_neg (by omega), show n = pm_tl (s + 2) by omega]
  | succ d ih =>
    intro n fu hn hf
    obtain ⟨fu, rfl⟩ : ∃ k, fu = k + 1 := ⟨fu - 1, by omega⟩
    have w := wN_1 (c := pm_tc (s + 2)) (i := 0) (n := n) (by omega) (fun j hj => by rw [Nat.zero_add]; exact hs.2.2 j (by omega))
    rw [Nat.zero_add] at w
    rw [f231_4, nI_toInt (by omega), nI_toInt (by omega), if_pos (by omega), zt_in (by omega) (by omega), zt_gd, pm_lt_eq, nI_clamp (by omega), w, nI_1]
    exact ih (n + 1) fu (by omega) (by omega)
theorem e231 {s : Nat} (hs : pm_wS s) (h6 : pm_tl (s + 2) ≤ 6) : f231 s I J = some (nI (pm_wN (pm_tc (s + 2)) 0 (pm_tl (s + 2))), I, J) := by
  have g := l231 (I := I) (J := J) hs h6 (pm_tl (s + 2)) 0 pm_FU (by omega) (by unfold pm_FU; omega)
  rw [pm_wN, nI_0] at g
  unfold f231
  exact g
/-- its answer is the word's only there -/
theorem wv_b (c : Nat → Nat) {L i : Nat} (hi : i ≤ L) : pm_wv c L i < 2 ^ 30 := by
  unfold pm_wv
  by_cases q : 6 < pm_wle c L i
  · rw [if_pos q]; omega
  · rw [if_neg q]
    have := wN_b c i (pm_wle c L i) (fun j hj => (kd_3.mp (((wl_at hi).mp rfl).1 j hj)).2.2)
    have h2 : (32 : Nat) ^ (pm_wle c L i) ≤ 32 ^ 6 := Nat.pow_le_pow_right (by omega) (by omega)
    omega
theorem wv_s {c : Nat → Nat} {L i s : Nat} (hi : i ≤ L) (hs : pm_wS s) (h6 : pm_tl (s + 2) ≤ 6) : (nI (pm_wv c L i) = nI (pm_wN (pm_tc (s + 2)) 0 (pm_tl (s + 2)))) ↔ pm_wq c L i s := by
  have b1 := wv_b c hi
  have b2 := wN_b (pm_tc (s + 2)) 0 (pm_tl (s + 2)) (fun j hj => by rw [Nat.zero_add]; exact (hs.2.2 j hj).2)
  have h2 : (32 : Nat) ^ (pm_tl (s + 2)) ≤ 32 ^ 6 := Nat.pow_le_pow_right (by omega) h6
  have p2 := wN_p (pm_tc (s + 2)) 0 (pm_tl (s + 2)) hs.1 (fun j hj => by rw [Nat.zero_add]; exact (hs.2.2 j hj).1)
  rw [zt_eq (by omega) (by omega)]
  unfold pm_wv pm_wq
  constructor
  · intro h
    by_cases q : 6 < pm_wle c L i
    · rw [if_pos q] at h; omega
    · rw [if_neg q] at h
      obtain ⟨e1, e2⟩ := wN_inj c (pm_tc (s + 2)) i 0 _ _ (fun j hj => (kd_3.mp (((wl_at hi).mp rfl).1 j hj)).2) (fun j hj => by rw [Nat.zero_add]; exact hs.2.2 j hj) h
      refine ⟨e1, fun j hj => ?_⟩
      have := e2 j (by omega)
      rw [Nat.zero_add] at this
      exact this
  · rintro ⟨e1, e2⟩
    rw [if_neg (by omega), e1]
    have : ∀ n, n ≤ pm_tl (s + 2) → pm_wN c i n = pm_wN (pm_tc (s + 2)) 0 n := by
      intro n
      induction n with
      | zero => intro _; rfl
      | succ n ih =>
        intro hn
        rw [pm_wN, pm_wN, ih (by omega), e2 n (by omega), Nat.zero_add]
    exact this _ (Nat.le_refl _)
/-- a letter run is passed -/
theorem l233 {c : Nat → Nat} {L : Nat} : ∀ d i fu : Nat, ∀ I : Nat → Nat → Int32, i + d = L → d < fu → pm_MF c L i I → ∃ I', f233_0 fu I J = some ((), I', J) ∧ pm_MF c L (pm_rn c L 3 d i) I' := by
  intro d
  induction d with
  | zero =>
    intro i fu I hi hf h
    obtain ⟨fu, rfl⟩ : ∃ k, fu = k + 1 := ⟨fu - 1, by omega⟩
    have hL := h.1.2.1
    rw [f233_0, h.2.2.1, h.1.1, if_neg (by rw [nI_toInt (by omega), nI_toInt (by omega)]; omega)]
    exact ⟨I, rfl, h⟩
  | succ d ih =>
    intro i fu I hi hf h
    obtain ⟨fu, rfl⟩ : ∃ k, fu = k + 1 := ⟨fu - 1, by omega⟩
    have hL := h.1.2.1
    obtain ⟨x1, x2⟩ := h.1.2.2 i (by omega)
    rw [f233_0, h.2.2.1, h.1.1, if_pos (by rw [nI_toInt (by omega), nI_toInt (by omega)]; omega), zt_in (by omega) (by omega), zt_gd, nI_clamp (by omega), x2, v228n (L := L) (by omega) x1, pm_rn]
    by_cases k : pm_kd c L i = 3
    · rw [decide_eq_true k, if_pos rfl, if_pos k, pm_lt_eq, nI_1]
      exact ih (i + 1) fu _ (by omega) (by omega) ⟨MT_w h.1 (by omega), by omega, zt_ws, by rw [zt_w2 (by omega)]; exact h.2.2.2⟩
    · rw [decide_eq_false k, if_neg (by decide), if_neg k]
      exact ⟨I, rfl, h⟩
theorem e233 {c : Nat → Nat} {L i : Nat} (h : pm_MF c L i I) (k : pm_kd c L i = 3) : ∃ I', f233 I J = some ((), I', J) ∧ pm_MF c L (pm_stp c L i) I' := by
  have hL := h.1.2.1
  have := h.2.1
  obtain ⟨I', e, m⟩ := l233 (J := J) (L - i) i pm_FU I (by omega) (by unfold pm_FU; omega) h
  refine ⟨I', e, ?_⟩
  have es : pm_stp c L i = pm_rn c L 3 (L - i) i := by unfold pm_stp; rw [k, if_neg (by decide), if_neg (by decide)]
  rw [es]
  exact m
theorem wq_k {c : Nat → Nat} {L i s : Nat} (hi : i ≤ L) (h : pm_wq c L i s) (hs : 0 < pm_tl (s + 2)) : pm_kd c L i = 3 ∧ pm_stp c L i = i + pm_tl (s + 2) := by
  have k : pm_kd c L i = 3 := ((wl_at hi).mp h.1).1 0 hs
  have hb := rn_b c L 3 (L - i) i
  have e := h.1
  unfold pm_wle at e
  refine ⟨k, ?_⟩
  unfold pm_stp
  rw [k, if_neg (by decide), if_neg (by decide)]
  omega
/-- no two at once -/
theorem wq_n {c : Nat → Nat} {L i s s' : Nat} (h : pm_wq c L i s) (h2 : pm_wq c L i s') : pm_txt (s + 2) = pm_txt (s' + 2) := by
  obtain ⟨a1, a2⟩ := h
  obtain ⟨b1, b2⟩ := h2
  have hl : (pm_txt (s + 2)).length = (pm_txt (s' + 2)).length := by
    have : pm_tl (s + 2) = pm_tl (s' + 2) := by rw [← a1, ← b1]
    exact this
  refine List.ext_getElem hl (fun j h1 h2 => ?_)
  have e1 := a2 j h1
  have e2 := b2 j h2
  rw [e1] at e2
  unfold pm_tc at e2
  rw [List.getD_eq_getElem?_getD, List.getD_eq_getElem?_getD, List.getElem?_eq_getElem h1, List.getElem?_eq_getElem h2] at e2
  exact e2
end Wp
