/-! THE REGISTER'S TEXT: the words, the numbers, what a clause comes to -/
def pm_nkm (c : Nat → Nat) (L n i : Nat) : Nat := if n = 0 then pm_nk c L 1 0 i else pm_nk c L 0 (n - 1) i
theorem nk_10 (c : Nat → Nat) (L i : Nat) : pm_nk c L 1 0 i ≠ 0 := by
  unfold pm_nk
  split
  · split
    · decide
    · rw [if_pos (by omega)]; decide
  · decide
section Ra
variable {I : Nat → Nat → Int32} {J : Nat → Nat → Int64}
theorem e134m {c : Nat → Nat} {L i n : Nat} (h : pm_CF c L i I) (hi' : i ≤ L) (hn : n ≤ 8) : (pm_nkm c L n i = 0 → ∃ I', f134 0 (nI n - 1) I J = some (nI (pm_nmv c L (L - i) i 0), I', J) ∧ pm_CF c L (pm_sk c (L - pm_stp c L i) (pm_stp c L i)) I') ∧ (pm_nkm c L n i ≠ 0 → ∃ I', f134 0 (nI n - 1) I J = some (0, I', J) ∧ pm_CX (pm_nkm c L n i) i I') := by
  unfold pm_nkm
  by_cases z : n = 0
  · subst z
    rw [if_pos rfl]
    refine ⟨fun q => absurd q (nk_10 c L i), fun _ => ?_⟩
    obtain ⟨p3, p4, p5, p6⟩ := h.2.1
    have kc := kd_c c L i
    have m1 : (nI 0 - 1 : Int32).toInt = -1 := by decide
    have i0 : ((0 : Int32)).toInt = 0 := by decide
    unfold f134
    by_cases k : pm_kd c L i = 2
    · have en : pm_nk c L 1 0 i = 2 := by
        unfold pm_nk
        rw [if_pos k]
        split
        · rfl
        · rw [if_pos (by omega)]
      have eb : pm_vl c L i ≤ 1000000 := by unfold pm_vl; rw [if_pos k]; exact Nat.min_le_left _ _
      obtain ⟨I2, e2, x2⟩ := e133 (J := J) (k := 2) h (by omega)
      have e2' : f133 2 I J = some ((), I2, J) := e2
      rw [p3, k, if_pos (by rfl), p6, m1, i0, nI_toInt (by omega), if_neg (by omega), if_pos (by omega), e2', zt_bind, en]
      exact ⟨I2, rfl, x2⟩
    · have en : pm_nk c L 1 0 i = 1 := by unfold pm_nk; rw [if_neg k]
      obtain ⟨I2, e2, x2⟩ := e133 (J := J) (k := 1) h (by omega)
      have e2' : f133 1 I J = some ((), I2, J) := e2
      rw [p3, if_neg (by rw [zt_lit 2, zt_eq (by omega) (by omega)]; exact k), en, e2', zt_bind]
      exact ⟨I2, rfl, x2⟩
  · rw [if_neg z]
    have := e134 (J := J) (lo := 0) (hi := n - 1) h hi' (by omega) (by omega)
    rw [show (nI n - 1 : Int32) = nI (n - 1) from zt_mi (a := n) (b := 1) (by omega)]
    exact this
theorem e235m {c : Nat → Nat} {L a st n : Nat} (h : pm_MF c L a I) (hst : st = pm_sk c (L - a) a) (hn : n ≤ 8) : (pm_nkm c L n st = 0 → ∃ I', f235 0 (nI n - 1) I J = some (nI (pm_nmv c L (L - st) st 0), I', J) ∧ pm_MF c L (pm_stp c L st) I') ∧ (pm_nkm c L n st ≠ 0 → ∃ I', f235 0 (nI n - 1) I J = some (0, I', J) ∧ pm_MX (pm_nkm c L n st) st I') := by
  unfold pm_nkm
  by_cases z : n = 0
  · subst z
    rw [if_pos rfl]
    refine ⟨fun q => absurd q (nk_10 c L st), fun _ => ?_⟩
    obtain ⟨I1, e1, m1⟩ := MF_here (J := J) h
    rw [← hst] at e1 m1
    have hL := m1.1.2.1
    have hs := m1.2.1
    have hv := v236n (I := I1) (i := st) (fun j hj => (m1.1.2.2 j hj).1)
    unfold f235
    rw [v224f h, if_pos rfl, e1, zt_bind]
    dsimp only
    rw [hv, m1.2.2.1]
    by_cases k : pm_kd c L st = 2
    · have en : pm_nk c L 1 0 st = 2 := by
        unfold pm_nk
        rw [if_pos k]
        split
        · rfl
        · rw [if_pos (by omega)]
      rw [decide_eq_true k, if_pos rfl, en]
      have lp : ∀ d i v fu : Nat, ∀ I : Nat → Nat → Int32, i + d = L → d < fu → v ≤ 99999 → pm_MF c L i I → ∃ I', f235_41 fu 0 (nI 0 - 1) (nI st) (nI v) I J = some (0, I', J) ∧ pm_MX 2 st I' := by
        have i9 : ((9999 : Int32)).toInt = 9999 := by decide
        have i0 : ((0 : Int32)).toInt = 0 := by decide
        have mm1 : (nI 0 - 1 : Int32).toInt = -1 := by decide
        intro d
        have fin : ∀ i v : Nat, ∀ I : Nat → Nat → Int32, v ≤ 99999 → pm_MF c L i I → ∃ I', (if (nI v).toInt < (0 : Int32).toInt then (f232 2 (nI st) I J).bind (fun (ov15, I16, J17) => some ((0 : Int32), I16, J17)) else (if (nI 0 - 1 : Int32).toInt < (nI v).toInt then (f232 2 (nI st) I J).bind (fun (ov20, I21, J22) => some (0, I21, J22)) else some (nI v, I, J))) = some (0, I', J) ∧ pm_MX 2 st I' := by
          intro i v I hv h
          obtain ⟨I2, e2, x2⟩ := MF_wrong (J := J) (k := 2) (p := st) h (by omega) hs
          have e2' : f232 2 (nI st) I J = some ((), I2, J) := e2
          rw [nI_toInt (by omega), i0, mm1, e2', zt_bind, if_neg (by omega), if_pos (by omega)]
          exact ⟨I2, rfl, x2⟩
        induction d with
        | zero =>
          intro i v fu I hi' hf hv h
          obtain ⟨fu, rfl⟩ : ∃ k, fu = k + 1 := ⟨fu - 1, by omega⟩
          rw [f235_41, h.2.2.1, h.1.1, if_neg (by rw [nI_toInt (by omega), nI_toInt (by omega)]; omega)]
          exact fin i v I hv h
        | succ d ih =>
          intro i v fu I hi' hf hv h
          obtain ⟨fu, rfl⟩ : ∃ k, fu = k + 1 := ⟨fu - 1, by omega⟩
          obtain ⟨x1, x2⟩ := h.1.2.2 i (by omega)
          have hd : v236 (I 129 i) I = decide (pm_kd c L i = 2) := by
            have := v236n (I := I) (i := i) (fun j hj => (h.1.2.2 j hj).1)
            rw [if_pos (by omega)] at this
            rw [x2]
            exact this
          have hlt : (nI i).toInt < (nI L).toInt := by rw [nI_toInt (by omega), nI_toInt (by omega)]; omega
          rw [f235_41, h.2.2.1, h.1.1, if_pos hlt, zt_in (by omega) (by omega), zt_gd, nI_clamp (by omega), hd]
          by_cases k : pm_kd c L i = 2
          · obtain ⟨k1, k2, k3⟩ := kd_2 k
            have F2 : pm_MF c L (i + 1) (pm_w I 127 4 (nI (i + 1))) := ⟨MT_w h.1 (by omega), by omega, zt_ws, by rw [zt_w2 (by omega)]; exact h.2.2.2⟩
            have ev : 10 * nI v + nI (c i) - 48 = nI (10 * v + (c i - 48)) := by
              rw [zt_lit 10, zt_lit 48, pk_mul, nI_add, zt_mi (by omega), show 10 * v + c i - 48 = 10 * v + (c i - 48) by omega]
            rw [decide_eq_true k, if_pos rfl, pm_lt_eq, zt_gd, pm_lt_eq, nI_1, i9, nI_toInt (by omega), x2, ev]
            by_cases q : 9999 < v
            · rw [if_pos (by omega)]
              exact ih (i + 1) 10000 fu _ (by omega) (by omega) (by omega) F2
            · rw [if_neg (by omega)]
              exact ih (i + 1) (10 * v + (c i - 48)) fu _ (by omega) (by omega) (by omega) F2
          · rw [decide_eq_false k, if_neg (show ¬ (false = true) by decide)]
            exact fin i v I hv h
      have g := lp (L - st) st 0 pm_FU I1 (by omega) (by unfold pm_FU; omega) (by omega) m1
      rw [nI_0] at g
      rw [nI_0]
      exact g
    · have en : pm_nk c L 1 0 st = 1 := by unfold pm_nk; rw [if_neg k]
      obtain ⟨I2, e2, x2⟩ := MF_wrong (J := J) (k := 1) (p := st) m1 (by omega) hs
      have e2' : f232 1 (nI st) I1 J = some ((), I2, J) := e2
      rw [decide_eq_false k, if_neg (by decide), en, e2', zt_bind]
      exact ⟨I2, rfl, x2⟩
  · rw [if_neg z]
    have := e235 (J := J) (lo := 0) (hi := n - 1) h hst (by omega) (by omega)
    rw [show (nI n - 1 : Int32) = nI (n - 1) from zt_mi (a := n) (b := 1) (by omega)]
    exact this
/-- the long word of the reference -/
theorem l227 {c : Nat → Nat} {L i s : Nat} (h : pm_MF c L i I) (hs : pm_wS s) : ∀ d j fu : Nat, j + d = pm_tl (s + 2) → d < fu → (∀ q, q < j → i + q < L ∧ c (i + q) = pm_tc (s + 2) q) → (pm_wq c L i s → f227_7 s fu (nI j) I J = some (true, I, J)) ∧ (¬ pm_wq c L i s → f227_7 s fu (nI j) I J = some (false, I, J)) := by
  have hL := h.1.2.1
  have hi := h.2.1
  have h7 := hs.2.1
  intro d
  induction d with
  | zero =>
    intro j fu hj hf hq
    obtain ⟨fu, rfl⟩ : ∃ k, fu = k + 1 := ⟨fu - 1, by omega⟩
    have kq : ∀ q, q < pm_tl (s + 2) → pm_kd c L (i + q) = 3 := fun q hq2 => kd_3.mpr ⟨(hq q (by omega)).1, by rw [(hq q (by omega)).2]; exact hs.2.2 q hq2⟩
    rw [f227_7, nI_toInt (by omega), nI_toInt (by omega), if_neg (by omega), h.2.2.1, h.1.1, nI_add, nI_toInt (by omega), nI_toInt (by omega)]
    have st : pm_wq c L i s ↔ pm_kd c L (i + pm_tl (s + 2)) ≠ 3 := by
      constructor
      · intro w
        exact ((wl_at hi).mp w.1).2
      · intro w
        exact ⟨(wl_at hi).mpr ⟨kq, w⟩, fun q hq2 => (hq q (by omega)).2⟩
    by_cases b : i + pm_tl (s + 2) < L
    · obtain ⟨x1, x2⟩ := h.1.2.2 (i + pm_tl (s + 2)) b
      rw [if_pos (by omega), zt_in (by omega) (by omega), zt_gd, nI_clamp (by omega), x2, v228n b x1]
      by_cases k : pm_kd c L (i + pm_tl (s + 2)) = 3
      · rw [decide_eq_true k, if_pos rfl]
        exact ⟨fun w => absurd k (st.mp w), fun _ => rfl⟩
      · rw [decide_eq_false k, if_neg (by decide)]
        exact ⟨fun _ => rfl, fun w => absurd (st.mpr k) w⟩
    · rw [if_neg (by omega)]
      exact ⟨fun _ => rfl, fun w => absurd (st.mpr (fun k => b (kd_3.mp k).1)) w⟩
  | succ d ih =>
    intro j fu hj hf hq
    obtain ⟨fu, rfl⟩ : ∃ k, fu = k + 1 := ⟨fu - 1, by omega⟩
    have tb := pm_tc_lt' (s + 2) j
    rw [f227_7, nI_toInt (by omega), nI_toInt (by omega), if_pos (by omega), h.2.2.1, h.1.1, nI_add, nI_toInt (by omega), nI_toInt (by omega)]
    by_cases b : i + j < L
    · obtain ⟨x1, x2⟩ := h.1.2.2 (i + j) b
      rw [if_pos (by omega), zt_in (by omega) (by omega), zt_gd, zt_in (by omega) (by omega), zt_gd, nI_clamp (by omega), nI_clamp (by omega), x2, nI_1]
      by_cases w : c (i + j) = pm_tc (s + 2) j
      · rw [if_pos (by rw [w])]
        exact ih (j + 1) fu (by omega) (by omega) (fun q hq2 => by
          by_cases e : q = j
          · rw [e]; exact ⟨b, w⟩
          · exact hq q (by omega))
      · rw [if_neg (by rw [zt_eq (by omega) (by omega)]; exact w)]
        exact ⟨fun a => absurd (a.2 j (by omega)) w, fun _ => rfl⟩
    · rw [if_neg (by omega)]
      refine ⟨fun a => ?_, fun _ => rfl⟩
      have := (kd_3.mp (((wl_at hi).mp a.1).1 j (by omega))).1
      exact absurd this b
theorem e227 {c : Nat → Nat} {L a i : Nat} (h : pm_MF c L a I) (hi : i = pm_sk c (L - a) a) : ∃ I', f227 6 I J = some (pm_wb c L i 6, I', J) ∧ pm_MF c L i I' := by
  obtain ⟨I1, e1, m1⟩ := MF_here (J := J) h
  rw [← hi] at e1 m1
  refine ⟨I1, ?_, m1⟩
  have g := l227 (J := J) (s := 6) m1 (wS_t 3 (by decide) (by decide)) (pm_tl (6 + 2)) 0 pm_FU (by omega) (by have := pm_tl_lt (6 + 2); unfold pm_FU; omega) (fun q hq => by omega)
  rw [nI_0] at g
  unfold f227
  rw [e1, zt_bind]
  dsimp only
  cases e : pm_wb c L i 6 with
  | true => exact g.1 (wb_q.mp e)
  | false => exact g.2 (fun w => by rw [wb_q.mpr w] at e; cases e)
end Ra
