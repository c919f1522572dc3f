/-! BEST: the class, done -/
section Bd4
variable {I : Nat → Nat → Int32} {J : Nat → Nat → Int64} {r : Nat}
theorem GU_w {D : Nat → Nat → Nat} {w : Nat → Int32} {t m p : Nat} {g : Nat → Nat → Nat} {x : Int32} (h : pm_GU D w t g m I) (hm : m ≤ p) : pm_GU D w t g m (pm_w I 106 p x) := by
  obtain ⟨h1, h2, h3, h4, h5⟩ := h
  exact ⟨by rw [zt_wc (by decide)]; exact h1, by rw [zt_wc (by decide)]; exact h2, fun q hq => by rw [zt_wf (by omega)]; exact h3 q hq, fun u hu => by rw [zt_wc (by decide)]; exact h4 u hu, fun u b hu hb => by rw [zt_wc (by decide)]; exact h5 u b hu hb⟩
theorem GU_n {D : Nat → Nat → Nat} {w : Nat → Int32} {t p : Nat} {g : Nat → Nat → Nat} (h : pm_GU D w t g p I) (ha : ¬ pm_ash w p = true) (hx : I 106 p = -1) : pm_GU D w t g (p + 1) I := by
  obtain ⟨h1, h2, h3, h4, h5⟩ := h
  have e : pm_ut D w (p + 1) = pm_ut D w p := by rw [pm_ut, if_neg ha]
  have af : pm_ash w p = false := Bool.eq_false_iff.mpr ha
  refine ⟨by rw [e]; exact h1, h2, fun q hq => ?_, fun u hu => ?_, fun u b hu hb => ?_⟩
  · by_cases z : q = p
    · rw [z, if_neg ha]; exact hx
    · rw [e]; exact h3 q (by omega)
  · rw [e] at hu
    rw [uz_s, af, Bool.false_and, if_neg (by decide), Nat.add_zero]
    exact h4 u hu
  · rw [e] at hu
    rw [ug_s, af, Bool.false_and, if_neg (by decide), Nat.add_zero]
    exact h5 u b hu hb
theorem l64 {n t l0 l1 : Nat} {D : Nat → Nat → Nat} {k0 k1 : Nat → Nat} {w : Nat → Int32} (hi : pm_inv n w) : ∀ d p fu m (I : Nat → Nat → Int32), p + d = 8 → d < fu → pm_CQ r n t D l0 k0 l1 k1 I → I 5 = w → ((m = p ∧ p ≤ n) ∨ (m = n ∧ n ≤ p)) → pm_GU D w t (pm_gN l0 k0 D n w) m I → (∀ q, n ≤ q → q < p → I 106 q = -1) → ∃ I', f64_18 r fu (nI p) I J = some ((), I', J) ∧ pm_GU D w t (pm_gN l0 k0 D n w) n I' ∧ ∀ q, n ≤ q → q < 8 → I' 106 q = -1 := by
  have i8 : ((8 : Int32)).toInt = 8 := by decide
  intro d
  induction d with
  | zero =>
    intro p fu m I hp hf hQ hw hm hG hq
    have n8 := hQ.1.2.2.2.2.1
    obtain ⟨fu, rfl⟩ : ∃ k, fu = k + 1 := ⟨fu - 1, by omega⟩
    have e : m = n := by omega
    subst e
    refine ⟨I, ?_, hG, fun q h1 h2 => hq q h1 (by omega)⟩
    rw [f64_18, i8, nI_toInt (by omega), if_neg (by omega)]
  | succ d ih =>
    intro p fu m I hp hf hQ hw hm hG hq
    have n8 := hQ.1.2.2.2.2.1
    have hr := hQ.1.1
    obtain ⟨fu, rfl⟩ : ∃ k, fu = k + 1 := ⟨fu - 1, by omega⟩
    rw [f64_18, i8, nI_toInt (by omega), if_pos (by omega), zt_pw (by omega) (by omega), pm_lt_eq]
    obtain ⟨I2, hI2⟩ : ∃ I2, I2 = pm_w I 106 p (-1) := ⟨_, rfl⟩
    rw [← hI2]
    have o2 : ∀ a, a ≠ 106 → I2 a = I a := fun a ha => by rw [hI2, zt_wc ha]
    have Q2 : pm_CQ r n t D l0 k0 l1 k1 I2 := CQ_cell hQ (fun a ha => o2 a (by omega))
    have w2 : I2 5 = w := by rw [o2 5 (by decide)]; exact hw
    have G2 : pm_GU D w t (pm_gN l0 k0 D n w) m I2 := by rw [hI2]; exact GU_w hG (by omega)
    have x2 : I2 106 p = -1 := by rw [hI2, zt_ws]
    have q2 : ∀ q, n ≤ q → q < p + 1 → I2 106 q = -1 := fun q h1 h2 => by
      by_cases z : q = p
      · rw [z]; exact x2
      · rw [hI2, zt_wf z]; exact hq q h1 (by omega)
    rw [Q2.1.2.1, nI_toInt (by omega), e30 (by omega), w2, nI_1]
    by_cases c : p < n
    · rw [if_pos (by omega)]
      have e : m = p := by omega
      subst e
      by_cases a : pm_ash w m = true
      · rw [if_pos (show decide (w m = 1) = true from a)]
        obtain ⟨I3, e3, G3⟩ := e65 (J := J) Q2 w2 hi c a G2
        have g3 := (fr_65 _ _ _ e3).1
        rw [e3, zt_bind]
        exact ih (m + 1) fu (m + 1) I3 (by omega) (by omega) (CQ_ag Q2 g3 rfl) (by rw [ag_cell g3 (by decide) (by intro f; simp)]; exact w2) (by omega) G3 (fun q h1 h2 => by omega)
      · rw [if_neg (show ¬ decide (w m = 1) = true from a)]
        exact ih (m + 1) fu (m + 1) I2 (by omega) (by omega) Q2 w2 (by omega) (GU_n G2 a x2) q2
    · rw [if_neg (by omega)]
      exact ih (p + 1) fu m I2 (by omega) (by omega) Q2 w2 (by omega) G2 q2
theorem e64 {n t l0 l1 : Nat} {D : Nat → Nat → Nat} {k0 k1 : Nat → Nat} {w : Nat → Int32} (hQ : pm_CQ r n t D l0 k0 l1 k1 I) (hw : I 5 = w) (hi : pm_inv n w) : ∃ I', f64 r I J = some ((), I', J) ∧ pm_GU D w t (pm_gN l0 k0 D n w) n I' ∧ ∀ q, n ≤ q → q < 8 → I' 106 q = -1 := by
  have hr := hQ.1.1
  obtain ⟨I2, hI2⟩ : ∃ I2, I2 = pm_w (pm_w I 104 7 0) 104 8 (nI t) := ⟨_, rfl⟩
  have o2 : ∀ a, a ≠ 104 → I2 a = I a := fun a ha => by rw [hI2, zt_wc ha, zt_wc ha]
  have G0 : pm_GU D w t (pm_gN l0 k0 D n w) 0 I2 := ⟨by rw [hI2, zt_w2 (by omega), zt_ws]; rfl, by rw [hI2, zt_ws], fun q hq => by omega, fun u hu => by have : (pm_ut D w 0).2 = 0 := rfl; omega, fun u b hu hb => by have : (pm_ut D w 0).2 = 0 := rfl; omega⟩
  obtain ⟨I', e, h⟩ := l64 (J := J) (r := r) (l1 := l1) (k1 := k1) hi 8 0 pm_FU 0 I2 (by omega) (by unfold pm_FU; omega) (CQ_cell hQ (fun a ha => o2 a (by omega))) (by rw [o2 5 (by decide)]; exact hw) (by omega) G0 (fun q h1 h2 => by omega)
  rw [nI_0] at e
  refine ⟨I', ?_, h⟩
  unfold f64
  rw [pm_lt_eq, pm_lt_eq, zt_wc (by omega), hQ.1.2.2.1, ← hI2]
  exact e
/-- how many a taker holds; the rooms left -/
def pm_bdn (w : Nat → Int32) (n b : Nat) : Nat := pm_cnt (fun p => decide (w p = nI 2) && decide (w (8 + p) = nI b)) n
def pm_xr (D : Nat → Nat → Nat) (w : Nat → Int32) (n b : Nat) : Nat := D 7 b - pm_bdn w n b
def pm_xc (D : Nat → Nat → Nat) (w : Nat → Int32) (n b : Nat) : Nat := Nat.min (pm_cnt (fun p => pm_ash w p) n) (pm_xr D w n b)
theorem wt_5 {c : Nat → Nat} : ∀ t, (∀ b, b < t → c b ≤ 4) → pm_wt c t ≤ 5 ^ t
  | 0, _ => Nat.le_refl _
  | t + 1, h => by
    rw [pm_wt, Nat.pow_succ]
    exact Nat.mul_le_mul (wt_5 t (fun b hb => h b (by omega))) (by have := h t (by omega); omega)
theorem e57 {n t b : Nat} {D : Nat → Nat → Nat} {w : Nat → Int32} (hR : pm_CR r n t D I) (hD : pm_DR n t D) (hw : I 5 = w) (hb : b < t) : f57 r (nI b) I J = some (nI (pm_xr D w n b), I, J) := by
  have n8 := hR.2.2.2.2.1
  have t5 := hR.2.2.2.2.2.1
  have d7 := (hD.2.1 b hb).2.2.2
  have c8 := cn_le (fun p => decide (w p = nI 2) && decide (w (8 + p) = nI b)) n
  unfold f57
  rw [e42 hR.2.1 n8, zt_bind, zt_at (by omega) (by omega), (hR.2.2.2.2.2.2.2 b hb).2.2, hw]
  have e := maxs (x := D 7 b) (y := pm_cnt (fun p => decide (w p = nI 2) && decide (w (8 + p) = nI b)) n) (by omega) (by omega)
  rw [nI_0] at e
  dsimp only
  rw [e]
  rfl
theorem l67 {n t : Nat} {D : Nat → Nat → Nat} {w : Nat → Int32} (hD : pm_DR n t D) : ∀ d b fu (I : Nat → Nat → Int32), b + d = t → d < fu → pm_CR r n t D I → I 5 = w → I 104 8 = nI t → (∀ q, q < b → I 109 q = nI (pm_xc D w n q) ∧ I 111 q = nI (pm_wt (pm_xc D w n) q)) → ∃ I', f67_11 r fu (nI (pm_cnt (fun p => pm_ash w p) n)) (nI (pm_wt (pm_xc D w n) b)) (nI b) I J = some (nI (pm_wt (pm_xc D w n) t), I', J) ∧ (∀ q, q < t → I' 109 q = nI (pm_xc D w n q) ∧ I' 111 q = nI (pm_wt (pm_xc D w n) q)) ∧ ∀ a, a ≠ 109 → a ≠ 111 → I' a = I a := by
  have xc4 : ∀ b, b < t → pm_xc D w n b ≤ 4 := fun b hb => by
    have d7 := (hD.2.1 b hb).2.2.2
    have : pm_xc D w n b ≤ pm_xr D w n b := Nat.min_le_right _ _
    unfold pm_xr at this
    omega
  intro d
  induction d with
  | zero =>
    intro b fu I hb hf hR hw h8 hq
    have t5 := hR.2.2.2.2.2.1
    obtain ⟨fu, rfl⟩ : ∃ k, fu = k + 1 := ⟨fu - 1, by omega⟩
    have e : b = t := by omega
    subst e
    have w5 := wt_5 (c := pm_xc D w n) b xc4
    have w31 : 5 ^ b ≤ 5 ^ 5 := Nat.pow_le_pow_right (by decide) t5
    have w31' : (5 : Nat) ^ 5 = 3125 := by decide
    refine ⟨I, ?_, hq, fun _ _ _ => rfl⟩
    rw [f67_11, h8, if_neg (by omega)]
    have m := pm_min_nI (a := 3125) (b := pm_wt (pm_xc D w n) b) (by omega) (by omega)
    rw [Nat.min_eq_right (by omega)] at m
    rw [show (3125 : Int32) = nI 3125 from rfl, m]
  | succ d ih =>
    intro b fu I hb hf hR hw h8 hq
    have t5 := hR.2.2.2.2.2.1
    have n8 := hR.2.2.2.2.1
    have hr := hR.1
    obtain ⟨fu, rfl⟩ : ∃ k, fu = k + 1 := ⟨fu - 1, by omega⟩
    have c8 := cn_le (fun p => pm_ash w p) n
    have d7 := (hD.2.1 b (by omega)).2.2.2
    have xb : pm_xr D w n b ≤ 4 := by unfold pm_xr; omega
    have m := pm_min_nI (a := pm_cnt (fun p => pm_ash w p) n) (b := pm_xr D w n b) (by omega) (by omega)
    rw [f67_11, h8, if_pos (by rw [nI_toInt (by omega), nI_toInt (by omega)]; omega), e57 hR hD hw (by omega), zt_bind]
    dsimp only
    rw [m, zt_pw (by omega) (by omega), pm_lt_eq, pm_lt_eq, zt_pw (by omega) (by omega)]
    obtain ⟨I3, hI3⟩ : ∃ I3, I3 = pm_w (pm_w I 109 b (nI (pm_xc D w n b))) 111 b (nI (pm_wt (pm_xc D w n) b)) := ⟨_, rfl⟩
    have o3 : ∀ a, a ≠ 109 → a ≠ 111 → I3 a = I a := fun a h1 h2 => by rw [hI3, zt_wc h2, zt_wc h1]
    have a3 : pm_at (I3 109) 5 (nI b) = nI (pm_xc D w n b) := by rw [zt_at (by omega) (by omega), hI3, zt_wc (by decide), zt_ws]
    obtain ⟨I', e, q1, q2⟩ := ih (b + 1) fu I3 (by omega) (by omega) (CR_cell hR (fun j hj => o3 _ (by omega) (by omega))) (by rw [o3 5 (by decide) (by decide)]; exact hw) (by rw [o3 104 (by decide) (by decide)]; exact h8) (fun q hq2 => by
      by_cases z : q = b
      · rw [z]
        exact ⟨by rw [hI3, zt_wc (by decide), zt_ws], by rw [hI3, zt_ws]⟩
      · obtain ⟨z1, z2⟩ := hq q (by omega)
        exact ⟨by rw [hI3, zt_wc (by decide), zt_wf z]; exact z1, by rw [hI3, zt_wf z, zt_wc (by decide)]; exact z2⟩)
    refine ⟨I', ?_, q1, fun a h1 h2 => by rw [q2 a h1 h2, o3 a h1 h2]⟩
    show f67_11 r fu (nI (pm_cnt (fun p => pm_ash w p) n)) (nI (pm_wt (pm_xc D w n) b) * (pm_at (pm_w (pm_w I 109 b (nI (pm_xc D w n b))) 111 b (nI (pm_wt (pm_xc D w n) b)) 109) 5 (nI b) + 1)) (nI b + 1) (pm_w (pm_w I 109 b (nI (pm_xc D w n b))) 111 b (nI (pm_wt (pm_xc D w n) b))) J = _
    rw [← hI3, a3, nI_1, nI_1, pk_mul]
    exact e
/-- the class's best -/
theorem e63 {n t l0 l1 T : Nat} {D : Nat → Nat → Nat} {k0 k1 y : Nat → Nat} {w : Nat → Int32} (hQ : pm_CQ r n t D l0 k0 l1 k1 I) (hw : I 5 = w) (hi : pm_inv n w) (hB : pm_Bw t (pm_uz D w n) (pm_ug D w (pm_gN l0 k0 D n w) n) (pm_ut D w n).2 0 (pm_xr D w n) = some (T, y)) : ∃ I' J', f63 r I J = some ((), I', J') ∧ I' 104 10 = nI T ∧ I' 104 11 = nI (pm_su (fun v => if y v = 0 then 0 else pm_uz D w n v) (pm_ut D w n).2) ∧ I' 104 12 = nI (pm_cdn y (pm_ut D w n).2 0) ∧ (∀ q, q < n → I' 106 q = if pm_ash w q = true then nI ((pm_ut D w n).1 q) else -1) ∧ ∀ v, y v ≤ 5 := by
  have n8 := hQ.1.2.2.2.2.1
  have t5 := hQ.1.2.2.2.2.2.1
  have hD := hQ.2.1
  have hr := hQ.1.1
  obtain ⟨u1, u2⟩ := ut_lt (D := D) (w := w) n
  obtain ⟨I1, e1, G1, q1⟩ := e64 (J := J) hQ hw hi
  have g1 := (fr_64 _ _ _ e1).1
  have Q1 := CQ_ag hQ g1 rfl
  have w1 : I1 5 = w := by rw [ag_cell g1 (by decide) (by intro f; simp)]; exact hw
  obtain ⟨I2, e2, q2, o2⟩ := l67 (J := J) (w := w) hD t 0 pm_FU I1 (by omega) (by unfold pm_FU; omega) Q1.1 w1 G1.2.1 (fun q hq => by omega)
  have Q2 : pm_CQ r n t D l0 k0 l1 k1 I2 := CQ_cell Q1 (fun a ha => o2 a (by omega) (by omega))
  have w2 : I2 5 = w := by rw [o2 5 (by decide) (by decide)]; exact w1
  have xc4 : ∀ b, b < t → pm_xc D w n b ≤ 4 := fun b hb => by
    have d7 := (hD.2.1 b hb).2.2.2
    have : pm_xc D w n b ≤ pm_xr D w n b := Nat.min_le_right _ _
    unfold pm_xr at this
    omega
  have w31 : pm_wt (pm_xc D w n) t ≤ 3125 := Nat.le_trans (wt_5 t xc4) (Nat.pow_le_pow_right (n := 5) (by decide) t5)
  have gb : ∀ u b, b < t → pm_ug D w (pm_gN l0 k0 D n w) n u b ≤ 6200 := fun u b hb => by
    have := su_le (f := fun q => if (pm_ash w q && decide ((pm_ut D w n).1 q = u)) = true then pm_gN l0 k0 D n w q b else 0) (b := 775) (n := n) (fun q hq => by
      split
      · exact (gN_n hi hQ.2.1 (by omega) hb).2
      · omega)
    have e : pm_ug D w (pm_gN l0 k0 D n w) n u b ≤ n * 775 := this
    have : n * 775 ≤ 8 * 775 := Nat.mul_le_mul_right _ (by omega)
    omega
  have PB : pm_PB t (pm_uz D w n) (pm_ug D w (pm_gN l0 k0 D n w) n) (pm_xc D w n) (pm_ut D w n).2 I2 := by
    refine ⟨⟨t5, by omega, w31, xc4⟩, by rw [o2 104 (by decide) (by decide)]; exact G1.2.1, fun u hu => ⟨uz_1 n u hu, Nat.le_trans (cn_le _ _) n8, by rw [o2 107 (by decide) (by decide)]; exact G1.2.2.2.1 u hu⟩, fun u b hu hb => ⟨gb u b hb, by rw [o2 108 (by decide) (by decide)]; exact G1.2.2.2.2 u b hu hb⟩, q2⟩
  have c8 := cn_le (fun p => pm_ash w p) n
  have ua := uz_all (D := D) (w := w) (n := n)
  obtain ⟨I3, J3, e3, g3, j3⟩ := l63a (r := r) (n := n) (by omega) PB (by rw [o2 104 (by decide) (by decide)]; exact G1.1) Q2.1.2.1 n8 (by rw [w2, ua]; rfl) (pm_wt (pm_xc D w n) t) 0 pm_FU J (by omega) (by unfold pm_FU; omega) (fun i hi => by omega)
  rw [nI_0] at e3
  obtain ⟨T', y', b1, b2, b3⟩ := Bw_V (sz := pm_uz D w n) (gn := pm_ug D w (pm_gN l0 k0 D n w) n) t5 (pm_ut D w n).2 0 (pm_xr D w n) (by omega)
  rw [b1] at hB
  injection hB with hB
  injection hB with hT hy
  subst hT hy
  have y5 : ∀ v, y' v ≤ 5 := fun v => Nat.le_trans (b3 v) t5
  have lt := cdn_lt y5 (pm_ut D w n).2 0 (by omega)
  have vu := Vb_u (sz := pm_uz D w n) gb (pm_ut D w n).2 0 (pm_xr D w n)
  have hT : T' < 100000 := by
    have l2 : pm_cdn y' (pm_ut D w n).2 0 < 16777216 := lt
    have : ((pm_ut D w n).2 : Int) * 104019787776 ≤ 8 * 104019787776 := Int.mul_le_mul_of_nonneg_right (by omega) (by omega)
    omega
  have vc : pm_Vb t (pm_uz D w n) (pm_ug D w (pm_gN l0 k0 D n w) n) (pm_ut D w n).2 0 (pm_xc D w n) = pm_Vb t (pm_uz D w n) (pm_ug D w (pm_gN l0 k0 D n w) n) (pm_ut D w n).2 0 (pm_xr D w n) := Vb_c _ _ _ _ (fun b hb => by
    have e : pm_xc D w n b = Nat.min (pm_cnt (fun p => pm_ash w p) n) (pm_xr D w n b) := rfl
    rw [ua, e]
    by_cases z : pm_cnt (fun p => pm_ash w p) n ≤ pm_xr D w n b
    · exact .inr ⟨by rw [show Nat.min (pm_cnt (fun p => pm_ash w p) n) (pm_xr D w n b) = pm_cnt (fun p => pm_ash w p) n from Nat.min_eq_left z]; exact Nat.le_refl _, z⟩
    · exact .inl (Nat.min_eq_right (by omega)))
  rw [vc, b2] at e3
  have h7 : I3 104 7 = nI (pm_ut D w n).2 := by rw [g3 104 7 (by decide) (by decide), o2 104 (by decide) (by decide)]; exact G1.1
  obtain ⟨I4, e4, r1, r2, r3, r4, r5⟩ := e73 (J := J3) (sz := pm_uz D w n) (show (pm_ut D w n).2 ≤ 8 by omega) y5 hT h7 (fun v hv => by rw [ag_cell g3 (by decide) (by intro f; simp), o2 107 (by decide) (by decide)]; exact G1.2.2.2.1 v hv)
  refine ⟨I4, J3, ?_, r1, r2, r3, fun q hq => ?_, y5⟩
  · unfold f63 f67
    rw [e1, zt_bind]
    dsimp only
    have e36' := e36 (J := J) (x := 1) Q1.1.2.1 n8
    rw [w1] at e36'
    rw [e36', zt_bind]
    rw [nI_0, show nI (pm_wt (pm_xc D w n) 0) = 1 from rfl] at e2
    dsimp only
    rw [show pm_cnt (fun p => decide (w p = 1)) n = pm_cnt (fun p => pm_ash w p) n from rfl, e2, zt_bind]
    dsimp only
    rw [show nI (pm_wt (pm_xc D w n) t) - 1 = nI (pm_wt (pm_xc D w n) t - 1) from zt_mi (wt_p _ _), e3, e4]
    rfl
  · rw [r5 106 (by decide), ag_cell g3 (by decide) (by intro f; simp), o2 106 (by decide) (by decide)]
    exact G1.2.2.1 q hq
end Bd4
