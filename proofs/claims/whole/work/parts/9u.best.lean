/-! BEST: all units, the class -/
theorem szs_s (sz : Nat → Nat) : ∀ k u, pm_szs sz u (k + 1) = pm_szs sz u k + sz (u + k)
  | 0, u => by show sz u + 0 = 0 + sz (u + 0); rw [Nat.add_zero, Nat.zero_add, Nat.add_zero]
  | k + 1, u => by
    have ih := szs_s sz k (u + 1)
    rw [pm_szs, ih, pm_szs, show u + 1 + k = u + (k + 1) by omega]
    omega
section Bc
variable {I : Nat → Nat → Int32} {J : Nat → Nat → Int64} {r : Nat}
theorem l68a {t : Nat} {c : Nat → Nat} {y1 y2 y3 : Int32} (t5 : t ≤ 5) : ∀ d b fu (I : Nat → Nat → Int32), b + d = t → d + 1 < fu → I 104 8 = nI t → (∀ q, q < t → I 109 q = nI (c q)) → I 104 9 = nI 0 → (∀ q, q < b → I 110 q = nI (c q)) → ∃ I', f68_L fu 0 y1 y2 y3 (nI b) I J = f68_L (fu - d - 1) 1 y1 0 y3 y2 I' J ∧ pm_PL t c c I' ∧ pm_ag [110] [(104, 9)] I I' := by
  intro d
  induction d with
  | zero =>
    intro b fu I hb hf h8 h9 h0 h1
    obtain ⟨fu, rfl⟩ : ∃ k, fu = k + 1 := ⟨fu - 1, by omega⟩
    refine ⟨I, ?_, ⟨fun q hq => ⟨Nat.le_refl _, h1 q (by omega)⟩, by rw [us_full]; exact h0⟩, ag_refl⟩
    rw [f68_L, h8, if_neg (by rw [nI_toInt (by omega), nI_toInt (by omega)]; omega)]
    rfl
  | succ d ih =>
    intro b fu I hb hf h8 h9 h0 h1
    obtain ⟨fu, rfl⟩ : ∃ k, fu = k + 1 := ⟨fu - 1, by omega⟩
    have a109 : pm_at (I 109) 5 (nI b) = nI (c b) := by rw [zt_at (by omega) (by omega)]; exact h9 b (by omega)
    obtain ⟨I', e, L, g⟩ := ih (b + 1) fu (pm_w I 110 b (nI (c b))) (by omega) (by omega) (by rw [zt_wc (by decide)]; exact h8) (fun q hq => by rw [zt_wc (by decide)]; exact h9 q hq) (by rw [zt_wc (by decide)]; exact h0) (fun q hq => by
      by_cases z : q = b
      · rw [z, zt_ws]
      · rw [zt_w2 (by omega)]; exact h1 q (by omega))
    refine ⟨I', ?_, L, ag_trans (ag_w ag_refl (by simp)) g (fun _ h => h) (fun _ h => h)⟩
    rw [f68_L, h8, if_pos (by rw [nI_toInt (by omega), nI_toInt (by omega)]; omega), a109, zt_pw (by omega) (by omega), pm_lt_eq, nI_1, e, show fu + 1 - (d + 1) - 1 = fu - d - 1 by omega]
theorem e68 {t u U ah K : Nat} {sz : Nat → Nat} {gn : Nat → Nat → Nat} {c : Nat → Nat} {a : Nat → Int} (hB : pm_PB t sz gn c U I) (hu : u < U) (hah : ah ≤ 100) (hK : K ≤ 8) (ha : ∀ i, i < pm_wt c t → J 105 i = pm_sL (a i) ∧ 0 ≤ a i ∧ a i ≤ (K : Int) * 104019787776) : ∃ (I' : Nat → Nat → Int32) (J' : Nat → Nat → Int64) (cur' : Nat → Int), f68 (nI u) (nI (pm_wt c t - 1)) (nI ah) I J = some ((), I', J') ∧ pm_ag [110] [(104, 9)] I I' ∧ pm_aj J J' ∧ (∀ i, i < pm_wt c t → J' 105 i = pm_sL (cur' i) ∧ 0 ≤ cur' i ∧ cur' i ≤ ((K + 1 : Nat) : Int) * 104019787776) ∧ ∀ y, (∀ b, b < t → y b ≤ c b) → cur' (pm_vx c y t) = if pm_us c y t ≤ ah then pm_Nw t sz gn c u a y else a (pm_vx c y t) := by
  obtain ⟨⟨t5, U8, w31, c4⟩, b8, bs, bg, bc⟩ := id hB
  have wp := wt_p c t
  have vf := vx_full c t
  have G0 : pm_ag [110] [(104, 9)] I (pm_w I 104 9 0) := ag_w ag_refl (by simp)
  obtain ⟨I1, e1, L1, g1⟩ := l68a (J := J) (c := c) (y1 := nI u) (y2 := nI (pm_wt c t - 1)) (y3 := nI ah) t5 t 0 pm_FU (pm_w I 104 9 0) (by omega) (by unfold pm_FU; omega) (by rw [zt_w2 (by omega)]; exact b8) (fun q hq => by rw [zt_wc (by decide)]; exact (bc q hq).1) (by rw [zt_ws]; rfl) (fun q hq => by omega)
  rw [nI_0] at e1
  have hf2 : pm_vx c c t + 1 < pm_FU - t - 1 := by
    have : pm_FU = 100000 := rfl
    omega
  obtain ⟨I2, J2, cur2, r1, r2, r3, r4, r5⟩ := l68 (t := t) (sz := sz) (gn := gn) (c := c) (a := a) hu hah hK (fun i hi => (ha i hi).2) (pm_vx c c t + 1) (pm_FU - t - 1) c I1 J a rfl hf2 (PB_ag (PB_ag hB G0) g1) L1 (fun i hi => ⟨(ha i hi).1, (ha i hi).2.1, by have := (ha i hi).2.2; omega⟩) (fun i _ => rfl) (fun y hy hv => by
    have := vx_lt (c := c) (x := y) t hy
    omega)
  rw [show pm_vx c c t = pm_wt c t - 1 by omega] at r1
  refine ⟨I2, J2, cur2, ?_, ag_trans (ag_trans G0 g1 (fun _ h => h) (fun _ h => h)) r2 (fun _ h => h) (fun _ h => h), r3, r4, r5⟩
  unfold f68
  rw [pm_lt_eq, e1]
  exact r1
theorem Nw_V {t u k : Nat} {sz : Nat → Nat} {gn : Nat → Nat → Nat} {c y : Nat → Nat} {a : Nat → Int} {ah : Nat} (hy : ∀ b, b < t → y b ≤ c b) (hu : pm_us c y t ≤ ah) (ha : ∀ y, (∀ b, b < t → y b ≤ c b) → pm_us c y t ≤ ah + sz u → a (pm_vx c y t) = pm_Vb t sz gn k (u + 1) y) : pm_Nw t sz gn c u a y = pm_Vb t sz gn (k + 1) u y := by
  unfold pm_Nw
  rw [pm_Vb]
  refine mx_c t (fun b hb => ⟨rfl, fun q => ?_⟩) (ha y hy (by omega))
  have q' := of_decide_eq_true q
  have v := (vx_sb (c := c) q' t).1 hb
  have us := (us_sb q' (hy b hb) t).1 hb
  have e := ha (pm_sbc y b (sz u)) (fun b' hb' => by
    have := hy b' hb'
    unfold pm_sbc
    split <;> omega) (by omega)
  rw [show pm_vx c y t - sz u * pm_wt c b = pm_vx c (pm_sbc y b (sz u)) t by omega, e]
/-- unit by unit -/
theorem l63 {t U : Nat} {sz : Nat → Nat} {gn : Nat → Nat → Nat} {c : Nat → Nat} (hS : pm_szs sz 0 U ≤ 8) : ∀ v fu (I : Nat → Nat → Int32) (J : Nat → Nat → Int64) (a : Nat → Int), v ≤ U → v < fu → pm_PB t sz gn c U I → (∀ i, i < pm_wt c t → J 105 i = pm_sL (a i) ∧ 0 ≤ a i ∧ a i ≤ ((U - v : Nat) : Int) * 104019787776) → (∀ y, (∀ b, b < t → y b ≤ c b) → pm_us c y t ≤ pm_szs sz 0 v → a (pm_vx c y t) = pm_Vb t sz gn (U - v) v y) → ∃ (I' : Nat → Nat → Int32) (J' : Nat → Nat → Int64), f63_L r fu 1 (nI (pm_wt c t - 1)) (nI (pm_szs sz 0 v)) (nI v + (-1)) I J = (f73 (pm_sL (pm_Vb t sz gn U 0 c)) I' J').bind (fun (ov25, I26, J27) => some ((), I26, J27)) ∧ pm_ag [110] [(104, 9)] I I' ∧ pm_aj J J' := by
  intro v
  induction v with
  | zero =>
    intro fu I J a hv hf hB ha hV
    obtain ⟨fu, rfl⟩ : ∃ k, fu = k + 1 := ⟨fu - 1, by omega⟩
    have w31 := hB.1.2.2.1
    have wp := wt_p c t
    have vf := vx_full c t
    have e := hV c (fun b hb => Nat.le_refl _) (by rw [us_full]; omega)
    rw [Nat.sub_zero, show pm_vx c c t = pm_wt c t - 1 by omega] at e
    refine ⟨I, J, ?_, ag_refl, aj_refl⟩
    rw [f63_L, if_pos (show (nI 0 + (-1) : Int32).toInt < 0 by decide), if_neg (show ¬ (nI (pm_wt c t - 1)).toInt < 0 by rw [nI_toInt (by omega)]; omega), if_pos (show (nI (pm_wt c t - 1)).toInt < (nI 3125).toInt by rw [nI_toInt (by omega), nI_toInt (by omega)]; omega), zt_in (by omega) (by omega), zt_gd, nI_clamp (by omega), (ha _ (by omega)).1, e]
  | succ v ih =>
    intro fu I J a hv hf hB ha hV
    obtain ⟨fu, rfl⟩ : ∃ k, fu = k + 1 := ⟨fu - 1, by omega⟩
    obtain ⟨⟨t5, U8, w31, c4⟩, b8, bs, bg, bc⟩ := id hB
    obtain ⟨s1, s2, s3⟩ := bs v (by omega)
    have ss := szs_s sz v 0
    rw [Nat.zero_add] at ss
    have mono : pm_szs sz 0 (v + 1) ≤ pm_szs sz 0 U := by
      have : ∀ k, pm_szs sz 0 (v + 1) ≤ pm_szs sz 0 (v + 1 + k) := fun k => by
        induction k with
        | zero => exact Nat.le_refl _
        | succ k ihk =>
          have := szs_s sz (v + 1 + k) 0
          rw [show v + 1 + (k + 1) = v + 1 + k + 1 by omega]
          omega
      have q := this (U - (v + 1))
      rw [show v + 1 + (U - (v + 1)) = U by omega] at q
      exact q
    have y4 : nI (v + 1) + (-1) = nI v := by
      have := zt_dec (a := v + 1) (by omega)
      rw [Nat.add_sub_cancel] at this
      exact this
    have a107 : pm_at (I 107) 8 (nI v) = nI (sz v) := by rw [zt_at (by omega) (by omega)]; exact s3
    obtain ⟨I1, J1, cur, e1, g1, j1, t1, q1⟩ := e68 (J := J) (u := v) (ah := pm_szs sz 0 v) (K := U - (v + 1)) hB (by omega) (by omega) (by omega) ha
    obtain ⟨I2, J2, e2, g2, j2⟩ := ih fu I1 J1 cur (by omega) (by omega) (PB_ag hB g1) (fun i hi => by
      rw [show U - v = U - (v + 1) + 1 by omega]
      exact t1 i hi) (fun y hy hus => by
      rw [q1 y hy, if_pos hus, show U - v = U - (v + 1) + 1 by omega]
      exact Nw_V (ah := pm_szs sz 0 v) hy hus (fun y hy h => hV y hy (by omega)))
    refine ⟨I2, J2, ?_, ag_trans g1 g2 (fun _ h => h) (fun _ h => h), aj_trans j1 j2⟩
    rw [f63_L, y4, if_neg (show ¬ (nI v).toInt < 0 by rw [nI_toInt (by omega)]; omega), a107, ss, zt_mi (by omega), Nat.add_sub_cancel, e1, zt_bind]
    exact e2
/-- the board wiped, then all -/
theorem l63a {t U n : Nat} {sz : Nat → Nat} {gn : Nat → Nat → Nat} {c : Nat → Nat} (hS : pm_szs sz 0 U ≤ 8) (hB : pm_PB t sz gn c U I) (h7 : I 104 7 = nI U) (hn : I r 7 = nI n) (n8 : n ≤ 8) (hA : pm_cnt (fun p => decide (I 5 p = nI 1)) n = pm_szs sz 0 U) : ∀ d j fu (J : Nat → Nat → Int64), j + d = pm_wt c t → d + U + 2 < fu → (∀ i, i < j → J 105 i = pm_sL 0) → ∃ (I' : Nat → Nat → Int32) (J' : Nat → Nat → Int64), f63_L r fu 0 (nI (pm_wt c t - 1)) (nI j) 0 I J = (f73 (pm_sL (pm_Vb t sz gn U 0 c)) I' J').bind (fun (ov25, I26, J27) => some ((), I26, J27)) ∧ pm_ag [110] [(104, 9)] I I' ∧ pm_aj J J' := by
  have w31 := hB.1.2.2.1
  have wp := wt_p c t
  intro d
  induction d with
  | zero =>
    intro j fu J hj hf h0
    obtain ⟨fu, rfl⟩ : ∃ k, fu = k + 1 := ⟨fu - 1, by omega⟩
    have e1 : f36 r 1 I J = some (nI (pm_cnt (fun p => decide (I 5 p = nI 1)) n), I, J) := e36 hn n8
    obtain ⟨I2, J2, e2, g2, j2⟩ := l63 (r := r) (t := t) (gn := gn) (c := c) hS U fu I J (fun _ => 0) (Nat.le_refl _) (by omega) hB (fun i hi => ⟨h0 i (by omega), Int.le_refl _, by rw [Nat.sub_self]; show (0 : Int) ≤ 0 * _; omega⟩) (fun y hy _ => by rw [Nat.sub_self]; rfl)
    refine ⟨I2, J2, ?_, g2, j2⟩
    rw [f63_L, if_pos (show (nI (pm_wt c t - 1)).toInt < (nI j).toInt by rw [nI_toInt (by omega), nI_toInt (by omega)]; omega), e1, zt_bind]
    dsimp only
    rw [h7, hA, show nI U - 1 = nI U + (-1) from Int32.sub_eq_add_neg ..]
    exact e2
  | succ d ih =>
    intro j fu J hj hf h0
    obtain ⟨fu, rfl⟩ : ∃ k, fu = k + 1 := ⟨fu - 1, by omega⟩
    obtain ⟨I2, J2, e2, g2, j2⟩ := ih (j + 1) fu (pm_wl J 105 j 0) (by omega) (by omega) (fun i hi => by
      unfold pm_wl vp_updL
      rw [va_up_self]
      by_cases e : i = j
      · exact if_pos e
      · exact (if_neg e).trans (h0 i (by omega)))
    refine ⟨I2, J2, ?_, g2, aj_trans (aj_w aj_refl) j2⟩
    rw [f63_L, if_neg (show ¬ (nI (pm_wt c t - 1)).toInt < (nI j).toInt by rw [nI_toInt (by omega), nI_toInt (by omega)]; omega), if_pos (show (nI j).toInt < (nI 3125).toInt by rw [nI_toInt (by omega), nI_toInt (by omega)]; omega), zt_in (by omega) (by omega), zt_gd, pm_lt_eq, nI_clamp (by omega), nI_1]
    exact e2
end Bc
