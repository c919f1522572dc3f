/-! BEST: rooms and units one by one, the class -/
section Bb
variable {I : Nat → Nat → Int32} {J : Nat → Nat → Int64}
theorem us_p {c x y : Nat → Nat} {q : Nat} (h : ∀ b, b ≠ q → y b = x b) : ∀ t, (q < t → pm_us c y t + (c q - x q) = pm_us c x t + (c q - y q)) ∧ (t ≤ q → pm_us c y t = pm_us c x t)
  | 0 => ⟨fun h => by omega, fun _ => rfl⟩
  | t + 1 => by
    obtain ⟨i1, i2⟩ := us_p (c := c) h t
    rw [pm_us, pm_us]
    refine ⟨fun z => ?_, fun z => ?_⟩
    · by_cases e : q = t
      · subst e
        rw [i2 (Nat.le_refl _)]
        omega
      · have := i1 (by omega)
        rw [h t (fun z => e z.symm)]
        omega
    · rw [i2 (by omega), h t (by omega)]
theorem us_full (c : Nat → Nat) : ∀ t, pm_us c c t = 0
  | 0 => rfl
  | t + 1 => by rw [pm_us, us_full c t]; omega
theorem us_le {c x : Nat → Nat} : ∀ t, (∀ b, b < t → c b ≤ 4) → pm_us c x t ≤ 4 * t
  | 0, _ => Nat.le_refl _
  | t + 1, h => by
    have := us_le (c := c) (x := x) t (fun b hb => h b (by omega))
    have := h t (by omega)
    rw [pm_us]
    omega
/-- one room is taken -/
theorem l72 {t : Nat} {c x : Nat → Nat} (t5 : t ≤ 5) (c4 : ∀ b, b < t → c b ≤ 4) (hx : ∀ b, b < t → x b ≤ c b) : ∀ d q fu (I : Nat → Nat → Int32), q + d = t → d < fu → (∀ b, b < q → x b = 0) → I 104 8 = nI t → (∀ b, b < t → I 109 b = nI (c b)) → pm_PL t c (fun b => if b < q then c b else x b) I → ∃ I' x', f72_2 fu (nI q) I J = some ((), I', J) ∧ pm_PL t c x' I' ∧ (0 < pm_vx c x t → pm_vx c x' t + 1 = pm_vx c x t) := by
  intro d
  induction d with
  | zero =>
    intro q fu I hq hf h0 h8 h9 hL
    obtain ⟨fu, rfl⟩ : ∃ k, fu = k + 1 := ⟨fu - 1, by omega⟩
    refine ⟨I, _, ?_, hL, fun z => ?_⟩
    · rw [f72_2, h8, if_neg (by rw [nI_toInt (by omega), nI_toInt (by omega)]; omega)]
    · rw [vx_0 t (fun b hb => h0 b (by omega))] at z
      omega
  | succ d ih =>
    intro q fu I hq hf h0 h8 h9 hL
    obtain ⟨fu, rfl⟩ : ∃ k, fu = k + 1 := ⟨fu - 1, by omega⟩
    obtain ⟨l1, l2⟩ := id hL
    dsimp only at l1
    have xq := (l1 q (by omega)).2
    rw [if_neg (by omega)] at xq
    have hxq := hx q (by omega)
    have c4q := c4 q (by omega)
    have ub := us_le (c := c) (x := fun b => if b < q then c b else x b) t c4
    have a110 : pm_at (I 110) 5 (nI q) = nI (x q) := by rw [zt_at (by omega) (by omega)]; exact xq
    have a109 : pm_at (I 109) 5 (nI q) = nI (c q) := by rw [zt_at (by omega) (by omega)]; exact h9 q (by omega)
    rw [f72_2, h8, if_pos (by rw [nI_toInt (by omega), nI_toInt (by omega)]; omega), a110, a109, nI_toInt (by omega)]
    by_cases z : 0 < x q
    · rw [if_pos (by omega), pm_lt_eq, pm_lt_eq, zt_lit 1, zt_mi (by omega), zt_pw (by omega) (by omega), zt_wc (by decide), l2, nI_add]
      refine ⟨_, pm_dn c x q, rfl, ⟨fun b hb => ⟨?_, ?_⟩, ?_⟩, fun _ => vx_dn h0 z t (by omega)⟩
      · unfold pm_dn
        have := hx b hb
        split
        · exact Nat.le_refl _
        · split <;> omega
      · rw [zt_wc (by decide)]
        unfold pm_dn
        by_cases e : b = q
        · rw [e, zt_ws, if_neg (by omega), if_pos rfl]
        · rw [zt_w2 (by omega), (l1 b hb).2]
          by_cases e2 : b < q
          · rw [if_pos e2, if_pos e2]
          · rw [if_neg e2, if_neg e2, if_neg e]
      · rw [zt_ws]
        congr 1
        obtain ⟨u1, _⟩ := us_p (c := c) (x := fun b => if b < q then c b else x b) (y := pm_dn c x q) (q := q) (fun b hb => by
          unfold pm_dn
          by_cases e2 : b < q
          · rw [if_pos e2, if_pos e2]
          · rw [if_neg e2, if_neg e2, if_neg hb]) t
        have u2 := u1 (by omega)
        have e3 : pm_dn c x q q = x q - 1 := by unfold pm_dn; rw [if_neg (by omega), if_pos rfl]
        rw [e3, if_neg (by omega)] at u2
        omega
    · have x0 : x q = 0 := by omega
      rw [if_neg (by omega), pm_lt_eq, pm_lt_eq, zt_pw (by omega) (by omega)]
      have a109' : pm_at (pm_w I 110 q (nI (c q)) 109) 5 (nI q) = nI (c q) := by rw [zt_wc (by decide)]; exact a109
      obtain ⟨u1, _⟩ := us_p (c := c) (x := fun b => if b < q then c b else x b) (y := fun b => if b < q + 1 then c b else x b) (q := q) (fun b hb => by
        by_cases e2 : b < q
        · rw [if_pos (by omega), if_pos e2]
        · rw [if_neg (by omega), if_neg e2]) t
      have u2 := u1 (by omega)
      rw [if_neg (show ¬ q < q by omega), if_pos (show q < q + 1 by omega), x0] at u2
      rw [a109', zt_wc (by decide), l2, zt_mi (by omega), nI_1]
      refine ih (q + 1) fu _ (by omega) (by omega) (fun b hb => ?_) (by rw [zt_w2 (by omega), zt_wc (by decide)]; exact h8) (fun b hb => by rw [zt_wc (by decide), zt_wc (by decide)]; exact h9 b hb) ⟨fun b hb => ⟨?_, ?_⟩, ?_⟩
      · by_cases e : b = q
        · rw [e]; exact x0
        · exact h0 b (by omega)
      · have := hx b hb
        dsimp only
        split <;> omega
      · rw [zt_wc (by decide)]
        dsimp only
        by_cases e : b = q
        · rw [e, zt_ws, if_pos (by omega)]
        · rw [zt_w2 (by omega), (l1 b hb).2]
          by_cases e2 : b < q
          · rw [if_pos e2, if_pos (by omega)]
          · rw [if_neg e2, if_neg (by omega)]
      · rw [zt_ws]
        congr 1
        omega
theorem e72 {t : Nat} {c x : Nat → Nat} (t5 : t ≤ 5) (c4 : ∀ b, b < t → c b ≤ 4) (h8 : I 104 8 = nI t) (h9 : ∀ b, b < t → I 109 b = nI (c b)) (hL : pm_PL t c x I) : ∃ I' x', f72 I J = some ((), I', J) ∧ pm_PL t c x' I' ∧ (0 < pm_vx c x t → pm_vx c x' t + 1 = pm_vx c x t) := by
  have s := l72 (J := J) t5 c4 (fun b hb => (hL.1 b hb).1) t 0 pm_FU I (by omega) (by unfold pm_FU; omega) (fun b hb => by omega) h8 h9 (by
    have e : (fun b => if b < 0 then c b else x b) = x := funext fun b => if_neg (by omega)
    rw [e]
    exact hL)
  rw [nI_0] at s
  exact s
theorem PB_ag {t U : Nat} {sz : Nat → Nat} {gn : Nat → Nat → Nat} {c : Nat → Nat} {I' : Nat → Nat → Int32} (h : pm_PB t sz gn c U I) (g : pm_ag [110] [(104, 9)] I I') : pm_PB t sz gn c U I' := by
  unfold pm_PB
  rw [g 104 8 (by decide) (by decide), ag_cell g (a := 107) (by decide) (by intro f; simp), ag_cell g (a := 108) (by decide) (by intro f; simp), ag_cell g (a := 109) (by decide) (by intro f; simp), ag_cell g (a := 111) (by decide) (by intro f; simp)]
  exact h
/-- what a room comes to with a unit more -/
def pm_Nw (t : Nat) (sz : Nat → Nat) (gn : Nat → Nat → Nat) (c : Nat → Nat) (u : Nat) (a : Nat → Int) (y : Nat → Nat) : Int := pm_mx (fun b => a (pm_vx c y t - sz u * pm_wt c b) + (gn u b : Int) * 16777216 - (((b + 1) * 8 ^ (7 - u) : Nat) : Int)) (fun b => decide (sz u ≤ y b)) t (a (pm_vx c y t))
theorem l68 {t u U ah K : Nat} {sz : Nat → Nat} {gn : Nat → Nat → Nat} {c : Nat → Nat} {a : Nat → Int} (hu : u < U) (hah : ah ≤ 100) (hK : K ≤ 8) (ha : ∀ i, i < pm_wt c t → 0 ≤ a i ∧ a i ≤ (K : Int) * 104019787776) : ∀ m fu x (I : Nat → Nat → Int32) (J : Nat → Nat → Int64) (cur : Nat → Int), pm_vx c x t + 1 = m → m < fu → pm_PB t sz gn c U I → pm_PL t c x I → (∀ i, i < pm_wt c t → J 105 i = pm_sL (cur i) ∧ 0 ≤ cur i ∧ cur i ≤ ((K + 1 : Nat) : Int) * 104019787776) → (∀ i, i < m → cur i = a i) → (∀ y, (∀ b, b < t → y b ≤ c b) → m ≤ pm_vx c y t → cur (pm_vx c y t) = if pm_us c y t ≤ ah then pm_Nw t sz gn c u a y else a (pm_vx c y t)) → ∃ (I' : Nat → Nat → Int32) (J' : Nat → Nat → Int64) (cur' : Nat → Int), f68_L fu 1 (nI u) 0 (nI ah) (nI (pm_vx c x t)) I J = some ((), I', J') ∧ pm_ag [110] [(104, 9)] I I' ∧ pm_aj J J' ∧ (∀ i, i < pm_wt c t → J' 105 i = pm_sL (cur' i) ∧ 0 ≤ cur' i ∧ cur' i ≤ ((K + 1 : Nat) : Int) * 104019787776) ∧ ∀ y, (∀ b, b < t → y b ≤ c b) → cur' (pm_vx c y t) = if pm_us c y t ≤ ah then pm_Nw t sz gn c u a y else a (pm_vx c y t) := by
  intro m
  induction m with
  | zero => intro fu x I J cur hm; omega
  | succ m ih =>
    intro fu x I J cur hm hf hB hL hcur hlo hhi
    obtain ⟨fu, rfl⟩ : ∃ k, fu = k + 1 := ⟨fu - 1, by omega⟩
    obtain ⟨⟨t5, U8, w31, c4⟩, b8, bs, bg, bc⟩ := id hB
    have hxc : ∀ b, b < t → x b ≤ c b := fun b hb => (hL.1 b hb).1
    have vlt := vx_lt (c := c) (x := x) t hxc
    have ub := us_le (c := c) (x := x) t c4
    have z0 : ¬ (nI (pm_vx c x t)).toInt < 0 := by rw [nI_toInt (by omega)]; omega
    have m1 : nI (pm_vx c x t) + (-1) = nI (pm_vx c x t) + pm_m1 := rfl
    -- the last step of the loop
    have stop : ∀ (I : Nat → Nat → Int32) (J : Nat → Nat → Int64) (fu : Nat), f68_L (fu + 1) 1 (nI u) 0 (nI ah) (nI 0 + (-1)) I J = some ((), I, J) := by
      intro I J fu
      rw [f68_L, if_pos (show (nI 0 + (-1) : Int32).toInt < 0 by decide)]
    -- what follows once the room is settled
    have nxt : ∀ (J1 : Nat → Nat → Int64) (cur1 : Nat → Int), pm_aj J J1 → (∀ i, i < pm_wt c t → J1 105 i = pm_sL (cur1 i) ∧ 0 ≤ cur1 i ∧ cur1 i ≤ ((K + 1 : Nat) : Int) * 104019787776) → (∀ i, i < m → cur1 i = a i) → (∀ y, (∀ b, b < t → y b ≤ c b) → m ≤ pm_vx c y t → cur1 (pm_vx c y t) = if pm_us c y t ≤ ah then pm_Nw t sz gn c u a y else a (pm_vx c y t)) → ∃ (I' : Nat → Nat → Int32) (J' : Nat → Nat → Int64) (cur' : Nat → Int), (f72 I J1).bind (fun (ov20, I21, J22) => f68_L fu 1 (nI u) 0 (nI ah) (nI (pm_vx c x t) + (-1)) I21 J22) = some ((), I', J') ∧ pm_ag [110] [(104, 9)] I I' ∧ pm_aj J J' ∧ (∀ i, i < pm_wt c t → J' 105 i = pm_sL (cur' i) ∧ 0 ≤ cur' i ∧ cur' i ≤ ((K + 1 : Nat) : Int) * 104019787776) ∧ ∀ y, (∀ b, b < t → y b ≤ c b) → cur' (pm_vx c y t) = if pm_us c y t ≤ ah then pm_Nw t sz gn c u a y else a (pm_vx c y t) := by
      intro J1 cur1 hj hc1 hl1 hh1
      obtain ⟨I2, x2, e2, L2, v2⟩ := e72 (J := J1) t5 c4 b8 (fun b hb => (bc b hb).1) hL
      have g2 := (fr_72 _ _ _ e2).1
      rw [e2, zt_bind]
      dsimp only
      by_cases p : 0 < pm_vx c x t
      · have v3 := v2 p
        rw [m1, zt_dec (by omega), show pm_vx c x t - 1 = pm_vx c x2 t by omega]
        obtain ⟨I', J', cur', r1, r2, r3, r4, r5⟩ := ih fu x2 I2 J1 cur1 (by omega) (by omega) (PB_ag hB g2) L2 hc1 hl1 hh1
        exact ⟨I', J', cur', r1, ag_trans g2 r2 (fun _ h => h) (fun _ h => h), aj_trans hj r3, r4, r5⟩
      · have m0 : m = 0 := by omega
        obtain ⟨fv, rfl⟩ : ∃ k, fu = k + 1 := ⟨fu - 1, by omega⟩
        rw [show pm_vx c x t = 0 by omega, stop]
        exact ⟨I2, J1, cur1, rfl, g2, hj, hc1, fun y hy => hh1 y hy (by omega)⟩
    rw [f68_L, if_neg z0, hL.2, nI_toInt (by omega), nI_toInt (by omega)]
    by_cases q : ah < pm_us c x t
    · rw [if_pos (by omega)]
      refine nxt J cur aj_refl hcur (fun i hi => hlo i (by omega)) (fun y hy hv => ?_)
      by_cases e : pm_vx c y t = pm_vx c x t
      · have exy := vx_inj t hy hxc e
        rw [if_neg (by rw [us_c t exy]; omega)]
        exact hlo _ (by omega)
      · exact hhi y hy (by omega)
    · rw [if_neg (by omega), if_pos (show (nI (pm_vx c x t)).toInt < (nI 3125).toInt by rw [nI_toInt (by omega), nI_toInt (by omega)]; omega)]
      have e9 := e69 (J := J) (a := cur) hB hL hu (fun i hi => ⟨(hcur i hi).1, (hcur i hi).2.1, by have := (hcur i hi).2.2; omega⟩)
      have eN : pm_mx (fun b => cur (pm_vx c x t - sz u * pm_wt c b) + (gn u b : Int) * 16777216 - (((b + 1) * 8 ^ (7 - u) : Nat) : Int)) (fun b => decide (sz u ≤ x b)) t (cur (pm_vx c x t)) = pm_Nw t sz gn c u a x := mx_c t (fun b hb => ⟨rfl, fun _ => by
        have e := hlo (pm_vx c x t - sz u * pm_wt c b) (by omega)
        rw [e]⟩) (hlo _ (by omega))
      rw [eN] at e9
      have N0 : 0 ≤ pm_Nw t sz gn c u a x := Int.le_trans (ha (pm_vx c x t) vlt).1 (mx_ge t)
      have N1 : pm_Nw t sz gn c u a x ≤ ((K + 1 : Nat) : Int) * 104019787776 := by
        refine mx_le t ?_ (fun b hb _ => ?_)
        · have := (ha (pm_vx c x t) vlt).2
          omega
        · have h1 := (ha (pm_vx c x t - sz u * pm_wt c b) (by omega)).2
          have h2 := (bg u b hu hb).1
          omega
      rw [e9, zt_bind]
      dsimp only
      rw [zt_in (by omega) (by omega), zt_gd, pm_lt_eq, nI_clamp (by omega)]
      refine nxt (pm_wl J 105 (pm_vx c x t) (pm_sL (pm_Nw t sz gn c u a x))) (fun i => if i = pm_vx c x t then pm_Nw t sz gn c u a x else cur i) (aj_w aj_refl) (fun i hi => ?_) (fun i hi => ?_) (fun y hy hv => ?_)
      · by_cases e : i = pm_vx c x t
        · rw [if_pos e, e]
          refine ⟨?_, N0, N1⟩
          unfold pm_wl vp_updL
          rw [va_up_self]
          exact if_pos rfl
        · rw [if_neg e]
          refine ⟨?_, (hcur i hi).2⟩
          unfold pm_wl vp_updL
          rw [va_up_self]
          exact (if_neg e).trans (hcur i hi).1
      · rw [if_neg (by omega)]
        exact hlo i (by omega)
      · by_cases e : pm_vx c y t = pm_vx c x t
        · have exy := vx_inj t hy hxc e
          rw [if_pos e, if_pos (by rw [us_c t exy]; omega)]
          unfold pm_Nw
          rw [e]
          exact mx_c t (fun b hb => ⟨by rw [exy b hb], fun _ => rfl⟩) rfl
        · rw [if_neg e]
          exact hhi y hy (by omega)
end Bb
