/-! COURT, WITNESSES -/
def pm_chs (n : Nat) : Nat → Nat
  | 0 => 1
  | i + 1 => pm_chs n i * (n - i) / (i + 1)
def pm_cs (n q : Nat) : Nat → Nat
  | 0 => 0
  | j + 1 => pm_cs n q j + pm_chs n (n / 2 + 1 + j) * q ^ (n / 2 + 1 + j) * (16 - q) ^ (n - (n / 2 + 1 + j))
def pm_pcn (m : Nat) : Nat → Nat
  | 0 => 0
  | j + 1 => pm_pcn m j + m / 2 ^ j % 2
def pm_mset (n q : Nat) : Nat → Nat
  | 0 => 0
  | m + 1 => pm_mset n q m + (if n < 2 * pm_pcn m n then q ^ pm_pcn m n * (16 - q) ^ (n - pm_pcn m n) else 0)
def pm_cAv (n q : Nat) : Nat := pm_cs n q (n - n / 2)
theorem cA_eq : ∀ i : Nat, i < 5 → ∀ q : Nat, q < 17 → pm_mset (2 * i + 1) q (2 ^ (2 * i + 1)) = pm_cAv (2 * i + 1) q := by decide +kernel
theorem chs_le : ∀ n : Nat, n < 10 → ∀ i : Nat, i < n + 1 → pm_chs n i ≤ 200 := by decide +kernel
theorem pcn_le (m : Nat) : ∀ j, pm_pcn m j ≤ j
  | 0 => Nat.le_refl _
  | j + 1 => by
    have := pcn_le m j
    have : m / 2 ^ j % 2 < 2 := Nat.mod_lt _ (by omega)
    unfold pm_pcn
    omega
theorem bit_m : ∀ j : Nat, j < 9 → ∀ m : Nat, m < 512 → ((nI m >>> (nI j &&& 31)) &&& 1) = nI (m / 2 ^ j % 2) := by decide +kernel
theorem shl_1 : ∀ n : Nat, n < 10 → ((1 : Int32) <<< (nI n &&& 31)) = nI (2 ^ n) := by decide +kernel
section Co
variable {I : Nat → Nat → Int32} {J : Nat → Nat → Int64} {r k : Nat}
theorem l203 {b e : Nat} (hb : b < 2 ^ 31) (he : e < 2 ^ 30) : ∀ d i fu : Nat, i + d = e → d < fu → f203_5 fu (nI b) (nI e) (lN (b ^ i)) (nI i) I J = some (lN (b ^ e), I, J) := by
  intro d
  induction d with
  | zero =>
    intro i fu hi hf
    obtain ⟨fu, rfl⟩ : ∃ k, fu = k + 1 := ⟨fu - 1, by omega⟩
    rw [f203_5, if_neg (by rw [nI_toInt (by omega), nI_toInt (by omega)]; omega), show i = e by omega]
  | succ d ih =>
    intro i fu hi hf
    obtain ⟨fu, rfl⟩ : ∃ k, fu = k + 1 := ⟨fu - 1, by omega⟩
    have s := ih (i + 1) fu (by omega) (by omega)
    rw [f203_5, if_pos (by rw [nI_toInt (by omega), nI_toInt (by omega)]; omega), nI_l hb, lN_mul, nI_1, ← Nat.pow_succ]
    exact s
theorem e203 {b e : Nat} (hb : b < 2 ^ 31) (he : e < 90000) : f203 (nI b) (nI e) I J = some (lN (b ^ e), I, J) := by
  have s := l203 (I := I) (J := J) hb (show e < 2 ^ 30 by omega) e 0 pm_FU (by omega) (by unfold pm_FU; omega)
  rw [Nat.pow_zero, nI_0] at s
  exact s
theorem l310 {b e : Nat} (he : e < 2 ^ 30) : ∀ d i fu : Nat, i + d = e → d < fu → f310_5 fu (lN b) (nI e) (lN (b ^ i)) (nI i) I J = some (lN (b ^ e), I, J) := by
  intro d
  induction d with
  | zero =>
    intro i fu hi hf
    obtain ⟨fu, rfl⟩ : ∃ k, fu = k + 1 := ⟨fu - 1, by omega⟩
    rw [f310_5, if_neg (by rw [nI_toInt (by omega), nI_toInt (by omega)]; omega), show i = e by omega]
  | succ d ih =>
    intro i fu hi hf
    obtain ⟨fu, rfl⟩ : ∃ k, fu = k + 1 := ⟨fu - 1, by omega⟩
    have s := ih (i + 1) fu (by omega) (by omega)
    rw [f310_5, if_pos (by rw [nI_toInt (by omega), nI_toInt (by omega)]; omega), lN_mul, nI_1, ← Nat.pow_succ]
    exact s
theorem e310 {b e : Nat} (he : e < 90000) : f310 (lN b) (nI e) I J = some (lN (b ^ e), I, J) := by
  have s := l310 (I := I) (J := J) (b := b) (show e < 2 ^ 30 by omega) e 0 pm_FU (by omega) (by unfold pm_FU; omega)
  rw [Nat.pow_zero, nI_0] at s
  exact s
theorem l202 {n kk : Nat} (hn : n < 10) (hk : kk ≤ n) : ∀ d i fu : Nat, i + d = kk → d < fu → f202_5 fu (nI n) (nI kk) (lN (pm_chs n i)) (nI (i + 1)) I J = some (lN (pm_chs n kk), I, J) := by
  intro d
  induction d with
  | zero =>
    intro i fu hi hf
    obtain ⟨fu, rfl⟩ : ∃ k, fu = k + 1 := ⟨fu - 1, by omega⟩
    rw [f202_5, if_pos (by rw [nI_toInt (by omega), nI_toInt (by omega)]; omega), show i = kk by omega]
  | succ d ih =>
    intro i fu hi hf
    obtain ⟨fu, rfl⟩ : ∃ k, fu = k + 1 := ⟨fu - 1, by omega⟩
    have s := ih (i + 1) fu (by omega) (by omega)
    have b := chs_le n hn i (by omega)
    have b2 : pm_chs n i * (n - i) ≤ 200 * 10 := Nat.mul_le_mul b (by omega)
    have e1 : (nI n - nI (i + 1)) + 1 = nI (n - i) := by rw [zt_mi (by omega), nI_1]; congr 1; omega
    have ne : ¬ lN (i + 1) = (0 : Int64) := by rw [zt_litL 0, pk_lEQ (by omega) (by omega)]; omega
    rw [f202_5, if_neg (by rw [nI_toInt (by omega), nI_toInt (by omega)]; omega), e1, nI_l (by omega), nI_l (by omega), lN_mul, pk_lDiv (by omega) (by omega) (by omega), decide_eq_false ne, nI_1]
    exact s
theorem e202 {n kk : Nat} (hn : n < 10) (hk : kk ≤ n) : f202 (nI n) (nI kk) I J = some (lN (pm_chs n kk), I, J) := l202 hn hk kk 0 pm_FU (by omega) (by unfold pm_FU; omega)
theorem l201 {n q : Nat} (hn : n < 10) (h1 : 1 ≤ n) (hq : q ≤ 16) : ∀ d j fu : Nat, j + d = n - n / 2 → d < fu → f201_9 fu (nI n) (nI q) (lN (pm_cs n q j)) (nI (n / 2 + 1 + j)) I J = some (lN (pm_cAv n q), I, J) := by
  intro d
  induction d with
  | zero =>
    intro j fu hj hf
    obtain ⟨fu, rfl⟩ : ∃ k, fu = k + 1 := ⟨fu - 1, by omega⟩
    rw [f201_9, if_pos (by rw [nI_toInt (by omega), nI_toInt (by omega)]; omega)]
    unfold pm_cAv
    rw [show j = n - n / 2 by omega]
  | succ d ih =>
    intro j fu hj hf
    obtain ⟨fu, rfl⟩ : ∃ k, fu = k + 1 := ⟨fu - 1, by omega⟩
    have s := ih (j + 1) fu (by omega) (by omega)
    have e1 := e202 (I := I) (J := J) hn (show n / 2 + 1 + j ≤ n by omega)
    have e2 := e203 (I := I) (J := J) (b := q) (e := n / 2 + 1 + j) (by omega) (by omega)
    have e3 := e203 (I := I) (J := J) (b := 16 - q) (e := n - (n / 2 + 1 + j)) (by omega) (by omega)
    rw [pm_cs] at s
    rw [f201_9, if_neg (by rw [nI_toInt (by omega), nI_toInt (by omega)]; omega), zt_lit 16, zt_mi hq, zt_mi (show n / 2 + 1 + j ≤ n by omega)]
    simp only [e1, e2, e3, zt_bind, lN_mul, lN_add, nI_1]
    exact s
theorem e201 {n q : Nat} (hn : n < 10) (h1 : 1 ≤ n) (hq : q ≤ 16) : f201 (nI n) (nI q) I J = some (lN (pm_cAv n q), I, J) := by
  have s := l201 (I := I) (J := J) hn h1 hq (n - n / 2) 0 pm_FU (by omega) (by unfold pm_FU; omega)
  rw [Nat.add_zero] at s
  unfold f201
  rw [zt_lit 2, pk_div (by omega) (by omega) (by omega), nI_1]
  exact s
theorem l309i {n q m s : Nat} (hn : n < 10) (hq : q ≤ 16) (hm : m < 512) : ∀ d j fu : Nat, j + d = n → f309_L (fu + d + 1) 1 (nI n) (nI q) (lN s) (nI m) (nI (pm_pcn m j)) (nI j) I J = f309_L fu 0 (nI n) (nI q) (lN (s + (if n < 2 * pm_pcn m n then q ^ pm_pcn m n * (16 - q) ^ (n - pm_pcn m n) else 0))) (nI (m + 1)) 0 0 I J := by
  intro d
  induction d with
  | zero =>
    intro j fu hj
    have e : j = n := by omega
    subst e
    have hp := pcn_le m j
    have e2 := e310 (I := I) (J := J) (b := q) (e := pm_pcn m j) (by omega)
    have e3 := e310 (I := I) (J := J) (b := 16 - q) (e := j - pm_pcn m j) (by omega)
    rw [f309_L, if_neg (by omega), zt_lit 2, pk_mul]
    by_cases c : j < 2 * pm_pcn m j
    · rw [if_pos (by rw [nI_toInt (by omega), nI_toInt (by omega)]; omega), if_pos c, zt_lit 16, zt_mi hq, zt_mi hp, nI_l (by omega), nI_l (by omega)]
      simp only [e2, e3, zt_bind, lN_mul, lN_add, nI_1]
    · rw [if_neg (by rw [nI_toInt (by omega), nI_toInt (by omega)]; omega), if_neg c, zt_litL 0, lN_add, nI_1]
  | succ d ih =>
    intro j fu hj
    have s1 := ih (j + 1) fu (by omega)
    rw [pm_pcn] at s1
    rw [show fu + (d + 1) + 1 = fu + d + 1 + 1 by omega, f309_L, if_pos (by rw [nI_toInt (by omega), nI_toInt (by omega)]; omega), bit_m j (by omega) m hm, nI_add, nI_1]
    exact s1
theorem l309 {n q : Nat} (hn : n < 10) (hq : q ≤ 16) : ∀ d m fu : Nat, m + d = 2 ^ n → d * 20 < fu → f309_L fu 0 (nI n) (nI q) (lN (pm_mset n q m)) (nI m) 0 0 I J = some (lN (pm_mset n q (2 ^ n)), I, J) := by
  have hp : 2 ^ n ≤ 2 ^ 9 := Nat.pow_le_pow_right (by decide) (by omega)
  intro d
  induction d with
  | zero =>
    intro m fu hm hf
    obtain ⟨fu, rfl⟩ : ∃ k, fu = k + 1 := ⟨fu - 1, by omega⟩
    rw [f309_L, shl_1 n hn, if_neg (by rw [nI_toInt (by omega), nI_toInt (by omega)]; omega), show m = 2 ^ n by omega]
  | succ d ih =>
    intro m fu hm hf
    obtain ⟨fu, rfl⟩ : ∃ k, fu = k + n + 1 + 1 := ⟨fu - n - 2, by omega⟩
    have s1 := ih (m + 1) fu (by omega) (by omega)
    have s2 := l309i (I := I) (J := J) (s := pm_mset n q m) hn hq (show m < 512 by omega) n 0 fu (by omega)
    rw [pm_mset] at s1
    rw [pm_pcn, nI_0] at s2
    rw [f309_L, shl_1 n hn, if_pos (by rw [nI_toInt (by omega), nI_toInt (by omega)]; omega), s2]
    exact s1
theorem e309 {i q : Nat} (hi : i < 5) (hq : q ≤ 16) : f309 (nI (2 * i + 1)) (nI q) I J = some (lN (pm_cAv (2 * i + 1) q), I, J) := by
  have hp : 2 ^ (2 * i + 1) ≤ 2 ^ 9 := Nat.pow_le_pow_right (by decide) (by omega)
  have s := l309 (I := I) (J := J) (n := 2 * i + 1) (by omega) hq (2 ^ (2 * i + 1)) 0 pm_FU (by omega) (by unfold pm_FU; omega)
  rw [pm_mset, cA_eq i hi q (by omega), nI_0] at s
  unfold f309
  exact s
theorem i199 {I' : Nat → Nat → Int32} {J' : Nat → Nat → Int64} : ∀ (fu : Nat) (y1 y3 : Int32) (y4 : Int64) (y6 y7 : Int32), f199_58 fu y1 y3 y4 y6 y7 I J = (f199_58 fu y1 y3 y4 y6 y7 I' J').map (fun z => (z.1, I, J)) := by
  intro fu
  induction fu with
  | zero => intros; rfl
  | succ fu ih =>
    intro y1 y3 y4 y6 y7
    rw [f199_58, f199_58]
    by_cases c1 : y7.toInt < (4 * y1).toInt
    · rw [if_pos c1, if_pos c1]
      by_cases c2 : lg_cmp (y4 &&& 1) 0 = 0
      · rw [if_pos c2, if_pos c2]; exact ih _ _ _ _ _
      · rw [if_neg c2, if_neg c2]
        by_cases c3 : y3 = 0
        · rw [if_pos c3, if_pos c3]; rfl
        · rw [if_neg c3, if_neg c3]; rfl
    · rw [if_neg c1, if_neg c1]
      by_cases c3 : y3 = 0
      · rw [if_pos c3, if_pos c3]; rfl
      · rw [if_neg c3, if_neg c3]; rfl
theorem i311 {I' : Nat → Nat → Int32} {J' : Nat → Nat → Int64} : ∀ (fu : Nat) (y0 y2 : Int64) (y4 : Int32) (y5 y7 : Int64), f311_6 fu y0 y2 y4 y5 y7 I J = (f311_6 fu y0 y2 y4 y5 y7 I' J').map (fun z => (z.1, I, J)) := by
  intro fu
  induction fu with
  | zero => intros; rfl
  | succ fu ih =>
    intro y0 y2 y4 y5 y7
    rw [f311_6, f311_6]
    by_cases c1 : lg_cmp y7 0 = 0
    · rw [if_pos c1, if_pos c1]
      by_cases c2 : y5 = 0
      · rw [decide_eq_true c2]
        by_cases c3 : y4 = 0
        · rw [if_pos c3, if_pos c3]; rfl
        · rw [if_neg c3, if_neg c3]; rfl
      · rw [decide_eq_false c2]
        by_cases c3 : y4 = 0
        · rw [if_pos c3, if_pos c3]; rfl
        · rw [if_neg c3, if_neg c3]; rfl
    · rw [if_neg c1, if_neg c1]
      by_cases c2 : y7 = 0
      · rw [decide_eq_true c2]; rfl
      · rw [decide_eq_false c2]; exact ih _ _ _ _ _
def pm_c1 (i q p : Nat) : Option (Int64 ⊕ Nat) := (f199_58 pm_FU (nI (2 * i + 1)) (nI p) (lN (pm_cAv (2 * i + 1) q)) 0 0 (fun _ _ => 0) (fun _ _ => 0)).map (fun z => z.1)
def pm_c2 (i q p : Nat) : Option Int64 := (f311 (lN (pm_cAv (2 * i + 1) q)) (lN (16 ^ (2 * i + 1))) (nI p) (fun _ _ => 0) (fun _ _ => 0)).map (fun z => z.1)
theorem c12 : ∀ i : Nat, i < 5 → ∀ q : Nat, q < 17 → ∀ p : Nat, p < 2 → (pm_c2 i q p).isSome = true ∧ pm_c1 i q p = (pm_c2 i q p).map Sum.inl := by decide +kernel
theorem ct {I' : Nat → Nat → Int32} {i q p : Nat} (hi : i < 5) (hq : q < 17) (hp : p < 2) : ∃ v : Int64, f199_58 pm_FU (nI (2 * i + 1)) (nI p) (lN (pm_cAv (2 * i + 1) q)) 0 0 I J = some (.inl v, I, J) ∧ ∀ J', f311 (lN (pm_cAv (2 * i + 1) q)) (lN (16 ^ (2 * i + 1))) (nI p) I' J' = some (v, I', J') := by
  obtain ⟨h1, h2⟩ := c12 i hi q hq p hp
  obtain ⟨v, hv⟩ := Option.isSome_iff_exists.mp h1
  rw [hv] at h2
  unfold pm_c1 at h2
  unfold pm_c2 f311 at hv
  refine ⟨v, ?_, fun J' => ?_⟩
  · rw [i199 (I' := fun _ _ => 0) (J' := fun _ _ => 0)]
    cases e : f199_58 pm_FU (nI (2 * i + 1)) (nI p) (lN (pm_cAv (2 * i + 1) q)) 0 0 (fun _ _ => 0) (fun _ _ => 0) with
    | none => rw [e] at h2; cases h2
    | some z =>
      rw [e] at h2
      simp only [Option.map_some] at h2 ⊢
      injection h2 with h2
      rw [h2]
  · unfold f311
    rw [i311 (I' := fun _ _ => 0) (J' := fun _ _ => 0)]
    cases e : f311_6 pm_FU (lN (pm_cAv (2 * i + 1) q)) (lN (16 ^ (2 * i + 1))) (nI p) (lN (pm_cAv (2 * i + 1) q)) (lN (16 ^ (2 * i + 1))) (fun _ _ => 0) (fun _ _ => 0) with
    | none => rw [e] at hv; cases hv
    | some z =>
      rw [e] at hv
      simp only [Option.map_some] at hv ⊢
      injection hv with hv
      rw [hv]
theorem odd_1 : ∀ n : Nat, n < 10 → ((nI n &&& 1) = 1 ↔ n % 2 = 1) := by decide +kernel
theorem e200 {x : Int32} {I' : Nat → Nat → Int32} : (∃ i, i < 5 ∧ x = nI (2 * i + 1)) ∨ (v200 x I = false ∧ (v241 x 1 9 I' = false ∨ (v241 x 1 9 I' = true ∧ ¬ (x - x / 2 * 2) = 1))) := by
  have e1 : ((1 : Int32)).toInt = 1 := by decide
  have e9 : ((9 : Int32)).toInt = 9 := by decide
  rcases tr2 x 1 9 (by omega) with ⟨n, h1, h9, rfl⟩ | hx
  · by_cases c : n % 2 = 1
    · exact Or.inl ⟨n / 2, by omega, by congr 1; omega⟩
    · refine Or.inr ⟨?_, Or.inr ⟨v241g (p := n) (a := 1) (b := 9) h1 h9 (by omega), ?_⟩⟩
      · unfold v200
        rw [if_neg (by rw [nI_toInt (by omega), e1]; omega), if_neg (by rw [nI_toInt (by omega), e9]; omega), if_neg (fun h => c ((odd_1 n (by omega)).mp h))]
      · rw [zt_lit 2, pk_rem (by omega) (by omega) (by omega), zt_lit 1, nI_eq (by omega) (by omega)]
        exact c
  · refine Or.inr ⟨?_, Or.inl (v241b (x := x) (a := 1) (b := 9) (by omega) (by omega) (by omega))⟩
    unfold v200
    rw [e1, e9]
    by_cases c : x.toInt < 1
    · rw [if_pos c]
    · rw [if_neg c, if_pos (by omega)]
theorem K29 {x y z : Int32} (hRR : pm_RR r k I) : pm_KK r k (fun v b : Int64 => v = b) 1 1 (fun I J => f199 x y z I J) (fun I J => f308 x y z I J) I J := by
  obtain ⟨n, t, D, l0, k0, l1, k1, h⟩ := hRR
  obtain ⟨Ib, n2, n3, n4⟩ := il_e h
  have e16 : ((16 : Int32)).toInt = 16 := by decide
  have n2' : ∀ J', f222 0 1 1 (pm_w (pm_w I 0 13 (I 0 13 + nI 1)) 127 0 0) J' = some (false, Ib, J') := n2
  rcases e200 (x := x) (I := I) (I' := pm_w (pm_w I 0 13 (I 0 13 + nI 1)) 127 0 0) with ⟨i, hi, rfl⟩ | ⟨hx, hx2⟩
  rotate_left
  · refine KK_2 (b := 0) (Ia := pm_w I 0 13 (I 0 13 + nI 1)) (Ib := Ib) ?_ (fun J' => ?_) n3 n4
    · unfold f199
      rw [hx]
      show pm_xb (f174 0 I J) _ = _
      rw [e174b, zt_xr]
    · unfold f308
      rw [pm_lt_eq]
      rcases hx2 with hx2 | ⟨hx2, hx3⟩
      · rw [hx2, if_neg (by decide), n2', zt_bind]
        show (if false = true then _ else _) = _
        rw [if_neg (by decide)]
      · rw [hx2, if_pos rfl, if_neg hx3, n2', zt_bind]
        show (if false = true then _ else _) = _
        rw [if_neg (by decide)]
  have gx : ∀ I', v241 (nI (2 * i + 1)) 1 9 I' = true := fun I' => v241g (p := 2 * i + 1) (a := 1) (b := 9) (by omega) (by omega) (by omega)
  have go : (nI (2 * i + 1) - nI (2 * i + 1) / 2 * 2) = 1 := by
    rw [zt_lit 2, pk_rem (by omega) (by omega) (by omega), show (2 * i + 1) % 2 = 1 by omega]; rfl
  have gc : v200 (nI (2 * i + 1)) I = true := by
    unfold v200
    have e1 : ((1 : Int32)).toInt = 1 := by decide
    have e9 : ((9 : Int32)).toInt = 9 := by decide
    rw [if_neg (by rw [nI_toInt (by omega), e1]; omega), if_neg (by rw [nI_toInt (by omega), e9]; omega), if_pos ((odd_1 _ (by omega)).mpr (by omega))]
  rcases tr2 y 0 16 (by omega) with ⟨q, _, hq, rfl⟩ | hy
  rotate_left
  · have vb' : v241 y 0 16 (pm_w (pm_w I 0 13 (I 0 13 + nI 1)) 127 0 0) = false := v241b (x := y) (a := 0) (b := 16) (by omega) (by omega) (by omega)
    refine KK_2 (b := 0) (Ia := pm_w I 0 13 (I 0 13 + nI 1)) (Ib := Ib) ?_ (fun J' => ?_) n3 n4
    · unfold f199
      rw [gc]
      show pm_xb (f174 1 I J) _ = _
      rw [e174g, zt_xl, nd_b (x := y) (by rw [e16]; omega)]
    · unfold f308
      rw [pm_lt_eq, gx, if_pos rfl, if_pos go, vb', if_neg (by decide), n2', zt_bind]
      show (if false = true then _ else _) = _
      rw [if_neg (by decide)]
  have gq : ∀ I', v241 (nI q) 0 16 I' = true := fun I' => v241g (p := q) (a := 0) (b := 16) (by omega) (by omega) (by omega)
  have yq1 : ¬ (nI q).toInt < 0 := by rw [nI_toInt (by omega)]; omega
  have yq2 : ¬ ((16 : Int32)).toInt < (nI q).toInt := by rw [nI_toInt (by omega), e16]; omega
  rcases tr2 z 0 1 (by omega) with ⟨p, _, hp, rfl⟩ | hy
  rotate_left
  · have vb' : v241 z 0 1 (pm_w (pm_w I 0 13 (I 0 13 + nI 1)) 127 0 0) = false := v241b (x := z) (a := 0) (b := 1) (by omega) (by omega) (by omega)
    have q1 : ¬ z = 0 := fun e => by rw [e, zt_lit 0, nI_toInt (by omega)] at hy; omega
    have q2 : ¬ z = 1 := fun e => by rw [e, zt_lit 1, nI_toInt (by omega)] at hy; omega
    refine KK_2 (b := 0) (Ia := pm_w I 0 13 (I 0 13 + nI 1)) (Ib := Ib) ?_ (fun J' => ?_) n3 n4
    · unfold f199
      rw [gc]
      show pm_xb (f174 1 I J) _ = _
      rw [e174g, zt_xl, nd_g yq1 yq2, nd2_b q1 q2]
    · unfold f308
      rw [pm_lt_eq, gx, if_pos rfl, if_pos go, gq, if_pos rfl, vb', if_neg (by decide), n2', zt_bind]
      show (if false = true then _ else _) = _
      rw [if_neg (by decide)]
  have gp : ∀ I', v241 (nI p) 0 1 I' = true := fun I' => v241g (p := p) (a := 0) (b := 1) (by omega) (by omega) (by omega)
  have R1 := R0_t0 (x := 0) h
  obtain ⟨v, c1, c2⟩ := ct (I := I) (J := J) (I' := pm_w I 127 0 0) hi (show q < 17 by omega) (show p < 2 by omega)
  have e1 := e201 (I := I) (J := J) (n := 2 * i + 1) (q := q) (by omega) (by omega) hq
  refine KK_v (v := v) (I1 := I) (J1 := J) ?_ aj_refl (fun J' => ⟨pm_w I 127 0 0, ?_, by rw [zt_ws]; rfl, R0_R R1⟩)
  · unfold f199
    rw [gc]
    show pm_xb (f174 1 I J) _ = _
    rw [e174g, zt_xl, nd_g yq1 yq2]
    have cp : p = 0 ∨ p = 1 := by omega
    rcases cp with rfl | rfl
    · rw [nd2_0 (x := nI 0) rfl, e1, zt_bind]
      exact c1
    · rw [nd2_1 (x := nI 1) rfl, e1, zt_bind]
      exact c1
  · have hg : f222 1 1 1 (pm_w I 127 0 0) J' = some (true, pm_w I 127 0 0, J') := e222g (I := pm_w I 127 0 0) (J := J') (c := 1) (k := 1) (by rw [zt_ws]; rfl)
    have e2 := e309 (I := pm_w I 127 0 0) (J := J') hi hq
    have e3 := e310 (I := pm_w I 127 0 0) (J := J') (b := 16) (e := 2 * i + 1) (by omega)
    unfold f308
    rw [pm_lt_eq, gx, if_pos rfl, if_pos go, gq, if_pos rfl, gp, if_pos rfl, hg, zt_bind]
    show (if true = true then (f309 _ _ _ _).bind _ else _) = _
    rw [if_pos rfl, e2, zt_bind]
    show (f310 (lN 16) _ _ _).bind _ = _
    rw [e3, zt_bind]
    show (f311 _ _ _ _ _).bind _ = _
    rw [c2, zt_bind]
theorem shc : ∀ i : Nat, i < 5 → ∀ c : Nat, c < 17 → (nI c).toInt64 <<< ((4 * nI (2 * i + 1)).toInt64 &&& 63) = lN (c * 16 ^ (2 * i + 1)) := by decide +kernel
theorem cA_le : ∀ i : Nat, i < 5 → ∀ q : Nat, q < 17 → pm_cAv (2 * i + 1) q * 16 < 2 ^ 62 := by decide +kernel
theorem p16_le : ∀ i : Nat, i < 5 → ∀ c : Nat, c < 17 → c * 16 ^ (2 * i + 1) < 2 ^ 62 := by decide +kernel
theorem lw {q c : Nat} (hq : q ≤ 16) (hc : c ≤ 16) : ∀ d i fu : Nat, i + d = 5 → d < fu → ∃ v : Int32, f204_40 fu (nI q) (nI c) (nI (2 * i + 1)) I J = some (.inl v, I, J) ∧ ∀ I' J', f312_43 fu (nI q) (nI c) (nI (2 * i + 1)) I' J' = some (v, I', J') := by
  intro d
  induction d with
  | zero =>
    intro i fu hi hf
    obtain ⟨fu, rfl⟩ : ∃ k, fu = k + 1 := ⟨fu - 1, by omega⟩
    refine ⟨-1, ?_, fun I' J' => ?_⟩
    · rw [f204_40, zt_lit 9, if_pos (by rw [nI_toInt (by omega), nI_toInt (by omega)]; omega)]
    · rw [f312_43, zt_lit 9, if_pos (by rw [nI_toInt (by omega), nI_toInt (by omega)]; omega)]
  | succ d ih =>
    intro i fu hi hf
    obtain ⟨fu, rfl⟩ : ∃ k, fu = k + 1 := ⟨fu - 1, by omega⟩
    obtain ⟨v, s1, s2⟩ := ih (i + 1) fu (by omega) (by omega)
    have b1 := cA_le i (by omega) q (by omega)
    have b2 := p16_le i (by omega) c (by omega)
    have sh := shc i (by omega) c (by omega)
    have a1 := e201 (I := I) (J := J) (n := 2 * i + 1) (q := q) (by omega) (by omega) hq
    have nx : nI (2 * i + 1) + 2 = nI (2 * (i + 1) + 1) := by rw [zt_lit 2, nI_add, show 2 * i + 1 + 2 = 2 * (i + 1) + 1 by omega]
    by_cases cc : pm_cAv (2 * i + 1) q * 16 < c * 16 ^ (2 * i + 1)
    · refine ⟨v, ?_, fun I' J' => ?_⟩
      · rw [f204_40, zt_lit 9, if_neg (by rw [nI_toInt (by omega), nI_toInt (by omega)]; omega), a1, zt_bind, sh]
        show (if (lg_cmp (lN _ * lN 16) _).toInt < 0 then _ else _) = _
        rw [if_pos (by rw [lN_mul, cmp_lt, pk_lT (by omega), pk_lT (by omega)]; omega), nx]
        exact s1
      · rw [f312_43, zt_lit 9, if_neg (by rw [nI_toInt (by omega), nI_toInt (by omega)]; omega), e309 (by omega) hq, zt_bind]
        show (f310 (lN 16) _ _ _).bind _ = _
        rw [e310 (by omega), zt_bind, nI_l (by omega)]
        show (if (lg_cmp (lN 16 * lN _) (lN _ * lN _)).toInt < 0 then _ else _) = _
        rw [if_pos (by rw [lN_mul, lN_mul, cmp_lt, pk_lT (by omega), pk_lT (by omega)]; omega), nx]
        exact s2 I' J'
    · refine ⟨nI (2 * i + 1), ?_, fun I' J' => ?_⟩
      · rw [f204_40, zt_lit 9, if_neg (by rw [nI_toInt (by omega), nI_toInt (by omega)]; omega), a1, zt_bind, sh]
        show (if (lg_cmp (lN _ * lN 16) _).toInt < 0 then _ else _) = _
        rw [if_neg (by rw [lN_mul, cmp_lt, pk_lT (by omega), pk_lT (by omega)]; omega)]
      · rw [f312_43, zt_lit 9, if_neg (by rw [nI_toInt (by omega), nI_toInt (by omega)]; omega), e309 (by omega) hq, zt_bind]
        show (f310 (lN 16) _ _ _).bind _ = _
        rw [e310 (by omega), zt_bind, nI_l (by omega)]
        show (if (lg_cmp (lN 16 * lN _) (lN _ * lN _)).toInt < 0 then _ else _) = _
        rw [if_neg (by rw [lN_mul, lN_mul, cmp_lt, pk_lT (by omega), pk_lT (by omega)]; omega)]
theorem K30 {x y : Int32} (hRR : pm_RR r k I) : pm_KK r k (fun v b : Int32 => v = b) 1 1 (fun I J => f204 x y I J) (fun I J => f312 x y I J) I J := by
  obtain ⟨n, t, D, l0, k0, l1, k1, h⟩ := hRR
  obtain ⟨Ib, n2, n3, n4⟩ := il_e h
  have e16 : ((16 : Int32)).toInt = 16 := by decide
  have n2' : ∀ J', f222 0 1 1 (pm_w (pm_w I 0 13 (I 0 13 + nI 1)) 127 0 0) J' = some (false, Ib, J') := n2
  rcases tr2 x 0 16 (by omega) with ⟨q, _, hq, rfl⟩ | hy
  rotate_left
  · have vb' : v241 x 0 16 (pm_w (pm_w I 0 13 (I 0 13 + nI 1)) 127 0 0) = false := v241b (x := x) (a := 0) (b := 16) (by omega) (by omega) (by omega)
    refine KK_2 (b := 0) (Ia := pm_w I 0 13 (I 0 13 + nI 1)) (Ib := Ib) ?_ (fun J' => ?_) n3 n4
    · unfold f204
      rw [nd_b (x := x) (by rw [e16]; omega)]
    · unfold f312
      rw [pm_lt_eq, vb', if_neg (by decide), n2', zt_bind]
      show (if false = true then _ else _) = _
      rw [if_neg (by decide)]
  have gq : ∀ I', v241 (nI q) 0 16 I' = true := fun I' => v241g (p := q) (a := 0) (b := 16) (by omega) (by omega) (by omega)
  have yq1 : ¬ (nI q).toInt < 0 := by rw [nI_toInt (by omega)]; omega
  have yq2 : ¬ ((16 : Int32)).toInt < (nI q).toInt := by rw [nI_toInt (by omega), e16]; omega
  rcases tr2 y 0 16 (by omega) with ⟨c, _, hc, rfl⟩ | hy
  rotate_left
  · have vb' : v241 y 0 16 (pm_w (pm_w I 0 13 (I 0 13 + nI 1)) 127 0 0) = false := v241b (x := y) (a := 0) (b := 16) (by omega) (by omega) (by omega)
    refine KK_2 (b := 0) (Ia := pm_w I 0 13 (I 0 13 + nI 1)) (Ib := Ib) ?_ (fun J' => ?_) n3 n4
    · unfold f204
      rw [nd_g yq1 yq2, nd_b (x := y) (by rw [e16]; omega)]
    · unfold f312
      rw [pm_lt_eq, gq, if_pos rfl, vb', if_neg (by decide), n2', zt_bind]
      show (if false = true then _ else _) = _
      rw [if_neg (by decide)]
  have gc : ∀ I', v241 (nI c) 0 16 I' = true := fun I' => v241g (p := c) (a := 0) (b := 16) (by omega) (by omega) (by omega)
  have R1 := R0_t0 (x := 0) h
  obtain ⟨v, c1, c2⟩ := lw (I := I) (J := J) hq hc 5 0 pm_FU (by omega) (by unfold pm_FU; omega)
  refine KK_v (v := v) (I1 := I) (J1 := J) ?_ aj_refl (fun J' => ⟨pm_w I 127 0 0, ?_, by rw [zt_ws]; rfl, R0_R R1⟩)
  · unfold f204
    rw [nd_g yq1 yq2, nd_g (x := nI c) (by rw [nI_toInt (by omega)]; omega) (by rw [nI_toInt (by omega), e16]; omega)]
    exact c1
  · have hg : f222 1 1 1 (pm_w I 127 0 0) J' = some (true, pm_w I 127 0 0, J') := e222g (I := pm_w I 127 0 0) (J := J') (c := 1) (k := 1) (by rw [zt_ws]; rfl)
    unfold f312
    rw [pm_lt_eq, gq, gc, if_pos rfl, if_pos rfl, hg, zt_bind]
    show (if true = true then _ else _) = _
    rw [if_pos rfl]
    exact c2 _ _
end Co
