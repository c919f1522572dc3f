/-! HELD, PARTED -/
def pm_hP (l : Nat) (k : Nat → Nat) (D : Nat → Nat → Nat) (n : Nat) (w : Nat → Int32) (p : Nat) : Bool := decide (w p = nI 2) && !decide ((w (16 + p)).toInt < (pm_aS l k D n w p).toInt)
section He
variable {J : Nat → Nat → Int64} {r k : Nat}
theorem l29 {n t l0 l1 : Nat} {D : Nat → Nat → Nat} {k0 k1 : Nat → Nat} {w : Nat → Int32} : ∀ (d i fu : Nat) (I : Nat → Nat → Int32), i + d = n → d < fu → pm_CQ r n t D l0 k0 l1 k1 I → I 5 = w → ∃ I', f29_4 r fu (nI (pm_msk (pm_hP l1 k1 D n w) i)) (nI i) I J = some (nI (pm_msk (pm_hP l1 k1 D n w) n), I', J) := by
  intro d
  induction d with
  | zero =>
    intro i fu I hi hf hQ hw
    obtain ⟨fu, rfl⟩ : ∃ k, fu = k + 1 := ⟨fu - 1, by omega⟩
    have h8 := hQ.1.2.2.2.2.1
    have hn := hQ.1.2.1
    refine ⟨I, ?_⟩
    rw [f29_4, hn, if_neg (by rw [nI_toInt (by omega), nI_toInt (by omega)]; omega), show i = n by omega]
  | succ d ih =>
    intro i fu I hi hf hQ hw
    obtain ⟨fu, rfl⟩ : ∃ k, fu = k + 1 := ⟨fu - 1, by omega⟩
    have h8 := hQ.1.2.2.2.2.1
    have hn := hQ.1.2.1
    have hb := msk_lt (pm_hP l1 k1 D n w) i
    have ho := or_bit i (by omega) _ hb
    rw [f29_4, hn, if_pos (by rw [nI_toInt (by omega), nI_toInt (by omega)]; omega), zt_lit 2, e30 (by omega), hw]
    by_cases c : w i = nI 2
    · obtain ⟨c1, c2⟩ := CQ_CL (x := 1) hQ (by omega)
      obtain ⟨I1, e1⟩ := e31 (J := J) (p := i) (x := 1) hQ.1 hQ.2.1 (by omega) (by omega) c1 c2
      have g1 := (fr_31 _ _ _ e1).1
      have i5 : I1 5 = w := by rw [ag_cell g1 (by decide) (by intro f; simp)]; exact hw
      obtain ⟨I', r1⟩ := ih (i + 1) fu I1 (by omega) (by omega) (CQ_ag hQ g1 (by decide)) i5
      rw [hw] at e1
      refine ⟨I', ?_⟩
      rw [pm_msk] at r1
      simp only [c, decide_true, if_true]
      rw [show f31 r (nI i) 1 I J = _ from e1, zt_bind, zt_sg (by omega) (by omega)]
      show (if (w (16 + i)).toInt < (pm_aS l1 k1 D n w i).toInt then _ else _) = _
      by_cases c3 : (w (16 + i)).toInt < (pm_aS l1 k1 D n w i).toInt
      · have z : pm_hP l1 k1 D n w i = false := by unfold pm_hP; simp [c3]
        rw [z] at r1
        rw [if_pos c3, nI_1]
        exact r1
      · have z : pm_hP l1 k1 D n w i = true := by unfold pm_hP; simp [c, c3]
        rw [z] at r1
        rw [if_neg c3, nI_1, ho]
        exact r1
    · obtain ⟨I', r1⟩ := ih (i + 1) fu I (by omega) (by omega) hQ hw
      refine ⟨I', ?_⟩
      have z : pm_hP l1 k1 D n w i = false := by unfold pm_hP; simp [c]
      rw [pm_msk, z] at r1
      simp only [c, decide_false, Bool.false_eq_true, if_false]
      rw [nI_1]
      exact r1
theorem l283 {n t l0 l1 : Nat} {D : Nat → Nat → Nat} {k0 k1 : Nat → Nat} {w : Nat → Int32} : ∀ (d i fu : Nat) (I : Nat → Nat → Int32), i + d = n → d < fu → pm_MQ n t D l0 k0 l1 k1 I → pm_ms n (I 144) w → ∃ I', f283_13 fu (nI (pm_msk (pm_hP l1 k1 D n w) i)) (nI i) I J = some (nI (pm_msk (pm_hP l1 k1 D n w) n), I', J) := by
  intro d
  induction d with
  | zero =>
    intro i fu I hi hf hQ hw
    obtain ⟨fu, rfl⟩ : ∃ k, fu = k + 1 := ⟨fu - 1, by omega⟩
    have h8 := hQ.1.2.2.2.1
    have hn := hQ.1.1
    refine ⟨I, ?_⟩
    rw [f283_13, hn, if_neg (by rw [nI_toInt (by omega), nI_toInt (by omega)]; omega), show i = n by omega]
  | succ d ih =>
    intro i fu I hi hf hQ hw
    obtain ⟨fu, rfl⟩ : ∃ k, fu = k + 1 := ⟨fu - 1, by omega⟩
    have h8 := hQ.1.2.2.2.1
    have hn := hQ.1.1
    have hb := msk_lt (pm_hP l1 k1 D n w) i
    have ho := or_bit i (by omega) _ hb
    have hz : nI (pm_msk (pm_hP l1 k1 D n w) i) ||| 0 = nI (pm_msk (pm_hP l1 k1 D n w) i) := Int32.or_zero
    have a0 := hw.1 i (by omega)
    have a1 := hw.1 (16 + i) (by omega)
    rw [f283_13]
    simp only [ho, hz]
    by_cases c : w i = nI 2
    · obtain ⟨m1, m2⟩ := MQ_ML (x := 1) hQ (by omega)
      obtain ⟨I1, e1⟩ := e264 (J := J) (p := i) (x := 1) hQ.1 hQ.2.1 (by omega) (by omega) m1 m2 hw
      have g1 := (fr_264 _ _ _ e1).1
      have i144 : I1 144 = I 144 := ag_cell g1 (by decide) (by intro f; simp)
      obtain ⟨I', r1⟩ := ih (i + 1) fu I1 (by omega) (by omega) (MQ_ag hQ g1 (by decide)) (by rw [i144]; exact hw)
      refine ⟨I', ?_⟩
      rw [pm_msk] at r1
      simp (disch := omega) only [hn, zt_lit, nI_add, Nat.zero_add, zt_lt, if_pos, zt_in, zt_gd, nI_clamp, a0, a1, c, if_true, e1, zt_bind]
      show (if (w (16 + i)).toInt < (pm_aS l1 k1 D n w i).toInt then _ else _) = _
      by_cases c3 : (w (16 + i)).toInt < (pm_aS l1 k1 D n w i).toInt
      · have z : pm_hP l1 k1 D n w i = false := by unfold pm_hP; simp [c3]
        rw [z] at r1
        rw [if_pos c3]
        exact r1
      · have z : pm_hP l1 k1 D n w i = true := by unfold pm_hP; simp [c, c3]
        rw [z] at r1
        rw [if_neg c3]
        exact r1
    · obtain ⟨I', r1⟩ := ih (i + 1) fu I (by omega) (by omega) hQ hw
      refine ⟨I', ?_⟩
      have z : pm_hP l1 k1 D n w i = false := by unfold pm_hP; simp [c]
      rw [pm_msk, z] at r1
      simp (disch := omega) only [hn, zt_lit, nI_add, Nat.zero_add, zt_lt, if_pos, zt_in, zt_gd, nI_clamp, a0, c, if_false]
      exact r1
theorem e29 {n t l0 l1 : Nat} {D : Nat → Nat → Nat} {k0 k1 : Nat → Nat} {I : Nat → Nat → Int32} (hQ : pm_CQ r n t D l0 k0 l1 k1 I) : ∃ I', f29 r I J = some (nI (pm_msk (pm_hP l1 k1 D n (I 5)) n), I', J) := by
  have h8 := hQ.1.2.2.2.2.1
  obtain ⟨I1, e1⟩ := l29 (J := J) (w := I 5) n 0 pm_FU I (by omega) (by unfold pm_FU; omega) hQ rfl
  refine ⟨I1, ?_⟩
  rw [pm_msk, nI_0] at e1
  unfold f29
  exact e1
theorem e283 {n t l0 l1 : Nat} {D : Nat → Nat → Nat} {k0 k1 : Nat → Nat} {w : Nat → Int32} {I : Nat → Nat → Int32} (hQ : pm_MQ n t D l0 k0 l1 k1 I) (hw : pm_ms n (I 144) w) : ∃ I', f283_13 pm_FU 0 0 I J = some (nI (pm_msk (pm_hP l1 k1 D n w) n), I', J) := by
  have h8 := hQ.1.2.2.2.1
  obtain ⟨I1, e1⟩ := l283 (J := J) (w := w) n 0 pm_FU I (by omega) (by unfold pm_FU; omega) hQ hw
  refine ⟨I1, ?_⟩
  rw [pm_msk, nI_0] at e1
  exact e1
theorem K13 {I : Nat → Nat → Int32} (hRR : pm_RR r k I) : pm_KP r k (fun I J => f165 r I J) (fun I J => f283 I J) I J := by
  obtain ⟨n, t, D, l0, k0, l1, k1, h⟩ := hRR
  have hC := h.1.1
  obtain ⟨I1, e1⟩ := e29 (J := J) hC
  have g1 := (fr_29 _ _ _ e1).1
  have R1 := R0_t0 (x := 0) (R0_ag h g1 rfl)
  have i5 : I1 5 = I 5 := ag_cell g1 (by decide) (by intro f; simp)
  refine ⟨nI (pm_msk (pm_hP l1 k1 D n (I 5)) n), I1, J, ?_, aj_refl, fun J' => ?_⟩
  · show f165 r I J = _
    unfold f165
    rw [e1, zt_bind]
  · obtain ⟨I3, e3, s3, ru3, _, _, g3⟩ := e253 (I := pm_w I1 127 0 0) (J := J') R1.1.2.2.1.1
    have R3 := R0_ag R1 g3 rfl
    rw [zt_wc (by omega), i5] at s3
    obtain ⟨I4, e4⟩ := e283 (J := J') R3.1.2.1 s3
    have g4 := (fr_283_13 _ _ _ _ _ _ _ _ e4).1
    refine ⟨I4, ?_, R0_R (R0_ag R3 g4 rfl)⟩
    show f283 I1 J' = _
    unfold f283
    rw [pm_lt_eq, e3, zt_bind]
    exact e4
/-! sums -/
def pm_su (f : Nat → Nat) : Nat → Nat
  | 0 => 0
  | i + 1 => pm_su f i + f i
theorem su_cong {f g : Nat → Nat} : ∀ {n : Nat}, (∀ i, i < n → f i = g i) → pm_su f n = pm_su g n
  | 0, _ => rfl
  | n + 1, h => by
    unfold pm_su
    rw [su_cong (fun i hi => h i (by omega)), h n (by omega)]
theorem su_add {f g : Nat → Nat} : ∀ {n : Nat}, pm_su (fun i => f i + g i) n = pm_su f n + pm_su g n
  | 0 => rfl
  | n + 1 => by
    unfold pm_su
    rw [su_add]
    omega
theorem su_0 : ∀ {n : Nat}, pm_su (fun _ => 0) n = 0
  | 0 => rfl
  | n + 1 => by unfold pm_su; rw [su_0]
theorem su_cnt {P : Nat → Bool} : ∀ {n : Nat}, pm_su (fun j => if P j = true then 1 else 0) n = pm_cnt P n
  | 0 => rfl
  | n + 1 => by unfold pm_su pm_cnt; rw [su_cnt]
theorem su_swap {Q : Nat → Nat → Bool} {n : Nat} : ∀ {m : Nat}, pm_su (fun i => pm_cnt (fun j => Q i j) n) m = pm_su (fun j => pm_cnt (fun i => Q i j) m) n
  | 0 => by
    rw [pm_su, show (fun j => pm_cnt (fun i => Q i j) 0) = (fun _ => 0) from funext fun _ => rfl]
    exact su_0.symm
  | m + 1 => by
    rw [pm_su, su_swap, ← su_cnt (P := fun j => Q m j), ← su_add]
    exact su_cong (fun j _ => by rw [pm_cnt])
def pm_pd (D : Nat → Nat → Nat) (w : Nat → Int32) (a b : Nat) : Bool := pm_kP D a b && (decide (w a = nI 2) && (decide (w b = nI 2) && !decide (w (8 + a) = w (8 + b))))
theorem pd_sym {D : Nat → Nat → Nat} {w : Nat → Int32} (a b : Nat) : pm_pd D w a b = pm_pd D w b a := by
  have h1 : pm_kP D a b = pm_kP D b a := by
    unfold pm_kP
    by_cases c : D 3 a = D 3 b
    · simp [c, ne_comm]
    · simp [c, Ne.symm c]
  have h2 : decide (w (8 + a) = w (8 + b)) = decide (w (8 + b) = w (8 + a)) := by
    rw [decide_eq_decide]; exact eq_comm
  unfold pm_pd
  rw [h1, h2]
  cases pm_kP D b a <;> cases decide (w a = nI 2) <;> cases decide (w b = nI 2) <;> rfl
theorem bit_1 : ∀ b : Nat, b < 8 → ∀ m : Nat, m < 256 → (((nI m >>> (nI b &&& 31)) &&& 1) = 1 ↔ m / 2 ^ b % 2 = 1) := by decide +kernel
theorem msk_hi : ∀ n : Nat, n < 8 → ∀ m : Nat, m < 2 ^ n → ∀ b : Nat, b < n → (m + 2 ^ n) / 2 ^ b % 2 = m / 2 ^ b % 2 := by decide +kernel
theorem msk_top : ∀ n : Nat, n < 8 → ∀ m : Nat, m < 2 ^ n → (m + 2 ^ n) / 2 ^ n % 2 = 1 ∧ m / 2 ^ n % 2 = 0 := by decide +kernel
theorem msk_bit (P : Nat → Bool) : ∀ n, n ≤ 8 → ∀ b, b < n → (pm_msk P n / 2 ^ b % 2 = 1 ↔ P b = true) := by
  intro n
  induction n with
  | zero => intro _ b hb; omega
  | succ n ih =>
    intro hn b hb
    have hl := msk_lt P n
    rw [pm_msk]
    by_cases e : b = n
    · subst e
      obtain ⟨t1, t2⟩ := msk_top b (by omega) _ hl
      by_cases c : P b = true
      · rw [if_pos c, t1]; simp [c]
      · rw [if_neg c, Nat.add_zero, t2]; simp [c]
    · by_cases c : P n = true
      · rw [if_pos c, msk_hi n (by omega) _ hl b (by omega)]
        exact ih (by omega) b (by omega)
      · rw [if_neg c, Nat.add_zero]
        exact ih (by omega) b (by omega)
theorem e85 {I : Nat → Nat → Int32} {n t a b : Nat} {D : Nat → Nat → Nat} (hR : pm_CR r n t D I) (hD : pm_DR n t D) (ha : a < n) (hb : b < n) : f85 r (nI a) (nI b) I J = some (pm_kP D a b, I, J) := by
  have h8 := hR.2.2.2.2.1
  have h1 := msk_lt (pm_kP D a) n
  have h2 : 2 ^ n ≤ 2 ^ 8 := Nat.pow_le_pow_right (by decide) h8
  have q := (bit_1 b (by omega) (pm_msk (pm_kP D a) n) (by omega)).trans (msk_bit (pm_kP D a) n h8 b hb)
  unfold f85
  rw [e84 hR hD ha, zt_bind]
  show (if ((nI (pm_msk (pm_kP D a) n) >>> (nI b &&& 31)) &&& 1) = 1 then some (true, I, J) else some (false, I, J)) = _
  by_cases c : pm_kP D a b = true
  · rw [if_pos (q.mpr c), c]
  · rw [if_neg (fun h => c (q.mp h)), Bool.eq_false_iff.mpr c]
theorem e35 {I : Nat → Nat → Int32} {n t a b : Nat} {D : Nat → Nat → Nat} (hR : pm_CR r n t D I) (hD : pm_DR n t D) (ha : a < n) (hb : b < n) : f35 r (nI a) (nI b) I J = some (pm_pd D (I 5) a b, I, J) := by
  have h8 := hR.2.2.2.2.1
  unfold f35 pm_pd
  rw [e85 hR hD ha hb, zt_bind]
  simp (disch := omega) only [zt_lit, e30 (show a < 8 by omega), e30 (show b < 8 by omega), zt_sg, Nat.reduceMul]
  by_cases c0 : pm_kP D a b = true
  · by_cases c1 : I 5 a = nI 2
    · by_cases c2 : I 5 b = nI 2
      · by_cases c3 : I 5 (8 + a) = I 5 (8 + b) <;> simp [c0, c1, c2, c3]
      · simp [c0, c1, c2]
    · simp [c0, c1]
  · simp [c0]
theorem l34i {I : Nat → Nat → Int32} {n t i s : Nat} {D : Nat → Nat → Nat} (hR : pm_CR r n t D I) (hD : pm_DR n t D) (hi : i < n) : ∀ d j fu : Nat, j + d = n → f34_L r (fu + d + 1) 1 (nI (s + pm_cnt (fun j => decide (i < j) && pm_pd D (I 5) i j) j)) (nI i) (nI j) I J = (if i < j then f34_L r fu 0 (nI (s + pm_cnt (fun j => decide (i < j) && pm_pd D (I 5) i j) n)) (nI (i + 1)) 0 I J else f34_L r (fu + d + 1) 1 (nI (s + pm_cnt (fun j => decide (i < j) && pm_pd D (I 5) i j) j)) (nI i) (nI j) I J) := by
  have hn := hR.2.1
  have h8 := hR.2.2.2.2.1
  intro d
  induction d with
  | zero =>
    intro j fu hj
    by_cases c : i < j
    · rw [if_pos c, f34_L, hn, if_neg (by rw [nI_toInt (by omega), nI_toInt (by omega)]; omega), nI_1, show j = n by omega]
    · rw [if_neg c]
  | succ d ih =>
    intro j fu hj
    by_cases c : i < j
    · rw [if_pos c]
      have s1 := ih (j + 1) fu (by omega)
      rw [if_pos (by omega), pm_cnt] at s1
      rw [show fu + (d + 1) + 1 = (fu + d + 1) + 1 by omega, f34_L, hn, if_pos (by rw [nI_toInt (by omega), nI_toInt (by omega)]; omega), e35 hR hD hi (by omega), zt_bind, nI_1, nI_1]
      by_cases c2 : pm_pd D (I 5) i j = true
      · simp only [c, c2, decide_true, Bool.and_self, if_true] at s1 ⊢
        exact s1
      · simp only [c, c2, decide_true, Bool.true_and, if_false, Nat.add_zero] at s1 ⊢
        exact s1
    · rw [if_neg c]
theorem cn_lo (i : Nat) (Q : Nat → Bool) : pm_cnt (fun j => decide (i < j) && Q j) (i + 1) = 0 := cn_none (fun j hj => by simp; omega)
theorem l34 {I : Nat → Nat → Int32} {n t : Nat} {D : Nat → Nat → Nat} (hR : pm_CR r n t D I) (hD : pm_DR n t D) : ∀ d i fu : Nat, i + d = n → d * 12 < fu → f34_L r fu 0 (nI (pm_su (fun i => pm_cnt (fun j => decide (i < j) && pm_pd D (I 5) i j) n) i)) (nI i) 0 I J = some (nI (pm_su (fun i => pm_cnt (fun j => decide (i < j) && pm_pd D (I 5) i j) n) n), I, J) := by
  have hn := hR.2.1
  have h8 := hR.2.2.2.2.1
  intro d
  induction d with
  | zero =>
    intro i fu hi hf
    obtain ⟨fu, rfl⟩ : ∃ k, fu = k + 1 := ⟨fu - 1, by omega⟩
    rw [f34_L, hn, if_neg (by rw [nI_toInt (by omega), nI_toInt (by omega)]; omega), show i = n by omega]
  | succ d ih =>
    intro i fu hi hf
    obtain ⟨fu, rfl⟩ : ∃ k, fu = k + (n - (i + 1)) + 1 + 1 := ⟨fu - (n - (i + 1)) - 2, by omega⟩
    have s1 := l34i (J := J) (s := pm_su (fun i => pm_cnt (fun j => decide (i < j) && pm_pd D (I 5) i j) n) i) hR hD (show i < n by omega) (n - (i + 1)) (i + 1) fu (by omega)
    rw [if_pos (by omega), cn_lo] at s1
    simp only [Nat.add_zero] at s1
    rw [f34_L, hn, if_pos (by rw [nI_toInt (by omega), nI_toInt (by omega)]; omega), nI_1, s1]
    exact ih (i + 1) fu (by omega) (by omega)
theorem l295i {I : Nat → Nat → Int32} {w : Nat → Int32} {n t a s : Nat} {D : Nat → Nat → Nat} (hR : pm_MR n t D I) (hD : pm_DR n t D) (hs : pm_ms n (I 143) w) (ha : a < n) : ∀ d j fu : Nat, j + d = a → f295_L (fu + d + 1) 1 (nI (s + pm_cnt (fun j => pm_pd D w a j) j)) (nI a) (nI j) I J = f295_L fu 0 (nI (s + pm_cnt (fun j => pm_pd D w a j) a)) (nI (a + 1)) 0 I J := by
  have hn := hR.1
  have h8 := hR.2.2.2.1
  intro d
  induction d with
  | zero =>
    intro j fu hj
    rw [f295_L, if_neg (by rw [nI_toInt (by omega), nI_toInt (by omega)]; omega), nI_1, show j = a by omega]
  | succ d ih =>
    intro j fu hj
    have s1 := ih (j + 1) fu (by omega)
    rw [pm_cnt] at s1
    have a0 := hs.1 a (by omega)
    have a1 := hs.1 j (by omega)
    have a2 := hs.1 (8 + a) (by omega)
    have a3 := hs.1 (8 + j) (by omega)
    rw [show fu + (d + 1) + 1 = (fu + d + 1) + 1 by omega, f295_L, if_pos (by rw [nI_toInt (by omega), nI_toInt (by omega)]; omega), e267 hR hD ha (by omega), zt_bind]
    simp (disch := omega) only [zt_lit, nI_add, Nat.zero_add, Nat.add_zero, zt_in, zt_gd, nI_clamp, a0, a1, a2, a3]
    unfold pm_pd at s1 ⊢
    by_cases c0 : pm_kP D a j = true
    · by_cases c1 : w a = nI 2
      · by_cases c2 : w j = nI 2
        · by_cases c3 : w (8 + a) = w (8 + j)
          · simp only [c0, c1, c2, c3, decide_true, Bool.not_true, Bool.and_false, Bool.false_eq_true, if_true, if_false, Nat.add_zero] at s1 ⊢
            exact s1
          · simp only [c0, c1, c2, c3, decide_true, decide_false, Bool.not_false, Bool.and_self, if_true, if_false] at s1 ⊢
            exact s1
        · simp only [c0, c1, c2, decide_true, decide_false, Bool.false_and, Bool.and_false, Bool.false_eq_true, if_true, if_false, Nat.add_zero] at s1 ⊢
          exact s1
      · simp only [c0, c1, decide_false, Bool.false_and, Bool.and_false, Bool.false_eq_true, if_true, if_false, Nat.add_zero] at s1 ⊢
        exact s1
    · simp only [Bool.eq_false_iff.mpr c0, Bool.false_and, Bool.false_eq_true, if_false, Nat.add_zero] at s1 ⊢
      exact s1
theorem l295 {I : Nat → Nat → Int32} {w : Nat → Int32} {n t : Nat} {D : Nat → Nat → Nat} (hR : pm_MR n t D I) (hD : pm_DR n t D) (hs : pm_ms n (I 143) w) : ∀ d i fu : Nat, i + d = n → d * 12 < fu → f295_L fu 0 (nI (pm_su (fun i => pm_cnt (fun j => pm_pd D w i j) i) i)) (nI i) 0 I J = some (nI (pm_su (fun i => pm_cnt (fun j => pm_pd D w i j) i) n), I, J) := by
  have hn := hR.1
  have h8 := hR.2.2.2.1
  intro d
  induction d with
  | zero =>
    intro i fu hi hf
    obtain ⟨fu, rfl⟩ : ∃ k, fu = k + 1 := ⟨fu - 1, by omega⟩
    rw [f295_L, hn, if_neg (by rw [nI_toInt (by omega), nI_toInt (by omega)]; omega), show i = n by omega]
  | succ d ih =>
    intro i fu hi hf
    obtain ⟨fu, rfl⟩ : ∃ k, fu = k + i + 1 + 1 := ⟨fu - i - 2, by omega⟩
    have s1 := l295i (J := J) (s := pm_su (fun i => pm_cnt (fun j => pm_pd D w i j) i) i) hR hD hs (show i < n by omega) i 0 fu (by omega)
    rw [pm_cnt] at s1
    simp only [Nat.add_zero] at s1
    rw [f295_L, hn, if_pos (by rw [nI_toInt (by omega), nI_toInt (by omega)]; omega)]
    refine Eq.trans s1 ?_
    exact ih (i + 1) fu (by omega) (by omega)
theorem cn_cut (a : Nat) (Q : Nat → Bool) : ∀ n, a ≤ n → pm_cnt (fun j => decide (j < a) && Q j) n = pm_cnt Q a := by
  intro n
  induction n with
  | zero => intro h; rw [Nat.le_zero.mp h]; rfl
  | succ n ih =>
    intro h
    by_cases e : a = n + 1
    · subst e
      exact cn_cong (fun i hi => by simp [hi])
    · rw [pm_cnt, ih (by omega)]
      have : decide (n < a) = false := by simp; omega
      simp [this]
theorem pd_eq {D : Nat → Nat → Nat} {w : Nat → Int32} {n : Nat} : pm_su (fun i => pm_cnt (fun j => decide (i < j) && pm_pd D w i j) n) n = pm_su (fun i => pm_cnt (fun j => pm_pd D w i j) i) n := by
  rw [su_swap (Q := fun i j => decide (i < j) && pm_pd D w i j)]
  refine su_cong (fun j hj => ?_)
  rw [← cn_cut j (fun i => pm_pd D w j i) n (by omega)]
  exact cn_cong (fun i _ => by rw [pd_sym i j])
theorem K20 {I : Nat → Nat → Int32} (hRR : pm_RR r k I) : pm_KP r k (fun I J => f166 r I J) (fun I J => f295 I J) I J := by
  obtain ⟨n, t, D, l0, k0, l1, k1, h⟩ := hRR
  have hC := h.1.1
  have h8 := hC.1.2.2.2.2.1
  have R1 := R0_t0 (x := 0) h
  refine ⟨nI (pm_su (fun i => pm_cnt (fun j => decide (i < j) && pm_pd D (I 5) i j) n) n), I, J, ?_, aj_refl, fun J' => ⟨pm_w I 127 0 0, ?_, R0_R R1⟩⟩
  · have e := l34 (J := J) hC.1 hC.2.1 n 0 pm_FU (by omega) (by unfold pm_FU; omega)
    show f166 r I J = _
    unfold f166 f34
    rw [pm_su, nI_0] at e
    rw [e, zt_bind]
  · have e := l295 (J := J') (w := I 5) R1.1.2.1.1 R1.1.2.1.2.1 (by rw [zt_wc (by omega)]; exact h.1.2.2.1.1) n 0 pm_FU (by omega) (by unfold pm_FU; omega)
    show f295 I J' = _
    unfold f295
    rw [pm_su, nI_0] at e
    rw [pm_lt_eq, pd_eq]
    exact e
end He
