/-! IMAGE, RESTORE -/
def pm_cpi (I : Nat → Nat → Int32) (m i : Nat) : Nat → Nat → Int32 := fun c => if 42 + 17 * m ≤ c ∧ c < 42 + 17 * m + i then va_cpy (I (25 + (c - (42 + 17 * m)))) (I c) 0 0 66 else I c
theorem cpi_0 {I : Nat → Nat → Int32} {m : Nat} : pm_cpi I m 0 = I := funext fun c => if_neg (by omega)
theorem cpi_s {I : Nat → Nat → Int32} {m i : Nat} (hi : i < 16) : pm_cpw (pm_cpi I m i) (25 + i) (42 + (17 * m + i)) 66 = pm_cpi I m (i + 1) := by
  funext c
  unfold pm_cpw va_up
  by_cases e : c = 42 + (17 * m + i)
  · subst e
    rw [if_pos rfl]
    unfold pm_cpi
    rw [if_neg (show ¬ (42 + 17 * m ≤ 25 + i ∧ 25 + i < 42 + 17 * m + i) by omega), if_neg (show ¬ (42 + 17 * m ≤ 42 + (17 * m + i) ∧ 42 + (17 * m + i) < 42 + 17 * m + i) by omega), if_pos (by omega), show 42 + (17 * m + i) - (42 + 17 * m) = i by omega]
  · rw [if_neg e]
    unfold pm_cpi
    by_cases q : 42 + 17 * m ≤ c ∧ c < 42 + 17 * m + i
    · rw [if_pos q, if_pos (by omega)]
    · rw [if_neg q, if_neg (by omega)]
theorem cpi_in {I : Nat → Nat → Int32} {m i a j : Nat} (hi : i < a) (hj : j < 66) : pm_cpi I m a (42 + (17 * m + i)) j = I (25 + i) j := by
  unfold pm_cpi va_cpy
  rw [if_pos (by omega), if_pos (by omega)]
  congr 1
  · congr 1; omega
  · omega
theorem cpi_out {I : Nat → Nat → Int32} {m a c : Nat} (h : c < 42 + 17 * m ∨ 42 + 17 * m + a ≤ c) : pm_cpi I m a c = I c := if_neg (by omega)
/-- the rows back -/
def pm_cpj (I : Nat → Nat → Int32) (m i : Nat) : Nat → Nat → Int32 := fun c => if 25 ≤ c ∧ c < 25 + i then va_cpy (I (42 + (17 * m + (c - 25)))) (I c) 0 0 66 else I c
theorem cpj_0 {I : Nat → Nat → Int32} {m : Nat} : pm_cpj I m 0 = I := funext fun c => if_neg (by omega)
theorem cpj_s {I : Nat → Nat → Int32} {m i : Nat} (hi : i < 16) : pm_cpw (pm_cpj I m i) (42 + (17 * m + i)) (25 + i) 66 = pm_cpj I m (i + 1) := by
  funext c
  unfold pm_cpw va_up
  by_cases e : c = 25 + i
  · subst e
    rw [if_pos rfl]
    unfold pm_cpj
    rw [if_neg (show ¬ (25 ≤ 42 + (17 * m + i) ∧ 42 + (17 * m + i) < 25 + i) by omega), if_neg (show ¬ (25 ≤ 25 + i ∧ 25 + i < 25 + i) by omega), if_pos (by omega), show 25 + i - 25 = i by omega]
  · rw [if_neg e]
    unfold pm_cpj
    by_cases q : 25 ≤ c ∧ c < 25 + i
    · rw [if_pos q, if_pos (by omega)]
    · rw [if_neg q, if_neg (by omega)]
theorem cpj_in {I : Nat → Nat → Int32} {m i a j : Nat} (hi : i < a) (hj : j < 66) : pm_cpj I m a (25 + i) j = I (42 + (17 * m + i)) j := by
  unfold pm_cpj va_cpy
  rw [if_pos (by omega), if_pos (by omega)]
  congr 1
  · congr 2; omega
  · omega
theorem cpj_out {I : Nat → Nat → Int32} {m a c : Nat} (h : c < 25 ∨ 25 + a ≤ c) : pm_cpj I m a c = I c := if_neg (by omega)
def pm_blk (f g : Nat → Int32) (q j : Nat) : Nat → Int32 := fun i => if q ≤ i ∧ i < q + j then g (i - q) else f i
theorem blk_0 {f g : Nat → Int32} {q : Nat} : pm_blk f g q 0 = f := funext fun i => if_neg (by omega)
theorem blk_s {f g : Nat → Int32} {q j : Nat} : upd (pm_blk f g q j) (q + j) (g j) = pm_blk f g q (j + 1) := by
  funext i
  unfold upd pm_blk
  by_cases e : i = q + j
  · subst e
    rw [if_pos rfl, if_pos (by omega), show q + j - q = j by omega]
  · rw [if_neg e]
    by_cases c : q ≤ i ∧ i < q + j
    · rw [if_pos c, if_pos (by omega)]
    · rw [if_neg c, if_neg (by omega)]
theorem blk_in {f g : Nat → Int32} {q j i : Nat} (h : i < j) : pm_blk f g q j (q + i) = g i := by
  unfold pm_blk
  rw [if_pos (by omega), show q + i - q = i by omega]
theorem blk_out {f g : Nat → Int32} {q j i : Nat} (h : i < q ∨ q + j ≤ i) : pm_blk f g q j i = f i := if_neg (by omega)
section Im
variable {I : Nat → Nat → Int32} {J : Nat → Nat → Int64} {r k : Nat}
theorem l4 {m a : Nat} (hm : m < 3) (ha : a ≤ 16) : ∀ (d i fu : Nat) (I : Nat → Nat → Int32), i + d = a → d < fu → I 23 3 = nI a → I 23 4 = nI m → f4_39 fu (nI (17 * m + 16)) (nI i) (pm_cpi I m i) J = some ((), pm_w (pm_w (pm_cpi I m a) 93 m (nI a)) 23 4 (nI (m + 1)), J) := by
  intro d
  induction d with
  | zero =>
    intro i fu I hi hf h3 h4
    obtain ⟨fu, rfl⟩ : ∃ k, fu = k + 1 := ⟨fu - 1, by omega⟩
    have e : i = a := by omega
    subst e
    have m1 : pm_cpi I m i 23 = I 23 := cpi_out (by omega)
    rw [f4_39]
    simp (disch := omega) only [m1, h3, h4, if_neg, zt_lit, zt_pw, pm_lt, zt_w2, nI_add]
  | succ d ih =>
    intro i fu I hi hf h3 h4
    obtain ⟨fu, rfl⟩ : ∃ k, fu = k + 1 := ⟨fu - 1, by omega⟩
    have m1 : pm_cpi I m i 23 = I 23 := cpi_out (by omega)
    have s := ih (i + 1) fu I (by omega) (by omega) h3 h4
    have cs := cpi_s (I := I) (m := m) (show i < 16 by omega)
    rw [f4_39]
    simp (disch := omega) only [m1, h3, zt_lit, zt_lt, if_pos, zt_mi, nI_add, zt_in, zt_gd, nI_clamp, Nat.min_self, pm_lt, Nat.add_sub_cancel, cs]
    exact s
theorem e4 {m a : Nat} (hm : m < 3) (ha : a ≤ 16) (h3 : I 23 3 = nI a) (h4 : I 23 4 = nI m) : f4 I J = some ((), pm_w (pm_w (pm_cpi (pm_cpw I 5 (42 + (17 * m + 16)) 66) m a) 93 m (nI a)) 23 4 (nI (m + 1)), J) := by
  have c23 : pm_cpw I 5 (42 + (17 * m + 16)) 66 23 = I 23 := by unfold pm_cpw; rw [va_up_ne _ _ (by omega)]
  have s := l4 (J := J) hm ha a 0 pm_FU (pm_cpw I 5 (42 + (17 * m + 16)) 66) (by omega) (by unfold pm_FU; omega) (by rw [c23]; exact h3) (by rw [c23]; exact h4)
  rw [cpi_0, nI_0] at s
  have e1 : I 23 4 * 17 + 16 = nI (17 * m + 16) := by rw [h4, zt_lit 17, zt_lit 16, pk_mul, nI_add, Nat.mul_comm]
  unfold f4 f109
  rw [e1, zt_lit 16, if_neg (by rw [nI_toInt (by omega), nI_toInt (by omega)]; omega), if_pos (by rw [nI_toInt (by omega), nI_toInt (by omega)]; omega), zt_in (by omega) (by omega), zt_gd, nI_clamp (by omega), pm_lt_eq, zt_bind, Nat.min_self]
  exact s
theorem l326k {a2 n2 q c : Nat} (h2 : a2 ≠ 156) (hc : c ≤ n2) (hq : q + c ≤ 3369) : ∀ (d j fu : Nat) (I : Nat → Nat → Int32), j + d = c → d < fu → f326_3 a2 n2 fu (nI q) (nI c) (nI 1) (nI j) (va_up I 156 (pm_blk (I 156) (I a2) q j)) J = some (nI (q + c), va_up I 156 (pm_blk (I 156) (I a2) q c), J) := by
  intro d
  induction d with
  | zero =>
    intro j fu I hj hf
    obtain ⟨fu, rfl⟩ : ∃ k, fu = k + 1 := ⟨fu - 1, by omega⟩
    rw [f326_3, show j = c by omega, if_neg (by omega), nI_add]
  | succ d ih =>
    intro j fu I hj hf
    obtain ⟨fu, rfl⟩ : ∃ k, fu = k + 1 := ⟨fu - 1, by omega⟩
    have s := ih (j + 1) fu I (by omega) (by omega)
    have m1 := va_up_ne I (pm_blk (I 156) (I a2) q j) h2
    rw [f326_3]
    simp (disch := omega) only [zt_lit, zt_lt, if_pos, zt_eq, if_neg, nI_add, zt_in, zt_gd, nI_clamp, pm_lt, m1, w_up, blk_s]
    exact s
theorem e326k {a2 n2 q c : Nat} (h2 : a2 ≠ 156) (hc : c ≤ n2) (hq : q + c ≤ 3369) : f326 (nI q) a2 n2 (nI c) 1 I J = some (nI (q + c), va_up I 156 (pm_blk (I 156) (I a2) q c), J) := by
  have s := l326k (J := J) h2 hc hq c 0 pm_FU I (by omega) (by unfold pm_FU; omega)
  rw [blk_0, va_same, nI_0] at s
  exact s
theorem l326r {a2 n2 q c : Nat} (h2 : a2 ≠ 156) (hc : c ≤ n2) (hq : q + c ≤ 3369) : ∀ (d j fu : Nat) (I : Nat → Nat → Int32), j + d = c → d < fu → f326_3 a2 n2 fu (nI q) (nI c) (nI 0) (nI j) (va_up I a2 (pm_fil (fun z => I 156 (q + z)) (I a2) j)) J = some (nI (q + c), va_up I a2 (pm_fil (fun z => I 156 (q + z)) (I a2) c), J) := by
  intro d
  induction d with
  | zero =>
    intro j fu I hj hf
    obtain ⟨fu, rfl⟩ : ∃ k, fu = k + 1 := ⟨fu - 1, by omega⟩
    rw [f326_3, show j = c by omega, if_neg (by omega), nI_add]
  | succ d ih =>
    intro j fu I hj hf
    obtain ⟨fu, rfl⟩ : ∃ k, fu = k + 1 := ⟨fu - 1, by omega⟩
    have s := ih (j + 1) fu I (by omega) (by omega)
    have m1 := va_up_ne I (pm_fil (fun z => I 156 (q + z)) (I a2) j) (Ne.symm h2)
    have fs : upd (pm_fil (fun z => I 156 (q + z)) (I a2) j) j (I 156 (q + j)) = pm_fil (fun z => I 156 (q + z)) (I a2) (j + 1) := fil_s (f := fun z => I 156 (q + z))
    rw [f326_3]
    simp (disch := omega) only [zt_lit, zt_lt, if_pos, if_true, nI_add, zt_in, zt_gd, nI_clamp, pm_lt, m1, w_up, fs]
    exact s
theorem e326r {a2 n2 q c : Nat} (h2 : a2 ≠ 156) (hc : c ≤ n2) (hq : q + c ≤ 3369) : f326 (nI q) a2 n2 (nI c) 0 I J = some (nI (q + c), va_up I a2 (pm_fil (fun z => I 156 (q + z)) (I a2) c), J) := by
  have s := l326r (J := J) h2 hc hq c 0 pm_FU I (by omega) (by unfold pm_FU; omega)
  rw [fil_0, va_same, nI_0] at s
  exact s
theorem K37 (hRR : pm_RR r k I) : pm_KP r k (fun I J => f168 I J) (fun I J => f324 I J) I J := by
  obtain ⟨n, t, D, l0, k0, l1, k1, h⟩ := hRR
  have h8 := h.1.1.1.2.2.2.2.1
  obtain ⟨⟨a, a1, a2, a3, a4⟩, m, m1, m2, m3, m4⟩ := h.1.2.2.2
  by_cases c : m < 3
  · generalize hI1 : pm_w (pm_w (pm_cpi (pm_cpw I 5 (42 + (17 * m + 16)) 66) m a) 93 m (nI a)) 23 4 (nI (m + 1)) = I1
    have cell : ∀ c, c ≠ 23 → c ≠ 93 → (c < 42 + 17 * m ∨ 42 + 17 * m + 17 ≤ c) → I1 c = I c := fun c h1 h2 h3 => by
      rw [← hI1, zt_wc h1, zt_wc h2, cpi_out (by omega)]
      unfold pm_cpw
      rw [va_up_ne _ _ (by omega)]
    have c23 : ∀ f, f ≠ 4 → I1 23 f = I 23 f := fun f hf => by
      rw [← hI1, zt_wf hf, zt_wc (by omega), cpi_out (by omega)]
      unfold pm_cpw
      rw [va_up_ne _ _ (by omega)]
    refine ⟨nI (m + 1), I1, J, ?_, aj_refl, fun J' => ?_⟩
    · show f168 I J = _
      unfold f168
      rw [m2, zt_lit 3, if_pos (by rw [nI_toInt (by omega), nI_toInt (by omega)]; omega), e4 c a1 a2 m2, zt_bind, hI1]
      show some (I1 23 4, I1, J) = _
      rw [← hI1, zt_ws]
    · have i127 : I1 127 = I 127 := cell 127 (by omega) (by omega) (by omega)
      have i143 : I1 143 = I 143 := cell 143 (by omega) (by omega) (by omega)
      have i145 : I1 145 = I 145 := cell 145 (by omega) (by omega) (by omega)
      have i156 : I1 156 = I 156 := cell 156 (by omega) (by omega) (by omega)
      have e1 : f325 (nI m) 1 (pm_w I1 127 0 0) J' = some ((), pm_w (va_up (pm_w I1 127 0 0) 156 (pm_blk (pm_blk (I 156) (I 143) (1123 * m) 66) (I 145) (1123 * m + 66) 1056)) 156 (1123 * m + 66 + 1056) (nI a), J') := by
        unfold f325
        rw [zt_lit 1123, pk_mul, zt_lit 66, e326k (by omega) (by omega) (by omega), zt_bind, zt_lit 1056]
        show (f326 (nI (1123 * m + 66)) 145 1056 (nI 1056) 1 _ J').bind _ = _
        rw [e326k (by omega) (by omega) (by omega), zt_bind]
        simp (disch := omega) only [va_up_self, va_upup, va_up_ne, zt_wc, zt_w2, i143, i145, i156, i127, a3, zt_lit, zt_eq, if_neg, zt_in, zt_gd, nI_clamp, pm_lt]
      generalize hI2 : pm_w (pm_w (va_up (pm_w I1 127 0 0) 156 (pm_blk (pm_blk (I 156) (I 143) (1123 * m) 66) (I 145) (1123 * m + 66) 1056)) 156 (1123 * m + 66 + 1056) (nI a)) 127 58 (nI (m + 1)) = I2
      have g2 : pm_ag [156] [(127, 0), (127, 58)] I1 I2 := by rw [← hI2]; exact ag_w (ag_w (ag_up (ag_w ag_refl (by simp)) (by simp)) (by simp)) (by simp)
      have J156 : ∀ i, I2 156 i = upd (pm_blk (pm_blk (I 156) (I 143) (1123 * m) 66) (I 145) (1123 * m + 66) 1056) (1123 * m + 66 + 1056) (nI a) i := fun i => by
        rw [← hI2, zt_wc (by omega), zt_wr, va_up_self]
      refine ⟨I2, ?_, ?_⟩
      · show f324 I1 J' = _
        unfold f324
        rw [pm_lt_eq, zt_w2 (by omega), i127, m3, if_neg (by rw [zt_lit 3, nI_eq (by omega) (by omega)]; omega), e1, zt_bind]
        show pm_lt (pm_w _ 127 58 _) (fun I7 => some (I7 127 58, I7, J')) = _
        rw [pm_lt_eq, zt_ws, zt_w2 (by omega), va_up_ne _ _ (by omega), zt_w2 (by omega), i127, m3, nI_1, hI2]
      · have fin : ∀ c, c ≠ 156 → c ≠ 127 → I2 c = I1 c := fun c h1 h2 => ag_cell g2 (by simp; omega) (by intro f; simp; omega)
        have all : ∀ c, c ≠ 23 → c ≠ 93 → c ≠ 127 → c ≠ 156 → (c < 42 ∨ 93 ≤ c) → I2 c = I c := fun c h1 h2 h3 h4 h5 => by rw [fin c h4 h3]; exact cell c h1 h2 (by omega)
        have f127 : ∀ f, f ≠ 0 → f ≠ 58 → I2 127 f = I 127 f := fun f h1 h2 => by rw [g2 127 f (by simp) (by simp; omega), i127]
        have ag : pm_ag [23, 42, 43, 44, 45, 46, 47, 48, 49, 50, 51, 52, 53, 54, 55, 56, 57, 58, 59, 60, 61, 62, 63, 64, 65, 66, 67, 68, 69, 70, 71, 72, 73, 74, 75, 76, 77, 78, 79, 80, 81, 82, 83, 84, 85, 86, 87, 88, 89, 90, 91, 92, 93, 156] [(127, 0), (127, 58)] I I2 := by
          intro c f hc hf
          simp only [List.mem_cons, List.not_mem_nil, or_false, Prod.mk.injEq] at hc hf
          by_cases e : c = 127
          · subst e; exact f127 f (by omega) (by omega)
          · rw [all c (by omega) (by omega) e (by omega) (by omega)]
        refine R0_R (r := r) (k := k) (n := n) (t := t) (D := D) (l0 := l0) (k0 := k0) (l1 := l1) (k1 := k1) ⟨⟨CQ_ag h.1.1 ag (by decide), MQ_ag h.1.2.1 ag (by decide), row_c h.1.2.2.1 (all 5 (by omega) (by omega) (by omega) (by omega) (by omega)) (all 143 (by omega) (by omega) (by omega) (by omega) (by omega)), ?_⟩, Rbk_ag h.2.1 ag (by decide), Rtp_ag h.2.2.1 ag (by decide), ?_, ?_, ?_⟩
        · have j145 := all 145 (by omega) (by omega) (by omega) (by omega) (by omega)
          refine ⟨⟨a, a1, ?_, ?_, fun i hi => row_c (a4 i hi) (all _ (by omega) (by omega) (by omega) (by omega) (by omega)) (by rw [j145])⟩, m + 1, by omega, ?_, ?_, fun j hj => ?_⟩
          · rw [fin 23 (by omega) (by omega), c23 3 (by omega)]; exact a2
          · rw [f127 32 (by omega) (by omega)]; exact a3
          · rw [fin 23 (by omega) (by omega), ← hI1, zt_ws]
          · rw [← hI2, zt_ws]
          · by_cases e : j = m
            · subst e
              refine ⟨a, a1, ?_, ?_, row_eq h8 h.1.2.2.1 (fun i hi => ?_) (fun i hi => ?_), fun i hi => row_eq h8 (a4 i hi) (fun z hz => ?_) (fun z hz => ?_)⟩
              · rw [fin 93 (by omega) (by omega), ← hI1, zt_wc (by omega), zt_ws]
              · rw [J156, show 1123 * j + 66 + 1056 = 1123 * j + 1122 by omega, zt_us]
              · rw [fin _ (by omega) (by omega), ← hI1, zt_wc (by omega), zt_wc (by omega), cpi_out (by omega)]
                unfold pm_cpw va_cpy
                rw [va_up_self, if_pos (by omega)]
                congr 1
                omega
              · show I2 156 (1123 * j + i) = _
                rw [J156, zt_un (by omega), blk_out (by omega), blk_in hi]
              · rw [fin _ (by omega) (by omega), ← hI1, zt_wc (by omega), zt_wc (by omega), cpi_in hi hz]
                unfold pm_cpw
                rw [va_up_ne _ _ (by omega)]
              · show I2 156 (1123 * j + (66 + (66 * i + z))) = _
                rw [J156, zt_un (by omega), show 1123 * j + (66 + (66 * i + z)) = 1123 * j + 66 + (66 * i + z) by omega, blk_in (by omega)]
            · obtain ⟨c', d1, d2, d3, d4, d5⟩ := m4 j (by omega)
              have old : ∀ i, i < 1123 * m → I2 156 i = I 156 i := fun i hi => by rw [J156, zt_un (by omega), blk_out (by omega), blk_out (by omega)]
              refine ⟨c', d1, ?_, ?_, row_eq h8 d4 (fun i hi => ?_) (fun i hi => ?_), fun i hi => row_eq h8 (d5 i hi) (fun z hz => ?_) (fun z hz => ?_)⟩
              · rw [fin 93 (by omega) (by omega), ← hI1, zt_wc (by omega), zt_wf (by omega), cpi_out (by omega)]
                unfold pm_cpw
                rw [va_up_ne _ _ (by omega)]
                exact d2
              · rw [old _ (by omega)]; exact d3
              · rw [fin _ (by omega) (by omega), cell _ (by omega) (by omega) (by omega)]
              · exact old _ (by omega)
              · rw [fin _ (by omega) (by omega), cell _ (by omega) (by omega) (by omega)]
              · exact old _ (by omega)
        · rw [ag 0 11 (by decide) (by decide), ag 127 33 (by decide) (by decide)]; exact h.2.2.2.1
        · rw [ag 0 12 (by decide) (by decide), ag 128 0 (by decide) (by decide)]; exact h.2.2.2.2.1
        · rw [ag 0 13 (by decide) (by decide), ag 128 1 (by decide) (by decide)]; exact h.2.2.2.2.2
  · have e : m = 3 := by omega
    subst e
    refine ⟨-1, I, J, ?_, aj_refl, fun J' => ⟨pm_w I 127 0 0, ?_, R0_R (R0_t0 h)⟩⟩
    · show f168 I J = _
      unfold f168
      rw [m2, if_neg (by decide)]
    · show f324 I J' = _
      unfold f324
      rw [pm_lt_eq, zt_w2 (by omega), m3, if_pos (by decide)]
end Im
