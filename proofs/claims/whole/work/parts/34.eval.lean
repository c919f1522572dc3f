/-! A LAW'S VALUE: the stack as both have it -/
def pm_jn (k : Nat) (x y : Int32) : Int32 := if k = 8 then x + y else if k = 9 then x - y else if k = 10 then x * y else if k = 11 then (if y = 0 then 0 else x / y) else if k = 12 then pm_min x y else pm_max x y
def pm_hts (k : Nat → Nat) : Nat → Nat
  | 0 => 0
  | i + 1 => if 8 ≤ k i ∧ k i < 14 then pm_hts k i - 1 else pm_hts k i + 1
def pm_pu (pp : Nat → Int32) (k : Nat) : Int32 := if k < 14 then pp k else nI (k - 14)
def pm_stk (pp : Nat → Int32) (k : Nat → Nat) (s : Nat → Int32) : Nat → (Nat → Int32)
  | 0 => s
  | i + 1 => if 8 ≤ k i ∧ k i < 14 then upd (pm_stk pp k s i) (pm_hts k i - 2) (pm_jn (k i) (pm_stk pp k s i (pm_hts k i - 2)) (pm_stk pp k s i (pm_hts k i - 1))) else upd (pm_stk pp k s i) (pm_hts k i) (pm_pu pp (k i))
/-- codes that a text can give -/
def pm_wf (l : Nat) (k : Nat → Nat) : Prop := l ≤ 150 ∧ (∀ i, i < l → ((8 ≤ k i ∧ k i < 14) → 2 ≤ pm_hts k i) ∧ pm_hts k i ≤ 32 ∧ (¬ (8 ≤ k i ∧ k i < 14) → pm_hts k i < 32) ∧ k i < 1014) ∧ 1 ≤ pm_hts k l
def pm_cl9 (v : Int32) : Int32 := pm_max 0 (pm_min 999 v)
def pm_av (l : Nat) (k : Nat → Nat) (pp : Nat → Int32) : Int32 := pm_cl9 (pm_stk pp k (fun _ => 0) l 0)
theorem stk_irr {l : Nat} {k : Nat → Nat} {pp pq : Nat → Int32} {s t : Nat → Int32} (hw : pm_wf l k) (hp : ∀ j, j < 8 → pp j = pq j) : ∀ i, i ≤ l → ∀ j, j < pm_hts k i → pm_stk pp k s i j = pm_stk pq k t i j := by
  intro i
  induction i with
  | zero => intro _ j hj; exact absurd hj (by unfold pm_hts; omega)
  | succ i ih =>
    intro hi j hj
    have a := ih (by omega)
    obtain ⟨h1, h2, h3, h4⟩ := hw.2.1 i (by omega)
    by_cases ho : 8 ≤ k i ∧ k i < 14
    · have h5 := h1 ho
      unfold pm_hts at hj
      rw [if_pos ho] at hj
      unfold pm_stk
      rw [if_pos ho, if_pos ho, a _ (by omega), a _ (by omega)]
      unfold upd
      split
      · rfl
      · exact a j (by omega)
    · unfold pm_hts at hj
      rw [if_neg ho] at hj
      unfold pm_stk
      rw [if_neg ho, if_neg ho]
      unfold upd
      split
      · unfold pm_pu
        split
        · exact hp _ (by omega)
        · rfl
      · exact a j (by omega)
theorem av_of {l : Nat} {k : Nat → Nat} {pp pq : Nat → Int32} {s : Nat → Int32} (hw : pm_wf l k) (hp : ∀ j, j < 8 → pp j = pq j) : pm_cl9 (pm_stk pp k s l 0) = pm_av l k pq := by
  unfold pm_av
  rw [stk_irr hw hp l (Nat.le_refl l) 0 hw.2.2]
theorem av_cong {l : Nat} {k : Nat → Nat} {pp pq : Nat → Int32} (hw : pm_wf l k) (hp : ∀ j, j < 8 → pp j = pq j) : pm_av l k pp = pm_av l k pq := av_of hw hp
theorem w_up {I : Nat → Nat → Int32} {a f : Nat} {S : Nat → Int32} {x : Int32} : pm_w (va_up I a S) a f x = va_up I a (upd S f x) := by
  funext b
  unfold pm_w va_up
  split
  · rw [if_pos rfl]
  · rfl
theorem e19 {k : Nat} {x y : Int32} {I : Nat → Nat → Int32} {J : Nat → Nat → Int64} (h : 8 ≤ k ∧ k < 14) : f19 (nI k) x y I J = some (pm_jn k x y, I, J) := by
  unfold f19 pm_jn
  simp (disch := omega) only [zt_lit, zt_eq]
  split
  · rfl
  · split
    · rfl
    · split
      · rfl
      · split
        · by_cases hy : y = nI 0
          · simp only [hy, if_true]
          · simp only [hy, if_false, decide_false, Bool.not_false, zt_gd]
        · split
          · rfl
          · rfl
section E
variable {I : Nat → Nat → Int32} {J : Nat → Nat → Int64}
theorem l18 {a0 l : Nat} {k : Nat → Nat} {pp : Nat → Int32} (h12 : a0 + 2 ≠ 12) (hl : I a0 2 = nI l) (hk : ∀ i, i < l → I (a0 + 1) i = nI (k i)) (hw : pm_wf l k) (hp : ∀ j, j < 8 → I 12 j = pp j) : ∀ d i fu : Nat, i + d = l → d < fu → f18_4 a0 fu (nI (pm_hts k i)) (nI i) (va_up I (a0 + 2) (pm_stk pp k (I (a0 + 2)) i)) J = some (pm_cl9 (pm_stk pp k (I (a0 + 2)) l 0), va_up I (a0 + 2) (pm_stk pp k (I (a0 + 2)) l), J) := by
  intro d
  induction d with
  | zero =>
    intro i fu hi hf
    obtain ⟨fu, rfl⟩ : ∃ k, fu = k + 1 := ⟨fu - 1, by omega⟩
    have e : i = l := by omega
    subst e
    have hb := hw.1
    rw [f18_4, va_up_ne _ _ (show a0 ≠ a0 + 2 by omega), hl, if_neg (by rw [nI_toInt (by omega)]; omega), va_up_self, zt_lit 0, zt_at (by omega) (by omega)]
    rfl
  | succ d ih =>
    intro i fu hi hf
    obtain ⟨fu, rfl⟩ : ∃ k, fu = k + 1 := ⟨fu - 1, by omega⟩
    have hb := hw.1
    obtain ⟨h1, h2, h3, h4⟩ := hw.2.1 i (by omega)
    have m0 := va_up_ne I (pm_stk pp k (I (a0 + 2)) i) (show a0 ≠ a0 + 2 by omega)
    have m1 := va_up_ne I (pm_stk pp k (I (a0 + 2)) i) (show a0 + 1 ≠ a0 + 2 by omega)
    have m2 := va_up_self I (a0 + 2) (pm_stk pp k (I (a0 + 2)) i)
    have m3 := va_up_ne I (pm_stk pp k (I (a0 + 2)) i) (show 12 ≠ a0 + 2 by omega)
    have s := ih (i + 1) fu (by omega) (by omega)
    have hki := hk i (by omega)
    rw [f18_4]
    by_cases ho : 8 ≤ k i ∧ k i < 14
    · have h5 := h1 ho
      rw [pm_hts, pm_stk, if_pos ho, if_pos ho] at s
      simp (disch := omega) only [m0, m1, m2, m3, hl, hki, zt_lit, zt_m1, zt_lt, nI_clamp, zt_in, zt_gd, zt_mi, zt_dec, nI_add, if_pos, if_neg, e19 ho, zt_bind, pm_lt, w_up, zt_l0]
      exact s
    · have h5 := h3 ho
      rw [pm_hts, pm_stk, if_neg ho, if_neg ho] at s
      unfold pm_pu at s
      by_cases h8 : k i < 8
      · rw [if_pos (by omega)] at s
        have hpk := hp (k i) h8
        simp (disch := omega) only [m0, m1, m2, m3, hl, hki, zt_lit, zt_m1, zt_lt, nI_clamp, zt_in, zt_gd, zt_mi, zt_dec, nI_add, if_pos, if_neg, zt_bind, pm_lt, w_up, zt_l0, zt_at, hpk]
        exact s
      · rw [if_neg (by omega)] at s
        simp (disch := omega) only [m0, m1, m2, m3, hl, hki, zt_lit, zt_m1, zt_lt, nI_clamp, zt_in, zt_gd, zt_mi, zt_dec, nI_add, if_pos, if_neg, zt_bind, pm_lt, w_up, zt_l0, zt_at]
        exact s
theorem e18 {a0 l : Nat} {k : Nat → Nat} {pp : Nat → Int32} (h12 : a0 + 2 ≠ 12) (hl : I a0 2 = nI l) (hk : ∀ i, i < l → I (a0 + 1) i = nI (k i)) (hw : pm_wf l k) (hp : ∀ j, j < 8 → I 12 j = pp j) : ∃ S : Nat → Int32, f18 a0 I J = some (pm_av l k pp, va_up I (a0 + 2) S, J) := by
  refine ⟨pm_stk pp k (I (a0 + 2)) l, ?_⟩
  have h := l18 (J := J) h12 hl hk hw hp l 0 pm_FU (by omega) (by have := hw.1; unfold pm_FU; omega)
  rw [av_of hw (fun _ _ => rfl)] at h
  unfold f18
  rw [show va_up I (a0 + 2) (pm_stk pp k (I (a0 + 2)) 0) = I from va_same I (a0 + 2)] at h
  exact h
/-! the reference's -/
/-- how the reference writes a code -/
def pm_mc (k : Nat) (c o : Int32) : Prop := (k < 8 ∧ c = nI 1 ∧ o = nI k) ∨ (8 ≤ k ∧ k < 14 ∧ c = nI (k - 6)) ∨ (14 ≤ k ∧ c = nI 0 ∧ o = nI (k - 14))
theorem e270 {k : Nat} {x y : Int32} (h : 8 ≤ k ∧ k < 14) : f270 (nI (k - 6)) x y I J = some (pm_jn k x y, I, J) := by
  unfold f270 pm_jn
  have c : k = 8 ∨ k = 9 ∨ k = 10 ∨ k = 11 ∨ k = 12 ∨ k = 13 := by omega
  rcases c with rfl | rfl | rfl | rfl | rfl | rfl
  · simp (disch := omega) only [zt_lit, zt_eq, if_pos, if_neg, if_true, if_false]
  · simp (disch := omega) only [zt_lit, zt_eq, if_pos, if_neg, if_true, if_false]
  · simp (disch := omega) only [zt_lit, zt_eq, if_pos, if_neg, if_true, if_false]
  · simp (disch := omega) only [zt_lit, zt_eq, if_true, if_false, Nat.reduceSub, Nat.reduceEqDiff]
    by_cases hy : y = nI 0
    · simp only [hy, if_true]
    · simp only [hy, if_false, decide_false, Bool.not_false, zt_gd]
  · simp (disch := omega) only [zt_lit, zt_eq, if_true, if_false, Nat.reduceSub, Nat.reduceEqDiff]
    unfold pm_min
    by_cases c1 : x.toInt < y.toInt
    · rw [if_pos c1, if_neg (by omega)]
    · rw [if_neg c1]
      by_cases c2 : y.toInt < x.toInt
      · rw [if_pos c2]
      · rw [if_neg c2, show x = y from Int32.toInt_inj.mp (by omega)]
  · simp (disch := omega) only [zt_lit, zt_eq, if_true, if_false, Nat.reduceSub, Nat.reduceEqDiff]
    unfold pm_max
    by_cases c1 : x.toInt < y.toInt
    · rw [if_pos c1, if_pos c1]
    · rw [if_neg c1, if_neg c1]
theorem hts_le {l : Nat} {k : Nat → Nat} (hw : pm_wf l k) : ∀ i, i ≤ l → pm_hts k i ≤ 33 := by
  intro i hi
  cases i with
  | zero => unfold pm_hts; omega
  | succ i =>
    obtain ⟨h1, h2, h3, h4⟩ := hw.2.1 i (by omega)
    unfold pm_hts
    split <;> omega
theorem l269 {l w : Nat} {k : Nat → Nat} {pp : Nat → Int32} (h2 : w < 2) (hl : I 138 w = nI l) (hk : ∀ i, i < l → pm_mc (k i) (I 136 (150 * w + i)) (I 137 (150 * w + i))) (hw : pm_wf l k) (hp : ∀ j, j < 8 → I 140 j = pp j) : ∀ d i fu : Nat, i + d = l → d < fu → f269_8 fu (nI w) (nI (pm_hts k i)) (nI (150 * w + i)) (va_up I 139 (pm_stk pp k (I 139) i)) J = some (pm_stk pp k (I 139) l 0, va_up I 139 (pm_stk pp k (I 139) l), J) := by
  intro d
  induction d with
  | zero =>
    intro i fu hi hf
    obtain ⟨fu, rfl⟩ : ∃ k, fu = k + 1 := ⟨fu - 1, by omega⟩
    have e : i = l := by omega
    subst e
    have hb := hw.1
    rw [f269_8]
    simp (disch := omega) only [va_up_ne, va_up_self, hl, zt_lit, pk_mul, zt_lt, nI_clamp, zt_in, zt_gd, nI_add, if_neg]
  | succ d ih =>
    intro i fu hi hf
    obtain ⟨fu, rfl⟩ : ∃ k, fu = k + 1 := ⟨fu - 1, by omega⟩
    have hb := hw.1
    obtain ⟨h1, h2', h3, h4⟩ := hw.2.1 i (by omega)
    have m0 := va_up_ne I (pm_stk pp k (I 139) i) (show 138 ≠ 139 by omega)
    have m1 := va_up_ne I (pm_stk pp k (I 139) i) (show 136 ≠ 139 by omega)
    have m2 := va_up_self I 139 (pm_stk pp k (I 139) i)
    have m3 := va_up_ne I (pm_stk pp k (I 139) i) (show 137 ≠ 139 by omega)
    have m4 := va_up_ne I (pm_stk pp k (I 139) i) (show 140 ≠ 139 by omega)
    have s := ih (i + 1) fu (by omega) (by omega)
    rw [f269_8]
    rcases hk i (by omega) with ⟨c1, c2, c3⟩ | ⟨c1, c1', c2⟩ | ⟨c1, c2, c3⟩
    · have ho : ¬ (8 ≤ k i ∧ k i < 14) := by omega
      have h5 := h3 ho
      rw [pm_hts, pm_stk, if_neg ho, if_neg ho] at s
      unfold pm_pu at s
      rw [if_pos (by omega)] at s
      have hpk := hp (k i) c1
      simp (disch := omega) only [m0, m1, m2, m3, m4, hl, zt_lit, pk_mul, zt_m1, zt_lt, zt_eq, nI_clamp, zt_in, zt_gd, zt_mi, zt_dec, nI_add, if_pos, if_neg, zt_bind, pm_lt, w_up, zt_l0, c2, c3, hpk]
      exact s
    · have ho : 8 ≤ k i ∧ k i < 14 := by omega
      have h5 := h1 ho
      rw [pm_hts, pm_stk, if_pos ho, if_pos ho] at s
      simp (disch := omega) only [m0, m1, m2, m3, m4, hl, zt_lit, pk_mul, zt_m1, zt_lt, zt_eq, nI_clamp, zt_in, zt_gd, zt_mi, zt_dec, nI_add, if_pos, if_neg, zt_bind, pm_lt, w_up, zt_l0, c2, e270 ho, Nat.sub_sub]
      exact s
    · have ho : ¬ (8 ≤ k i ∧ k i < 14) := by omega
      have h5 := h3 ho
      rw [pm_hts, pm_stk, if_neg ho, if_neg ho] at s
      unfold pm_pu at s
      rw [if_neg (by omega)] at s
      simp (disch := omega) only [m0, m1, m2, m3, m4, hl, zt_lit, pk_mul, zt_m1, zt_lt, zt_eq, nI_clamp, zt_in, zt_gd, zt_mi, zt_dec, nI_add, if_pos, if_neg, zt_bind, pm_lt, w_up, zt_l0, c2, c3]
      exact s
/-- the codes of the law without a text -/
def pm_pk (i : Nat) : Nat := ([0, 66, 10, 1, 18, 10, 8] : List Nat).getD i 0
theorem wf_pk : pm_wf 7 pm_pk := by
  refine ⟨by decide, ?_, by decide⟩
  decide
theorem av_pk (pp : Nat → Int32) : pm_av 7 pm_pk pp = pm_cl9 (52 * pp 0 + 4 * pp 1) := by
  unfold pm_av
  congr 1
  simp [pm_stk, pm_pk, pm_hts, pm_jn, pm_pu, upd, zt_lit]
  rw [Int32.mul_comm (pp 0), Int32.mul_comm (pp 1)]
/-- a law of the reference -/
def pm_ML (w l : Nat) (k : Nat → Nat) (I : Nat → Nat → Int32) : Prop := (I 138 w = nI 0 ∧ l = 7 ∧ k = pm_pk) ∨ (0 < l ∧ I 138 w = nI l ∧ ∀ i, i < l → pm_mc (k i) (I 136 (150 * w + i)) (I 137 (150 * w + i)))
theorem cl9_m (v : Int32) {α : Type} (K : Int32 → α) : (if v.toInt < 0 then K (nI 0) else (if (nI 999).toInt < v.toInt then K (nI 999) else K v)) = K (pm_cl9 v) := by
  have h0 : ((0 : Int32)).toInt = 0 := by decide
  have h9 : ((999 : Int32)).toInt = 999 := by decide
  have h9' : (nI 999).toInt = 999 := by decide
  have m1 : v.toInt < 999 → pm_min 999 v = v := fun h => by unfold pm_min; rw [h9, if_pos h]
  have m2 : ¬ v.toInt < 999 → pm_min 999 v = 999 := fun h => by unfold pm_min; rw [h9, if_neg h]
  unfold pm_cl9
  rw [h9']
  by_cases a : v.toInt < 0
  · rw [if_pos a, m1 (by omega)]
    unfold pm_max
    rw [h0, if_neg (by omega)]
    rfl
  · rw [if_neg a]
    by_cases b : 999 < v.toInt
    · rw [if_pos b, m2 (by omega)]
      unfold pm_max
      rw [h0, if_pos (by rw [h9]; omega)]
      rfl
    · rw [if_neg b]
      by_cases c : v.toInt < 999
      · rw [m1 c]
        unfold pm_max
        rw [h0]
        by_cases e : 0 < v.toInt
        · rw [if_pos e]
        · rw [if_neg e, show v = 0 from Int32.toInt_inj.mp (by omega)]
      · rw [m2 c]
        unfold pm_max
        rw [h0, if_pos (by rw [h9]; omega), show v = 999 from Int32.toInt_inj.mp (by omega)]
theorem e268 {l w : Nat} {k : Nat → Nat} {pp : Nat → Int32} (h2 : w < 2) (hm : pm_ML w l k I) (hw : pm_wf l k) (hp : ∀ j, j < 8 → I 140 j = pp j) : ∃ S : Nat → Int32, f268 (nI w) I J = some (pm_av l k pp, va_up I 139 S, J) := by
  rcases hm with ⟨h0, hl, hk⟩ | ⟨h0, hl, hk⟩
  · subst hl
    subst hk
    refine ⟨I 139, ?_⟩
    rw [va_same, av_pk, ← hp 0 (by omega), ← hp 1 (by omega)]
    unfold f268
    simp (disch := omega) only [zt_lit, h0, nI_clamp, zt_in, zt_gd, zt_eq, if_pos, pm_lt]
    exact cl9_m _ (fun v => some (v, I, J))
  · refine ⟨pm_stk pp k (I 139) l, ?_⟩
    have hb := hw.1
    have h := l269 (J := J) h2 hl hk hw hp l 0 pm_FU (by omega) (by unfold pm_FU; omega)
    rw [show va_up I 139 (pm_stk pp k (I 139) 0) = I from va_same I 139] at h
    have h3 : f269 (nI w) I J = some (pm_stk pp k (I 139) l 0, va_up I 139 (pm_stk pp k (I 139) l), J) := by
      unfold f269
      rw [zt_lit 150, pk_mul]
      exact h
    unfold f268
    rw [h3]
    simp (disch := omega) only [zt_lit, hl, nI_clamp, zt_in, zt_gd, zt_eq, if_neg, zt_bind]
    refine Eq.trans (cl9_m (pm_stk pp k (I 139) l 0) (fun v => some (v, va_up I 139 (pm_stk pp k (I 139) l), J))) ?_
    show some (pm_cl9 (pm_stk pp k (I 139) l 0), va_up I 139 (pm_stk pp k (I 139) l), J) = _
    rw [av_of hw (fun _ _ => rfl)]
end E
