/-! NUMBERS AND MEMORY: what the functions below are evaluated with -/
def pm_m1 : Int32 := -1
theorem zt_m1 : -nI 1 = pm_m1 := by decide +kernel
theorem zt_m1' : (-1 : Int32) = pm_m1 := rfl
theorem zt_lit (n : Nat) : (OfNat.ofNat n : Int32) = nI n := rfl
theorem zt_gd {β : Type} {o : Option β} : pm_gd true o = o := rfl
theorem zt_gf {β : Type} {o : Option β} : pm_gd false o = none := rfl
theorem zt_in {k len : Nat} (h : k < len) (hk : k < 2 ^ 31) : pm_in (nI k) len = true := by
  unfold pm_in
  rw [nI_toInt hk]
  simp only [Bool.and_eq_true, decide_eq_true_eq]
  omega
theorem zt_lt {a b : Nat} (ha : a < 2 ^ 31) (hb : b < 2 ^ 31) : ((nI a).toInt < (nI b).toInt) = (a < b) := by
  rw [nI_toInt ha, nI_toInt hb]
  exact propext (by omega)
theorem zt_lt0 {a : Nat} (ha : a < 2 ^ 31) : (0 < (nI a).toInt) = (0 < a) := by
  rw [nI_toInt ha]
  exact propext (by omega)
theorem zt_l0 {a : Nat} (ha : a < 2 ^ 31) : ((nI a).toInt < 0) = False := by
  rw [nI_toInt ha]
  exact propext ⟨fun h => by omega, False.elim⟩
theorem zt_m1i : pm_m1.toInt = -1 := by decide +kernel
theorem zt_eq {a b : Nat} (ha : a < 2 ^ 31) (hb : b < 2 ^ 31) : (nI a = nI b) = (a = b) := propext (nI_eq ha hb)
theorem zt_eqm {a : Nat} (ha : a < 2 ^ 31) : (nI a = pm_m1) = False := by
  refine propext ⟨fun h => ?_, False.elim⟩
  have h2 := congrArg Int32.toInt h
  rw [nI_toInt ha, zt_m1i] at h2
  omega
theorem zt_eqm' {a : Nat} (ha : a < 2 ^ 31) : (pm_m1 = nI a) = False := by
  exact propext ⟨fun h => by rw [← zt_eqm ha]; exact h.symm, False.elim⟩
theorem zt_dec {a : Nat} (h : 0 < a) : nI a + pm_m1 = nI (a - 1) := by
  obtain ⟨b, rfl⟩ : ∃ b, a = b + 1 := ⟨a - 1, by omega⟩
  exact pk_m1 b
theorem zt_mi {a b : Nat} (h : b ≤ a) : nI a - nI b = nI (a - b) := pk_sub h
theorem zt_i0 {x : Int32} (h : ¬ x.toInt < 0) : ∃ j : Nat, j < 2 ^ 31 ∧ x = nI j := nI_of (fun h2 => h (by rw [Int32.lt_iff_toInt_lt] at h2; exact h2))
theorem zt_ix (x : Int32) : x.toInt < 0 ∨ ∃ j : Nat, j < 2 ^ 31 ∧ x = nI j := by
  by_cases h : x.toInt < 0
  · exact Or.inl h
  · exact Or.inr (zt_i0 h)
theorem zt_at {f : Nat → Int32} {len k : Nat} (h : k < len) (hl : k < 2 ^ 31) : pm_at f len (nI k) = f k := by
  unfold pm_at
  rw [nI_toInt hl, if_pos (by omega), nI_clamp hl]
theorem zt_atn {f : Nat → Int32} {len : Nat} {x : Int32} (h : x.toInt < 0) : pm_at f len x = 0 := by
  unfold pm_at
  rw [if_neg (by omega)]
theorem zt_ato {f : Nat → Int32} {len k : Nat} (h : len ≤ k) (hl : k < 2 ^ 31) : pm_at f len (nI k) = 0 := by
  unfold pm_at
  rw [nI_toInt hl, if_neg (by omega)]
theorem zt_pw {I : Nat → Nat → Int32} {a len k : Nat} {x : Int32} (h : k < len) (hl : k < 2 ^ 31) : pm_pw I a len (nI k) x = pm_w I a k x := by
  unfold pm_pw pm_w pm_put
  rw [nI_toInt hl, if_pos (by omega), nI_clamp hl]
theorem zt_pwn {I : Nat → Nat → Int32} {a len : Nat} {i x : Int32} (h : i.toInt < 0) : pm_pw I a len i x = I := by
  unfold pm_pw pm_put
  rw [if_neg (by omega), va_same]
theorem zt_pwo {I : Nat → Nat → Int32} {a len k : Nat} {x : Int32} (h : len ≤ k) (hl : k < 2 ^ 31) : pm_pw I a len (nI k) x = I := by
  unfold pm_pw pm_put
  rw [nI_toInt hl, if_neg (by omega), va_same]
theorem zt_sg {w : Nat → Int32} {f p : Nat} (hf : f < 8) (hp : p < 8) : pm_sget w (nI f) (nI p) = w (f * 8 + p) := by
  unfold pm_sget
  rw [nI_toInt (by omega), if_pos (by omega), zt_lit 8, pk_mul, nI_add, zt_at (by omega) (by omega)]
theorem zt_ss {I : Nat → Nat → Int32} {f p : Nat} {x : Int32} (hf : f < 8) (hp : p < 8) : pm_sset I (nI f) (nI p) x = pm_w I 5 (f * 8 + p) x := by
  unfold pm_sset
  rw [nI_toInt (by omega), if_pos (by omega), zt_lit 8, pk_mul, nI_add, zt_pw (by omega) (by omega)]
theorem zt_ws {I : Nat → Nat → Int32} {a f : Nat} {x : Int32} : pm_w I a f x a f = x := by simp [pm_w, va_up, upd]
theorem zt_wc {I : Nat → Nat → Int32} {a b f : Nat} {x : Int32} (h : b ≠ a) : pm_w I a f x b = I b := by simp [pm_w, va_up, h]
theorem zt_wf {I : Nat → Nat → Int32} {a f g : Nat} {x : Int32} (h : g ≠ f) : pm_w I a f x a g = I a g := by simp [pm_w, va_up, upd, h]
theorem zt_wr {I : Nat → Nat → Int32} {a f : Nat} {x : Int32} : pm_w I a f x a = upd (I a) f x := by simp [pm_w, va_up]
theorem zt_us {w : Nat → Int32} {f : Nat} {x : Int32} : upd w f x f = x := by simp [upd]
theorem zt_un {w : Nat → Int32} {f g : Nat} {x : Int32} (h : g ≠ f) : upd w f x g = w g := by simp [upd, h]
theorem zt_bind {α β : Type} {a : α} {k : α → Option β} : (some a).bind k = k a := rfl
theorem zt_xl {α β : Type} {v : α} {I : Nat → Nat → Int32} {J : Nat → Nat → Int64} {k : α → (Nat → Nat → Int32) → (Nat → Nat → Int64) → Option ((β ⊕ Nat) × (Nat → Nat → Int32) × (Nat → Nat → Int64))} : pm_xb (some (.inl v, I, J)) k = k v I J := rfl
theorem zt_xr {α β : Type} {t : Nat} {I : Nat → Nat → Int32} {J : Nat → Nat → Int64} {k : α → (Nat → Nat → Int32) → (Nat → Nat → Int64) → Option ((β ⊕ Nat) × (Nat → Nat → Int32) × (Nat → Nat → Int64))} : pm_xb (some (.inr t, I, J)) k = some (.inr t, I, J) := rfl
/-- how many of the first n are such -/
def pm_cnt (P : Nat → Bool) : Nat → Nat
  | 0 => 0
  | n + 1 => pm_cnt P n + (if P n = true then 1 else 0)
theorem cn_le (P : Nat → Bool) : ∀ n, pm_cnt P n ≤ n
  | 0 => Nat.le_refl 0
  | n + 1 => by
    have := cn_le P n
    unfold pm_cnt
    split <;> omega
theorem cn_cong {P Q : Nat → Bool} : ∀ {n : Nat}, (∀ i, i < n → P i = Q i) → pm_cnt P n = pm_cnt Q n
  | 0, _ => rfl
  | n + 1, h => by
    unfold pm_cnt
    rw [cn_cong (fun i hi => h i (by omega)), h n (by omega)]
theorem cn_mono (P : Nat → Bool) {a b : Nat} (h : a ≤ b) : pm_cnt P a ≤ pm_cnt P b := by
  induction b with
  | zero => rw [Nat.le_zero.mp h]; exact Nat.le_refl _
  | succ b ih =>
    rcases Nat.lt_or_ge a (b + 1) with h2 | h2
    · exact Nat.le_trans (ih (by omega)) (by rw [pm_cnt]; omega)
    · rw [Nat.le_antisymm h h2]; exact Nat.le_refl _
theorem cn_zero {P : Nat → Bool} : ∀ {n : Nat}, pm_cnt P n = 0 → ∀ i, i < n → P i = false
  | 0, _, i, hi => by omega
  | n + 1, h, i, hi => by
    unfold pm_cnt at h
    by_cases e : i = n
    · subst e
      by_cases hp : P i = true
      · rw [if_pos hp] at h; omega
      · exact Bool.eq_false_iff.mpr hp
    · exact cn_zero (n := n) (by omega) i (by omega)
theorem cn_none {P : Nat → Bool} {n : Nat} (h : ∀ i, i < n → P i = false) : pm_cnt P n = 0 := by
  induction n with
  | zero => rfl
  | succ n ih => unfold pm_cnt; rw [ih (fun i hi => h i (by omega)), h n (by omega)]; rfl
/-- cells and fields that must stay -/
def pm_okA (p : List Nat) (pf : List (Nat × Nat)) (A : List Nat) (F : List (Nat × Nat)) : Bool := A.all (fun a => !p.contains a && !(pf.map (fun q => q.1)).contains a) && F.all (fun q => !p.contains q.1 && !pf.contains q)
theorem ag_p {p A : List Nat} {pf F : List (Nat × Nat)} {I I' : Nat → Nat → Int32} (h : pm_okA p pf A F = true) (g : pm_ag A F I I') : (∀ a, a ∈ p → I' a = I a) ∧ (∀ a f, (a, f) ∈ pf → I' a f = I a f) := by
  unfold pm_okA at h
  rw [Bool.and_eq_true, List.all_eq_true, List.all_eq_true] at h
  obtain ⟨h1, h2⟩ := h
  constructor
  · intro a ha
    refine ag_cell g (fun hA => ?_) (fun f hF => ?_)
    · have := h1 a hA
      simp [ha] at this
    · have := h2 (a, f) hF
      simp [ha] at this
  · intro a f haf
    refine g a f (fun hA => ?_) (fun hF => ?_)
    · have := h1 a hA
      simp at this
      exact this.2 f haf
    · have := h2 (a, f) hF
      simp [haf] at this
