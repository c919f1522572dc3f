/-! WORDS: what stands at a place -/
def pm_wle (c : Nat → Nat) (L i : Nat) : Nat := pm_rn c L 3 (L - i) i - i
def pm_wN (c : Nat → Nat) (i : Nat) : Nat → Nat
  | 0 => 0
  | n + 1 => 32 * pm_wN c i n + (c (i + n) - 96)
def pm_wv (c : Nat → Nat) (L i : Nat) : Nat := if 6 < pm_wle c L i then 0 else pm_wN c i (pm_wle c L i)
/-- the word is the text s -/
def pm_wq (c : Nat → Nat) (L i s : Nat) : Prop := pm_wle c L i = pm_tl (s + 2) ∧ ∀ j, j < pm_tl (s + 2) → c (i + j) = pm_tc (s + 2) j
/-- the texts that are words -/
def pm_wS (s : Nat) : Prop := 0 < pm_tl (s + 2) ∧ pm_tl (s + 2) ≤ 7 ∧ ∀ j, j < pm_tl (s + 2) → 97 ≤ pm_tc (s + 2) j ∧ pm_tc (s + 2) j ≤ 122
theorem kd_3 {c : Nat → Nat} {L i : Nat} : pm_kd c L i = 3 ↔ (i < L ∧ 97 ≤ c i ∧ c i ≤ 122) := by
  unfold pm_kd
  constructor
  · intro h
    by_cases a : i < L
    · rw [if_pos a] at h
      by_cases q : 48 ≤ c i ∧ c i ≤ 57
      · rw [if_pos q] at h; omega
      · rw [if_neg q] at h
        by_cases w : 97 ≤ c i ∧ c i ≤ 122
        · exact ⟨a, w⟩
        · rw [if_neg w] at h; omega
    · rw [if_neg a] at h; omega
  · intro h
    rw [if_pos h.1, if_neg (by omega), if_pos h.2]
theorem rn_at (c : Nat → Nat) (L K : Nat) : ∀ d i, (∀ j, i ≤ j → j < pm_rn c L K d i → pm_kd c L j = K) ∧ (pm_rn c L K d i < i + d → pm_kd c L (pm_rn c L K d i) ≠ K)
  | 0, i => by
    rw [pm_rn]
    exact ⟨fun j h1 h2 => by omega, fun h => by omega⟩
  | d + 1, i => by
    rw [pm_rn]
    by_cases q : pm_kd c L i = K
    · rw [if_pos q]
      obtain ⟨h1, h2⟩ := rn_at c L K d (i + 1)
      refine ⟨fun j a b => ?_, fun h => h2 (by omega)⟩
      by_cases e : j = i
      · rw [e]; exact q
      · exact h1 j (by omega) b
    · rw [if_neg q]
      exact ⟨fun j h1 h2 => by omega, fun _ => q⟩
/-- the run of letters, by what stands there -/
theorem wl_at {c : Nat → Nat} {L i n : Nat} (hi : i ≤ L) : pm_wle c L i = n ↔ ((∀ j, j < n → pm_kd c L (i + j) = 3) ∧ pm_kd c L (i + n) ≠ 3) := by
  have hb := rn_b c L 3 (L - i) i
  obtain ⟨h1, h2⟩ := rn_at c L 3 (L - i) i
  have hend : pm_kd c L (pm_rn c L 3 (L - i) i) ≠ 3 := by
    by_cases q : pm_rn c L 3 (L - i) i < L
    · exact h2 (by omega)
    · intro w
      have := (kd_3.mp w).1
      omega
  unfold pm_wle
  constructor
  · intro h
    refine ⟨fun j hj => h1 (i + j) (by omega) (by omega), ?_⟩
    rw [show i + n = pm_rn c L 3 (L - i) i by omega]
    exact hend
  · rintro ⟨a, b⟩
    by_cases q : pm_rn c L 3 (L - i) i - i < n
    · have := a (pm_rn c L 3 (L - i) i - i) q
      rw [show i + (pm_rn c L 3 (L - i) i - i) = pm_rn c L 3 (L - i) i by omega] at this
      exact absurd this hend
    · by_cases q2 : n < pm_rn c L 3 (L - i) i - i
      · exact absurd (h1 (i + n) (by omega) (by omega)) b
      · omega
theorem wN_inj (a b : Nat → Nat) (i k : Nat) : ∀ n m, (∀ j, j < n → 97 ≤ a (i + j) ∧ a (i + j) ≤ 122) → (∀ j, j < m → 97 ≤ b (k + j) ∧ b (k + j) ≤ 122) → pm_wN a i n = pm_wN b k m → n = m ∧ ∀ j, j < n → a (i + j) = b (k + j)
  | 0, 0, _, _, _ => ⟨rfl, fun j hj => by omega⟩
  | 0, m + 1, _, hb, h => by
    have := hb m (by omega)
    rw [pm_wN, pm_wN] at h
    omega
  | n + 1, 0, ha, _, h => by
    have := ha n (by omega)
    rw [pm_wN, pm_wN] at h
    omega
  | n + 1, m + 1, ha, hb, h => by
    have x1 := ha n (by omega)
    have x2 := hb m (by omega)
    rw [pm_wN, pm_wN] at h
    obtain ⟨e1, e2⟩ := wN_inj a b i k n m (fun j hj => ha j (by omega)) (fun j hj => hb j (by omega)) (by omega)
    refine ⟨by omega, fun j hj => ?_⟩
    by_cases q : j = n
    · subst q
      subst e1
      omega
    · exact e2 j (by omega)
theorem wN_b (a : Nat → Nat) (i : Nat) : ∀ n, (∀ j, j < n → a (i + j) ≤ 122) → pm_wN a i n < 32 ^ n
  | 0, _ => by rw [pm_wN]; omega
  | n + 1, h => by
    have := wN_b a i n (fun j hj => h j (by omega))
    have := h n (by omega)
    rw [pm_wN, Nat.pow_succ]
    omega
theorem wN_p (a : Nat → Nat) (i n : Nat) (hn : 0 < n) (h : ∀ j, j < n → 97 ≤ a (i + j)) : 0 < pm_wN a i n := by
  obtain ⟨m, rfl⟩ : ∃ m, n = m + 1 := ⟨n - 1, by omega⟩
  have := h m (by omega)
  rw [pm_wN]
  omega
theorem sh_5 {v d : Nat} (hv : v < 2 ^ 25) (hd : d < 32) : (nI v <<< ((5 : Int32) &&& 31)) ||| nI d = nI (32 * v + d) := by
  have h5 : ((5 : Int32) &&& 31) = 5 := by decide +kernel
  rw [h5]
  apply Int32.toBitVec_inj.mp
  apply BitVec.eq_of_toNat_eq
  have e1 : (nI v <<< (5 : Int32) ||| nI d).toBitVec = (BitVec.ofNat 32 v <<< (5 : Nat)) ||| BitVec.ofNat 32 d := rfl
  have e2 : (nI (32 * v + d)).toBitVec = BitVec.ofNat 32 (32 * v + d) := rfl
  rw [e1, e2, BitVec.toNat_or, BitVec.toNat_shiftLeft, BitVec.toNat_ofNat, BitVec.toNat_ofNat, BitVec.toNat_ofNat, Nat.mod_eq_of_lt (show v < 2 ^ 32 by omega), Nat.mod_eq_of_lt (show d < 2 ^ 32 by omega), Nat.mod_eq_of_lt (show 32 * v + d < 2 ^ 32 by omega)]
  have h6 : v <<< 5 = 32 * v := by rw [Nat.shiftLeft_eq]; omega
  rw [Nat.mod_eq_of_lt (show v <<< 5 < 2 ^ 32 by omega), ← Nat.shiftLeft_add_eq_or_of_lt (by omega), h6]
section Wo
variable {I : Nat → Nat → Int32} {J : Nat → Nat → Int64}
/-- the class's test -/
theorem e132x {k p s : Nat} (h : pm_CX k p I) : f132 s I J = some (false, I, J) := by
  unfold f132
  rw [h.1, if_neg (by decide)]
theorem l132 {c : Nat → Nat} {L i s : Nat} (h : pm_CF c L i I) (hl : i + pm_tl (s + 2) ≤ L) : ∀ d j fu : Nat, j + d = pm_tl (s + 2) → d < fu → (∀ q, q < j → c (i + q) = pm_tc (s + 2) q) → ((∀ q, q < pm_tl (s + 2) → c (i + q) = pm_tc (s + 2) q) → f132_28 s fu (nI j) I J = some (true, I, J)) ∧ (¬ (∀ q, q < pm_tl (s + 2) → c (i + q) = pm_tc (s + 2) q) → f132_28 s fu (nI j) I J = some (false, I, J)) := by
  intro d
  have hL := h.1.2.1
  induction d with
  | zero =>
    intro j fu hj hf hq
    obtain ⟨fu, rfl⟩ : ∃ k, fu = k + 1 := ⟨fu - 1, by omega⟩
    rw [f132_28, nI_toInt (by omega), nI_toInt (by omega), if_neg (by omega)]
    exact ⟨fun _ => rfl, fun w => absurd (fun q hq2 => hq q (by omega)) w⟩
  | succ d ih =>
    intro j fu hj hf hq
    obtain ⟨fu, rfl⟩ : ∃ k, fu = k + 1 := ⟨fu - 1, by omega⟩
    have cb := (h.1.2.2 (i + j) (by omega)).1
    have tb := pm_tc_lt' (s + 2) j
    rw [f132_28, nI_toInt (by omega), nI_toInt (by omega), if_pos (by omega), zt_in (by omega) (by omega), zt_gd, h.2.1.2.1, nI_add, v129n h.1 (by omega), if_pos (show i + j < L by omega), nI_clamp (by omega), nI_1]
    by_cases w : c (i + j) = pm_tc (s + 2) j
    · rw [if_pos (by rw [w])]
      exact ih (j + 1) fu (by omega) (by omega) (fun q hq2 => by
        by_cases e : q = j
        · rw [e]; exact w
        · exact hq q (by omega))
    · rw [if_neg (by rw [zt_eq (by omega) (by omega)]; exact w)]
      exact ⟨fun a => absurd (a j (by omega)) w, fun _ => rfl⟩
theorem e132 {c : Nat → Nat} {L i s : Nat} (h : pm_CF c L i I) (hi : i ≤ L) (ht : 0 < pm_tl (s + 2)) : (pm_wq c L i s → f132 s I J = some (true, I, J)) ∧ (¬ pm_wq c L i s → f132 s I J = some (false, I, J)) := by
  obtain ⟨p3, p4, p5, p6⟩ := h.2.1
  have kc := kd_c c L i
  have hL := h.1.2.1
  have hb := rn_b c L 3 (L - i) i
  unfold f132 pm_wq
  by_cases k : pm_kd c L i = 3
  · have es : pm_stp c L i = pm_rn c L 3 (L - i) i := by unfold pm_stp; rw [k, if_neg (by decide), if_neg (by decide)]
    have tb := pm_tl_lt (s + 2)
    rw [p3, k, if_pos (by rfl), p5, p4, es, zt_mi (by omega)]
    by_cases w : pm_wle c L i = pm_tl (s + 2)
    · rw [if_pos (show nI (pm_rn c L 3 (L - i) i - i) = nI (pm_tl (s + 2)) by rw [← w]; rfl)]
      unfold pm_wle at w
      have g := l132 (J := J) (s := s) h (by omega) (pm_tl (s + 2)) 0 pm_FU (by omega) (by unfold pm_FU; omega) (fun q hq => by omega)
      rw [nI_0] at g
      exact ⟨fun a => g.1 a.2, fun a => g.2 (fun b => a ⟨w, b⟩)⟩
    · rw [if_neg (show ¬ nI (pm_rn c L 3 (L - i) i - i) = nI (pm_tl (s + 2)) by rw [zt_eq (by omega) (by omega)]; exact w)]
      exact ⟨fun a => absurd a.1 w, fun _ => rfl⟩
  · rw [p3, if_neg (by rw [zt_lit 3, zt_eq (by omega) (by omega)]; exact k)]
    refine ⟨fun a => ?_, fun _ => rfl⟩
    have := ((wl_at hi).mp a.1).1 0 ht
    exact absurd this k
/-- the reference's letters -/
theorem v228n {c : Nat → Nat} {L i : Nat} (hi : i < L) (hc : c i < 256) : v228 (nI (c i)) I = decide (pm_kd c L i = 3) := by
  have i97 : ((97 : Int32)).toInt = 97 := by decide
  have i122 : ((122 : Int32)).toInt = 122 := by decide
  have k := kd_3 (c := c) (L := L) (i := i)
  unfold v228
  rw [nI_toInt (by omega), i97, i122]
  by_cases a : c i < 97
  · rw [if_pos (by omega), decide_eq_false (by omega)]
  · rw [if_neg (by omega)]
    by_cases b : 122 < c i
    · rw [if_pos (by omega), decide_eq_false (by omega)]
    · rw [if_neg (by omega), decide_eq_true (by omega)]
end Wo
