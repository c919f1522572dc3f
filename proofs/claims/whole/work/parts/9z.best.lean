/-! BEST: the units are as they should be -/
theorem kP_s {D : Nat → Nat → Nat} {a b : Nat} (h : pm_kP D a b = true) : pm_kP D b a = true := by
  unfold pm_kP at h ⊢
  simp only [Bool.and_eq_true, decide_eq_true_eq] at h ⊢
  exact ⟨⟨fun e => h.1.1 e.symm, by rw [h.2]; exact h.1.2⟩, h.2.symm⟩
theorem kP_t {D : Nat → Nat → Nat} {a b c : Nat} (h1 : pm_kP D a b = true) (h2 : pm_kP D b c = true) (hn : c ≠ a) : pm_kP D a c = true := by
  unfold pm_kP at h1 h2 ⊢
  simp only [Bool.and_eq_true, decide_eq_true_eq] at h1 h2 ⊢
  exact ⟨⟨hn, h1.1.2⟩, by rw [h2.2, h1.2]⟩
theorem ut_f {D : Nat → Nat → Nat} {w : Nat → Int32} {q p : Nat} (hq : q < p) : ∀ d, (pm_ut D w (p + d)).1 q = (pm_ut D w p).1 q
  | 0 => rfl
  | d + 1 => by rw [show p + (d + 1) = (p + d) + 1 by omega, ut_st (p + d) (by omega), ut_f hq d]
theorem ut_k {D : Nat → Nat → Nat} {w : Nat → Int32} : ∀ N p q, p < N → q < p → pm_ash w p = true → pm_ash w q = true → pm_kP D q p = true → (pm_ut D w (p + 1)).1 p = (pm_ut D w p).1 q := by
  intro N
  induction N with
  | zero => intro p q h; omega
  | succ N ih =>
    intro p q hp hq ap aq hk
    cases e : pm_fko D w p p 0 with
    | none =>
      have := fk_n p 0 e q (by omega) (by omega) aq
      rw [kP_s hk] at this
      cases this
    | some o =>
      obtain ⟨_, o2, o3, o4⟩ := fk_s p 0 o e
      have e1 : (pm_ut D w (p + 1)).1 p = (pm_ut D w p).1 o := by rw [pm_ut, if_pos ap, e]; exact if_pos rfl
      rw [e1]
      rcases Nat.lt_trichotomy o q with z | z | z
      · have := ih q o (by omega) z aq o4 (kP_t (kP_s o3) (kP_s hk) (by omega))
        have a1 := ut_f (D := D) (w := w) z (p - q)
        have a2 := ut_f (D := D) (w := w) (show q < q + 1 by omega) (p - (q + 1))
        rw [show q + (p - q) = p by omega] at a1
        rw [show q + 1 + (p - (q + 1)) = p by omega] at a2
        rw [a1, a2, this]
      · rw [z]
      · have := ih o q (by omega) z o4 aq (kP_t hk o3 (by omega))
        have a1 := ut_f (D := D) (w := w) z (p - o)
        have a2 := ut_f (D := D) (w := w) (show o < o + 1 by omega) (p - (o + 1))
        rw [show o + (p - o) = p by omega] at a1
        rw [show o + 1 + (p - (o + 1)) = p by omega] at a2
        rw [a1, a2, this]
theorem ut_Uk (D : Nat → Nat → Nat) (w : Nat → Int32) (n : Nat) : pm_Uk D w n (fun p => (pm_ut D w p).2) (fun q => (pm_ut D w n).1 q) := by
  intro p hp
  dsimp only
  have fin : ∀ q, q < p → (pm_ut D w n).1 q = (pm_ut D w p).1 q := fun q hq => by
    have := ut_f (D := D) (w := w) hq (n - p)
    rw [show p + (n - p) = n by omega] at this
    exact this
  have finp : (pm_ut D w n).1 p = (pm_ut D w (p + 1)).1 p := by
    have := ut_f (D := D) (w := w) (show p < p + 1 by omega) (n - (p + 1))
    rw [show p + 1 + (n - (p + 1)) = n by omega] at this
    exact this
  by_cases a : pm_ash w p = true
  · cases e : pm_fko D w p p 0 with
    | some o =>
      obtain ⟨_, o2, o3, o4⟩ := fk_s p 0 o e
      have e1 : (pm_ut D w (p + 1)).1 p = (pm_ut D w p).1 o := by rw [pm_ut, if_pos a, e]; exact if_pos rfl
      have e2 : (pm_ut D w (p + 1)).2 = (pm_ut D w p).2 := by rw [pm_ut, if_pos a, e]
      refine .inr (.inl ⟨a, ?_, e2, ⟨o, by omega, by rw [kP_s o3, o4]; rfl⟩, fun q hq hk => ?_⟩)
      · rw [finp, e1]
        exact (ut_lt (D := D) (w := w) p).2 o (by omega) o4
      · rw [Bool.and_eq_true] at hk
        rw [finp, fin q hq, ut_k (p + 1) p q (by omega) hq a hk.2 hk.1]
    | none =>
      have e1 : (pm_ut D w (p + 1)).1 p = (pm_ut D w p).2 := by rw [pm_ut, if_pos a, e]; exact if_pos rfl
      have e2 : (pm_ut D w (p + 1)).2 = (pm_ut D w p).2 + 1 := by rw [pm_ut, if_pos a, e]
      refine .inr (.inr ⟨a, by rw [finp, e1], e2, fun q hq => ?_⟩)
      by_cases aq : pm_ash w q = true
      · have := fk_n p 0 e q (by omega) (by omega) aq
        rw [aq, Bool.and_true]
        refine Bool.eq_false_iff.mpr (fun z => ?_)
        rw [kP_s z] at this
        cases this
      · rw [Bool.eq_false_iff.mpr aq, Bool.and_false]
  · exact .inl ⟨Bool.eq_false_iff.mpr a, by rw [pm_ut, if_neg a]⟩
theorem su_rs {f : Nat → Nat} : ∀ d p, pm_su f p + pm_rsm f d p = pm_su f (p + d)
  | 0, p => rfl
  | d + 1, p => by
    have := su_rs (f := f) d (p + 1)
    rw [pm_su] at this
    rw [pm_rsm, show p + (d + 1) = p + 1 + d by omega, ← this]
    omega
theorem su_z {f : Nat → Nat} {n : Nat} (h : ∀ q, q < n → f q = 0) : pm_su f n = 0 := by
  rw [su_cong (g := fun _ => 0) h]
  exact su_0
/-- a sum over the members of a unit that begins at p -/
theorem su_new {w : Nat → Int32} {un uc : Nat → Nat} {D : Nat → Nat → Nat} {n p d : Nat} {g : Nat → Nat} (hU : pm_Uk D w n uc un) (hp : p + 1 + d = n) (ha : pm_ash w p = true) (hu : un p = uc p) : pm_su (fun q => if (pm_ash w q && decide (un q = uc p)) = true then g q else 0) n = g p + pm_rsm (fun q => if pm_ash w q = true ∧ un q = uc p then g q else 0) d (p + 1) := by
  have e := su_rs (f := fun q => if (pm_ash w q && decide (un q = uc p)) = true then g q else 0) (d + 1) p
  rw [show p + (d + 1) = n by omega, pm_rsm, su_z (n := p) (fun q hq => ?_), Nat.zero_add] at e
  · rw [← e, ha, hu]
    congr 1
    · rw [Bool.true_and, if_pos (decide_eq_true rfl)]
    · refine rsm_c d (p + 1) (fun q _ _ => ?_)
      by_cases aq : pm_ash w q = true
      · by_cases uq : un q = uc p
        · rw [if_pos (c := pm_ash w q = true ∧ un q = uc p) ⟨aq, uq⟩, aq, decide_eq_true uq]; rfl
        · rw [if_neg (c := pm_ash w q = true ∧ un q = uc p) (fun s => uq s.2), aq, decide_eq_false uq]; rfl
      · rw [if_neg (c := pm_ash w q = true ∧ un q = uc p) (fun s => aq s.1), Bool.eq_false_iff.mpr aq]; rfl
  · by_cases aq : pm_ash w q = true
    · have := Uk_lt hU q p hq (by omega) aq
      rw [aq, decide_eq_false (by omega)]; rfl
    · rw [Bool.eq_false_iff.mpr aq]; rfl
/-- the reference's best is the units' best -/
theorem Sg_ut {D : Nat → Nat → Nat} {w : Nat → Int32} {t n T : Nat} {g : Nat → Nat → Nat} {x ch y : Nat → Nat} (hB : pm_Bw t (pm_uz D w n) (pm_ug D w g n) (pm_ut D w n).2 0 x = some (T, y)) : ∃ v, pm_Sg D w t g n 0 x ch = some (T, v) ∧ ∀ q, q < n → v q = if pm_ash w q = true then y ((pm_ut D w n).1 q) else 0 := by
  have hU := ut_Uk D w n
  have s := Sg_B (t := t) (g := g) (sz := pm_uz D w n) (gn := pm_ug D w g n) hU (fun p d hp ha hu => by
    have := su_new (g := fun _ => 1) hU hp ha hu
    rw [su_cnt] at this
    exact this) (fun p d b hp ha hu hb => su_new (g := fun q => g q b) hU hp ha hu) n 0 x ch (fun _ => 0) (by omega) (fun q hq => by omega) (fun _ _ => rfl) (fun _ => Nat.zero_le _)
  have e1 : ∀ b, pm_pdw w (fun q => (pm_ut D w n).1 q) (fun _ => 0) n 0 b = 0 := fun b => by
    have := su_rs (f := fun q => if pm_ash w q = true ∧ 0 = b + 1 then 1 else 0) n 0
    rw [su_z (n := 0 + n) (fun q _ => if_neg (fun s => by omega))] at this
    have e : pm_pdw w (fun q => (pm_ut D w n).1 q) (fun _ => 0) n 0 b = pm_rsm (fun q => if pm_ash w q = true ∧ 0 = b + 1 then 1 else 0) n 0 := rfl
    omega
  have e2 : pm_pg w (fun q => (pm_ut D w n).1 q) g (fun _ => 0) n 0 = 0 := by
    have := su_rs (f := fun q => if pm_ash w q = true ∧ (0 : Nat) ≠ 0 then g q (0 - 1) else 0) n 0
    rw [su_z (n := 0 + n) (fun q _ => if_neg (fun s => s.2 rfl))] at this
    have e : pm_pg w (fun q => (pm_ut D w n).1 q) g (fun _ => 0) n 0 = pm_rsm (fun q => if pm_ash w q = true ∧ (0 : Nat) ≠ 0 then g q (0 - 1) else 0) n 0 := rfl
    omega
  simp only [e1, e2, Nat.sub_zero] at s
  rw [if_pos (fun b _ => Nat.zero_le _), show (pm_ut D w 0).2 = 0 from rfl, Nat.sub_zero, hB] at s
  cases h : pm_Sg D w t g n 0 x ch with
  | none => rw [h] at s; exact s.elim
  | some v =>
    rw [h] at s
    refine ⟨v.2, ?_, fun q hq => ?_⟩
    · have := s.1
      rw [Nat.zero_add] at this
      dsimp only at this
      rw [← this]
    · rw [s.2 q hq]
      unfold pm_cwy
      rw [if_neg (by omega)]
      by_cases a : pm_ash w q = true
      · rw [if_pos a, if_pos a, if_neg (by omega)]
      · rw [if_neg a, if_neg a]
theorem cn_e1 {x : Nat} : ∀ n, x < n → pm_cnt (fun w => decide (x = w)) n = 1
  | 0, h => by omega
  | n + 1, h => by
    rw [pm_cnt]
    by_cases e : x = n
    · subst e
      rw [cn_none (fun i hi => decide_eq_false (by omega)), if_pos (decide_eq_true rfl)]
    · rw [cn_e1 n (by omega), if_neg (by rw [decide_eq_false e]; decide)]
theorem szs_u (sz : Nat → Nat) : ∀ k, pm_szs sz 0 k = pm_su sz k
  | 0 => rfl
  | k + 1 => by rw [szs_s, szs_u sz k, Nat.zero_add, pm_su]
/-- all who are ashore are of one unit -/
theorem uz_all {D : Nat → Nat → Nat} {w : Nat → Int32} {n : Nat} : pm_szs (pm_uz D w n) 0 (pm_ut D w n).2 = pm_cnt (fun p => pm_ash w p) n := by
  rw [szs_u]
  have e := su_swap (Q := fun u q => pm_ash w q && decide ((pm_ut D w n).1 q = u)) (n := n) (m := (pm_ut D w n).2)
  have e0 : pm_su (pm_uz D w n) (pm_ut D w n).2 = pm_su (fun i => pm_cnt (fun j => pm_ash w j && decide ((pm_ut D w n).1 j = i)) n) (pm_ut D w n).2 := rfl
  rw [e0, e, ← su_cnt]
  refine su_cong (fun q hq => ?_)
  by_cases a : pm_ash w q = true
  · rw [if_pos a, a]
    simp only [Bool.true_and]
    exact cn_e1 _ ((ut_lt (D := D) (w := w) n).2 q hq a)
  · rw [if_neg a]
    exact cn_none (fun i _ => by rw [Bool.eq_false_iff.mpr a, Bool.false_and])
/-- each unit has one at least -/
theorem uz_1 {D : Nat → Nat → Nat} {w : Nat → Int32} : ∀ n u, u < (pm_ut D w n).2 → 1 ≤ pm_uz D w n u
  | 0, u, h => by have : (pm_ut D w 0).2 = 0 := rfl; omega
  | n + 1, u, h => by
    rw [uz_s]
    by_cases a : pm_ash w n = true
    · cases e : pm_fko D w n n 0 with
      | some o =>
        have e2 : (pm_ut D w (n + 1)).2 = (pm_ut D w n).2 := by rw [pm_ut, if_pos a, e]
        have := uz_1 (D := D) (w := w) n u (by omega)
        omega
      | none =>
        have e1 : (pm_ut D w (n + 1)).1 n = (pm_ut D w n).2 := by rw [pm_ut, if_pos a, e]; exact if_pos rfl
        have e2 : (pm_ut D w (n + 1)).2 = (pm_ut D w n).2 + 1 := by rw [pm_ut, if_pos a, e]
        by_cases z : u = (pm_ut D w n).2
        · rw [e1, a, Bool.true_and, if_pos (decide_eq_true z.symm)]; omega
        · have := uz_1 (D := D) (w := w) n u (by omega)
          omega
    · have e2 : (pm_ut D w (n + 1)).2 = (pm_ut D w n).2 := by rw [pm_ut, if_neg a]
      have := uz_1 (D := D) (w := w) n u (by omega)
      omega
