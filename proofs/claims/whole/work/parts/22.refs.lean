/-! METHODS THAT WRITE REFERENCES -/
def pm_wp (P : Nat → Nat → Value) (a f b : Nat) : Nat → Nat → Value := va_up P a (va_up (P a) f (.ref b))
theorem pm_wp_self (P : Nat → Nat → Value) (a f b : Nat) : pm_wp P a f b a f = .ref b := by simp [pm_wp, va_up]
theorem pm_wp_ne {P : Nat → Nat → Value} {a f b a' f' : Nat} (h : ¬ (a' = a ∧ f' = f)) : pm_wp P a f b a' f' = P a' f' := by
  unfold pm_wp va_up
  by_cases h1 : a' = a
  · subst h1
    have h2 : ¬ f' = f := fun g => h ⟨rfl, g⟩
    simp [h2]
  · simp [h1]
theorem pm_wp_rg {P : Nat → Nat → Value} {a f b r : Nat} (ha : ¬ r = a) (h : pm_rgT P r) : pm_rgT (pm_wp P a f b) r := by
  obtain ⟨t0, t, u0, u1, u2, u3, u4, u5, u6⟩ := h
  have hn : ∀ g : Nat, pm_wp P a f b r g = P r g := fun g => pm_wp_ne (fun z => ha z.1)
  exact ⟨t0, t, by rw [hn]; exact u0, by rw [hn]; exact u1, by rw [hn]; exact u2, by rw [hn]; exact u3, by rw [hn]; exact u4, by rw [hn]; exact u5, by rw [hn]; exact u6⟩
theorem pm_wp_bk {P : Nat → Nat → Value} {a f b k : Nat} (ha : ¬ k = a) (h : pm_bkT P k) : pm_bkT (pm_wp P a f b) k := by
  obtain ⟨t0, t1, t2, u0, u1⟩ := h
  have hn : ∀ g : Nat, pm_wp P a f b k g = P k g := fun g => pm_wp_ne (fun z => ha z.1)
  exact ⟨t0, t1, t2, by rw [hn]; exact u0, by rw [hn]; exact u1⟩
theorem pm_wp_lw {P : Nat → Nat → Value} {a f b l : Nat} (ha : ¬ l = a) (h : pm_lwT P l) : pm_lwT (pm_wp P a f b) l := by
  obtain ⟨t0, t1, t2, u0, u1⟩ := h
  have hn : ∀ g : Nat, pm_wp P a f b l g = P l g := fun g => pm_wp_ne (fun z => ha z.1)
  exact ⟨t0, t1, t2, by rw [hn]; exact u0, by rw [hn]; exact u1⟩
theorem pm_rg_ne {P : Nat → Nat → Value} {r : Nat} (h : pm_rgT P r) : ¬ r = 3 ∧ ¬ r = 0 := by
  refine ⟨fun z => ?_, fun z => ?_⟩
  · rw [z] at h; exact absurd h.1 (by decide)
  · rw [z] at h; exact absurd h.1 (by decide)
theorem pm_bk_ne {P : Nat → Nat → Value} {k : Nat} (h : pm_bkT P k) : ¬ k = 3 ∧ ¬ k = 0 := by
  refine ⟨fun z => ?_, fun z => ?_⟩
  · rw [z] at h; exact absurd h.1 (by decide)
  · rw [z] at h; exact absurd h.1 (by decide)
/-- the register in use becomes a -/
theorem pm_W_r {P : Nat → Nat → Value} {r k r2 k2 a : Nat} (hw : pm_W P r k r2 k2) (ha : pm_rgT P a) : pm_W (pm_wp P 3 6 a) a k r2 k2 := by
  obtain ⟨hp, h1, h2, h3, h4, h5, h6, h7, h8, h9, h10, h11⟩ := hw
  refine ⟨fun x f q hq => ?_, pm_wp_self _ _ _ _, ?_, ?_, ?_, pm_wp_rg (pm_rg_ne ha).1 ha, pm_wp_bk (pm_bk_ne h6).1 h6, pm_wp_rg (pm_rg_ne h7).1 h7, pm_wp_bk (pm_bk_ne h8).1 h8, pm_wp_lw (by decide) h9, pm_wp_lw (by decide) h10, pm_wp_lw (by decide) h11⟩
  · rw [pm_wp_ne]
    · exact hp x f q hq
    · intro z
      rw [z.1, z.2] at hq
      rw [show pm_sp 3 6 = .null from rfl] at hq
      cases hq
  · rw [pm_wp_ne (by decide)]; exact h2
  · rw [pm_wp_ne (by decide)]; exact h3
  · rw [pm_wp_ne (by decide)]; exact h4
theorem pm_W_d {P : Nat → Nat → Value} {r k r2 k2 a : Nat} (hw : pm_W P r k r2 k2) (ha : pm_rgT P a) : pm_W (pm_wp P 0 8 a) r k a k2 := by
  obtain ⟨hp, h1, h2, h3, h4, h5, h6, h7, h8, h9, h10, h11⟩ := hw
  refine ⟨fun x f q hq => ?_, ?_, ?_, pm_wp_self _ _ _ _, ?_, pm_wp_rg (pm_rg_ne h5).2 h5, pm_wp_bk (pm_bk_ne h6).2 h6, pm_wp_rg (pm_rg_ne ha).2 ha, pm_wp_bk (pm_bk_ne h8).2 h8, pm_wp_lw (by decide) h9, pm_wp_lw (by decide) h10, pm_wp_lw (by decide) h11⟩
  · rw [pm_wp_ne]
    · exact hp x f q hq
    · intro z
      rw [z.1, z.2] at hq
      rw [show pm_sp 0 8 = .null from rfl] at hq
      cases hq
  · rw [pm_wp_ne (by decide)]; exact h1
  · rw [pm_wp_ne (by decide)]; exact h2
  · rw [pm_wp_ne (by decide)]; exact h4
theorem pm_W_b {P : Nat → Nat → Value} {r k r2 k2 a : Nat} (hw : pm_W P r k r2 k2) (ha : pm_bkT P a) : pm_W (pm_wp P 0 9 a) r a r2 k2 := by
  obtain ⟨hp, h1, h2, h3, h4, h5, h6, h7, h8, h9, h10, h11⟩ := hw
  refine ⟨fun x f q hq => ?_, ?_, pm_wp_self _ _ _ _, ?_, ?_, pm_wp_rg (pm_rg_ne h5).2 h5, pm_wp_bk (pm_bk_ne ha).2 ha, pm_wp_rg (pm_rg_ne h7).2 h7, pm_wp_bk (pm_bk_ne h8).2 h8, pm_wp_lw (by decide) h9, pm_wp_lw (by decide) h10, pm_wp_lw (by decide) h11⟩
  · rw [pm_wp_ne]
    · exact hp x f q hq
    · intro z
      rw [z.1, z.2] at hq
      rw [show pm_sp 0 9 = .null from rfl] at hq
      cases hq
  · rw [pm_wp_ne (by decide)]; exact h1
  · rw [pm_wp_ne (by decide)]; exact h3
  · rw [pm_wp_ne (by decide)]; exact h4
theorem pm_W_e {P : Nat → Nat → Value} {r k r2 k2 a : Nat} (hw : pm_W P r k r2 k2) (ha : pm_bkT P a) : pm_W (pm_wp P 0 10 a) r k r2 a := by
  obtain ⟨hp, h1, h2, h3, h4, h5, h6, h7, h8, h9, h10, h11⟩ := hw
  refine ⟨fun x f q hq => ?_, ?_, ?_, ?_, pm_wp_self _ _ _ _, pm_wp_rg (pm_rg_ne h5).2 h5, pm_wp_bk (pm_bk_ne h6).2 h6, pm_wp_rg (pm_rg_ne h7).2 h7, pm_wp_bk (pm_bk_ne ha).2 ha, pm_wp_lw (by decide) h9, pm_wp_lw (by decide) h10, pm_wp_lw (by decide) h11⟩
  · rw [pm_wp_ne]
    · exact hp x f q hq
    · intro z
      rw [z.1, z.2] at hq
      rw [show pm_sp 0 10 = .null from rfl] at hq
      cases hq
  · rw [pm_wp_ne (by decide)]; exact h1
  · rw [pm_wp_ne (by decide)]; exact h2
  · rw [pm_wp_ne (by decide)]; exact h3
