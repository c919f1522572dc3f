/-! BEST: the reference tries all -/
def pm_eI (e : Nat) : Int32 := if e = 0 then -1 else nI (e - 1)
theorem eI_inj' : ∀ a : Nat, a < 6 → ∀ b : Nat, b < 6 → (pm_eI a = pm_eI b ↔ a = b) := by decide
theorem eI_s' : ∀ a : Nat, a < 6 → pm_eI a + 1 = pm_eI (a + 1) := by decide
theorem eI_i' : ∀ a : Nat, a < 7 → (pm_eI a).toInt = (a : Int) - 1 := by decide
theorem eI_b (b : Nat) : pm_eI (b + 1) = nI b := if_neg (by omega)
theorem cb_n (a : Option (Nat × (Nat → Nat))) : pm_cb a none = a := by cases a <;> rfl
theorem cb_as (a b c : Option (Nat × (Nat → Nat))) : pm_cb (pm_cb a b) c = pm_cb a (pm_cb b c) := by
  cases a with
  | none => rfl
  | some x =>
    cases b with
    | none => rfl
    | some y =>
      cases c with
      | none => rw [cb_n, cb_n]
      | some z =>
        show pm_cb (if x.1 < y.1 then some y else some x) (some z) = pm_cb (some x) (if y.1 < z.1 then some z else some y)
        by_cases c1 : x.1 < y.1
        · rw [if_pos c1]
          by_cases c2 : y.1 < z.1
          · rw [if_pos c2]
            show (if y.1 < z.1 then some z else some y) = (if x.1 < z.1 then some z else some x)
            rw [if_pos c2, if_pos (by omega)]
          · rw [if_neg c2]
            show (if y.1 < z.1 then some z else some y) = (if x.1 < y.1 then some y else some x)
            rw [if_neg c2, if_pos c1]
        · rw [if_neg c1]
          by_cases c2 : y.1 < z.1
          · rw [if_pos c2]
          · rw [if_neg c2]
            show (if x.1 < z.1 then some z else some x) = (if x.1 < y.1 then some y else some x)
            rw [if_neg (by omega), if_neg c1]
theorem ad_cb (T : Nat) (a b : Option (Nat × (Nat → Nat))) : pm_ad T (pm_cb a b) = pm_cb (pm_ad T a) (pm_ad T b) := by
  cases a with
  | none => rfl
  | some x =>
    cases b with
    | none => rfl
    | some y =>
      show pm_ad T (if x.1 < y.1 then some y else some x) = if x.1 + T < y.1 + T then some (y.1 + T, y.2) else some (x.1 + T, x.2)
      by_cases c : x.1 < y.1
      · rw [if_pos c, if_pos (by omega)]; rfl
      · rw [if_neg c, if_neg (by omega)]; rfl
theorem ad_ad (T g : Nat) (a : Option (Nat × (Nat → Nat))) : pm_ad T (pm_ad g a) = pm_ad (T + g) a := by
  cases a with
  | none => rfl
  | some x => show some (x.1 + g + T, x.2) = some (x.1 + (T + g), x.2); rw [show x.1 + g + T = x.1 + (T + g) by omega]
section Bd5
variable {I : Nat → Nat → Int32} {J : Nat → Nat → Int64}
/-- what stands while it tries; the rooms; the choices; the best so far -/
def pm_DS (n t : Nat) (D : Nat → Nat → Nat) (w : Nat → Int32) (g : Nat → Nat → Nat) (I : Nat → Nat → Int32) : Prop := pm_MR n t D I ∧ (∀ q, q < n → I 144 q = w q) ∧ ∀ p b, p < n → b < t → I 148 (8 * b + p) = nI (g p b)
def pm_RZ (t : Nat) (z : Nat → Int) (I : Nat → Nat → Int32) : Prop := ∀ b, b < t → I 149 b = Int32.ofInt (z b) ∧ -100 ≤ z b ∧ z b ≤ 100
def pm_BS (n : Nat) (o : Option (Nat × (Nat → Nat))) (I : Nat → Nat → Int32) : Prop := match o with
  | none => I 127 50 = -1
  | some x => x.1 ≤ 9000 ∧ I 127 50 = nI x.1 ∧ ∀ q, q < n → I 151 q = pm_eI (x.2 q)
theorem BS_c {n : Nat} {o : Option (Nat × (Nat → Nat))} {I' : Nat → Nat → Int32} (h : pm_BS n o I) (h1 : I' 127 50 = I 127 50) (h2 : I' 151 = I 151) : pm_BS n o I' := by
  cases o with
  | none => exact h1.trans h
  | some x => exact ⟨h.1, h1.trans h.2.1, fun q hq => by rw [h2]; exact h.2.2 q hq⟩
theorem DS_ag {n t : Nat} {D : Nat → Nat → Nat} {w : Nat → Int32} {g : Nat → Nat → Nat} {I' : Nat → Nat → Int32} (h : pm_DS n t D w g I) (k : pm_ag [149, 150, 151] [(127, 50)] I I') : pm_DS n t D w g I' := by
  have c : ∀ a, a ≠ 127 → a ≠ 149 → a ≠ 150 → a ≠ 151 → I' a = I a := fun a h1 h2 h3 h4 => ag_cell k (by simp; omega) (fun f => by simp; omega)
  obtain ⟨⟨m1, m2, m3, m4, m5, m6, m7⟩, h2, h3⟩ := h
  refine ⟨⟨by rw [k 127 18 (by decide) (by decide)]; exact m1, by rw [k 127 19 (by decide) (by decide)]; exact m2, by rw [k 127 20 (by decide) (by decide)]; exact m3, m4, m5, fun p hp => by rw [c 132 (by decide) (by decide) (by decide) (by decide)]; exact m6 p hp, fun b hb => by rw [c 133 (by decide) (by decide) (by decide) (by decide)]; exact m7 b hb⟩, fun q hq => by rw [c 144 (by decide) (by decide) (by decide) (by decide)]; exact h2 q hq, fun p b hp hb => by rw [c 148 (by decide) (by decide) (by decide) (by decide)]; exact h3 p b hp hb⟩
theorem l293 {n t p e : Nat} {D : Nat → Nat → Nat} {w : Nat → Int32} {g : Nat → Nat → Nat} {ch : Nat → Nat} {z : Nat → Int} (hS : pm_DS n t D w g I) (hD : pm_DR n t D) (hp : p < n) (he : e ≤ t) (hc : ∀ q, q < p → I 150 q = pm_eI (ch q)) (hch : ∀ q, ch q ≤ t) (hz : pm_RZ t z I) : ∀ d o fu, o + d = p → d < fu → ∃ v, f293_2 fu (nI p) (pm_eI e) (nI o) I J = some (v, I, J) ∧ (v = true ↔ (∀ q, o ≤ q → q < p → (pm_kP D q p && pm_ash w q) = true → ch q = e) ∧ (e = 0 ∨ 0 < z (e - 1))) := by
  have n8 := hS.1.2.2.2.1
  have t5 := hS.1.2.2.2.2.1
  intro d
  induction d with
  | zero =>
    intro o fu ho hf
    obtain ⟨fu, rfl⟩ : ∃ k, fu = k + 1 := ⟨fu - 1, by omega⟩
    rw [f293_2, if_neg (by rw [nI_toInt (by omega), nI_toInt (by omega)]; omega)]
    by_cases c : e = 0
    · subst c
      rw [if_pos (show pm_eI 0 = -1 from rfl)]
      exact ⟨true, rfl, fun _ => ⟨fun q h1 h2 => by omega, .inl rfl⟩, fun _ => rfl⟩
    · obtain ⟨b, rfl⟩ : ∃ b, e = b + 1 := ⟨e - 1, by omega⟩
      obtain ⟨z1, z2, z3⟩ := hz b (by omega)
      rw [eI_b, if_neg (show ¬ nI b = -1 by rw [zt_m1', zt_eqm (by omega)]; exact id), zt_in (by omega) (by omega), zt_gd, nI_clamp (by omega), z1, Int32.toInt_ofInt_of_le (by omega) (by omega), Nat.add_sub_cancel]
      by_cases q : 0 < z b
      · rw [if_pos q]
        exact ⟨true, rfl, fun _ => ⟨fun q h1 h2 => by omega, .inr q⟩, fun _ => rfl⟩
      · rw [if_neg q]
        exact ⟨false, rfl, fun y => (by cases y), fun y => by
          rcases y.2 with y | y
          · omega
          · exact absurd y q⟩
  | succ d ih =>
    intro o fu ho hf
    obtain ⟨fu, rfl⟩ : ∃ k, fu = k + 1 := ⟨fu - 1, by omega⟩
    obtain ⟨v, e1, e2⟩ := ih (o + 1) fu (by omega) (by omega)
    rw [f293_2, if_pos (by rw [nI_toInt (by omega), nI_toInt (by omega)]; omega), e267 hS.1 hD (by omega) hp, zt_bind]
    dsimp only
    rw [nI_1, show (0 : Int32) + nI o = nI o by rw [Int32.zero_add], zt_in (show o < 66 by omega) (by omega), zt_gd, nI_clamp (by omega), hS.2.1 o (by omega), zt_in (show o < 8 by omega) (by omega), zt_gd, hc o (by omega)]
    have skip : (pm_kP D o p && pm_ash w o) = false → ((∀ q, o + 1 ≤ q → q < p → (pm_kP D q p && pm_ash w q) = true → ch q = e) ↔ (∀ q, o ≤ q → q < p → (pm_kP D q p && pm_ash w q) = true → ch q = e)) := fun hf => ⟨fun hh q h1 h2 h3 => by
        by_cases s : q = o
        · rw [s, hf] at h3; cases h3
        · exact hh q (by omega) h2 h3, fun hh q h1 h2 h3 => hh q (by omega) h2 h3⟩
    by_cases k : pm_kP D o p = true
    · rw [if_pos k]
      by_cases a : pm_ash w o = true
      · rw [if_pos (show w o = 1 from of_decide_eq_true a)]
        by_cases s : ch o = e
        · rw [if_pos (by rw [s])]
          refine ⟨v, e1, e2.trans ⟨fun y => ⟨fun q h1 h2 h3 => ?_, y.2⟩, fun y => ⟨fun q h1 h2 h3 => y.1 q (by omega) h2 h3, y.2⟩⟩⟩
          by_cases s2 : q = o
          · rw [s2]; exact s
          · exact y.1 q (by omega) h2 h3
        · rw [if_neg (fun y => s ((eI_inj' _ (by have := hch o; omega) _ (by omega)).mp y))]
          exact ⟨false, rfl, fun y => (by cases y), fun y => absurd (y.1 o (by omega) (by omega) (by rw [k, a]; rfl)) s⟩
      · rw [if_neg (show ¬ w o = 1 from fun y => a (decide_eq_true y))]
        refine ⟨v, e1, e2.trans ?_⟩
        rw [skip (by rw [Bool.eq_false_iff.mpr a, Bool.and_false])]
    · rw [if_neg k]
      refine ⟨v, e1, e2.trans ?_⟩
      rw [skip (by rw [Bool.eq_false_iff.mpr k, Bool.false_and])]
theorem e293 {n t p e : Nat} {D : Nat → Nat → Nat} {w : Nat → Int32} {g : Nat → Nat → Nat} {ch : Nat → Nat} {z : Nat → Int} (hS : pm_DS n t D w g I) (hD : pm_DR n t D) (hp : p < n) (he : e ≤ t) (hc : ∀ q, q < p → I 150 q = pm_eI (ch q)) (hch : ∀ q, ch q ≤ t) (hz : pm_RZ t z I) : ∃ v, f293 (nI p) (pm_eI e) I J = some (v, I, J) ∧ (v = true ↔ pm_okp D w ch p e = true ∧ (e = 0 ∨ 0 < z (e - 1))) := by
  have n8 := hS.1.2.2.2.1
  obtain ⟨v, e1, e2⟩ := l293 (J := J) hS hD hp he hc hch hz p 0 pm_FU (by omega) (by unfold pm_FU; omega)
  rw [nI_0] at e1
  refine ⟨v, e1, e2.trans ⟨fun y => ⟨decide_eq_true (fun q h1 h2 => y.1 q (by omega) h1 h2), y.2⟩, fun y => ⟨fun q _ h1 h2 => of_decide_eq_true y.1 q h1 h2, y.2⟩⟩⟩
end Bd5
