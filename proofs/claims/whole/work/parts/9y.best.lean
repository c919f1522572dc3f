/-! BEST: signer by signer, as the reference goes, and unit by unit -/
def pm_rsm (f : Nat → Nat) : Nat → Nat → Nat
  | 0, _ => 0
  | d + 1, p => f p + pm_rsm f d (p + 1)
theorem rsm_c {f g : Nat → Nat} : ∀ d p, (∀ q, p ≤ q → q < p + d → f q = g q) → pm_rsm f d p = pm_rsm g d p
  | 0, _, _ => rfl
  | d + 1, p, h => by rw [pm_rsm, pm_rsm, h p (by omega) (by omega), rsm_c d (p + 1) (fun q h1 h2 => h q (by omega) (by omega))]
theorem rsm_ad {f g : Nat → Nat} : ∀ d p, pm_rsm (fun q => f q + g q) d p = pm_rsm f d p + pm_rsm g d p
  | 0, _ => rfl
  | d + 1, p => by rw [pm_rsm, pm_rsm, pm_rsm, rsm_ad d (p + 1)]; omega
/-- one may go with e if his kin do -/
def pm_okp (D : Nat → Nat → Nat) (w : Nat → Int32) (ch : Nat → Nat) (p e : Nat) : Bool := decide (∀ q, q < p → (pm_kP D q p && pm_ash w q) = true → ch q = e)
def pm_Sg (D : Nat → Nat → Nat) (w : Nat → Int32) (t : Nat) (g : Nat → Nat → Nat) : Nat → Nat → (Nat → Nat) → (Nat → Nat) → Option (Nat × (Nat → Nat))
  | 0, _, _, ch => some (0, ch)
  | d + 1, p, x, ch => if pm_ash w p = true then pm_fo (fun b => if pm_okp D w ch p (b + 1) = true ∧ 0 < x b then pm_ad (g p b) (pm_Sg D w t g d (p + 1) (pm_sbc x b 1) (pm_stn ch p (b + 1))) else none) t (if pm_okp D w ch p 0 = true then pm_Sg D w t g d (p + 1) x (pm_stn ch p 0) else none) else pm_Sg D w t g d (p + 1) x (pm_stn ch p 0)
/-- two ways tell the same -/
def pm_Rl (n c : Nat) (cw : (Nat → Nat) → Nat → Nat) (a b : Option (Nat × (Nat → Nat))) : Prop := match a, b with
  | none, none => True
  | some x, some y => x.1 = c + y.1 ∧ ∀ q, q < n → x.2 q = cw y.2 q
  | _, _ => False
theorem Rl_cb {n c : Nat} {cw : (Nat → Nat) → Nat → Nat} {a b a' b' : Option (Nat × (Nat → Nat))} (h1 : pm_Rl n c cw a a') (h2 : pm_Rl n c cw b b') : pm_Rl n c cw (pm_cb a b) (pm_cb a' b') := by
  cases a with
  | none =>
    cases a' with
    | none => exact h2
    | some _ => exact h1.elim
  | some x =>
    cases a' with
    | none => exact h1.elim
    | some x' =>
      cases b with
      | none =>
        cases b' with
        | none => exact h1
        | some _ => exact h2.elim
      | some y =>
        cases b' with
        | none => exact h2.elim
        | some y' =>
          have e1 := h1.1
          have e2 := h2.1
          show pm_Rl n c cw (if x.1 < y.1 then some y else some x) (if x'.1 < y'.1 then some y' else some x')
          by_cases q : x.1 < y.1
          · rw [if_pos q, if_pos (by omega)]; exact h2
          · rw [if_neg q, if_neg (by omega)]; exact h1
theorem Rl_fo {n c : Nat} {cw : (Nat → Nat) → Nat → Nat} {F G : Nat → Option (Nat × (Nat → Nat))} {s s' : Option (Nat × (Nat → Nat))} (hs : pm_Rl n c cw s s') : ∀ t, (∀ b, b < t → pm_Rl n c cw (F b) (G b)) → pm_Rl n c cw (pm_fo F t s) (pm_fo G t s')
  | 0, _ => hs
  | t + 1, h => Rl_cb (Rl_fo hs t (fun b hb => h b (by omega))) (h t (by omega))
theorem fo_s {F : Nat → Option (Nat × (Nat → Nat))} {s : Option (Nat × (Nat → Nat))} : ∀ t, (∀ b, b < t → F b = none) → pm_fo F t s = s
  | 0, _ => rfl
  | t + 1, h => by
    rw [pm_fo, fo_s t (fun b hb => h b (by omega)), h t (by omega)]
    cases s <;> rfl
theorem fo_1 {F : Nat → Option (Nat × (Nat → Nat))} {b0 : Nat} : ∀ t, b0 < t → (∀ b, b < t → b ≠ b0 → F b = none) → pm_fo F t none = F b0
  | 0, h, _ => by omega
  | t + 1, h, hF => by
    rw [pm_fo]
    by_cases e : b0 = t
    · subst e
      rw [fo_s b0 (fun b hb => hF b (by omega) (by omega))]
      rfl
    · rw [fo_1 t (by omega) (fun b hb => hF b (by omega)), hF t (by omega) (by omega)]
      cases F b0 <;> rfl
theorem Rl_w {n c c' : Nat} {cw cw' : (Nat → Nat) → Nat → Nat} {a b : Option (Nat × (Nat → Nat))} (h : pm_Rl n c cw a b) (hc : c = c') (hw : ∀ y q, q < n → cw y q = cw' y q) : pm_Rl n c' cw' a b := by
  cases a with
  | none =>
    cases b with
    | none => trivial
    | some _ => exact h.elim
  | some x =>
    cases b with
    | none => exact h.elim
    | some y => exact ⟨by rw [h.1, hc], fun q hq => by rw [h.2 q hq, hw _ q hq]⟩
/-- one that is added on the left -/
theorem Rl_ad {n c c' g : Nat} {cw cw' : (Nat → Nat) → Nat → Nat} {a b : Option (Nat × (Nat → Nat))} (h : pm_Rl n c cw a b) (hc : c' = c + g) (hw : ∀ y q, q < n → cw y q = cw' y q) : pm_Rl n c' cw' (pm_ad g a) b := by
  cases a with
  | none =>
    cases b with
    | none => trivial
    | some _ => exact h.elim
  | some x =>
    cases b with
    | none => exact h.elim
    | some y => exact ⟨by show x.1 + g = _; rw [h.1]; omega, fun q hq => by show x.2 q = _; rw [h.2 q hq, hw _ q hq]⟩
/-- one that is added on both sides -/
theorem Rl_as {n c c' g g' u e : Nat} {cw cw' : (Nat → Nat) → Nat → Nat} {a b : Option (Nat × (Nat → Nat))} (h : pm_Rl n c cw a b) (hc : c' + g' = c + g) (hw : ∀ y q, q < n → cw y q = cw' (pm_stn y u e) q) : pm_Rl n c' cw' (pm_ad g a) (pm_asd g' u e b) := by
  cases a with
  | none =>
    cases b with
    | none => trivial
    | some _ => exact h.elim
  | some x =>
    cases b with
    | none => exact h.elim
    | some y => exact ⟨by show x.1 + g = c' + (y.1 + g'); rw [h.1]; omega, fun q hq => by show x.2 q = cw' (pm_stn y.2 u e) q; rw [h.2 q hq, hw _ q hq]⟩
theorem Rl_nn {n c : Nat} {cw : (Nat → Nat) → Nat → Nat} {a : Option (Nat × (Nat → Nat))} (h : pm_Rl n c cw a none) : a = none := by
  cases a with
  | none => rfl
  | some _ => exact h.elim
theorem Rl_n {n c c' : Nat} {cw cw' : (Nat → Nat) → Nat → Nat} {a : Option (Nat × (Nat → Nat))} (h : pm_Rl n c cw a none) : pm_Rl n c' cw' a none := by
  rw [Rl_nn h]
  trivial
theorem ad_0 {a : Option (Nat × (Nat → Nat))} : pm_ad 0 a = a := by cases a <;> rfl
/-- the rooms that kin still to come will want; what they give -/
def pm_pdw (w : Nat → Int32) (un cu : Nat → Nat) (d p b : Nat) : Nat := pm_rsm (fun q => if pm_ash w q = true ∧ cu (un q) = b + 1 then 1 else 0) d p
def pm_pg (w : Nat → Int32) (un : Nat → Nat) (g : Nat → Nat → Nat) (cu : Nat → Nat) (d p : Nat) : Nat := pm_rsm (fun q => if pm_ash w q = true ∧ cu (un q) ≠ 0 then g q (cu (un q) - 1) else 0) d p
/-- what the units are, as they come -/
def pm_Uk (D : Nat → Nat → Nat) (w : Nat → Int32) (n : Nat) (uc un : Nat → Nat) : Prop := ∀ p, p < n → (pm_ash w p = false ∧ uc (p + 1) = uc p) ∨ (pm_ash w p = true ∧ un p < uc p ∧ uc (p + 1) = uc p ∧ (∃ o, o < p ∧ (pm_kP D o p && pm_ash w o) = true) ∧ ∀ q, q < p → (pm_kP D q p && pm_ash w q) = true → un q = un p) ∨ (pm_ash w p = true ∧ un p = uc p ∧ uc (p + 1) = uc p + 1 ∧ ∀ q, q < p → (pm_kP D q p && pm_ash w q) = false)
theorem Uk_m {D : Nat → Nat → Nat} {w : Nat → Int32} {n : Nat} {uc un : Nat → Nat} (h : pm_Uk D w n uc un) : ∀ d p, p + d = n → uc p ≤ uc n := by
  intro d
  induction d with
  | zero => intro p hp; rw [show p = n by omega]; exact Nat.le_refl _
  | succ d ih =>
    intro p hp
    have := ih (p + 1) (by omega)
    rcases h p (by omega) with z | z | z
    · omega
    · omega
    · omega
theorem Uk_lt {D : Nat → Nat → Nat} {w : Nat → Int32} {n : Nat} {uc un : Nat → Nat} (h : pm_Uk D w n uc un) : ∀ q p, q < p → p ≤ n → pm_ash w q = true → un q < uc p := by
  intro q p
  induction p with
  | zero => intro hq; omega
  | succ p ih =>
    intro hq hp ha
    by_cases z : q = p
    · subst z
      rcases h q (by omega) with s | s | s
      · rw [s.1] at ha; exact absurd ha (by decide)
      · omega
      · omega
    · have := ih (by omega) (by omega) ha
      rcases h p (by omega) with s | s | s
      · omega
      · omega
      · omega
def pm_cwy (w : Nat → Int32) (un : Nat → Nat) (ch cu : Nat → Nat) (p u : Nat) : (Nat → Nat) → Nat → Nat := fun y q => if q < p then ch q else if pm_ash w q = true then (if un q < u then cu (un q) else y (un q)) else 0
theorem Sg_B {D : Nat → Nat → Nat} {w : Nat → Int32} {t n : Nat} {g : Nat → Nat → Nat} {uc un sz : Nat → Nat} {gn : Nat → Nat → Nat} (hU : pm_Uk D w n uc un)
    (hz : ∀ p d, p + 1 + d = n → pm_ash w p = true → un p = uc p → sz (uc p) = 1 + pm_rsm (fun q => if pm_ash w q = true ∧ un q = uc p then 1 else 0) d (p + 1))
    (hg : ∀ p d b, p + 1 + d = n → pm_ash w p = true → un p = uc p → b < t → gn (uc p) b = g p b + pm_rsm (fun q => if pm_ash w q = true ∧ un q = uc p then g q b else 0) d (p + 1)) :
    ∀ d p x ch cu, p + d = n → (∀ q, q < p → pm_ash w q = true → ch q = cu (un q)) → (∀ v, uc p ≤ v → cu v = 0) → (∀ v, cu v ≤ t) → pm_Rl n (pm_pg w un g cu d p) (pm_cwy w un ch cu p (uc p)) (pm_Sg D w t g d p x ch) (if ∀ b, b < t → pm_pdw w un cu d p b ≤ x b then pm_Bw t sz gn (uc n - uc p) (uc p) (fun b => x b - pm_pdw w un cu d p b) else none) := by
  intro d
  induction d with
  | zero =>
    intro p x ch cu hp h1 h2 h3
    have e : p = n := by omega
    subst e
    rw [if_pos (show ∀ b, b < t → pm_pdw w un cu 0 p b ≤ x b from fun b _ => Nat.zero_le _), Nat.sub_self]
    exact ⟨rfl, fun q hq => (if_pos hq).symm⟩
  | succ d ih =>
    intro p x ch cu hp h1 h2 h3
    have hpn : p < n := by omega
    rcases hU p hpn with ⟨a, u1⟩ | ⟨a, u1, u2, u3, u4⟩ | ⟨a, u1, u2, u3⟩
    · -- not ashore
      have an : ¬ pm_ash w p = true := by rw [a]; decide
      have ep : ∀ b, pm_pdw w un cu (d + 1) p b = pm_pdw w un cu d (p + 1) b := fun b => by
        unfold pm_pdw
        rw [pm_rsm, if_neg (fun z => an z.1), Nat.zero_add]
      have eg : pm_pg w un g cu (d + 1) p = pm_pg w un g cu d (p + 1) := by
        unfold pm_pg
        rw [pm_rsm, if_neg (fun z => an z.1), Nat.zero_add]
      have := ih (p + 1) x (pm_stn ch p 0) cu (by omega) (fun q hq ha => by
        have : q ≠ p := fun z => an (z ▸ ha)
        rw [show pm_stn ch p 0 q = ch q from if_neg this]
        exact h1 q (by omega) ha) (by rw [u1]; exact h2) h3
      rw [pm_Sg, if_neg an]
      simp only [ep, eg]
      rw [u1] at this
      refine Rl_w this rfl (fun y q hq => ?_)
      unfold pm_cwy pm_stn
      by_cases z : q = p
      · rw [if_pos (by omega), if_pos z, if_neg (by omega), z, if_neg an]
      · by_cases z2 : q < p
        · rw [if_pos (by omega), if_neg z, if_pos z2]
        · rw [if_neg (by omega), if_neg z2]
    · -- of a unit that has begun
      obtain ⟨o, o1, o2⟩ := u3
      have oa : pm_ash w o = true := by rw [Bool.and_eq_true] at o2; exact o2.2
      have co : ch o = cu (un p) := by rw [h1 o o1 oa, u4 o o1 o2]
      have ok : ∀ e, pm_okp D w ch p e = decide (e = cu (un p)) := fun e => by
        unfold pm_okp
        by_cases z : e = cu (un p)
        · rw [decide_eq_true z, decide_eq_true]
          intro q hq hk
          rw [Bool.and_eq_true] at hk
          rw [h1 q hq hk.2, u4 q hq (by rw [Bool.and_eq_true]; exact hk), z]
        · rw [decide_eq_false z, decide_eq_false]
          intro hk
          exact z (by rw [← hk o o1 o2, co])
      rw [pm_Sg, if_pos a]
      have c1 := h3 (un p)
      have step : ∀ x' e, e = cu (un p) → pm_Rl n (pm_pg w un g cu d (p + 1)) (pm_cwy w un ch cu p (uc p)) (pm_Sg D w t g d (p + 1) x' (pm_stn ch p e)) (if ∀ b, b < t → pm_pdw w un cu d (p + 1) b ≤ x' b then pm_Bw t sz gn (uc n - uc p) (uc p) (fun b => x' b - pm_pdw w un cu d (p + 1) b) else none) := fun x' e he => by
        have := ih (p + 1) x' (pm_stn ch p e) cu (by omega) (fun q hq ha => by
          by_cases z : q = p
          · rw [show pm_stn ch p e q = e from if_pos z, z, he]
          · rw [show pm_stn ch p e q = ch q from if_neg z]
            exact h1 q (by omega) ha) (by rw [u2]; exact h2) h3
        rw [u2] at this
        refine Rl_w this rfl (fun y q hq => ?_)
        unfold pm_cwy pm_stn
        by_cases z : q = p
        · rw [if_pos (by omega), if_pos z, if_neg (by omega), z, if_pos a, if_pos u1, he]
        · by_cases z2 : q < p
          · rw [if_pos (by omega), if_neg z, if_pos z2]
          · rw [if_neg (by omega), if_neg z2]
      by_cases z : cu (un p) = 0
      · have ep : ∀ b, pm_pdw w un cu (d + 1) p b = pm_pdw w un cu d (p + 1) b := fun b => by
          unfold pm_pdw
          rw [pm_rsm, if_neg (fun y => by have := y.2; omega), Nat.zero_add]
        have eg : pm_pg w un g cu (d + 1) p = pm_pg w un g cu d (p + 1) := by
          unfold pm_pg
          rw [pm_rsm, if_neg (fun y => y.2 z), Nat.zero_add]
        rw [fo_s t (fun b hb => if_neg (fun y => by have := y.1; rw [ok] at this; have := of_decide_eq_true this; omega)), if_pos (by rw [ok]; exact decide_eq_true z.symm)]
        simp only [ep, eg]
        exact step x 0 z.symm
      · obtain ⟨b0, hb0⟩ : ∃ b0, cu (un p) = b0 + 1 := ⟨cu (un p) - 1, by omega⟩
        have ep : ∀ b, pm_pdw w un cu (d + 1) p b = (if b = b0 then 1 else 0) + pm_pdw w un cu d (p + 1) b := fun b => by
          unfold pm_pdw
          rw [pm_rsm, hb0]
          by_cases y : b = b0
          · rw [if_pos ⟨a, by omega⟩, if_pos y]
          · rw [if_neg (fun q => y (by have := q.2; omega)), if_neg y]
        have eg : pm_pg w un g cu (d + 1) p = g p b0 + pm_pg w un g cu d (p + 1) := by
          unfold pm_pg
          rw [pm_rsm, hb0, if_pos ⟨a, by omega⟩, Nat.add_sub_cancel]
        rw [if_neg (by rw [ok]; intro y; have := of_decide_eq_true y; omega), fo_1 (b0 := b0) t (by omega) (fun b hb hne => if_neg (fun y => by have := y.1; rw [ok] at this; have := of_decide_eq_true this; omega))]
        by_cases q : 0 < x b0
        · rw [if_pos ⟨by rw [ok]; exact decide_eq_true hb0.symm, q⟩]
          have s := step (pm_sbc x b0 1) (b0 + 1) hb0.symm
          have fe : (∀ b, b < t → pm_pdw w un cu (d + 1) p b ≤ x b) ↔ (∀ b, b < t → pm_pdw w un cu d (p + 1) b ≤ pm_sbc x b0 1 b) := by
            refine ⟨fun hh b hb => ?_, fun hh b hb => ?_⟩
            · have := hh b hb
              rw [ep] at this
              unfold pm_sbc
              by_cases y : b = b0
              · rw [if_pos y] at this ⊢; omega
              · rw [if_neg y] at this ⊢; omega
            · have := hh b hb
              rw [ep]
              unfold pm_sbc at this
              by_cases y : b = b0
              · subst y; rw [if_pos rfl] at this ⊢; omega
              · rw [if_neg y] at this ⊢; omega
          have fx : (fun b => pm_sbc x b0 1 b - pm_pdw w un cu d (p + 1) b) = (fun b => x b - pm_pdw w un cu (d + 1) p b) := by
            funext b
            rw [ep]
            unfold pm_sbc
            by_cases y : b = b0
            · rw [if_pos y, if_pos y]; omega
            · rw [if_neg y, if_neg y]; omega
          rw [fx] at s
          by_cases y : ∀ b, b < t → pm_pdw w un cu d (p + 1) b ≤ pm_sbc x b0 1 b
          · rw [if_pos y] at s
            rw [if_pos (fe.mpr y)]
            exact Rl_ad s (by rw [eg]; omega) (fun _ _ _ => rfl)
          · rw [if_neg y] at s
            rw [if_neg (fun z => y (fe.mp z))]
            exact Rl_ad s (by rw [eg]; omega) (fun _ _ _ => rfl)
        · rw [if_neg (fun y => q y.2), if_neg (fun y => by
            have := y b0 (by omega)
            rw [ep, if_pos rfl] at this
            omega)]
          trivial
    · -- a unit begins
      have ok : ∀ e, pm_okp D w ch p e = true := fun e => by
        unfold pm_okp
        exact decide_eq_true (fun q hq hk => by rw [u3 q hq] at hk; exact absurd hk (by decide))
      have cz : cu (uc p) = 0 := h2 _ (Nat.le_refl _)
      have zz := hz p d (by omega) a u1
      obtain ⟨m, hm⟩ : ∃ m, m = pm_rsm (fun q => if pm_ash w q = true ∧ un q = uc p then 1 else 0) d (p + 1) := ⟨_, rfl⟩
      rw [← hm] at zz
      have um := Uk_m hU d (p + 1) (by omega)
      obtain ⟨k, hk⟩ : ∃ k, uc n - uc p = k + 1 := ⟨uc n - uc p - 1, by omega⟩
      have hk' : uc n - uc (p + 1) = k := by omega
      have ep : ∀ b, pm_pdw w un cu (d + 1) p b = pm_pdw w un cu d (p + 1) b := fun b => by
        unfold pm_pdw
        rw [pm_rsm, if_neg (fun y => by have := y.2; rw [u1, cz] at this; omega), Nat.zero_add]
      have eg : pm_pg w un g cu (d + 1) p = pm_pg w un g cu d (p + 1) := by
        unfold pm_pg
        rw [pm_rsm, if_neg (fun y => y.2 (by rw [u1, cz])), Nat.zero_add]
      rw [pm_Sg, if_pos a, if_pos (ok 0)]
      simp only [ep, eg]
      have st0 := ih (p + 1) x (pm_stn ch p 0) cu (by omega) (fun q hq ha => by
        by_cases z : q = p
        · rw [show pm_stn ch p 0 q = 0 from if_pos z, z, u1, cz]
        · rw [show pm_stn ch p 0 q = ch q from if_neg z]
          exact h1 q (by omega) ha) (fun v hv => h2 v (by omega)) h3
      rw [hk', u2] at st0
      -- one taker
      have st1 : ∀ b0, b0 < t → 0 < x b0 → pm_Rl n (pm_pg w un g (pm_stn cu (uc p) (b0 + 1)) d (p + 1)) (pm_cwy w un (pm_stn ch p (b0 + 1)) (pm_stn cu (uc p) (b0 + 1)) (p + 1) (uc p + 1)) (pm_Sg D w t g d (p + 1) (pm_sbc x b0 1) (pm_stn ch p (b0 + 1))) (if ∀ b, b < t → pm_pdw w un (pm_stn cu (uc p) (b0 + 1)) d (p + 1) b ≤ pm_sbc x b0 1 b then pm_Bw t sz gn k (uc p + 1) (fun b => pm_sbc x b0 1 b - pm_pdw w un (pm_stn cu (uc p) (b0 + 1)) d (p + 1) b) else none) := fun b0 hb0 hx => by
        have := ih (p + 1) (pm_sbc x b0 1) (pm_stn ch p (b0 + 1)) (pm_stn cu (uc p) (b0 + 1)) (by omega) (fun q hq ha => by
          by_cases z : q = p
          · rw [show pm_stn ch p (b0 + 1) q = b0 + 1 from if_pos z, z, u1, show pm_stn cu (uc p) (b0 + 1) (uc p) = b0 + 1 from if_pos rfl]
          · rw [show pm_stn ch p (b0 + 1) q = ch q from if_neg z, h1 q (by omega) ha]
            by_cases y : un q = uc p
            · exact absurd y (fun y => by
                have := Uk_lt hU q p (by omega) (by omega) ha
                omega)
            · exact (if_neg y).symm) (fun v hv => by
            rw [show pm_stn cu (uc p) (b0 + 1) v = cu v from if_neg (by omega)]
            exact h2 v (by omega)) (fun v => by
            unfold pm_stn
            split
            · omega
            · exact h3 v)
        rw [hk', u2] at this
        exact this
      have pd1 : ∀ b0 b, pm_pdw w un (pm_stn cu (uc p) (b0 + 1)) d (p + 1) b = pm_pdw w un cu d (p + 1) b + (if b = b0 then m else 0) := fun b0 b => by
        rw [hm]
        unfold pm_pdw
        by_cases y : b = b0
        · rw [if_pos y, ← rsm_ad]
          refine rsm_c d (p + 1) (fun q _ _ => ?_)
          by_cases aq : pm_ash w q = true
          · by_cases uq : un q = uc p
            · have es : pm_stn cu (uc p) (b0 + 1) (un q) = b0 + 1 := if_pos uq
              rw [es, if_pos ⟨aq, by omega⟩, if_neg (fun s => by have := s.2; rw [uq, cz] at this; omega), if_pos ⟨aq, uq⟩]
            · rw [show pm_stn cu (uc p) (b0 + 1) (un q) = cu (un q) from if_neg uq, if_neg (c := pm_ash w q = true ∧ un q = uc p) (fun s => uq s.2)]
              exact (Nat.add_zero _).symm
          · rw [if_neg (fun s => aq s.1), if_neg (fun s => aq s.1), if_neg (fun s => aq s.1)]
        · rw [if_neg y, Nat.add_zero]
          refine rsm_c d (p + 1) (fun q _ _ => ?_)
          by_cases uq : un q = uc p
          · rw [if_neg (fun s => y (by have := s.2; rw [uq, show pm_stn cu (uc p) (b0 + 1) (uc p) = b0 + 1 from if_pos rfl] at this; omega)), if_neg (fun s => by have := s.2; rw [uq, cz] at this; omega)]
          · rw [show pm_stn cu (uc p) (b0 + 1) (un q) = cu (un q) from if_neg uq]
      have pg1 : ∀ b0, b0 < t → pm_pg w un g cu d (p + 1) + gn (uc p) b0 = pm_pg w un g (pm_stn cu (uc p) (b0 + 1)) d (p + 1) + g p b0 := fun b0 hb0 => by
        rw [hg p d b0 (by omega) a u1 hb0]
        have e : pm_pg w un g (pm_stn cu (uc p) (b0 + 1)) d (p + 1) = pm_pg w un g cu d (p + 1) + pm_rsm (fun q => if pm_ash w q = true ∧ un q = uc p then g q b0 else 0) d (p + 1) := by
          unfold pm_pg
          rw [← rsm_ad]
          refine rsm_c d (p + 1) (fun q _ _ => ?_)
          by_cases aq : pm_ash w q = true
          · by_cases uq : un q = uc p
            · have e : pm_stn cu (uc p) (b0 + 1) (un q) = b0 + 1 := if_pos uq
              rw [e, if_pos ⟨aq, by omega⟩, if_neg (fun s => s.2 (by rw [uq, cz])), if_pos ⟨aq, uq⟩, Nat.add_sub_cancel, Nat.zero_add]
            · rw [show pm_stn cu (uc p) (b0 + 1) (un q) = cu (un q) from if_neg uq, if_neg (c := pm_ash w q = true ∧ un q = uc p) (fun s => uq s.2), Nat.add_zero]
          · rw [if_neg (fun s => aq s.1), if_neg (fun s => aq s.1), if_neg (fun s => aq s.1)]
        omega
      have cwq : ∀ e (cu' : Nat → Nat), cu' = pm_stn cu (uc p) e → ∀ y q, q < n → pm_cwy w un (pm_stn ch p e) cu' (p + 1) (uc p + 1) y q = pm_cwy w un ch cu p (uc p) (pm_stn y (uc p) e) q := fun e cu' hc y q hq => by
        unfold pm_cwy
        by_cases z : q = p
        · rw [if_pos (by omega), if_neg (by omega), z, if_pos a, if_neg (by omega), u1, show pm_stn ch p e p = e from if_pos rfl]
          exact (if_pos rfl).symm
        · by_cases z2 : q < p
          · rw [if_pos (by omega), if_pos z2]; exact if_neg z
          · rw [if_neg (by omega), if_neg z2]
            by_cases aq : pm_ash w q = true
            · rw [if_pos aq, if_pos aq, hc]
              unfold pm_stn
              rcases Nat.lt_trichotomy (un q) (uc p) with s | s | s
              · rw [if_pos (by omega), if_neg (by omega), if_pos s]
              · rw [if_pos (by omega), if_pos s, if_neg (by omega), if_pos s]
              · rw [if_neg (by omega), if_neg (by omega), if_neg (by omega)]
            · rw [if_neg aq, if_neg aq]
      by_cases fe : ∀ b, b < t → pm_pdw w un cu d (p + 1) b ≤ x b
      · rw [if_pos fe, hk, pm_Bw]
        rw [if_pos fe] at st0
        refine Rl_fo ?_ t (fun b0 hb0 => ?_)
        · rw [← ad_0 (a := pm_Sg D w t g d (p + 1) x (pm_stn ch p 0))]
          exact Rl_as st0 rfl (cwq 0 cu (by funext v; unfold pm_stn; split <;> rename_i s; rw [s, cz]; rfl))
        · have f0 := fe b0 hb0
          by_cases q : 0 < x b0
          · rw [if_pos ⟨ok _, q⟩]
            have s := st1 b0 hb0 q
            by_cases y : sz (uc p) ≤ x b0 - pm_pdw w un cu d (p + 1) b0
            · rw [if_pos (fun b hb => by
                rw [pd1]
                have := fe b hb
                unfold pm_sbc
                by_cases s : b = b0
                · subst s; rw [if_pos rfl, if_pos rfl]; omega
                · rw [if_neg s, if_neg s]; omega)] at s
              rw [if_pos y]
              have fx : (fun b => pm_sbc x b0 1 b - pm_pdw w un (pm_stn cu (uc p) (b0 + 1)) d (p + 1) b) = pm_sbc (fun b => x b - pm_pdw w un cu d (p + 1) b) b0 (sz (uc p)) := by
                funext b
                rw [pd1]
                unfold pm_sbc
                by_cases s : b = b0
                · subst s; rw [if_pos rfl, if_pos rfl, if_pos rfl]; dsimp only; omega
                · rw [if_neg s, if_neg s, if_neg s]; dsimp only; omega
              rw [fx] at s
              exact Rl_as s (pg1 b0 hb0) (cwq (b0 + 1) _ rfl)
            · rw [if_neg (fun hh => y (by
                have := hh b0 hb0
                rw [pd1, if_pos rfl] at this
                unfold pm_sbc at this
                rw [if_pos rfl] at this
                omega))] at s
              rw [if_neg y]
              exact Rl_ad s (c' := pm_pg w un g cu d (p + 1) + gn (uc p) b0) (pg1 b0 hb0) (fun _ _ _ => rfl) |> Rl_n
          · rw [if_neg (fun s => q s.2), if_neg (by omega)]
            trivial
      · rw [if_neg fe]
        rw [if_neg fe] at st0
        have e0 := Rl_nn st0
        rw [e0, fo_s t (fun b0 hb0 => ?_)]
        · trivial
        · by_cases q : 0 < x b0
          · have s := st1 b0 hb0 q
            rw [if_neg (fun hh => fe (fun b hb => by
              have := hh b hb
              rw [pd1] at this
              unfold pm_sbc at this
              by_cases s : b = b0
              · subst s; rw [if_pos rfl, if_pos rfl] at this; omega
              · rw [if_neg s, if_neg s] at this; omega))] at s
            rw [if_pos ⟨ok _, q⟩, Rl_nn s]
            rfl
          · exact if_neg (fun s => q s.2)
