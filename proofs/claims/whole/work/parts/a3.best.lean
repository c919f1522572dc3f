/-! BEST: the reference goes through all ways -/
section Bd6
variable {J : Nat → Nat → Int64}
/-- what a try leaves -/
def pm_DE (n p : Nat) (o : Option (Nat × (Nat → Nat))) (I I' : Nat → Nat → Int32) : Prop := pm_ag [149, 150, 151] [(127, 50)] I I' ∧ I' 149 = I 149 ∧ (∀ q, q < p → I' 150 q = I 150 q) ∧ pm_BS n o I'
def pm_prf (F : Nat → Option (Nat × (Nat → Nat))) (s : Option (Nat × (Nat → Nat))) (e : Nat) : Option (Nat × (Nat → Nat)) := match e with
  | 0 => none
  | b + 1 => pm_fo F b s
theorem l292 {n t : Nat} {D : Nat → Nat → Nat} {w : Nat → Int32} {g : Nat → Nat → Nat} (hD : pm_DR n t D) (hg : ∀ p b, p < n → b < t → g p b ≤ 775) : ∀ d p fu dep T0 ch z (I : Nat → Nat → Int32) cur, p + d = n → 8 * d < fu → d < dep → T0 ≤ 1000 * p → pm_DS n t D w g I → (∀ q, q < p → I 150 q = pm_eI (ch q)) → (∀ q, ch q ≤ t) → pm_RZ t z I → pm_BS n cur I → ∃ I', g292 fu dep 0 (nI p) (nI T0) 0 I J = some ((), I', J) ∧ pm_DE n p (pm_cb cur (pm_ad T0 (pm_Sg D w t g d p (fun b => (z b).toNat) ch))) I I' := by
  intro d
  induction d with
  | zero =>
    intro p fu dep T0 ch z I cur hp hf hd hT hS hc hch hz hB
    have n8 := hS.1.2.2.2.1
    obtain ⟨fu, rfl⟩ : ∃ k, fu = k + 1 := ⟨fu - 1, by omega⟩
    obtain ⟨dep, rfl⟩ : ∃ k, dep = k + 1 := ⟨dep - 1, by omega⟩
    have e : p = n := by omega
    subst e
    have cpy := fun (I : Nat → Nat → Int32) => e218 (I := I) (J := J) (a1 := 150) (n1 := 8) (a2 := 151) (n2 := 8) (c := 8) (by decide) (by decide) (by decide) (by decide)
    have new : ∃ I', (pm_lt (pm_w I 127 50 (nI T0)) (fun I11 => (f218 150 8 151 8 8 I11 J).bind (fun (ov12, I13, J14) => some ((), I13, J14)))) = some ((), I', J) ∧ pm_DE p p (some (0 + T0, ch)) I I' := by
      refine ⟨_, by rw [pm_lt_eq, show (8 : Int32) = nI 8 from rfl, cpy, zt_bind], ?_, ?_, fun q hq => ?_, by omega, ?_, fun q hq => ?_⟩
      · intro a f ha hf2
        have a1 : a ≠ 151 := fun y => ha (by rw [y]; decide)
        rw [show va_up (pm_w I 127 50 (nI T0)) 151 (pm_fil (pm_w I 127 50 (nI T0) 150) (pm_w I 127 50 (nI T0) 151) 8) a = pm_w I 127 50 (nI T0) a from if_neg a1]
        exact zt_w2 (fun y => hf2 (by rw [y.1, y.2]; decide))
      · rfl
      · rfl
      · rw [Nat.zero_add]
        show pm_w I 127 50 (nI T0) 127 50 = nI T0
        exact zt_ws
      · show pm_fil (pm_w I 127 50 (nI T0) 150) (pm_w I 127 50 (nI T0) 151) 8 q = _
        rw [fil_in (by omega), zt_wc (by decide)]
        exact hc q hq
    rw [g292, if_pos hS.1.1.symm, nI_toInt (by omega)]
    show ∃ I', _ ∧ pm_DE p p (pm_cb cur (some (0 + T0, ch))) I I'
    cases cur with
    | none =>
      have h50 : I 127 50 = -1 := hB
      rw [h50, if_pos (by show (-1 : Int) < _; omega)]
      exact new
    | some x =>
      obtain ⟨b1, b2, b3⟩ := hB
      rw [b2, nI_toInt (by omega)]
      show ∃ I', _ ∧ pm_DE p p (if x.1 < 0 + T0 then some (0 + T0, ch) else some x) I I'
      by_cases c : x.1 < T0
      · rw [if_pos (by omega), if_pos (by omega)]
        exact new
      · rw [if_neg (by omega), if_neg (by omega)]
        exact ⟨I, rfl, ag_refl, rfl, fun _ _ => rfl, b1, b2, b3⟩
  | succ d ih =>
    intro p fu dep T0 ch z I cur hp hf hd hT hS hc hch hz hB
    have n8 := hS.1.2.2.2.1
    have t5 := hS.1.2.2.2.2.1
    obtain ⟨fu, rfl⟩ : ∃ k, fu = k + 1 := ⟨fu - 1, by omega⟩
    obtain ⟨dep, rfl⟩ : ∃ k, dep = k + 1 := ⟨dep - 1, by omega⟩
    -- one goes with e
    have sub : ∀ e fu T1 z' (I2 : Nat → Nat → Int32) cu, e ≤ t → 8 * d < fu → T1 ≤ 1000 * (p + 1) → pm_DS n t D w g I2 → I2 150 p = pm_eI e → (∀ q, q < p → I2 150 q = pm_eI (ch q)) → pm_RZ t z' I2 → pm_BS n cu I2 → ∃ I', g292 fu dep 0 (nI (p + 1)) (nI T1) 0 I2 J = some ((), I', J) ∧ pm_DE n (p + 1) (pm_cb cu (pm_ad T1 (pm_Sg D w t g d (p + 1) (fun b => (z' b).toNat) (pm_stn ch p e)))) I2 I' := fun e fu T1 z' I2 cu he hfu hT1 hS2 hpe hpq hz2 hB2 => ih (p + 1) fu dep T1 (pm_stn ch p e) z' I2 cu (by omega) hfu (by omega) hT1 hS2 (fun q hq => by
      by_cases y : q = p
      · rw [y, hpe, show pm_stn ch p e p = e from if_pos rfl]
      · rw [hpq q (by omega), show pm_stn ch p e q = ch q from if_neg y]) (fun q => by
      unfold pm_stn
      split
      · exact he
      · exact hch q) hz2 hB2
    have wS : ∀ (I : Nat → Nat → Int32) a f x, (a = 149 ∨ a = 150) → pm_DS n t D w g I → pm_DS n t D w g (pm_w I a f x) := fun I a f x ha h => DS_ag h (ag_w ag_refl (by rcases ha with rfl | rfl <;> simp))
    have wB : ∀ (I : Nat → Nat → Int32) a f x cu, (a = 149 ∨ a = 150) → pm_BS n cu I → pm_BS n cu (pm_w I a f x) := fun I a f x cu ha h => BS_c h (by rw [zt_wc (by omega)]) (by rw [zt_wc (by omega)])
    rw [g292, if_neg (show ¬ nI p = I 127 18 by rw [hS.1.1, zt_eq (by omega) (by omega)]; omega), show (0 : Int32) + nI p = nI p by rw [Int32.zero_add], zt_in (show p < 66 by omega) (by omega), zt_gd, nI_clamp (by omega), hS.2.1 p (by omega), zt_in (show p < 8 by omega) (by omega), zt_gd, pm_lt_eq, nI_1]
    by_cases a : pm_ash w p = true
    · rw [if_pos (show w p = 1 from of_decide_eq_true a)]
      rw [pm_Sg, if_pos a]
      obtain ⟨s, hs⟩ : ∃ s, s = (if pm_okp D w ch p 0 = true then pm_Sg D w t g d (p + 1) (fun b => (z b).toNat) (pm_stn ch p 0) else none) := ⟨_, rfl⟩
      obtain ⟨F, hF⟩ : ∃ F : Nat → Option (Nat × (Nat → Nat)), F = (fun b => if pm_okp D w ch p (b + 1) = true ∧ 0 < (z b).toNat then pm_ad (g p b) (pm_Sg D w t g d (p + 1) (pm_sbc (fun b => (z b).toNat) b 1) (pm_stn ch p (b + 1))) else none) := ⟨_, rfl⟩
      rw [← hs, ← hF]
      have loop : ∀ m e fu (I : Nat → Nat → Int32), e + m = t + 1 → 8 * d + m + 1 ≤ fu → pm_DS n t D w g I → (∀ q, q < p → I 150 q = pm_eI (ch q)) → pm_RZ t z I → pm_BS n (pm_cb cur (pm_ad T0 (pm_prf F s e))) I → ∃ I', g292 fu (dep + 1) 1 (nI p) (nI T0) (pm_eI e) I J = some ((), I', J) ∧ pm_DE n p (pm_cb cur (pm_ad T0 (pm_fo F t s))) I I' := by
        intro m
        induction m with
        | zero =>
          intro e fu I he hfu hS hc hz hB
          obtain ⟨fu, rfl⟩ : ∃ k, fu = k + 1 := ⟨fu - 1, by omega⟩
          have e1 : e = t + 1 := by omega
          subst e1
          refine ⟨I, ?_, ag_refl, rfl, fun _ _ => rfl, hB⟩
          rw [g292, hS.1.2.1, eI_i' _ (by omega), nI_toInt (by omega), if_neg (by omega)]
        | succ m ihm =>
          intro e fu I he hfu hS hc hz hB
          obtain ⟨fu, rfl⟩ : ∃ k, fu = k + 1 := ⟨fu - 1, by omega⟩
          obtain ⟨v, v1, v2⟩ := e293 (J := J) hS hD (show p < n by omega) (show e ≤ t by omega) hc hch hz
          rw [g292, hS.1.2.1, eI_i' _ (by omega), nI_toInt (by omega), if_pos (by omega), v1, zt_bind]
          dsimp only
          rw [eI_s' _ (by omega)]
          by_cases ok : v = true
          · rw [if_pos ok, zt_in (show p < 8 by omega) (by omega), zt_gd, nI_clamp (by omega), pm_lt_eq]
            obtain ⟨o1, o2⟩ := v2.mp ok
            by_cases c : e = 0
            · subst c
              have es : s = pm_Sg D w t g d (p + 1) (fun b => (z b).toNat) (pm_stn ch p 0) := by rw [hs, if_pos o1]
              rw [if_pos (show pm_eI 0 = -1 from rfl), if_pos (show pm_eI 0 = -1 from rfl), nI_1]
              obtain ⟨I3, e3, g3, x3, c3, B3⟩ := sub 0 fu T0 z (pm_w I 150 p (pm_eI 0)) _ (by omega) (by omega) (by omega) (wS I 150 p _ (.inr rfl) hS) zt_ws (fun q hq => by rw [zt_wf (by omega)]; exact hc q hq) (fun b hb => by rw [zt_wc (by decide)]; exact hz b hb) (wB I 150 p _ _ (.inr rfl) hB)
              rw [e3, zt_bind]
              dsimp only
              rw [if_pos (show pm_eI 0 = -1 from rfl)]
              have g3' : pm_ag [149, 150, 151] [(127, 50)] I I3 := ag_trans (ag_w ag_refl (by simp)) g3 (fun _ h => h) (fun _ h => h)
              have c3' : ∀ q, q < p → I3 150 q = I 150 q := fun q hq => by rw [c3 q (by omega), zt_wf (by omega)]
              have x3' : I3 149 = I 149 := by rw [x3, zt_wc (by decide)]
              rw [← es, cb_as, ← ad_cb] at B3
              obtain ⟨I', e4, g4, x4, c4, B4⟩ := ihm 1 fu I3 (by omega) (by omega) (DS_ag hS g3') (fun q hq => by rw [c3' q hq]; exact hc q hq) (fun b hb => by rw [x3']; exact hz b hb) B3
              exact ⟨I', e4, ag_trans g3' g4 (fun _ h => h) (fun _ h => h), x4.trans x3', fun q hq => (c4 q hq).trans (c3' q hq), B4⟩
            · obtain ⟨b, rfl⟩ : ∃ b, e = b + 1 := ⟨e - 1, by omega⟩
              have zb : 0 < z b := by
                rcases o2 with y | y
                · omega
                · exact y
              obtain ⟨zb1, zb2, zb3⟩ := hz b (by omega)
              have nb : ¬ nI b = -1 := by rw [zt_m1', zt_eqm (by omega)]; exact id
              have eF : F b = pm_ad (g p b) (pm_Sg D w t g d (p + 1) (pm_sbc (fun b => (z b).toNat) b 1) (pm_stn ch p (b + 1))) := by rw [hF]; exact if_pos ⟨o1, by omega⟩
              have i8 : (8 : Int32) * nI b + nI p = nI (8 * b + p) := by rw [show (8 : Int32) = nI 8 from rfl, pk_mul, nI_add]
              rw [eI_b b, if_neg nb, zt_in (show b < 5 by omega) (by omega)]
              simp only [zt_gd]
              rw [nI_clamp (by omega), pm_lt_eq, if_neg nb, i8, zt_in (show 8 * b + p < 40 by omega) (by omega)]
              simp only [zt_gd]
              rw [nI_clamp (show 8 * b + p < 2 ^ 31 by omega), nI_1]
              obtain ⟨I2, hI2⟩ : ∃ I2, I2 = pm_w (pm_w I 150 p (nI b)) 149 b (pm_w I 150 p (nI b) 149 b - 1) := ⟨_, rfl⟩
              rw [← hI2]
              have S2 : pm_DS n t D w g I2 := by rw [hI2]; exact wS _ 149 b _ (.inl rfl) (wS I 150 p _ (.inr rfl) hS)
              have gb := hg p b (by omega) (by omega)
              rw [S2.2.2 p b (by omega) (by omega), nI_add]
              obtain ⟨z', hz'⟩ : ∃ z' : Nat → Int, z' = (fun q => if q = b then z b - 1 else z q) := ⟨_, rfl⟩
              have ex : (fun b => (z' b).toNat) = pm_sbc (fun b => (z b).toNat) b 1 := by
                funext q
                rw [hz']
                unfold pm_sbc
                dsimp only
                by_cases y : q = b
                · rw [if_pos y, if_pos y, y]; omega
                · rw [if_neg y, if_neg y]
              obtain ⟨I3, e3, g3, x3, c3, B3⟩ := sub (b + 1) fu (T0 + g p b) z' I2 _ (by omega) (by omega) (by omega) S2 (by rw [hI2, zt_wc (by decide), zt_ws, eI_b]) (fun q hq => by rw [hI2, zt_wc (by decide), zt_wf (by omega)]; exact hc q hq) (fun q hq => by
                rw [hI2, hz']
                dsimp only
                by_cases y : q = b
                · rw [if_pos y, y, zt_ws, zt_wc (by decide), zb1]
                  exact ⟨(Int32.ofInt_sub (z b) 1).symm, by omega, by omega⟩
                · rw [if_neg y, zt_wf y, zt_wc (by decide)]
                  exact hz q hq) (by rw [hI2]; exact wB _ 149 b _ _ (.inl rfl) (wB I 150 p _ _ (.inr rfl) hB))
              rw [e3, zt_bind]
              dsimp only
              rw [if_neg nb, pm_lt_eq]
              have g2 : pm_ag [149, 150, 151] [(127, 50)] I I2 := by rw [hI2]; exact ag_w (ag_w ag_refl (by simp)) (by simp)
              obtain ⟨I4, hI4⟩ : ∃ I4, I4 = pm_w I3 149 b (I3 149 b + 1) := ⟨_, rfl⟩
              rw [← hI4]
              have g4 : pm_ag [149, 150, 151] [(127, 50)] I I4 := by rw [hI4]; exact ag_w (ag_trans g2 g3 (fun _ h => h) (fun _ h => h)) (by simp)
              have c4 : ∀ q, q < p → I4 150 q = I 150 q := fun q hq => by rw [hI4, zt_wc (by decide), c3 q (by omega), hI2, zt_wc (by decide), zt_wf (by omega)]
              have x4 : I4 149 = I 149 := by
                funext q
                rw [hI4]
                by_cases y : q = b
                · rw [y, zt_ws, x3, hI2, zt_ws, zt_wc (by decide), Int32.sub_add_cancel]
                · rw [zt_wf y, x3, hI2, zt_wf y, zt_wc (by decide)]
              rw [ex, ← ad_ad, ← eF, cb_as, ← ad_cb] at B3
              obtain ⟨I', e5, g5, x5, c5, B5⟩ := ihm (b + 1 + 1) fu I4 (by omega) (by omega) (DS_ag hS g4) (fun q hq => by rw [c4 q hq]; exact hc q hq) (fun b hb => by rw [x4]; exact hz b hb) (by rw [hI4]; exact wB _ 149 b _ _ (.inl rfl) B3)
              rw [eI_b] at e5
              rw [← nI_1] at e5
              refine ⟨I', ?_, ag_trans g4 g5 (fun _ h => h) (fun _ h => h), x5.trans x4, fun q hq => (c5 q hq).trans (c4 q hq), B5⟩
              first
                | exact e5
                | (rw [eI_b, ← nI_1]; exact e5)
          · rw [if_neg ok]
            have no : ¬ (pm_okp D w ch p e = true ∧ (e = 0 ∨ 0 < z (e - 1))) := fun y => ok (v2.mpr y)
            have pe : pm_prf F s (e + 1) = pm_prf F s e := by
              cases e with
              | zero =>
                show s = none
                rw [hs]
                exact if_neg (fun y => no ⟨y, .inl rfl⟩)
              | succ b =>
                show pm_cb (pm_fo F b s) (F b) = pm_fo F b s
                have : F b = none := by
                  rw [hF]
                  exact if_neg (fun y => no ⟨y.1, .inr (by rw [Nat.add_sub_cancel]; omega)⟩)
                rw [this, cb_n]
            exact ihm (e + 1) fu I (by omega) (by omega) hS hc hz (by rw [pe]; exact hB)
      exact loop (t + 1) 0 fu I (by omega) (by omega) hS hc hz (by
        show pm_BS n (pm_cb cur none) I
        rw [cb_n]
        exact hB)
    · rw [if_neg (show ¬ w p = 1 from fun y => a (decide_eq_true y)), pm_Sg, if_neg a]
      obtain ⟨I3, e3, g3, x3, c3, B3⟩ := sub 0 fu T0 z (pm_w I 150 p (-1)) cur (by omega) (by omega) (by omega) (wS I 150 p _ (.inr rfl) hS) zt_ws (fun q hq => by rw [zt_wf (by omega)]; exact hc q hq) (fun b hb => by rw [zt_wc (by decide)]; exact hz b hb) (wB I 150 p _ _ (.inr rfl) hB)
      rw [e3, zt_bind]
      exact ⟨I3, rfl, ag_trans (ag_w ag_refl (by simp)) g3 (fun _ h => h) (fun _ h => h), by rw [x3, zt_wc (by decide)], fun q hq => by rw [c3 q (by omega), zt_wf (by omega)], B3⟩
end Bd6
