/-! BEST: the reference, done -/
section Bd7
variable {I : Nat → Nat → Int32} {J : Nat → Nat → Int64}
/-- what stands while it is made ready -/
def pm_DQ (n t : Nat) (D : Nat → Nat → Nat) (l0 : Nat) (k0 : Nat → Nat) (l1 : Nat) (k1 : Nat → Nat) (w : Nat → Int32) (I : Nat → Nat → Int32) : Prop := pm_MQ n t D l0 k0 l1 k1 I ∧ I 127 40 = nI 0 ∧ pm_ms n (I 144) w
theorem DQ_ag {n t l0 l1 : Nat} {D : Nat → Nat → Nat} {k0 k1 : Nat → Nat} {w : Nat → Int32} {I' : Nat → Nat → Int32} (h : pm_DQ n t D l0 k0 l1 k1 w I) (g : pm_ag [139, 140, 148, 149] [] I I') : pm_DQ n t D l0 k0 l1 k1 w I' := ⟨MQ_ag h.1 g rfl, by rw [g 127 40 (by decide) (by simp)]; exact h.2.1, by rw [ag_cell g (by decide) (by intro f; simp)]; exact h.2.2⟩
theorem l291b {n t l0 l1 b : Nat} {D : Nat → Nat → Nat} {k0 k1 : Nat → Nat} {w : Nat → Int32} (hi : pm_inv n w) (hb : b < t) : ∀ d p fu (I : Nat → Nat → Int32), p + d = n → pm_DQ n t D l0 k0 l1 k1 w I → (∀ q, q < p → I 148 (8 * b + q) = nI (pm_gN l0 k0 D n w q b)) → ∃ I', f291_L (fu + d + 1) 1 (nI b) (nI p) I J = f291_L fu 0 (nI (b + 1)) 0 I' J ∧ pm_ag [139, 140, 148, 149] [] I I' ∧ I' 149 = I 149 ∧ (∀ q, q < n → I' 148 (8 * b + q) = nI (pm_gN l0 k0 D n w q b)) ∧ ∀ j, j < 8 * b → I' 148 j = I 148 j := by
  intro d
  induction d with
  | zero =>
    intro p fu I hp hQ hq
    have n8 := hQ.1.1.2.2.2.1
    have e : p = n := by omega
    subst e
    refine ⟨I, ?_, ag_refl, rfl, hq, fun _ _ => rfl⟩
    rw [Nat.add_zero, f291_L, hQ.1.1.1, if_neg (by omega), nI_1]
  | succ d ih =>
    intro p fu I hp hQ hq
    have n8 := hQ.1.1.2.2.2.1
    have t5 := hQ.1.1.2.2.2.2.1
    obtain ⟨I2, e2⟩ := e289 (J := J) (x := 0) hQ.1.1 hQ.1.2.1 (show p < n by omega) hb (by omega) hQ.2.1 hQ.1.2.2.1 hQ.1.2.2.2.2.1 hQ.2.2
    have g2 := (fr_289 _ _ _ e2).1
    obtain ⟨gv, gb⟩ := gN_n (l := l0) (k := k0) hi hQ.1.2.1 (show p < n by omega) hb
    rw [gv] at e2
    have o2 : ∀ a, a ≠ 139 → a ≠ 140 → I2 a = I a := fun a h1 h2 => ag_cell g2 (by simp; omega) (by intro f; simp)
    have i8 : (8 : Int32) * nI b + nI p = nI (8 * b + p) := by rw [show (8 : Int32) = nI 8 from rfl, pk_mul, nI_add]
    have g3 : pm_ag [139, 140, 148, 149] [] I (pm_w I2 148 (8 * b + p) (nI (pm_gN l0 k0 D n w p b))) := ag_w (ag_mono g2 (by simp) (fun _ h => h)) (by simp)
    obtain ⟨I', e, g, x, q1, q2⟩ := ih (p + 1) fu (pm_w I2 148 (8 * b + p) (nI (pm_gN l0 k0 D n w p b))) (by omega) (DQ_ag hQ g3) (fun q hq2 => by
      by_cases y : q = p
      · rw [y, zt_ws]
      · rw [zt_wf (by omega), o2 148 (by decide) (by decide)]
        exact hq q (by omega))
    refine ⟨I', ?_, ag_trans g3 g (fun _ h => h) (fun _ h => h), by rw [x, zt_wc (by decide), o2 149 (by decide) (by decide)], q1, fun j hj => by rw [q2 j hj, zt_wf (by omega), o2 148 (by decide) (by decide)]⟩
    rw [show fu + (d + 1) + 1 = (fu + d + 1) + 1 by omega, f291_L, hQ.1.1.1, if_pos (by rw [nI_toInt (by omega), nI_toInt (by omega)]; omega), e2, zt_bind]
    dsimp only
    rw [i8, zt_in (show 8 * b + p < 40 by omega) (by omega), zt_gd, nI_clamp (by omega), pm_lt_eq, nI_1]
    exact e
theorem l291a {n t l0 l1 : Nat} {D : Nat → Nat → Nat} {k0 k1 : Nat → Nat} {w : Nat → Int32} (hi : pm_inv n w) : ∀ d b fu (I : Nat → Nat → Int32), b + d = t → 10 * d < fu → pm_DQ n t D l0 k0 l1 k1 w I → (∀ q c, q < n → c < b → I 148 (8 * c + q) = nI (pm_gN l0 k0 D n w q c)) → (∀ c, c < b → I 149 c = nI (D 7 c) - nI (pm_bdn w n c)) → ∃ I', f291_L fu 0 (nI b) 0 I J = (f292 0 0 (pm_w I' 127 50 (-1)) J).bind (fun (ov3, I4, J5) => some ((), I4, J5)) ∧ pm_ag [139, 140, 148, 149] [] I I' ∧ (∀ q c, q < n → c < t → I' 148 (8 * c + q) = nI (pm_gN l0 k0 D n w q c)) ∧ ∀ c, c < t → I' 149 c = nI (D 7 c) - nI (pm_bdn w n c) := by
  intro d
  induction d with
  | zero =>
    intro b fu I hb hf hQ h1 h2
    have t5 := hQ.1.1.2.2.2.2.1
    obtain ⟨fu, rfl⟩ : ∃ k, fu = k + 1 := ⟨fu - 1, by omega⟩
    have e : b = t := by omega
    subst e
    refine ⟨I, ?_, ag_refl, h1, h2⟩
    rw [f291_L, hQ.1.1.2.1, if_neg (by omega), pm_lt_eq]
  | succ d ih =>
    intro b fu I hb hf hQ h1 h2
    have n8 := hQ.1.1.2.2.2.1
    have t5 := hQ.1.1.2.2.2.2.1
    obtain ⟨fu, rfl⟩ : ∃ k, fu = k + n + 1 + 1 := ⟨fu - n - 2, by omega⟩
    have i3 : (3 : Int32) * nI b + 2 = nI (3 * b + 2) := by rw [show (3 : Int32) = nI 3 from rfl, pk_mul, show (2 : Int32) = nI 2 from rfl, nI_add]
    have bd : pm_cnt (fun p => decide (I 144 p = nI 2) && decide (I 144 (8 + p) = nI b)) n = pm_bdn w n b := cn_cong (fun p hp => by rw [hQ.2.2.1 p (by omega), hQ.2.2.1 (8 + p) (by omega)])
    have e9 := e259 (J := J) (x := nI b) hQ.1.1.1 n8
    rw [bd] at e9
    obtain ⟨I2, hI2⟩ : ∃ I2, I2 = pm_w I 149 b (nI (D 7 b) - nI (pm_bdn w n b)) := ⟨_, rfl⟩
    have g2 : pm_ag [139, 140, 148, 149] [] I I2 := by rw [hI2]; exact ag_w ag_refl (by simp)
    obtain ⟨I3, e3, g3, x3, q3, r3⟩ := l291b (J := J) (l1 := l1) (k1 := k1) hi (show b < t by omega) n 0 fu I2 (by omega) (DQ_ag hQ g2) (fun q hq => by omega)
    rw [nI_0] at e3
    have g3' := ag_trans g2 g3 (fun _ h => h) (fun _ h => h)
    obtain ⟨I', e, g, q1, q2⟩ := ih (b + 1) fu I3 (by omega) (by omega) (DQ_ag hQ g3') (fun q c hq hc => by
      by_cases y : c = b
      · rw [y]; exact q3 q hq
      · rw [r3 _ (by omega), hI2, zt_wc (by decide)]
        exact h1 q c hq (by omega)) (fun c hc => by
      rw [x3, hI2]
      by_cases y : c = b
      · rw [y, zt_ws]
      · rw [zt_wf y]
        exact h2 c (by omega))
    refine ⟨I', ?_, ag_trans g3' g (fun _ h => h) (fun _ h => h), q1, q2⟩
    rw [f291_L, hQ.1.1.2.1, if_pos (by rw [nI_toInt (by omega), nI_toInt (by omega)]; omega), i3, zt_in (show 3 * b + 2 < 15 by omega) (by omega), zt_gd, e9, zt_bind]
    dsimp only
    rw [zt_in (show b < 5 by omega) (by omega), zt_gd, nI_clamp (show b < 2 ^ 31 by omega), nI_clamp (by omega), (hQ.1.1.2.2.2.2.2.2 b (by omega)).2.2, pm_lt_eq, ← hI2, e3]
    exact e
/-- the reference's best -/
theorem e291 {n t l0 l1 T : Nat} {D : Nat → Nat → Nat} {k0 k1 y : Nat → Nat} {w : Nat → Int32} (hQ : pm_MQ n t D l0 k0 l1 k1 I) (hs : pm_ms n (I 143) w) (hi : pm_inv n w) (hB : pm_Bw t (pm_uz D w n) (pm_ug D w (pm_gN l0 k0 D n w) n) (pm_ut D w n).2 0 (pm_xr D w n) = some (T, y)) : ∃ I', f291 I J = some ((), I', J) ∧ I' 127 50 = nI T ∧ ∀ q, q < n → I' 151 q = pm_eI (if pm_ash w q = true then y ((pm_ut D w n).1 q) else 0) := by
  have n8 := hQ.1.2.2.2.1
  have t5 := hQ.1.2.2.2.2.1
  obtain ⟨I1, e1, s1, ru1, _, _, g1⟩ := e253 (J := J) hs
  have Q1 := MQ_ag hQ g1 rfl
  obtain ⟨I2, e2, g2, q2, r2⟩ := l291a (J := J) (l1 := l1) (k1 := k1) hi t 0 pm_FU I1 (by omega) (by unfold pm_FU; omega) ⟨Q1, ru1, s1⟩ (fun q c hq hc => by omega) (fun c hc => by omega)
  rw [nI_0] at e2
  have D2 := DQ_ag ⟨Q1, ru1, s1⟩ g2
  have g3 : pm_ag [149, 150, 151] [(127, 50)] I2 (pm_w I2 127 50 (-1)) := ag_w ag_refl (by simp)
  have S3 : pm_DS n t D w (pm_gN l0 k0 D n w) (pm_w I2 127 50 (-1)) := DS_ag ⟨D2.1.1, fun q hq => D2.2.2.1 q (by omega), fun p b hp hb => q2 p b hp hb⟩ g3
  have ofn : ∀ m : Nat, nI m = Int32.ofInt (m : Int) := fun m => rfl
  obtain ⟨I4, e4, _, _, _, B4⟩ := l292 (J := J) (w := w) (g := pm_gN l0 k0 D n w) hQ.2.1 (fun p b hp hb => (gN_n hi hQ.2.1 hp hb).2) n 0 pm_FU 40 0 (fun _ => 0) (fun b => (D 7 b : Int) - (pm_bdn w n b : Int)) (pm_w I2 127 50 (-1)) none (by omega) (by unfold pm_FU; omega) (by omega) (by omega) S3 (fun q hq => by omega) (fun _ => Nat.zero_le _) (fun b hb => by
    have d7 := (hQ.2.1.2.1 b hb).2.2.2
    have c8 : pm_bdn w n b ≤ n := cn_le _ _
    refine ⟨?_, by dsimp only; omega, by dsimp only; omega⟩
    rw [zt_wc (by decide), r2 b hb, ofn, ofn, ← Int32.ofInt_sub]) (by show pm_w I2 127 50 (-1) 127 50 = -1; exact zt_ws)
  rw [nI_0] at e4
  have ex : (fun b => ((D 7 b : Int) - (pm_bdn w n b : Int)).toNat) = pm_xr D w n := by
    funext b
    unfold pm_xr
    omega
  obtain ⟨v, sv, vq⟩ := Sg_ut (ch := fun _ => 0) hB
  rw [ex, sv] at B4
  obtain ⟨_, b2, b3⟩ : T + 0 ≤ 9000 ∧ I4 127 50 = nI (T + 0) ∧ ∀ q, q < n → I4 151 q = pm_eI (v q) := B4
  refine ⟨I4, ?_, b2, fun q hq => by rw [b3 q hq, vq q hq]⟩
  unfold f291
  rw [e1, zt_bind]
  dsimp only
  rw [e2]
  unfold f292
  rw [e4]
  rfl
theorem l290 {n : Nat} {v : Nat → Nat} (n8 : n ≤ 8) (hn : I 127 18 = nI n) (hv : ∀ q, q < n → v q ≤ 5 ∧ I 151 q = pm_eI (v q)) : ∀ d q fu, q + d = n → d < fu → f290_39 fu (nI (pm_cnt (fun q => decide (v q ≠ 0)) q)) (nI q) I J = some (nI (pm_cnt (fun q => decide (v q ≠ 0)) n), I, J) := by
  intro d
  induction d with
  | zero =>
    intro q fu hq hf
    obtain ⟨fu, rfl⟩ : ∃ k, fu = k + 1 := ⟨fu - 1, by omega⟩
    have e : q = n := by omega
    subst e
    rw [f290_39, hn, if_neg (by omega)]
  | succ d ih =>
    intro q fu hq hf
    obtain ⟨fu, rfl⟩ : ∃ k, fu = k + 1 := ⟨fu - 1, by omega⟩
    obtain ⟨v1, v2⟩ := hv q (by omega)
    have := ih (q + 1) fu (by omega) (by omega)
    rw [f290_39, hn, if_pos (by rw [nI_toInt (by omega), nI_toInt (by omega)]; omega), zt_in (show q < 8 by omega) (by omega), zt_gd, nI_clamp (by omega), v2, nI_1, nI_1]
    rw [pm_cnt] at this
    by_cases c : v q = 0
    · rw [if_pos (by rw [c]; rfl)]
      rw [if_neg (by rw [decide_eq_false (fun y => y c)]; decide), Nat.add_zero] at this
      rw [Int32.add_zero]
      exact this
    · rw [if_neg (show ¬ pm_eI (v q) = -1 from fun y => c ((eI_inj' (v q) (by omega) 0 (by omega)).mp y))]
      rw [if_pos (decide_eq_true c)] at this
      exact this
/-- how many are placed -/
theorem pl_eq {D : Nat → Nat → Nat} {w : Nat → Int32} {n : Nat} {y : Nat → Nat} : pm_su (fun u => if y u = 0 then 0 else pm_uz D w n u) (pm_ut D w n).2 = pm_cnt (fun q => decide ((if pm_ash w q = true then y ((pm_ut D w n).1 q) else 0) ≠ 0)) n := by
  have e := su_swap (Q := fun u q => decide (y u ≠ 0) && (pm_ash w q && decide ((pm_ut D w n).1 q = u))) (n := n) (m := (pm_ut D w n).2)
  rw [su_cong (g := fun i => pm_cnt (fun j => decide (y i ≠ 0) && (pm_ash w j && decide ((pm_ut D w n).1 j = i))) n) (fun u hu => ?_), e, ← su_cnt]
  · refine su_cong (fun q hq => ?_)
    by_cases a : pm_ash w q = true
    · rw [if_pos a, a]
      by_cases c : y ((pm_ut D w n).1 q) = 0
      · rw [if_neg (by rw [decide_eq_false (fun z => z c)]; decide)]
        refine cn_none (fun u hu => ?_)
        by_cases s : (pm_ut D w n).1 q = u
        · rw [← s, decide_eq_false (fun z => z c)]; rfl
        · rw [decide_eq_false s, Bool.and_false, Bool.and_false]
      · rw [if_pos (decide_eq_true c), ← cn_e1 _ ((ut_lt (D := D) (w := w) n).2 q hq a)]
        refine cn_cong (fun u hu => ?_)
        by_cases s : (pm_ut D w n).1 q = u
        · rw [decide_eq_true s, ← s, decide_eq_true c]; rfl
        · rw [decide_eq_false s, Bool.and_false, Bool.and_false]
    · rw [if_neg a, if_neg (by decide)]
      exact cn_none (fun i _ => by rw [Bool.eq_false_iff.mpr a, Bool.false_and, Bool.and_false])
  · by_cases c : y u = 0
    · rw [if_pos c]
      exact (cn_none (fun i _ => by rw [decide_eq_false (fun z => z c), Bool.false_and])).symm
    · rw [if_neg c]
      exact cn_cong (fun i _ => by rw [decide_eq_true c, Bool.true_and])
end Bd7
