/-! TERMS: the class's side -/
def pm_tf (X Y : Nat → Nat) (a : Nat) : Nat → Nat → Bool
  | _, 0 => true
  | i, d + 1 => decide (a - X i = Y i) && pm_tf X Y a (i + 1) d
def pm_tcd (i : Nat) : Nat := 100 * (i / 25 + 1) + i % 25
def pm_T4 (A : Nat → Nat) (F : Nat → Bool) : Nat → Nat × Nat × Nat × Nat
  | 0 => (0, 0, 0, 0)
  | i + 1 => if F i = true then ((pm_T4 A F i).1 + 1, (if (pm_T4 A F i).1 = 0 then pm_tcd i else (pm_T4 A F i).2.1), (if (pm_T4 A F i).1 = 0 then A i else Nat.min (pm_T4 A F i).2.2.1 (A i)), (if (pm_T4 A F i).1 = 0 then A i else Nat.max (pm_T4 A F i).2.2.2 (A i))) else pm_T4 A F i
def pm_om (m x : Nat) : Int32 := if m = 0 then pm_m1 else nI x
theorem T4_n {A : Nat → Nat} {F : Nat → Bool} {i : Nat} (h : F i = false) : pm_T4 A F (i + 1) = pm_T4 A F i := by
  rw [pm_T4, h, if_neg (by decide)]
theorem T4_y {A : Nat → Nat} {F : Nat → Bool} {i : Nat} (h : F i = true) : pm_T4 A F (i + 1) = ((pm_T4 A F i).1 + 1, (if (pm_T4 A F i).1 = 0 then pm_tcd i else (pm_T4 A F i).2.1), (if (pm_T4 A F i).1 = 0 then A i else Nat.min (pm_T4 A F i).2.2.1 (A i)), (if (pm_T4 A F i).1 = 0 then A i else Nat.max (pm_T4 A F i).2.2.2 (A i))) := by
  rw [pm_T4, h, if_pos rfl]
theorem T4_m {A : Nat → Nat} {F : Nat → Bool} : ∀ i : Nat, (pm_T4 A F i).1 = pm_cnt F i
  | 0 => rfl
  | i + 1 => by
    have e := T4_m (A := A) (F := F) i
    unfold pm_cnt
    by_cases c : F i = true
    · rw [T4_y c, if_pos c, e]
    · rw [T4_n (by simpa using c), if_neg c, e, Nat.add_zero]
theorem T4_b {A : Nat → Nat} {F : Nat → Bool} (hA : ∀ i, i < 225 → A i ≤ 999) : ∀ i : Nat, i ≤ 225 → (pm_T4 A F i).1 ≤ i ∧ (pm_T4 A F i).2.1 ≤ 999 ∧ (pm_T4 A F i).2.2.1 ≤ 999 ∧ (pm_T4 A F i).2.2.2 ≤ 999
  | 0, _ => ⟨Nat.zero_le _, Nat.zero_le _, Nat.zero_le _, Nat.zero_le _⟩
  | i + 1, hi => by
    obtain ⟨e1, e2, e3, e4⟩ := T4_b (F := F) hA i (by omega)
    have a := hA i (by omega)
    by_cases c : F i = true
    · rw [T4_y c]
      have q : pm_tcd i ≤ 999 := by unfold pm_tcd; omega
      refine ⟨by show _ + 1 ≤ _; omega, ?_, ?_, ?_⟩
      · show (if _ then _ else _) ≤ _
        split <;> omega
      · show (if _ then _ else _) ≤ _
        split
        · omega
        · exact Nat.le_trans (Nat.min_le_right _ _) a
      · show (if _ then _ else _) ≤ _
        split
        · omega
        · exact Nat.max_le.mpr ⟨e4, a⟩
    · rw [T4_n (by simpa using c)]
      exact ⟨by omega, e2, e3, e4⟩
theorem sub_mx {a x : Nat} (ha : a < 2 ^ 30) (hx : x < 2 ^ 30) : pm_max 0 (nI a - nI x) = nI (a - x) := by
  have h0 : ((0 : Int32)).toInt = 0 := by decide
  have hs := pk_sub_toInt (a := a) (b := x) ha hx
  unfold pm_max
  rw [h0, hs]
  by_cases c : x < a
  · rw [if_pos (by omega), zt_mi (by omega)]
  · rw [if_neg (by omega), show a - x = 0 by omega]
    rfl
def pm_BK (k b : Nat) (X Y : Nat → Nat) (I : Nat → Nat → Int32) : Prop := (k = 121 ∨ k = 124) ∧ b ≤ 8 ∧ I k 2 = nI b ∧ ∀ i, i < b → X i ≤ 499 ∧ Y i ≤ 999 ∧ I (k + 1) i = nI (X i) ∧ I (k + 2) i = nI (Y i)
def pm_MB (b : Nat) (X Y : Nat → Nat) (I : Nat → Nat → Int32) : Prop := I 127 45 = nI b ∧ ∀ i, i < b → I 147 (2 * i) = nI (X i) ∧ I 147 (2 * i + 1) = nI (Y i)
def pm_TS (A : Nat → Nat) (F : Nat → Bool) (i : Nat) (I : Nat → Nat → Int32) : Prop := I 102 1 = nI (pm_T4 A F i).1 ∧ I 102 2 = pm_om (pm_T4 A F i).1 (pm_T4 A F i).2.1 ∧ I 102 3 = pm_om (pm_T4 A F i).1 (pm_T4 A F i).2.2.1 ∧ I 102 4 = pm_om (pm_T4 A F i).1 (pm_T4 A F i).2.2.2 ∧ ∀ a, a < 1000 → I 103 a = nI (pm_cnt (fun j => F j && decide (A j = a)) i)
section Te
variable {I : Nat → Nat → Int32} {J : Nat → Nat → Int64} {r k : Nat}
theorem l14 {b a : Nat} {X Y : Nat → Nat} (hB : pm_BK k b X Y I) (ha : a ≤ 999) : ∀ d i fu : Nat, i + d = b → d < fu → f14_2 k fu (nI a) (nI i) I J = some (pm_tf X Y a i d, I, J) := by
  obtain ⟨hk, h8, hb, hx⟩ := hB
  intro d
  induction d with
  | zero =>
    intro i fu hi hf
    obtain ⟨fu, rfl⟩ : ∃ k, fu = k + 1 := ⟨fu - 1, by omega⟩
    rw [f14_2, hb, if_neg (by rw [nI_toInt (by omega), nI_toInt (by omega)]; omega)]
    rfl
  | succ d ih =>
    intro i fu hi hf
    obtain ⟨fu, rfl⟩ : ∃ k, fu = k + 1 := ⟨fu - 1, by omega⟩
    obtain ⟨x1, x2, x3, x4⟩ := hx i (by omega)
    have e := ih (i + 1) fu (by omega) (by omega)
    rw [f14_2, hb, if_pos (by rw [nI_toInt (by omega), nI_toInt (by omega)]; omega), zt_at (by omega) (by omega), zt_at (by omega) (by omega), x3, x4, sub_mx (by omega) (by omega), nI_1, pm_tf]
    by_cases c : a - X i = Y i
    · rw [if_pos (by rw [c]), e, decide_eq_true c, Bool.true_and]
    · rw [if_neg (by rw [zt_eq (by omega) (by omega)]; exact c), decide_eq_false c, Bool.false_and]
theorem e14 {b a : Nat} {X Y : Nat → Nat} (hB : pm_BK k b X Y I) (ha : a ≤ 999) : f14 k (nI a) I J = some (pm_tf X Y a 0 b, I, J) := by
  have e := l14 (J := J) hB ha b 0 pm_FU (by omega) (by have := hB.2.1; unfold pm_FU; omega)
  rw [nI_0] at e
  exact e
theorem e145 {A : Nat → Nat} {F : Nat → Bool} {i : Nat} (hA : ∀ i, i < 225 → A i ≤ 999) (hi : i < 225) (hF : F i = true) (h : pm_TS A F i I) : ∃ I', f145 (nI (pm_tcd i)) (nI (A i)) I J = some ((), I', J) ∧ pm_TS A F (i + 1) I' := by
  obtain ⟨h1, h2, h3, h4, h5⟩ := h
  obtain ⟨b1, b2, b3, b4⟩ := T4_b (F := F) hA i (by omega)
  have ha := hA i hi
  have hc : pm_cnt (fun j => F j && decide (A j = A i)) i ≤ i := cn_le _ _
  have h5i := h5 (A i) (by omega)
  have hh : ∀ I1 : Nat → Nat → Int32, I1 103 = I 103 → ∀ a, a < 1000 → upd (I1 103) (A i) (I1 103 (A i) + nI 1) a = nI (pm_cnt (fun j => F j && decide (A j = a)) (i + 1)) := by
    intro I1 e1 a hlt
    rw [e1, pm_cnt]
    by_cases c : A i = a
    · subst c
      rw [zt_us, h5i, nI_add, if_pos (by simp [hF])]
    · rw [zt_un (fun q => c q.symm), h5 a hlt, if_neg (by simp [c]), Nat.add_zero]
  unfold f145
  by_cases c : (pm_T4 A F i).1 = 0
  · rw [if_pos (by rw [h1, c]; rfl)]
    simp (disch := omega) only [pm_lt, zt_lit, zt_at, zt_pw, zt_ws, max_nI, min_nI]
    refine ⟨_, rfl, ?_⟩
    unfold pm_TS
    rw [T4_y hF]
    simp (disch := omega) only [zt_ws, zt_w2, h1, c, if_true, nI_add, pm_om, if_neg, Nat.min_self, Nat.max_self]
    refine ⟨trivial, ?_, ?_, ?_, fun a ha2 => ?_⟩
    · first | trivial | rfl | (unfold pm_min; split <;> rfl) | (unfold pm_max; split <;> rfl)
    · first | trivial | rfl | (unfold pm_min; split <;> rfl) | (unfold pm_max; split <;> rfl)
    · first | trivial | rfl | (unfold pm_min; split <;> rfl) | (unfold pm_max; split <;> rfl)
    · rw [← hh I rfl a ha2]
      simp only [pm_w, va_up, upd]
      simp
      first | done | (unfold upd; rfl) | rfl
  · rw [if_neg (by rw [h1, ← nI_0, zt_eq (by omega) (by omega)]; exact c)]
    unfold pm_om at h2 h3 h4
    rw [if_neg c] at h2 h3 h4
    simp (disch := omega) only [pm_lt, zt_lit, zt_at, zt_pw, zt_ws, zt_w2, h3, h4, max_nI, min_nI]
    refine ⟨_, rfl, ?_⟩
    unfold pm_TS
    rw [T4_y hF]
    simp (disch := omega) only [zt_ws, zt_w2, h1, h2, c, if_false, nI_add, pm_om, if_neg]
    refine ⟨trivial, ?_, ?_, ?_, fun a ha2 => ?_⟩
    · first | trivial | rfl | (unfold pm_min; split <;> rfl) | (unfold pm_max; split <;> rfl)
    · first | trivial | rfl | (unfold pm_min; split <;> rfl) | (unfold pm_max; split <;> rfl)
    · first | trivial | rfl | (unfold pm_min; split <;> rfl) | (unfold pm_max; split <;> rfl)
    · rw [← hh I rfl a ha2]
      simp only [pm_w, va_up, upd]
      simp
      first | done | (unfold upd; rfl) | rfl
def pm_TI (k b l0 : Nat) (k0 : Nat → Nat) (D : Nat → Nat → Nat) (n : Nat) (w : Nat → Int32) (p : Nat) (X Y A : Nat → Nat) (i : Nat) (I : Nat → Nat → Int32) : Prop := pm_TS A (fun j => pm_tf X Y (A j) 0 b) i I ∧ pm_BK k b X Y I ∧ pm_CL 6 l0 k0 I ∧ ∀ j, 2 ≤ j → j < 8 → I 12 j = pm_ppr D n w p 0 0 j
theorem ppr_2 {D : Nat → Nat → Nat} {n : Nat} {w : Nat → Int32} {p : Nat} {y a : Int32} {j : Nat} (h : 2 ≤ j) (h2 : j < 8) : pm_ppr D n w p 0 0 j = pm_ppr D n w p y a j := by
  have c : j = 2 ∨ j = 3 ∨ j = 4 ∨ j = 5 ∨ j = 6 ∨ j = 7 := by omega
  rcases c with rfl | rfl | rfl | rfl | rfl | rfl <;> rfl
theorem e59 {l0 n p : Nat} {k0 : Nat → Nat} {D : Nat → Nat → Nat} {w : Nat → Int32} {y a : Int32} (hw : pm_wf l0 k0) (hL : pm_CL 6 l0 k0 I) (hp : ∀ j, 2 ≤ j → j < 8 → I 12 j = pm_ppr D n w p 0 0 j) : ∃ I', f59 y a I J = some (pm_av l0 k0 (pm_ppr D n w p y a), I', J) ∧ ∀ j, 2 ≤ j → j < 8 → I' 12 j = pm_ppr D n w p 0 0 j := by
  obtain ⟨S, e⟩ := e18 (a0 := 6) (I := pm_w (pm_w I 12 0 y) 12 1 a) (J := J) (pp := pm_ppr D n w p y a) (by omega) (by rw [zt_wc (by omega), zt_wc (by omega)]; exact hL.1) (fun i hi => by rw [zt_wc (by omega), zt_wc (by omega)]; exact hL.2 i hi) hw (fun j hj => by
    by_cases c0 : j = 0
    · subst c0
      rw [zt_w2 (by omega), zt_ws]; rfl
    · by_cases c1 : j = 1
      · subst c1
        rw [zt_ws]; rfl
      · rw [zt_w2 (by omega), zt_w2 (by omega), hp j (by omega) hj, ppr_2 (by omega) hj])
  refine ⟨va_up (pm_w (pm_w I 12 0 y) 12 1 a) (6 + 2) S, ?_, fun j h2 hj => ?_⟩
  · unfold f59
    have q0 : pm_pw I 12 8 0 y = pm_w I 12 0 y := zt_pw (k := 0) (by omega) (by omega)
    have q1 : pm_pw (pm_w I 12 0 y) 12 8 1 a = pm_w (pm_w I 12 0 y) 12 1 a := zt_pw (k := 1) (by omega) (by omega)
    rw [pm_lt_eq, q0, pm_lt_eq, q1, e, zt_bind]
  · rw [va_up_ne _ _ (by omega), zt_w2 (by omega), zt_w2 (by omega), hp j h2 hj]
theorem BK_ag {b : Nat} {X Y : Nat → Nat} {I' : Nat → Nat → Int32} {A : List Nat} {F : List (Nat × Nat)} (h : pm_BK k b X Y I) (g : pm_ag A F I I') (ok : (A.all (fun a => decide (a < 120) || decide (126 < a)) && F.all (fun q => decide (q.1 < 120) || decide (126 < q.1))) = true) : pm_BK k b X Y I' := by
  obtain ⟨hk, h8, hb, hx⟩ := h
  rw [Bool.and_eq_true, List.all_eq_true, List.all_eq_true] at ok
  obtain ⟨o1, o2⟩ := ok
  have c : ∀ a : Nat, 120 ≤ a → a ≤ 126 → I' a = I a := fun a h1 h2 => ag_cell g (fun h => by have := o1 a h; simp at this; omega) (fun f h => by have := o2 (a, f) h; simp at this; omega)
  refine ⟨hk, h8, by rw [c k (by omega) (by omega)]; exact hb, fun i hi => ?_⟩
  rw [c (k + 1) (by omega) (by omega), c (k + 2) (by omega) (by omega)]
  exact hx i hi
theorem l143i {b l0 n p : Nat} {k0 : Nat → Nat} {D : Nat → Nat → Nat} {w : Nat → Int32} {X Y A : Nat → Nat} (hw : pm_wf l0 k0) (hA : ∀ i, i < 225 → A i ≤ 999) (hV : ∀ i, i < 225 → pm_av l0 k0 (pm_ppr D n w p (nI (i / 25 + 1)) (nI (i % 25))) = nI (A i)) {y : Nat} (hy : y < 9) : ∀ d a fu : Nat, ∀ I : Nat → Nat → Int32, a + d = 25 → pm_TI k b l0 k0 D n w p X Y A (25 * y + a) I → ∃ I', pm_TI k b l0 k0 D n w p X Y A (25 * (y + 1)) I' ∧ f143_L r k (fu + d + 1) 1 (nI (y + 1)) (nI a) I J = f143_L r k fu 0 (nI (y + 2)) 0 I' J := by
  have h24 : ((24 : Int32)).toInt = 24 := by decide
  intro d
  induction d with
  | zero =>
    intro a fu I ha h
    have ha2 : a = 25 := by omega
    subst ha2
    refine ⟨I, h, ?_⟩
    rw [Nat.add_zero, f143_L, h24, if_pos (by rw [nI_toInt (by omega)]; omega), nI_1, show y + 1 + 1 = y + 2 by omega]
  | succ d ih =>
    intro a fu I ha h
    obtain ⟨s1, s2, s3, s4⟩ := h
    have iy : (25 * y + a) / 25 = y := by omega
    have ia : (25 * y + a) % 25 = a := by omega
    have v := hV (25 * y + a) (by omega)
    have a9 := hA (25 * y + a) (by omega)
    rw [iy, ia] at v
    obtain ⟨I1, e1, p1⟩ := e59 (I := I) (J := J) (y := nI (y + 1)) (a := nI a) hw s3 s4
    rw [v] at e1
    have g1 := (fr_59 _ _ _ e1).1
    have B1 := BK_ag s2 g1 rfl
    have c102 : I1 102 = I 102 := ag_cell g1 (by decide) (by intro f; simp)
    have c103 : I1 103 = I 103 := ag_cell g1 (by decide) (by intro f; simp)
    have L1 : pm_CL 6 l0 k0 I1 := CL_ag s3 (ag_cell g1 (by decide) (by intro f; simp)) (ag_cell g1 (by decide) (by intro f; simp))
    have S1 : pm_TS A (fun j => pm_tf X Y (A j) 0 b) (25 * y + a) I1 := by
      unfold pm_TS
      rw [c102, c103]
      exact s1
    have e2 := e14 (J := J) B1 a9
    have code : 100 * nI (y + 1) + nI a = nI (pm_tcd (25 * y + a)) := by
      unfold pm_tcd
      rw [iy, ia, zt_lit 100, pk_mul, nI_add]
    by_cases c : pm_tf X Y (A (25 * y + a)) 0 b = true
    · obtain ⟨I2, e3, S2⟩ := e145 (J := J) (F := fun j => pm_tf X Y (A j) 0 b) hA (show 25 * y + a < 225 by omega) c S1
      have g2 := (fr_145 _ _ _ e3).1
      have B2 := BK_ag B1 g2 rfl
      have L2 : pm_CL 6 l0 k0 I2 := CL_ag L1 (ag_cell g2 (by decide) (by intro f; simp)) (ag_cell g2 (by decide) (by intro f; simp))
      have p2 : ∀ j, 2 ≤ j → j < 8 → I2 12 j = pm_ppr D n w p 0 0 j := fun j h1 h2 => by
        rw [ag_cell g2 (by decide) (by intro f; simp)]; exact p1 j h1 h2
      obtain ⟨I', q1, q2⟩ := ih (a + 1) fu I2 (by omega) ⟨S2, B2, L2, p2⟩
      refine ⟨I', q1, ?_⟩
      rw [show fu + (d + 1) + 1 = (fu + d + 1) + 1 by omega, f143_L, h24, if_neg (by rw [nI_toInt (by omega)]; omega), e1, zt_bind]
      dsimp only
      rw [e2, zt_bind]
      dsimp only
      rw [if_pos c, code, e3, zt_bind]
      dsimp only
      rw [nI_1]
      exact q2
    · have c' : pm_tf X Y (A (25 * y + a)) 0 b = false := by simpa using c
      have S2 : pm_TS A (fun j => pm_tf X Y (A j) 0 b) (25 * y + a + 1) I1 := by
        unfold pm_TS
        rw [T4_n (A := A) (F := fun j => pm_tf X Y (A j) 0 b) c']
        refine ⟨S1.1, S1.2.1, S1.2.2.1, S1.2.2.2.1, fun z hz => ?_⟩
        rw [S1.2.2.2.2 z hz]
        conv => rhs; rw [pm_cnt]
        rw [if_neg (by simp [c']), Nat.add_zero]
      obtain ⟨I', q1, q2⟩ := ih (a + 1) fu I1 (by omega) ⟨S2, B1, L1, p1⟩
      refine ⟨I', q1, ?_⟩
      rw [show fu + (d + 1) + 1 = (fu + d + 1) + 1 by omega, f143_L, h24, if_neg (by rw [nI_toInt (by omega)]; omega), e1, zt_bind]
      dsimp only
      rw [e2, zt_bind]
      dsimp only
      rw [if_neg c, nI_1]
      exact q2
theorem l143o {b l0 n p : Nat} {k0 : Nat → Nat} {D : Nat → Nat → Nat} {w : Nat → Int32} {X Y A : Nat → Nat} (hw : pm_wf l0 k0) (hA : ∀ i, i < 225 → A i ≤ 999) (hV : ∀ i, i < 225 → pm_av l0 k0 (pm_ppr D n w p (nI (i / 25 + 1)) (nI (i % 25))) = nI (A i)) (fu : Nat) : ∀ d y : Nat, ∀ I : Nat → Nat → Int32, y + d = 9 → pm_TI k b l0 k0 D n w p X Y A (25 * y) I → ∃ I', pm_TI k b l0 k0 D n w p X Y A 225 I' ∧ f143_L r k (fu + 27 * d + 1) 0 (nI (y + 1)) 0 I J = some ((), I', J) := by
  have h9 : ((9 : Int32)).toInt = 9 := by decide
  intro d
  induction d with
  | zero =>
    intro y I hy h
    have hy2 : y = 9 := by omega
    subst hy2
    refine ⟨I, h, ?_⟩
    rw [Nat.mul_zero, Nat.add_zero, f143_L, h9, if_pos (by rw [nI_toInt (by omega)]; omega)]
  | succ d ih =>
    intro y I hy h
    obtain ⟨I1, t1, e1⟩ := l143i (J := J) (r := r) hw hA hV (show y < 9 by omega) 25 0 (fu + 27 * d + 1) I (by omega) h
    obtain ⟨I2, t2, e2⟩ := ih (y + 1) I1 (by omega) t1
    refine ⟨I2, t2, ?_⟩
    rw [nI_0] at e1
    rw [show fu + 27 * (d + 1) + 1 = (fu + 27 * d + 1 + 25 + 1) + 1 by omega, f143_L, h9, if_neg (by rw [nI_toInt (by omega)]; omega), e1]
    exact e2
theorem l144 {A : Nat → Nat} {F : Nat → Bool} : ∀ d i fu : Nat, ∀ I : Nat → Nat → Int32, i + d = 1000 → d < fu → (∀ a, a < i → I 103 a = nI 0) → ∃ I', f144_2 fu (nI i) I J = some ((), I', J) ∧ pm_TS A F 0 I' := by
  intro d
  induction d with
  | zero =>
    intro i fu I hi hf h
    obtain ⟨fu, rfl⟩ : ∃ k, fu = k + 1 := ⟨fu - 1, by omega⟩
    rw [f144_2, if_neg (by rw [nI_toInt (by omega), nI_toInt (by omega)]; omega)]
    simp only [pm_lt]
    refine ⟨_, rfl, ?_⟩
    unfold pm_TS
    simp (disch := omega) only [zt_ws, zt_w2]
    refine ⟨rfl, rfl, rfl, rfl, fun a ha => ?_⟩
    exact h a (by omega)
  | succ d ih =>
    intro i fu I hi hf h
    obtain ⟨fu, rfl⟩ : ∃ k, fu = k + 1 := ⟨fu - 1, by omega⟩
    obtain ⟨I', e, t⟩ := ih (i + 1) fu (pm_w I 103 i 0) (by omega) (by omega) (fun a ha => by
      by_cases c : a = i
      · subst c; rw [zt_ws]; rfl
      · rw [zt_w2 (by omega)]; exact h a (by omega))
    refine ⟨I', ?_, t⟩
    rw [f144_2, if_pos (by rw [nI_toInt (by omega), nI_toInt (by omega)]; omega), zt_in (by omega) (by omega), zt_gd, nI_clamp (by omega), pm_lt_eq, nI_1]
    exact e
theorem e143 {b n t l0 p : Nat} {k0 : Nat → Nat} {D : Nat → Nat → Nat} {X Y A : Nat → Nat} (hR : pm_CR r n t D I) (hD : pm_DR n t D) (hp : p < n) (hw : pm_wf l0 k0) (hL : pm_CL 6 l0 k0 I) (hB : pm_BK k b X Y I) (hA : ∀ i, i < 225 → A i ≤ 999) (hV : ∀ i, i < 225 → pm_av l0 k0 (pm_ppr D n (I 5) p (nI (i / 25 + 1)) (nI (i % 25))) = nI (A i)) : ∃ I', f143 r k (nI p) I J = some ((), I', J) ∧ pm_TS A (fun j => pm_tf X Y (A j) 0 b) 225 I' := by
  obtain ⟨I1, e1, t1⟩ := l144 (J := J) (A := A) (F := fun j => pm_tf X Y (A j) 0 b) 1000 0 pm_FU I (by omega) (by unfold pm_FU; omega) (fun a ha => by omega)
  rw [nI_0] at e1
  have g1 := (fr_144_2 _ _ _ _ _ _ _ e1).1
  have i5 : I1 5 = I 5 := ag_cell g1 (by decide) (by intro f; simp)
  have R1 : pm_CR r n t D I1 := CR_cell hR (fun j hj => ag_cell g1 (by have := hR.1; simp; omega) (by intro f; have := hR.1; simp; omega))
  obtain ⟨S, e2, s2⟩ := e32 (J := J) R1 hD hp
  rw [i5] at s2
  have L1 : pm_CL 6 l0 k0 I1 := CL_ag hL (ag_cell g1 (by decide) (by intro f; simp)) (ag_cell g1 (by decide) (by intro f; simp))
  have B1 := BK_ag hB g1 rfl
  obtain ⟨fu, hfu⟩ : ∃ fu, pm_FU = fu + 27 * 9 + 1 := ⟨pm_FU - 244, by unfold pm_FU; omega⟩
  obtain ⟨I3, t3, e3⟩ := l143o (J := J) (r := r) (k := k) (b := b) (X := X) (Y := Y) hw hA hV fu 9 0 (va_up I1 12 S) (by omega) ⟨by
      unfold pm_TS
      rw [va_up_ne _ _ (by omega), va_up_ne _ _ (by omega)]
      exact t1, by
      obtain ⟨b1, b2, b3, b4⟩ := B1
      unfold pm_BK
      rw [va_up_ne _ _ (by omega), va_up_ne _ _ (by omega), va_up_ne _ _ (by omega)]
      exact ⟨b1, b2, b3, b4⟩, CL_ag L1 (va_up_ne _ _ (by omega)) (va_up_ne _ _ (by omega)), fun j h2 hj => by
      rw [va_up_self, s2 j hj]; exact (ppr_2 h2 hj).symm⟩
  refine ⟨I3, ?_, t3.1⟩
  unfold f143 f144
  rw [e1, zt_bind]
  dsimp only
  rw [e2, zt_bind]
  dsimp only
  rw [hfu]
  exact e3
end Te
