/-! WORK'S TEXT: what a step's text comes to -/
def pm_wx (n t : Nat) (X : Nat → Nat × Nat × Nat × Nat) (d o i e : Nat) : Prop := pm_wpg n t (fun j => (X j).1) (fun j => (X j).2.1) (fun j => (X j).2.2.1) (fun j => (X j).2.2.2) d o i e
def pm_xu (X : Nat → Nat × Nat × Nat × Nat) (m : Nat) (v : Nat × Nat × Nat × Nat) : Nat → Nat × Nat × Nat × Nat := fun j => if j = m then v else X j
def pm_stI (c : Nat → Nat) (L i : Nat) : Nat := pm_fst c L i [32, 34, 36, 38, 40, 42, 44, 30, 46]
def pm_smi (c : Nat → Nat) (L i m : Nat) (X : Nat → Nat × Nat × Nat × Nat) : (Nat × Nat) ⊕ (Nat × Nat × (Nat → Nat × Nat × Nat × Nat)) := if i < L ∧ c i = 59 then .inr (pm_nx1 c L i, m, X) else .inl (1, i)
/-- behind what is held -/
def pm_sh (c : Nat → Nat) (L m b : Nat) (r : (Nat × Nat) ⊕ (Nat × Nat × (Nat → Nat × Nat × Nat × Nat))) : (Nat × Nat) ⊕ (Nat × Nat × (Nat → Nat × Nat × Nat × Nat)) := match r with
  | .inl f => .inl f
  | .inr (i, m', X) => if i < L ∧ c i = 93 then pm_smi c L (pm_nx1 c L i) m' (pm_xu X m (8, 0, b, m')) else .inl (1, i)
def pm_stR (c : Nat → Nat) (L n t : Nat) (H : Nat → Nat → Nat → (Nat → Nat × Nat × Nat × Nat) → (Nat × Nat) ⊕ (Nat × Nat × (Nat → Nat × Nat × Nat × Nat))) (o i m : Nat) (X : Nat → Nat × Nat × Nat × Nat) : (Nat × Nat) ⊕ (Nat × Nat × (Nat → Nat × Nat × Nat × Nat)) :=
  if pm_stI c L i = 9 then .inl (1, i)
  else if pm_stI c L i = 8 then (if o = 6 then .inl (3, i)
    else if pm_nk c L 0 60 (pm_nxt c L i) ≠ 0 then .inl (pm_nk c L 0 60 (pm_nxt c L i), pm_nxt c L i)
    else if pm_nxt c L (pm_nxt c L i) < L ∧ c (pm_nxt c L (pm_nxt c L i)) = 91 then pm_sh c L m (pm_nv c L (pm_nxt c L i)) (H (o + 1) (pm_nx1 c L (pm_nxt c L (pm_nxt c L i))) (m + 1) (pm_xu X m (8, 0, pm_nv c L (pm_nxt c L i), 0)))
    else .inl (1, pm_nxt c L (pm_nxt c L i)))
  else if pm_stI c L i = 0 ∨ pm_stI c L i = 7 then pm_smi c L (pm_nxt c L i) (m + 1) (pm_xu X m (pm_stI c L i, 0, 0, m + 1))
  else if pm_nkm c L n (pm_nxt c L i) ≠ 0 then .inl (pm_nkm c L n (pm_nxt c L i), pm_nxt c L i)
  else if pm_stI c L i = 1 then (if pm_nkm c L t (pm_nxt c L (pm_nxt c L i)) ≠ 0 then .inl (pm_nkm c L t (pm_nxt c L (pm_nxt c L i)), pm_nxt c L (pm_nxt c L i)) else pm_smi c L (pm_nxt c L (pm_nxt c L (pm_nxt c L i))) (m + 1) (pm_xu X m (1, pm_nv c L (pm_nxt c L i), pm_nv c L (pm_nxt c L (pm_nxt c L i)), m + 1)))
  else if pm_stI c L i = 2 then (if pm_nk c L 1 24 (pm_nxt c L (pm_nxt c L i)) ≠ 0 then .inl (pm_nk c L 1 24 (pm_nxt c L (pm_nxt c L i)), pm_nxt c L (pm_nxt c L i)) else pm_smi c L (pm_nxt c L (pm_nxt c L (pm_nxt c L i))) (m + 1) (pm_xu X m (2, pm_nv c L (pm_nxt c L i), pm_nv c L (pm_nxt c L (pm_nxt c L i)), m + 1)))
  else pm_smi c L (pm_nxt c L (pm_nxt c L i)) (m + 1) (pm_xu X m (pm_stI c L i, pm_nv c L (pm_nxt c L i), 0, m + 1))
def pm_hl (c : Nat → Nat) (L : Nat) (S : Nat → Nat → Nat → (Nat → Nat × Nat × Nat × Nat) → (Nat × Nat) ⊕ (Nat × Nat × (Nat → Nat × Nat × Nat × Nat))) : Nat → Nat → Nat → Nat → (Nat → Nat × Nat × Nat × Nat) → (Nat × Nat) ⊕ (Nat × Nat × (Nat → Nat × Nat × Nat × Nat))
  | 0, _, i, m, X => .inr (i, m, X)
  | d + 1, o, i, m, X => if i < L ∧ c i = 93 then .inr (i, m, X) else (match S o i m X with
      | .inl f => .inl f
      | .inr (i', m', X') => pm_hl c L S d o i' m' X')
def pm_sS (c : Nat → Nat) (L n t : Nat) : Nat → Nat → Nat → Nat → (Nat → Nat × Nat × Nat × Nat) → (Nat × Nat) ⊕ (Nat × Nat × (Nat → Nat × Nat × Nat × Nat))
  | 0 => fun _ i _ _ => .inl (1, i)
  | f + 1 => pm_stR c L n t (pm_hl c L (pm_sS c L n t f) (L + 1))
/-- all steps -/
def pm_tl2 (c : Nat → Nat) (L n t : Nat) : Nat → Nat → Nat → (Nat → Nat × Nat × Nat × Nat) → (Nat × Nat) ⊕ (Nat × (Nat → Nat × Nat × Nat × Nat))
  | 0, _, m, X => .inr (m, X)
  | d + 1, i, m, X => if i < L then (match pm_sS c L n t 7 0 i m X with
      | .inl f => .inl f
      | .inr (i', m', X') => pm_tl2 c L n t d i' m' X') else .inr (m, X)
theorem wpg_mono {n t : Nat} {K A B E : Nat → Nat} : ∀ d d' o i e, d ≤ d' → pm_wpg n t K A B E d o i e → pm_wpg n t K A B E d' o i e := by
  intro d
  induction d with
  | zero =>
    intro d' o i e hd h
    have h' : e ≤ i := h
    cases d' with
    | zero => exact h
    | succ d' =>
      rw [pm_wpg]
      intro z
      omega
  | succ d ih =>
    intro d' o i e hd h
    obtain ⟨d', rfl⟩ : ∃ q, d' = q + 1 := ⟨d' - 1, by omega⟩
    rw [pm_wpg] at h ⊢
    intro z
    obtain ⟨h1, h2⟩ := h z
    refine ⟨fun k => ?_, fun k => ?_⟩
    · obtain ⟨p1, p2, p3, p4, p5, p6⟩ := h1 k
      exact ⟨p1, p2, p3, p4, ih d' _ _ _ (by omega) p5, ih d' _ _ _ (by omega) p6⟩
    · obtain ⟨p1, p2, p3⟩ := h2 k
      exact ⟨p1, p2, ih d' _ _ _ (by omega) p3⟩
theorem wpg_app {n t : Nat} {K A B E : Nat → Nat} : ∀ d d' o i e1 e, i ≤ e1 → e1 ≤ e → pm_wpg n t K A B E d o i e1 → pm_wpg n t K A B E d' o e1 e → pm_wpg n t K A B E (d + d') o i e := by
  intro d
  induction d with
  | zero =>
    intro d' o i e1 e h1 h2 ha hb
    have ha' : e1 ≤ i := ha
    rw [show i = e1 by omega, Nat.zero_add]
    exact hb
  | succ d ih =>
    intro d' o i e1 e h1 h2 ha hb
    by_cases z : i < e1
    · rw [show d + 1 + d' = (d + d') + 1 by omega, pm_wpg]
      rw [pm_wpg] at ha
      intro _
      obtain ⟨q1, q2⟩ := ha z
      refine ⟨fun k => ?_, fun k => ?_⟩
      · obtain ⟨p1, p2, p3, p4, p5, p6⟩ := q1 k
        exact ⟨p1, p2, by omega, p4, wpg_mono d _ _ _ _ (by omega) p5, ih d' o (E i) e1 e p3 h2 p6 hb⟩
      · obtain ⟨p1, p2, p3⟩ := q2 k
        exact ⟨p1, p2, ih d' o (i + 1) e1 e (by omega) h2 p3 hb⟩
    · rw [show i = e1 by omega]
      exact wpg_mono d' _ _ _ _ (by omega) hb
theorem wx_c {n t : Nat} {X Y : Nat → Nat × Nat × Nat × Nat} : ∀ d o i e, (∀ j, i ≤ j → j < e → Y j = X j) → pm_wx n t X d o i e → pm_wx n t Y d o i e := by
  intro d
  induction d with
  | zero => intro o i e _ h; exact h
  | succ d ih =>
    intro o i e hc h
    unfold pm_wx at h ⊢
    rw [pm_wpg] at h ⊢
    intro z
    have e0 := hc i (by omega) z
    obtain ⟨h1, h2⟩ := h z
    rw [e0]
    refine ⟨fun k => ?_, fun k => ?_⟩
    · obtain ⟨p1, p2, p3, p4, p5, p6⟩ := h1 k
      exact ⟨p1, p2, p3, p4, ih _ _ _ (fun j a b => hc j (by omega) (by omega)) p5, ih _ _ _ (fun j a b => hc j (by omega) b) p6⟩
    · obtain ⟨p1, p2, p3⟩ := h2 k
      exact ⟨p1, p2, ih _ _ _ (fun j a b => hc j (by omega) b) p3⟩
/-- what a reading keeps -/
def pm_wR (n t L i m : Nat) (X : Nat → Nat × Nat × Nat × Nat) (o g : Nat) (r : (Nat × Nat) ⊕ (Nat × Nat × (Nat → Nat × Nat × Nat × Nat))) : Prop := match r with
  | .inl _ => True
  | .inr (i', m', X') => i' ≤ L ∧ i + g ≤ i' ∧ m + g ≤ m' ∧ 3 * m' + i ≤ 3 * m + i' ∧ (∀ j, j < m → X' j = X j) ∧ pm_wx n t X' (m' - m) o m m'
theorem xu_n {X : Nat → Nat × Nat × Nat × Nat} {m : Nat} {v : Nat × Nat × Nat × Nat} {j : Nat} (h : j ≠ m) : pm_xu X m v j = X j := if_neg h
theorem xu_s {X : Nat → Nat × Nat × Nat × Nat} {m : Nat} {v : Nat × Nat × Nat × Nat} : pm_xu X m v m = v := if_pos rfl
theorem sI_le (c : Nat → Nat) (L i : Nat) : pm_stI c L i ≤ 9 := fst_le c L i [32, 34, 36, 38, 40, 42, 44, 30, 46]
theorem sI_w {c : Nat → Nat} {L i : Nat} (h : pm_stI c L i ≠ 9) : ∃ s, s ∈ [32, 34, 36, 38, 40, 42, 44, 30, 46] ∧ pm_wq c L i s := fst_e [32, 34, 36, 38, 40, 42, 44, 30, 46] (by have := sI_le c L i; show pm_stI c L i < 9; omega)
theorem sI_l {c : Nat → Nat} {L i : Nat} (hi : i ≤ L) (h : pm_stI c L i ≠ 9) : i < L ∧ pm_kd c L i = 3 ∧ i + 3 ≤ pm_stp c L i := by
  obtain ⟨s, m, w⟩ := sI_w h
  have t3 : ∀ s, s ∈ [32, 34, 36, 38, 40, 42, 44, 30, 46] → 3 ≤ pm_tl (s + 2) := by decide
  have t3' := t3 s m
  obtain ⟨k, e⟩ := wq_k hi w (by omega)
  exact ⟨(kd_3.mp k).1, k, by omega⟩
theorem stp_nxt {c : Nat → Nat} {L i : Nat} : pm_stp c L i ≤ pm_nxt c L i := (sk_b c (L - pm_stp c L i) (pm_stp c L i)).1
theorem one_w {n t o m k a b : Nat} {X : Nat → Nat × Nat × Nat × Nat} (hk : k ≠ 8) (h : pm_sk2 n t k a b) : pm_wx n t (pm_xu X m (k, a, b, m + 1)) 1 o m (m + 1) := by
  unfold pm_wx
  rw [pm_wpg]
  intro _
  rw [xu_s]
  refine ⟨fun q => absurd q hk, fun _ => ⟨rfl, h, ?_⟩⟩
  show m + 1 ≤ m + 1
  omega
theorem sm_R {c : Nat → Nat} {L n t i j m o : Nat} {X : Nat → Nat × Nat × Nat × Nat} {v : Nat × Nat × Nat × Nat} (hij : i + 3 ≤ j) (hw : pm_wx n t (pm_xu X m v) 1 o m (m + 1)) : pm_wR n t L i m X o 1 (pm_smi c L j (m + 1) (pm_xu X m v)) := by
  unfold pm_smi
  by_cases s : j < L ∧ c j = 59
  · rw [if_pos s]
    have nb := nx1_b (c := c) s.1
    refine ⟨nb.2, by omega, by omega, by omega, fun q hq => xu_n (by omega), ?_⟩
    rw [Nat.add_sub_cancel_left]
    exact hw
  · rw [if_neg s]
    exact trivial
theorem st_R {c : Nat → Nat} {L n t : Nat} {H : Nat → Nat → Nat → (Nat → Nat × Nat × Nat × Nat) → (Nat × Nat) ⊕ (Nat × Nat × (Nat → Nat × Nat × Nat × Nat))} {o i m : Nat} {X : Nat → Nat × Nat × Nat × Nat} (ho : o ≤ 6) (hi : i ≤ L) (hH : ∀ i m X, o < 6 → i ≤ L → pm_wR n t L i m X (o + 1) 0 (H (o + 1) i m X)) : pm_wR n t L i m X o 1 (pm_stR c L n t H o i m X) := by
  have sl := sI_le c L i
  unfold pm_stR
  by_cases c9 : pm_stI c L i = 9
  · rw [if_pos c9]; exact trivial
  rw [if_neg c9]
  obtain ⟨iL, k3, st3⟩ := sI_l hi c9
  have n1 := nxt_g (c := c) iL
  have sn := stp_nxt (c := c) (L := L) (i := i)
  have sn2 := stp_nxt (c := c) (L := L) (i := pm_nxt c L i)
  have sn3 := stp_nxt (c := c) (L := L) (i := pm_nxt c L (pm_nxt c L i))
  have ge : ∀ j, j ≤ pm_stp c L j := fun j => by
    unfold pm_stp
    split
    · omega
    · split
      · omega
      · exact (rn_b c L (pm_kd c L j) (L - j) j).1
  have g1 := ge (pm_nxt c L i)
  have g2 := ge (pm_nxt c L (pm_nxt c L i))
  by_cases c8 : pm_stI c L i = 8
  · rw [if_pos c8]
    by_cases o6 : o = 6
    · rw [if_pos o6]; exact trivial
    rw [if_neg o6]
    by_cases z : pm_nk c L 0 60 (pm_nxt c L i) = 0
    · rw [if_neg (show ¬ pm_nk c L 0 60 (pm_nxt c L i) ≠ 0 by omega)]
      by_cases s : pm_nxt c L (pm_nxt c L i) < L ∧ c (pm_nxt c L (pm_nxt c L i)) = 91
      · rw [if_pos s]
        have nb := nx1_b (c := c) s.1
        have hh := hH (pm_nx1 c L (pm_nxt c L (pm_nxt c L i))) (m + 1) (pm_xu X m (8, 0, pm_nv c L (pm_nxt c L i), 0)) (by omega) nb.2
        cases y : H (o + 1) (pm_nx1 c L (pm_nxt c L (pm_nxt c L i))) (m + 1) (pm_xu X m (8, 0, pm_nv c L (pm_nxt c L i), 0)) with
        | inl f => exact trivial
        | inr f =>
          obtain ⟨i3, m3, X3⟩ := f
          rw [y] at hh
          obtain ⟨h1, h2, h3, h4, h5, h6⟩ := hh
          dsimp only [pm_sh]
          by_cases s2 : i3 < L ∧ c i3 = 93
          · rw [if_pos s2]
            have nc := nx1_b (c := c) s2.1
            unfold pm_smi
            by_cases s3 : pm_nx1 c L i3 < L ∧ c (pm_nx1 c L i3) = 59
            · rw [if_pos s3]
              have nd := nx1_b (c := c) s3.1
              refine ⟨nd.2, by omega, by omega, by omega, fun j hj => ?_, ?_⟩
              · rw [xu_n (by omega), h5 j (by omega), xu_n (by omega)]
              · have y9 := (nk_0 z).2.2
                rw [show m3 - m = (m3 - (m + 1)) + 1 by omega]
                unfold pm_wx
                rw [pm_wpg]
                intro _
                rw [xu_s]
                refine ⟨fun _ => ⟨by omega, by show m < m3; omega, by show m3 ≤ m3; omega, y9, ?_, ?_⟩, fun q => absurd rfl q⟩
                · exact wx_c (m3 - (m + 1)) (o + 1) (m + 1) m3 (fun j a b => xu_n (by omega)) h6
                · exact wpg_mono 0 _ _ _ _ (by omega) (show m3 ≤ m3 by omega)
            · rw [if_neg s3]; exact trivial
          · rw [if_neg s2]; exact trivial
      · rw [if_neg s]; exact trivial
    · rw [if_pos z]; exact trivial
  rw [if_neg c8]
  by_cases c07 : pm_stI c L i = 0 ∨ pm_stI c L i = 7
  · rw [if_pos c07]
    exact sm_R (by omega) (one_w c8 ⟨by omega, fun a b => by omega, fun a => by omega, fun a => by omega⟩)
  rw [if_neg c07]
  by_cases z : pm_nkm c L n (pm_nxt c L i) = 0
  · rw [if_neg (show ¬ pm_nkm c L n (pm_nxt c L i) ≠ 0 by omega)]
    have vb : ∀ N j, pm_nkm c L N j = 0 → pm_nv c L j < N := fun N j z1 => by
      unfold pm_nkm at z1
      by_cases n0 : N = 0
      · rw [if_pos n0] at z1
        exact absurd z1 (nk_10 c L j)
      · rw [if_neg n0] at z1
        have := (nk_0 z1).2.2
        omega
    have va := vb n (pm_nxt c L i) z
    by_cases c1 : pm_stI c L i = 1
    · rw [if_pos c1]
      by_cases z2 : pm_nkm c L t (pm_nxt c L (pm_nxt c L i)) = 0
      · rw [if_neg (show ¬ pm_nkm c L t (pm_nxt c L (pm_nxt c L i)) ≠ 0 by omega)]
        have vt := vb t _ z2
        exact sm_R (by omega) (one_w (by omega) ⟨by omega, fun _ _ => va, fun _ => vt, fun a => by omega⟩)
      · rw [if_pos z2]; exact trivial
    rw [if_neg c1]
    by_cases c2 : pm_stI c L i = 2
    · rw [if_pos c2]
      by_cases z2 : pm_nk c L 1 24 (pm_nxt c L (pm_nxt c L i)) = 0
      · rw [if_neg (show ¬ pm_nk c L 1 24 (pm_nxt c L (pm_nxt c L i)) ≠ 0 by omega)]
        have v2 := (nk_0 z2).2
        exact sm_R (by omega) (one_w (by omega) ⟨by omega, fun _ _ => va, fun a => by omega, fun _ => v2⟩)
      · rw [if_pos z2]; exact trivial
    rw [if_neg c2]
    exact sm_R (by omega) (one_w c8 ⟨by omega, fun _ _ => va, fun a => by omega, fun a => by omega⟩)
  · rw [if_pos z]; exact trivial
theorem hl_R {c : Nat → Nat} {L n t : Nat} {S : Nat → Nat → Nat → (Nat → Nat × Nat × Nat × Nat) → (Nat × Nat) ⊕ (Nat × Nat × (Nat → Nat × Nat × Nat × Nat))} {o : Nat} (hS : ∀ i m X, i ≤ L → pm_wR n t L i m X o 1 (S o i m X)) : ∀ d i m X, i ≤ L → pm_wR n t L i m X o 0 (pm_hl c L S d o i m X) := by
  intro d
  induction d with
  | zero =>
    intro i m X hi
    rw [pm_hl]
    refine ⟨hi, by omega, by omega, by omega, fun _ _ => rfl, ?_⟩
    rw [Nat.sub_self]
    show m ≤ m
    omega
  | succ d ih =>
    intro i m X hi
    rw [pm_hl]
    by_cases s : i < L ∧ c i = 93
    · rw [if_pos s]
      refine ⟨hi, by omega, by omega, by omega, fun _ _ => rfl, ?_⟩
      rw [Nat.sub_self]
      show m ≤ m
      omega
    · rw [if_neg s]
      have h1 := hS i m X hi
      cases y : S o i m X with
      | inl f => exact trivial
      | inr f =>
        obtain ⟨i1, m1, X1⟩ := f
        rw [y] at h1
        obtain ⟨a1, a2, a3, a4, a5, a6⟩ := h1
        have h2 := ih i1 m1 X1 a1
        dsimp only
        cases y2 : pm_hl c L S d o i1 m1 X1 with
        | inl f => exact trivial
        | inr f =>
          obtain ⟨i2, m2, X2⟩ := f
          rw [y2] at h2
          obtain ⟨b1, b2, b3, b4, b5, b6⟩ := h2
          refine ⟨b1, by omega, by omega, by omega, fun j hj => by rw [b5 j (by omega), a5 j hj], ?_⟩
          have w1 : pm_wx n t X2 (m1 - m) o m m1 := wx_c _ _ _ _ (fun j p q => b5 j q) a6
          have w2 := wpg_app (m1 - m) (m2 - m1) o m m1 m2 (by omega) (by omega) w1 b6
          rw [show m2 - m = (m1 - m) + (m2 - m1) by omega]
          exact w2
theorem sS_R {c : Nat → Nat} {L n t : Nat} : ∀ f o i m X, o ≤ 6 → 7 - o ≤ f → i ≤ L → pm_wR n t L i m X o 1 (pm_sS c L n t f o i m X) := by
  intro f
  induction f with
  | zero => intro o i m X ho hf hi; exact trivial
  | succ f ih =>
    intro o i m X ho hf hi
    rw [pm_sS]
    exact st_R ho hi (fun i m X h6 hi => hl_R (fun i m X hi => ih (o + 1) i m X (by omega) (by omega) hi) (L + 1) i m X hi)
