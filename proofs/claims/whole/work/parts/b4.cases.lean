/-! THE LAW, CASE BY CASE -/
def pm_prs (r r2 k k2 : Nat) : Prop := ((r = 15 ∧ r2 = 113) ∨ (r = 113 ∧ r2 = 15)) ∧ ((k = 121 ∧ k2 = 124) ∨ (k = 124 ∧ k2 = 121))
/-- from the end of a case on, all is well -/
def pm_NX (X : (Nat → Int32) × Nat) (d i e : Nat) : Prop := ∀ (I : Nat → Nat → Int32) (J : Nat → Nat → Int64) (P : Nat → Nat → Value) (r k r2 k2 : Nat) (z5 z6 z7 : Value), pm_W P r k r2 k2 → pm_prs r r2 k k2 → pm_RR r k I → ∃ ν, pm_Fx X (d + 60) 361 2576 [.retAddr 0, .ref 0, .ref 127, .ref 157, .int (nI i), z5, z6, z7] [] (I, J, P, pm_T0, e) (.inl (some (.int 1))) ν
theorem wl_s {J : Nat → Nat → Int64} {a f : Nat} {x : Int64} : pm_wl J a f x a f = x := by simp [pm_wl, va_up, vp_updL]
theorem W_rs {P : Nat → Nat → Value} {r k r2 k2 : Nat} (hw : pm_W P r k r2 k2) : pm_W (pm_wp (pm_wp P 3 6 r2) 0 8 r) r2 k r k2 := by
  obtain ⟨hp, hw1, hw2, hw3, hw4, hw5, hw6, hw7, hw8, hw9, hw10, hw11⟩ := id hw
  exact pm_W_d (pm_W_r hw hw7) (pm_wp_rg (pm_rg_ne hw5).1 hw5)
theorem W_bs {P : Nat → Nat → Value} {r k r2 k2 : Nat} (hw : pm_W P r k r2 k2) : pm_W (pm_wp (pm_wp P 0 9 k2) 0 10 k) r k2 r2 k := by
  obtain ⟨hp, hw1, hw2, hw3, hw4, hw5, hw6, hw7, hw8, hw9, hw10, hw11⟩ := id hw
  exact pm_W_e (pm_W_b hw hw8) (pm_wp_bk (pm_bk_ne hw6).2 hw6)
section Lc
variable {α β : Type} {r k t1 t2 : Nat} {E : α → β → Prop} {fc : (Nat → Nat → Int32) → (Nat → Nat → Int64) → Option ((α ⊕ Nat) × (Nat → Nat → Int32) × (Nat → Nat → Int64))} {fm : (Nat → Nat → Int32) → (Nat → Nat → Int64) → Option (β × (Nat → Nat → Int32) × (Nat → Nat → Int64))} {I : Nat → Nat → Int32} {J : Nat → Nat → Int64}
/-- a call that throws one thing only -/
def pm_KT (r k : Nat) (E : α → β → Prop) (T c : Nat) (fc : (Nat → Nat → Int32) → (Nat → Nat → Int64) → Option ((α ⊕ Nat) × (Nat → Nat → Int32) × (Nat → Nat → Int64))) (fm : (Nat → Nat → Int32) → (Nat → Nat → Int64) → Option (β × (Nat → Nat → Int32) × (Nat → Nat → Int64))) (I : Nat → Nat → Int32) (J : Nat → Nat → Int64) : Prop :=
  (∃ (v : α) (I1 : Nat → Nat → Int32) (J1 : Nat → Nat → Int64), fc I J = some (.inl v, I1, J1) ∧ pm_aj J J1 ∧ ∀ J', ∃ (b : β) (I2 : Nat → Nat → Int32), fm I1 J' = some (b, I2, J') ∧ I2 127 0 = nI 0 ∧ E v b ∧ pm_RR r k I2) ∨
  (∃ (I1 : Nat → Nat → Int32) (J1 : Nat → Nat → Int64), fc I J = some (.inr T, I1, J1) ∧ pm_aj J J1 ∧ ∀ J', ∃ (b : β) (I2 : Nat → Nat → Int32), fm I1 J' = some (b, I2, J') ∧ I2 127 0 = nI c ∧ pm_RR r k I2)
theorem KK_n1 (h : ∀ t9, pm_KK r k E t9 t2 fc fm I J) : pm_KT r k E 2 t2 fc fm I J := by
  rcases h 5 with h1 | ⟨t, c, I1, J1, htc, h1, h2, h3⟩
  · exact .inl h1
  · rcases htc with ⟨rfl, rfl⟩ | ⟨rfl, rfl⟩
    · exfalso
      rcases h 6 with ⟨v, I3, J3, g1, _⟩ | ⟨t, c, I3, J3, gtc, g1, g2, g3⟩
      · rw [h1] at g1; cases g1
      · rw [h1] at g1
        cases g1
        rcases gtc with ⟨_, rfl⟩ | ⟨y, _⟩
        · obtain ⟨b, I2, a1, a2, _⟩ := h3 J
          obtain ⟨b', I2', b1, b2, _⟩ := g3 J
          rw [a1] at b1
          cases b1
          rw [a2] at b2
          exact absurd b2 (by decide)
        · omega
    · exact .inr ⟨I1, J1, h1, h2, h3⟩
theorem KK_n2 (h : ∀ t9, pm_KK r k E t1 t9 fc fm I J) : pm_KT r k E 1 t1 fc fm I J := by
  rcases h 5 with h1 | ⟨t, c, I1, J1, htc, h1, h2, h3⟩
  · exact .inl h1
  · rcases htc with ⟨rfl, rfl⟩ | ⟨rfl, rfl⟩
    · exact .inr ⟨I1, J1, h1, h2, h3⟩
    · exfalso
      rcases h 6 with ⟨v, I3, J3, g1, _⟩ | ⟨t, c, I3, J3, gtc, g1, g2, g3⟩
      · rw [h1] at g1; cases g1
      · rw [h1] at g1
        cases g1
        rcases gtc with ⟨y, _⟩ | ⟨_, rfl⟩
        · omega
        · obtain ⟨b, I2, a1, a2, _⟩ := h3 J
          obtain ⟨b', I2', b1, b2, _⟩ := g3 J
          rw [a1] at b1
          cases b1
          rw [a2] at b2
          exact absurd b2 (by decide)
end Lc
section Ld
variable {X : (Nat → Int32) × Nat} {d i : Nat} {I : Nat → Nat → Int32} {J : Nat → Nat → Int64} {P : Nat → Nat → Value} {e r k r2 k2 : Nat} {z5 z6 z7 : Value}
theorem T361_0 (hw : pm_W P r k r2 k2) (hp : pm_prs r r2 k k2) (hR : pm_RR r k I) (he : e < 100000) (hX : X.2 < 2147483648) (hi : i + 6 < X.2) (n0 : pm_NX X d i e) (n1 : pm_NX X d i (e + 1)) : ∃ ν, pm_Fx X (d + 60) 361 220 [.retAddr 0, .ref 0, .ref 127, .ref 157, .int (nI i), z5, z6, z7] [] (I, J, P, pm_T0, e) (.inl (some (.int 1))) ν := by
  obtain ⟨v, I1, J1, h1, _, h2⟩ := K0 (J := J) (x1 := X.1 (i + 1)) (x2 := X.1 (i + 2)) (x3 := X.1 (i + 3)) (x4 := X.1 (i + 4)) (x5 := X.1 (i + 5)) hR
  obtain ⟨I2, h3, h4⟩ := h2 J1
  obtain ⟨ν, kk⟩ := n0 I2 J1 P r k r2 k2 z5 z6 z7 hw hp h4
  exact ⟨ν, R361_0 (I1 := I1) (I2 := I2) (J1 := J1) (v := v) hX hi (d161 (q := (v, I1, J1)) hw h1) (d219 (q := (v, I2, J1)) hw h3) kk⟩
theorem T361_1 (hw : pm_W P r k r2 k2) (hp : pm_prs r r2 k k2) (hR : pm_RR r k I) (he : e < 100000) (hX : X.2 < 2147483648) (hi : i + 6 < X.2) (n0 : pm_NX X d i e) (n1 : pm_NX X d i (e + 1)) : ∃ ν, pm_Fx X (d + 60) 361 293 [.retAddr 0, .ref 0, .ref 127, .ref 157, .int (nI i), z5, z6, z7] [] (I, J, P, pm_T0, e) (.inl (some (.int 1))) ν := by
  rcases K1 (J := J) (x := X.1 (i + 1)) hR hp.1 with ⟨⟨v, s⟩, I1, J1, h1, _, h2⟩ | ⟨I1, J1, h1, _, h2⟩
  · obtain ⟨I2, h3, h4, h6⟩ := h2 (pm_wl J1 157 0 v.toInt64)
    cases s with
    | true =>
      have hw2 := W_rs hw
      obtain ⟨ν, kk⟩ := n0 I2 (pm_wl J1 157 0 v.toInt64) (pm_wp (pm_wp P 3 6 r2) 0 8 r) r2 k r k2 (.int (nI 0)) (.int v) z7 hw2 (by unfold pm_prs at hp ⊢; omega) h6
      exact ⟨ν, R361_1 (c := 0) (P1 := (pm_wp (pm_wp P 3 6 r2) 0 8 r)) hX hi (d330a hw he h1) (d221 hw2 h3) h4 (by omega) (fun _ => wl_s) kk⟩
    | false =>
      obtain ⟨ν, kk⟩ := n0 I2 (pm_wl J1 157 0 v.toInt64) P r k r2 k2 (.int (nI 0)) (.int v) z7 hw hp h6
      exact ⟨ν, R361_1 (c := 0) (P1 := P) hX hi (d330a hw he h1) (d221 hw h3) h4 (by omega) (fun _ => wl_s) kk⟩
  · obtain ⟨b, I2, h3, h4, h6⟩ := h2 J1
    obtain ⟨ν, kk⟩ := n1 I2 J1 P r k r2 k2 (.int (nI 1)) (.int b) z7 hw hp h6
    exact ⟨ν, R361_1 (c := 1) hX hi (d330b2 hw he h1) (d221 hw h3) h4 (by omega) (fun y => by omega) kk⟩
theorem T361_2 (hw : pm_W P r k r2 k2) (hp : pm_prs r r2 k k2) (hR : pm_RR r k I) (he : e < 100000) (hX : X.2 < 2147483648) (hi : i + 6 < X.2) (n0 : pm_NX X d i e) (n1 : pm_NX X d i (e + 1)) : ∃ ν, pm_Fx X (d + 60) 361 349 [.retAddr 0, .ref 0, .ref 127, .ref 157, .int (nI i), z5, z6, z7] [] (I, J, P, pm_T0, e) (.inl (some (.int 1))) ν := by
  rcases K2 (J := J) (x := X.1 (i + 1)) (y := X.1 (i + 2)) hR with ⟨v, I1, J1, h1, _, h2⟩ | ⟨I1, J1, h1, _, h2⟩
  · obtain ⟨I2, h3, h4, h6⟩ := h2 (pm_wl J1 157 0 v.toInt64)
    obtain ⟨ν, kk⟩ := n0 I2 (pm_wl J1 157 0 v.toInt64) P r k r2 k2 (.int (nI 0)) (.int v) z7 hw hp h6
    exact ⟨ν, R361_2 (c := 0) hX hi (d331a hw he h1) (d240 hw h3) h4 (by omega) (fun _ => wl_s) kk⟩
  · obtain ⟨b, I2, h3, h4, h6⟩ := h2 J1
    obtain ⟨ν, kk⟩ := n1 I2 J1 P r k r2 k2 (.int (nI 1)) (.int b) z7 hw hp h6
    exact ⟨ν, R361_2 (c := 1) hX hi (d331b2 hw he h1) (d240 hw h3) h4 (by omega) (fun y => by omega) kk⟩
theorem T361_3 (hw : pm_W P r k r2 k2) (hp : pm_prs r r2 k k2) (hR : pm_RR r k I) (he : e < 100000) (hX : X.2 < 2147483648) (hi : i + 6 < X.2) (n0 : pm_NX X d i e) (n1 : pm_NX X d i (e + 1)) : ∃ ν, pm_Fx X (d + 60) 361 417 [.retAddr 0, .ref 0, .ref 127, .ref 157, .int (nI i), z5, z6, z7] [] (I, J, P, pm_T0, e) (.inl (some (.int 1))) ν := by
  rcases K3 (J := J) (x := X.1 (i + 1)) hR with ⟨v, I1, J1, h1, _, h2⟩ | ⟨I1, J1, h1, _, h2⟩
  · obtain ⟨I2, h3, h4, h6⟩ := h2 (pm_wl J1 157 0 v.toInt64)
    obtain ⟨ν, kk⟩ := n0 I2 (pm_wl J1 157 0 v.toInt64) P r k r2 k2 (.int (nI 0)) (.int v) z7 hw hp h6
    exact ⟨ν, R361_3 (c := 0) hX hi (d332a hw he h1) (d249 hw h3) h4 (by omega) (fun _ => wl_s) kk⟩
  · obtain ⟨b, I2, h3, h4, h6⟩ := h2 J1
    obtain ⟨ν, kk⟩ := n1 I2 J1 P r k r2 k2 (.int (nI 1)) (.int b) z7 hw hp h6
    exact ⟨ν, R361_3 (c := 1) hX hi (d332b2 hw he h1) (d249 hw h3) h4 (by omega) (fun y => by omega) kk⟩
theorem T361_4 (hw : pm_W P r k r2 k2) (hp : pm_prs r r2 k k2) (hR : pm_RR r k I) (he : e < 100000) (hX : X.2 < 2147483648) (hi : i + 6 < X.2) (n0 : pm_NX X d i e) (n1 : pm_NX X d i (e + 1)) : ∃ ν, pm_Fx X (d + 60) 361 473 [.retAddr 0, .ref 0, .ref 127, .ref 157, .int (nI i), z5, z6, z7] [] (I, J, P, pm_T0, e) (.inl (some (.int 1))) ν := by
  rcases K4 (J := J) (x := X.1 (i + 1)) hR hp.2 with ⟨⟨v, s⟩, I1, J1, h1, _, h2⟩ | ⟨I1, J1, h1, _, h2⟩
  · obtain ⟨I2, h3, h4, h6⟩ := h2 (pm_wl J1 157 0 v.toInt64)
    cases s with
    | true =>
      have hw2 := W_bs hw
      obtain ⟨ν, kk⟩ := n0 I2 (pm_wl J1 157 0 v.toInt64) (pm_wp (pm_wp P 0 9 k2) 0 10 k) r k2 r2 k (.int (nI 0)) (.int v) z7 hw2 (by unfold pm_prs at hp ⊢; omega) h6
      exact ⟨ν, R361_4 (c := 0) (P1 := (pm_wp (pm_wp P 0 9 k2) 0 10 k)) hX hi (d333a hw he h1) (d273 hw2 h3) h4 (by omega) (fun _ => wl_s) kk⟩
    | false =>
      obtain ⟨ν, kk⟩ := n0 I2 (pm_wl J1 157 0 v.toInt64) P r k r2 k2 (.int (nI 0)) (.int v) z7 hw hp h6
      exact ⟨ν, R361_4 (c := 0) (P1 := P) hX hi (d333a hw he h1) (d273 hw h3) h4 (by omega) (fun _ => wl_s) kk⟩
  · obtain ⟨b, I2, h3, h4, h6⟩ := h2 J1
    obtain ⟨ν, kk⟩ := n1 I2 J1 P r k r2 k2 (.int (nI 1)) (.int b) z7 hw hp h6
    exact ⟨ν, R361_4 (c := 1) hX hi (d333b2 hw he h1) (d273 hw h3) h4 (by omega) (fun y => by omega) kk⟩
theorem T361_5 (hw : pm_W P r k r2 k2) (hp : pm_prs r r2 k k2) (hR : pm_RR r k I) (he : e < 100000) (hX : X.2 < 2147483648) (hi : i + 6 < X.2) (n0 : pm_NX X d i e) (n1 : pm_NX X d i (e + 1)) : ∃ ν, pm_Fx X (d + 60) 361 529 [.retAddr 0, .ref 0, .ref 127, .ref 157, .int (nI i), z5, z6, z7] [] (I, J, P, pm_T0, e) (.inl (some (.int 1))) ν := by
  obtain ⟨v, I1, J1, h1, _, h2⟩ := K5 (J := J)  hR
  obtain ⟨I2, h3, h4⟩ := h2 J1
  obtain ⟨ν, kk⟩ := n0 I2 J1 P r k r2 k2 z5 z6 z7 hw hp h4
  injection h1 with h1
  injection h1 with e1 h1
  injection h1 with e2 e3
  subst e2 e3
  exact ⟨ν, R361_5 hX hi (d162 hw e1) (d220 hw h3) kk⟩
theorem T361_6 (hw : pm_W P r k r2 k2) (hp : pm_prs r r2 k k2) (hR : pm_RR r k I) (he : e < 100000) (hX : X.2 < 2147483648) (hi : i + 6 < X.2) (n0 : pm_NX X d i e) (n1 : pm_NX X d i (e + 1)) : ∃ ν, pm_Fx X (d + 60) 361 542 [.retAddr 0, .ref 0, .ref 127, .ref 157, .int (nI i), z5, z6, z7] [] (I, J, P, pm_T0, e) (.inl (some (.int 1))) ν := by
  obtain ⟨v, I1, J1, h1, _, h2⟩ := K6 (J := J)  hR
  obtain ⟨I2, h3, h4⟩ := h2 J1
  obtain ⟨ν, kk⟩ := n0 I2 J1 P r k r2 k2 z5 z6 z7 hw hp h4
  exact ⟨ν, R361_6 (I1 := I1) (I2 := I2) (J1 := J1) (v := v) hX hi (d163 (q := (v, I1, J1)) hw h1) (d274 (q := (v, I2, J1)) hw h3) kk⟩
theorem T361_7 (hw : pm_W P r k r2 k2) (hp : pm_prs r r2 k k2) (hR : pm_RR r k I) (he : e < 100000) (hX : X.2 < 2147483648) (hi : i + 6 < X.2) (n0 : pm_NX X d i e) (n1 : pm_NX X d i (e + 1)) : ∃ ν, pm_Fx X (d + 60) 361 555 [.retAddr 0, .ref 0, .ref 127, .ref 157, .int (nI i), z5, z6, z7] [] (I, J, P, pm_T0, e) (.inl (some (.int 1))) ν := by
  rcases KK_n1 (fun t9 => K7g (t9 := t9) (J := J) (x := X.1 (i + 1)) hR) with ⟨v, I1, J1, h1, _, h2⟩ | ⟨I1, J1, h1, _, h2⟩
  · obtain ⟨b, I2, h3, h4, h5, h6⟩ := h2 (pm_wl J1 157 0 v.toInt64)
    subst h5
    obtain ⟨ν, kk⟩ := n0 I2 (pm_wl J1 157 0 v.toInt64) P r k r2 k2 (.int (nI 0)) (.int v) z7 hw hp h6
    exact ⟨ν, R361_7 (c := 0) hX hi (d334a hw he h1) (d275 hw h3) h4 (by omega) (fun _ => wl_s) kk⟩
  · obtain ⟨b, I2, h3, h4, h6⟩ := h2 J1
    obtain ⟨ν, kk⟩ := n1 I2 J1 P r k r2 k2 (.int (nI 1)) (.int b) z7 hw hp h6
    exact ⟨ν, R361_7 (c := 1) hX hi (d334b2 hw he h1) (d275 hw h3) h4 (by omega) (fun y => by omega) kk⟩
theorem T361_8 (hw : pm_W P r k r2 k2) (hp : pm_prs r r2 k k2) (hR : pm_RR r k I) (he : e < 100000) (hX : X.2 < 2147483648) (hi : i + 6 < X.2) (n0 : pm_NX X d i e) (n1 : pm_NX X d i (e + 1)) : ∃ ν, pm_Fx X (d + 60) 361 611 [.retAddr 0, .ref 0, .ref 127, .ref 157, .int (nI i), z5, z6, z7] [] (I, J, P, pm_T0, e) (.inl (some (.int 1))) ν := by
  rcases K8 (J := J) (x := X.1 (i + 1)) (y := X.1 (i + 2)) hR with ⟨v, I1, J1, h1, _, h2⟩ | ⟨t, c, I1, J1, htc, h1, _, h2⟩
  · obtain ⟨b, I2, h3, h4, h5, h6⟩ := h2 (pm_wl J1 157 0 v.toInt64)
    subst h5
    obtain ⟨ν, kk⟩ := n0 I2 (pm_wl J1 157 0 v.toInt64) P r k r2 k2 (.int (nI 0)) (.int v) z7 hw hp h6
    exact ⟨ν, R361_8 (c := 0) hX hi (d335a hw he h1) (d276 hw h3) h4 (by omega) (fun _ => wl_s) kk⟩
  · obtain ⟨b, I2, h3, h4, h6⟩ := h2 J1
    obtain ⟨ν, kk⟩ := n1 I2 J1 P r k r2 k2 (.int (nI c)) (.int b) z7 hw hp h6
    rcases htc with ⟨rfl, rfl⟩ | ⟨rfl, rfl⟩
    · exact ⟨ν, R361_8 (c := 1) hX hi (d335b1 hw he h1) (d276 hw h3) h4 (by omega) (fun y => by omega) kk⟩
    · exact ⟨ν, R361_8 (c := 2) hX hi (d335b2 hw he h1) (d276 hw h3) h4 (by omega) (fun y => by omega) kk⟩
theorem T361_9 (hw : pm_W P r k r2 k2) (hp : pm_prs r r2 k k2) (hR : pm_RR r k I) (he : e < 100000) (hX : X.2 < 2147483648) (hi : i + 6 < X.2) (n0 : pm_NX X d i e) (n1 : pm_NX X d i (e + 1)) : ∃ ν, pm_Fx X (d + 60) 361 679 [.retAddr 0, .ref 0, .ref 127, .ref 157, .int (nI i), z5, z6, z7] [] (I, J, P, pm_T0, e) (.inl (some (.int 1))) ν := by
  rcases K9 (J := J) (x := X.1 (i + 1)) (y := X.1 (i + 2)) hR with ⟨v, I1, J1, h1, _, h2⟩ | ⟨t, c, I1, J1, htc, h1, _, h2⟩
  · obtain ⟨b, I2, h3, h4, h5, h6⟩ := h2 (pm_wl J1 157 0 v.toInt64)
    subst h5
    obtain ⟨ν, kk⟩ := n0 I2 (pm_wl J1 157 0 v.toInt64) P r k r2 k2 (.int (nI 0)) (.int v) z7 hw hp h6
    exact ⟨ν, R361_9 (c := 0) hX hi (d336a hw he h1) (d278 hw h3) h4 (by omega) (fun _ => wl_s) kk⟩
  · obtain ⟨b, I2, h3, h4, h6⟩ := h2 J1
    obtain ⟨ν, kk⟩ := n1 I2 J1 P r k r2 k2 (.int (nI c)) (.int b) z7 hw hp h6
    rcases htc with ⟨rfl, rfl⟩ | ⟨rfl, rfl⟩
    · exact ⟨ν, R361_9 (c := 1) hX hi (d336b1 hw he h1) (d278 hw h3) h4 (by omega) (fun y => by omega) kk⟩
    · exact ⟨ν, R361_9 (c := 2) hX hi (d336b2 hw he h1) (d278 hw h3) h4 (by omega) (fun y => by omega) kk⟩
theorem T361_10 (hw : pm_W P r k r2 k2) (hp : pm_prs r r2 k k2) (hR : pm_RR r k I) (he : e < 100000) (hX : X.2 < 2147483648) (hi : i + 6 < X.2) (n0 : pm_NX X d i e) (n1 : pm_NX X d i (e + 1)) : ∃ ν, pm_Fx X (d + 60) 361 747 [.retAddr 0, .ref 0, .ref 127, .ref 157, .int (nI i), z5, z6, z7] [] (I, J, P, pm_T0, e) (.inl (some (.int 1))) ν := by
  rcases K10 (J := J) (x := X.1 (i + 1)) (y := X.1 (i + 2)) hR with ⟨v, I1, J1, h1, _, h2⟩ | ⟨t, c, I1, J1, htc, h1, _, h2⟩
  · obtain ⟨b, I2, h3, h4, h5, h6⟩ := h2 (pm_wl J1 157 0 v.toInt64)
    subst h5
    obtain ⟨ν, kk⟩ := n0 I2 (pm_wl J1 157 0 v.toInt64) P r k r2 k2 (.int (nI 0)) (.int v) z7 hw hp h6
    exact ⟨ν, R361_10 (c := 0) hX hi (d337a hw he h1) (d280 hw h3) h4 (by omega) (fun _ => wl_s) kk⟩
  · obtain ⟨b, I2, h3, h4, h6⟩ := h2 J1
    obtain ⟨ν, kk⟩ := n1 I2 J1 P r k r2 k2 (.int (nI c)) (.int b) z7 hw hp h6
    rcases htc with ⟨rfl, rfl⟩ | ⟨rfl, rfl⟩
    · exact ⟨ν, R361_10 (c := 1) hX hi (d337b1 hw he h1) (d280 hw h3) h4 (by omega) (fun y => by omega) kk⟩
    · exact ⟨ν, R361_10 (c := 2) hX hi (d337b2 hw he h1) (d280 hw h3) h4 (by omega) (fun y => by omega) kk⟩
theorem T361_11 (hw : pm_W P r k r2 k2) (hp : pm_prs r r2 k k2) (hR : pm_RR r k I) (he : e < 100000) (hX : X.2 < 2147483648) (hi : i + 6 < X.2) (n0 : pm_NX X d i e) (n1 : pm_NX X d i (e + 1)) : ∃ ν, pm_Fx X (d + 60) 361 815 [.retAddr 0, .ref 0, .ref 127, .ref 157, .int (nI i), z5, z6, z7] [] (I, J, P, pm_T0, e) (.inl (some (.int 1))) ν := by
  rcases KK_n2 (fun t9 => K11g (t9 := t9) (J := J) (x := X.1 (i + 1)) hR) with ⟨v, I1, J1, h1, _, h2⟩ | ⟨I1, J1, h1, _, h2⟩
  · obtain ⟨b, I2, h3, h4, h5, h6⟩ := h2 (pm_wl J1 157 0 v.toInt64)
    subst h5
    obtain ⟨ν, kk⟩ := n0 I2 (pm_wl J1 157 0 v.toInt64) P r k r2 k2 (.int (nI 0)) (.int v) z7 hw hp h6
    exact ⟨ν, R361_11 (c := 0) hX hi (d338a hw he h1) (d281 hw h3) h4 (by omega) (fun _ => wl_s) kk⟩
  · obtain ⟨b, I2, h3, h4, h6⟩ := h2 J1
    obtain ⟨ν, kk⟩ := n1 I2 J1 P r k r2 k2 (.int (nI 1)) (.int b) z7 hw hp h6
    exact ⟨ν, R361_11 (c := 1) hX hi (d338b1 hw he h1) (d281 hw h3) h4 (by omega) (fun y => by omega) kk⟩
theorem T361_12 (hw : pm_W P r k r2 k2) (hp : pm_prs r r2 k k2) (hR : pm_RR r k I) (he : e < 100000) (hX : X.2 < 2147483648) (hi : i + 6 < X.2) (n0 : pm_NX X d i e) (n1 : pm_NX X d i (e + 1)) : ∃ ν, pm_Fx X (d + 60) 361 871 [.retAddr 0, .ref 0, .ref 127, .ref 157, .int (nI i), z5, z6, z7] [] (I, J, P, pm_T0, e) (.inl (some (.int 1))) ν := by
  rcases KK_n1 (fun t9 => K12g (t9 := t9) (J := J) (y1 := X.1 (i + 1)) (y2 := X.1 (i + 2)) (y3 := X.1 (i + 3)) (y4 := X.1 (i + 4)) (y5 := X.1 (i + 5)) (y6 := X.1 (i + 6)) hR) with ⟨v, I1, J1, h1, _, h2⟩ | ⟨I1, J1, h1, _, h2⟩
  · obtain ⟨b, I2, h3, h4, h5, h6⟩ := h2 (pm_wl J1 157 0 v.toInt64)
    subst h5
    obtain ⟨ν, kk⟩ := n0 I2 (pm_wl J1 157 0 v.toInt64) P r k r2 k2 (.int (nI 0)) (.int v) z7 hw hp h6
    exact ⟨ν, R361_12 (c := 0) hX hi (d339a hw he h1) (d282 hw h3) h4 (by omega) (fun _ => wl_s) kk⟩
  · obtain ⟨b, I2, h3, h4, h6⟩ := h2 J1
    obtain ⟨ν, kk⟩ := n1 I2 J1 P r k r2 k2 (.int (nI 1)) (.int b) z7 hw hp h6
    exact ⟨ν, R361_12 (c := 1) hX hi (d339b2 hw he h1) (d282 hw h3) h4 (by omega) (fun y => by omega) kk⟩
theorem T361_13 (hw : pm_W P r k r2 k2) (hp : pm_prs r r2 k k2) (hR : pm_RR r k I) (he : e < 100000) (hX : X.2 < 2147483648) (hi : i + 6 < X.2) (n0 : pm_NX X d i e) (n1 : pm_NX X d i (e + 1)) : ∃ ν, pm_Fx X (d + 60) 361 989 [.retAddr 0, .ref 0, .ref 127, .ref 157, .int (nI i), z5, z6, z7] [] (I, J, P, pm_T0, e) (.inl (some (.int 1))) ν := by
  obtain ⟨v, I1, J1, h1, _, h2⟩ := K13 (J := J)  hR
  obtain ⟨I2, h3, h4⟩ := h2 J1
  obtain ⟨ν, kk⟩ := n0 I2 J1 P r k r2 k2 z5 z6 z7 hw hp h4
  exact ⟨ν, R361_13 (I1 := I1) (I2 := I2) (J1 := J1) (v := v) hX hi (d165 (q := (v, I1, J1)) hw h1) (d283 (q := (v, I2, J1)) hw h3) kk⟩
theorem T361_14 (hw : pm_W P r k r2 k2) (hp : pm_prs r r2 k k2) (hR : pm_RR r k I) (he : e < 100000) (hX : X.2 < 2147483648) (hi : i + 6 < X.2) (n0 : pm_NX X d i e) (n1 : pm_NX X d i (e + 1)) : ∃ ν, pm_Fx X (d + 60) 361 1002 [.retAddr 0, .ref 0, .ref 127, .ref 157, .int (nI i), z5, z6, z7] [] (I, J, P, pm_T0, e) (.inl (some (.int 1))) ν := by
  rcases KK_n2 (fun t9 => K14g (t9 := t9) (J := J) (x := X.1 (i + 1)) hR) with ⟨v, I1, J1, h1, _, h2⟩ | ⟨I1, J1, h1, _, h2⟩
  · obtain ⟨b, I2, h3, h4, h5, h6⟩ := h2 (pm_wl J1 157 0 v.toInt64)
    subst h5
    obtain ⟨ν, kk⟩ := n0 I2 (pm_wl J1 157 0 v.toInt64) P r k r2 k2 (.int (nI 0)) (.int v) z7 hw hp h6
    exact ⟨ν, R361_14 (c := 0) hX hi (d340a hw he h1) (d284 hw h3) h4 (by omega) (fun _ => wl_s) kk⟩
  · obtain ⟨b, I2, h3, h4, h6⟩ := h2 J1
    obtain ⟨ν, kk⟩ := n1 I2 J1 P r k r2 k2 (.int (nI 1)) (.int b) z7 hw hp h6
    exact ⟨ν, R361_14 (c := 1) hX hi (d340b1 hw he h1) (d284 hw h3) h4 (by omega) (fun y => by omega) kk⟩
theorem T361_15 (hw : pm_W P r k r2 k2) (hp : pm_prs r r2 k k2) (hR : pm_RR r k I) (he : e < 100000) (hX : X.2 < 2147483648) (hi : i + 6 < X.2) (n0 : pm_NX X d i e) (n1 : pm_NX X d i (e + 1)) : ∃ ν, pm_Fx X (d + 60) 361 1058 [.retAddr 0, .ref 0, .ref 127, .ref 157, .int (nI i), z5, z6, z7] [] (I, J, P, pm_T0, e) (.inl (some (.int 1))) ν := by
  rcases KK_n2 (fun t9 => K15g (t9 := t9) (J := J) (x := X.1 (i + 1)) hR) with ⟨v, I1, J1, h1, _, h2⟩ | ⟨I1, J1, h1, _, h2⟩
  · obtain ⟨b, I2, h3, h4, h5, h6⟩ := h2 (pm_wl J1 157 0 v.toInt64)
    subst h5
    obtain ⟨ν, kk⟩ := n0 I2 (pm_wl J1 157 0 v.toInt64) P r k r2 k2 (.int (nI 0)) (.int v) z7 hw hp h6
    exact ⟨ν, R361_15 (c := 0) hX hi (d341a hw he h1) (d286 hw h3) h4 (by omega) (fun _ => wl_s) kk⟩
  · obtain ⟨b, I2, h3, h4, h6⟩ := h2 J1
    obtain ⟨ν, kk⟩ := n1 I2 J1 P r k r2 k2 (.int (nI 1)) (.int b) z7 hw hp h6
    exact ⟨ν, R361_15 (c := 1) hX hi (d341b1 hw he h1) (d286 hw h3) h4 (by omega) (fun y => by omega) kk⟩
theorem T361_16 (hw : pm_W P r k r2 k2) (hp : pm_prs r r2 k k2) (hR : pm_RR r k I) (he : e < 100000) (hX : X.2 < 2147483648) (hi : i + 6 < X.2) (n0 : pm_NX X d i e) (n1 : pm_NX X d i (e + 1)) : ∃ ν, pm_Fx X (d + 60) 361 1114 [.retAddr 0, .ref 0, .ref 127, .ref 157, .int (nI i), z5, z6, z7] [] (I, J, P, pm_T0, e) (.inl (some (.int 1))) ν := by
  rcases KK_n1 (fun t9 => K16g (t9 := t9) (J := J) (x := X.1 (i + 1)) (y := X.1 (i + 2)) hR) with ⟨v, I1, J1, h1, _, h2⟩ | ⟨I1, J1, h1, _, h2⟩
  · obtain ⟨b, I2, h3, h4, h5, h6⟩ := h2 (pm_wl J1 157 0 v.toInt64)
    subst h5
    obtain ⟨ν, kk⟩ := n0 I2 (pm_wl J1 157 0 v.toInt64) P r k r2 k2 (.int (nI 0)) (.int v) z7 hw hp h6
    exact ⟨ν, R361_16 (c := 0) hX hi (d342a hw he h1) (d287 hw h3) h4 (by omega) (fun _ => wl_s) kk⟩
  · obtain ⟨b, I2, h3, h4, h6⟩ := h2 J1
    obtain ⟨ν, kk⟩ := n1 I2 J1 P r k r2 k2 (.int (nI 1)) (.int b) z7 hw hp h6
    exact ⟨ν, R361_16 (c := 1) hX hi (d342b2 hw he h1) (d287 hw h3) h4 (by omega) (fun y => by omega) kk⟩
theorem T361_17 (hw : pm_W P r k r2 k2) (hp : pm_prs r r2 k k2) (hR : pm_RR r k I) (he : e < 100000) (hX : X.2 < 2147483648) (hi : i + 6 < X.2) (n0 : pm_NX X d i e) (n1 : pm_NX X d i (e + 1)) : ∃ ν, pm_Fx X (d + 60) 361 1182 [.retAddr 0, .ref 0, .ref 127, .ref 157, .int (nI i), z5, z6, z7] [] (I, J, P, pm_T0, e) (.inl (some (.int 1))) ν := by
  rcases KK_n2 (fun t9 => K17g (t9 := t9) (J := J) (x := X.1 (i + 1)) (y := X.1 (i + 2)) hR) with ⟨v, I1, J1, h1, _, h2⟩ | ⟨I1, J1, h1, _, h2⟩
  · obtain ⟨b, I2, h3, h4, h5, h6⟩ := h2 (pm_wl J1 157 0 v.toInt64)
    subst h5
    obtain ⟨ν, kk⟩ := n0 I2 (pm_wl J1 157 0 v.toInt64) P r k r2 k2 (.int (nI 0)) (.int v) z7 hw hp h6
    exact ⟨ν, R361_17 (c := 0) hX hi (d343a hw he h1) (d288 hw h3) h4 (by omega) (fun _ => wl_s) kk⟩
  · obtain ⟨b, I2, h3, h4, h6⟩ := h2 J1
    obtain ⟨ν, kk⟩ := n1 I2 J1 P r k r2 k2 (.int (nI 1)) (.int b) z7 hw hp h6
    exact ⟨ν, R361_17 (c := 1) hX hi (d343b1 hw he h1) (d288 hw h3) h4 (by omega) (fun y => by omega) kk⟩
theorem T361_18 (hw : pm_W P r k r2 k2) (hp : pm_prs r r2 k k2) (hR : pm_RR r k I) (he : e < 100000) (hX : X.2 < 2147483648) (hi : i + 6 < X.2) (n0 : pm_NX X d i e) (n1 : pm_NX X d i (e + 1)) : ∃ ν, pm_Fx X (d + 60) 361 1250 [.retAddr 0, .ref 0, .ref 127, .ref 157, .int (nI i), z5, z6, z7] [] (I, J, P, pm_T0, e) (.inl (some (.int 1))) ν := by
  rcases KK_n1 (fun t9 => K18 (t1 := t9) (J := J) (x := X.1 (i + 1)) hR) with ⟨v, I1, J1, h1, _, h2⟩ | ⟨I1, J1, h1, _, h2⟩
  · obtain ⟨b, I2, h3, h4, h5, h6⟩ := h2 (pm_wl J1 157 0 v.toInt64)
    subst h5
    obtain ⟨ν, kk⟩ := n0 I2 (pm_wl J1 157 0 v.toInt64) P r k r2 k2 (.int (nI 0)) (.int v) z7 hw hp h6
    exact ⟨ν, R361_18 (c := 0) hX hi (d344a hw he h1) (d290 hw h3) h4 (by omega) (fun _ => wl_s) kk⟩
  · obtain ⟨b, I2, h3, h4, h6⟩ := h2 J1
    obtain ⟨ν, kk⟩ := n1 I2 J1 P r k r2 k2 (.int (nI 1)) (.int b) z7 hw hp h6
    exact ⟨ν, R361_18 (c := 1) hX hi (d344b2 hw he h1) (d290 hw h3) h4 (by omega) (fun y => by omega) kk⟩
theorem T361_19 (hw : pm_W P r k r2 k2) (hp : pm_prs r r2 k k2) (hR : pm_RR r k I) (he : e < 100000) (hX : X.2 < 2147483648) (hi : i + 6 < X.2) (n0 : pm_NX X d i e) (n1 : pm_NX X d i (e + 1)) : ∃ ν, pm_Fx X (d + 60) 361 1306 [.retAddr 0, .ref 0, .ref 127, .ref 157, .int (nI i), z5, z6, z7] [] (I, J, P, pm_T0, e) (.inl (some (.int 1))) ν := by
  rcases KK_n2 (fun t9 => K19 (t2 := t9) (J := J) (x := X.1 (i + 1)) hR) with ⟨v, I1, J1, h1, _, h2⟩ | ⟨I1, J1, h1, _, h2⟩
  · obtain ⟨b, I2, h3, h4, h5, h6⟩ := h2 (pm_wl J1 157 0 v.toInt64)
    subst h5
    obtain ⟨ν, kk⟩ := n0 I2 (pm_wl J1 157 0 v.toInt64) P r k r2 k2 (.int (nI 0)) (.int v) z7 hw hp h6
    exact ⟨ν, R361_19 (c := 0) hX hi (d345a hw he h1) (d294 hw h3) h4 (by omega) (fun _ => wl_s) kk⟩
  · obtain ⟨b, I2, h3, h4, h6⟩ := h2 J1
    obtain ⟨ν, kk⟩ := n1 I2 J1 P r k r2 k2 (.int (nI 1)) (.int b) z7 hw hp h6
    exact ⟨ν, R361_19 (c := 1) hX hi (d345b1 hw he h1) (d294 hw h3) h4 (by omega) (fun y => by omega) kk⟩
theorem T361_20 (hw : pm_W P r k r2 k2) (hp : pm_prs r r2 k k2) (hR : pm_RR r k I) (he : e < 100000) (hX : X.2 < 2147483648) (hi : i + 6 < X.2) (n0 : pm_NX X d i e) (n1 : pm_NX X d i (e + 1)) : ∃ ν, pm_Fx X (d + 60) 361 1362 [.retAddr 0, .ref 0, .ref 127, .ref 157, .int (nI i), z5, z6, z7] [] (I, J, P, pm_T0, e) (.inl (some (.int 1))) ν := by
  obtain ⟨v, I1, J1, h1, _, h2⟩ := K20 (J := J)  hR
  obtain ⟨I2, h3, h4⟩ := h2 J1
  obtain ⟨ν, kk⟩ := n0 I2 J1 P r k r2 k2 z5 z6 z7 hw hp h4
  exact ⟨ν, R361_20 (I1 := I1) (I2 := I2) (J1 := J1) (v := v) hX hi (d166 (q := (v, I1, J1)) hw h1) (d295 (q := (v, I2, J1)) hw h3) kk⟩
theorem T361_21 (hw : pm_W P r k r2 k2) (hp : pm_prs r r2 k k2) (hR : pm_RR r k I) (he : e < 100000) (hX : X.2 < 2147483648) (hi : i + 6 < X.2) (n0 : pm_NX X d i e) (n1 : pm_NX X d i (e + 1)) : ∃ ν, pm_Fx X (d + 60) 361 1375 [.retAddr 0, .ref 0, .ref 127, .ref 157, .int (nI i), z5, z6, z7] [] (I, J, P, pm_T0, e) (.inl (some (.int 1))) ν := by
  rcases KK_n2 (fun t9 => K21g (t9 := t9) (J := J) (x := X.1 (i + 1)) hR) with ⟨v, I1, J1, h1, _, h2⟩ | ⟨I1, J1, h1, _, h2⟩
  · obtain ⟨b, I2, h3, h4, h5, h6⟩ := h2 (pm_wl J1 157 0 v.toInt64)
    subst h5
    obtain ⟨ν, kk⟩ := n0 I2 (pm_wl J1 157 0 v.toInt64) P r k r2 k2 (.int (nI 0)) (.int v) z7 hw hp h6
    exact ⟨ν, R361_21 (c := 0) hX hi (d346a hw he h1) (d296 hw h3) h4 (by omega) (fun _ => wl_s) kk⟩
  · obtain ⟨b, I2, h3, h4, h6⟩ := h2 J1
    obtain ⟨ν, kk⟩ := n1 I2 J1 P r k r2 k2 (.int (nI 1)) (.int b) z7 hw hp h6
    exact ⟨ν, R361_21 (c := 1) hX hi (d346b1 hw he h1) (d296 hw h3) h4 (by omega) (fun y => by omega) kk⟩
theorem T361_22 (hw : pm_W P r k r2 k2) (hp : pm_prs r r2 k k2) (hR : pm_RR r k I) (he : e < 100000) (hX : X.2 < 2147483648) (hi : i + 6 < X.2) (n0 : pm_NX X d i e) (n1 : pm_NX X d i (e + 1)) : ∃ ν, pm_Fx X (d + 60) 361 1431 [.retAddr 0, .ref 0, .ref 127, .ref 157, .int (nI i), z5, z6, z7] [] (I, J, P, pm_T0, e) (.inl (some (.int 1))) ν := by
  rcases KK_n2 (fun t9 => K22g (t9 := t9) (J := J) (x := X.1 (i + 1)) hR) with ⟨v, I1, J1, h1, _, h2⟩ | ⟨I1, J1, h1, _, h2⟩
  · obtain ⟨b, I2, h3, h4, h5, h6⟩ := h2 (pm_wl J1 157 0 v.toInt64)
    subst h5
    obtain ⟨ν, kk⟩ := n0 I2 (pm_wl J1 157 0 v.toInt64) P r k r2 k2 (.int (nI 0)) (.int v) z7 hw hp h6
    exact ⟨ν, R361_22 (c := 0) hX hi (d347a hw he h1) (d297 hw h3) h4 (by omega) (fun _ => wl_s) kk⟩
  · obtain ⟨b, I2, h3, h4, h6⟩ := h2 J1
    obtain ⟨ν, kk⟩ := n1 I2 J1 P r k r2 k2 (.int (nI 1)) (.int b) z7 hw hp h6
    exact ⟨ν, R361_22 (c := 1) hX hi (d347b1 hw he h1) (d297 hw h3) h4 (by omega) (fun y => by omega) kk⟩
theorem T361_23 (hw : pm_W P r k r2 k2) (hp : pm_prs r r2 k k2) (hR : pm_RR r k I) (he : e < 100000) (hX : X.2 < 2147483648) (hi : i + 6 < X.2) (n0 : pm_NX X d i e) (n1 : pm_NX X d i (e + 1)) : ∃ ν, pm_Fx X (d + 60) 361 1487 [.retAddr 0, .ref 0, .ref 127, .ref 157, .int (nI i), z5, z6, z7] [] (I, J, P, pm_T0, e) (.inl (some (.int 1))) ν := by
  rcases KK_n2 (fun t9 => K23g (t9 := t9) (J := J) (x := X.1 (i + 1)) hR) with ⟨v, I1, J1, h1, _, h2⟩ | ⟨I1, J1, h1, _, h2⟩
  · obtain ⟨b, I2, h3, h4, h5, h6⟩ := h2 (pm_wl J1 157 0 (if v = true then 1 else 0))
    subst h5
    obtain ⟨ν, kk⟩ := n0 I2 (pm_wl J1 157 0 (if v = true then 1 else 0)) P r k r2 k2 (.int (nI 0)) (.int (pm_bi v)) z7 hw hp h6
    exact ⟨ν, R361_23 (c := 0) hX hi (d348a hw he h1) (d298 hw h3) h4 (by omega) (fun _ => wl_s.trans (by cases v <;> rfl)) kk⟩
  · obtain ⟨b, I2, h3, h4, h6⟩ := h2 J1
    obtain ⟨ν, kk⟩ := n1 I2 J1 P r k r2 k2 (.int (nI 1)) (.int (pm_bi b)) z7 hw hp h6
    exact ⟨ν, R361_23 (c := 1) hX hi (d348b1 hw he h1) (d298 hw h3) h4 (by omega) (fun y => by omega) kk⟩
theorem T361_24 (hw : pm_W P r k r2 k2) (hp : pm_prs r r2 k k2) (hR : pm_RR r k I) (he : e < 100000) (hX : X.2 < 2147483648) (hi : i + 6 < X.2) (n0 : pm_NX X d i e) (n1 : pm_NX X d i (e + 1)) : ∃ ν, pm_Fx X (d + 60) 361 1550 [.retAddr 0, .ref 0, .ref 127, .ref 157, .int (nI i), z5, z6, z7] [] (I, J, P, pm_T0, e) (.inl (some (.int 1))) ν := by
  rcases KK_n1 (fun t9 => K24g (t9 := t9) (J := J) (x := X.1 (i + 1)) hR) with ⟨v, I1, J1, h1, _, h2⟩ | ⟨I1, J1, h1, _, h2⟩
  · obtain ⟨b, I2, h3, h4, h5, h6⟩ := h2 (pm_wl J1 157 0 v.toInt64)
    subst h5
    obtain ⟨ν, kk⟩ := n0 I2 (pm_wl J1 157 0 v.toInt64) P r k r2 k2 (.int (nI 0)) (.int v) z7 hw hp h6
    exact ⟨ν, R361_24 (c := 0) hX hi (d349a hw he h1) (d299 hw h3) h4 (by omega) (fun _ => wl_s) kk⟩
  · obtain ⟨b, I2, h3, h4, h6⟩ := h2 J1
    obtain ⟨ν, kk⟩ := n1 I2 J1 P r k r2 k2 (.int (nI 1)) (.int b) z7 hw hp h6
    exact ⟨ν, R361_24 (c := 1) hX hi (d349b2 hw he h1) (d299 hw h3) h4 (by omega) (fun y => by omega) kk⟩
theorem T361_25 (hw : pm_W P r k r2 k2) (hp : pm_prs r r2 k k2) (hR : pm_RR r k I) (he : e < 100000) (hX : X.2 < 2147483648) (hi : i + 6 < X.2) (n0 : pm_NX X d i e) (n1 : pm_NX X d i (e + 1)) : ∃ ν, pm_Fx X (d + 60) 361 1606 [.retAddr 0, .ref 0, .ref 127, .ref 157, .int (nI i), z5, z6, z7] [] (I, J, P, pm_T0, e) (.inl (some (.int 1))) ν := by
  rcases KK_n1 (fun t9 => K25g (t9 := t9) (J := J) (x := X.1 (i + 1)) hR) with ⟨v, I1, J1, h1, _, h2⟩ | ⟨I1, J1, h1, _, h2⟩
  · obtain ⟨b, I2, h3, h4, h5, h6⟩ := h2 (pm_wl J1 157 0 v.toInt64)
    subst h5
    obtain ⟨ν, kk⟩ := n0 I2 (pm_wl J1 157 0 v.toInt64) P r k r2 k2 (.int (nI 0)) (.int v) z7 hw hp h6
    exact ⟨ν, R361_25 (c := 0) hX hi (d350a hw he h1) (d300 hw h3) h4 (by omega) (fun _ => wl_s) kk⟩
  · obtain ⟨b, I2, h3, h4, h6⟩ := h2 J1
    obtain ⟨ν, kk⟩ := n1 I2 J1 P r k r2 k2 (.int (nI 1)) (.int b) z7 hw hp h6
    exact ⟨ν, R361_25 (c := 1) hX hi (d350b2 hw he h1) (d300 hw h3) h4 (by omega) (fun y => by omega) kk⟩
theorem T361_26 (hw : pm_W P r k r2 k2) (hp : pm_prs r r2 k k2) (hR : pm_RR r k I) (he : e < 100000) (hX : X.2 < 2147483648) (hi : i + 6 < X.2) (n0 : pm_NX X d i e) (n1 : pm_NX X d i (e + 1)) : ∃ ν, pm_Fx X (d + 60) 361 1662 [.retAddr 0, .ref 0, .ref 127, .ref 157, .int (nI i), z5, z6, z7] [] (I, J, P, pm_T0, e) (.inl (some (.int 1))) ν := by
  obtain ⟨v, I1, J1, h1, _, h2⟩ := K26 (J := J)  hR
  obtain ⟨I2, h3, h4⟩ := h2 J1
  obtain ⟨ν, kk⟩ := n0 I2 J1 P r k r2 k2 z5 z6 z7 hw hp h4
  exact ⟨ν, R361_26 (I1 := I1) (I2 := I2) (J1 := J1) (v := v) hX hi (d167 (q := (v, I1, J1)) hw h1) (d301 (q := (v, I2, J1)) hw h3) kk⟩
theorem T361_27 (hw : pm_W P r k r2 k2) (hp : pm_prs r r2 k k2) (hR : pm_RR r k I) (he : e < 100000) (hX : X.2 < 2147483648) (hi : i + 6 < X.2) (n0 : pm_NX X d i e) (n1 : pm_NX X d i (e + 1)) : ∃ ν, pm_Fx X (d + 60) 361 1675 [.retAddr 0, .ref 0, .ref 127, .ref 157, .int (nI i), z5, z6, z7] [] (I, J, P, pm_T0, e) (.inl (some (.int 1))) ν := by
  rcases K27 (J := J) (x := X.1 (i + 1)) (y := X.1 (i + 2)) hR with ⟨v, I1, J1, h1, _, h2⟩ | ⟨t, c, I1, J1, htc, h1, _, h2⟩
  · obtain ⟨b, I2, h3, h4, h5, h6⟩ := h2 (pm_wl J1 157 0 v.toInt64)
    subst h5
    obtain ⟨ν, kk⟩ := n0 I2 (pm_wl J1 157 0 v.toInt64) P r k r2 k2 (.int (nI 0)) (.int v) z7 hw hp h6
    exact ⟨ν, R361_27 (c := 0) hX hi (d351a hw he h1) (d302 hw h3) h4 (by omega) (fun _ => wl_s) kk⟩
  · obtain ⟨b, I2, h3, h4, h6⟩ := h2 J1
    obtain ⟨ν, kk⟩ := n1 I2 J1 P r k r2 k2 (.int (nI c)) (.int b) z7 hw hp h6
    rcases htc with ⟨rfl, rfl⟩ | ⟨rfl, rfl⟩
    · exact ⟨ν, R361_27 (c := 1) hX hi (d351b1 hw he h1) (d302 hw h3) h4 (by omega) (fun y => by omega) kk⟩
    · exact ⟨ν, R361_27 (c := 2) hX hi (d351b2 hw he h1) (d302 hw h3) h4 (by omega) (fun y => by omega) kk⟩
theorem T361_28 (hw : pm_W P r k r2 k2) (hp : pm_prs r r2 k k2) (hR : pm_RR r k I) (he : e < 100000) (hX : X.2 < 2147483648) (hi : i + 6 < X.2) (n0 : pm_NX X d i e) (n1 : pm_NX X d i (e + 1)) : ∃ ν, pm_Fx X (d + 60) 361 1743 [.retAddr 0, .ref 0, .ref 127, .ref 157, .int (nI i), z5, z6, z7] [] (I, J, P, pm_T0, e) (.inl (some (.int 1))) ν := by
  rcases K28 (J := J) (x := X.1 (i + 1)) (y := X.1 (i + 2)) hR with ⟨v, I1, J1, h1, _, h2⟩ | ⟨t, c, I1, J1, htc, h1, _, h2⟩
  · obtain ⟨b, I2, h3, h4, h5, h6⟩ := h2 (pm_wl J1 157 0 v.toInt64)
    subst h5
    obtain ⟨ν, kk⟩ := n0 I2 (pm_wl J1 157 0 v.toInt64) P r k r2 k2 (.int (nI 0)) (.int v) z7 hw hp h6
    exact ⟨ν, R361_28 (c := 0) hX hi (d352a hw he h1) (d305 hw h3) h4 (by omega) (fun _ => wl_s) kk⟩
  · obtain ⟨b, I2, h3, h4, h6⟩ := h2 J1
    obtain ⟨ν, kk⟩ := n1 I2 J1 P r k r2 k2 (.int (nI c)) (.int b) z7 hw hp h6
    rcases htc with ⟨rfl, rfl⟩ | ⟨rfl, rfl⟩
    · exact ⟨ν, R361_28 (c := 1) hX hi (d352b1 hw he h1) (d305 hw h3) h4 (by omega) (fun y => by omega) kk⟩
    · exact ⟨ν, R361_28 (c := 2) hX hi (d352b2 hw he h1) (d305 hw h3) h4 (by omega) (fun y => by omega) kk⟩
theorem T361_29 (hw : pm_W P r k r2 k2) (hp : pm_prs r r2 k k2) (hR : pm_RR r k I) (he : e < 100000) (hX : X.2 < 2147483648) (hi : i + 6 < X.2) (n0 : pm_NX X d i e) (n1 : pm_NX X d i (e + 1)) : ∃ ν, pm_Fx X (d + 60) 361 1811 [.retAddr 0, .ref 0, .ref 127, .ref 157, .int (nI i), z5, z6, z7] [] (I, J, P, pm_T0, e) (.inl (some (.int 1))) ν := by
  rcases KK_n1 (fun t9 => K29g (t9 := t9) (J := J) (x := X.1 (i + 1)) (y := X.1 (i + 2)) (z := X.1 (i + 3)) hR) with ⟨v, I1, J1, h1, _, h2⟩ | ⟨I1, J1, h1, _, h2⟩
  · obtain ⟨b, I2, h3, h4, h5, h6⟩ := h2 (pm_wl J1 157 0 v)
    subst h5
    obtain ⟨ν, kk⟩ := n0 I2 (pm_wl J1 157 0 v) P r k r2 k2 (.int (nI 0)) (.long v) pm_jk hw hp h6
    exact ⟨ν, R361_29 (c := 0) hX hi (d353a hw he h1) (d308 hw h3) h4 (by omega) (fun _ => wl_s) kk⟩
  · obtain ⟨b, I2, h3, h4, h6⟩ := h2 J1
    obtain ⟨ν, kk⟩ := n1 I2 J1 P r k r2 k2 (.int (nI 1)) (.long b) pm_jk hw hp h6
    exact ⟨ν, R361_29 (c := 1) hX hi (d353b2 hw he h1) (d308 hw h3) h4 (by omega) (fun y => by omega) kk⟩
theorem T361_30 (hw : pm_W P r k r2 k2) (hp : pm_prs r r2 k k2) (hR : pm_RR r k I) (he : e < 100000) (hX : X.2 < 2147483648) (hi : i + 6 < X.2) (n0 : pm_NX X d i e) (n1 : pm_NX X d i (e + 1)) : ∃ ν, pm_Fx X (d + 60) 361 1890 [.retAddr 0, .ref 0, .ref 127, .ref 157, .int (nI i), z5, z6, z7] [] (I, J, P, pm_T0, e) (.inl (some (.int 1))) ν := by
  rcases KK_n1 (fun t9 => K30g (t9 := t9) (J := J) (x := X.1 (i + 1)) (y := X.1 (i + 2)) hR) with ⟨v, I1, J1, h1, _, h2⟩ | ⟨I1, J1, h1, _, h2⟩
  · obtain ⟨b, I2, h3, h4, h5, h6⟩ := h2 (pm_wl J1 157 0 v.toInt64)
    subst h5
    obtain ⟨ν, kk⟩ := n0 I2 (pm_wl J1 157 0 v.toInt64) P r k r2 k2 (.int (nI 0)) (.int v) z7 hw hp h6
    exact ⟨ν, R361_30 (c := 0) hX hi (d354a hw he h1) (d312 hw h3) h4 (by omega) (fun _ => wl_s) kk⟩
  · obtain ⟨b, I2, h3, h4, h6⟩ := h2 J1
    obtain ⟨ν, kk⟩ := n1 I2 J1 P r k r2 k2 (.int (nI 1)) (.int b) z7 hw hp h6
    exact ⟨ν, R361_30 (c := 1) hX hi (d354b2 hw he h1) (d312 hw h3) h4 (by omega) (fun y => by omega) kk⟩
theorem T361_31 (hw : pm_W P r k r2 k2) (hp : pm_prs r r2 k k2) (hR : pm_RR r k I) (he : e < 100000) (hX : X.2 < 2147483648) (hi : i + 6 < X.2) (n0 : pm_NX X d i e) (n1 : pm_NX X d i (e + 1)) : ∃ ν, pm_Fx X (d + 60) 361 1958 [.retAddr 0, .ref 0, .ref 127, .ref 157, .int (nI i), z5, z6, z7] [] (I, J, P, pm_T0, e) (.inl (some (.int 1))) ν := by
  rcases KK_n1 (fun t9 => K31g (t9 := t9) (J := J) (x := X.1 (i + 1)) (y := X.1 (i + 2)) (z := X.1 (i + 3)) hR) with ⟨v, I1, J1, h1, _, h2⟩ | ⟨I1, J1, h1, _, h2⟩
  · obtain ⟨b, I2, h3, h4, h5, h6⟩ := h2 (pm_wl J1 157 0 v.toInt64)
    subst h5
    obtain ⟨ν, kk⟩ := n0 I2 (pm_wl J1 157 0 v.toInt64) P r k r2 k2 (.int (nI 0)) (.int v) z7 hw hp h6
    exact ⟨ν, R361_31 (c := 0) hX hi (d355a hw he h1) (d313 hw h3) h4 (by omega) (fun _ => wl_s) kk⟩
  · obtain ⟨b, I2, h3, h4, h6⟩ := h2 J1
    obtain ⟨ν, kk⟩ := n1 I2 J1 P r k r2 k2 (.int (nI 1)) (.int b) z7 hw hp h6
    exact ⟨ν, R361_31 (c := 1) hX hi (d355b2 hw he h1) (d313 hw h3) h4 (by omega) (fun y => by omega) kk⟩
theorem T361_32 (hw : pm_W P r k r2 k2) (hp : pm_prs r r2 k k2) (hR : pm_RR r k I) (he : e < 100000) (hX : X.2 < 2147483648) (hi : i + 6 < X.2) (n0 : pm_NX X d i e) (n1 : pm_NX X d i (e + 1)) : ∃ ν, pm_Fx X (d + 60) 361 2038 [.retAddr 0, .ref 0, .ref 127, .ref 157, .int (nI i), z5, z6, z7] [] (I, J, P, pm_T0, e) (.inl (some (.int 1))) ν := by
  rcases K32 (J := J) (x := X.1 (i + 1)) (y := X.1 (i + 2)) hR with ⟨v, I1, J1, h1, _, h2⟩ | ⟨t, c, I1, J1, htc, h1, _, h2⟩
  · obtain ⟨b, I2, h3, h4, h5, h6⟩ := h2 (pm_wl J1 157 0 v.toInt64)
    subst h5
    obtain ⟨ν, kk⟩ := n0 I2 (pm_wl J1 157 0 v.toInt64) P r k r2 k2 (.int (nI 0)) (.int v) z7 hw hp h6
    exact ⟨ν, R361_32 (c := 0) hX hi (d356a hw he h1) (d314 hw h3) h4 (by omega) (fun _ => wl_s) kk⟩
  · obtain ⟨b, I2, h3, h4, h6⟩ := h2 J1
    obtain ⟨ν, kk⟩ := n1 I2 J1 P r k r2 k2 (.int (nI c)) (.int b) z7 hw hp h6
    rcases htc with ⟨rfl, rfl⟩ | ⟨rfl, rfl⟩
    · exact ⟨ν, R361_32 (c := 1) hX hi (d356b1 hw he h1) (d314 hw h3) h4 (by omega) (fun y => by omega) kk⟩
    · exact ⟨ν, R361_32 (c := 2) hX hi (d356b2 hw he h1) (d314 hw h3) h4 (by omega) (fun y => by omega) kk⟩
theorem T361_33 (hw : pm_W P r k r2 k2) (hp : pm_prs r r2 k k2) (hR : pm_RR r k I) (he : e < 100000) (hX : X.2 < 2147483648) (hi : i + 6 < X.2) (n0 : pm_NX X d i e) (n1 : pm_NX X d i (e + 1)) : ∃ ν, pm_Fx X (d + 60) 361 2106 [.retAddr 0, .ref 0, .ref 127, .ref 157, .int (nI i), z5, z6, z7] [] (I, J, P, pm_T0, e) (.inl (some (.int 1))) ν := by
  rcases KK_n1 (fun t9 => K33g (t9 := t9) (J := J) (x := X.1 (i + 1)) (y := X.1 (i + 2)) (z := X.1 (i + 3)) (u := X.1 (i + 4)) hR) with ⟨v, I1, J1, h1, _, h2⟩ | ⟨I1, J1, h1, _, h2⟩
  · obtain ⟨b, I2, h3, h4, h5, h6⟩ := h2 (pm_wl J1 157 0 v.toInt64)
    subst h5
    obtain ⟨ν, kk⟩ := n0 I2 (pm_wl J1 157 0 v.toInt64) P r k r2 k2 (.int (nI 0)) (.int v) z7 hw hp h6
    exact ⟨ν, R361_33 (c := 0) hX hi (d357a hw he h1) (d315 hw h3) h4 (by omega) (fun _ => wl_s) kk⟩
  · obtain ⟨b, I2, h3, h4, h6⟩ := h2 J1
    obtain ⟨ν, kk⟩ := n1 I2 J1 P r k r2 k2 (.int (nI 1)) (.int b) z7 hw hp h6
    exact ⟨ν, R361_33 (c := 1) hX hi (d357b2 hw he h1) (d315 hw h3) h4 (by omega) (fun y => by omega) kk⟩
theorem T361_34 (hw : pm_W P r k r2 k2) (hp : pm_prs r r2 k k2) (hR : pm_RR r k I) (he : e < 100000) (hX : X.2 < 2147483648) (hi : i + 6 < X.2) (n0 : pm_NX X d i e) (n1 : pm_NX X d i (e + 1)) : ∃ ν, pm_Fx X (d + 60) 361 2198 [.retAddr 0, .ref 0, .ref 127, .ref 157, .int (nI i), z5, z6, z7] [] (I, J, P, pm_T0, e) (.inl (some (.int 1))) ν := by
  rcases KK_n1 (fun t9 => K34g (t9 := t9) (J := J) (x := X.1 (i + 1)) (y := X.1 (i + 2)) (z := X.1 (i + 3)) hR) with ⟨v, I1, J1, h1, _, h2⟩ | ⟨I1, J1, h1, _, h2⟩
  · obtain ⟨b, I2, h3, h4, h5, h6⟩ := h2 (pm_wl J1 157 0 v.toInt64)
    subst h5
    obtain ⟨ν, kk⟩ := n0 I2 (pm_wl J1 157 0 v.toInt64) P r k r2 k2 (.int (nI 0)) (.int v) z7 hw hp h6
    exact ⟨ν, R361_34 (c := 0) hX hi (d358a hw he h1) (d318 hw h3) h4 (by omega) (fun _ => wl_s) kk⟩
  · obtain ⟨b, I2, h3, h4, h6⟩ := h2 J1
    obtain ⟨ν, kk⟩ := n1 I2 J1 P r k r2 k2 (.int (nI 1)) (.int b) z7 hw hp h6
    exact ⟨ν, R361_34 (c := 1) hX hi (d358b2 hw he h1) (d318 hw h3) h4 (by omega) (fun y => by omega) kk⟩
theorem T361_35 (hw : pm_W P r k r2 k2) (hp : pm_prs r r2 k k2) (hR : pm_RR r k I) (he : e < 100000) (hX : X.2 < 2147483648) (hi : i + 6 < X.2) (n0 : pm_NX X d i e) (n1 : pm_NX X d i (e + 1)) : ∃ ν, pm_Fx X (d + 60) 361 2278 [.retAddr 0, .ref 0, .ref 127, .ref 157, .int (nI i), z5, z6, z7] [] (I, J, P, pm_T0, e) (.inl (some (.int 1))) ν := by
  rcases KK_n1 (fun t9 => K35g (t9 := t9) (J := J) (s := X.1 (i + 1)) (x2 := X.1 (i + 2)) (x3 := X.1 (i + 3)) (x4 := X.1 (i + 4)) (x5 := X.1 (i + 5)) hR) with ⟨v, I1, J1, h1, _, h2⟩ | ⟨I1, J1, h1, _, h2⟩
  · obtain ⟨b, I2, h3, h4, h5, h6⟩ := h2 (pm_wl J1 157 0 v.toInt64)
    subst h5
    obtain ⟨ν, kk⟩ := n0 I2 (pm_wl J1 157 0 v.toInt64) P r k r2 k2 (.int (nI 0)) (.int v) z7 hw hp h6
    exact ⟨ν, R361_35 (c := 0) hX hi (d359a hw he h1) (d319 hw h3) h4 (by omega) (fun _ => wl_s) kk⟩
  · obtain ⟨b, I2, h3, h4, h6⟩ := h2 J1
    obtain ⟨ν, kk⟩ := n1 I2 J1 P r k r2 k2 (.int (nI 1)) (.int b) z7 hw hp h6
    exact ⟨ν, R361_35 (c := 1) hX hi (d359b2 hw he h1) (d319 hw h3) h4 (by omega) (fun y => by omega) kk⟩
theorem T361_36 (hw : pm_W P r k r2 k2) (hp : pm_prs r r2 k k2) (hR : pm_RR r k I) (he : e < 100000) (hX : X.2 < 2147483648) (hi : i + 6 < X.2) (n0 : pm_NX X d i e) (n1 : pm_NX X d i (e + 1)) : ∃ ν, pm_Fx X (d + 60) 361 2382 [.retAddr 0, .ref 0, .ref 127, .ref 157, .int (nI i), z5, z6, z7] [] (I, J, P, pm_T0, e) (.inl (some (.int 1))) ν := by
  rcases KK_n1 (fun t9 => K36g (t9 := t9) (J := J) (s := X.1 (i + 1)) (x2 := X.1 (i + 2)) (x3 := X.1 (i + 3)) (x4 := X.1 (i + 4)) (x5 := X.1 (i + 5)) (x6 := X.1 (i + 6)) hR) with ⟨v, I1, J1, h1, _, h2⟩ | ⟨I1, J1, h1, _, h2⟩
  · obtain ⟨b, I2, h3, h4, h5, h6⟩ := h2 (pm_wl J1 157 0 v.toInt64)
    subst h5
    obtain ⟨ν, kk⟩ := n0 I2 (pm_wl J1 157 0 v.toInt64) P r k r2 k2 (.int (nI 0)) (.int v) z7 hw hp h6
    exact ⟨ν, R361_36 (c := 0) hX hi (d360a hw he h1) (d323 hw h3) h4 (by omega) (fun _ => wl_s) kk⟩
  · obtain ⟨b, I2, h3, h4, h6⟩ := h2 J1
    obtain ⟨ν, kk⟩ := n1 I2 J1 P r k r2 k2 (.int (nI 1)) (.int b) z7 hw hp h6
    exact ⟨ν, R361_36 (c := 1) hX hi (d360b2 hw he h1) (d323 hw h3) h4 (by omega) (fun y => by omega) kk⟩
theorem T361_37 (hw : pm_W P r k r2 k2) (hp : pm_prs r r2 k k2) (hR : pm_RR r k I) (he : e < 100000) (hX : X.2 < 2147483648) (hi : i + 6 < X.2) (n0 : pm_NX X d i e) (n1 : pm_NX X d i (e + 1)) : ∃ ν, pm_Fx X (d + 60) 361 2500 [.retAddr 0, .ref 0, .ref 127, .ref 157, .int (nI i), z5, z6, z7] [] (I, J, P, pm_T0, e) (.inl (some (.int 1))) ν := by
  obtain ⟨v, I1, J1, h1, _, h2⟩ := K37 (J := J)  hR
  obtain ⟨I2, h3, h4⟩ := h2 J1
  obtain ⟨ν, kk⟩ := n0 I2 J1 P r k r2 k2 z5 z6 z7 hw hp h4
  exact ⟨ν, R361_37 (I1 := I1) (I2 := I2) (J1 := J1) (v := v) hX hi (d168 (q := (v, I1, J1)) hw h1) (d324 (q := (v, I2, J1)) hw h3) kk⟩
theorem T361_38 (hw : pm_W P r k r2 k2) (hp : pm_prs r r2 k k2) (hR : pm_RR r k I) (he : e < 100000) (hX : X.2 < 2147483648) (hi : i + 6 < X.2) (n0 : pm_NX X d i e) (n1 : pm_NX X d i (e + 1)) : ∃ ν, pm_Fx X (d + 60) 361 2513 [.retAddr 0, .ref 0, .ref 127, .ref 157, .int (nI i), z5, z6, z7] [] (I, J, P, pm_T0, e) (.inl (some (.int 1))) ν := by
  obtain ⟨v, I1, J1, h1, _, h2⟩ := K38 (J := J)  hR
  obtain ⟨I2, h3, h4⟩ := h2 J1
  obtain ⟨ν, kk⟩ := n0 I2 J1 P r k r2 k2 z5 z6 z7 hw hp h4
  exact ⟨ν, R361_38 (I1 := I1) (I2 := I2) (J1 := J1) (v := v) hX hi (d169 (q := (v, I1, J1)) hw h1) (d327 (q := (v, I2, J1)) hw h3) kk⟩
theorem T361_39 (hw : pm_W P r k r2 k2) (hp : pm_prs r r2 k k2) (hR : pm_RR r k I) (he : e < 100000) (hX : X.2 < 2147483648) (hi : i + 6 < X.2) (n0 : pm_NX X d i e) (n1 : pm_NX X d i (e + 1)) : ∃ ν, pm_Fx X (d + 60) 361 2526 [.retAddr 0, .ref 0, .ref 127, .ref 157, .int (nI i), z5, z6, z7] [] (I, J, P, pm_T0, e) (.inl (some (.int 1))) ν := by
  obtain ⟨v, I1, J1, h1, _, h2⟩ := K39 (J := J) (x := X.1 (i + 1)) hR
  obtain ⟨I2, h3, h4⟩ := h2 J1
  obtain ⟨ν, kk⟩ := n0 I2 J1 P r k r2 k2 z5 z6 z7 hw hp h4
  injection h1 with h1
  injection h1 with e1 h1
  injection h1 with e2 e3
  subst e2 e3
  exact ⟨ν, R361_39 hX hi (d170 hw e1) (d328 hw h3) kk⟩
theorem T361_40 (hw : pm_W P r k r2 k2) (hp : pm_prs r r2 k k2) (hR : pm_RR r k I) (he : e < 100000) (hX : X.2 < 2147483648) (hi : i + 6 < X.2) (n0 : pm_NX X d i e) (n1 : pm_NX X d i (e + 1)) : ∃ ν, pm_Fx X (d + 60) 361 2551 [.retAddr 0, .ref 0, .ref 127, .ref 157, .int (nI i), z5, z6, z7] [] (I, J, P, pm_T0, e) (.inl (some (.int 1))) ν := by
  obtain ⟨v, I1, J1, h1, _, h2⟩ := K40 (J := J) (x := X.1 (i + 1)) hR
  obtain ⟨I2, h3, h4⟩ := h2 J1
  obtain ⟨ν, kk⟩ := n0 I2 J1 P r k r2 k2 z5 z6 z7 hw hp h4
  injection h1 with h1
  injection h1 with e1 h1
  injection h1 with e2 e3
  subst e2 e3
  exact ⟨ν, R361_40 hX hi (d171 hw e1) (d329 hw h3) kk⟩
end Ld
