/-! VOYAGES BY SEEDS -/
def pm_dr (x : Int32) : Nat := x.toBitVec.toNat / 65536 % 16
theorem dr_bv (x : BitVec 32) : x.sshiftRight 16 &&& 32767#32 = (x >>> 16) &&& 32767#32 := by
  have z : ∀ i, i < 32 → 16 ≤ i → (32767#32).getLsbD i = false := by decide
  apply BitVec.eq_of_getLsbD_eq
  intro i hi
  rw [BitVec.getLsbD_and, BitVec.getLsbD_and, BitVec.getLsbD_sshiftRight, BitVec.getLsbD_ushiftRight]
  by_cases c : 16 ≤ i
  · rw [z i hi c, Bool.and_false, Bool.and_false]
  · rw [if_pos (by omega), decide_eq_false (show ¬ 32 ≤ i by omega)]
    rfl
theorem dr_c (x : Int32) : ((x.toUInt32 >>> ((16 : Int32).toUInt32 &&& Int32.toUInt32 31)).toInt32) &&& 15 = nI (pm_dr x) := by
  apply Int32.toBitVec_inj.mp
  apply BitVec.eq_of_toNat_eq
  show ((x.toBitVec >>> 16) &&& 15#32).toNat = (BitVec.ofNat 32 (pm_dr x)).toNat
  rw [BitVec.toNat_and, BitVec.toNat_ushiftRight, BitVec.toNat_ofNat, Nat.shiftRight_eq_div_pow]
  show x.toBitVec.toNat / 2 ^ 16 &&& (2 ^ 4 - 1) = _
  rw [Nat.and_two_pow_sub_one_eq_mod, BitVec.toNat_ofNat]
  unfold pm_dr
  omega
theorem dr_m (x : Int32) : (((x >>> ((16 : Int32) &&& 31)) &&& 32767) - ((x >>> ((16 : Int32) &&& 31)) &&& 32767) / 16 * 16) = nI (pm_dr x) := by
  have e : (x >>> ((16 : Int32) &&& 31)) &&& 32767 = nI (x.toBitVec.toNat / 65536 % 32768) := by
    apply Int32.toBitVec_inj.mp
    apply BitVec.eq_of_toNat_eq
    show ((x.toBitVec.sshiftRight 16) &&& 32767#32).toNat = (BitVec.ofNat 32 (x.toBitVec.toNat / 65536 % 32768)).toNat
    rw [dr_bv, BitVec.toNat_and, BitVec.toNat_ushiftRight, BitVec.toNat_ofNat, Nat.shiftRight_eq_div_pow]
    show x.toBitVec.toNat / 2 ^ 16 &&& (2 ^ 15 - 1) = _
    rw [Nat.and_two_pow_sub_one_eq_mod, BitVec.toNat_ofNat]
    omega
  rw [e, zt_lit 16, pk_rem (by omega) (by omega) (by omega)]
  unfold pm_dr
  congr 1
  omega
/-- seed, stores, hunger, how often spoiled -/
def pm_sl (a q k : Nat) (s : Int32) (st : Nat) : Nat → Int32 × Nat × Nat × Nat
  | 0 => (s, st, 0, 0)
  | i + 1 =>
    let u := pm_sl a q k s st i
    let s' := u.1 * 1103515245 + 12345
    let t1 := if pm_dr s' < q then u.2.1 - k else u.2.1
    (s', t1 - a, u.2.2.1 + (a - t1), u.2.2.2 + (if pm_dr s' < q then 1 else 0))
theorem sl_le (a q k : Nat) (s : Int32) (st : Nat) : ∀ i, (pm_sl a q k s st i).2.1 ≤ st ∧ (pm_sl a q k s st i).2.2.1 ≤ i * a ∧ (pm_sl a q k s st i).2.2.2 ≤ i
  | 0 => ⟨Nat.le_refl _, by show 0 ≤ _; omega, Nat.le_refl _⟩
  | i + 1 => by
    obtain ⟨h1, h2, h3⟩ := sl_le a q k s st i
    unfold pm_sl
    simp only
    rw [Nat.succ_mul]
    split <;> exact ⟨by omega, by omega, by omega⟩
section Sa
variable {J : Nat → Nat → Int64} {r k : Nat}
theorem l154 {a q kk W st : Nat} {s : Int32} (ha : a ≤ 8) (hq : q ≤ 16) (hk : kk ≤ 40) (hW : W ≤ 99) (hst : st ≤ 400) : ∀ (d i fu : Nat) (I : Nat → Nat → Int32), i + d = W → d < fu → I 112 0 = nI (pm_sl a q kk s st i).2.2.1 → I 112 1 = nI (pm_sl a q kk s st i).2.1 → I 112 2 = nI (pm_sl a q kk s st i).2.2.2 → ∃ I', f154_34 r fu (nI q) (nI kk) (nI W) (nI a) (pm_sl a q kk s st i).1 (nI i) I J = some ((), I', J) ∧ I' 112 0 = nI (pm_sl a q kk s st W).2.2.1 ∧ I' 112 1 = nI (pm_sl a q kk s st W).2.1 ∧ I' 112 2 = nI (pm_sl a q kk s st W).2.2.2 := by
  intro d
  induction d with
  | zero =>
    intro i fu I hi hf h0 h1 h2
    obtain ⟨fu, rfl⟩ : ∃ k, fu = k + 1 := ⟨fu - 1, by omega⟩
    have e : i = W := by omega
    subst e
    exact ⟨I, by rw [f154_34, if_neg (by omega)], h0, h1, h2⟩
  | succ d ih =>
    intro i fu I hi hf h0 h1 h2
    obtain ⟨fu, rfl⟩ : ∃ k, fu = k + 1 := ⟨fu - 1, by omega⟩
    obtain ⟨b1, b2, b3⟩ := sl_le a q kk s st i
    have b4 : i * a ≤ 99 * 8 := Nat.mul_le_mul (by omega) ha
    have dl : pm_dr ((pm_sl a q kk s st i).1 * 1103515245 + 12345) < 16 := Nat.mod_lt _ (by omega)
    have key := fun I1 => ih (i + 1) fu I1 (by omega) (by omega)
    rw [pm_sl] at key
    simp only at key
    rw [f154_34, if_pos (by rw [nI_toInt (by omega), nI_toInt (by omega)]; omega), dr_c, nI_toInt (by omega), nI_toInt (by omega)]
    by_cases c : pm_dr ((pm_sl a q kk s st i).1 * 1103515245 + 12345) < q
    · simp only [c, if_true] at key
      rw [if_pos (by omega)]
      simp (disch := omega) only [pm_lt, zt_lit, zt_ws, zt_w2, h0, h1, h2, nI_add, maxs]
      refine key _ ?_ ?_ ?_
      · simp (disch := omega) only [zt_ws, zt_w2]
      · simp (disch := omega) only [zt_ws]
      · simp (disch := omega) only [zt_ws, zt_w2]
    · simp only [c, if_false, Nat.add_zero] at key
      rw [if_neg (by omega)]
      simp (disch := omega) only [pm_lt, zt_lit, zt_ws, zt_w2, h0, h1, h2, nI_add, maxs]
      refine key _ ?_ ?_ ?_
      · simp (disch := omega) only [zt_ws, zt_w2]
      · simp (disch := omega) only [zt_ws]
      · simp (disch := omega) only [zt_w2, h2]
theorem e154 {n t W q kk st l0 l1 : Nat} {k0 k1 : Nat → Nat} {D : Nat → Nat → Nat} {s : Int32} {I : Nat → Nat → Int32} (hq : q ≤ 16) (hk : kk ≤ 40) (hW : W ≤ 99) (hst : st ≤ 400) (h65 : I 5 65 = nI st) (hQ : pm_CQ r n t D l0 k0 l1 k1 I) : ∃ I', f154 r s (nI q) (nI kk) (nI W) I J = some ((), I', J) ∧ I' 112 0 = nI (pm_sl (pm_cnt (fun p => decide (I 5 p = nI 0)) n) q kk s st W).2.2.1 ∧ I' 112 1 = nI (pm_sl (pm_cnt (fun p => decide (I 5 p = nI 0)) n) q kk s st W).2.1 ∧ I' 112 2 = nI (pm_sl (pm_cnt (fun p => decide (I 5 p = nI 0)) n) q kk s st W).2.2.2 := by
  have h8 := hQ.1.2.2.2.2.1
  have hc := cn_le (fun p => decide (I 5 p = nI 0)) n
  unfold f154
  rw [zt_lit 0, e36 hQ.1.2.1 h8, zt_bind]
  have v8 : v108 (pm_w (pm_w I 112 0 (nI 0)) 112 2 (nI 0)) = nI st := by unfold v108; rw [zt_wc (by omega), zt_wc (by omega), zt_lit 65, zt_at (by omega) (by omega)]; exact h65
  show ∃ I', pm_lt (pm_w I 112 0 (nI 0)) (fun I5 => pm_lt (pm_w I5 112 2 (nI 0)) (fun I6 => pm_lt (pm_w I6 112 1 (v108 I6)) (fun I7 => f154_34 r pm_FU (nI q) (nI kk) (nI W) (nI (pm_cnt (fun p => decide (I 5 p = nI 0)) n)) s (nI 0) I7 J))) = _ ∧ _
  rw [pm_lt_eq, pm_lt_eq, pm_lt_eq, v8]
  exact l154 (J := J) (r := r) (s := s) (st := st) (by omega) hq hk hW hst W 0 pm_FU _ (by omega) (by unfold pm_FU; omega) (by simp (disch := omega) only [zt_ws, zt_w2]; rfl) (by simp (disch := omega) only [zt_ws]; rfl) (by simp (disch := omega) only [zt_ws, zt_w2]; rfl)
theorem e322 {I : Nat → Nat → Int32} {s : Int32} (h : I 127 55 = s) : f322 I J = some (nI (pm_dr (s * 1103515245 + 12345)), pm_w I 127 55 (s * 1103515245 + 12345), J) := by
  unfold f322
  rw [pm_lt_eq, h, zt_ws, dr_m]
theorem l321 {n t q kk W st l0 l1 : Nat} {k0 k1 : Nat → Nat} {D : Nat → Nat → Nat} {w : Nat → Int32} {s : Int32} (hi : pm_inv n w) (hq : q ≤ 16) (hk : kk ≤ 40) (hW : W ≤ 99) (hst : st ≤ 400) : ∀ (d i fu : Nat) (I : Nat → Nat → Int32) (v : Nat → Int32), i + d = W → d < fu → pm_MQ n t D l0 k0 l1 k1 I → I 127 40 = nI 0 → pm_ms n (I 144) v → pm_Bd l0 k0 D n w i v → v 65 = nI (pm_sl (pm_cnt (fun p => decide (w p = nI 0)) n) q kk s st i).2.1 → I 127 41 = nI (pm_sl (pm_cnt (fun p => decide (w p = nI 0)) n) q kk s st i).2.2.1 → I 127 55 = (pm_sl (pm_cnt (fun p => decide (w p = nI 0)) n) q kk s st i).1 → I 127 56 = nI (pm_sl (pm_cnt (fun p => decide (w p = nI 0)) n) q kk s st i).2.2.2 → ∃ (I' : Nat → Nat → Int32) (v' : Nat → Int32), f321_17 fu (nI q) (nI kk) (nI W) (nI i) I J = some ((), I', J) ∧ pm_ms n (I' 144) v' ∧ pm_Bd l0 k0 D n w W v' ∧ v' 65 = nI (pm_sl (pm_cnt (fun p => decide (w p = nI 0)) n) q kk s st W).2.1 ∧ I' 127 41 = nI (pm_sl (pm_cnt (fun p => decide (w p = nI 0)) n) q kk s st W).2.2.1 ∧ I' 127 56 = nI (pm_sl (pm_cnt (fun p => decide (w p = nI 0)) n) q kk s st W).2.2.2 := by
  intro d
  induction d with
  | zero =>
    intro i fu I v hj hf hQ hru hs hB h65 h41 h55 h56
    obtain ⟨fu, rfl⟩ : ∃ k, fu = k + 1 := ⟨fu - 1, by omega⟩
    have e : i = W := by omega
    subst e
    exact ⟨I, v, by rw [f321_17, if_neg (by omega)], hs, hB, h65, h41, h56⟩
  | succ d ih =>
    intro i fu I v hj hf hQ hru hs hB h65 h41 h55 h56
    obtain ⟨fu, rfl⟩ : ∃ k, fu = k + 1 := ⟨fu - 1, by omega⟩
    have h8 := hQ.1.2.2.2.1
    have hc := cn_le (fun p => decide (w p = nI 0)) n
    generalize ha : pm_cnt (fun p => decide (w p = nI 0)) n = a at *
    obtain ⟨b1, b2, b3⟩ := sl_le a q kk s st i
    have b4 : i * a ≤ 99 * 8 := Nat.mul_le_mul (by omega) (by omega)
    have dl : pm_dr ((pm_sl a q kk s st i).1 * 1103515245 + 12345) < 16 := Nat.mod_lt _ (by omega)
    have key : ∀ (I3 : Nat → Nat → Int32) (v3 : Nat → Int32) (t1 sp : Nat), pm_MQ n t D l0 k0 l1 k1 I3 → I3 127 40 = nI 0 → pm_ms n (I3 144) v3 → pm_Bd l0 k0 D n w i v3 → v3 65 = nI t1 → t1 ≤ 400 → I3 127 41 = nI (pm_sl a q kk s st i).2.2.1 → I3 127 55 = (pm_sl a q kk s st i).1 * 1103515245 + 12345 → I3 127 56 = nI sp → pm_sl a q kk s st (i + 1) = ((pm_sl a q kk s st i).1 * 1103515245 + 12345, t1 - a, (pm_sl a q kk s st i).2.2.1 + (a - t1), sp) → ∃ I' v', (f272 I3 J).bind (fun z : Unit × (Nat → Nat → Int32) × (Nat → Nat → Int64) => f321_17 fu (nI q) (nI kk) (nI W) (nI (i + 1)) z.2.1 z.2.2) = some ((), I', J) ∧ pm_ms n (I' 144) v' ∧ pm_Bd l0 k0 D n w W v' ∧ v' 65 = nI (pm_sl a q kk s st W).2.1 ∧ I' 127 41 = nI (pm_sl a q kk s st W).2.2.1 ∧ I' 127 56 = nI (pm_sl a q kk s st W).2.2.2 := by
      intro I3 v3 t1 sp z1 z2 z3 z4 z5 z5' z6 z7 z8 z9
      obtain ⟨I4, e1, s1, c1, c2, g1⟩ := e272 (J := J) (x := 0) (by omega) z1 z2 z3
      have B1 := Bd_s h8 (by omega) z1.2.2.2.2.1 hi z4
      obtain ⟨t1', t2'⟩ := St_s (l := l0) (k := k0) (D := D) h8 (by omega) z5
      rw [Bd_ab z4, ha] at t1' t2'
      rw [e1, zt_bind]
      show ∃ I' v', f321_17 fu (nI q) (nI kk) (nI W) (nI (i + 1)) I4 J = some ((), I', J) ∧ _
      refine ih (i + 1) fu I4 _ (by omega) (by omega) (MQ_ag z1 g1 (by decide)) (by rw [g1 127 40 (by decide) (by decide)]; exact z2) s1 B1 ?_ ?_ ?_ ?_
      · rw [z9]; exact t1'
      · rw [z9, c1, z6, t2', nI_add]
      · rw [z9, g1 127 55 (by decide) (by decide)]; exact z7
      · rw [z9, g1 127 56 (by decide) (by decide)]; exact z8
    rw [f321_17, if_pos (by rw [nI_toInt (by omega), nI_toInt (by omega)]; omega), e322 h55, zt_bind]
    simp only [nI_1]
    generalize hsd : (pm_sl a q kk s st i).1 * 1103515245 + 12345 = sd at *
    have gg : pm_ag [144] [(127, 55), (127, 56)] I (pm_w I 127 55 sd) := ag_w ag_refl (by simp)
    by_cases c : pm_dr sd < q
    · have sl : ∀ t1, t1 = (pm_sl a q kk s st i).2.1 - kk → pm_sl a q kk s st (i + 1) = (sd, t1 - a, (pm_sl a q kk s st i).2.2.1 + (a - t1), (pm_sl a q kk s st i).2.2.2 + 1) := by
        intro t1 ht
        rw [ht, pm_sl]
        simp only [hsd, c, if_true]
      have g2 : pm_ag [144] [(127, 55), (127, 56)] I (pm_w (pm_w I 127 55 sd) 127 56 (nI ((pm_sl a q kk s st i).2.2.2 + 1))) := ag_w gg (by simp)
      have a5 : I 144 65 = nI (pm_sl a q kk s st i).2.1 := by rw [hs.2.2.2]; exact h65
      simp (disch := omega) only [zt_lit, zt_lt, c, if_true, pm_lt, zt_w2, h56, nI_add, zt_in, zt_gd, nI_clamp, a5]
      by_cases c2 : kk < (pm_sl a q kk s st i).2.1
      · simp (disch := omega) only [c2, if_true, zt_mi]
        have g3 := ag_w (a := 144) (f := 65) (x := nI ((pm_sl a q kk s st i).2.1 - kk)) g2 (Or.inl (by simp))
        refine key _ (upd v 65 (nI ((pm_sl a q kk s st i).2.1 - kk))) ((pm_sl a q kk s st i).2.1 - kk) _ (MQ_ag hQ g3 (by decide)) ?_ ?_ (Bd_65 h8 hB) zt_us (by omega) ?_ ?_ ?_ (sl _ rfl)
        · simp (disch := omega) only [zt_w2]; exact hru
        · rw [zt_wr, zt_wc (by omega), zt_wc (by omega)]; exact ms_up hs (by omega)
        · simp (disch := omega) only [zt_w2]; exact h41
        · simp (disch := omega) only [zt_w2, zt_ws]
        · simp (disch := omega) only [zt_w2, zt_ws]
      · simp (disch := omega) only [c2, if_false]
        have g3 := ag_w (a := 144) (f := 65) (x := nI 0) g2 (Or.inl (by simp))
        refine key _ (upd v 65 (nI 0)) 0 _ (MQ_ag hQ g3 (by decide)) ?_ ?_ (Bd_65 h8 hB) zt_us (by omega) ?_ ?_ ?_ (sl _ (by omega))
        · simp (disch := omega) only [zt_w2]; exact hru
        · rw [zt_wr, zt_wc (by omega), zt_wc (by omega)]; exact ms_up hs (by omega)
        · simp (disch := omega) only [zt_w2]; exact h41
        · simp (disch := omega) only [zt_w2, zt_ws]
        · simp (disch := omega) only [zt_w2, zt_ws]
    · have sl : pm_sl a q kk s st (i + 1) = (sd, (pm_sl a q kk s st i).2.1 - a, (pm_sl a q kk s st i).2.2.1 + (a - (pm_sl a q kk s st i).2.1), (pm_sl a q kk s st i).2.2.2) := by
        rw [pm_sl]
        simp only [hsd, c, if_false, Nat.add_zero]
      simp (disch := omega) only [zt_lt, c, if_false]
      refine key _ v _ _ (MQ_ag hQ gg (by decide)) ?_ ?_ hB h65 (by omega) ?_ ?_ ?_ sl
      · simp (disch := omega) only [zt_w2]; exact hru
      · rw [zt_wc (by omega)]; exact hs
      · simp (disch := omega) only [zt_w2]; exact h41
      · exact zt_ws
      · simp (disch := omega) only [zt_w2]; exact h56
theorem e321 {n t q kk W st l0 l1 : Nat} {k0 k1 : Nat → Nat} {D : Nat → Nat → Nat} {w : Nat → Int32} {s : Int32} {I : Nat → Nat → Int32} (hi : pm_inv n w) (hq : q ≤ 16) (hk : kk ≤ 40) (hW : W ≤ 99) (hst : st ≤ 400) (hQ : pm_MQ n t D l0 k0 l1 k1 I) (hs : pm_ms n (I 143) w) (h65 : w 65 = nI st) : ∃ (I' : Nat → Nat → Int32) (v' : Nat → Int32), f321 s (nI q) (nI kk) (nI W) I J = some ((), I', J) ∧ pm_ms n (I' 144) v' ∧ pm_Bd l0 k0 D n w W v' ∧ v' 65 = nI (pm_sl (pm_cnt (fun p => decide (w p = nI 0)) n) q kk s st W).2.1 ∧ I' 127 41 = nI (pm_sl (pm_cnt (fun p => decide (w p = nI 0)) n) q kk s st W).2.2.1 ∧ I' 127 56 = nI (pm_sl (pm_cnt (fun p => decide (w p = nI 0)) n) q kk s st W).2.2.2 := by
  obtain ⟨I1, e1, s1, ru, u41, u42, g1⟩ := e253 (J := J) hs
  have g2 : pm_ag [144] [(127, 40), (127, 41), (127, 42), (127, 55), (127, 56)] I (pm_w (pm_w I1 127 55 s) 127 56 0) := ag_w (ag_w (ag_mono g1 (fun _ h => h) (zt_subF rfl)) (by simp)) (by simp)
  unfold f321
  rw [e1, zt_bind]
  show ∃ I' v', pm_lt (pm_w I1 127 55 s) (fun I5 => pm_lt (pm_w I5 127 56 0) (fun I6 => f321_17 pm_FU (nI q) (nI kk) (nI W) (nI 0) I6 J)) = _ ∧ _
  rw [pm_lt_eq, pm_lt_eq]
  exact l321 (J := J) (s := s) hi hq hk hW hst W 0 pm_FU _ w (by omega) (by unfold pm_FU; omega) (MQ_ag hQ g2 (by decide)) (by simp (disch := omega) only [zt_w2]; exact ru) (by rw [zt_wc (by omega), zt_wc (by omega)]; exact s1) (Bd_0 _ _ _ _ _) h65 (by simp (disch := omega) only [zt_w2]; exact u41) (by simp (disch := omega) only [zt_w2, zt_ws]; rfl) zt_ws
end Sa
