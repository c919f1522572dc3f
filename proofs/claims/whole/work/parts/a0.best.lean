/-! BEST: the number of a way, read -/
theorem bt_w {T C : Nat} (hC : C < 16777216) : ((-(pm_sL ((T : Int) * 16777216 - (C : Int)))) &&& 16777215).toInt32 = nI C := by
  unfold pm_sL
  rw [← Int64.ofInt_neg]
  apply Int32.toBitVec_inj.mp
  apply BitVec.eq_of_toNat_eq
  rw [Int64.toBitVec_toInt32, BitVec.signExtend_eq_setWidth_of_le _ (by decide), BitVec.toNat_setWidth, Int64.toBitVec_and, BitVec.toNat_and]
  have e : (BitVec.ofInt 64 (-((T : Int) * 16777216 - (C : Int)))).toNat &&& (2 ^ 24 - 1) = C := by
    rw [Nat.and_two_pow_sub_one_eq_mod, BitVec.toNat_ofInt]
    omega
  have e2 : (nI C).toBitVec.toNat = C % 2 ^ 32 := BitVec.toNat_ofNat ..
  rw [e2]
  have e3 : (Int64.ofInt (-((T : Int) * 16777216 - (C : Int)))).toBitVec.toNat &&& (16777215 : Int64).toBitVec.toNat = C := e
  rw [e3]
theorem bt_l {C : Nat} (hC : C < 2147483648) : (nI C).toInt64 = pm_sL (C : Int) := by
  apply Int64.toInt_inj.mp
  rw [Int32.toInt_toInt64, nI_toInt (by omega), sL_i (by omega) (by omega)]
theorem bt_t {T C : Nat} (hC : C < 16777216) (hT : T < 100000) : ((pm_sL ((T : Int) * 16777216 - (C : Int)) + (nI C).toInt64) >>> ((24 : Int32).toInt64 &&& 63)).toInt32 = nI T := by
  rw [bt_l (by omega), sL_add, Int.sub_add_cancel]
  apply Int32.toInt_inj.mp
  rw [Int64.toInt_toInt32, nI_toInt (by omega)]
  have e : (pm_sL ((T : Int) * 16777216) >>> ((24 : Int32).toInt64 &&& 63)).toInt = (T : Int) := by
    have e1 : (pm_sL ((T : Int) * 16777216) >>> ((24 : Int32).toInt64 &&& 63)).toInt = ((pm_sL ((T : Int) * 16777216)).toBitVec.sshiftRight 24).toInt := rfl
    have e2 : (pm_sL ((T : Int) * 16777216)).toBitVec.toInt = (T : Int) * 16777216 := sL_i (by omega) (by omega)
    rw [e1, BitVec.toInt_sshiftRight, e2, Int.shiftRight_eq_div_pow]
    omega
  rw [e, Int.bmod_eq_of_le (by omega) (by omega)]
theorem b7_bv (x : BitVec 32) (s : Nat) (hs : s ≤ 24) : x.sshiftRight s &&& 7#32 = (x >>> s) &&& 7#32 := by
  have z : ∀ i, i < 32 → 3 ≤ i → (7#32).getLsbD i = false := by decide
  apply BitVec.eq_of_getLsbD_eq
  intro i hi
  rw [BitVec.getLsbD_and, BitVec.getLsbD_and, BitVec.getLsbD_sshiftRight, BitVec.getLsbD_ushiftRight]
  by_cases c : 3 ≤ i
  · rw [z i hi c, Bool.and_false, Bool.and_false]
  · rw [if_pos (by omega), decide_eq_false (show ¬ 32 ≤ i by omega)]
    rfl
theorem b7_t (x : BitVec 32) (s : Nat) : ((x >>> s) &&& 7#32).toNat = (BitVec.ofNat 32 (x.toNat / 2 ^ s % 8)).toNat := by
  rw [BitVec.toNat_and, BitVec.toNat_ushiftRight, BitVec.toNat_ofNat, Nat.shiftRight_eq_div_pow]
  show x.toNat / 2 ^ s &&& (2 ^ 3 - 1) = _
  rw [Nat.and_two_pow_sub_one_eq_mod, BitVec.toNat_ofNat]
  omega
theorem bt_d {u C : Nat} (hu : u < 8) (hC : C < 16777216) : (nI C >>> ((3 * (7 - nI u)) &&& 31)) &&& 7 = nI (C / 8 ^ (7 - u) % 8) := by
  have hn : (nI C).toBitVec.toNat = C := by
    have e2 : (nI C).toBitVec.toNat = C % 2 ^ 32 := BitVec.toNat_ofNat ..
    rw [e2]
    omega
  have go : ∀ s k, s ≤ 24 → 2 ^ s = 8 ^ k → ((nI C).toBitVec.sshiftRight s &&& 7#32).toNat = (BitVec.ofNat 32 (C / 8 ^ k % 8)).toNat := fun s k hs e => by
    rw [b7_bv _ _ hs, b7_t, hn, e]
  apply Int32.toBitVec_inj.mp
  apply BitVec.eq_of_toNat_eq
  have c : u = 0 ∨ u = 1 ∨ u = 2 ∨ u = 3 ∨ u = 4 ∨ u = 5 ∨ u = 6 ∨ u = 7 := by omega
  rcases c with rfl | rfl | rfl | rfl | rfl | rfl | rfl | rfl
  · exact go 21 7 (by omega) (by decide)
  · exact go 18 6 (by omega) (by decide)
  · exact go 15 5 (by omega) (by decide)
  · exact go 12 4 (by omega) (by decide)
  · exact go 9 3 (by omega) (by decide)
  · exact go 6 2 (by omega) (by decide)
  · exact go 3 1 (by omega) (by decide)
  · exact go 0 0 (by omega) (by decide)
section Bd3
variable {I : Nat → Nat → Int32} {J : Nat → Nat → Int64} {r : Nat}
theorem e74 {u U : Nat} {y : Nat → Nat} (hU : U ≤ 8) (hu : u < U) (h5 : ∀ v, y v ≤ 5) (hC : I 104 12 = nI (pm_cdn y U 0)) : v74 (nI u) I = nI (y u) - 1 := by
  have lt := cdn_lt h5 U 0 (by omega)
  unfold v74 v71
  rw [if_neg (by rw [nI_toInt (by omega)]; omega), hC, bt_d (by omega) lt, cdn_d h5 U 0 u (by omega) (by omega) (by omega)]
theorem e74' {u U : Nat} {y : Nat → Nat} (hU : U ≤ 8) (hu : u < U) (h5 : ∀ v, y v ≤ 5) (hC : I 104 12 = nI (pm_cdn y U 0)) : v74 (nI u) I = -1 ↔ y u = 0 := by
  rw [e74 hU hu h5 hC]
  have := h5 u
  have s : ∀ m : Nat, m < 6 → (nI m - 1 = -1 ↔ m = 0) := by decide
  exact s (y u) (by omega)
theorem l73 {U : Nat} {y sz : Nat → Nat} (hU : U ≤ 8) (h5 : ∀ v, y v ≤ 5) : ∀ d u fu (I : Nat → Nat → Int32), u + d = U → d < fu → I 104 7 = nI U → (∀ v, v < U → I 107 v = nI (sz v)) → I 104 12 = nI (pm_cdn y U 0) → I 104 11 = nI (pm_su (fun v => if y v = 0 then 0 else sz v) u) → ∃ I', f73_33 fu (nI u) I J = some ((), I', J) ∧ I' 104 11 = nI (pm_su (fun v => if y v = 0 then 0 else sz v) U) ∧ ∀ a f, ¬ (a = 104 ∧ f = 11) → I' a f = I a f := by
  intro d
  induction d with
  | zero =>
    intro u fu I hu hf h7 hs hC h11
    obtain ⟨fu, rfl⟩ : ∃ k, fu = k + 1 := ⟨fu - 1, by omega⟩
    have e : u = U := by omega
    subst e
    refine ⟨I, ?_, h11, fun _ _ _ => rfl⟩
    rw [f73_33, h7, if_neg (by omega)]
  | succ d ih =>
    intro u fu I hu hf h7 hs hC h11
    obtain ⟨fu, rfl⟩ : ∃ k, fu = k + 1 := ⟨fu - 1, by omega⟩
    rw [f73_33, h7, if_pos (by rw [nI_toInt (by omega), nI_toInt (by omega)]; omega)]
    have iff := e74' hU (show u < U by omega) h5 hC
    by_cases c : y u = 0
    · rw [if_pos (iff.mpr c), nI_1]
      exact ih (u + 1) fu I (by omega) (by omega) h7 hs hC (by rw [h11, pm_su, if_pos c, Nat.add_zero])
    · rw [if_neg (fun z => c (iff.mp z)), pm_lt_eq, nI_1, h11, zt_at (by omega) (by omega), hs u (by omega), nI_add]
      obtain ⟨I', e1, e2, e3⟩ := ih (u + 1) fu (pm_w I 104 11 (nI (pm_su (fun v => if y v = 0 then 0 else sz v) u + sz u))) (by omega) (by omega) (by rw [zt_w2 (by omega)]; exact h7) (fun v hv => by rw [zt_wc (by decide)]; exact hs v hv) (by rw [zt_w2 (by omega)]; exact hC) (by rw [zt_ws, pm_su, if_neg c])
      exact ⟨I', e1, e2, fun a f h => by rw [e3 a f h, zt_w2 h]⟩
theorem e73 {T U : Nat} {y sz : Nat → Nat} (hU : U ≤ 8) (h5 : ∀ v, y v ≤ 5) (hT : T < 100000) (h7 : I 104 7 = nI U) (hs : ∀ v, v < U → I 107 v = nI (sz v)) : ∃ I', f73 (pm_sL ((T : Int) * 16777216 - (pm_cdn y U 0 : Int))) I J = some ((), I', J) ∧ I' 104 10 = nI T ∧ I' 104 11 = nI (pm_su (fun v => if y v = 0 then 0 else sz v) U) ∧ I' 104 12 = nI (pm_cdn y U 0) ∧ I' 104 7 = nI U ∧ ∀ a, a ≠ 104 → I' a = I a := by
  have lt := cdn_lt h5 U 0 (by omega)
  obtain ⟨I3, hI3⟩ : ∃ I3, I3 = pm_w (pm_w (pm_w I 104 12 (nI (pm_cdn y U 0))) 104 10 (nI T)) 104 11 0 := ⟨_, rfl⟩
  have q12 : I3 104 12 = nI (pm_cdn y U 0) := by rw [hI3, zt_w2 (by omega), zt_w2 (by omega), zt_ws]
  have q10 : I3 104 10 = nI T := by rw [hI3, zt_w2 (by omega), zt_ws]
  have q11 : I3 104 11 = nI 0 := by rw [hI3, zt_ws]; rfl
  have q7 : I3 104 7 = nI U := by rw [hI3, zt_w2 (by omega), zt_w2 (by omega), zt_w2 (by omega)]; exact h7
  have qo : ∀ a, a ≠ 104 → I3 a = I a := fun a ha => by rw [hI3, zt_wc ha, zt_wc ha, zt_wc ha]
  obtain ⟨I', e1, e2, e3⟩ := l73 (J := J) (sz := sz) hU h5 U 0 pm_FU I3 (by omega) (by unfold pm_FU; omega) q7 (fun v hv => by rw [qo 107 (by decide)]; exact hs v hv) q12 q11
  rw [nI_0] at e1
  refine ⟨I', ?_, by rw [e3 104 10 (by omega)]; exact q10, e2, by rw [e3 104 12 (by omega)]; exact q12, by rw [e3 104 7 (by omega)]; exact q7, fun a ha => by funext f; rw [e3 a f (by omega), qo a ha]⟩
  unfold f73
  rw [pm_lt_eq, pm_lt_eq, pm_lt_eq, bt_w lt, zt_ws, bt_t lt hT, ← hI3]
  exact e1
end Bd3
