def pm_nP (q : (Nat × Nat) × (Nat × Nat) × ((Nat × Nat) × (Nat × Nat) × (Nat × Nat))) : Bool := match vwCl[q.2.1.1]? with
  | some (C, _, N) => decide (N = q.2.1.2) && pm_wd q.2.2.1 (.classLink (pm_cl q.1.1) q.1.2 C) && pm_wd q.2.2.2.1 (.instantiable C N) && pm_wd q.2.2.2.2 (.initialized C)
  | none => false
theorem pm_nPs_0 : pm_clf_0.all pm_nP = true := by decide +kernel
theorem pm_nPs : pm_clf.all pm_nP = true := by
  unfold pm_clf
  exact pm_nPs_0

def pm_cP (q : (Nat × Nat) × Value × (Nat × Nat)) : Bool := match q.2.1 with
  | .int x => pm_wd q.2.2 (.constant (pm_cl q.1.1) q.1.2 x)
  | .long x => pm_wd q.2.2 (.constantLong (pm_cl q.1.1) q.1.2 x)
  | .retAddr x => decide (2 ≤ x ∧ x % 2 = 0 ∧ x < 2 + 2 * pm_tx.length)
  | _ => false
theorem pm_cPs_0 : pm_ctf_0.all pm_cP = true := by decide +kernel
theorem pm_cPs_1 : pm_ctf_1.all pm_cP = true := by decide +kernel
theorem pm_cPs_2 : pm_ctf_2.all pm_cP = true := by decide +kernel
theorem pm_cPs : pm_ctf.all pm_cP = true := by
  unfold pm_ctf
  simp only [List.all_append, Bool.and_eq_true]
  exact ⟨pm_cPs_0, pm_cPs_1, pm_cPs_2⟩

theorem pm_oPs : pm_oil.all (fun q => decide (Cond.methodLink (pm_cl q.1) q.2 Lib.objectInit ∈ lw_tbl) && goodWord (Cond.methodLink (pm_cl q.1) q.2 Lib.objectInit)) = true := by decide +kernel
theorem pm_oI : Cond.instanceMethod Lib.objectInit ∈ lw_tbl ∧ goodWord (Cond.instanceMethod Lib.objectInit) = true := by decide +kernel
theorem pm_oC : Cond.code Lib.objectInit ⟨#[0xb1]⟩ 1 none ∈ lw_tbl ∧ goodWord (Cond.code Lib.objectInit ⟨#[0xb1]⟩ 1 none) = true := by decide +kernel
theorem pm_uP : ∀ q ∈ vwCl, ∀ w ∈ u_ws q.1 q.2.1 q.2.2, w ∈ lw_tbl ∧ goodWord w = true := by decide +kernel
theorem pm_aI : Cond.arrayClass .int ∈ lw_tbl := by decide +kernel
theorem pm_aJ : Cond.arrayClass .long ∈ lw_tbl := by decide +kernel
theorem pm_aZ : Cond.arrayClass .boolean ∈ lw_tbl := by decide +kernel
theorem pm_aAl : Cond.classLink "PassagePapers$Archive" 11 "[[I" ∈ lw_tbl ∧ goodWord (Cond.classLink "PassagePapers$Archive" 11 "[[I") = true := by decide +kernel
theorem pm_acl1 : Cond.methodLink "PassagePapers" 390 arraycopyName ∈ lw_tbl ∧ goodWord (Cond.methodLink "PassagePapers" 390 arraycopyName) = true := by decide +kernel
theorem pm_acl2 : Cond.native arraycopyName ∈ lw_tbl ∧ goodWord (Cond.native arraycopyName) = true := by decide +kernel
theorem pm_acl3 : Cond.static arraycopyName ∈ lw_tbl ∧ goodWord (Cond.static arraycopyName) = true := by decide +kernel
theorem pm_acl4 : Cond.initialized "java/lang/System" ∈ lw_tbl ∧ goodWord (Cond.initialized "java/lang/System") = true := by decide +kernel
