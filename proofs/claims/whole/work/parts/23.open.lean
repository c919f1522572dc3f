/-! LEDGER.OPEN -/
theorem w_pr {X : (Nat → Int32) × Nat} {d m pc n : Nat} {L S : List Value} {ν : pm_M} {rr : pm_R} {I : Nat → Nat → Int32} {J : Nat → Nat → Int64} {P : Nat → Nat → Value} {T : List (Nat × Nat)} {e ci f nf a b : Nat} (h : pm_pF m pc n ci f 2) (hT : T[a]? = some (ci, nf)) (hf : Nat.blt f nf = true) (k : pm_Fx X d m n L S (I, J, pm_wp P a f b, T, e) rr ν) : pm_Fx X d m pc L (.ref b :: .ref a :: S) (I, J, P, T, e) rr ν := r_pr h hT hf k
def f38 (a1 : Nat) (I : Nat → Nat → Int32) (J : Nat → Nat → Int64) : Option (Unit × (Nat → Nat → Int32) × (Nat → Nat → Int64)) := (f16 6 I J).bind (fun (_, I1, J1) => (f16 9 I1 J1).bind (fun (_, I2, J2) => (f101 a1 I2 J2).bind (fun (_, I3, J3) => some ((), I3, J3))))
theorem d38 {X : (Nat → Int32) × Nat} {d : Nat} {I : Nat → Nat → Int32} {J : Nat → Nat → Int64} {P : Nat → Nat → Value} {e r k r2 k2 a1 : Nat} {q : Unit × (Nat → Nat → Int32) × (Nat → Nat → Int64)} (hw : pm_W P r k r2 k2) (hy0 : pm_rgT P a1) (h : f38 a1 I J = some q) : pm_Fn X (d + 3) 38 1 [.ref 3, .ref a1] (I, J, P, pm_T0, e) (.inl none) (q.2.1, q.2.2, pm_wp P 3 6 a1, pm_T0, e) := by
  have hv := pm_W_r hw hy0
  obtain ⟨hp, hw1, hw2, hw3, hw4, hw5, hw6, hw7, hw8, hw9, hw10, hw11⟩ := id hv
  unfold f38 at h
  obtain ⟨⟨o1, I1, J1⟩, e1, h⟩ := pm_bd_sp h
  obtain ⟨⟨o2, I2, J2⟩, e2, h⟩ := pm_bd_sp h
  obtain ⟨⟨o3, I3, J3⟩, e3, h⟩ := pm_bd_sp h
  cases h
  refine fn_v (c := 3) (nf := 7) rc38 rfl ml38 rfl rfl rfl rfl ?_
  refine al0 c38_0 ?_
  refine al1 c38_1 ?_
  refine w_pr p38_2 rfl rfl ?_
  refine al0 c38_5 ?_
  refine r_gr g38_6 rfl rfl (hp _ _ _ rfl) ?_
  refine cz1 q38_9 (μ1 := (I1, J1, pm_wp P 3 6 a1, pm_T0, e)) (d16 hv hw9 e1) rfl ?_
  refine al0 c38_12 ?_
  refine r_gr g38_13 rfl rfl (hp _ _ _ rfl) ?_
  refine cz1 q38_16 (μ1 := (I2, J2, pm_wp P 3 6 a1, pm_T0, e)) (d16 hv hw10 e2) rfl ?_
  refine al0 c38_19 ?_
  refine r_gr g38_20 rfl rfl (hp _ _ _ rfl) ?_
  refine al1 c38_23 ?_
  refine cz2 q38_24 (μ1 := (I3, J3, pm_wp P 3 6 a1, pm_T0, e)) (d101 hv hw5 e3) rfl ?_
  exact r_rv c38_27 rt38 rfl
