/-! BOOK -/
def pm_sB (s : (Int32 × Bool) ⊕ Nat) : pm_R := match s with | .inl v => .inl (some (.int v.1)) | .inr t => .inr t
/-- the references after a book: swapped, if it was taken -/
def pm_bP (P : Nat → Nat → Value) (k k2 : Nat) (s : (Int32 × Bool) ⊕ Nat) : Nat → Nat → Value := match s with | .inl (_, true) => pm_wp (pm_wp P 0 9 k2) 0 10 k | _ => P
def f177 (k2 : Nat) (x1 : Int32) (I : Nat → Nat → Int32) (J : Nat → Nat → Int64) : Option (((Int32 × Bool) ⊕ Nat) × (Nat → Nat → Int32) × (Nat → Nat → Int64)) := pm_xb (f173 x1 100 I J) (fun _ I1 J1 => (f126 x1 I1 J1).bind (fun (_, I2, J2) => (f10 k2 I2 J2).bind (fun (_, I3, J3) => (f137 I3 J3).bind (fun (_, I4, J4) => if v138 I4 = true then some (.inl (v139 I4, false), I4, J4) else some (.inl (I4 k2 2, true), I4, J4)))))
theorem d177 {X : (Nat → Int32) × Nat} {d : Nat} {I : Nat → Nat → Int32} {J : Nat → Nat → Int64} {P : Nat → Nat → Value} {e r k r2 k2 : Nat} {x1 : Int32} {q : ((Int32 × Bool) ⊕ Nat) × (Nat → Nat → Int32) × (Nat → Nat → Int64)} (hw : pm_W P r k r2 k2) (he : e < 100000) (h : f177 k2 x1 I J = some q) : pm_Fn X (d + 5) 177 1 [.ref 0, .int x1] (I, J, P, pm_T0, e) (pm_sB q.1) (q.2.1, q.2.2, pm_bP P k k2 q.1, pm_T0, pm_sE q.1 e) := by
  obtain ⟨hp, hw1, hw2, hw3, hw4, hw5, hw6, hw7, hw8, hw9, hw10, hw11⟩ := id hw
  have hv := pm_W_b hw hw8
  have hv2 := pm_W_e hv hv.2.2.2.2.2.2.1
  unfold f177 at h
  refine fn_v (c := 11) (nf := 14) rc177 rfl ml177 rfl rfl rfl rfl ?_
  refine al0 c177_0 ?_
  refine il1 c177_1 ?_
  refine r_bi c177_2 kB100 ?_
  rcases pm_xb_sp h with ⟨t, I1, J1, e1, rfl⟩ | ⟨o1, I1, J1, e1, h⟩
  · exact cx3 q177_4 hh177 (μ1 := (I1, J1, P, pm_T0, e + 1)) (d173 hw he e1) rfl
  refine cz3 q177_4 (μ1 := (I1, J1, P, pm_T0, e)) (d173 hw he e1) rfl ?_
  obtain ⟨⟨o2, I2, J2⟩, e2, h⟩ := pm_bd_sp h
  obtain ⟨⟨o3, I3, J3⟩, e3, h⟩ := pm_bd_sp h
  obtain ⟨⟨o4, I4, J4⟩, e4, h⟩ := pm_bd_sp h
  refine al0 c177_7 ?_
  refine r_gr g177_8 rfl rfl (hp _ _ _ rfl) ?_
  refine il1 c177_11 ?_
  refine cz2 q177_12 (μ1 := (I2, J2, P, pm_T0, e)) (d126 hw e2) rfl ?_
  refine al0 c177_15 ?_
  refine r_gr g177_16 rfl rfl hw4 ?_
  refine al0 c177_19 ?_
  refine r_gr g177_20 rfl rfl (hp _ _ _ rfl) ?_
  refine cz2 q177_23 (μ1 := (I3, J3, P, pm_T0, e)) (d10 hw hw8 e3) rfl ?_
  refine al0 c177_26 ?_
  refine r_gr g177_27 rfl rfl (hp _ _ _ rfl) ?_
  refine cz1 q177_30 (μ1 := (I4, J4, P, pm_T0, e)) (d137 hw e4) rfl ?_
  refine al0 c177_33 ?_
  refine r_gr g177_34 rfl rfl (hp _ _ _ rfl) ?_
  refine cv1 q177_37 (d138 hw rfl) rfl ?_
  refine r_ifeq (t := 51) c177_40 rfl (fun hb => ?_) (fun hb => ?_)
  · dsimp only at h
    rw [if_neg (pm_bf hb)] at h
    cases h
    refine al0 c177_51 ?_
    refine r_gr g177_52 rfl rfl hw2 ?_
    refine rs2 c177_55 rfl ?_
    refine al0 c177_56 ?_
    refine al0 c177_57 ?_
    refine r_gr g177_58 rfl rfl hw4 ?_
    refine w_pr p177_61 rfl rfl ?_
    refine al0 c177_64 ?_
    refine al2 c177_65 ?_
    refine w_pr p177_66 rfl rfl ?_
    refine al0 c177_69 ?_
    refine r_gr (b := k2) g177_70 rfl rfl (by rw [pm_wp_ne (by decide)]; exact pm_wp_self _ _ _ _) ?_
    refine cv1 q177_73 (s13 hw8.1) rfl ?_
    exact r_ri c177_76 rt177 rfl rfl
  · dsimp only at h
    rw [if_pos (pm_bt hb)] at h
    cases h
    refine al0 c177_43 ?_
    refine r_gr g177_44 rfl rfl (hp _ _ _ rfl) ?_
    refine cv1 q177_47 (d139 hw rfl) rfl ?_
    exact r_ri c177_50 rt177 rfl rfl
