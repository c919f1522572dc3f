/-! REGISTER -/
/-- the references after a register: swapped, if it was taken -/
def pm_rP (P : Nat → Nat → Value) (r r2 : Nat) (s : (Int32 × Bool) ⊕ Nat) : Nat → Nat → Value := match s with | .inl (_, true) => pm_wp (pm_wp P 3 6 r2) 0 8 r | _ => P
def f172 (k r2 : Nat) (x1 : Int32) (I : Nat → Nat → Int32) (J : Nat → Nat → Int64) : Option (((Int32 × Bool) ⊕ Nat) × (Nat → Nat → Int32) × (Nat → Nat → Int64)) := pm_xb (f173 x1 600 I J) (fun _ I1 J1 => (f126 x1 I1 J1).bind (fun (_, I2, J2) => (f86 r2 I2 J2).bind (fun (_, I3, J3) => (f137 I3 J3).bind (fun (_, I4, J4) => if v138 I4 = true then some (.inl (v139 I4, false), I4, J4) else (f38 r2 I4 J4).bind (fun (_, I5, J5) => (f9 k I5 J5).bind (fun (_, I6, J6) => (f6 I6 J6).bind (fun (_, I7, J7) => some (.inl (pm_w I7 0 11 0 r2 7, true), pm_w I7 0 11 0, J7))))))))
theorem d172 {X : (Nat → Int32) × Nat} {d : Nat} {I : Nat → Nat → Int32} {J : Nat → Nat → Int64} {P : Nat → Nat → Value} {e r k r2 k2 : Nat} {x1 : Int32} {q : ((Int32 × Bool) ⊕ Nat) × (Nat → Nat → Int32) × (Nat → Nat → Int64)} (hw : pm_W P r k r2 k2) (he : e < 100000) (h : f172 k r2 x1 I J = some q) : pm_Fn X (d + 9) 172 1 [.ref 0, .int x1] (I, J, P, pm_T0, e) (pm_sB q.1) (q.2.1, q.2.2, pm_rP P r r2 q.1, pm_T0, pm_sE q.1 e) := by
  obtain ⟨hp, hw1, hw2, hw3, hw4, hw5, hw6, hw7, hw8, hw9, hw10, hw11⟩ := id hw
  have hv := pm_W_r hw hw7
  have hr1 : pm_rgT (pm_wp P 3 6 r2) r := pm_wp_rg (pm_rg_ne hw5).1 hw5
  have hv2 := pm_W_d hv hr1
  unfold f172 at h
  refine fn_v (c := 11) (nf := 14) rc172 rfl ml172 rfl rfl rfl rfl ?_
  refine al0 c172_0 ?_
  refine il1 c172_1 ?_
  refine r_si c172_2 kS600 ?_
  rcases pm_xb_sp h with ⟨t, I1, J1, e1, rfl⟩ | ⟨o1, I1, J1, e1, h⟩
  · exact cx3 q172_5 hh172 (μ1 := (I1, J1, P, pm_T0, e + 1)) (d173 hw he e1) rfl
  refine cz3 q172_5 (μ1 := (I1, J1, P, pm_T0, e)) (d173 hw he e1) rfl ?_
  obtain ⟨⟨o2, I2, J2⟩, e2, h⟩ := pm_bd_sp h
  obtain ⟨⟨o3, I3, J3⟩, e3, h⟩ := pm_bd_sp h
  obtain ⟨⟨o4, I4, J4⟩, e4, h⟩ := pm_bd_sp h
  refine al0 c172_8 ?_
  refine r_gr g172_9 rfl rfl (hp _ _ _ rfl) ?_
  refine il1 c172_12 ?_
  refine cz2 q172_13 (μ1 := (I2, J2, P, pm_T0, e)) (d126 hw e2) rfl ?_
  refine al0 c172_16 ?_
  refine r_gr g172_17 rfl rfl hw3 ?_
  refine al0 c172_20 ?_
  refine r_gr g172_21 rfl rfl (hp _ _ _ rfl) ?_
  refine cz2 q172_24 (μ1 := (I3, J3, P, pm_T0, e)) (d86 hw hw7 e3) rfl ?_
  refine al0 c172_27 ?_
  refine r_gr g172_28 rfl rfl (hp _ _ _ rfl) ?_
  refine cz1 q172_31 (μ1 := (I4, J4, P, pm_T0, e)) (d137 hw e4) rfl ?_
  refine al0 c172_34 ?_
  refine r_gr g172_35 rfl rfl (hp _ _ _ rfl) ?_
  refine cv1 q172_38 (d138 hw rfl) rfl ?_
  refine r_ifeq (t := 52) c172_41 rfl (fun hb => ?_) (fun hb => ?_)
  · dsimp only at h
    rw [if_neg (pm_bf hb)] at h
    obtain ⟨⟨o5, I5, J5⟩, e5, h⟩ := pm_bd_sp h
    obtain ⟨⟨o6, I6, J6⟩, e6, h⟩ := pm_bd_sp h
    obtain ⟨⟨o7, I7, J7⟩, e7, h⟩ := pm_bd_sp h
    cases h
    refine al0 c172_52 ?_
    refine r_gr g172_53 rfl rfl (hp _ _ _ rfl) ?_
    refine cv1 q172_56 (s37 hw1) rfl ?_
    refine rs2 c172_59 rfl ?_
    refine al0 c172_60 ?_
    refine r_gr g172_61 rfl rfl (hp _ _ _ rfl) ?_
    refine al0 c172_64 ?_
    refine r_gr g172_65 rfl rfl hw3 ?_
    refine cz2 q172_68 (μ1 := (I5, J5, pm_wp P 3 6 r2, pm_T0, e)) (d38 hw hw7 e5) rfl ?_
    refine al0 c172_71 ?_
    refine al2 c172_72 ?_
    refine w_pr p172_73 rfl rfl ?_
    refine al0 c172_76 ?_
    refine r_gr g172_77 rfl rfl hv2.2.2.1 ?_
    refine cz1 q172_80 (μ1 := (I6, J6, pm_wp (pm_wp P 3 6 r2) 0 8 r, pm_T0, e)) (d9 hv2 hv2.2.2.2.2.2.2.1 e6) rfl ?_
    refine al0 c172_83 ?_
    refine r_gr g172_84 rfl rfl (hv2.1 _ _ _ rfl) ?_
    refine cz1 q172_87 (μ1 := (I7, J7, pm_wp (pm_wp P 3 6 r2) 0 8 r, pm_T0, e)) (d6 hv2 e7) rfl ?_
    refine al0 c172_90 ?_
    refine r_ic c172_91 kI0 ?_
    refine w_pi p172_92 rfl rfl ?_
    refine al0 c172_95 ?_
    refine r_gr g172_96 rfl rfl (hv2.1 _ _ _ rfl) ?_
    refine cv1 q172_99 (s37 hv2.2.1) rfl ?_
    refine cv1 q172_102 (s81 hw7.1) rfl ?_
    exact r_ri c172_105 rt172 rfl rfl
  · dsimp only at h
    rw [if_pos (pm_bt hb)] at h
    cases h
    refine al0 c172_44 ?_
    refine r_gr g172_45 rfl rfl (hp _ _ _ rfl) ?_
    refine cv1 q172_48 (d139 hw rfl) rfl ?_
    exact r_ri c172_51 rt172 rfl rfl
