/-! WHAT RUNS ON THE MACHINE RUNS SO ON THE JVM: new cells, Object's constructor, System.arraycopy -/
theorem pm_fkP : (List.range 13).all (fun ci => match vwCl[ci]? with
  | some (_, T, N) => (List.range N).all (fun j => match parseFieldDescriptor (T j).2.2.1 with
    | some .int => decide (pm_fk ci j = 0)
    | some (.object _) => decide (pm_fk ci j = 2)
    | some (.array _) => decide (pm_fk ci j = 2)
    | _ => false)
  | none => false) = true := by decide +kernel
theorem pm_fk_def {ci j : Nat} {C : String} {T : u_T} {N : Nat} {ty : FieldType} (hv : vwCl[ci]? = some (C, T, N)) (hc : ci < 13) (hj : j < N) (ht : parseFieldDescriptor (T j).2.2.1 = some ty) (G : pm_G) : defaultValue ty = pm_fv G ci (fun _ => 0) (fun _ => .null) j := by
  have h := List.all_eq_true.mp pm_fkP ci (List.mem_range.mpr hc)
  rw [hv] at h
  have h2 := List.all_eq_true.mp h j (List.mem_range.mpr hj)
  rw [ht] at h2
  unfold pm_fv
  split at h2
  · rename_i e
    cases e
    rw [if_pos (of_decide_eq_true h2)]
    rfl
  · rename_i e
    cases e
    rw [if_neg (by rw [of_decide_eq_true h2]; decide)]
    rfl
  · rename_i e
    cases e
    rw [if_neg (by rw [of_decide_eq_true h2]; decide)]
    rfl
  · cases h2
theorem pm_nc_ok {k i ci nf : Nat} (h : pm_nc k i = some (ci, nf)) : ∃ (C : String) (T : u_T), vwCl[ci]? = some (C, T, nf) ∧ (Cond.classLink (pm_cl k) i C ∈ lw_tbl ∧ goodWord (Cond.classLink (pm_cl k) i C) = true) ∧ (Cond.instantiable C nf ∈ lw_tbl ∧ goodWord (Cond.instantiable C nf) = true) ∧ (Cond.initialized C ∈ lw_tbl ∧ goodWord (Cond.initialized C) = true) := by
  have h1 := pm_look h
  unfold pm_cll at h1
  obtain ⟨q, hq, he⟩ := List.mem_map.mp h1
  have h2 := List.all_eq_true.mp pm_nPs q hq
  obtain ⟨⟨k', i'⟩, ⟨ci', nf'⟩, a, b, c⟩ := q
  cases he
  unfold pm_nP at h2
  split at h2
  · rename_i C T N hv
    simp only [Bool.and_eq_true, decide_eq_true_eq] at h2
    obtain ⟨⟨⟨a1, a2⟩, a3⟩, a4⟩ := h2
    try dsimp only at a1
    subst a1
    exact ⟨C, T, hv, pm_wd_in a2, pm_wd_in a3, pm_wd_in a4⟩
  · cases h2
theorem pm_sm_app (T : List (Nat × Nat)) (q : Nat × Nat) : pm_sm (T ++ [q]) = pm_sm T + q.2 := by simp [pm_sm]
theorem pm_sm_rep (T : List (Nat × Nat)) (len : Nat) : ∀ j : Nat, pm_sm (T ++ List.replicate j (20, len)) = pm_sm T + j * len
  | 0 => by simp
  | j + 1 => by
    rw [List.replicate_succ', ← List.append_assoc, pm_sm_app, pm_sm_rep T len j, Nat.succ_mul]
    omega
theorem pm_e_mk {G : pm_G} {μ : pm_M} {c len b : Nat} {q : Nat × Nat} (h : b ≠ μ.2.2.2.1.length) : pm_e G (pm_mk μ c len) b q = pm_e G μ b q := by simp only [pm_e, pm_mk, pm_upne h]
theorem pm_ws_mk (G : pm_G) (μ : pm_M) (c len : Nat) : pm_ws G (pm_mk μ c len) = pm_ws G μ ++ [(pm_base G + μ.2.2.2.1.length, pm_e G (pm_mk μ c len) μ.2.2.2.1.length (c, len))] := by
  apply List.ext_getElem?
  intro j
  rw [pm_ws_get]
  show Option.map _ ((μ.2.2.2.1 ++ [(c, len)])[j]?) = _
  rcases Nat.lt_trichotomy j μ.2.2.2.1.length with h | h | h
  · rw [List.getElem?_append_left h, List.getElem?_append_left (by rw [pm_ws_len]; exact h), pm_ws_get]
    cases hq : μ.2.2.2.1[j]? with
    | none => rfl
    | some q =>
      show some (_, pm_e G (pm_mk μ c len) j q) = some (_, pm_e G μ j q)
      rw [pm_e_mk (Nat.ne_of_lt h)]
  · subst h
    rw [List.getElem?_append_right (Nat.le_refl _), List.getElem?_append_right (by rw [pm_ws_len]; exact Nat.le_refl _), pm_ws_len]
    simp
  · rw [List.getElem?_append_right (by omega), List.getElem?_append_right (by rw [pm_ws_len]; omega), pm_ws_len]
    rw [List.getElem?_eq_none (by simp; omega), List.getElem?_eq_none (by simp; omega)]
    rfl
theorem pm_H_mk {G : pm_G} {X : (Nat → Int32) × Nat} {p : Program} {l : Launch} {s : State} {μ : pm_M} {H H1 : Heap} {locs : List Loc} {c len : Nat} (hE : pm_E G X p l s) (h9 : pm_H G μ H locs) (hsz : H.size = pm_base G + μ.2.2.2.1.length) (z1 : H1.size = pm_base G + μ.2.2.2.1.length + 1) (o1 : ∀ q, q < pm_base G + μ.2.2.2.1.length → H1[q]? = H[q]?) (hn : va_at (pm_D G) vwCl (pm_base G + μ.2.2.2.1.length, pm_e G (pm_mk μ c len) μ.2.2.2.1.length (c, len)) H1) : pm_H G (pm_mk μ c len) H1 locs := by
  refine ⟨?_, Nat.le_trans h9.2.1 (by omega), fun q g1 g2 => ?_, h9.2.2.2⟩
  · rw [pm_ws_mk]
    refine (h9.1.kept (fun k x hx => o1 x.1 (by have := (h9.1 k x hx).lt; omega))).app (fun k x hx => ?_)
    have hz : k < 1 := (List.getElem?_eq_some_iff.mp hx).1
    rw [show k = 0 by omega] at hx
    cases hx
    exact hn
  · rw [o1 q (by have := h9.2.1; omega)]
    exact h9.2.2.1 q g1 g2
theorem pm_ok_of {μ : pm_M} {len : Nat} (h : pm_ok μ len = true) : μ.2.2.2.2 = 0 ∧ μ.2.2.2.1.length < 2000 ∧ pm_sm μ.2.2.2.1 + len ≤ 200000 := by
  simp only [pm_ok, Bool.and_eq_true, decide_eq_true_eq] at h
  exact ⟨h.1.1, h.1.2, h.2⟩
theorem pm_cap_mk {μ : pm_M} {c len : Nat} (h : pm_ok μ len = true) : 1 + pm_cap (pm_mk μ c len) ≤ pm_cap μ ∧ len + pm_cas (pm_mk μ c len) ≤ pm_cas μ := by
  obtain ⟨g1, g2, g3⟩ := pm_ok_of h
  have e1 : (pm_mk μ c len).2.2.2.1.length = μ.2.2.2.1.length + 1 := by simp [pm_mk]
  have e2 : pm_sm (pm_mk μ c len).2.2.2.1 = pm_sm μ.2.2.2.1 + len := pm_sm_app _ _
  have e3 : (pm_mk μ c len).2.2.2.2 = μ.2.2.2.2 := rfl
  unfold pm_cap pm_cas
  rw [e1, e2, e3]
  omega
theorem pm_len_mk (μ : pm_M) (c len : Nat) : (pm_mk μ c len).2.2.2.1.length = μ.2.2.2.1.length + 1 := by simp [pm_mk]
set_option maxRecDepth 4000 in
theorem ps_new (G : pm_G) (X : (Nat → Int32) × Nat) (i : Nat) : pm_Ok G X (.new i) := by
  intro d m pc L S μ Q n pc' L' S' μ' hc hs K
  obtain ⟨k0, hd, hk0, rfl⟩ := pm_dec hc
  obtain rfl : k0 = 3 := hk0
  simp only [pm_step, pm_nw] at hs
  split at hs
  · rename_i ci nf hn
    split at hs
    · rename_i hcond
      obtain ⟨hlt, hok⟩ := hcond
      cases hs
      intro p l e R s mid args below meth c H locs cells slots ls C1 C2 hE hm h1 h2 h3 h4 h5 h6 h7 h8 h9 h10 h11
      obtain ⟨C, T, hv, hw1, hw2, hw3⟩ := pm_nc_ok hn
      obtain ⟨g1, g2, g3⟩ := pm_ok_of hok
      obtain ⟨u1, u2⟩ := pm_cap_mk (c := ci) hok
      obtain ⟨⟨ty0, hty0⟩, hnm⟩ := pm_tyX ci hlt C T nf hv
      have hKn := (pm_E_K hE).1 ci _ hv
      refine pm_size hE h9 (h10 g1) (fun hsz => ?_)
      refine W.newcK (pm_E_x hE) hm.1 hm.2.2.2.2.2.1 (pm_E_w hE hw1.1 hw1.2) (pm_E_w hE hw2.1 hw2.2) (pm_E_w hE hw3.1 hw3.2) rfl hd (by omega) (by omega) hKn.2.1 hsz fun H1 kC hkC e1 z1 o1 => ?_
      have hH1 : pm_H G (pm_mk μ ci nf) H1 locs := pm_H_mk hE h9 hsz z1 o1 (by
        rw [pm_e_obj hlt]
        refine ⟨_, hv, (u_born ty0 (pm_uE hE hv (args := args)) (fun _ z => z) hKn hkC e1 hty0).to (fun j hj => ?_)⟩
        rw [pm_fk_def hv hlt hj (hty0 j hj) G]
        show _ = ((List.range nf).map _).getD j Value.null
        rw [List.getD, pm_mapget hj]
        simp only [pm_mk, pm_upeq, Option.getD_some])
      exact K p l e R s mid args below meth c H1 locs (cells + 1) (slots + nf) ls C1 C2 hE hm h1 h2 h3 h4 (by omega) (by omega) h7 h8 hH1 (fun z => by rw [pm_len_mk]; have := h10 g1; omega) h11
    · cases hs
  · cases hs
/-- a new array of a kind -/
theorem pm_newarr {G : pm_G} {X : (Nat → Int32) × Nat} {d m pc : Nat} {L r : List Value} {μ : pm_M} {Q : pm_Q} {atype : ArrayType} {cT t0 : Nat} {cA0 : ClassId} {ty : FieldType} {j : Int32} (hty : newarray.typeOf atype = ty) (hin : Cond.arrayClass ty ∈ lw_tbl) (htys : (pm_tys G)[t0]? = some (cA0, ty)) (hra : ∀ s : State, va_RA s cA0 ty → s.vm.findClass ("[" ++ ty.toString) = some cA0) (hcb : componentBytes ty ≤ 8)
    (hat : ∀ H1 : Heap, H1[pm_base G + μ.2.2.2.1.length]? = some (arrV cA0 j.toNatClampNeg (fun _ => defaultValue ty)) → va_at (pm_D G) vwCl (pm_base G + μ.2.2.2.1.length, pm_e G (pm_mk μ cT j.toNatClampNeg) μ.2.2.2.1.length (cT, j.toNatClampNeg)) H1)
    (hj : 0 ≤ j.toInt) (hok : pm_ok μ j.toNatClampNeg = true) (hd : decode (pm_by m) pc = .ok (.newarray atype, 2)) (K : pm_B G X d m (pc + 2) L (.ref μ.2.2.2.1.length :: r) (pm_mk μ cT j.toNatClampNeg) Q) : pm_B G X d m pc L (.int j :: r) μ Q := by
  intro p l e R s mid args below meth c H locs cells slots ls C1 C2 hE hm h1 h2 h3 h4 h5 h6 h7 h8 h9 h10 h11
  obtain ⟨g1, g2, g3⟩ := pm_ok_of hok
  obtain ⟨u1, u2⟩ := pm_cap_mk (c := cT) hok
  have hneg : ¬ j < 0 := by
    rw [Int32.lt_iff_toInt_lt]
    simpa using hj
  subst hty
  have hmul : j.toNatClampNeg * componentBytes (newarray.typeOf atype) ≤ 200000 * 8 := Nat.mul_le_mul (by omega) hcb
  refine pm_size hE h9 (h10 g1) (fun hsz => ?_)
  refine va_newaK (pm_E_x hE) hm.1 (pm_E_w hE hin rfl) rfl hd rfl hneg rfl (by omega) (by omega) (by omega) hsz fun H1 cA e1 z1 o1 hAr hNm => ?_
  have hcc : cA = cA0 := Option.some.inj (hNm.symm.trans (hra s ((pm_E_K hE).2 t0 _ htys).2))
  subst hcc
  exact K p l e R s mid args below meth c H1 locs (cells + 1) (slots + j.toNatClampNeg) ls C1 C2 hE hm h1 h2 h3 h4 (by omega) (by omega) h7 h8 (pm_H_mk hE h9 hsz z1 o1 (hat H1 e1)) (fun z => by rw [pm_len_mk]; have := h10 g1; omega) h11
set_option maxRecDepth 4000 in
theorem ps_newarray_int (G : pm_G) (X : (Nat → Int32) × Nat) : pm_Ok G X (.newarray .int) := by
  intro d m pc L S μ Q n pc' L' S' μ' hc hs K
  obtain ⟨k0, hd, hk0, rfl⟩ := pm_dec hc
  obtain rfl : k0 = 2 := hk0
  simp only [pm_step, pm_na] at hs
  split at hs
  · rename_i j r
    split at hs
    · rename_i hcond
      obtain ⟨hj, hok⟩ := hcond
      cases hs
      refine pm_newarr (atype := .int) (ty := .int) (t0 := 0) (cA0 := pm_cI G) rfl pm_aI rfl (fun s h => h) (by decide) (fun H1 h => ?_) hj hok hd K
      have he : pm_e G (pm_mk μ 20 j.toNatClampNeg) μ.2.2.2.1.length (20, j.toNatClampNeg) = .inl (pm_cI G, j.toNatClampNeg, .inl (fun _ => 0)) := by
        simp [pm_e, pm_mk, pm_upeq]
      rw [he]
      exact h
    · cases hs
  · cases hs
set_option maxRecDepth 4000 in
theorem ps_newarray_long (G : pm_G) (X : (Nat → Int32) × Nat) : pm_Ok G X (.newarray .long) := by
  intro d m pc L S μ Q n pc' L' S' μ' hc hs K
  obtain ⟨k0, hd, hk0, rfl⟩ := pm_dec hc
  obtain rfl : k0 = 2 := hk0
  simp only [pm_step, pm_na] at hs
  split at hs
  · rename_i j r
    split at hs
    · rename_i hcond
      obtain ⟨hj, hok⟩ := hcond
      cases hs
      refine pm_newarr (atype := .long) (ty := .long) (t0 := 1) (cA0 := pm_cJ G) rfl pm_aJ rfl (fun s h => h) (by decide) (fun H1 h => ?_) hj hok hd K
      have he : pm_e G (pm_mk μ 21 j.toNatClampNeg) μ.2.2.2.1.length (21, j.toNatClampNeg) = .inl (pm_cJ G, j.toNatClampNeg, .inr (.inl (fun _ => 0))) := by
        simp [pm_e, pm_mk, pm_upeq]
      rw [he]
      exact h
    · cases hs
  · cases hs
set_option maxRecDepth 4000 in
theorem ps_newarray_boolean (G : pm_G) (X : (Nat → Int32) × Nat) : pm_Ok G X (.newarray .boolean) := by
  intro d m pc L S μ Q n pc' L' S' μ' hc hs K
  obtain ⟨k0, hd, hk0, rfl⟩ := pm_dec hc
  obtain rfl : k0 = 2 := hk0
  simp only [pm_step, pm_na] at hs
  split at hs
  · rename_i j r
    split at hs
    · rename_i hcond
      obtain ⟨hj, hok⟩ := hcond
      cases hs
      refine pm_newarr (atype := .boolean) (ty := .boolean) (t0 := 2) (cA0 := pm_cZ G) rfl pm_aZ rfl (fun s h => h) (by decide) (fun H1 h => ?_) hj hok hd K
      have he : pm_e G (pm_mk μ 22 j.toNatClampNeg) μ.2.2.2.1.length (22, j.toNatClampNeg) = .inl (pm_cZ G, j.toNatClampNeg, .inl (fun _ => 0)) := by
        simp [pm_e, pm_mk, pm_upeq]
      rw [he]
      exact h
    · cases hs
  · cases hs
theorem pm_cat_le (S : List Value) : (S.map fun v => v.category).sum ≤ 2 * S.length := by
  induction S with
  | nil => simp
  | cons v t ih =>
    have : v.category ≤ 2 := by cases v <;> simp [Value.category]
    simp only [List.map_cons, List.sum_cons, List.length_cons]
    omega
theorem pm_vcat_le (G : pm_G) (S : List Value) : ((S.map (pm_v G)).map fun v => v.category).sum ≤ 2 * S.length := by
  have := pm_cat_le (S.map (pm_v G))
  simpa using this
set_option maxRecDepth 4000 in
theorem ps_invokespecial (G : pm_G) (X : (Nat → Int32) × Nat) (i : Nat) : pm_Ok G X (.invokespecial i) := by
  intro d m pc L S μ Q n pc' L' S' μ' hc hs K
  obtain ⟨k0, hd, hk0, rfl⟩ := pm_dec hc
  obtain rfl : k0 = 3 := hk0
  simp only [pm_step, pm_is] at hs
  split at hs
  · rename_i a r
    split at hs
    · rename_i hcond
      obtain ⟨hmem, hlen⟩ := hcond
      cases hs
      intro p l e R s mid args below meth c H locs cells slots ls C1 C2 hE hm h1 h2 h3 h4 h5 h6 h7 h8 h9 h10 h11
      have hw := List.all_eq_true.mp pm_oPs _ hmem
      simp only [Bool.and_eq_true, decide_eq_true_eq] at hw
      have hcat2 := pm_vcat_le G S'
      refine W.objInit (pm_E_x hE) hm.1 hm.2.2.2.2.2.1 (pm_E_w hE hw.1 hw.2) (pm_E_w hE pm_oI.1 pm_oI.2) (pm_E_w hE pm_oC.1 pm_oC.2) rfl (by show ls.size = _; rw [h8.1, hm.2.1]) rfl hd (by omega) ?_ (K p l e R s mid args below meth c H locs cells slots ls C1 C2 hE hm h1 h2 h3 h4 h5 h6 h7 h8 h9 h10 h11)
      show 2 * 0 + _ + 12 ≤ R.locals
      omega
    · cases hs
  · cases hs
theorem pm_nfw : nativeFrameWords "java/lang/System" "arraycopy" 5 ≤ 100 := by decide +kernel
set_option maxRecDepth 4000 in
theorem ps_invokestatic (G : pm_G) (X : (Nat → Int32) × Nat) (i : Nat) : pm_Ok G X (.invokestatic i) := by
  intro d m pc L S μ Q n pc' L' S' μ' hc hs K
  obtain ⟨k0, hd, hk0, rfl⟩ := pm_dec hc
  obtain rfl : k0 = 3 := hk0
  simp only [pm_step, pm_iv] at hs
  split at hs
  · rename_i len dp b sp a r
    split at hs
    · rename_i ca la cb lb hta htb
      split at hs
      · rename_i hcond
        obtain ⟨hk11, rfl, rfl, rfl, hlen, hsp, hdp, hl0, hA1, hB1⟩ := hcond
        cases hs
        intro p l e R s mid args below meth c H locs cells slots ls C1 C2 hE hm h1 h2 h3 h4 h5 h6 h7 h8 h9 h10 h11
        have hown := hm.2.2.2.2.2.1
        rw [hk11] at hown
        have hcat := pm_vcat_le G S'
        have hnf := pm_nfw
        have neg : ∀ z : Int32, 0 ≤ z.toInt → ¬ z < 0 := fun z hz => by
          rw [Int32.lt_iff_toInt_lt]
          simpa using hz
        refine va_copyi (pm_E_x hE) hm.1 (by rw [hm.2.1, h8.1]) hown (pm_E_w hE pm_acl1.1 pm_acl1.2) (pm_E_w hE pm_acl2.1 pm_acl2.2) (pm_E_w hE pm_acl3.1 pm_acl3.2) (pm_E_w hE pm_acl4.1 pm_acl4.2) (pm_E_K hE) h9.1 (pm_wsD G μ) h9.2 a b 0 0 (f := μ.1 a) (g := μ.1 b) (ty := .int) (by rw [pm_ws_at hta]; rfl) (by rw [pm_ws_at htb]; rfl) rfl rfl rfl (neg _ hsp) (neg _ hdp) (neg _ hl0) hA1 hB1 (fun _ _ => rfl) (by omega) (by omega) hd (fun H1 locs1 hP1 _ hS1 => ?_)
        have hws := pm_ws_set (G := G) (μ := μ) (μ' := (va_up μ.1 b (va_cpy (μ.1 a) (μ.1 b) sp.toNatClampNeg dp.toNatClampNeg len.toNatClampNeg), μ.2)) (a := b) rfl htb (fun b' q hb => by simp only [pm_e, pm_upne hb])
        simp only [pm_e, pm_upeq, if_true] at hws
        rw [← hws] at hP1
        exact K p l e R s mid args below meth c H1 locs1 cells slots ls C1 C2 hE hm h1 h2 h3 h4 h5 h6 h7 h8 ⟨hP1, hS1⟩ h10 h11
      · cases hs
    · cases hs
  · cases hs
theorem pm_mkN_facts (μ : pm_M) (len : Nat) : ∀ j : Nat, (pm_mkN μ len j).2.2.2.1 = μ.2.2.2.1 ++ List.replicate j (20, len) ∧ (pm_mkN μ len j).2.2.2.2 = μ.2.2.2.2 ∧ (∀ b, b < μ.2.2.2.1.length → (pm_mkN μ len j).1 b = μ.1 b ∧ (pm_mkN μ len j).2.1 b = μ.2.1 b ∧ (pm_mkN μ len j).2.2.1 b = μ.2.2.1 b) ∧ (∀ b, μ.2.2.2.1.length ≤ b → b < μ.2.2.2.1.length + j → (pm_mkN μ len j).1 b = fun _ => 0)
  | 0 => ⟨by simp [pm_mkN], rfl, fun _ _ => ⟨rfl, rfl, rfl⟩, fun b h1 h2 => by omega⟩
  | j + 1 => by
    obtain ⟨a1, a2, a3, a4⟩ := pm_mkN_facts μ len j
    have hl : (pm_mkN μ len j).2.2.2.1.length = μ.2.2.2.1.length + j := by rw [a1]; simp
    refine ⟨?_, a2, fun b hb => ?_, fun b h1 h2 => ?_⟩
    · show (pm_mkN μ len j).2.2.2.1 ++ [(20, len)] = _
      rw [a1, List.append_assoc, ← List.replicate_succ']
    · have hne : b ≠ (pm_mkN μ len j).2.2.2.1.length := by omega
      obtain ⟨e1, e2, e3⟩ := a3 b hb
      exact ⟨(pm_upne hne).trans e1, (pm_upne hne).trans e2, (pm_upne hne).trans e3⟩
    · by_cases e : b = (pm_mkN μ len j).2.2.2.1.length
      · show va_up _ (pm_mkN μ len j).2.2.2.1.length _ b = _
        rw [e]
        exact pm_upeq
      · exact (pm_upne e).trans (a4 b h1 (by omega))
set_option maxRecDepth 4000 in
theorem ps_multianewarray (G : pm_G) (X : (Nat → Int32) × Nat) (i : Nat) : pm_Ok G X (.multianewarray i 2) := by
  intro d m pc L S μ Q n pc' L' S' μ' hc hs K
  obtain ⟨k0, hd, hk0, rfl⟩ := pm_dec hc
  obtain rfl : k0 = 4 := hk0
  simp only [pm_step, pm_mn] at hs
  split at hs
  · rename_i y x r
    split at hs
    · rename_i hcond
      obtain ⟨hk, rfl, hx1, hy, hex, hln, hsm⟩ := hcond
      have hx : 0 ≤ x.toInt := by omega
      obtain ⟨N, hN⟩ : ∃ N, N = x.toNatClampNeg := ⟨_, rfl⟩
      obtain ⟨M, hM⟩ : ∃ M, M = y.toNatClampNeg := ⟨_, rfl⟩
      rw [← hN, ← hM] at hs hsm
      rw [← hN] at hln
      obtain ⟨f1, f2, f3, f4⟩ := pm_mkN_facts (pm_mk μ 23 N) M N
      obtain ⟨ν, hν⟩ : ∃ ν, ν = pm_mkN (pm_mk μ 23 N) M N := ⟨_, rfl⟩
      rw [← hν] at hs f1 f2 f3 f4
      obtain ⟨I, J, P, T, ex⟩ := ν
      dsimp only at hs f1 f2 f3 f4
      cases hs
      have hT1 : (pm_mk μ 23 N).2.2.2.1 = μ.2.2.2.1 ++ [(23, N)] := rfl
      have hlen1 := pm_len_mk μ 23 N
      have hTl : T.length = μ.2.2.2.1.length + 1 + N := by rw [f1]; simp [hlen1]
      have hTs : pm_sm T = pm_sm μ.2.2.2.1 + N + N * M := by
        rw [f1, hT1, pm_sm_rep, pm_sm_app]
      have hxe : ex = 0 := f2.trans hex
      intro p l e R s mid args below meth c H locs cells slots ls C1 C2 hE hm h1 h2 h3 h4 h5 h6 h7 h8 h9 h10 h11
      have neg : ∀ z : Int32, 0 ≤ z.toInt → ¬ z < 0 := fun z hz => by
        rw [Int32.lt_iff_toInt_lt]
        simpa using hz
      have hown := hm.2.2.2.2.2.1
      rw [hk] at hown
      refine pm_size hE h9 (h10 hex) (fun hsz => ?_)
      intro U hU Y
      have hNM : M ≤ 200000 ∨ N = 0 := by
        rcases Nat.eq_zero_or_pos N with h | h
        · exact Or.inr h
        · refine Or.inl ?_
          have : 1 * M ≤ N * M := Nat.mul_le_mul_right M h
          omega
      have hcap : pm_cap μ = (2000 - μ.2.2.2.1.length) + 100000 := by unfold pm_cap; rw [hex]
      have hcas : pm_cas μ = (200000 - pm_sm μ.2.2.2.1) + 6 * 100000 := by unfold pm_cas; rw [hex]
      have hMy : M ≤ 200000 := by
        have hN1 : 1 ≤ N := by
          rw [hN]
          unfold Int32.toNatClampNeg
          omega
        rcases hNM with h | h
        · exact h
        · omega
      obtain ⟨vm₁, cA, comp, hW1, hfA, hfC, hO, hI, X1, step⟩ := Y.multianewarray2F (pm_E_x hE) (own := "PassagePapers$Archive") (index := 11) (ty := .int) hown (pm_E_w hE pm_aAl.1 pm_aAl.2) hE.2.2.2.2.2.2.2.1 (pm_E_w hE pm_aI rfl)
        (g := F0 mid pc ls ((Value.int y :: Value.int x :: r).map (pm_v G))) rfl (by rw [hm.1]; exact hd) (n := x) (k := y) (rest := r.map (pm_v G)) rfl (neg _ hx) (neg _ hy) (by rw [← hN]; omega) (by rw [← hM]; show M * 4 ≤ _; omega) (by rw [← hM]; omega) rfl rfl (by rw [← hN]; omega) (by rw [← hN, ← hM]; omega)
      rw [← hN, ← hM] at X1 step
      have hUh : (U.setVm vm₁).heap = H := hU
      have hUs : (U.setVm vm₁).heap.size = pm_base G + μ.2.2.2.1.length := by rw [hUh]; exact hsz
      obtain ⟨k1, k2, k3, k4⟩ := Jvm.Free.Multi.fill_facts (U.setVm vm₁) cA comp N M (defaultValue .int) N
      have kold := fun (a : Addr) (ha : a < (U.setVm vm₁).heap.size) => Jvm.Free.Multi.fill_old (U.setVm vm₁) cA comp N M (defaultValue .int) ha N
      have kinn := fun (j : Nat) (hj : j < N) => Jvm.Free.Multi.fill_inner (U.setVm vm₁) cA comp N M (defaultValue .int) N j hj
      rw [hUs] at k1 k2 kold kinn
      rw [hUh] at kold
      rw [vr_outer] at k2
      have hcA : cA = pm_cA G := Option.some.inj (hfA.symm.trans ((pm_E_K hE).2 3 _ rfl).2)
      have hcI : comp = pm_cI G := Option.some.inj (hfC.symm.trans ((pm_E_K hE).2 0 _ rfl).2)
      subst hcA
      subst hcI
      obtain ⟨H1, hH1⟩ : ∃ H1, H1 = (Jvm.Free.Multi.fill (U.setVm vm₁) (pm_cA G) (pm_cI G) N M (defaultValue .int) N).heap := ⟨_, rfl⟩
      rw [← hH1] at k1 k2 kold kinn
      have hH : pm_H G (I, J, va_up P μ.2.2.2.1.length (fun q => if q < N then .ref (μ.2.2.2.1.length + 1 + q) else .null), T, ex) H1 locs := by
        refine ⟨fun a q hq => ?_, Nat.le_trans h9.2.1 (by omega), fun q g1 g2 => ?_, h9.2.2.2⟩
        · rw [pm_ws_get] at hq
          dsimp only at hq
          rcases Nat.lt_trichotomy a μ.2.2.2.1.length with h | h | h
          · have hTa : T[a]? = μ.2.2.2.1[a]? := by
              rw [f1, hT1, List.getElem?_append_left (by simp; omega), List.getElem?_append_left h]
            rw [hTa] at hq
            cases hz : μ.2.2.2.1[a]? with
            | none => rw [hz] at hq; cases hq
            | some w =>
              rw [hz] at hq
              cases hq
              obtain ⟨e1, e2, e3⟩ := f3 a (by omega)
              have ne : a ≠ μ.2.2.2.1.length := Nat.ne_of_lt h
              have e1' : I a = μ.1 a := e1.trans (pm_upne ne)
              have e2' : J a = μ.2.1 a := e2.trans (pm_upne ne)
              have e3' : P a = μ.2.2.1 a := e3.trans (pm_upne ne)
              have he : pm_e G (I, J, va_up P μ.2.2.2.1.length (fun q => if q < N then .ref (μ.2.2.2.1.length + 1 + q) else .null), T, ex) a w = pm_e G μ a w := by
                simp only [pm_e, pm_upne ne, e1', e2', e3']
              show va_at _ _ (pm_base G + a, pm_e G (I, J, va_up P μ.2.2.2.1.length (fun q => if q < N then .ref (μ.2.2.2.1.length + 1 + q) else .null), T, ex) a w) H1
              rw [he]
              exact (h9.1 a _ (pm_ws_at hz)).kept (kold _ (by show pm_base G + a < _; omega))
          · subst h
            have hTa : T[μ.2.2.2.1.length]? = some (23, N) := by
              rw [f1, hT1, List.getElem?_append_left (by simp)]
              simp
            rw [hTa] at hq
            cases hq
            show H1[pm_base G + μ.2.2.2.1.length]? = some (vp_cell (pm_cA G) (N, .inr (.inr (.inr (.inr (fun j => pm_rf G (va_up P μ.2.2.2.1.length (fun q => if q < N then .ref (μ.2.2.2.1.length + 1 + q) else .null) μ.2.2.2.1.length j)))))))
            rw [k2, vp_cell_q]
            congr 2
            funext j
            rw [pm_upeq]
            by_cases hj : j < N
            · rw [if_pos hj, if_pos hj]
              show va_rf (some _) = va_rf (some _)
              congr 2
              omega
            · rw [if_neg hj, if_neg hj]
              rfl
          · by_cases h2 : a < μ.2.2.2.1.length + 1 + N
            · have hTa : T[a]? = some (20, M) := by
                rw [f1, List.getElem?_append_right (by rw [hlen1]; omega), hlen1, List.getElem?_replicate, if_pos (by omega)]
              rw [hTa] at hq
              cases hq
              have ne : a ≠ μ.2.2.2.1.length := Nat.ne_of_gt h
              have e4 : I a = fun _ => 0 := f4 a (by omega) (by omega)
              show H1[pm_base G + a]? = some (vp_cell (pm_cI G) (M, .inl (I a)))
              have := kinn (a - (μ.2.2.2.1.length + 1)) (by omega)
              rw [show pm_base G + μ.2.2.2.1.length + 1 + (a - (μ.2.2.2.1.length + 1)) = pm_base G + a by omega] at this
              rw [this, e4, vp_cell_i]
              show some ({ cls := pm_cI G, slots := Array.replicate M (defaultValue .int), vm := .none } : Cell) = _
              rw [arrV_new]
              rfl
            · rw [List.getElem?_eq_none (by omega)] at hq
              cases hq
        · rw [kold q (Nat.lt_of_lt_of_le g1 (by rw [pm_E_sz hE]; omega))]
          exact h9.2.2.1 q g1 g2
      obtain ⟨t, b1, b2⟩ := K p l e R s mid args below meth c H1 locs (cells + 1 + N) (slots + N + N * M) ls C1 C2 hE hm h1 h2 h3 h4 (by unfold pm_cap; dsimp only; omega) (by unfold pm_cas; dsimp only; omega) h7 h8 hH (fun _ => by dsimp only; have := h10 hex; omega) h11 _ hH1.symm X1
      refine ⟨t, step t ?_, b2⟩
      rw [hU, hsz]
      exact b1
    · cases hs
  · cases hs
