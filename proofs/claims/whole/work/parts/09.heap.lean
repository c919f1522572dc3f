/-! WHAT RUNS ON THE MACHINE RUNS SO ON THE JVM: instructions on the heap -/
theorem pm_fd_ok {k i ci f kd : Nat} (h : pm_fd k i = some (ci, f, kd)) : ∃ (C : String) (T : u_T) (N : Nat), vwCl[ci]? = some (C, T, N) ∧ f < N ∧ (Cond.fieldLink (pm_cl k) i C (T f).2.1 (T f).2.2.1 ∈ lw_tbl ∧ goodWord (Cond.fieldLink (pm_cl k) i C (T f).2.1 (T f).2.2.1) = true) ∧ (T f).1 = C ∧ pm_cl ci = C ∧ kd = pm_fk ci f ∧ (T f).2.2.2 = pm_fin ci f ∧ ∃ ty, parseFieldDescriptor (T f).2.2.1 = some ty ∧ ((ty = .int ∧ kd = 0) ∨ ((∃ n, ty = .object n) ∧ kd = 2) ∨ ((∃ n, ty = .array n) ∧ kd = 2)) := by
  have h1 := pm_look h
  unfold pm_ftl at h1
  obtain ⟨q, hq, he⟩ := List.mem_map.mp h1
  have h2 := List.all_eq_true.mp pm_fPs q hq
  obtain ⟨⟨k', i'⟩, ⟨ci', f', kd'⟩, hh⟩ := q
  cases he
  unfold pm_fP at h2
  split at h2
  · rename_i C T N hv
    simp only [Bool.and_eq_true, decide_eq_true_eq] at h2
    obtain ⟨⟨⟨⟨⟨⟨a1, a2⟩, a3⟩, a4⟩, a5⟩, a6⟩, a7⟩ := h2
    refine ⟨C, T, N, hv, a1, pm_wd_in a2, a3, a4, a5, a6, ?_⟩
    split at a7
    · rename_i e
      exact ⟨_, e, Or.inl ⟨rfl, of_decide_eq_true a7⟩⟩
    · rename_i e
      exact ⟨_, e, Or.inr (Or.inl ⟨⟨_, rfl⟩, of_decide_eq_true a7⟩)⟩
    · rename_i e
      exact ⟨_, e, Or.inr (Or.inr ⟨⟨_, rfl⟩, of_decide_eq_true a7⟩)⟩
    · cases a7
  · cases h2
theorem pm_uE {G : pm_G} {X : (Nat → Int32) × Nat} {p : Program} {l : Launch} {s : State} (hE : pm_E G X p l s) {ci : Nat} {C : String} {T : u_T} {N : Nat} (hc : vwCl[ci]? = some (C, T, N)) {args : Array Value} : ∀ w ∈ u_ws C T N, w.before args s = true :=
  fun w hw => pm_E_w hE (pm_uP _ (List.mem_of_getElem? hc) w hw).1 (pm_uP _ (List.mem_of_getElem? hc) w hw).2
theorem pm_e_obj {G : pm_G} {μ : pm_M} {a : Nat} {q : Nat × Nat} (h : q.1 < 13) : pm_e G μ a q = .inr (q.1, (List.range q.2).map (pm_fv G q.1 (μ.1 a) (μ.2.2.1 a))) := by
  unfold pm_e
  rw [if_neg (by omega), if_neg (by omega), if_neg (by omega), if_neg (by omega)]
theorem pm_mapget {α : Type} {n f : Nat} {F : Nat → α} (h : f < n) : ((List.range n).map F)[f]? = some (F f) := by simp [h]
theorem pm_setL {α : Type} {n f : Nat} {F F' : Nat → α} {v : α} (h : ∀ j, j ≠ f → F' j = F j) (hv : F' f = v) : (List.range n).map F' = ((List.range n).map F).set f v := by
  apply List.ext_getElem?
  intro j
  by_cases hj : j < n
  · by_cases e : f = j
    · subst e
      rw [List.getElem?_set_self (by simpa using hj), pm_mapget hj, hv]
    · rw [List.getElem?_set_ne e, pm_mapget hj, pm_mapget hj, h j (fun z => e z.symm)]
  · rw [List.getElem?_eq_none (by simpa using hj), List.getElem?_eq_none (by simpa using hj)]
theorem pm_old {G : pm_G} {X : (Nat → Int32) × Nat} {p : Program} {l : Launch} {s : State} {μ : pm_M} {H : Heap} {locs : List Loc} (hE : pm_E G X p l s) (h9 : pm_H G μ H locs) {q : Nat} {cell : Cell} (hq : (pm_h0 G)[q]? = some cell) (hA : ¬ pm_A G q) : H[q]? = some cell := by
  rw [h9.2.2.1 q (Array.getElem?_eq_some_iff.mp hq).1 hA]
  exact hq
theorem pm_upne {α : Type} {f : Nat → α} {a b : Nat} {v : α} (h : b ≠ a) : va_up f a v b = f b := if_neg h
theorem pm_upeq {α : Type} {f : Nat → α} {a : Nat} {v : α} : va_up f a v a = v := if_pos rfl
theorem pm_in_of {j : Int32} {n : Nat} (h : 0 ≤ j.toInt ∧ j.toInt < n) : vp_in j n := vp_in_iff.mpr h
theorem pm_vtx {G : pm_G} {a : Nat} (h2 : 2 ≤ a) (he : a % 2 = 0) : pm_v G (.retAddr a) = .ref (pm_aK G ((a - 2) / 2)) := by
  obtain ⟨b, rfl⟩ : ∃ b, a = b + 2 := ⟨a - 2, by omega⟩
  show (if b % 2 = 0 then _ else _) = _
  rw [if_pos (by omega)]
  rfl
theorem pm_vtv {G : pm_G} {a : Nat} (h2 : 3 ≤ a) (he : a % 2 = 1) : pm_v G (.retAddr a) = .ref (pm_aV G ((a - 3) / 2)) := by
  obtain ⟨b, rfl⟩ : ∃ b, a = b + 2 := ⟨a - 2, by omega⟩
  show (if b % 2 = 0 then _ else _) = _
  rw [if_neg (by omega), show b + 2 - 3 = b - 1 by omega, show (b - 1) / 2 = b / 2 by omega]
theorem pm_lk9 : Cond.fieldLink "java/lang/String" 9 "java/lang/String" "value" "[B" ∈ lw_tbl ∧ goodWord (Cond.fieldLink "java/lang/String" 9 "java/lang/String" "value" "[B") = true := by decide +kernel
theorem pm_lk15 : Cond.fieldLink "java/lang/String" 15 "java/lang/String" "coder" "B" ∈ lw_tbl ∧ goodWord (Cond.fieldLink "java/lang/String" 15 "java/lang/String" "coder" "B") = true := by decide +kernel
theorem pm_lk38 : Cond.fieldLink "java/lang/String" 38 "java/lang/String" "COMPACT_STRINGS" "Z" ∈ lw_tbl ∧ goodWord (Cond.fieldLink "java/lang/String" 38 "java/lang/String" "COMPACT_STRINGS" "Z") = true := by decide +kernel
theorem pm_lk1053 : Cond.fieldLink "java/lang/String" 1053 "jdk/internal/util/Preconditions" "SIOOBE_FORMATTER" "Ljava/util/function/BiFunction;" ∈ lw_tbl ∧ goodWord (Cond.fieldLink "java/lang/String" 1053 "jdk/internal/util/Preconditions" "SIOOBE_FORMATTER" "Ljava/util/function/BiFunction;") = true := by decide +kernel
set_option maxRecDepth 4000 in
theorem ps_getfield (G : pm_G) (X : (Nat → Int32) × Nat) (i : Nat) : pm_Ok G X (.getfield i) := by
  intro d m pc L S μ Q n pc' L' S' μ' hc hs K
  obtain ⟨k0, hd, hk0, rfl⟩ := pm_dec hc
  obtain rfl : k0 = 3 := hk0
  simp only [pm_step, pm_gf] at hs
  split at hs
  · rename_i a r
    split at hs
    · rename_i ci f kd c0 nf hf ht
      split at hs
      · rename_i hcond
        obtain ⟨rfl, hlt, hfn⟩ := hcond
        cases hs
        intro p l e R s mid args below meth c H locs cells slots ls C1 C2 hE hm h1 h2 h3 h4 h5 h6 h7 h8 h9 h10 h11
        obtain ⟨C, T, N, hv, hN, hw, hT1, hcl, hkd, hfin, -⟩ := pm_fd_ok hf
        have he : (pm_ws G μ)[a]? = some (pm_base G + a, .inr (c0, (List.range nf).map (pm_fv G c0 (μ.1 a) (μ.2.2.1 a)))) := by
          rw [pm_ws_at ht, pm_e_obj hlt]
        have K' := K p l e R s mid args below meth c H locs cells slots ls C1 C2 hE hm h1 h2 h3 h4 h5 h6 h7 h8 h9 h10 h11
        refine va_get (pm_E_x hE) hm.1 (pm_uE hE hv) (fun _ z => z) hm.2.2.2.2.2.1 (pm_E_K hE) h9.1 a he hv f hN (pm_E_w hE hw.1 hw.2) (fun _ z => by rw [hT1] at z; exact z) (pm_mapget hfn) hd ?_
        have hval : pm_fv G c0 (μ.1 a) (μ.2.2.1 a) f = pm_v G (if kd = 0 then .int (μ.1 a f) else μ.2.2.1 a f) := by
          unfold pm_fv
          rw [← hkd]
          split <;> rfl
        rw [hval]
        exact K'
      · cases hs
    · cases hs
  · rename_i a r
    split at hs
    · rename_i hcond
      obtain ⟨hk16, h2a, hpar, hbd⟩ := hcond
      have hj : (a - 2) / 2 < pm_tx.length := by omega
      split at hs
      · rename_i hi
        subst hi
        cases hs
        intro p l e R s mid args below meth c H locs cells slots ls C1 C2 hE hm h1 h2 h3 h4 h5 h6 h7 h8 h9 h10 h11
        have hown := hm.2.2.2.2.2.1
        rw [hk16] at hown
        obtain ⟨cf, kf, fi, f, cell, q1, q2, q3, q4, q5, q6⟩ := ((pm_E_S hE).1 _ hj).2.2.1
        have K' := K p l e R s mid args below meth c H locs cells slots ls C1 C2 hE hm h1 h2 h3 h4 h5 h6 h7 h8 h9 h10 h11
        rw [List.map_cons, pm_vtv (by omega) (by omega), show (a + 1 - 3) / 2 = (a - 2) / 2 by omega] at K'
        rw [List.map_cons, pm_vtx h2a hpar]
        exact W.getf (pm_E_x hE) hm.1 hown (pm_E_w hE pm_lk9.1 pm_lk9.2) q1 q2 (pm_old hE h9 q3 q6) q4 q5 rfl rfl hd K'
      · split at hs
        · rename_i hi
          subst hi
          cases hs
          intro p l e R s mid args below meth c H locs cells slots ls C1 C2 hE hm h1 h2 h3 h4 h5 h6 h7 h8 h9 h10 h11
          have hown := hm.2.2.2.2.2.1
          rw [hk16] at hown
          obtain ⟨cf, kf, fi, f, cell, q1, q2, q3, q4, q5, q6⟩ := ((pm_E_S hE).1 _ hj).2.1
          rw [List.map_cons, pm_vtx h2a hpar]
          exact W.getf (pm_E_x hE) hm.1 hown (pm_E_w hE pm_lk15.1 pm_lk15.2) q1 q2 (pm_old hE h9 q3 q6) q4 q5 rfl rfl hd (K p l e R s mid args below meth c H locs cells slots ls C1 C2 hE hm h1 h2 h3 h4 h5 h6 h7 h8 h9 h10 h11)
        · cases hs
    · cases hs
  · cases hs
theorem pm_tyX : ∀ ci : Nat, ci < 13 → ∀ (C : String) (T : u_T) (N : Nat), vwCl[ci]? = some (C, T, N) → (∃ ty0 : Nat → FieldType, ∀ k, k < N → parseFieldDescriptor (T k).2.2.1 = some (ty0 k)) ∧ (∀ a, a < N → ∀ b, b < N → a ≠ b → (T a).2.1 ≠ (T b).2.1) := by
  intro ci h C T N hv
  match ci, hv with
  | 0, hv => cases hv; exact ⟨⟨tyX0, tyX0_ok⟩, nmX0⟩
  | 1, hv => cases hv; exact ⟨⟨tyX1, tyX1_ok⟩, nmX1⟩
  | 2, hv => cases hv; exact ⟨⟨tyX2, tyX2_ok⟩, nmX2⟩
  | 3, hv => cases hv; exact ⟨⟨tyX3, tyX3_ok⟩, nmX3⟩
  | 4, hv => cases hv; exact ⟨⟨tyX4, tyX4_ok⟩, nmX4⟩
  | 5, hv => cases hv; exact ⟨⟨tyX5, tyX5_ok⟩, nmX5⟩
  | 6, hv => cases hv; exact ⟨⟨tyX6, tyX6_ok⟩, nmX6⟩
  | 7, hv => cases hv; exact ⟨⟨tyX7, tyX7_ok⟩, nmX7⟩
  | 8, hv => cases hv; exact ⟨⟨tyX8, tyX8_ok⟩, nmX8⟩
  | 9, hv => cases hv; exact ⟨⟨tyX9, tyX9_ok⟩, nmX9⟩
  | 10, hv => cases hv; exact ⟨⟨tyX10, tyX10_ok⟩, nmX10⟩
  | 11, hv => cases hv; exact ⟨⟨tyX11, tyX11_ok⟩, nmX11⟩
  | 12, hv => cases hv; exact ⟨⟨tyX12, tyX12_ok⟩, nmX12⟩
  | n + 13, hv => omega
/-- putfield, after the checks -/
theorem pm_putf {G : pm_G} {X : (Nat → Int32) × Nat} {p : Program} {l : Launch} {e : Env} {R : Room} {s : State} {mid : MethodId} {args : Array Value} {below : List Frame} {meth : Method} {c : Code} {H : Heap} {locs : List Loc} {cells slots : Nat} {Q : State → Prop} {ls : Array Slot} {rest : List Value} {m pc i ci f kd a nf : Nat} {μ : pm_M} {v : Value} (hE : pm_E G X p l s) (hm : pm_mt m s mid meth c) (h9 : pm_H G μ H locs) (hf : pm_fd (pm_k m) i = some (ci, f, kd)) (ht : μ.2.2.2.1[a]? = some (ci, nf)) (hlt : ci < 13) (hfn : f < nf) (hfi : pm_fin ci f = false ∨ (pm_ini m = true ∧ pm_k m = ci)) (hv : (kd = 0 ∧ ∃ x, v = .int x) ∨ (kd = 2 ∧ ∃ x, v = .ref x)) (hd : decode (pm_by m) pc = .ok (.putfield i, 3))
    (kk : ∀ (H1 : Heap) (locs1 : List Loc), va_P (pm_D G) vwCl ((pm_ws G μ).set a (pm_base G + a, .inr (ci, ((List.range nf).map (pm_fv G ci (μ.1 a) (μ.2.2.1 a))).set f v))) H1 → va_S (pm_A G) (pm_h0 G) H1 locs1 → W p l e R s mid args below meth c H1 locs1 cells slots Q (F0 mid (pc + 3) ls rest)) :
    W p l e R s mid args below meth c H locs cells slots Q (F0 mid pc ls (v :: .ref (pm_base G + a) :: rest)) := by
  obtain ⟨C, T, N, hvw, hN, hw, hT1, hcl, hkd, hfin, ty, hty, hor⟩ := pm_fd_ok hf
  obtain ⟨⟨ty0, hty0⟩, hnm⟩ := pm_tyX ci hlt C T N hvw
  have he : (pm_ws G μ)[a]? = some (pm_base G + a, .inr (ci, (List.range nf).map (pm_fv G ci (μ.1 a) (μ.2.2.1 a)))) := by
    rw [pm_ws_at ht, pm_e_obj hlt]
  have hn : narrow ty v = v ∧ fits ty v = true := by
    rcases hor with ⟨rfl, hk⟩ | ⟨⟨n, rfl⟩, hk⟩ | ⟨⟨n, rfl⟩, hk⟩
    · rcases hv with ⟨-, x, rfl⟩ | ⟨h2, -⟩
      · exact ⟨rfl, rfl⟩
      · omega
    · rcases hv with ⟨h2, -⟩ | ⟨-, x, rfl⟩
      · omega
      · exact ⟨rfl, rfl⟩
    · rcases hv with ⟨h2, -⟩ | ⟨-, x, rfl⟩
      · omega
      · exact ⟨rfl, rfl⟩
  have hlen : f < ((List.range nf).map (pm_fv G ci (μ.1 a) (μ.2.2.1 a))).length := by simpa using hfn
  by_cases hb : pm_fin ci f = false
  · exact va_put (pm_E_x hE) hm.1 (pm_uE hE hvw) (fun _ z => z) ty0 hty0 hnm hm.2.2.2.2.2.1 (pm_E_K hE) h9.1 (pm_wsD G μ) h9.2 a he hvw f hN (pm_E_w hE hw.1 hw.2) (fun _ z => by rw [hT1] at z; exact z) (hfin.trans hb) hty hn.1 hn.2 hlen hd (fun H1 locs1 hP1 _ hS1 => kk H1 locs1 hP1 hS1)
  · have hb' : pm_fin ci f = true := by
      cases hq : pm_fin ci f
      · exact absurd hq hb
      · rfl
    obtain ⟨hini, hkc⟩ := hfi.resolve_left hb
    have hname : meth.name = "<init>" := by
      rw [hm.2.2.2.2.2.2]
      exact of_decide_eq_true hini
    exact va_putF (pm_E_x hE) hm.1 (pm_uE hE hvw) (fun _ z => z) ty0 hty0 hnm hm.2.2.2.2.2.1 (pm_E_K hE) h9.1 (pm_wsD G μ) h9.2 a he hvw f hN (pm_E_w hE hw.1 hw.2) (fun _ z => by rw [hT1] at z; exact z) (hfin.trans hb') hname (by rw [hT1, hkc, hcl]) hty hn.1 hn.2 hlen hd (fun H1 locs1 hP1 _ hS1 => kk H1 locs1 hP1 hS1)
set_option maxRecDepth 4000 in
theorem ps_putfield (G : pm_G) (X : (Nat → Int32) × Nat) (i : Nat) : pm_Ok G X (.putfield i) := by
  intro d m pc L S μ Q n pc' L' S' μ' hc hs K
  obtain ⟨k0, hd, hk0, rfl⟩ := pm_dec hc
  obtain rfl : k0 = 3 := hk0
  simp only [pm_step, pm_pf] at hs
  split at hs
  · rename_i x a r
    split at hs
    · rename_i ci f kd c0 nf hf ht
      split at hs
      · rename_i hcond
        obtain ⟨rfl, hlt, hfn, rfl, hfi⟩ := hcond
        cases hs
        intro p l e R s mid args below meth c H locs cells slots ls C1 C2 hE hm h1 h2 h3 h4 h5 h6 h7 h8 h9 h10 h11
        refine pm_putf (v := .int x) hE hm h9 hf ht hlt hfn hfi (Or.inl ⟨rfl, x, rfl⟩) hd (fun H1 locs1 hP1 hS1 => ?_)
        have hfk : pm_fk c0 f = 0 := by
          obtain ⟨C, T, N, hv, hN, hw, hT1, hcl, hkd, hfin, -⟩ := pm_fd_ok hf
          exact hkd.symm
        have hws := pm_ws_set (G := G) (μ := μ) (μ' := (va_up μ.1 a (upd (μ.1 a) f x), μ.2)) (a := a) rfl ht (fun b q hb => by simp only [pm_e, pm_upne hb])
        rw [pm_e_obj hlt, pm_setL (F := pm_fv G c0 (μ.1 a) (μ.2.2.1 a)) (f := f) (v := .int x) (fun j hj => by simp only [pm_fv, pm_upeq, upd, if_neg hj]) (by simp only [pm_fv, hfk, if_true, pm_upeq, upd])] at hws
        try dsimp only at hws
        rw [← hws] at hP1
        exact K p l e R s mid args below meth c H1 locs1 cells slots ls C1 C2 hE hm h1 h2 h3 h4 h5 h6 h7 h8 ⟨hP1, hS1⟩ h10 h11
      · cases hs
    · cases hs
  · rename_i x a r
    split at hs
    · rename_i ci f kd c0 nf hf ht
      split at hs
      · rename_i hcond
        obtain ⟨rfl, hlt, hfn, rfl, hfi⟩ := hcond
        cases hs
        intro p l e R s mid args below meth c H locs cells slots ls C1 C2 hE hm h1 h2 h3 h4 h5 h6 h7 h8 h9 h10 h11
        refine pm_putf (v := .ref (pm_base G + x)) hE hm h9 hf ht hlt hfn hfi (Or.inr ⟨rfl, pm_base G + x, rfl⟩) hd (fun H1 locs1 hP1 hS1 => ?_)
        have hfk : ¬ pm_fk c0 f = 0 := by
          obtain ⟨C, T, N, hv, hN, hw, hT1, hcl, hkd, hfin, -⟩ := pm_fd_ok hf
          omega
        have hws := pm_ws_set (G := G) (μ := μ) (μ' := (μ.1, μ.2.1, va_up μ.2.2.1 a (va_up (μ.2.2.1 a) f (.ref x)), μ.2.2.2)) (a := a) rfl ht (fun b q hb => by simp only [pm_e, pm_upne hb])
        rw [pm_e_obj hlt, pm_setL (F := pm_fv G c0 (μ.1 a) (μ.2.2.1 a)) (f := f) (v := .ref (pm_base G + x)) (fun j hj => by simp only [pm_fv, pm_upeq, pm_upne hj]) (by simp only [pm_fv, if_neg hfk, pm_upeq]; rfl)] at hws
        try dsimp only at hws
        rw [← hws] at hP1
        exact K p l e R s mid args below meth c H1 locs1 cells slots ls C1 C2 hE hm h1 h2 h3 h4 h5 h6 h7 h8 ⟨hP1, hS1⟩ h10 h11
      · cases hs
    · cases hs
  · cases hs
set_option maxRecDepth 4000 in
theorem ps_iaload (G : pm_G) (X : (Nat → Int32) × Nat) : pm_Ok G X (.iaload) := by
  intro d m pc L S μ Q n pc' L' S' μ' hc hs K
  obtain ⟨k0, hd, hk0, rfl⟩ := pm_dec hc
  obtain rfl : k0 = 1 := hk0
  simp only [pm_step, pm_ia] at hs
  split at hs
  · rename_i j a r
    split at hs
    · rename_i c0 len ht
      split at hs
      · rename_i hcond
        obtain ⟨rfl, hin⟩ := hcond
        cases hs
        intro p l e R s mid args below meth c H locs cells slots ls C1 C2 hE hm h1 h2 h3 h4 h5 h6 h7 h8 h9 h10 h11
        exact va_iald (pm_E_x hE) hm.1 (pm_E_K hE) h9.1 a 0 (by rw [pm_ws_at ht]; rfl) rfl (pm_in_of hin) hd (K p l e R s mid args below meth c H locs cells slots ls C1 C2 hE hm h1 h2 h3 h4 h5 h6 h7 h8 h9 h10 h11)
      · cases hs
    · cases hs
  · split at hs
    · rename_i hin
      cases hs
      intro p l e R s mid args below meth c H locs cells slots ls C1 C2 hE hm h1 h2 h3 h4 h5 h6 h7 h8 h9 h10 h11
      exact va_sld (pm_E_x hE) hm.1 (pm_E_scr hE) (by rw [pm_E_sz hE]; exact pm_E_lt hE) (Nat.not_le.mpr (pm_E_lt hE)) h9.2 (pm_in_of hin) hd (K p l e R s mid args below meth c H locs cells slots ls C1 C2 hE hm h1 h2 h3 h4 h5 h6 h7 h8 h9 h10 h11)
    · cases hs
  · cases hs
set_option maxRecDepth 4000 in
theorem ps_laload (G : pm_G) (X : (Nat → Int32) × Nat) : pm_Ok G X (.laload) := by
  intro d m pc L S μ Q n pc' L' S' μ' hc hs K
  obtain ⟨k0, hd, hk0, rfl⟩ := pm_dec hc
  obtain rfl : k0 = 1 := hk0
  simp only [pm_step, pm_la] at hs
  split at hs
  · rename_i j a r
    split at hs
    · rename_i c0 len ht
      split at hs
      · rename_i hcond
        obtain ⟨rfl, hin⟩ := hcond
        cases hs
        intro p l e R s mid args below meth c H locs cells slots ls C1 C2 hE hm h1 h2 h3 h4 h5 h6 h7 h8 h9 h10 h11
        exact va_lald (pm_E_x hE) hm.1 (pm_E_K hE) h9.1 a 1 (by rw [pm_ws_at ht]; rfl) rfl (pm_in_of hin) hd (K p l e R s mid args below meth c H locs cells slots ls C1 C2 hE hm h1 h2 h3 h4 h5 h6 h7 h8 h9 h10 h11)
      · cases hs
    · cases hs
  · cases hs
theorem pm_txg {a : Nat} {t : List Nat} (h : pm_tx[(a - 3) / 2]? = some t) : (a - 3) / 2 < pm_tx.length ∧ (pm_tx.map List.length).getD ((a - 3) / 2) 0 = t.length ∧ (pm_tx.map (fun t => t.map nI)).getD ((a - 3) / 2) [] = t.map nI := by
  have hl := (List.getElem?_eq_some_iff.mp h).1
  refine ⟨hl, ?_, ?_⟩ <;> simp [List.getD, h]
set_option maxRecDepth 4000 in
theorem ps_baload (G : pm_G) (X : (Nat → Int32) × Nat) : pm_Ok G X (.baload) := by
  intro d m pc L S μ Q n pc' L' S' μ' hc hs K
  obtain ⟨k0, hd, hk0, rfl⟩ := pm_dec hc
  obtain rfl : k0 = 1 := hk0
  simp only [pm_step, pm_ba] at hs
  split at hs
  · rename_i j a r
    split at hs
    · rename_i c0 len ht
      split at hs
      · rename_i hcond
        obtain ⟨rfl, hin⟩ := hcond
        cases hs
        intro p l e R s mid args below meth c H locs cells slots ls C1 C2 hE hm h1 h2 h3 h4 h5 h6 h7 h8 h9 h10 h11
        exact va_zald (pm_E_x hE) hm.1 (pm_E_K hE) h9.1 a 2 (by rw [pm_ws_at ht]; rfl) rfl (pm_in_of hin) hd (K p l e R s mid args below meth c H locs cells slots ls C1 C2 hE hm h1 h2 h3 h4 h5 h6 h7 h8 h9 h10 h11)
      · cases hs
    · cases hs
  · rename_i j a r
    split at hs
    · rename_i t ht
      split at hs
      · rename_i hcond
        obtain ⟨h3a, hpar, hin⟩ := hcond
        cases hs
        intro p l e R s mid args below meth c H locs cells slots ls C1 C2 hE hm h1 h2 h3 h4 h5 h6 h7 h8 h9 h10 h11
        obtain ⟨g1, g2, g3⟩ := pm_txg ht
        obtain ⟨cell, q1, q2, q3, q4, q5, q6, q7⟩ := ((pm_E_S hE).1 _ g1).2.2.2
        rw [g2] at q4 q5 q6
        have hz := vp_in_iff.mpr hin
        have hz1 : j.toNatClampNeg < t.length := Nat.lt_of_not_le (fun z => hz (Or.inr z))
        have q6' := q6 j.toNatClampNeg hz1
        rw [g3] at q6'
        dsimp only at q6'
        have hval : ((t.map nI).getD j.toNatClampNeg 0) = nI (t.getD j.toNatClampNeg 0) := by simp [List.getD, hz1]
        rw [hval] at q6'
        rw [List.map_cons, List.map_cons, pm_vtv h3a hpar]
        exact W.bald (pm_E_x hE) hm.1 (pm_old hE h9 q1 q7) q2 q3 (fun z => hz (z.imp id (fun w => Nat.le_trans q4 w))) q6' rfl rfl hd (K p l e R s mid args below meth c H locs cells slots ls C1 C2 hE hm h1 h2 h3 h4 h5 h6 h7 h8 h9 h10 h11)
      · cases hs
    · cases hs
  · cases hs
set_option maxRecDepth 4000 in
theorem ps_aaload (G : pm_G) (X : (Nat → Int32) × Nat) : pm_Ok G X (.aaload) := by
  intro d m pc L S μ Q n pc' L' S' μ' hc hs K
  obtain ⟨k0, hd, hk0, rfl⟩ := pm_dec hc
  obtain rfl : k0 = 1 := hk0
  simp only [pm_step, pm_aa] at hs
  split at hs
  · rename_i j a r
    split at hs
    · rename_i c0 len ht
      split at hs
      · rename_i hcond
        obtain ⟨rfl, hin⟩ := hcond
        split at hs
        · rename_i b hb
          cases hs
          intro p l e R s mid args below meth c H locs cells slots ls C1 C2 hE hm h1 h2 h3 h4 h5 h6 h7 h8 h9 h10 h11
          have hcell : H[pm_base G + a]? = some (vp_cell (pm_cA G) (len, .inr (.inr (.inr (.inr (fun j => pm_rf G (μ.2.2.1 a j))))))) := h9.1 a (pm_base G + a, .inl (pm_cA G, len, .inr (.inr (.inr (.inr (fun j => pm_rf G (μ.2.2.1 a j))))))) (by rw [pm_ws_at ht]; rfl)
          rw [vp_cell_q] at hcell
          have hz := pm_in_of hin
          have hz1 : j.toNatClampNeg < len := Nat.lt_of_not_le (fun z => hz (Or.inr z))
          refine W.aald (v := .ref (pm_base G + b)) (pm_E_x hE) hm.1 hcell (((pm_E_K hE).2 3 _ rfl).1 len _) rfl (fun z => by cases z) (by rw [arrV_size]; exact hz) (by rw [arrV_read _ _ hz1, hb]; rfl) rfl rfl hd (K p l e R s mid args below meth c H locs cells slots ls C1 C2 hE hm h1 h2 h3 h4 h5 h6 h7 h8 h9 h10 h11)
        · cases hs
      · cases hs
    · cases hs
  · cases hs
set_option maxRecDepth 4000 in
theorem ps_iastore (G : pm_G) (X : (Nat → Int32) × Nat) : pm_Ok G X (.iastore) := by
  intro d m pc L S μ Q n pc' L' S' μ' hc hs K
  obtain ⟨k0, hd, hk0, rfl⟩ := pm_dec hc
  obtain rfl : k0 = 1 := hk0
  simp only [pm_step, pm_ias] at hs
  split at hs
  · rename_i x j a r
    split at hs
    · rename_i c0 len ht
      split at hs
      · rename_i hcond
        obtain ⟨rfl, hin⟩ := hcond
        cases hs
        intro p l e R s mid args below meth c H locs cells slots ls C1 C2 hE hm h1 h2 h3 h4 h5 h6 h7 h8 h9 h10 h11
        refine va_iast (pm_E_x hE) hm.1 (pm_E_K hE) h9.1 (pm_wsD G μ) h9.2 a 0 (by rw [pm_ws_at ht]; rfl) rfl (pm_in_of hin) hd (fun H1 locs1 hP1 _ hS1 => ?_)
        have hws := pm_ws_set (G := G) (μ := μ) (μ' := (va_up μ.1 a (upd (μ.1 a) j.toNatClampNeg x), μ.2)) (a := a) rfl ht (fun b q hb => by simp only [pm_e, pm_upne hb])
        simp only [pm_e, pm_upeq, if_true] at hws
        try dsimp only at hws
        rw [← hws] at hP1
        exact K p l e R s mid args below meth c H1 locs1 cells slots ls C1 C2 hE hm h1 h2 h3 h4 h5 h6 h7 h8 ⟨hP1, hS1⟩ h10 h11
      · cases hs
    · cases hs
  · cases hs
set_option maxRecDepth 4000 in
theorem ps_bastore (G : pm_G) (X : (Nat → Int32) × Nat) : pm_Ok G X (.bastore) := by
  intro d m pc L S μ Q n pc' L' S' μ' hc hs K
  obtain ⟨k0, hd, hk0, rfl⟩ := pm_dec hc
  obtain rfl : k0 = 1 := hk0
  simp only [pm_step, pm_ias] at hs
  split at hs
  · rename_i x j a r
    split at hs
    · rename_i c0 len ht
      split at hs
      · rename_i hcond
        obtain ⟨rfl, hin⟩ := hcond
        cases hs
        intro p l e R s mid args below meth c H locs cells slots ls C1 C2 hE hm h1 h2 h3 h4 h5 h6 h7 h8 h9 h10 h11
        refine va_zast (pm_E_x hE) hm.1 (pm_E_K hE) h9.1 (pm_wsD G μ) h9.2 a 2 (by rw [pm_ws_at ht]; rfl) rfl (pm_in_of hin) hd (fun H1 locs1 hP1 _ hS1 => ?_)
        have hws := pm_ws_set (G := G) (μ := μ) (μ' := (va_up μ.1 a (upd (μ.1 a) j.toNatClampNeg (vp_nar .boolean x)), μ.2)) (a := a) rfl ht (fun b q hb => by simp only [pm_e, pm_upne hb])
        simp only [pm_e, pm_upeq, if_true, show ¬ (22 = 20) by decide, show ¬ (22 = 21) by decide, if_false] at hws
        try dsimp only at hws
        rw [← hws] at hP1
        exact K p l e R s mid args below meth c H1 locs1 cells slots ls C1 C2 hE hm h1 h2 h3 h4 h5 h6 h7 h8 ⟨hP1, hS1⟩ h10 h11
      · cases hs
    · cases hs
  · cases hs
set_option maxRecDepth 4000 in
theorem ps_lastore (G : pm_G) (X : (Nat → Int32) × Nat) : pm_Ok G X (.lastore) := by
  intro d m pc L S μ Q n pc' L' S' μ' hc hs K
  obtain ⟨k0, hd, hk0, rfl⟩ := pm_dec hc
  obtain rfl : k0 = 1 := hk0
  simp only [pm_step, pm_las] at hs
  split at hs
  · rename_i x j a r
    split at hs
    · rename_i c0 len ht
      split at hs
      · rename_i hcond
        obtain ⟨rfl, hin⟩ := hcond
        cases hs
        intro p l e R s mid args below meth c H locs cells slots ls C1 C2 hE hm h1 h2 h3 h4 h5 h6 h7 h8 h9 h10 h11
        refine va_last (pm_E_x hE) hm.1 (pm_E_K hE) h9.1 (pm_wsD G μ) h9.2 a 1 (by rw [pm_ws_at ht]; rfl) rfl (pm_in_of hin) hd (fun H1 locs1 hP1 _ hS1 => ?_)
        have hws := pm_ws_set (G := G) (μ := μ) (μ' := (μ.1, va_up μ.2.1 a (vp_updL (μ.2.1 a) j.toNatClampNeg x), μ.2.2)) (a := a) rfl ht (fun b q hb => by simp only [pm_e, pm_upne hb])
        simp only [pm_e, pm_upeq, if_true, show ¬ (21 = 20) by decide, if_false] at hws
        try dsimp only at hws
        rw [← hws] at hP1
        exact K p l e R s mid args below meth c H1 locs1 cells slots ls C1 C2 hE hm h1 h2 h3 h4 h5 h6 h7 h8 ⟨hP1, hS1⟩ h10 h11
      · cases hs
    · cases hs
  · cases hs
set_option maxRecDepth 4000 in
theorem ps_arraylength (G : pm_G) (X : (Nat → Int32) × Nat) : pm_Ok G X (.arraylength) := by
  intro d m pc L S μ Q n pc' L' S' μ' hc hs K
  obtain ⟨k0, hd, hk0, rfl⟩ := pm_dec hc
  obtain rfl : k0 = 1 := hk0
  simp only [pm_step, pm_al] at hs
  split at hs
  · rename_i a r
    split at hs
    · rename_i c0 len ht
      split at hs
      · rename_i hcond
        cases hs
        intro p l e R s mid args below meth c H locs cells slots ls C1 C2 hE hm h1 h2 h3 h4 h5 h6 h7 h8 h9 h10 h11
        have key : ∀ (t0 : Nat) (cA : ClassId) (x : vp_A) (ty : FieldType), pm_e G μ a (c0, len) = .inl (cA, x) → (pm_tys G)[t0]? = some (cA, ty) → x.1 = len → W p l e R s mid args below meth c H locs cells slots (pm_Z G below s C1 C2 Q) (F0 mid pc ls ((Value.ref a :: r).map (pm_v G))) := fun t0 cA x ty e1 e2 e3 =>
          va_alen (pm_E_x hE) hm.1 (pm_E_K hE) h9.1 a t0 (by rw [pm_ws_at ht, e1]) e2 (by rw [e3]; rfl) hd (K p l e R s mid args below meth c H locs cells slots ls C1 C2 hE hm h1 h2 h3 h4 h5 h6 h7 h8 h9 h10 h11)
        rcases (show c0 = 20 ∨ c0 = 21 ∨ c0 = 22 ∨ c0 = 23 by omega) with rfl | rfl | rfl | rfl
        · exact key 0 _ _ _ rfl rfl rfl
        · exact key 1 _ _ _ rfl rfl rfl
        · exact key 2 _ _ _ rfl rfl rfl
        · exact key 3 _ _ _ rfl rfl rfl
      · cases hs
    · cases hs
  · cases hs
    intro p l e R s mid args below meth c H locs cells slots ls C1 C2 hE hm h1 h2 h3 h4 h5 h6 h7 h8 h9 h10 h11
    exact va_slen (pm_E_x hE) hm.1 (pm_E_scr hE) (by rw [pm_E_sz hE]; exact pm_E_lt hE) (Nat.not_le.mpr (pm_E_lt hE)) h9.2 hd (K p l e R s mid args below meth c H locs cells slots ls C1 C2 hE hm h1 h2 h3 h4 h5 h6 h7 h8 h9 h10 h11)
  · rename_i a r hne
    split at hs
    · rename_i t ht
      split at hs
      · rename_i hcond
        obtain ⟨h3a, hpar⟩ := hcond
        cases hs
        intro p l e R s mid args below meth c H locs cells slots ls C1 C2 hE hm h1 h2 h3 h4 h5 h6 h7 h8 h9 h10 h11
        obtain ⟨g1, g2, g3⟩ := pm_txg ht
        obtain ⟨cell, q1, q2, q3, q4, q5, q6, q7⟩ := ((pm_E_S hE).1 _ g1).2.2.2
        rw [g2] at q5
        rw [List.map_cons, pm_vtv h3a hpar]
        exact W.alen (pm_E_x hE) hm.1 (pm_old hE h9 q1 q7) q2 q5 rfl rfl hd (K p l e R s mid args below meth c H locs cells slots ls C1 C2 hE hm h1 h2 h3 h4 h5 h6 h7 h8 h9 h10 h11)
      · cases hs
    · cases hs
  · cases hs
theorem pm_ct_ok {k i : Nat} {v : Value} (h : pm_ct k i = some v) : (∀ x, v = .int x → Cond.constant (pm_cl k) i x ∈ lw_tbl ∧ goodWord (Cond.constant (pm_cl k) i x) = true) ∧ (∀ x, v = .long x → Cond.constantLong (pm_cl k) i x ∈ lw_tbl ∧ goodWord (Cond.constantLong (pm_cl k) i x) = true) ∧ ∀ x, v = .retAddr x → 2 ≤ x ∧ x % 2 = 0 ∧ x < 2 + 2 * pm_tx.length := by
  have h1 := pm_look h
  unfold pm_ctl at h1
  obtain ⟨q, hq, he⟩ := List.mem_map.mp h1
  have h2 := List.all_eq_true.mp pm_cPs q hq
  obtain ⟨⟨k', i'⟩, v', hh⟩ := q
  cases he
  refine ⟨fun x e => ?_, fun x e => ?_, fun x e => ?_⟩ <;> subst e
  · exact pm_wd_in h2
  · exact pm_wd_in h2
  · exact of_decide_eq_true h2
theorem va_ldcSW {p : Program} {l : Launch} {e : Env} {R : Room} {s : State} {m : MethodId} {args : Array Value} {below : List Frame} {meth : Method} {c : Code} {H : Heap} {locs : List Loc} {cells slots : Nat} {Q : State → Prop} {cc : ByteArray} {pc : Nat} {ls : Array Slot} {rest : List Value} (hexec : p.tables.exec = Jvm.exec) (hb : c.code = cc) {own tx : String} {index q : Nat} (hown : s.vm.findClass own = some m.cls) (hZ : vk_R own index tx q s) (hdg : decode cc pc = .ok (.ldc_w index, 3))
    (k : W p l e R s m args below meth c H locs cells slots Q (F0 m (pc + 3) ls (.ref q :: rest))) : W p l e R s m args below meth c H locs cells slots Q (F0 m pc ls rest) := by
  intro T hT X
  obtain ⟨t, a1, b1⟩ := k T hT X
  exact ⟨t, X.ldcStringW hexec hown (text := tx) (a := q) hZ.1 hZ.2 (g := F0 m pc ls rest) rfl (by rw [hb]; exact hdg) t a1, b1⟩
set_option maxRecDepth 4000 in
theorem ps_ldc (G : pm_G) (X : (Nat → Int32) × Nat) (i : Nat) : pm_Ok G X (.ldc i) := by
  intro d m pc L S μ Q n pc' L' S' μ' hc hs K
  obtain ⟨k0, hd, hk0, rfl⟩ := pm_dec hc
  obtain rfl : k0 = 2 := hk0
  simp only [pm_step, pm_lc] at hs
  split at hs
  · rename_i x hct
    cases hs
    intro p l e R s mid args below meth c H locs cells slots ls C1 C2 hE hm h1 h2 h3 h4 h5 h6 h7 h8 h9 h10 h11
    have hw := (pm_ct_ok hct).1 x rfl
    exact lv_ldc (pm_E_x hE) hm.1 hm.2.2.2.2.2.1 (pm_E_w hE hw.1 hw.2) hd (K p l e R s mid args below meth c H locs cells slots ls C1 C2 hE hm h1 h2 h3 h4 h5 h6 h7 h8 h9 h10 h11)
  · rename_i x hct
    cases hs
    intro p l e R s mid args below meth c H locs cells slots ls C1 C2 hE hm h1 h2 h3 h4 h5 h6 h7 h8 h9 h10 h11
    obtain ⟨g1, g2, g3⟩ := (pm_ct_ok hct).2.2 x rfl
    obtain ⟨tx, hR⟩ := hE.2.2.2.2.2.2.2.2.2.1 _ _ _ hct
    have K' := K p l e R s mid args below meth c H locs cells slots ls C1 C2 hE hm h1 h2 h3 h4 h5 h6 h7 h8 h9 h10 h11
    rw [List.map_cons, pm_vtx g1 g2] at K'
    exact va_ldcS (pm_E_x hE) hm.1 hm.2.2.2.2.2.1 hR hd K'
  · cases hs
set_option maxRecDepth 4000 in
theorem ps_ldc_w (G : pm_G) (X : (Nat → Int32) × Nat) (i : Nat) : pm_Ok G X (.ldc_w i) := by
  intro d m pc L S μ Q n pc' L' S' μ' hc hs K
  obtain ⟨k0, hd, hk0, rfl⟩ := pm_dec hc
  obtain rfl : k0 = 3 := hk0
  simp only [pm_step, pm_lc] at hs
  split at hs
  · rename_i x hct
    cases hs
    intro p l e R s mid args below meth c H locs cells slots ls C1 C2 hE hm h1 h2 h3 h4 h5 h6 h7 h8 h9 h10 h11
    have hw := (pm_ct_ok hct).1 x rfl
    exact lv_ldcw (pm_E_x hE) hm.1 hm.2.2.2.2.2.1 (pm_E_w hE hw.1 hw.2) hd (K p l e R s mid args below meth c H locs cells slots ls C1 C2 hE hm h1 h2 h3 h4 h5 h6 h7 h8 h9 h10 h11)
  · rename_i x hct
    cases hs
    intro p l e R s mid args below meth c H locs cells slots ls C1 C2 hE hm h1 h2 h3 h4 h5 h6 h7 h8 h9 h10 h11
    obtain ⟨g1, g2, g3⟩ := (pm_ct_ok hct).2.2 x rfl
    obtain ⟨tx, hR⟩ := hE.2.2.2.2.2.2.2.2.2.1 _ _ _ hct
    have K' := K p l e R s mid args below meth c H locs cells slots ls C1 C2 hE hm h1 h2 h3 h4 h5 h6 h7 h8 h9 h10 h11
    rw [List.map_cons, pm_vtx g1 g2] at K'
    exact va_ldcSW (pm_E_x hE) hm.1 hm.2.2.2.2.2.1 hR hd K'
  · cases hs
set_option maxRecDepth 4000 in
theorem ps_ldc2_w (G : pm_G) (X : (Nat → Int32) × Nat) (i : Nat) : pm_Ok G X (.ldc2_w i) := by
  intro d m pc L S μ Q n pc' L' S' μ' hc hs K
  obtain ⟨k0, hd, hk0, rfl⟩ := pm_dec hc
  obtain rfl : k0 = 3 := hk0
  simp only [pm_step, pm_lc2] at hs
  split at hs
  · rename_i x hct
    cases hs
    intro p l e R s mid args below meth c H locs cells slots ls C1 C2 hE hm h1 h2 h3 h4 h5 h6 h7 h8 h9 h10 h11
    have hw := (pm_ct_ok hct).2.1 x rfl
    exact lv_ldc2 (pm_E_x hE) hm.1 hm.2.2.2.2.2.1 (pm_E_w hE hw.1 hw.2) hd (K p l e R s mid args below meth c H locs cells slots ls C1 C2 hE hm h1 h2 h3 h4 h5 h6 h7 h8 h9 h10 h11)
  · cases hs
set_option maxRecDepth 4000 in
theorem ps_getstatic (G : pm_G) (X : (Nat → Int32) × Nat) (i : Nat) : pm_Ok G X (.getstatic i) := by
  intro d m pc L S μ Q n pc' L' S' μ' hc hs K
  obtain ⟨k0, hd, hk0, rfl⟩ := pm_dec hc
  obtain rfl : k0 = 3 := hk0
  simp only [pm_step, pm_gs] at hs
  split at hs
  · rename_i hcond
    obtain ⟨hk16, rfl⟩ := hcond
    cases hs
    intro p l e R s mid args below meth c H locs cells slots ls C1 C2 hE hm h1 h2 h3 h4 h5 h6 h7 h8 h9 h10 h11
    have hown := hm.2.2.2.2.2.1
    rw [hk16] at hown
    obtain ⟨cf, kf, fi, f, a, cell, q1, q2, q3, q4, q5, q6, q7, q8⟩ := hE.2.2.2.2.2.2.2.2.2.2.2.1
    exact W.gets (pm_E_x hE) hm.1 hown (pm_E_w hE pm_lk38.1 pm_lk38.2) q1 q2 q3 q4 (pm_old hE h9 q5 q8) (fun e => by rw [e] at q6; cases q6) q7 rfl hd (K p l e R s mid args below meth c H locs cells slots ls C1 C2 hE hm h1 h2 h3 h4 h5 h6 h7 h8 h9 h10 h11)
  · split at hs
    · rename_i hcond
      obtain ⟨hk16, rfl⟩ := hcond
      cases hs
      intro p l e R s mid args below meth c H locs cells slots ls C1 C2 hE hm h1 h2 h3 h4 h5 h6 h7 h8 h9 h10 h11
      have hown := hm.2.2.2.2.2.1
      rw [hk16] at hown
      obtain ⟨cf, kf, fi, f, a, cell, q1, q2, q3, q4, q5, q6, q7, q8⟩ := hE.2.2.2.2.2.2.2.2.2.2.2.2.1
      exact W.gets (pm_E_x hE) hm.1 hown (pm_E_w hE pm_lk1053.1 pm_lk1053.2) q1 q2 q3 q4 (pm_old hE h9 q5 q8) (fun e => by rw [e] at q6; cases q6) q7 rfl hd (K p l e R s mid args below meth c H locs cells slots ls C1 C2 hE hm h1 h2 h3 h4 h5 h6 h7 h8 h9 h10 h11)
    · cases hs
