/-! THE RULES HOLD ON THE JVM: calls and catches, returns, throws -/
theorem pm_tight {p : Program} {l : Launch} {e : Env} {R : Room} {s : State} {m : MethodId} {args : Array Value} {below : List Frame} {meth : Method} {c : Code} {T : State} {locs : List Loc} {cells slots : Nat} (X : Stand p l e R s m args below meth c T locs cells slots) : Stand p l e R s m args below meth c T locs (T.heap.size - s.heap.size) slots :=
  { X with same := ⟨X.same.1, X.same.2.1, by have h1 := X.same.2.1; show T.heap.size ≤ _; have h2 : s.heap.size ≤ T.heap.size := h1; omega, X.same.2.2.2⟩ }
theorem pm_stoJ {G : pm_G} {ls' : Array Slot} {n i : Nat} {L : List Value} {w : Value} (hF : (pm_vF G).isRef = true) (h : lv_has ls' n ((i, w) :: (pm_lv G 0 L).filter (fun q => !(q.1 == i) && !(q.1 + 1 == i && q.2.category == 2)))) (hi : i < L.length) : lv_has ls' n (pm_lv G 0 (pm_st L i pm_jk)) := by
  refine ⟨h.1, h.2.1, fun q hq => ?_⟩
  obtain ⟨j, u, h1, h2, h3, h4⟩ := pm_lv_dbl hq
  obtain ⟨q1, q2⟩ := q
  simp only [Nat.zero_add] at h2
  subst h2
  subst h3
  unfold pm_st at h1
  by_cases e : i = q1
  · subst e
    rw [List.getElem?_set_self (by rw [pm_clr_len]; exact hi)] at h1
    cases h1
    cases h4
  · rw [List.getElem?_set_ne e] at h1
    obtain ⟨g1, g2⟩ := pm_clr_get h1 h4
    refine h.2.2 _ (List.mem_cons_of_mem _ (List.mem_filter.mpr ⟨by simpa using pm_lv_in (G := G) (k := 0) g1 h4, ?_⟩))
    have e' : ¬ q1 = i := fun z => e z.symm
    simp only [Bool.and_eq_true, Bool.not_eq_true', beq_eq_false_iff_ne, ne_eq, Bool.and_eq_false_iff, pm_v_cat hF]
    refine ⟨e', ?_⟩
    by_cases z : q1 + 1 = i
    · exact Or.inr (fun z2 => g2 ⟨z, z2⟩)
    · exact Or.inl z
theorem pm_find_spec {pc t h : Nat} (ht : t ≠ 0) : ∀ {hh : List (Nat × Nat × Nat × Nat)}, pm_find hh pc t = some h → ∃ (pre suf : List (Nat × Nat × Nat × Nat)) (a b ct : Nat), hh = pre ++ (a, b, h, ct) :: suf ∧ a ≤ pc ∧ pc < b ∧ pm_xt ct = t ∧ ∀ z ∈ pre, ¬ (z.1 ≤ pc ∧ pc < z.2.1) ∨ (pm_xt z.2.2.2 ≠ 0 ∧ pm_xt z.2.2.2 ≠ t)
  | [], hf => by simp [pm_find] at hf
  | (a, b, h', ct) :: r, hf => by
    unfold pm_find at hf
    split at hf
    · rename_i hc
      cases hf
      exact ⟨[], r, a, b, ct, rfl, hc.1, hc.2.1, hc.2.2, fun z hz => nomatch hz⟩
    · rename_i hc
      split at hf
      · cases hf
      · rename_i hc2
        obtain ⟨pre, suf, a', b', ct', e1, e2, e3, e4, e5⟩ := pm_find_spec ht hf
        refine ⟨(a, b, h', ct) :: pre, suf, a', b', ct', by rw [e1]; rfl, e2, e3, e4, fun z hz => ?_⟩
        rcases List.mem_cons.mp hz with rfl | hz
        · by_cases hcov : a ≤ pc ∧ pc < b
          · exact Or.inr ⟨fun e => hc2 ⟨hcov, e⟩, fun e => hc ⟨hcov.1, hcov.2, e⟩⟩
          · exact Or.inl hcov
        · exact e5 z hz
theorem pm_xlk : ∀ ct : Nat, pm_xt ct ≠ 0 → (Cond.classLink "PassagePapersLaw" ct (pm_xn (pm_xt ct)) ∈ lw_tbl ∧ goodWord (Cond.classLink "PassagePapersLaw" ct (pm_xn (pm_xt ct))) = true) ∧ ct ≠ 0 ∧ (pm_xt ct = 1 ∨ pm_xt ct = 2) := by
  intro ct h
  have w1 : Cond.classLink "PassagePapersLaw" 31 "java/util/NoSuchElementException" ∈ lw_tbl ∧ goodWord (Cond.classLink "PassagePapersLaw" 31 "java/util/NoSuchElementException") = true := by decide +kernel
  have w2 : Cond.classLink "PassagePapersLaw" 13 "java/lang/IllegalArgumentException" ∈ lw_tbl ∧ goodWord (Cond.classLink "PassagePapersLaw" 13 "java/lang/IllegalArgumentException") = true := by decide +kernel
  unfold pm_xt at h ⊢
  by_cases e1 : ct = 31
  · subst e1
    exact ⟨w1, by decide, Or.inl rfl⟩
  · rw [if_neg e1] at h ⊢
    by_cases e2 : ct = 13
    · subst e2
      exact ⟨w2, by decide, Or.inr rfl⟩
    · rw [if_neg e2] at h
      exact absurd rfl h
theorem pm_xcast : ∀ t : Nat, t = 1 ∨ t = 2 → Cond.castable (pm_xn t) (pm_xn t) ∈ lw_tbl := by
  have w1 : Cond.castable "java/util/NoSuchElementException" "java/util/NoSuchElementException" ∈ lw_tbl := by decide +kernel
  have w2 : Cond.castable "java/lang/IllegalArgumentException" "java/lang/IllegalArgumentException" ∈ lw_tbl := by decide +kernel
  rintro t (rfl | rfl)
  · exact w1
  · exact w2
set_option maxRecDepth 8000 in
set_option maxHeartbeats 4000000 in
theorem pc_call (G : pm_G) (X : (Nat → Int32) × Nat) (d m pc : Nat) (L S : List Value) (μ : pm_M) (Q Q1 : pm_Q) (ins : Instr) (n i kd m' na : Nat) (nest : Bool) (as S' : List Value) (hc : pm_code m pc = some (ins, n)) (hiv : pm_iv3 ins = some (i, kd)) (htg : pm_tg (pm_k m) i = some (m', na, kd, nest)) (hS : S = as.reverse ++ S') (hlen : as.length = na + (if kd = 0 then 0 else 1)) (hrc : pm_rc m' μ.2.2.2.1 kd as = true) (hS' : S'.length ≤ 20) (hdb : as.all (fun v => !pm_dbl v) = true) (hel : (pm_ent as).length ≤ pm_ml m') (Kc : pm_B G X d m' 0 (pm_en m' as) [] μ Q1)
    (Kr : ∀ (v : Option Value) (μ1 : pm_M), Q1 (.inl v) μ1 → pm_B G X (d + 1) m n L (v.toList ++ S') μ1 Q)
    (Kt : ∀ (t : Nat) (μ1 : pm_M), Q1 (.inr t) μ1 → (((pm_hh m).all (fun h => !(decide (h.1 ≤ pc) && decide (pc < h.2.1))) = true ∧ Q (.inr t) μ1) ∨ ∃ (h i9 n9 : Nat) (ins9 : Instr), t ≠ 0 ∧ pm_k m = 13 ∧ pm_find (pm_hh m) pc t = some h ∧ pm_code m h = some (ins9, n9) ∧ pm_asn ins9 = some i9 ∧ i9 < L.length ∧ pm_B G X (d + 1) m n9 (pm_st L i9 pm_jk) [] μ1 Q)) : pm_B G X (d + 1) m pc L S μ Q := by
  subst hS
  obtain ⟨k0, hd, hk0, rfl⟩ := pm_dec hc
  have hk3 : k0 = 3 := by
    unfold pm_iv3 at hiv
    split at hiv <;> first | exact hk0 | (cases hiv)
  subst hk3
  intro p l e R s mid args below meth c H locs cells slots ls C1 C2 hE hm h1 h2 h3 h4 h5 h6 h7 h8 h9 h10 h11
  intro T hT Y
  have hHT : pm_H G μ T.heap locs := by rw [hT]; exact h9
  obtain ⟨mk, methk, ck, vm₁, hfnd, Y₁, st⟩ := pm_invoke (ls := ls) (S' := S') Y hE hm hiv hd htg hlen hrc hHT
  obtain ⟨f0, f1, f2, f3, f4, f5, f6, f7, f8⟩ := id hfnd
  obtain ⟨hm1, -⟩ := pm_tg_ok htg
  obtain ⟨-, -, hpl, hml, hcl⟩ := pm_m_ok hm1.1 hm1.2
  have hF := pm_E_F hE
  obtain ⟨g', hg'⟩ : ∃ g', g' = F0 mid pc ls (S'.map (pm_v G)) := ⟨_, rfl⟩
  have hgm : g'.method = mid := by rw [hg']
  have hsize : g'.locals.size = c.maxLocals := by rw [hg']; exact h8.1.trans hm.2.1.symm
  have hdg : decode c.code g'.pc = .ok (ins, 3) := by rw [hg', hm.1]; exact hd
  have hal := Y₁.warmed.alike
  have hmk1 : (T.setVm vm₁).vm.method? mk = some methk := by rw [hal.method?]; exact f1
  have hn1 : (T.setVm vm₁).methodNamed? (pm_y m') = some mk := Y₁.named f0
  have hplain : (T.setVm vm₁).plainMethod mk := State.plainMethod.of_named hpl hn1 hmk1
  have hcat := pm_vcat_le G S'
  obtain ⟨a, ha⟩ : ∃ a, a = (as.map (pm_v G)).toArray := ⟨_, rfl⟩
  obtain ⟨Yc, hen⟩ := Y₁.into (g := g') hgm hsize hdg a (R' := { frames := 8 + d, cells := pm_cap μ, slots := pm_cas μ, locals := 512 + 128 * d }) hmk1 f2 f6 hplain (by show 8 + d + 1 ≤ R.frames; omega) (by rw [hg', f4]; show 2 * 0 + ((S'.map (pm_v G)).map fun v => v.category).sum + (pm_ml m' + 11) + (512 + 128 * d) ≤ R.locals; omega) (by show cells + pm_cap μ ≤ R.cells; omega) (by show slots + pm_cas μ ≤ R.slots; omega)
  rw [← hg', ← ha] at st
  have hl0 := lv_entry (as.map (pm_v G)) (n := pm_ml m') (by rw [pm_ent_len hF hdb]; exact hel)
  have hl1 := (show lv_has _ (pm_ml m') (pm_lv G 0 (pm_en m' as)) from ⟨hl0.1, hl0.2.1, fun q hq => hl0.2.2 q (pm_ent_mem hF hdb hq)⟩)
  have hentry : entryFrame mk a ck.maxLocals = F0 mk 0 ((lg_sl (as.map (pm_v G)) ++ List.replicate (pm_ml m' - (lg_sl (as.map (pm_v G))).length) Slot.unset).toArray) [] := by rw [ha, f4]; exact lg_entry_eq mk (as.map (pm_v G)) (pm_ml m')
  rw [hentry] at Yc hen
  generalize (lg_sl (as.map (pm_v G)) ++ List.replicate (pm_ml m' - (lg_sl (as.map (pm_v G))).length) Slot.unset).toArray = ls0 at hl1 Yc hen
  have hs'h : ((T.setVm vm₁).calling g' mk a).heap = H := by
    show T.heap = H
    exact hT
  have hT1 : (((T.setVm vm₁).setTop g').pushFrame (.java (F0 mk 0 ls0 []))).heap = H := by
    show T.heap = H
    exact hT
  have hH0 : pm_H G μ H [] := ⟨h9.1, h9.2.1, h9.2.2.1, fun _ h => nomatch h⟩
  have hs'E : pm_E G X p l ((T.setVm vm₁).calling g' mk a) := pm_E_moved (U := (T.setVm vm₁).calling g' mk a) Y₁.warmed hE
  have hs'm : pm_mt m' ((T.setVm vm₁).calling g' mk a) mk methk ck := ⟨f3, f4, f5, f6, f7, by
    rw [hcl]
    show (T.setVm vm₁).vm.findClass _ = _
    rw [hal.findClass]
    exact findClass_of_methodNamed f0, (name_of_methodNamed f0 f1).1⟩
  obtain ⟨t, st1, r, μ1, o, L1, k1, n1, hrun, hend, ho, hW1, hsame, hH1, hsz1, hc1, hc2, hQ1⟩ := Kc p l e { frames := 8 + d, cells := pm_cap μ, slots := pm_cas μ, locals := 512 + 128 * d } ((T.setVm vm₁).calling g' mk a) mk a (.java g' :: below) methk ck H [] 0 0 ls0 (pm_cap μ) (pm_cas μ) hs'E hs'm (Nat.le_refl _) (Nat.le_refl _) (Nat.le_refl _) (Nat.le_refl _) (by omega) (by omega) (pm_en_len hel) hl1 hH0 (fun z => by rw [hs'h]; have := h10 z; have := Y.heapSize; rw [hT] at this; omega) (by rw [hs'h]; exact hH0.2) _ hT1 Yc
  have stA : Steps p.tables e below (T.setTop (F0 mid pc ls ((as.reverse ++ S').map (pm_v G)))) t := st t (fun acts => by rw [hen acts]; exact pm_stw st1)
  have htsz : t.heap.size ≤ H.size + k1 := by
    have := hsame.2.2.1
    rw [hs'h] at this
    exact this
  cases r with
  | inl v =>
    have ho' : o = .returned (v.map (pm_v G)) := ho
    subst ho'
    obtain ⟨T', X', hW2, hsm2, ht⟩ := Y₁.outOf (g := g') hgm hdg hend hW1 hsame
    have hth : T'.heap = t.heap := by rw [ht]; rfl
    have hsz' : s.heap.size ≤ T'.heap.size := X'.same.2.1
    have hhs := X'.heapSize
    obtain ⟨t2, b1, b2⟩ := Kr v μ1 hQ1 p l e R s mid args below meth c T'.heap (locs ++ L1) (T'.heap.size - s.heap.size) (slots + n1) ls C1 C2 hE hm h1 h2 h3 h4 (by omega) (by omega) h7 h8
      ⟨by rw [hth]; exact hH1.1, by rw [hth]; exact hH1.2.1, by rw [hth]; exact hH1.2.2.1, fun z hz => (List.mem_append.mp hz).elim (h9.2.2.2 z) (hH1.2.2.2 z)⟩ (fun z => by have h := hsz1 z; rw [hs'h] at h; rw [hth] at hsz' ⊢; omega) h11 T' rfl (pm_tight X')
    refine ⟨t2, stA.trans ?_, b2⟩
    rw [ht]
    have hfr : ({ g' with pc := g'.pc + 3, stack := (v.map (pm_v G)).toList ++ g'.stack } : JFrame) = F0 mid (pc + 3) ls ((v.toList ++ S').map (pm_v G)) := by
      rw [hg']
      cases v <;> rfl
    rw [hfr]
    exact b1
  | inr k =>
    obtain ⟨hk12, q, ce, ho', hce, hcv, hcc⟩ := ho
    subst ho'
    obtain ⟨T', X', hW2, hsm2, ht⟩ := Y₁.outOfThrown (g := g') hgm hend hW1 hsame
    have hth : T'.heap = t.heap := by rw [ht]; rfl
    have hsz' : s.heap.size ≤ T'.heap.size := X'.same.2.1
    have hhs := X'.heapSize
    have hcs : s.vm.findClass (pm_xn k) = some ce.cls := by
      rw [← hal.findClass]
      exact hcc
    have hH' : pm_H G μ1 T'.heap (locs ++ L1) := ⟨by rw [hth]; exact hH1.1, by rw [hth]; exact hH1.2.1, by rw [hth]; exact hH1.2.2.1, fun z hz => (List.mem_append.mp hz).elim (h9.2.2.2 z) (hH1.2.2.2 z)⟩
    have h10' : μ1.2.2.2.2 = 0 → s.heap.size + (T'.heap.size - s.heap.size) ≤ pm_base G + μ1.2.2.2.1.length := fun z => by have h := hsz1 z; rw [hs'h] at h; rw [hth] at hsz' ⊢; omega
    rcases Kt k μ1 hQ1 with ⟨hout, hQ⟩ | ⟨hpc, i9, n9, ins9, hk0, hk13, hfind, hc9, hasn, hi9, K9⟩
    · have hcov : ∀ x ∈ c.exceptionTable.toList, covers x g'.pc = false := fun x hx => by
        have hx' : (x.startPc, x.endPc, x.handlerPc, x.catchType) ∈ pm_hh m := by
          rw [← hm.2.2.2.2.1]
          exact List.mem_map.mpr ⟨x, hx, rfl⟩
        have h := List.all_eq_true.mp hout _ hx'
        rw [hg']
        show (decide (x.startPc ≤ pc) && decide (pc < x.endPc)) = false
        exact (Bool.not_eq_true' _).mp h
      obtain ⟨w1, w2, w3, w4, w5⟩ := (pm_tight X').leaveThrown q (g := g') hgm (by rw [hg']) (by rw [hg']) hcov hm.2.2.2.1
      refine ⟨_, stA.trans (by rw [ht]; exact w1), .inr k, μ1, .threw q, locs ++ L1, T'.heap.size - s.heap.size, slots + n1, w2, w3, ⟨hk12, q, ce, rfl, by show T'.heap[q]? = _; rw [hth]; exact hce, hcv, hcs⟩, w4, w5, hH', h10', by omega, by omega, hQ⟩
    · obtain ⟨pre, suf, a9, b9, ct, e1, e2, e3, e4, e5⟩ := pm_find_spec hk0 hfind
      have htab := hm.2.2.2.2.1
      rw [e1] at htab
      obtain ⟨pre', rest', r1, r2, r3⟩ := List.map_eq_append_iff.mp htab
      obtain ⟨x9, suf', r4, r5, r6⟩ := List.map_eq_cons_iff.mp r3
      rw [r4] at r1
      have hown := hm.2.2.2.2.2.1
      rw [hk13] at hown
      have hx9 : x9.startPc = a9 ∧ x9.endPc = b9 ∧ x9.handlerPc = hpc ∧ x9.catchType = ct := by
        simp only [Prod.mk.injEq] at r5
        exact r5
      have hxt := pm_xlk ct (by rw [e4]; exact hk0)
      rw [e4] at hxt
      obtain ⟨k9, hd9, hk9, rfl⟩ := pm_dec hc9
      have hcatch : vx_W p l e R s mid args below meth c T'.heap (locs ++ L1) (T'.heap.size - s.heap.size) (slots + n1) (pm_Z G below s C1 C2 Q) (F0 mid pc ls (S'.map (pm_v G))) q := by
        refine vx_catch (name := pm_xn k) (E := pm_xn k) (ce := ce) hown pre' x9 suf' r1 (fun z hz => ?_) ?_ (by rw [hx9.2.2.2]; exact hxt.2.1) (by rw [hx9.2.2.2]; exact pm_E_w hE hxt.1.1 hxt.1.2) (va_Nw.use rfl (hE.2.2.2.2.1 _ (pm_xcast k hk12) rfl)) (by rw [hth]; exact hce) hcv hcs ?_
        · have hz' : (z.startPc, z.endPc, z.handlerPc, z.catchType) ∈ pre := by
            rw [← r2]
            exact List.mem_map.mpr ⟨z, hz, rfl⟩
          rcases e5 _ hz' with h | ⟨ha1, ha2⟩
          · refine Or.inl ?_
            have h' : ¬ (z.startPc ≤ pc ∧ pc < z.endPc) := h
            show (decide (z.startPc ≤ pc) && decide (pc < z.endPc)) = false
            rw [Bool.and_eq_false_iff]
            by_cases ha3 : z.startPc ≤ pc
            · exact Or.inr (decide_eq_false (fun hb3 => h' ⟨ha3, hb3⟩))
            · exact Or.inl (decide_eq_false ha3)
          · have hz9 := pm_xlk z.catchType ha1
            refine Or.inr ⟨hz9.2.1, pm_xn (pm_xt z.catchType), pm_E_w hE hz9.1.1 hz9.1.2, ?_⟩
            have hne : pm_xt z.catchType ≠ k := ha2
            rcases hz9.2.2 with h1' | h1' <;> rcases hk12 with rfl | rfl
            · exact absurd h1' hne
            · rw [h1']
              exact hE.2.2.2.2.2.1
            · rw [h1']
              exact hE.2.2.2.2.2.2.1
            · exact absurd h1' hne
        · have h1' := hx9.1
          have h2' := hx9.2.1
          simp only [covers, h1', h2']
          simp [e2, e3]
        · rw [hx9.2.2.1]
          have hKK := fun (ls' : Array Slot) (hl' : lv_has ls' (pm_ml m) (pm_lv G 0 (pm_st L i9 pm_jk))) => K9 p l e R s mid args below meth c T'.heap (locs ++ L1) (T'.heap.size - s.heap.size) (slots + n1) ls' C1 C2 hE hm h1 h2 h3 h4 (by omega) (by omega) (by rw [pm_st_len]; exact h7) hl' hH' h10' h11
          unfold pm_asn at hasn
          split at hasn
          · cases hasn
            obtain rfl : k9 = 1 := hk9
            exact lv_astore_n (lv := pm_lv G 0 L) (pm_E_x hE) hm.1 hd9 rfl h8 (by rw [← h7]; exact hi9) rfl fun ls' hl => hKK ls' (pm_stoJ hF hl hi9)
          · cases hasn
            obtain rfl : k9 = 2 := hk9
            exact lv_astore (lv := pm_lv G 0 L) (pm_E_x hE) hm.1 hd9 h8 (by rw [← h7]; exact hi9) rfl fun ls' hl => hKK ls' (pm_stoJ hF hl hi9)
          · cases hasn
      obtain ⟨t2, b1, b2⟩ := hcatch T' rfl (pm_tight X')
      refine ⟨t2, stA.trans ?_, b2⟩
      rw [ht, hg']
      exact b1
