/-! WHAT RUNS ON THE MACHINE RUNS SO ON THE JVM: calls, returns, throws -/
theorem pm_stw {tb : Tables} {e : Env} {x : Frame} {below : List Frame} {a b : State} (h : Steps tb e (x :: below) a b) : Steps tb e below a b := by
  obtain ⟨n, h1, h2⟩ := h
  exact ⟨n, h1, fun k hk => Within.weaken (mid := [x]) (h2 k hk)⟩
theorem pm_E_moved {G : pm_G} {X : (Nat → Int32) × Nat} {p : Program} {l : Launch} {s U : State} (hW : s.WarmedH U.vm) (h : pm_E G X p l s) : pm_E G X p l U := by
  obtain ⟨a1, a2, a3, a4, a5, a6, a7, a8, a9, a10, a11, a12, a13, a14, a15, a16, a17, a18, a19⟩ := h
  have hA := hW.alike
  exact ⟨a1, a2, fun w hw hg args => word_at hW (good_of_word hg) (a3 w hw hg #[]), fun own i y h hm => va_Nw.warmM hW (a4 own i y h hm), fun w hm hc => (by cases w with | castable C T => exact va_Nw.warmC hW (a5 _ hm hc) | declares x => exact va_Nw.warmD hW (a5 _ hm hc) | _ => cases hc), va_Nc.moved hA a6, va_Nc.moved hA a7,
    (Cond.overAtom_setVm (args := #[]) hA (.arrayOver (.array .int)) rfl a8 :), va_K.moved hA a9, fun k i x hx => (a10 k i x hx).imp (fun tx h => vk_R.warm hW h), vk_S.moved hA a11, va_Z.moved hA a12, va_Z.moved hA a13, a14, vx_Zq.moved hA a15, vx_Zq.moved hA a16, va_X.moved hA a17, a18, a19⟩
theorem pm_ent_mem {G : pm_G} (hF : (pm_vF G).isRef = true) : ∀ {as : List Value} {k n i : Nat} {w : Value}, as.all (fun v => !pm_dbl v) = true → (i, w) ∈ pm_lv G k (pm_ent as ++ List.replicate n pm_jk) → (i, w) ∈ lv_args k (as.map (pm_v G))
  | [], k, n, i, w, _, h => by
    exfalso
    obtain ⟨j, v, h1, -, -, h4⟩ := pm_lv_dbl h
    have hv : v = pm_jk := by
      have := List.mem_of_getElem? h1
      simp [pm_ent] at this
      exact this.2
    rw [hv] at h4
    cases h4
  | v :: t, k, n, i, w, hd, h => by
    rw [List.all_cons, Bool.and_eq_true] at hd
    have hcat := pm_v_cat hF v
    show (i, w) ∈ (k, pm_v G v) :: lv_args (if (pm_v G v).category = 2 then k + 2 else k + 1) (t.map (pm_v G))
    rw [hcat]
    cases v with
    | long x =>
      have h' : (i, w) ∈ pm_lv G k (.long x :: pm_jk :: (pm_ent t ++ List.replicate n pm_jk)) := h
      rcases List.mem_cons.mp (show (i, w) ∈ (k, pm_v G (.long x)) :: pm_lv G (k + 1) (pm_jk :: (pm_ent t ++ List.replicate n pm_jk)) from h') with e | e
      · rw [e]
        exact List.mem_cons_self
      · exact List.mem_cons_of_mem _ (pm_ent_mem hF hd.2 (show (i, w) ∈ pm_lv G (k + 2) (pm_ent t ++ List.replicate n pm_jk) from e))
    | double x => simp [pm_dbl] at hd
    | int x => exact (List.mem_cons.mp (show (i, w) ∈ (k, pm_v G (.int x)) :: pm_lv G (k + 1) (pm_ent t ++ List.replicate n pm_jk) from h)).elim (fun e => by rw [e]; exact List.mem_cons_self) (fun e => List.mem_cons_of_mem _ (pm_ent_mem hF hd.2 e))
    | float x => exact (List.mem_cons.mp (show (i, w) ∈ (k, pm_v G (.float x)) :: pm_lv G (k + 1) (pm_ent t ++ List.replicate n pm_jk) from h)).elim (fun e => by rw [e]; exact List.mem_cons_self) (fun e => List.mem_cons_of_mem _ (pm_ent_mem hF hd.2 e))
    | null => exact (List.mem_cons.mp (show (i, w) ∈ (k, pm_v G .null) :: pm_lv G (k + 1) (pm_ent t ++ List.replicate n pm_jk) from h)).elim (fun e => by rw [e]; exact List.mem_cons_self) (fun e => List.mem_cons_of_mem _ (pm_ent_mem hF hd.2 e))
    | ref x => exact (List.mem_cons.mp (show (i, w) ∈ (k, pm_v G (.ref x)) :: pm_lv G (k + 1) (pm_ent t ++ List.replicate n pm_jk) from h)).elim (fun e => by rw [e]; exact List.mem_cons_self) (fun e => List.mem_cons_of_mem _ (pm_ent_mem hF hd.2 e))
    | retAddr x => exact (List.mem_cons.mp (show (i, w) ∈ (k, pm_v G (.retAddr x)) :: pm_lv G (k + 1) (pm_ent t ++ List.replicate n pm_jk) from h)).elim (fun e => by rw [e]; exact List.mem_cons_self) (fun e => List.mem_cons_of_mem _ (pm_ent_mem hF hd.2 e))
theorem pm_ent_len {G : pm_G} (hF : (pm_vF G).isRef = true) : ∀ {as : List Value}, as.all (fun v => !pm_dbl v) = true → (lg_sl (as.map (pm_v G))).length = (pm_ent as).length
  | [], _ => rfl
  | v :: t, hd => by
    rw [List.all_cons, Bool.and_eq_true] at hd
    have ih := pm_ent_len hF hd.2
    have hcat := pm_v_cat hF v
    have e : lg_sl ((v :: t).map (pm_v G)) = (if (pm_v G v).category = 2 then [.val (pm_v G v), .second] else [.val (pm_v G v)]) ++ lg_sl (t.map (pm_v G)) := by simp [lg_sl]
    rw [e, hcat, List.length_append, ih]
    cases v <;> first | (simp [pm_dbl] at hd; done) | (simp [pm_ent, Value.category]; omega)
theorem pm_en_len {m : Nat} {as : List Value} (h : (pm_ent as).length ≤ pm_ml m) : (pm_en m as).length = pm_ml m := by
  unfold pm_en
  rw [List.length_append, List.length_replicate]
  omega
theorem pm_tg_ok {k i m na kd : Nat} {nest : Bool} (h : pm_tg k i = some (m, na, kd, nest)) : (m < 373 ∧ m ≠ 361) ∧ (nest = true → Cond.methodLinkNest (pm_cl k) i (pm_y m) "PassagePapers" ∈ lw_tbl) ∧ (nest = false → Cond.methodLink (pm_cl k) i (pm_y m) ∈ lw_tbl ∧ goodWord (Cond.methodLink (pm_cl k) i (pm_y m)) = true) ∧ (kd = 0 → (Cond.static (pm_y m) ∈ lw_tbl ∧ goodWord (Cond.static (pm_y m)) = true) ∧ (Cond.initialized (pm_y m).cls ∈ lw_tbl ∧ goodWord (Cond.initialized (pm_y m).cls) = true)) ∧ (kd ≠ 0 → Cond.instanceMethod (pm_y m) ∈ lw_tbl ∧ goodWord (Cond.instanceMethod (pm_y m)) = true) ∧ (kd = 1 → Cond.selects (pm_y m).cls (pm_y m) (pm_y m) ∈ lw_tbl ∧ goodWord (Cond.selects (pm_y m).cls (pm_y m) (pm_y m)) = true) ∧ (kd = 2 → (pm_y m).name = "<init>" ∧ pm_rt m = none ∧ pm_hh m = []) ∧ kd ≤ 2 ∧ ∃ sg, parseMethodDescriptor (pm_y m).desc = some sg ∧ sg.parameters.length = na := by
  have h1 := pm_look h
  unfold pm_ttl at h1
  obtain ⟨q, hq, he⟩ := List.mem_map.mp h1
  have h2 := List.all_eq_true.mp pm_tPs q hq
  obtain ⟨⟨k', i'⟩, ⟨m', na', kd', nest'⟩, a, b, c⟩ := q
  cases he
  unfold pm_tP at h2
  simp only [Bool.and_eq_true, decide_eq_true_eq] at h2
  obtain ⟨⟨⟨⟨⟨⟨a1, a2⟩, a3⟩, a4⟩, a5⟩, a6⟩, a7⟩ := h2
  refine ⟨a1, fun e => ?_, fun e => ?_, fun e => ?_, fun e => ?_, fun e => ?_, fun e => ?_, a6, ?_⟩
  · rw [if_pos e] at a2
    exact pm_tb_in (List.mem_of_getElem? (of_decide_eq_true a2))
  · rw [if_neg (by rw [e]; decide)] at a2
    exact pm_wd_in a2
  · rw [if_pos e, Bool.and_eq_true] at a3
    exact ⟨pm_wd_in a3.1, pm_wd_in a3.2⟩
  · rw [if_neg e] at a3
    exact pm_wd_in a3
  · rw [if_pos e] at a4
    exact pm_wd_in a4
  · rw [if_pos e] at a5
    exact of_decide_eq_true a5
  · split at a7
    · rename_i sg hsg
      exact ⟨sg, hsg, of_decide_eq_true a7⟩
    · cases a7
theorem pm_m_ok {m : Nat} (h : m < 373) (h2 : m ≠ 361) : (pm_cw m ∈ lw_tbl ∧ goodWord (pm_cw m) = true) ∧ ((pm_y m).cls ≠ "java/lang/invoke/MethodHandle" ∧ (pm_y m).cls ≠ "java/lang/invoke/VarHandle") ∧ plainFor (pm_y m) = true ∧ pm_ml m ≤ 40 ∧ pm_cl (pm_k m) = (pm_y m).cls := by
  have h1 := pm_mPs h
  unfold pm_mP at h1
  simp only [Bool.and_eq_true, Bool.or_eq_true, decide_eq_true_eq] at h1
  obtain ⟨⟨⟨⟨a1, a2⟩, a3⟩, a4⟩, a5⟩ := h1
  exact ⟨pm_wd_in (a1.resolve_left h2), a2, a3, a4, a5⟩
/-- the method that a call finds -/
def pm_fnd (m : Nat) (s : State) (mk : MethodId) (methk : Method) (ck : Code) : Prop := s.methodNamed? (pm_y m) = some mk ∧ s.vm.method? mk = some methk ∧ methk.code = some ck ∧ ck.code = pm_by m ∧ ck.maxLocals = pm_ml m ∧ methk.sig.returnType = pm_rt m ∧ methk.locks = false ∧ ck.exceptionTable.toList.map (fun h => (h.startPc, h.endPc, h.handlerPc, h.catchType)) = pm_hh m ∧ parseMethodDescriptor (pm_y m).desc = some methk.sig
theorem pm_cw_spec {G : pm_G} {X : (Nat → Int32) × Nat} {p : Program} {l : Launch} {s : State} (hE : pm_E G X p l s) {m : Nat} (h : m < 373) (h2 : m ≠ 361) : ∃ mk methk ck, pm_fnd m s mk methk ck := by
  obtain ⟨hw, -⟩ := pm_m_ok h h2
  have hb := pm_E_w hE hw.1 hw.2 (args := #[])
  unfold pm_cw at hb
  split at hb
  · rename_i hh
    obtain ⟨mk, hnamed⟩ := Cond.code_named hb
    obtain ⟨methM, cM, g1, g2, g3, g4, g5, g6, g7, g8⟩ := Cond.code_spec hnamed hb
    refine ⟨mk, methM, cM, hnamed, g1, g2, g3, g4, g5, g6, ?_, g8⟩
    rw [hh]
    have : cM.exceptionTable = #[] := by simpa using g7
    rw [this]
    rfl
  · obtain ⟨mk, methM, cM, g0, g1, g2, g3, g4, g5, g6, g7, g8⟩ := Cond.codeWith_spec hb
    exact ⟨mk, methM, cM, g0, g1, g2, g3, g4, g6, g7, g5, g8⟩
theorem pm_vcn : ∀ c : Nat, c < 13 → ∃ (T : u_T) (N : Nat), vwCl[c]? = some (pm_cl c, T, N) := by
  intro c h
  match c, h with
  | 0, _ => exact ⟨_, _, rfl⟩
  | 1, _ => exact ⟨_, _, rfl⟩
  | 2, _ => exact ⟨_, _, rfl⟩
  | 3, _ => exact ⟨_, _, rfl⟩
  | 4, _ => exact ⟨_, _, rfl⟩
  | 5, _ => exact ⟨_, _, rfl⟩
  | 6, _ => exact ⟨_, _, rfl⟩
  | 7, _ => exact ⟨_, _, rfl⟩
  | 8, _ => exact ⟨_, _, rfl⟩
  | 9, _ => exact ⟨_, _, rfl⟩
  | 10, _ => exact ⟨_, _, rfl⟩
  | 11, _ => exact ⟨_, _, rfl⟩
  | 12, _ => exact ⟨_, _, rfl⟩
  | n + 13, h => omega
theorem pm_recv {G : pm_G} {X : (Nat → Int32) × Nat} {p : Program} {l : Launch} {s : State} {μ : pm_M} {H : Heap} {locs : List Loc} {m : Nat} {as : List Value} (hE : pm_E G X p l s) (hH : pm_H G μ H locs) (hmk : pm_cl (pm_k m) = (pm_y m).cls) (h : pm_rc m μ.2.2.2.1 1 as = true) : ∃ (a0 : Value) (as' : List Value) (b : Nat) (cell : Cell), as = a0 :: as' ∧ pm_v G a0 = .ref b ∧ H[b]? = some cell ∧ cell.vm.isStatics = false ∧ s.vm.findClass (pm_y m).cls = some cell.cls := by
  unfold pm_rc at h
  rw [if_neg (by decide)] at h
  split at h
  · rename_i a r
    split at h
    · rename_i c len ht
      simp only [Bool.or_eq_true, Bool.and_eq_true, decide_eq_true_eq] at h
      rcases h with h | ⟨hc, hn⟩
      · omega
      · obtain ⟨T, N, hv⟩ := pm_vcn c hc
        obtain ⟨cell, q1, q2, q3⟩ := va_recv (q0 := a) (fs := (List.range len).map (pm_fv G c (μ.1 a) (μ.2.2.1 a))) (pm_E_K hE) hH.1 hv (by rw [pm_ws_at ht, pm_e_obj hc])
        exact ⟨.ref a, r, pm_base G + a, cell, rfl, rfl, q1, q2, by rw [← hn]; exact q3⟩
    · cases h
  · rename_i a r
    simp only [Bool.and_eq_true, decide_eq_true_eq] at h
    obtain ⟨⟨⟨⟨h1, h2⟩, h3⟩, h4⟩, h5⟩ := h
    have hj : (a - 2) / 2 < pm_tx.length := by omega
    obtain ⟨cell, q1, q2, q3, q4⟩ := ((pm_E_S hE).1 _ hj).1
    refine ⟨.retAddr a, r, pm_aK G ((a - 2) / 2), cell, rfl, pm_vtx h3 h4, pm_old hE hH q1 q4, q2, ?_⟩
    rw [← hmk, h2]
    exact q3
  · cases h
/-- the call, up to the callee's entry -/
theorem pm_invoke {G : pm_G} {X : (Nat → Int32) × Nat} {p : Program} {l : Launch} {e : Env} {R : Room} {s : State} {mid : MethodId} {args : Array Value} {below : List Frame} {meth : Method} {c : Code} {T : State} {locs : List Loc} {cells slots : Nat} {ls : Array Slot} {m pc i kd m' na : Nat} {nest : Bool} {ins : Instr} {as S' : List Value} {μ : pm_M} (Y : Stand p l e R s mid args below meth c T locs cells slots) (hE : pm_E G X p l s) (hm : pm_mt m s mid meth c) (hiv : pm_iv3 ins = some (i, kd)) (hd : decode (pm_by m) pc = .ok (ins, 3)) (htg : pm_tg (pm_k m) i = some (m', na, kd, nest)) (hlen : as.length = na + (if kd = 0 then 0 else 1)) (hrc : pm_rc m' μ.2.2.2.1 kd as = true) (hH : pm_H G μ T.heap locs) :
    ∃ (mk : MethodId) (methk : Method) (ck : Code) (vm₁ : Vm), pm_fnd m' s mk methk ck ∧ Stand p l e R s mid args below meth c (T.setVm vm₁) locs cells slots ∧ ∀ target, (∀ acts, Steps p.tables e below (doInvoke e ((T.setVm vm₁).setTop (F0 mid pc ls (S'.map (pm_v G)))) acts mk (as.map (pm_v G)).toArray).1 target) → Steps p.tables e below (T.setTop (F0 mid pc ls ((as.reverse ++ S').map (pm_v G)))) target := by
  obtain ⟨hm1, hwN, hwL, hw0, hwI, hw1, hw2, hk2, sg, hsg, hna⟩ := pm_tg_ok htg
  obtain ⟨hcw, hxc, hpl, hml, hcl⟩ := pm_m_ok hm1.1 hm1.2
  obtain ⟨mk, methk, ck, hfnd⟩ := pm_cw_spec hE hm1.1 hm1.2
  obtain ⟨f0, f1, f2, f3, f4, f5, f6, f7, f8⟩ := id hfnd
  have hsgk : methk.sig = sg := Option.some.inj (f8.symm.trans hsg)
  have hown := hm.2.2.2.2.2.1
  obtain ⟨kP, hkP, hkn⟩ := className_of_methodNamed f0
  have hst : (as.reverse ++ S').map (pm_v G) = (as.map (pm_v G)).reverse ++ S'.map (pm_v G) := by simp
  have hd' : decode c.code pc = .ok (ins, 3) := by rw [hm.1]; exact hd
  rcases (show kd = 0 ∨ kd = 1 ∨ kd = 2 by omega) with rfl | rfl | rfl
  · have hins : ins = .invokestatic i := by
      unfold pm_iv3 at hiv
      split at hiv <;> first | (cases hiv; rfl) | (cases hiv)
    subst hins
    have hw := hw0 rfl
    have hstatic : methk.isStatic = true := Cond.static_spec f0 f1 (pm_E_w hE hw.1.1 hw.1.2 (args := args))
    have hinit : kP.init = .initialized := Cond.initialized_spec (findClass_of_methodNamed f0) hkP (pm_E_w hE hw.2.1 hw.2.2 (args := args))
    have hl : (as.map (pm_v G)).length = methk.sig.parameters.length := by rw [List.length_map, hlen, hsgk, hna]; rfl
    cases nest with
    | false =>
      have hwl := hwL rfl
      obtain ⟨vm₁, X₁, st⟩ := Y.invokestatic (pm_E_x hE) hown (pm_E_w hE hwl.1 hwl.2) f0 f1 hstatic hkP hinit hxc (g := F0 mid pc ls ((as.reverse ++ S').map (pm_v G))) rfl (argsL := as.map (pm_v G)) (rest := S'.map (pm_v G)) hl hst hd'
      exact ⟨mk, methk, ck, vm₁, hfnd, X₁, st⟩
    | true =>
      have hwl := va_Nw.use (A := args) rfl (hE.2.2.2.1 _ _ _ _ (hwN rfl))
      obtain ⟨vm₁, X₁, st⟩ := Y.invokestaticNest (pm_E_x hE) hown hwl f0 f1 hstatic hkP hinit hxc (g := F0 mid pc ls ((as.reverse ++ S').map (pm_v G))) rfl (argsL := as.map (pm_v G)) (rest := S'.map (pm_v G)) hl hst hd'
      exact ⟨mk, methk, ck, vm₁, hfnd, X₁, st⟩
  · have hins : ins = .invokevirtual i := by
      unfold pm_iv3 at hiv
      split at hiv <;> first | (cases hiv; rfl) | (cases hiv)
    subst hins
    have hwi := hwI (by decide)
    have hws := hw1 rfl
    obtain ⟨a0, as', b, cell, rfl, hv0, hcell, hobj, hcls⟩ := pm_recv hE hH hcl hrc
    obtain ⟨mk2, meth2, hn2, hm2, hst2, hab2⟩ := Cond.instanceMethod_spec (pm_E_w hE hwi.1 hwi.2 (args := args))
    cases Option.some.inj (hn2.symm.trans f0)
    cases Option.some.inj (hm2.symm.trans f1)
    obtain ⟨c2, r2, m2, q1, q2, q3, q4, kQ, hkQ, hkQi⟩ := Cond.selects_spec (pm_E_w hE hws.1 hws.2 (args := args))
    cases hcls.symm.trans q1
    cases (State.methodFound?_of_named f0 hxc).symm.trans q2
    cases f0.symm.trans q3
    have hselP : selectMethod e.platform s.vm cell.cls mk = .method mk := by rw [Launch.admits_selectMethod Y.admits]; exact q4
    have hl : (as'.map (pm_v G)).length = methk.sig.parameters.length := by
      rw [hsgk, hna, List.length_map]
      simpa using hlen
    have hst' : ((a0 :: as').reverse ++ S').map (pm_v G) = (as'.map (pm_v G)).reverse ++ .ref b :: S'.map (pm_v G) := by simp [hv0]
    cases nest with
    | false =>
      have hwl := hwL rfl
      obtain ⟨vm₁, X₁, st⟩ := Y.invokevirtual (pm_E_x hE) hown (pm_E_w hE hwl.1 hwl.2) f0 f1 hst2 hkQ hkQi hxc (a := b) (cell := cell) hcell (fun z h => by rw [h] at hobj; cases hobj) hselP f1 hab2 hkQ hkQi (g := F0 mid pc ls (((a0 :: as').reverse ++ S').map (pm_v G))) rfl (argsL := as'.map (pm_v G)) (rest := S'.map (pm_v G)) hl hst' hd'
      refine ⟨mk, methk, ck, vm₁, hfnd, X₁, fun tg h => st tg (fun acts => ?_)⟩
      have h := h acts
      rw [List.map_cons, hv0] at h
      exact h
    | true =>
      have hwl := va_Nw.use (A := args) rfl (hE.2.2.2.1 _ _ _ _ (hwN rfl))
      obtain ⟨vm₁, X₁, st⟩ := Y.invokevirtualNest (pm_E_x hE) hown hwl f0 f1 hst2 hkQ hkQi hxc (a := b) (cell := cell) hcell (fun z h => by rw [h] at hobj; cases hobj) hselP f1 hab2 hkQ hkQi (g := F0 mid pc ls (((a0 :: as').reverse ++ S').map (pm_v G))) rfl (argsL := as'.map (pm_v G)) (rest := S'.map (pm_v G)) hl hst' hd'
      refine ⟨mk, methk, ck, vm₁, hfnd, X₁, fun tg h => st tg (fun acts => ?_)⟩
      have h := h acts
      rw [List.map_cons, hv0] at h
      exact h
  · have hins : ins = .invokespecial i := by
      unfold pm_iv3 at hiv
      split at hiv <;> first | (cases hiv; rfl) | (cases hiv)
    subst hins
    obtain ⟨hini, hrt, hhh⟩ := hw2 rfl
    have hwi := hwI (by decide)
    obtain ⟨a, as', rfl⟩ : ∃ a as', as = .ref a :: as' := by
      unfold pm_rc at hrc
      rw [if_neg (by decide)] at hrc
      split at hrc
      · exact ⟨_, _, rfl⟩
      · simp at hrc
      · cases hrc
    have hcode : (Cond.code (pm_y m') (pm_by m') (pm_ml m') none).before args s = true := by
      have := pm_E_w hE hcw.1 hcw.2 (args := args)
      unfold pm_cw at this
      rw [hhh, hrt] at this
      exact this
    have hl : ∀ sig, parseMethodDescriptor (pm_y m').desc = some sig → (as'.map (pm_v G)).length = sig.parameters.length := fun sig h => by
      rw [hsg] at h
      cases h
      rw [List.length_map, hna]
      simpa using hlen
    have hst' : ((Value.ref a :: as').reverse ++ S').map (pm_v G) = (as'.map (pm_v G)).reverse ++ .ref (pm_base G + a) :: S'.map (pm_v G) := by simp [pm_v]
    have hplat : e.platform.magicAccessors = ({} : Platform).magicAccessors := by rw [Y.admits.platform]
    cases nest with
    | false =>
      have hwl := hwL rfl
      obtain ⟨mk2, meth2, cd2, k2, vm₁, hn2, -, -, -, -, -, -, -, hW₁, st⟩ := Steps.initColdArgs (e := e) Y.here (pm_E_x hE) Y.warmed hplat hown hini hxc (pm_E_w hE hwl.1 hwl.2) (pm_E_w hE hwi.1 hwi.2) hcode (f := F0 mid pc ls (((Value.ref a :: as').reverse ++ S').map (pm_v G))) rfl hl hst' hd'
      cases Option.some.inj (hn2.symm.trans f0)
      exact ⟨mk, methk, ck, vm₁, hfnd, Y.noted hW₁, st⟩
    | true =>
      have hwl := va_Nw.use (A := args) rfl (hE.2.2.2.1 _ _ _ _ (hwN rfl))
      obtain ⟨mk2, meth2, cd2, k2, vm₁, hn2, -, -, -, -, -, -, -, hW₁, st⟩ := Steps.initColdArgsNest (e := e) Y.here (pm_E_x hE) Y.warmed hplat hown hini hxc hwl (pm_E_w hE hwi.1 hwi.2) hcode (f := F0 mid pc ls (((Value.ref a :: as').reverse ++ S').map (pm_v G))) rfl hl hst' hd'
      cases Option.some.inj (hn2.symm.trans f0)
      exact ⟨mk, methk, ck, vm₁, hfnd, Y.noted hW₁, st⟩
