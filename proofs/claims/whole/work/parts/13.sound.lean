/-! RETURNS, THROWS; ALL RULES TOGETHER -/
theorem pm_ofMQ {G : pm_G} {p : Program} {l : Launch} {e : Env} {R : Room} {s : State} {mid : MethodId} {args : Array Value} {below : List Frame} {meth : Method} {c : Code} {H : Heap} {locs : List Loc} {cells slots : Nat} {C1 C2 : Nat} {Q : pm_Q} {g : JFrame} {μ : pm_M} {v0 : Option Value} (h5 : cells + pm_cap μ ≤ C1) (h6 : slots + pm_cas μ ≤ C2) (h9 : pm_H G μ H locs) (h10 : μ.2.2.2.2 = 0 → s.heap.size + cells ≤ pm_base G + μ.2.2.2.1.length) (hQ : Q (.inl v0) μ)
    (k : W p l e R s mid args below meth c H locs cells slots (MQ below (fun _ _ o t => o = .returned (v0.map (pm_v G)) ∧ t.heap = H) args s cells slots (pm_A G)) g) : W p l e R s mid args below meth c H locs cells slots (pm_Z G below s C1 C2 Q) g := by
  intro T hT Y
  obtain ⟨t, a1, o, b1, b2, ⟨ho, hh⟩, L, ⟨-, hW, hsm⟩, hL⟩ := k T hT Y
  subst ho
  exact ⟨t, a1, .inl v0, μ, _, L, cells, slots, b1, b2, rfl, hW, hsm, ⟨by rw [hh]; exact h9.1, by rw [hh]; exact h9.2.1, by rw [hh]; exact h9.2.2.1, hL⟩, h10, h5, h6, hQ⟩
theorem pm_char {x : Int32} (h0 : 0 ≤ x.toInt) (h1 : x.toInt ≤ 65535) : narrow .char (.int x) = .int x := by
  obtain ⟨j, hj, rfl⟩ : ∃ j : Nat, j ≤ 65535 ∧ x = nI j := nI_of2 (M := 65535) (n := 65535) (by decide) (by rw [Int32.lt_iff_toInt_lt]; simpa using h0) (by rw [Int32.le_iff_toInt_le]; exact h1)
  exact (pk_charN (by omega)).1
theorem pc_ret (G : pm_G) (X : (Nat → Int32) × Nat) (d m pc n : Nat) (L : List Value) (v : Value) (μ : pm_M) (Q : pm_Q) (ins : Instr) (hc : pm_code m pc = some (ins, n)) (hri : pm_ri ins v = true) (hrv : pm_rv m v = true) (hQ : Q (.inl (some v)) μ) : pm_B G X d m pc L [v] μ Q := by
  obtain ⟨k0, hd, hk0, rfl⟩ := pm_dec hc
  intro p l e R s mid args below meth c H locs cells slots ls C1 C2 hE hm h1 h2 h3 h4 h5 h6 h7 h8 h9 h10 h11
  unfold pm_ri at hri
  split at hri
  · rename_i x
    obtain rfl : k0 = 1 := hk0
    have hr := hm.2.2.1
    have hlocks := hm.2.2.2.1
    have fin : ∀ ty : FieldType, pm_rt m = some ty → narrow ty (.int x) = .int x → W p l e R s mid args below meth c H locs cells slots (pm_Z G below s C1 C2 Q) (F0 mid pc ls ([Value.int x].map (pm_v G))) := fun ty e1 e2 =>
      pm_ofMQ (v0 := some (.int x)) h5 h6 h9 h10 hQ (W.zret (pm_E_x hE) hm.1 (hr.trans e1) e2 (fun t ht _ => ⟨rfl, ht⟩) h9.2.2.2 hd hlocks)
    unfold pm_rv at hrv
    split at hrv
    · rename_i e1 e2
      exact fin .int e1 rfl
    · rename_i e1 e2
      cases e2
      simp only [Bool.or_eq_true, decide_eq_true_eq] at hrv
      rcases hrv with rfl | rfl
      · exact fin .boolean e1 rfl
      · exact fin .boolean e1 rfl
    · rename_i e1 e2
      cases e2
      simp only [Bool.and_eq_true, decide_eq_true_eq] at hrv
      exact fin .char e1 (pm_char hrv.1 hrv.2)
    · rename_i e1 e2
      cases e2
      obtain rfl := of_decide_eq_true hrv
      exact fin .byte e1 rfl
    · rename_i e2
      cases e2
    · rename_i e2
      cases e2
    · cases hrv
  · rename_i x
    obtain rfl : k0 = 1 := hk0
    have hr := hm.2.2.1
    have hlocks := hm.2.2.2.1
    unfold pm_rv at hrv
    split at hrv
    · rename_i e2
      cases e2
    · rename_i e2
      cases e2
    · rename_i e2
      cases e2
    · rename_i e2
      cases e2
    · rename_i e1 e2
      exact pm_ofMQ (v0 := some (.long x)) h5 h6 h9 h10 hQ (W.lret (pm_E_x hE) hm.1 (hr.trans e1) (fun t ht _ => ⟨rfl, ht⟩) h9.2.2.2 hd hlocks)
    · rename_i e2
      cases e2
    · cases hrv
  · rename_i x
    obtain rfl : k0 = 1 := hk0
    have hr := hm.2.2.1
    have hlocks := hm.2.2.2.1
    unfold pm_rv at hrv
    split at hrv
    · rename_i e2
      cases e2
    · rename_i e2
      cases e2
    · rename_i e2
      cases e2
    · rename_i e2
      cases e2
    · rename_i e2
      cases e2
    · rename_i nm y e1 e2
      exact pm_ofMQ (v0 := some (.ref x)) h5 h6 h9 h10 hQ (W.aret (pm_E_x hE) hm.1 (hr.trans e1) (Or.inl ⟨_, rfl⟩) (Or.inr ⟨_, rfl⟩) (fun t ht _ => ⟨rfl, ht⟩) h9.2.2.2 hd hlocks)
    · cases hrv
  · cases hri
theorem pc_retv (G : pm_G) (X : (Nat → Int32) × Nat) (d m pc n : Nat) (L : List Value) (μ : pm_M) (Q : pm_Q) (hc : pm_code m pc = some (.return_, n)) (hrt : pm_rt m = none) (hQ : Q (.inl none) μ) : pm_B G X d m pc L [] μ Q := by
  obtain ⟨k0, hd, hk0, rfl⟩ := pm_dec hc
  obtain rfl : k0 = 1 := hk0
  intro p l e R s mid args below meth c H locs cells slots ls C1 C2 hE hm h1 h2 h3 h4 h5 h6 h7 h8 h9 h10 h11
  have hlocks := hm.2.2.2.1
  exact pm_ofMQ (v0 := none) h5 h6 h9 h10 hQ (W.vret (pm_E_x hE) hm.1 (hm.2.2.1.trans hrt) (fun t ht _ => ⟨rfl, ht⟩) h9.2.2.2 hd hlocks)
def pm_nm : List String := ["java/lang/RuntimeException", "java/lang/Exception"]
def pm_xw (own : String) (ik ic : Nat) (cls : String) : List Cond := Cond.classLink own ik cls :: Cond.initialized cls :: vx_atS own ic cls pm_nm
theorem pm_xw1 : ∀ w ∈ pm_xw "PassagePapers" 364 368 "java/lang/IllegalArgumentException", vx_ot w = true ∧ ((w ∈ lw_tbl ∧ goodWord w = true) ∨ w = .castable "java/lang/IllegalArgumentException" "java/lang/IllegalArgumentException") := by decide +kernel
theorem pm_xw2 : ∀ w ∈ pm_xw "PassagePapers" 374 378 "java/util/NoSuchElementException", vx_ot w = true ∧ ((w ∈ lw_tbl ∧ goodWord w = true) ∨ w = .castable "java/util/NoSuchElementException" "java/util/NoSuchElementException") := by decide +kernel
theorem pm_thr {G : pm_G} {X : (Nat → Int32) × Nat} {d m pc t ik is ic : Nat} {L : List Value} {I : Nat → Nat → Int32} {J : Nat → Nat → Int64} {P : Nat → Nat → Value} {T : List (Nat × Nat)} {ex x : Nat} {Q : pm_Q} (hk : pm_k m = 11) (hh : pm_hh m = []) (ht : t = 1 ∨ t = 2) (hct : pm_ct 11 is = some (.retAddr x)) (hfit : Jvm.Bundle.fit (pm_xn t) = true) (hw : ∀ w ∈ pm_xw "PassagePapers" ik ic (pm_xn t), vx_ot w = true ∧ ((w ∈ lw_tbl ∧ goodWord w = true) ∨ w = .castable (pm_xn t) (pm_xn t)))
    (d0 : decode (pm_by m) pc = .ok (.new ik, 3)) (d3 : decode (pm_by m) (pc + 3) = .ok (.dup, 1)) (d4 : decode (pm_by m) (pc + 4) = .ok (.ldc_w is, 3)) (d7 : decode (pm_by m) (pc + 7) = .ok (.invokespecial ic, 3)) (d10 : decode (pm_by m) (pc + 10) = .ok (.athrow, 1)) (he : ex < 100000) (hQ : Q (.inr t) (I, J, P, T, ex + 1)) : pm_B G X d m pc L [] (I, J, P, T, ex) Q := by
  intro p l e R s mid args below meth c H locs cells slots ls C1 C2 hE hm h1 h2 h3 h4 h5 h6 h7 h8 h9 h10 h11
  have hown := hm.2.2.2.2.2.1
  rw [hk] at hown
  have hwb : ∀ w ∈ pm_xw "PassagePapers" ik ic (pm_xn t), w.before args s = true := fun w hw' => by
    rcases (hw w hw').2 with h | h
    · exact pm_E_w hE h.1 h.2
    · rw [h]
      exact va_Nw.use rfl (hE.2.2.2.2.1 _ _ (pm_xcast t ht))
  obtain ⟨tx, hR⟩ := hE.2.2.2.2.2.2.2.2.2.1 _ _ _ hct
  have hcap : 1 + pm_cap (I, J, P, T, ex + 1) ≤ pm_cap (I, J, P, T, ex) := by unfold pm_cap; dsimp only; omega
  have hcas : 6 + pm_cas (I, J, P, T, ex + 1) ≤ pm_cas (I, J, P, T, ex) := by unfold pm_cas; dsimp only; omega
  intro U hU Y
  have hsz : s.heap.size ≤ H.size := by
    have : s.heap.size ≤ U.heap.size := Y.same.2.1
    rw [hU] at this
    exact this
  have hS : va_S (pm_A G) s.heap H locs := ⟨hsz, fun q g1 g2 => by
    have hq : q < (pm_h0 G).size := by
      rw [pm_E_sz hE]
      exact Nat.lt_of_not_le g2
    rw [h9.2.2.1 q hq g2, h11.2.1 q hq g2], h9.2.2.2⟩
  have hZ1 := vx_Zq.kept hE.2.2.2.2.2.2.2.2.2.2.2.2.2.2.1 (fun a h1 h2 => h11.2.1 a h1 h2)
  have hZ2 := vx_Zq.kept hE.2.2.2.2.2.2.2.2.2.2.2.2.2.2.2.1 (fun a h1 h2 => h11.2.1 a h1 h2)
  have hout : ∀ x ∈ c.exceptionTable.toList, covers x (pc + 10) = false := fun x hx => by
    have hx' : (x.startPc, x.endPc, x.handlerPc, x.catchType) ∈ pm_hh m := by
      rw [← hm.2.2.2.2.1]
      exact List.mem_map.mpr ⟨x, hx, rfl⟩
    rw [hh] at hx'
    cases hx'
  obtain ⟨t9, a1, o, b1, b2, hX⟩ := vx_throwSW (Qc := fun _ _ _ _ => False) (XC := fun E st t9 => E = pm_xn t ∧ H.size ≤ t9.heap.size ∧ ∀ q : Nat, q < H.size → t9.heap[q]? = H[q]?) (names := pm_nm) (mc := cells + 1) (ms := slots + 6) (free := pm_A G) (pm_E_x hE) hm.1 (pm_E_tr hE) hown hfit (by decide +kernel) (hwb _ List.mem_cons_self) (hwb _ (List.mem_cons_of_mem _ List.mem_cons_self)) hR (fun w h => hwb w (List.mem_cons_of_mem _ (List.mem_cons_of_mem _ h))) (fun w h => (hw w h).1) hZ1 hZ2 hS (h8.1.trans hm.2.1.symm) d0 d3 d4 d7 d10 hout (by show 2 + 3 < R.frames; omega) (by show 0 + (13 * (2 + 1) + 43) ≤ R.locals; omega) (by omega) (by omega) hm.2.2.2.1 (fun t9 _ g1 g2 => ⟨rfl, g1, g2⟩) h9.2.2.2 (Nat.le_refl _) (Nat.le_refl _) U hU Y
  rcases hX with ⟨h, -⟩ | ⟨q, ho, E, ce, L9, ⟨hE9, g1, g2⟩, hce, hcv, hcc, hW, hsm, hL9⟩
  · exact h.elim
  · subst hE9
    refine ⟨t9, a1, .inr t, (I, J, P, T, ex + 1), o, L9, cells + 1, slots + 6, b1, b2, ⟨ht, q, ce, ho, hce, hcv, hcc⟩, hW, hsm, ⟨?_, Nat.le_trans h9.2.1 g1, fun q g3 g4 => ?_, hL9⟩, fun z => absurd z (Nat.succ_ne_zero _), by omega, by omega, hQ⟩
    · exact (h9.1.kept (fun k x hx => g2 x.1 (h9.1 k x hx).lt) :)
    · rw [g2 q (Nat.lt_of_lt_of_le g3 h9.2.1)]
      exact h9.2.2.1 q g3 g4
theorem pc_throw (G : pm_G) (X : (Nat → Int32) × Nat) (d m pc t ik is ic : Nat) (L : List Value) (I : Nat → Nat → Int32) (J : Nat → Nat → Int64) (P : Nat → Nat → Value) (T : List (Nat × Nat)) (e : Nat) (Q : pm_Q) (h : pm_tw m pc = some (t, ik, is, ic)) (he : e < 100000) (hQ : Q (.inr t) (I, J, P, T, e + 1)) : pm_B G X d m pc L [] (I, J, P, T, e) Q := by
  have h1 := pm_look h
  unfold pm_twl at h1
  simp only [List.mem_cons, List.not_mem_nil, or_false, Prod.mk.injEq] at h1
  rcases h1 with ⟨⟨rfl, rfl⟩, rfl, rfl, rfl, rfl⟩ | ⟨⟨rfl, rfl⟩, rfl, rfl, rfl, rfl⟩ | ⟨⟨rfl, rfl⟩, rfl, rfl, rfl, rfl⟩
  · exact pm_thr (x := 2) (by decide +kernel) (by decide +kernel) (by decide) (by decide +kernel) (by decide +kernel) pm_xw1 (by decide +kernel) (by decide +kernel) (by decide +kernel) (by decide +kernel) (by decide +kernel) he hQ
  · exact pm_thr (x := 50) (by decide +kernel) (by decide +kernel) (by decide) (by decide +kernel) (by decide +kernel) pm_xw2 (by decide +kernel) (by decide +kernel) (by decide +kernel) (by decide +kernel) (by decide +kernel) he hQ
  · exact pm_thr (x := 52) (by decide +kernel) (by decide +kernel) (by decide) (by decide +kernel) (by decide +kernel) pm_xw2 (by decide +kernel) (by decide +kernel) (by decide +kernel) (by decide +kernel) (by decide +kernel) he hQ

theorem ps_all (G : pm_G) (X : (Nat → Int32) × Nat) (ins : Instr) : pm_Ok G X ins := by
  cases ins
  case iadd => exact ps_iadd G X
  case isub => exact ps_isub G X
  case imul => exact ps_imul G X
  case iand => exact ps_iand G X
  case ior => exact ps_ior G X
  case ishl => exact ps_ishl G X
  case ishr => exact ps_ishr G X
  case iushr => exact ps_iushr G X
  case idiv => exact ps_idiv G X
  case irem => exact ps_irem G X
  case ladd => exact ps_ladd G X
  case lsub => exact ps_lsub G X
  case lmul => exact ps_lmul G X
  case land => exact ps_land G X
  case ldiv => exact ps_ldiv G X
  case lrem => exact ps_lrem G X
  case lshl => exact ps_lshl G X
  case lshr => exact ps_lshr G X
  case lcmp => exact ps_lcmp G X
  case lneg => exact ps_lneg G X
  case i2l => exact ps_i2l G X
  case l2i => exact ps_l2i G X
  case i2c => exact ps_i2c G X
  case dup => exact ps_dup G X
  case dup2 => exact ps_dup2 G X
  case pop => exact ps_pop G X
  case iaload => exact ps_iaload G X
  case baload => exact ps_baload G X
  case laload => exact ps_laload G X
  case aaload => exact ps_aaload G X
  case iastore => exact ps_iastore G X
  case bastore => exact ps_bastore G X
  case lastore => exact ps_lastore G X
  case arraylength => exact ps_arraylength G X
  case aload_n i => exact ps_aload_n G X i
  case aload i => exact ps_aload G X i
  case iload_n i => exact ps_iload_n G X i
  case iload i => exact ps_iload G X i
  case lload_n i => exact ps_lload_n G X i
  case lload i => exact ps_lload G X i
  case istore_n i => exact ps_istore_n G X i
  case istore i => exact ps_istore G X i
  case lstore_n i => exact ps_lstore_n G X i
  case lstore i => exact ps_lstore G X i
  case astore_n i => exact ps_astore_n G X i
  case astore i => exact ps_astore G X i
  case iconst i => exact ps_iconst G X i
  case bipush i => exact ps_bipush G X i
  case sipush i => exact ps_sipush G X i
  case lconst i => exact ps_lconst G X i
  case ldc i => exact ps_ldc G X i
  case ldc_w i => exact ps_ldc_w G X i
  case ldc2_w i => exact ps_ldc2_w G X i
  case goto i => exact ps_goto G X i
  case getfield i => exact ps_getfield G X i
  case putfield i => exact ps_putfield G X i
  case new i => exact ps_new G X i
  case invokespecial i => exact ps_invokespecial G X i
  case invokestatic i => exact ps_invokestatic G X i
  case getstatic i => exact ps_getstatic G X i
  case iinc i k => exact ps_iinc G X i k
  case ifCond cd off =>
    cases cd
    · exact ps_ifCond_eq G X off
    · exact ps_ifCond_ne G X off
    · exact ps_ifCond_lt G X off
    · exact ps_ifCond_ge G X off
    · exact ps_ifCond_gt G X off
    · exact ps_ifCond_le G X off
  case if_icmp cd off =>
    cases cd
    · exact ps_if_icmp_eq G X off
    · exact ps_if_icmp_ne G X off
    · exact ps_if_icmp_lt G X off
    · exact ps_if_icmp_ge G X off
    · exact ps_if_icmp_gt G X off
    · exact ps_if_icmp_le G X off
  case tableswitch df lo hi offs => exact ps_tableswitch G X df lo hi offs
  case lookupswitch df prs => exact ps_lookupswitch G X df prs
  case newarray ty =>
    cases ty
    case int => exact ps_newarray_int G X
    case long => exact ps_newarray_long G X
    case boolean => exact ps_newarray_boolean G X
    all_goals
      intro d m pc L S μ Q n pc' L' S' μ' hc hs K
      simp [pm_step] at hs
  case multianewarray i dims =>
    by_cases hd : dims = 2
    · subst hd
      exact ps_multianewarray G X i
    · intro d m pc L S μ Q n pc' L' S' μ' hc hs K
      simp [pm_step, hd] at hs
  all_goals
    intro d m pc L S μ Q n pc' L' S' μ' hc hs K
    simp [pm_step] at hs
/-- the rules hold on every JVM that stands so -/
theorem pm_sound (G : pm_G) (X : (Nat → Int32) × Nat) : pm_C X (pm_B G X) :=
  ⟨fun d m pc L S μ Q ins n pc' L' S' μ' hc hs K => ps_all G X ins d m pc L S μ Q n pc' L' S' μ' hc hs K,
   fun d m pc L S μ Q Q1 ins n i kd m' na nest as S' hc hiv htg hS hlen hrc hS' hdb hel Kc Kr Kt => pc_call G X d m pc L S μ Q Q1 ins n i kd m' na nest as S' hc hiv htg hS hlen hrc hS' hdb hel Kc Kr Kt,
   fun d m pc n L v μ Q ins hc hri hrv hQ => pc_ret G X d m pc n L v μ Q ins hc hri hrv hQ,
   fun d m pc n L μ Q hc hrt hQ => pc_retv G X d m pc n L μ Q hc hrt hQ,
   fun d m pc t ik is ic L I J P T e Q h he hQ => pc_throw G X d m pc t ik is ic L I J P T e Q h he hQ,
   fun d m pc L S μ Q Q' hw K p l e R s mid args below meth c H locs cells slots ls C1 C2 hE hm h1 h2 h3 h4 h5 h6 h7 h8 h9 h10 h11 U hU Y => by
    obtain ⟨t, a1, r, μ', o, L1, k1, n1, b1, b2, b3, b4, b5, b6, b7, b8, b9, hQ⟩ := K p l e R s mid args below meth c H locs cells slots ls C1 C2 hE hm h1 h2 h3 h4 h5 h6 h7 h8 h9 h10 h11 U hU Y
    exact ⟨t, a1, r, μ', o, L1, k1, n1, b1, b2, b3, b4, b5, b6, b7, b8, b9, hw r μ' hQ⟩⟩
theorem pm_run {G : pm_G} {X : (Nat → Int32) × Nat} {d m pc : Nat} {L S : List Value} {μ : pm_M} {Q : pm_Q} (h : pm_Ex X d m pc L S μ Q) : pm_B G X d m pc L S μ Q := h _ (pm_sound G X)
