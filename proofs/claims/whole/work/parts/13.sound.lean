/-! RETURNS, THROWS; ALL RULES TOGETHER -/
theorem pm_ofMQ {G : pm_G} {p : Program} {l : Launch} {e : Env} {R : Room} {s : State} {mid : MethodId} {args : Array Value} {below : List Frame} {meth : Method} {c : Code} {H : Heap} {locs : List Loc} {cells slots : Nat} {C1 C2 : Nat} {Q : pm_Q} {g : JFrame} {μ : pm_M} {v0 : Option Value} (h5 : cells + pm_cap μ ≤ C1) (h6 : slots + pm_cas μ ≤ C2) (h9 : pm_H G μ H locs) (h10 : μ.2.2.2.2 = 0 → s.heap.size + cells ≤ pm_base G + μ.2.2.2.1.length) (hQ : Q (.inl v0) μ)
    (k : W p l e R s mid args below meth c H locs cells slots (MQ below (fun _ _ o t => o = .returned (v0.map (pm_v G)) ∧ t.heap = H) args s cells slots (pm_A G)) g) : W p l e R s mid args below meth c H locs cells slots (pm_Z G below s C1 C2 Q) g := by
  intro T hT Y
  obtain ⟨t, a1, o, b1, b2, ⟨ho, hh⟩, L, ⟨-, hW, hsm⟩, hL⟩ := k T hT Y
  subst ho
  exact ⟨t, a1, .inl v0, μ, _, L, cells, slots, b1, b2, rfl, hW, hsm, ⟨by rw [hh]; exact h9.1, by rw [hh]; exact h9.2.1, by rw [hh]; exact h9.2.2.1, hL⟩, h10, h5, h6, hQ⟩
theorem pm_char {x : Int32} (h0 : 0 ≤ x.toInt) (h1 : x.toInt ≤ 65535) : narrow .char (.int x) = .int x := by
  obtain ⟨j, hj, rfl⟩ : ∃ j : Nat, j ≤ 65535 ∧ x = nI j := nI_of2 (M := 65535) (n := 65535) (by decide) (by rw [Int32.lt_iff_toInt_lt]; simpa using h0) (by rw [Int32.le_iff_toInt_le]; exact h1)
  exact (pk_charN (by omega)).1
theorem pc_ret (G : pm_G) (X : (Nat → Int32) × Nat) (d m pc n : Nat) (L : List Value) (v : Value) (μ : pm_M) (Q : pm_Q) (ins : Instr) (hc : pm_code m pc = some (ins, n)) (hri : pm_ri ins v = true) (hrv : pm_rv m v = true) (hQ : Q (.inl (some v)) μ) : pm_B G X d m pc L [v] μ Q := by
  obtain ⟨k0, hd, hk0, rfl⟩ := pm_dec hc
  intro p l e R s mid args below meth c H locs cells slots ls C1 C2 hE hm h1 h2 h3 h4 h5 h6 h7 h8 h9 h10 h11
  unfold pm_ri at hri
  split at hri
  · rename_i x
    obtain rfl : k0 = 1 := hk0
    have hr := hm.2.2.1
    have hlocks := hm.2.2.2.1
    have fin : ∀ ty : FieldType, pm_rt m = some ty → narrow ty (.int x) = .int x → W p l e R s mid args below meth c H locs cells slots (pm_Z G below s C1 C2 Q) (F0 mid pc ls ([Value.int x].map (pm_v G))) := fun ty e1 e2 =>
      pm_ofMQ (v0 := some (.int x)) h5 h6 h9 h10 hQ (W.zret (pm_E_x hE) hm.1 (hr.trans e1) e2 (fun t ht _ => ⟨rfl, ht⟩) h9.2.2.2 hd hlocks)
    unfold pm_rv at hrv
    split at hrv
    · rename_i e1 e2
      exact fin .int e1 rfl
    · rename_i e1 e2
      cases e2
      simp only [Bool.or_eq_true, decide_eq_true_eq] at hrv
      rcases hrv with rfl | rfl
      · exact fin .boolean e1 rfl
      · exact fin .boolean e1 rfl
    · rename_i e1 e2
      cases e2
      simp only [Bool.and_eq_true, decide_eq_true_eq] at hrv
      exact fin .char e1 (pm_char hrv.1 hrv.2)
    · rename_i e1 e2
      cases e2
      obtain rfl := of_decide_eq_true hrv
      exact fin .byte e1 rfl
    · rename_i e2
      cases e2
    · rename_i e2
      cases e2
    · cases hrv
  · rename_i x
    obtain rfl : k0 = 1 := hk0
    have hr := hm.2.2.1
    have hlocks := hm.2.2.2.1
    unfold pm_rv at hrv
    split at hrv
    · rename_i e2
      cases e2
    · rename_i e2
      cases e2
    · rename_i e2
      cases e2
    · rename_i e2
      cases e2
    · rename_i e1 e2
      exact pm_ofMQ (v0 := some (.long x)) h5 h6 h9 h10 hQ (W.lret (pm_E_x hE) hm.1 (hr.trans e1) (fun t ht _ => ⟨rfl, ht⟩) h9.2.2.2 hd hlocks)
    · rename_i e2
      cases e2
    · cases hrv
  · rename_i x
    obtain rfl : k0 = 1 := hk0
    have hr := hm.2.2.1
    have hlocks := hm.2.2.2.1
    unfold pm_rv at hrv
    split at hrv
    · rename_i e2
      cases e2
    · rename_i e2
      cases e2
    · rename_i e2
      cases e2
    · rename_i e2
      cases e2
    · rename_i e2
      cases e2
    · rename_i nm y e1 e2
      exact pm_ofMQ (v0 := some (.ref x)) h5 h6 h9 h10 hQ (W.aret (pm_E_x hE) hm.1 (hr.trans e1) (Or.inl ⟨_, rfl⟩) (Or.inr ⟨_, rfl⟩) (fun t ht _ => ⟨rfl, ht⟩) h9.2.2.2 hd hlocks)
    · cases hrv
  · cases hri
theorem pc_retv (G : pm_G) (X : (Nat → Int32) × Nat) (d m pc n : Nat) (L : List Value) (μ : pm_M) (Q : pm_Q) (hc : pm_code m pc = some (.return_, n)) (hrt : pm_rt m = none) (hQ : Q (.inl none) μ) : pm_B G X d m pc L [] μ Q := by
  obtain ⟨k0, hd, hk0, rfl⟩ := pm_dec hc
  obtain rfl : k0 = 1 := hk0
  intro p l e R s mid args below meth c H locs cells slots ls C1 C2 hE hm h1 h2 h3 h4 h5 h6 h7 h8 h9 h10 h11
  have hlocks := hm.2.2.2.1
  exact pm_ofMQ (v0 := none) h5 h6 h9 h10 hQ (W.vret (pm_E_x hE) hm.1 (hm.2.2.1.trans hrt) (fun t ht _ => ⟨rfl, ht⟩) h9.2.2.2 hd hlocks)
def pm_nm : List String := ["java/lang/RuntimeException", "java/lang/Exception"]
section Off
variable {p : Program} {l : Launch} {e : Env} {R : Room} {s : State} {m₀ : MethodId} {args : Array Value} {below : List Frame} {meth : Method} {c : Code} {W : State} {locs : List Loc} {cells slots : Nat}
set_option maxHeartbeats 1000000 in
/-- an exception's constructor with a text, then the throw; the class's own call of its superclass stands at any index -/
theorem pm_offX (X : Stand p l e R s m₀ args below meth c W locs cells slots) (hexec : p.tables.exec = Jvm.exec) (htr : e.platform.stackTraces = false) {own cls : String} {names : List String} {ic ix : Nat} {rx : ByteArray}
    (x0 : decode rx 0 = .ok (.aload_n 0, 1)) (x1 : decode rx 1 = .ok (.aload_n 1, 1)) (x2 : decode rx 2 = .ok (.invokespecial ix, 3)) (x5 : decode rx 5 = .ok (.return_, 1))
    (hown : s.vm.findClass own = some m₀.cls) (hcls : Jvm.Bundle.fit cls = true) (hnames : ∀ n ∈ names, Jvm.Bundle.fit n = true) (h : ∀ a ∈ Jvm.Bundle.ownAtomsX own ic cls ix rx names, a.before args s = true)
    (hlocs : ∀ x ∈ locs, ∀ cell, s.heap[x.base]? = some cell → cell.vm.isStatics = false)
    {a : Addr} {cX : ClassId} {kX : Class} (hfoundX : s.vm.findClass cls = some cX) (hkX : s.vm.classes[cX]? = some kX) (hcell : W.heap[a]? = some (freshCell cX kX)) (hnew : s.heap.size ≤ a)
    {msg : Value} (hmsg : msg.isRef = true) {g : JFrame} (hg : g.method = m₀) (hsize : g.locals.size = c.maxLocals) (hlocked : g.locked = none) (hentered : g.entered = []) {rest : List Value} (hstack : g.stack = msg :: .ref a :: .ref a :: rest)
    (hd6 : decode c.code g.pc = .ok (.invokespecial ic, 3)) (hd9 : decode c.code (g.pc + 3) = .ok (.athrow, 1)) (hout : ∀ x ∈ c.exceptionTable.toList, covers x (g.pc + 3) = false)
    (hRframes : names.length + 3 < R.frames) (hRlocals : 2 * g.monitorRoom + ((Value.ref a :: rest).map fun v => v.category).sum + (13 * (names.length + 1) + 42) ≤ R.locals) (hlocks : meth.locks = false) :
    ∃ U : State, Steps p.tables e below (W.setTop g) U ∧ U.status = .running ∧ Ended U below (.threw a) ∧ s.WarmedH U.vm ∧ s.sameButNew ({ U with vm := s.vm } : State) locs cells slots ∧
      ∃ ce, U.heap[a]? = some ce ∧ ce.vm = .none ∧ s.vm.findClass cls = some ce.cls := by
  have hpl : e.platform.magicAccessors = ({} : Platform).magicAccessors := by rw [X.admits.platform]
  have aa : ∀ x, x ∈ Jvm.Bundle.ownAtomsX own ic cls ix rx names → x.holds args s none s [] = true := fun x hx => h x hx
  obtain ⟨T, Z0, L, -, Y⟩ := ThrowableC.of_atoms (args := args) (by rw [X.admits.platform] : e.platform.frameOwnsMonitors = true) (by rw [X.admits.platform] : e.platform.finalization = false) hpl (fun x hx => h x (by simp [Jvm.Bundle.ownAtomsX, hx]))
  obtain ⟨Z, M, LZ, LM, hnZ⟩ := Init0T.ofS_atoms (args := args) hpl L Y (fun x hx => h x (by simp [Jvm.Bundle.ownAtomsX, hx]))
  obtain ⟨P1, Ps, hlen, L1, hL, hP1m, hlink1, hlink⟩ := Jvm.Bundle.chainSX (args := args) hpl hnZ x0 x1 x2 x5 names cls hcls hnames (fun x hx => h x (by simp [Jvm.Bundle.ownAtomsX, hx]))
  have hfound : s.vm.findClass cls = some P1.m.cls := findClass_of_methodNamed hP1m
  cases Option.some.inj (hfoundX.symm.trans hfound)
  obtain ⟨c1, kX', hc1, hk, hord, -, -, hn6⟩ := Cond.instantiable_spec (aa (.instantiable cls 6) (by simp [Jvm.Bundle.ownAtomsX]))
  cases Option.some.inj (hc1.symm.trans hfound)
  cases Option.some.inj (hkX.symm.trans hk)
  have hsel0 : selectMethod e.platform s.vm P1.m.cls T.fill0 = .method T.fill0 := by
    obtain ⟨c2, r2, m2, q1, q2, q3, q4, -⟩ := Cond.selects_spec (aa (.selects cls Jvm.Bundle.tFill0 Jvm.Bundle.tFill0) (by simp [Jvm.Bundle.ownAtomsX]))
    cases Option.some.inj (q1.symm.trans hfound)
    cases Option.some.inj (q2.symm.trans (State.methodFound?_of_named Y.fill0 (by decide)))
    cases Option.some.inj (q3.symm.trans Y.fill0)
    rw [Launch.admits_selectMethod X.admits]; exact q4
  have hselF : selectMethod e.platform s.vm P1.m.cls T.fill = .method T.fill := by
    obtain ⟨c2, r2, m2, q1, q2, q3, q4, -⟩ := Cond.selects_spec (aa (.selects cls Jvm.Bundle.tFill Jvm.Bundle.tFill) (by simp [Jvm.Bundle.ownAtomsX]))
    cases Option.some.inj (q1.symm.trans hfound)
    cases Option.some.inj (q2.symm.trans (State.methodFound?_of_named Y.fill (by decide)))
    cases Option.some.inj (q3.symm.trans Y.fill)
    rw [Launch.admits_selectMethod X.admits]; exact q4
  obtain ⟨cellS0, hcS0, hiss⟩ := Y.statics
  obtain ⟨u0, hu0⟩ := Cond.staticRefV Y.unassigned L.unassignedStatic L.statics hcS0 hiss (aa (.isRef (.static Jvm.Bundle.tN "UNASSIGNED_STACK" Jvm.Bundle.steD)) (by simp [Jvm.Bundle.ownAtomsX]))
  obtain ⟨sen, hsen⟩ := Cond.staticRefV Y.sentinel L.sentinelStatic L.statics hcS0 hiss (aa (.isRef (.static Jvm.Bundle.tN "SUPPRESSED_SENTINEL" Jvm.Bundle.listD)) (by simp [Jvm.Bundle.ownAtomsX]))
  obtain ⟨ci198, i198, fB, hk198, hg198, ha198, hsB, -, hnB, htB, hffB⟩ := Cond.ownField (t := .object "java/lang/Object") Y.found L.cls (by decide +kernel) (aa (.fieldLink Jvm.Bundle.tN 198 Jvm.Bundle.tN "backtrace" "Ljava/lang/Object;") (by simp [Jvm.Bundle.ownAtomsX])) (aa (.lays Jvm.Bundle.tN Jvm.Bundle.tN "backtrace" "Ljava/lang/Object;") (by simp [Jvm.Bundle.ownAtomsX])) e.platform hpl
  obtain ⟨cellS, hcS', heS, -, hkeep⟩ := X.same.2.2.2.2.2 T.aS cellS0 hcS0
  have hoff : ∀ i, (⟨T.aS, i⟩ : Loc) ∉ locs := fun i hmem => by
    have := hlocs _ hmem cellS0 hcS0
    rw [hiss] at this; cases this
  have hknownS : cellS.vm ≠ .unknown := by
    rw [heS]; intro hu
    rw [show cellS0.vm = .unknown from hu] at hiss
    cases hiss
  have hneS : T.aS ≠ a := Nat.ne_of_lt (Nat.lt_of_lt_of_le (Array.getElem?_eq_some_iff.mp hcS0).1 hnew)
  obtain ⟨iM, hffM⟩ := Y.msg
  obtain ⟨tyC, dC, hdC, hdnC⟩ := Cond.laysAt hfound hk Y.cause (aa (.lays cls Jvm.Bundle.tN "cause" "Ljava/lang/Throwable;") (by simp [Jvm.Bundle.ownAtomsX]))
  obtain ⟨tyS, dS, hdS, hdnS⟩ := Cond.laysAt hfound hk Y.stack (aa (.lays cls Jvm.Bundle.tN "stackTrace" Jvm.Bundle.steD) (by simp [Jvm.Bundle.ownAtomsX]))
  obtain ⟨tyP, dP, hdP, hdnP⟩ := Cond.laysAt hfound hk Y.supp (aa (.lays cls Jvm.Bundle.tN "suppressedExceptions" Jvm.Bundle.listD) (by simp [Jvm.Bundle.ownAtomsX]))
  obtain ⟨tyM, dM, hdM, hdnM⟩ := Cond.laysAt hfound hk hffM (aa (.lays cls Jvm.Bundle.tN "detailMessage" "Ljava/lang/String;") (by simp [Jvm.Bundle.ownAtomsX]))
  obtain ⟨tyB, dB, hdB, hdnB⟩ := Cond.laysAt hfound hk hffB (aa (.lays cls Jvm.Bundle.tN "backtrace" "Ljava/lang/Object;") (by simp [Jvm.Bundle.ownAtomsX]))
  have bC := Cond.laysApart hdB hdC hdnB hdnC (by rw [hnB, Y.causeName]; decide)
  have bS := Cond.laysApart hdB hdS hdnB hdnS (by rw [hnB, Y.stackName]; decide)
  have bP := Cond.laysApart hdB hdP hdnB hdnP (by rw [hnB, Y.suppName]; decide)
  have hskip : SkipFacts T e.platform s (fun u => u) u0 ((preparedCellV T.toThrowableT (freshCell P1.m.cls kX) a u0 sen).withEntry W.cur) :=
    ⟨{ ci198 := ci198, i198 := i198, fBack := fB }, ⟨hk198, hg198, ha198, hsB⟩, by
      have := fresh_default (c := P1.m.cls) tyB
      rw [htB] at this
      simpa [preparedCellV, Cell.setSlot, Cell.withEntry, Array.getElem?_setIfInBounds, bC, bS, bP, bC.symm, bS.symm, bP.symm, defaultValue] using this, fun _ _ => rfl⟩
  obtain ⟨tm, methC, cdC, kC, vm₁, hnC, -, -, -, -, -, -, -, hW₁, st1⟩ := Steps.initColdS (tb := p.tables) (e := e) (below := below) (s := s) (U := W) X.here hexec X.warmed hpl hown (t := Jvm.Bundle.initS cls) rfl rfl (Jvm.Bundle.fit_spec hcls).2
    (aa (.methodLink own ic (Jvm.Bundle.initS cls)) (by simp [Jvm.Bundle.ownAtomsX])) (h (.instanceMethod (Jvm.Bundle.initS cls)) (by cases names <;> simp [Jvm.Bundle.ownAtomsX, Jvm.Bundle.chainSAtomsX, Jvm.Bundle.passSAtoms])) (bytes := rx) (maxL := 2) (h (.code (Jvm.Bundle.initS cls) rx 2 none) (by cases names <;> simp [Jvm.Bundle.ownAtomsX, Jvm.Bundle.chainSAtomsX, Jvm.Bundle.passSAtoms]))
    (f := g) hg (a := a) (msg := msg) (rest := .ref a :: rest) hstack hd6
  cases Option.some.inj (hnC.symm.trans hP1m)
  obtain ⟨vm₂, X₂, st2⟩ := (X.noted hW₁).ctorMessageOffV hexec (g := { g with stack := .ref a :: rest }) hg hsize T L Z LZ M LM (P1 :: Ps)
    (fun P hP => by rcases List.mem_cons.mp hP with rfl | hP; exact L1; exact hL P hP) ⟨hlink1, hlink⟩ (u0 := u0) (sen := sen) (self := a) hmsg (cell := freshCell P1.m.cls kX) (cellS := cellS)
    hcell (fun _ => by simp) (by simp) rfl rfl hsel0 hselF hcS' hneS hknownS (by rw [hkeep _ (hoff _)]; exact hu0) (by rw [hkeep _ (hoff _)]; exact hsen)
    (Takes.of_laid hk hord tyC (by rw [Y.causeType]; rfl)) (Takes.of_laid hk hord tyS (by rw [Y.stackType]; exact fits_refV_array _ u0)) (Takes.of_laid hk hord tyP (by rw [Y.suppType]; exact fits_refV_object _ sen))
    (Takes.of_laid hk hord tyM (by rw [Y.msgType]; exact fits_refV_object _ ⟨msg, hmsg⟩)) Y.objLocals hskip htr [] hd6
    (by simp only [List.length_cons, hlen]; omega) (by simp only [List.length_cons, hlen]; exact hRlocals)
  obtain ⟨hwalk, hrun, hended, hWU, hsame⟩ := X₂.athrowLeaves hexec (g := { g with stack := .ref a :: rest, pc := g.pc + 3 }) hg hlocked hentered hout (a := a) (rest := rest) rfl hd9
  have hlt : a < ((W.setVm vm₁).setVm vm₂).heap.size := (Array.getElem?_eq_some_iff.mp hcell).1
  have hU := heapAt_setCell_self (s := (W.setVm vm₁).setVm vm₂) (plainBareV T.toThrowableT (freshCell P1.m.cls kX) a u0 sen msg) hlt
  refine ⟨_, st1 _ (fun acts => ?_), hrun, hended, hWU, hsame.weaken (fun y hy hlt' => ?_) (Nat.le_refl _) (Nat.le_refl _), _, hU, rfl, hfound⟩
  · rw [doInvoke_state]
    exact st2 _ hwalk
  · rcases List.mem_append.mp hy with h1 | h1
    · exact h1
    · exfalso
      have hb : y.base = a := by
        simp only [List.mem_cons, List.not_mem_nil, or_false] at h1
        rcases h1 with rfl | rfl | rfl | rfl | rfl <;> rfl
      rw [hb] at hlt'
      exact Nat.not_lt.mpr hnew hlt'
end Off
def pm_xw (own : String) (ik ic : Nat) (cls : String) (ix : Nat) (rx : ByteArray) : List Cond := Cond.classLink own ik cls :: Cond.initialized cls :: (Jvm.Bundle.ownAtomsX own ic cls ix rx pm_nm).filter vx_no
def pm_r7 : ByteArray := ⟨#[0x2a, 0x2b, 0xb7, 0x00, 0x07, 0xb1]⟩
def pm_r13 : ByteArray := ⟨#[0x2a, 0x2b, 0xb7, 0x00, 0x0d, 0xb1]⟩
theorem pm_xw1 : ∀ w ∈ pm_xw "PassagePapers" 364 368 (pm_xn 2) 7 pm_r7, vx_ot w = true ∧ w ∈ lw_tbl ∧ (goodWord w = true ∨ (w.onTables = true ∧ pm_cdw w = true)) := by decide +kernel
theorem pm_xw2 : ∀ w ∈ pm_xw "PassagePapers" 374 378 (pm_xn 1) 13 pm_r13, vx_ot w = true ∧ w ∈ lw_tbl ∧ (goodWord w = true ∨ (w.onTables = true ∧ pm_cdw w = true)) := by decide +kernel
/-- the whole throw, from new to athrow -/
theorem pm_thrW {p : Program} {l : Launch} {e : Env} {R : Room} {s : State} {m : MethodId} {args : Array Value} {below : List Frame} {meth : Method} {c : Code} {H : Heap} {locs : List Loc} {cells slots : Nat} {ls : Array Slot}
    {cc : ByteArray} {pc : Nat} (hexec : p.tables.exec = Jvm.exec) (hb : c.code = cc) (hl : l.stackTraces = false) {own cls text : String} {ik is ic ix sa : Nat} {rx : ByteArray} {A : Nat → Prop}
    (x0 : decode rx 0 = .ok (.aload_n 0, 1)) (x1 : decode rx 1 = .ok (.aload_n 1, 1)) (x2 : decode rx 2 = .ok (.invokespecial ix, 3)) (x5 : decode rx 5 = .ok (.return_, 1))
    (hown : s.vm.findClass own = some m.cls) (hcls : Jvm.Bundle.fit cls = true) (hnames : ∀ n ∈ pm_nm, Jvm.Bundle.fit n = true) (hstr : vk_R own is text sa s)
    (hat : ∀ w ∈ pm_xw own ik ic cls ix rx, w.before args s = true) (hgood : ∀ w ∈ pm_xw own ik ic cls ix rx, vx_ot w = true)
    (hU : vx_Zq Jvm.Bundle.tN "UNASSIGNED_STACK" Jvm.Bundle.steD A s s.heap) (hN : vx_Zq Jvm.Bundle.tN "SUPPRESSED_SENTINEL" Jvm.Bundle.listD A s s.heap) (hS : va_S A s.heap H locs) (hsize : ls.size = c.maxLocals)
    (d0 : decode cc pc = .ok (.new ik, 3)) (d3 : decode cc (pc + 3) = .ok (.dup, 1)) (d4 : decode cc (pc + 4) = .ok (.ldc_w is, 3)) (d7 : decode cc (pc + 7) = .ok (.invokespecial ic, 3)) (d10 : decode cc (pc + 10) = .ok (.athrow, 1))
    (hout : ∀ x ∈ c.exceptionTable.toList, covers x (pc + 10) = false) (hRframes : 5 < R.frames) (hRlocals : 90 ≤ R.locals) (hRcells : cells + 1 ≤ R.cells) (hRslots : slots + 6 ≤ R.slots) (hlocks : meth.locks = false) :
    W p l e R s m args below meth c H locs cells slots (fun t9 => ∃ (q : Addr) (ce : Cell), t9.status = .running ∧ Ended t9 below (.threw q) ∧ t9.heap[q]? = some ce ∧ ce.vm = .none ∧ s.vm.findClass cls = some ce.cls ∧ s.WarmedH t9.vm ∧ s.sameButNew ({ t9 with vm := s.vm } : State) locs (cells + 1) (slots + 6) ∧ H.size ≤ t9.heap.size ∧ ∀ y : Nat, y < H.size → t9.heap[y]? = H[y]?) (F0 m pc ls []) := by
  intro T hT X
  have htr : e.platform.stackTraces = false := (show e.platform.stackTraces = l.stackTraces by rw [X.admits.platform]).trans hl
  have Y := vx_rebase X (R' := { frames := R.frames, locals := R.locals, cells := 1, slots := 6 }) (Nat.le_refl _) (Nat.le_refl _) hRcells hRslots
  obtain ⟨s', hA⟩ : ∃ z, z = (T.setVm s.vm).setFrames (.invoking m args :: below) := ⟨_, rfl⟩
  rw [← hA] at Y
  have hvm : s'.vm = s.vm := by rw [hA]; rfl
  have hhp : s'.heap = H := by rw [hA]; exact hT
  have hW0 : s.WarmedH s'.vm := by rw [hvm]; exact State.WarmedH.refl s
  have hat' : ∀ w ∈ pm_xw own ik ic cls ix rx, w.before args s' = true := fun w hw => vx_ot_at hW0 hvm.symm (hgood w hw) (hat w hw)
  have hU' : vx_Zq Jvm.Bundle.tN "UNASSIGNED_STACK" Jvm.Bundle.steD A s' s'.heap := by rw [hhp]; exact vx_Zq.moved hW0.alike (hU.kept hS.2.1)
  have hN' : vx_Zq Jvm.Bundle.tN "SUPPRESSED_SENTINEL" Jvm.Bundle.listD A s' s'.heap := by rw [hhp]; exact vx_Zq.moved hW0.alike (hN.kept hS.2.1)
  have h : ∀ w ∈ Jvm.Bundle.ownAtomsX own ic cls ix rx pm_nm, w.before args s' = true := vx_own (fun w hw => hat' w (List.mem_cons_of_mem _ (List.mem_cons_of_mem _ hw))) (vx_isRefq hU'.1) (vx_isRefq hN'.1) hU'.2.word hN'.2.word
  have hown' : s'.vm.findClass own = some m.cls := by rw [hvm]; exact hown
  obtain ⟨vm₁, cX, kX, hfX, hkX, -, -, X₁, st1⟩ := Y.newCold hexec (own := own) (C := cls) (index := ik) (n := 6) hown' (hat' _ List.mem_cons_self) (h _ (by simp [Jvm.Bundle.ownAtomsX])) (hat' _ (List.mem_cons_of_mem _ List.mem_cons_self))
    (g := F0 m pc ls []) rfl (by rw [hb]; exact d0) (Nat.le_refl _) (Nat.le_refl _)
  generalize hT1 : (T.setVm vm₁).pushCell { cls := cX, slots := kX.instanceTypes.map defaultValue, vm := .none } = T1 at X₁ st1
  have hcat : (Value.ref T.heap.size).category = 1 := rfl
  have hcellA : T1.heap[T.heap.size]? = some (freshCell cX kX) := by rw [← hT1]; exact State.heap_pushCell_size _ _
  have d3' : decode c.code (pc + 3) = .ok (.dup, 1) := by rw [hb]; exact d3
  have d4' : decode c.code (pc + 4) = .ok (.ldc_w is, 3) := by rw [hb]; exact d4
  have hstr' : vk_R own is text sa s' := vk_R.warm hW0 hstr
  obtain ⟨U, hsteps, hrun, hend, hW, hsame, ce, hce, hO1, hO2⟩ := pm_offX X₁ hexec htr x0 x1 x2 x5 (own := own) (cls := cls) (names := pm_nm) (ic := ic) hown' hcls hnames h (fun x hx => nomatch hx) hfX hkX hcellA (by rw [hhp, hT]; exact Nat.le_refl _) (msg := .ref sa) rfl
    (g := { method := m, pc := pc + 7, locals := ls, stack := .ref sa :: .ref T.heap.size :: .ref T.heap.size :: [], locked := none }) rfl hsize rfl rfl (rest := []) rfl
    (by rw [hb]; exact d7) (by rw [hb]; exact d10) hout hRframes (by simp only [List.map_cons, List.map_nil, List.sum_cons, List.sum_nil, hcat]; show 2 * 0 + (1 + 0) + (13 * (2 + 1) + 42) ≤ R.locals; omega) hlocks
  obtain ⟨f1, f2⟩ := vx_frame hsame
  rw [hhp] at f1 f2
  have hall : s.sameButNew ({ U with vm := s.vm } : State) locs (cells + 1) (slots + 6) := by
    subst hA
    obtain ⟨e1, e2⟩ := hsame
    rw [State.setFrames_setFrames] at e1
    have h2 : (T.setVm s.vm).sameButNew ({ U with vm := s.vm } : State) [] (0 + 1) (0 + 6) := ⟨e1, e2⟩
    have h3 := X.same.trans h2
    rw [List.append_nil] at h3
    exact h3.mono (by omega) (by omega)
  refine ⟨U, ?_, T.heap.size, ce, hrun, hend, hce, hO1, by rw [hvm] at hO2; exact hO2, State.WarmedH.trans hW0 hW, hall, f1, fun q hq => f2 q hq (fun z hz => nomatch hz)⟩
  refine st1 _ ?_
  show Steps p.tables e below (T1.setTop { method := m, pc := pc + 3, locals := ls, stack := .ref T.heap.size :: [], locked := none }) _
  jvm_step X₁.here [X₁.here.top, hexec, d3', Value.category]
  exact X₁.ldcStringW hexec (own := own) (text := text) (index := is) (a := sa) hown' hstr'.1 hstr'.2
    (g := { method := m, pc := pc + 4, locals := ls, stack := .ref T.heap.size :: .ref T.heap.size :: [], locked := none }) rfl d4' _ hsteps
theorem pm_thr {G : pm_G} {X : (Nat → Int32) × Nat} {d m pc t ik is ic ix : Nat} {rx : ByteArray} {L : List Value} {I : Nat → Nat → Int32} {J : Nat → Nat → Int64} {P : Nat → Nat → Value} {T : List (Nat × Nat)} {ex x : Nat} {Q : pm_Q} (hk : pm_k m = 11) (hh : pm_hh m = []) (ht : t = 1 ∨ t = 2) (hct : pm_ct 11 is = some (.retAddr x)) (hfit : Jvm.Bundle.fit (pm_xn t) = true) (hw : ∀ w ∈ pm_xw "PassagePapers" ik ic (pm_xn t) ix rx, vx_ot w = true ∧ w ∈ lw_tbl ∧ (goodWord w = true ∨ (w.onTables = true ∧ pm_cdw w = true)))
    (x0 : decode rx 0 = .ok (.aload_n 0, 1)) (x1 : decode rx 1 = .ok (.aload_n 1, 1)) (x2 : decode rx 2 = .ok (.invokespecial ix, 3)) (x5 : decode rx 5 = .ok (.return_, 1)) (d0 : decode (pm_by m) pc = .ok (.new ik, 3)) (d3 : decode (pm_by m) (pc + 3) = .ok (.dup, 1)) (d4 : decode (pm_by m) (pc + 4) = .ok (.ldc_w is, 3)) (d7 : decode (pm_by m) (pc + 7) = .ok (.invokespecial ic, 3)) (d10 : decode (pm_by m) (pc + 10) = .ok (.athrow, 1)) (he : ex < 100000) (hQ : Q (.inr t) (I, J, P, T, ex + 1)) : pm_B G X d m pc L [] (I, J, P, T, ex) Q := by
  intro p l e R s mid args below meth c H locs cells slots ls C1 C2 hE hm h1 h2 h3 h4 h5 h6 h7 h8 h9 h10 h11
  have hown := hm.2.2.2.2.2.1
  rw [hk] at hown
  have hwb : ∀ w ∈ pm_xw "PassagePapers" ik ic (pm_xn t) ix rx, w.before args s = true := fun w hw' => by
    rcases (hw w hw').2.2 with h | h
    · exact pm_E_w hE (hw w hw').2.1 h
    · exact va_Nw.use h.1 (hE.2.2.2.2.1 _ (hw w hw').2.1 h.2)
  obtain ⟨tx, hR⟩ := hE.2.2.2.2.2.2.2.2.2.1 _ _ _ hct
  have hcap : 1 + pm_cap (I, J, P, T, ex + 1) ≤ pm_cap (I, J, P, T, ex) := by unfold pm_cap; dsimp only; omega
  have hcas : 6 + pm_cas (I, J, P, T, ex + 1) ≤ pm_cas (I, J, P, T, ex) := by unfold pm_cas; dsimp only; omega
  intro U hU Y
  have hsz : s.heap.size ≤ H.size := by
    have : s.heap.size ≤ U.heap.size := Y.same.2.1
    rw [hU] at this
    exact this
  have hS : va_S (pm_A G) s.heap H locs := ⟨hsz, fun q g1 g2 => by
    have hq : q < (pm_h0 G).size := by
      rw [pm_E_sz hE]
      exact Nat.lt_of_not_le g2
    rw [h9.2.2.1 q hq g2, h11.2.1 q hq g2], h9.2.2.2⟩
  have hZ1 := vx_Zq.kept hE.2.2.2.2.2.2.2.2.2.2.2.2.2.2.1 (fun a h1 h2 => h11.2.1 a h1 h2)
  have hZ2 := vx_Zq.kept hE.2.2.2.2.2.2.2.2.2.2.2.2.2.2.2.1 (fun a h1 h2 => h11.2.1 a h1 h2)
  have hout : ∀ x ∈ c.exceptionTable.toList, covers x (pc + 10) = false := fun x hx => by
    have hx' : (x.startPc, x.endPc, x.handlerPc, x.catchType) ∈ pm_hh m := by
      rw [← hm.2.2.2.2.1]
      exact List.mem_map.mpr ⟨x, hx, rfl⟩
    rw [hh] at hx'
    cases hx'
  obtain ⟨t9, a1, q, ce, b1, b2, hce, hcv, hcc, hW, hsm, g1, g2⟩ := pm_thrW (pm_E_x hE) hm.1 (pm_E_tr hE) x0 x1 x2 x5 hown hfit (by decide +kernel) hR hwb (fun w h => (hw w h).1) hZ1 hZ2 hS (h8.1.trans hm.2.1.symm) d0 d3 d4 d7 d10 hout (by omega) (by omega) (by omega) (by omega) hm.2.2.2.1 U hU Y
  refine ⟨t9, a1, .inr t, (I, J, P, T, ex + 1), .threw q, locs, cells + 1, slots + 6, b1, b2, ⟨ht, q, ce, rfl, hce, hcv, hcc⟩, hW, hsm, ⟨?_, Nat.le_trans h9.2.1 g1, fun q g3 g4 => ?_, h9.2.2.2⟩, fun z => absurd z (Nat.succ_ne_zero _), by omega, by omega, hQ⟩
  · exact (h9.1.kept (fun k x hx => g2 x.1 (h9.1 k x hx).lt) :)
  · rw [g2 q (Nat.lt_of_lt_of_le g3 h9.2.1)]
    exact h9.2.2.1 q g3 g4
theorem pc_throw (G : pm_G) (X : (Nat → Int32) × Nat) (d m pc t ik is ic : Nat) (L : List Value) (I : Nat → Nat → Int32) (J : Nat → Nat → Int64) (P : Nat → Nat → Value) (T : List (Nat × Nat)) (e : Nat) (Q : pm_Q) (h : pm_tw m pc = some (t, ik, is, ic)) (he : e < 100000) (hQ : Q (.inr t) (I, J, P, T, e + 1)) : pm_B G X d m pc L [] (I, J, P, T, e) Q := by
  have h1 := pm_look h
  unfold pm_twl at h1
  simp only [List.mem_cons, List.not_mem_nil, or_false, Prod.mk.injEq] at h1
  rcases h1 with ⟨⟨rfl, rfl⟩, rfl, rfl, rfl, rfl⟩ | ⟨⟨rfl, rfl⟩, rfl, rfl, rfl, rfl⟩ | ⟨⟨rfl, rfl⟩, rfl, rfl, rfl, rfl⟩
  · exact pm_thr (x := 2) (is := 366) (ik := 364) (ic := 368) (by decide +kernel) (by decide +kernel) (by decide) (by decide +kernel) (by decide +kernel) pm_xw1 (by decide +kernel) (by decide +kernel) (by decide +kernel) (by decide +kernel) (by decide +kernel) (by decide +kernel) (by decide +kernel) (by decide +kernel) (by decide +kernel) he hQ
  · exact pm_thr (x := 50) (is := 376) (ik := 374) (ic := 378) (by decide +kernel) (by decide +kernel) (by decide) (by decide +kernel) (by decide +kernel) pm_xw2 (by decide +kernel) (by decide +kernel) (by decide +kernel) (by decide +kernel) (by decide +kernel) (by decide +kernel) (by decide +kernel) (by decide +kernel) (by decide +kernel) he hQ
  · exact pm_thr (x := 52) (is := 382) (ik := 374) (ic := 378) (by decide +kernel) (by decide +kernel) (by decide) (by decide +kernel) (by decide +kernel) pm_xw2 (by decide +kernel) (by decide +kernel) (by decide +kernel) (by decide +kernel) (by decide +kernel) (by decide +kernel) (by decide +kernel) (by decide +kernel) (by decide +kernel) he hQ

theorem ps_all (G : pm_G) (X : (Nat → Int32) × Nat) (ins : Instr) : pm_Ok G X ins := by
  cases ins
  case iadd => exact ps_iadd G X
  case isub => exact ps_isub G X
  case imul => exact ps_imul G X
  case iand => exact ps_iand G X
  case ior => exact ps_ior G X
  case ishl => exact ps_ishl G X
  case ishr => exact ps_ishr G X
  case iushr => exact ps_iushr G X
  case idiv => exact ps_idiv G X
  case irem => exact ps_irem G X
  case ladd => exact ps_ladd G X
  case lsub => exact ps_lsub G X
  case lmul => exact ps_lmul G X
  case land => exact ps_land G X
  case ldiv => exact ps_ldiv G X
  case lrem => exact ps_lrem G X
  case lshl => exact ps_lshl G X
  case lshr => exact ps_lshr G X
  case lcmp => exact ps_lcmp G X
  case lneg => exact ps_lneg G X
  case i2l => exact ps_i2l G X
  case l2i => exact ps_l2i G X
  case i2c => exact ps_i2c G X
  case dup => exact ps_dup G X
  case dup2 => exact ps_dup2 G X
  case pop => exact ps_pop G X
  case iaload => exact ps_iaload G X
  case baload => exact ps_baload G X
  case laload => exact ps_laload G X
  case aaload => exact ps_aaload G X
  case iastore => exact ps_iastore G X
  case bastore => exact ps_bastore G X
  case lastore => exact ps_lastore G X
  case arraylength => exact ps_arraylength G X
  case aload_n i => exact ps_aload_n G X i
  case aload i => exact ps_aload G X i
  case iload_n i => exact ps_iload_n G X i
  case iload i => exact ps_iload G X i
  case lload_n i => exact ps_lload_n G X i
  case lload i => exact ps_lload G X i
  case istore_n i => exact ps_istore_n G X i
  case istore i => exact ps_istore G X i
  case lstore_n i => exact ps_lstore_n G X i
  case lstore i => exact ps_lstore G X i
  case astore_n i => exact ps_astore_n G X i
  case astore i => exact ps_astore G X i
  case iconst i => exact ps_iconst G X i
  case bipush i => exact ps_bipush G X i
  case sipush i => exact ps_sipush G X i
  case lconst i => exact ps_lconst G X i
  case ldc i => exact ps_ldc G X i
  case ldc_w i => exact ps_ldc_w G X i
  case ldc2_w i => exact ps_ldc2_w G X i
  case goto i => exact ps_goto G X i
  case getfield i => exact ps_getfield G X i
  case putfield i => exact ps_putfield G X i
  case new i => exact ps_new G X i
  case invokespecial i => exact ps_invokespecial G X i
  case invokestatic i => exact ps_invokestatic G X i
  case getstatic i => exact ps_getstatic G X i
  case iinc i k => exact ps_iinc G X i k
  case ifCond cd off =>
    cases cd
    · exact ps_ifCond_eq G X off
    · exact ps_ifCond_ne G X off
    · exact ps_ifCond_lt G X off
    · exact ps_ifCond_ge G X off
    · exact ps_ifCond_gt G X off
    · exact ps_ifCond_le G X off
  case if_icmp cd off =>
    cases cd
    · exact ps_if_icmp_eq G X off
    · exact ps_if_icmp_ne G X off
    · exact ps_if_icmp_lt G X off
    · exact ps_if_icmp_ge G X off
    · exact ps_if_icmp_gt G X off
    · exact ps_if_icmp_le G X off
  case tableswitch df lo hi offs => exact ps_tableswitch G X df lo hi offs
  case lookupswitch df prs => exact ps_lookupswitch G X df prs
  case newarray ty =>
    cases ty
    case int => exact ps_newarray_int G X
    case long => exact ps_newarray_long G X
    case boolean => exact ps_newarray_boolean G X
    all_goals
      intro d m pc L S μ Q n pc' L' S' μ' hc hs K
      simp [pm_step] at hs
  case multianewarray i dims =>
    by_cases hd : dims = 2
    · subst hd
      exact ps_multianewarray G X i
    · intro d m pc L S μ Q n pc' L' S' μ' hc hs K
      simp [pm_step, hd] at hs
  all_goals
    intro d m pc L S μ Q n pc' L' S' μ' hc hs K
    simp [pm_step] at hs
/-- the rules hold on every JVM that stands so -/
theorem pm_sound (G : pm_G) (X : (Nat → Int32) × Nat) : pm_C X (pm_B G X) :=
  ⟨fun d m pc L S μ Q ins n pc' L' S' μ' hc hs K => ps_all G X ins d m pc L S μ Q n pc' L' S' μ' hc hs K,
   fun d m pc L S μ Q Q1 ins n i kd m' na nest as S' hc hiv htg hS hlen hrc hS' hdb hel Kc Kr Kt => pc_call G X d m pc L S μ Q Q1 ins n i kd m' na nest as S' hc hiv htg hS hlen hrc hS' hdb hel Kc Kr Kt,
   fun d m pc n L v μ Q ins hc hri hrv hQ => pc_ret G X d m pc n L v μ Q ins hc hri hrv hQ,
   fun d m pc n L μ Q hc hrt hQ => pc_retv G X d m pc n L μ Q hc hrt hQ,
   fun d m pc t ik is ic L I J P T e Q h he hQ => pc_throw G X d m pc t ik is ic L I J P T e Q h he hQ,
   fun d m pc L S μ Q Q' hw K p l e R s mid args below meth c H locs cells slots ls C1 C2 hE hm h1 h2 h3 h4 h5 h6 h7 h8 h9 h10 h11 U hU Y => by
    obtain ⟨t, a1, r, μ', o, L1, k1, n1, b1, b2, b3, b4, b5, b6, b7, b8, b9, hQ⟩ := K p l e R s mid args below meth c H locs cells slots ls C1 C2 hE hm h1 h2 h3 h4 h5 h6 h7 h8 h9 h10 h11 U hU Y
    exact ⟨t, a1, r, μ', o, L1, k1, n1, b1, b2, b3, b4, b5, b6, b7, b8, b9, hw r μ' hQ⟩⟩
theorem pm_run {G : pm_G} {X : (Nat → Int32) × Nat} {d m pc : Nat} {L S : List Value} {μ : pm_M} {Q : pm_Q} (h : pm_Ex X d m pc L S μ Q) : pm_B G X d m pc L S μ Q := h _ (pm_sound G X)
